/-! how the two states go together -/
def pt_A (hf hp ck : Bool) (fb tn on : Nat) (t : Nat → Nat) : Prop := tn ≤ 250 ∧ (∀ j, t j < 256) ∧ on ≤ 448 ∧ fb ≤ 16 ∧ (hf = false → hp = false) ∧ (ck = true → hp = true)
def pt_B (hp op mcl : Bool) (fb cn : Nat) (fz fs : Nat → Nat) (fl : Nat → Int32) (sn : Nat) (dl : Nat → Bool) (nu : Nat → Nat) (ad : Nat → Bool) : Prop :=
  pt_sti fb cn fz fs fl sn dl nu ∧ sn ≤ 16 ∧ (hp = true → mcl = !op ∧ pt_end cn fz sn op dl nu) ∧ (∀ i, 1 ≤ i → i ≤ sn → ad i = !dl i) ∧ (hp = false → sn = 0)
def pt_C (ck op : Bool) (fb cn g ma : Nat) (ft fc : Nat → Nat) (fr : Nat → Int32) (kb : Nat → Bool) (hc : Nat → Nat) (hh : Nat → Int32) : Prop :=
  (∀ j, 1 ≤ j → j ≤ 32 → ft j + fc j ≤ 2048) ∧ (∀ j, hc j ≤ 400) ∧ (ck = false → ma = 0 ∧ ∀ j, 1 ≤ j → j ≤ 32 → fc j = 0) ∧ (ck = true → op = false ∧ pt_mi cn ma ∧ (∀ j, 1 ≤ j → j ≤ cn → kb j = ma.testBit j) ∧ pt_hr cn fb g ft fc fr hc hh ∧ g ≤ 2048)
section REL
variable {hf hp ck op mcl : Bool} {fb cn sn g ma tn on : Nat} {t ft fc fz fs nu hc : Nat → Nat} {fr hh fl : Nat → Int32} {dl ad kb : Nat → Bool}
theorem rl_cn (hA : pt_A hf hp ck fb tn on t) (hB : pt_B hp op mcl fb cn fz fs fl sn dl nu ad) : cn ≤ 32 := by
  have h1 := hA.2.2.2.1
  have h2 := hB.1.2.2.2.1
  have h3 := hB.2.1
  omega
theorem rl_ma (hC : pt_C ck op fb cn g ma ft fc fr kb hc hh) (hcn : cn ≤ 32) : ma < 2 ^ 33 ∧ ma.testBit 0 = false := by
  cases hk : ck with
  | false => rw [(hC.2.2.1 hk).1]; exact ⟨by decide, Nat.zero_testBit 0⟩
  | true =>
    have hm := (hC.2.2.2 hk).2.1
    refine ⟨mi_lt hm hcn, ?_⟩
    cases hq : ma.testBit 0 with
    | false => rfl
    | true => have := hm 0 hq; omega
theorem rl_marked (hC : pt_C ck op fb cn g ma ft fc fr kb hc hh) (x : Nat) : (decide (1 ≤ x ∧ x ≤ cn) && ma.testBit x) = (ck && decide (1 ≤ x ∧ x ≤ cn) && kb x) := by
  cases hk : ck with
  | false => rw [(hC.2.2.1 hk).1, Nat.zero_testBit, Bool.and_false]; rfl
  | true =>
    by_cases hx : 1 ≤ x ∧ x ≤ cn
    · rw [(hC.2.2.2 hk).2.2.1 x hx.1 hx.2]; rfl
    · rw [decide_eq_false hx]; rfl
theorem rl_hc (hC : pt_C ck op fb cn g ma ft fc fr kb hc hh) (hcn : cn ≤ 32) (x : Nat) : pt_hc fc x = if ck = true ∧ 1 ≤ x ∧ x ≤ cn then hc x else 0 := by
  cases hk : ck with
  | false =>
    rw [if_neg (fun q => absurd q.1 (by decide))]
    unfold pt_hc
    by_cases hx : 1 ≤ x ∧ x ≤ 32
    · rw [if_pos hx, (hC.2.2.1 hk).2 x hx.1 hx.2]
    · rw [if_neg hx]
  | true =>
    obtain ⟨-, -, -, hr, -⟩ := hC.2.2.2 hk
    by_cases hx : 1 ≤ x ∧ x ≤ cn
    · rw [if_pos ⟨rfl, hx⟩]
      unfold pt_hc
      rw [if_pos ⟨hx.1, by omega⟩]
      exact hr.1 x hx.1 (by omega)
    · rw [if_neg (fun q => hx q.2)]
      exact hr_no hr x (fun q => hx ⟨by omega, q.2⟩)
theorem rl_hint (hC : pt_C ck op fb cn g ma ft fc fr kb hc hh) (hcn : cn ≤ 32) (x k : Nat) (P : Prop) [Decidable P] : (if P then 0 else pt_hv ft fc fr x k) = if (ck = true ∧ 1 ≤ x ∧ x ≤ cn) ∧ ¬ P ∧ k < hc x then hh (400 * (x - fb - 1) + k) else 0 := by
  by_cases hP : P
  · rw [if_pos hP, if_neg (fun q => q.2.1 hP)]
  · rw [if_neg hP]
    unfold pt_hv
    rw [rl_hc hC hcn x]
    by_cases hx : ck = true ∧ 1 ≤ x ∧ x ≤ cn
    · rw [if_pos hx]
      by_cases hk : k < hc x
      · rw [if_pos hk, if_pos ⟨hx, hP, hk⟩]
        obtain ⟨-, -, -, hr, -⟩ := hC.2.2.2 hx.1
        have he := hr.1 x hx.2.1 (by omega)
        exact (hr.2.1 x hx.2.1 (by omega) (by omega)).2.2.2.2 k (by omega)
      · rw [if_neg hk, if_neg (fun q => hk q.2.2)]
    · rw [if_neg hx, if_neg (Nat.not_lt_zero k), if_neg (fun q => hx q.1)]
theorem rl_poke (hC : pt_C ck op fb cn g ma ft fc fr kb hc hh) (hcn : cn ≤ 32) (x k : Nat) (z : Int32) (P : Prop) [Decidable P] : decide (¬ P ∧ k < pt_hc fc x) = decide ((ck = true ∧ 1 ≤ x ∧ x ≤ cn) ∧ ¬ P ∧ k < hc x) ∧
    pt_C ck op fb cn g ma ft fc (if ¬ P ∧ k < pt_hc fc x then upd fr (ft x + k) z else fr) kb hc (if (ck = true ∧ 1 ≤ x ∧ x ≤ cn) ∧ ¬ P ∧ k < hc x then upd hh (400 * (x - fb - 1) + k) z else hh) := by
  have hiff : (¬ P ∧ k < pt_hc fc x) ↔ ((ck = true ∧ 1 ≤ x ∧ x ≤ cn) ∧ ¬ P ∧ k < hc x) := by
    rw [rl_hc hC hcn x]
    by_cases hx : ck = true ∧ 1 ≤ x ∧ x ≤ cn
    · rw [if_pos hx]; exact ⟨fun q => ⟨hx, q⟩, fun q => q.2⟩
    · rw [if_neg hx]; exact ⟨fun q => absurd q.2 (Nat.not_lt_zero k), fun q => absurd q.1 hx⟩
  refine ⟨decide_eq_decide.mpr hiff, ?_⟩
  by_cases hQ : ¬ P ∧ k < pt_hc fc x
  · rw [if_pos hQ, if_pos (hiff.mp hQ)]
    obtain ⟨c1, c2, c3, c4⟩ := hC
    refine ⟨c1, c2, c3, fun hk => ?_⟩
    obtain ⟨d1, d2, d3, d4, d5⟩ := c4 hk
    have hx := (hiff.mp hQ).1
    have he := d4.1 x hx.2.1 (by omega)
    refine ⟨d1, d2, d3, hr_poke d4 hx.2.1 (by omega) (by have := (hiff.mp hQ).2.2; omega), d5⟩
  · rw [if_neg hQ, if_neg (fun q => hQ (hiff.mpr q))]; exact hC
end REL
theorem gb_ft {fs fz pb : Nat → Nat} {cn : Nat} {dl : Nat → Bool} {nu : Nat → Nat} {B : Nat} : ∀ (k lv ma g : Nat) (ft fc : Nat → Nat) (fr : Nat → Int32) (n t f : Nat) (rs im : Nat → Nat), (∀ j, 1 ≤ j → j ≤ 32 → ft j ≤ B) → (pt_gb fs fz pb cn dl nu k lv ma g ft fc fr n t f rs im).2.2.2.1 ≤ B → ∀ j, 1 ≤ j → j ≤ 32 → (pt_gb fs fz pb cn dl nu k lv ma g ft fc fr n t f rs im).2.2.2.2.1 j ≤ B := by
  intro k
  induction k with
  | zero => intro lv ma g ft fc fr n t f rs im h _; exact h
  | succ k ih =>
    intro lv ma g ft fc fr n t f rs im h hB
    have up : ∀ (c x : Nat), x ≤ B → ∀ j, 1 ≤ j → j ≤ 32 → va_up ft c x j ≤ B := by
      intro c x hx j a b
      unfold va_up
      split
      · exact hx
      · exact h j a b
    rw [pt_gb] at hB ⊢
    by_cases h1 : dl (k + 1) = true
    · rw [if_pos h1] at hB ⊢; exact ih _ _ _ _ _ _ _ _ _ _ _ h hB
    · rw [if_neg h1] at hB ⊢
      by_cases h2 : ma.testBit (nu (k + 1)) = false
      · rw [if_pos h2] at hB ⊢; exact ih _ _ _ _ _ _ _ _ _ _ _ h hB
      · rw [if_neg h2] at hB ⊢
        dsimp only at hB ⊢
        generalize pt_right fs (nb_d lv (2 ^ nu (k + 1))) ma cn (fz (nu (k + 1))) (pb (nu (k + 1))) (fs (nu (k + 1))) rs im = Z at hB ⊢
        by_cases h3 : Z.1 = true
        · rw [if_pos h3] at hB ⊢
          have hg := gb_len (fs := fs) (fz := fz) (pb := pb) (cn := cn) (dl := dl) (nu := nu) k (nb_d lv (2 ^ nu (k + 1))) Z.2.1 (g + Z.2.2.1.length) (va_up ft (nu (k + 1)) g) (va_up fc (nu (k + 1)) (fc (nu (k + 1)) + Z.2.2.1.length)) (pt_put fr g Z.2.2.1) Z.2.2.2.1 Z.2.2.2.2.1 Z.2.2.2.2.2.1 Z.2.2.2.2.2.2.1 Z.2.2.2.2.2.2.2
          exact ih _ _ _ _ _ _ _ _ _ _ _ (up _ _ (by omega)) hB
        · rw [if_neg h3] at hB ⊢
          have hB2 : g + Z.2.2.1.length ≤ B := hB
          exact up _ _ (by omega)
theorem rl_sti0 {fb : Nat} {fz fs : Nat → Nat} {fl : Nat → Int32} {dl : Nat → Bool} {nu : Nat → Nat} (h1 : pt_rk fb fz fs fl) (h2 : ∀ j, fs j < 65536) (h3 : ∀ a, nu a ≤ 32) : pt_sti fb fb fz fs fl 0 dl nu :=
  ⟨h1, h2, Nat.le_refl _, Nat.le_refl _, fun a a1 a2 => by omega, fun a b a1 a2 a3 => by omega, fun a a1 a2 => by omega, h3⟩
theorem rl_end0 {n : Nat} {fz : Nat → Nat} {dl : Nat → Bool} {nu : Nat → Nat} : pt_end n fz 0 true dl nu := fun q => absurd q (by decide)
