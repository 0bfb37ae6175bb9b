/-! how many hints there can be -/
/-- how many of 1 .. k have a property -/
def pt_cq (P : Nat → Bool) : Nat → Nat
  | 0 => 0
  | k + 1 => pt_cq P k + (if P (k + 1) = true then 1 else 0)
theorem cq_rem {P : Nat → Bool} {x : Nat} (hx : 1 ≤ x) (hp : P x = true) : ∀ k, pt_cq (fun j => P j && decide (¬ j = x)) k + (if x ≤ k then 1 else 0) = pt_cq P k := by
  intro k
  induction k with
  | zero => rw [if_neg (by omega)]; rfl
  | succ k ih =>
    rw [pt_cq, pt_cq]
    by_cases h : k + 1 = x
    · subst h
      rw [if_neg (by omega)] at ih
      rw [if_pos (Nat.le_refl _), hp]
      simp only [not_true_eq_false, decide_false, Bool.and_false, Bool.false_eq_true, if_false, if_true]
      omega
    · have e : (P (k + 1) && decide (¬ k + 1 = x)) = P (k + 1) := by rw [decide_eq_true h, Bool.and_true]
      rw [e]
      by_cases h2 : x ≤ k
      · have e2 : (if x ≤ k + 1 then 1 else 0) = 1 := if_pos (by omega)
        rw [if_pos h2] at ih; rw [e2]; omega
      · have e2 : (if x ≤ k + 1 then 1 else 0) = 0 := if_neg (by omega)
        rw [if_neg h2] at ih; rw [e2]; omega
theorem cq_pig {cn : Nat} : ∀ (n : Nat) (P : Nat → Bool) (r : Nat → Nat), (∀ i, i < n → 1 ≤ r i ∧ r i ≤ cn ∧ P (r i) = true) → (∀ i j, i < j → j < n → ¬ r i = r j) → n ≤ pt_cq P cn := by
  intro n
  induction n with
  | zero => intro P r _ _; exact Nat.zero_le _
  | succ n ih =>
    intro P r h1 h2
    obtain ⟨a, b, d⟩ := h1 n (by omega)
    have h3 := cq_rem a d cn
    rw [if_pos b] at h3
    have h4 := ih (fun j => P j && decide (¬ j = r n)) r (fun i hi => by
      obtain ⟨a1, b1, d1⟩ := h1 i (by omega)
      refine ⟨a1, b1, ?_⟩
      show (P (r i) && decide (¬ r i = r n)) = true
      rw [d1, decide_eq_true (h2 i n hi (by omega))]; rfl) (fun i j hij hj => h2 i j hij (by omega))
    omega
theorem cq_split (P Q : Nat → Bool) : ∀ k, pt_cq (fun j => P j && Q j) k + pt_cq (fun j => P j && !Q j) k = pt_cq P k := by
  intro k
  induction k with
  | zero => rfl
  | succ k ih =>
    rw [pt_cq, pt_cq, pt_cq]
    cases P (k + 1) <;> cases Q (k + 1) <;> simp <;> omega
theorem cq_le {P : Nat → Bool} {m : Nat} : ∀ k, (∀ j, 1 ≤ j → j ≤ k → P j = true → j ≤ m) → pt_cq P k ≤ m := by
  have h0 : ∀ k, pt_cq P k ≤ k := by
    intro k
    induction k with
    | zero => exact Nat.le_refl _
    | succ k ih => rw [pt_cq]; split <;> omega
  intro k
  induction k with
  | zero => intro _; exact Nat.zero_le _
  | succ k ih =>
    intro h
    rw [pt_cq]
    split
    · rename_i hp
      have := h (k + 1) (by omega) (Nat.le_refl _) hp
      have := h0 k
      omega
    · have := ih (fun j a b d => h j a (by omega) d)
      omega
theorem and_bit {x t b : Nat} (h : x &&& t = 0) (ht : t.testBit b = true) : x.testBit b = false := by
  have h1 : (x &&& t).testBit b = false := by rw [h]; exact Nat.zero_testBit b
  rw [Nat.testBit_and, ht, Bool.and_true] at h1
  exact h1
/-- reasons and conflict are live, and have no literal that was true from the start -/
theorem prop_np {fs : Nat → Nat} {lv mk cn pb : Nat} : ∀ (k n t f : Nat) (rs im : Nat → Nat), t.testBit pb = true →
    (∀ i, i < n → 1 ≤ rs i ∧ rs i ≤ cn ∧ lv.testBit (rs i) = true ∧ (fs (rs i)).testBit pb = false) →
    (∀ i, i < (pt_prop fs lv mk cn k n t f rs im).2.1 → 1 ≤ (pt_prop fs lv mk cn k n t f rs im).2.2.2.2.1 i ∧ (pt_prop fs lv mk cn k n t f rs im).2.2.2.2.1 i ≤ cn ∧ lv.testBit ((pt_prop fs lv mk cn k n t f rs im).2.2.2.2.1 i) = true ∧ (fs ((pt_prop fs lv mk cn k n t f rs im).2.2.2.2.1 i)).testBit pb = false) ∧
    (¬ (pt_prop fs lv mk cn k n t f rs im).1 = 0 → 1 ≤ (pt_prop fs lv mk cn k n t f rs im).1 ∧ (pt_prop fs lv mk cn k n t f rs im).1 ≤ cn ∧ lv.testBit (pt_prop fs lv mk cn k n t f rs im).1 = true ∧ (fs (pt_prop fs lv mk cn k n t f rs im).1).testBit pb = false) := by
  intro k
  induction k with
  | zero => intro n t f rs im ht h; exact ⟨h, fun q => absurd rfl q⟩
  | succ k ih =>
    intro n t f rs im ht h
    have hni := next_in fs lv mk cn t f
    rw [pt_prop]
    generalize pt_next fs lv mk cn t f = ce at hni ⊢
    by_cases h0 : ce = 0
    · rw [if_pos h0]; exact ⟨h, fun q => absurd rfl q⟩
    · obtain ⟨h1, h2, h3, h4⟩ := hni.resolve_left h0
      have h5 : (fs ce).testBit pb = false := by
        unfold pt_rdy at h4
        rw [Bool.and_eq_true] at h4
        exact and_bit (of_decide_eq_true h4.1) ht
      rw [if_neg h0]
      by_cases hy : nb_d (fs ce) f = 0
      · rw [if_pos hy]; exact ⟨h, fun _ => ⟨h1, h2, h3, h5⟩⟩
      · rw [if_neg hy]
        refine ih _ _ _ _ _ (by rw [Nat.testBit_or, ht]; rfl) (fun i hi => ?_)
        by_cases hin : i = n
        · subst hin; rw [va_up_self]; exact ⟨h1, h2, h3, h5⟩
        · rw [va_up_ne _ _ hin]; exact h i (by omega)
theorem prop_fr {fs : Nat → Nat} {lv mk cn : Nat} (h16 : ∀ j, fs j < 65536) : ∀ (k n t f : Nat) (rs im : Nat → Nat), pt_cap n t f → (pt_prop fs lv mk cn k n t f rs im).2.1 + pt_free (pt_prop fs lv mk cn k n t f rs im).2.2.1 ≤ n + pt_free t := by
  intro k
  induction k with
  | zero => intro n t f rs im h; exact Nat.le_refl _
  | succ k ih =>
    intro n t f rs im h
    have hni := next_in fs lv mk cn t f
    rw [pt_prop]
    generalize pt_next fs lv mk cn t f = ce at hni ⊢
    by_cases h0 : ce = 0
    · rw [if_pos h0]; exact Nat.le_refl _
    · obtain ⟨h1, h2, h3, h4⟩ := hni.resolve_left h0
      rw [if_neg h0]
      by_cases hy : nb_d (fs ce) f = 0
      · rw [if_pos hy]; exact Nat.le_refl _
      · rw [if_neg hy]
        obtain ⟨hn8, hy16, hcap2⟩ := cap_step h (h16 ce) h4 hy
        have h6 := cap_free h (h16 ce) h4 hy
        have h7 := ih (n + 1) _ _ (va_up rs n ce) (va_up im n (nb_d (fs ce) f)) hcap2
        omega
theorem free_7 {t b : Nat} (hb : b < 16) (h : t.testBit b = true) : pt_free t ≤ 7 := by
  have h1 : 2 ^ b ||| t = t := by
    apply Nat.eq_of_testBit_eq
    intro i
    rw [Nat.testBit_or, Nat.testBit_two_pow]
    by_cases hi : b = i
    · subst hi; rw [h]; simp
    · rw [decide_eq_false hi]; rfl
  have h2 := free_mono (2 ^ b) t
  rw [h1] at h2
  have h3 : ∀ b, b < 16 → pt_free (2 ^ b) ≤ 7 := by decide +kernel
  exact Nat.le_trans h2 (h3 b hb)
theorem rl_le {rs : Nat → Nat} : ∀ k, (pt_rl rs k).length = k := by
  intro k
  induction k with
  | zero => rfl
  | succ k ih => rw [pt_rl, List.length_append, ih]; rfl
/-- how many partners from p on -/
def pt_pc (fs : Nat → Nat) (lv pv : Nat) : Nat → Nat → Nat
  | 0, _ => 0
  | k + 1, p => (if lv.testBit p = false ∨ fs p &&& pv = 0 then 0 else 1) + pt_pc fs lv pv k (p + 1)
theorem and_pow {x b : Nat} : x &&& 2 ^ b = 0 ↔ x.testBit b = false := by
  constructor
  · intro h; exact and_bit h Nat.testBit_two_pow_self
  · intro h
    apply Nat.eq_of_testBit_eq
    intro i
    rw [Nat.testBit_and, Nat.testBit_two_pow, Nat.zero_testBit]
    by_cases hi : b = i
    · subst hi; rw [h]; rfl
    · rw [decide_eq_false hi, Bool.and_false]
theorem sp_bound {fs : Nat → Nat} {lv mk cn pb rc n0 N : Nat} (h16 : ∀ j, fs j < 65536) (hN : N = pt_cq (fun j => lv.testBit j && !(fs j).testBit pb) cn) (hrc : rc.testBit pb = true) (hr16 : rc < 65536) (hn7 : n0 + pt_free rc ≤ 7) (hnN : n0 ≤ N) :
    ∀ (k p u : Nat) (L : List Int32) (n t f : Nat) (rs im : Nat → Nat), pt_ok2 fs cn n0 rc rs im → (∀ i, i < n0 → 1 ≤ rs i ∧ rs i ≤ cn ∧ lv.testBit (rs i) = true ∧ (fs (rs i)).testBit pb = false) →
    (pt_sp fs lv mk cn (2 ^ pb) rc n0 k p u L n t f rs im).2.2.1.length ≤ L.length + pt_pc fs lv (2 ^ pb) k p * (1 + min 8 N - n0) := by
  intro k
  induction k with
  | zero => intro p u L n t f rs im _ _; exact Nat.le_add_right _ _
  | succ k ih =>
    intro p u L n t f rs im hok hq
    have hn8 : n0 ≤ min 8 N := Nat.le_min.mpr ⟨by omega, hnN⟩
    rw [pt_sp, pt_pc]
    by_cases h1 : lv.testBit p = false ∨ fs p &&& 2 ^ pb = 0
    · rw [if_pos h1, if_pos h1, Nat.zero_add]
      exact ih _ _ _ _ _ _ _ _ hok hq
    · rw [if_neg h1, if_neg h1, Nat.add_mul, Nat.one_mul]
      by_cases h2 : nb_d (fs p) (2 ^ pb) &&& rc = 0
      · rw [if_neg (fun q => q h2)]
        dsimp only
        have hd16 : nb_op (nb_d (fs p) (2 ^ pb)) < 65536 := nb_op_lt (nb_d_lt (n := 16) (h16 p))
        have ht16 : rc ||| nb_op (nb_d (fs p) (2 ^ pb)) < 65536 := Nat.or_lt_two_pow (n := 16) hr16 hd16
        have hfm := free_mono rc (nb_op (nb_d (fs p) (2 ^ pb)))
        have hcap : pt_cap n0 (rc ||| nb_op (nb_d (fs p) (2 ^ pb))) (nb_op (rc ||| nb_op (nb_d (fs p) (2 ^ pb)))) := ⟨ht16, rfl, by omega⟩
        have hp2 := prop_ok2 (lv := lv) (mk := mk) h16 9 n0 _ _ rs im hcap (ok2_or (u := nb_op (nb_d (fs p) (2 ^ pb))) hok)
        have hpn := prop_np (fs := fs) (lv := lv) (mk := mk) (cn := cn) (pb := pb) 9 n0 (rc ||| nb_op (nb_d (fs p) (2 ^ pb))) (nb_op (rc ||| nb_op (nb_d (fs p) (2 ^ pb)))) rs im (by rw [Nat.testBit_or, hrc]; rfl) hq
        have hpf := prop_fr (lv := lv) (mk := mk) (cn := cn) h16 9 n0 _ _ rs im hcap
        generalize hR : pt_prop fs lv mk cn 9 n0 (rc ||| nb_op (nb_d (fs p) (2 ^ pb))) (nb_op (rc ||| nb_op (nb_d (fs p) (2 ^ pb)))) rs im = R at hp2 hpn hpf ⊢
        by_cases h3 : R.1 = 0
        · rw [if_pos h3]
          simp only [List.length_append, List.length_singleton]
          omega
        · rw [if_neg h3]
          obtain ⟨g1, g2, g3, g4⟩ := hpn.2 h3
          -- reasons and conflict are all different
          have hpig : R.2.1 + 1 ≤ N := by
            rw [hN]
            refine cq_pig (R.2.1 + 1) _ (fun i => if i < R.2.1 then R.2.2.2.2.1 i else R.1) (fun i hi => ?_) (fun i j hij hj => ?_)
            · by_cases hin : i < R.2.1
              · simp only [if_pos hin]
                obtain ⟨a, b, d, e⟩ := hpn.1 i hin
                exact ⟨a, b, by rw [d, e]; rfl⟩
              · simp only [if_neg hin]
                exact ⟨g1, g2, by rw [g3, g4]; rfl⟩
            · have hi : i < R.2.1 := by omega
              simp only [if_pos hi]
              by_cases hjn : j < R.2.1
              · simp only [if_pos hjn]
                exact (hp2.1 j hjn).2.2.2.2 i hij
              · simp only [if_neg hjn]
                intro z
                refine (hp2.1 i hi).2.2.2.1 ?_
                rw [z]
                exact hp2.2.1 h3
          have h8 : R.2.1 + 1 ≤ min 8 N := Nat.le_min.mpr ⟨by omega, hpig⟩
          refine Nat.le_trans (ih _ _ _ _ _ _ _ _ (fun i hi => ?_) (fun i hi => ?_)) ?_
          · have e := hp2.2.2.1 i hi
            rw [e.1, e.2]
            obtain ⟨a, b, d, e2, f2⟩ := hok i hi
            exact ⟨a, b, d, e2, fun i2 hi2 => by rw [(hp2.2.2.1 i2 (by omega)).1]; exact f2 i2 hi2⟩
          · rw [(hp2.2.2.1 i hi).1]; exact hq i hi
          · simp only [List.length_append, List.length_singleton]
            have hx := exs_len R.2.2.2.2.1 (pt_used fs R.2.2.2.2.1 R.2.2.2.2.2 R.2.1 (2 ^ R.1) (fs R.1)) n0 (R.2.1 - n0)
            have hge : n0 ≤ R.2.1 := (prop_ok (lv := lv) (mk := mk) h16 9 n0 _ _ rs im ⟨hcap, fun i hi => ⟨(hok i hi).1, (hok i hi).2.1⟩⟩).2.1 |> (hR ▸ ·)
            omega
      · rw [if_pos h2]
        refine Nat.le_trans (ih _ _ _ _ _ _ _ _ hok hq) ?_
        simp only [List.length_append, List.length_singleton]
        omega
theorem pc_cq {fs : Nat → Nat} {lv pb : Nat} : ∀ k p, pt_pc fs lv (2 ^ pb) k (p + 1) + pt_cq (fun j => lv.testBit j && (fs j).testBit pb) p = pt_cq (fun j => lv.testBit j && (fs j).testBit pb) (p + k) := by
  intro k
  induction k with
  | zero => intro p; rw [pt_pc, Nat.zero_add]; rfl
  | succ k ih =>
    intro p
    have h := ih (p + 1)
    rw [pt_cq, show p + 1 + k = p + (k + 1) by omega] at h
    rw [pt_pc, ← h]
    have e : (if lv.testBit (p + 1) = false ∨ fs (p + 1) &&& 2 ^ pb = 0 then 0 else 1) = (if (lv.testBit (p + 1) && (fs (p + 1)).testBit pb) = true then 1 else 0) := by
      simp only [and_pow]
      cases lv.testBit (p + 1) <;> cases (fs (p + 1)).testBit pb <;> simp
    rw [e]
    omega
/-- the hints of a clause, when m others are live -/
theorem right_len {fs : Nat → Nat} {lv mk cn w pb x m j : Nat} {rs im : Nat → Nat} (h16 : ∀ j, fs j < 65536) (hx : x < 65536) (hm : ∀ i, 1 ≤ i → i ≤ cn → lv.testBit i = true → i ≤ m) (hj : 1 ≤ j) (hmj : m ≤ 15 + j) (hpb : ¬ w = 0 → pb < 16 ∧ (nb_op x).testBit pb = true) :
    (pt_right fs lv mk cn w pb x rs im).2.2.1.length ≤ if w = 0 then 9 else 63 + 9 * j := by
  have hcap : pt_cap 0 (nb_op x) (nb_op (nb_op x)) := ⟨nb_op_lt hx, rfl, by have := free_le (nb_op x); omega⟩
  have hpf := prop_fr (lv := lv) (mk := mk) (cn := cn) h16 9 0 _ _ rs im hcap
  have hp2 := prop_ok2 (lv := lv) (mk := mk) (cn := cn) h16 9 0 _ _ rs im hcap ok2_0
  have hp1 := prop_ok (lv := lv) (mk := mk) (cn := cn) h16 9 0 _ _ rs im ⟨hcap, fun k hk => absurd hk (Nat.not_lt_zero k)⟩
  have hf8 := free_le (nb_op x)
  have hpn : ¬ w = 0 → _ := fun hw => prop_np (fs := fs) (lv := lv) (mk := mk) (cn := cn) (pb := pb) 9 0 (nb_op x) (nb_op (nb_op x)) rs im (hpb hw).2 (fun i hi => absurd hi (Nat.not_lt_zero i))
  unfold pt_right
  dsimp only
  generalize pt_prop fs lv mk cn 9 0 (nb_op x) (nb_op (nb_op x)) rs im = R at hpf hp2 hp1 hpn ⊢
  by_cases h0 : R.1 = 0
  · rw [if_pos h0]
    by_cases hw : w = 0
    · rw [if_pos hw, if_pos hw]; exact Nat.zero_le _
    · rw [if_neg hw, if_neg hw]
      dsimp only
      obtain ⟨hb16, hbt⟩ := hpb hw
      have h7 := free_7 hb16 hbt
      have hrt : R.2.2.1.testBit pb = true := by
        obtain ⟨y, hy⟩ := hp2.2.2.2.1
        rw [hy, Nat.testBit_or, hbt]; rfl
      have hq := (hpn hw).1
      have hnN : R.2.1 ≤ pt_cq (fun j => lv.testBit j && !(fs j).testBit pb) cn := cq_pig _ _ R.2.2.2.2.1 (fun i hi => by
        obtain ⟨a, b, d, e⟩ := hq i hi
        exact ⟨a, b, by rw [d, e]; rfl⟩) (fun i j hij hj => (hp2.1 j hj).2.2.2.2 i hij)
      have hb := sp_bound (mk := mk) (rc := R.2.2.1) (n0 := R.2.1) h16 rfl hrt hp1.2.2.1.1 (by omega) hnN cn 1 (pt_ru R.2.2.2.2.1 R.2.1) (pt_rl R.2.2.2.2.1 R.2.1) R.2.1 R.2.2.1 R.2.2.2.1 R.2.2.2.2.1 R.2.2.2.2.2 hp2.1 hq
      refine Nat.le_trans hb ?_
      rw [rl_le]
      have hc := pc_cq (fs := fs) (lv := lv) (pb := pb) cn 0
      rw [pt_cq, Nat.add_zero, Nat.zero_add] at hc
      have hs := cq_split (fun j => lv.testBit j) (fun j => (fs j).testBit pb) cn
      have hl : pt_cq (fun j => lv.testBit j) cn ≤ m := cq_le cn hm
      rw [Nat.zero_add] at hc
      rw [← hc] at hs
      clear hb hc
      generalize pt_pc fs lv (2 ^ pb) cn 1 = P at hs ⊢
      generalize pt_cq (fun j => lv.testBit j && !(fs j).testBit pb) cn = N at hs hnN ⊢
      generalize R.2.1 = n0 at hpf hnN ⊢
      have hPN : P + N ≤ 15 + j := by omega
      have hn07 : n0 ≤ 7 := by omega
      clear hs hl hpf hp2 hp1 hpn hq
      by_cases hP : P = 0
      · subst hP; omega
      · have hmul : n0 + P * (1 + min 8 N - n0) ≤ P * (1 + min 8 N) := by
          have hle : n0 ≤ 1 + min 8 N := by
            have : n0 ≤ min 8 N := Nat.le_min.mpr ⟨by omega, hnN⟩
            omega
          have e : P * (1 + min 8 N) = P * (1 + min 8 N - n0) + P * n0 := by
            rw [← Nat.mul_add]; congr 1; omega
          have : n0 ≤ P * n0 := Nat.le_mul_of_pos_left n0 (by omega)
          omega
        refine Nat.le_trans hmul ?_
        by_cases hN : 8 ≤ N
        · rw [Nat.min_eq_left hN]; omega
        · rw [Nat.min_eq_right (by omega)]
          have hc : N = 0 ∨ N = 1 ∨ N = 2 ∨ N = 3 ∨ N = 4 ∨ N = 5 ∨ N = 6 ∨ N = 7 := by omega
          rcases hc with h | h | h | h | h | h | h | h <;> subst h <;> omega
  · rw [if_neg h0]
    dsimp only
    rw [List.length_append, List.length_singleton]
    have hx := exs_len R.2.2.2.2.1 (pt_used fs R.2.2.2.2.1 R.2.2.2.2.2 R.2.1 (2 ^ R.1) (fs R.1)) 0 (R.2.1 - 0)
    have : R.2.1 ≤ 8 := by omega
    split
    · omega
    · omega
/-! nothing hangs on what stood in the rows before -/
def pt_ag (n : Nat) (rs im rs2 im2 : Nat → Nat) : Prop := ∀ i, i < n → rs i = rs2 i ∧ im i = im2 i
theorem prop_ag {fs : Nat → Nat} {lv mk cn : Nat} : ∀ (k n t f : Nat) (rs im rs2 im2 : Nat → Nat), pt_ag n rs im rs2 im2 →
    (pt_prop fs lv mk cn k n t f rs im).1 = (pt_prop fs lv mk cn k n t f rs2 im2).1 ∧ (pt_prop fs lv mk cn k n t f rs im).2.1 = (pt_prop fs lv mk cn k n t f rs2 im2).2.1 ∧ (pt_prop fs lv mk cn k n t f rs im).2.2.1 = (pt_prop fs lv mk cn k n t f rs2 im2).2.2.1 ∧ (pt_prop fs lv mk cn k n t f rs im).2.2.2.1 = (pt_prop fs lv mk cn k n t f rs2 im2).2.2.2.1 ∧ pt_ag (pt_prop fs lv mk cn k n t f rs im).2.1 (pt_prop fs lv mk cn k n t f rs im).2.2.2.2.1 (pt_prop fs lv mk cn k n t f rs im).2.2.2.2.2 (pt_prop fs lv mk cn k n t f rs2 im2).2.2.2.2.1 (pt_prop fs lv mk cn k n t f rs2 im2).2.2.2.2.2 := by
  intro k
  induction k with
  | zero => intro n t f rs im rs2 im2 h; exact ⟨rfl, rfl, rfl, rfl, h⟩
  | succ k ih =>
    intro n t f rs im rs2 im2 h
    rw [pt_prop, pt_prop]
    split
    · exact ⟨rfl, rfl, rfl, rfl, h⟩
    · split
      · exact ⟨rfl, rfl, rfl, rfl, h⟩
      · refine ih _ _ _ _ _ _ _ (fun i hi => ?_)
        by_cases hin : i = n
        · subst hin; rw [va_up_self, va_up_self, va_up_self, va_up_self]; exact ⟨rfl, rfl⟩
        · rw [va_up_ne _ _ hin, va_up_ne _ _ hin, va_up_ne _ _ hin, va_up_ne _ _ hin]; exact h i (by omega)
theorem prop_kp {fs : Nat → Nat} {lv mk cn : Nat} : ∀ (k n t f : Nat) (rs im : Nat → Nat), n ≤ (pt_prop fs lv mk cn k n t f rs im).2.1 ∧ pt_ag n (pt_prop fs lv mk cn k n t f rs im).2.2.2.2.1 (pt_prop fs lv mk cn k n t f rs im).2.2.2.2.2 rs im := by
  intro k
  induction k with
  | zero => intro n t f rs im; exact ⟨Nat.le_refl _, fun i hi => ⟨rfl, rfl⟩⟩
  | succ k ih =>
    intro n t f rs im
    rw [pt_prop]
    split
    · exact ⟨Nat.le_refl _, fun i hi => ⟨rfl, rfl⟩⟩
    · split
      · exact ⟨Nat.le_refl _, fun i hi => ⟨rfl, rfl⟩⟩
      · obtain ⟨a, b⟩ := ih (n + 1) (t ||| nb_d (fs (pt_next fs lv mk cn t f)) f) (f ||| nb_op (nb_d (fs (pt_next fs lv mk cn t f)) f)) (va_up rs n (pt_next fs lv mk cn t f)) (va_up im n (nb_d (fs (pt_next fs lv mk cn t f)) f))
        refine ⟨by omega, fun i hi => ?_⟩
        obtain ⟨c, d⟩ := b i (by omega)
        rw [c, d, va_up_ne _ _ (by omega), va_up_ne _ _ (by omega)]
        exact ⟨rfl, rfl⟩
theorem used_ag {fs : Nat → Nat} {rs im rs2 im2 : Nat → Nat} : ∀ (k u lk : Nat), pt_ag k rs im rs2 im2 → pt_used fs rs im k u lk = pt_used fs rs2 im2 k u lk := by
  intro k
  induction k with
  | zero => intro u lk _; rfl
  | succ k ih =>
    intro u lk h
    obtain ⟨a, b⟩ := h k (by omega)
    rw [pt_used, pt_used, a, b]
    split
    · exact ih _ _ (fun i hi => h i (by omega))
    · exact ih _ _ (fun i hi => h i (by omega))
theorem exs_ag {rs rs2 : Nat → Nat} {u a : Nat} : ∀ k, (∀ i, i < a + k → rs i = rs2 i) → pt_exs rs u a k = pt_exs rs2 u a k := by
  intro k
  induction k with
  | zero => intro _; rfl
  | succ k ih => intro h; rw [pt_exs, pt_exs, ih (fun i hi => h i (by omega)), h (a + k) (by omega)]
theorem rl_ag {rs rs2 : Nat → Nat} : ∀ k, (∀ i, i < k → rs i = rs2 i) → pt_rl rs k = pt_rl rs2 k := by
  intro k
  induction k with
  | zero => intro _; rfl
  | succ k ih => intro h; rw [pt_rl, pt_rl, ih (fun i hi => h i (by omega)), h k (by omega)]
theorem ru_ag {rs rs2 : Nat → Nat} : ∀ k, (∀ i, i < k → rs i = rs2 i) → pt_ru rs k = pt_ru rs2 k := by
  intro k
  induction k with
  | zero => intro _; rfl
  | succ k ih => intro h; rw [pt_ru, pt_ru, ih (fun i hi => h i (by omega)), h k (by omega)]
theorem sp_ag {fs : Nat → Nat} {lv mk cn pv rc n0 : Nat} : ∀ (k p u : Nat) (L : List Int32) (n t f n2 t2 f2 : Nat) (rs im rs2 im2 : Nat → Nat), pt_ag n0 rs im rs2 im2 →
    (pt_sp fs lv mk cn pv rc n0 k p u L n t f rs im).1 = (pt_sp fs lv mk cn pv rc n0 k p u L n2 t2 f2 rs2 im2).1 ∧ (pt_sp fs lv mk cn pv rc n0 k p u L n t f rs im).2.1 = (pt_sp fs lv mk cn pv rc n0 k p u L n2 t2 f2 rs2 im2).2.1 ∧ (pt_sp fs lv mk cn pv rc n0 k p u L n t f rs im).2.2.1 = (pt_sp fs lv mk cn pv rc n0 k p u L n2 t2 f2 rs2 im2).2.2.1 := by
  intro k
  induction k with
  | zero => intro p u L n t f n2 t2 f2 rs im rs2 im2 h; exact ⟨rfl, rfl, rfl⟩
  | succ k ih =>
    intro p u L n t f n2 t2 f2 rs im rs2 im2 h
    rw [pt_sp, pt_sp]
    split
    · exact ih _ _ _ _ _ _ _ _ _ _ _ _ _ h
    · split
      · exact ih _ _ _ _ _ _ _ _ _ _ _ _ _ h
      · dsimp only
        obtain ⟨a, b, c, d, e⟩ := prop_ag (fs := fs) (lv := lv) (mk := mk) (cn := cn) 9 n0 (rc ||| nb_op (nb_d (fs p) pv)) (nb_op (rc ||| nb_op (nb_d (fs p) pv))) rs im rs2 im2 h
        have k1 := prop_kp (fs := fs) (lv := lv) (mk := mk) (cn := cn) 9 n0 (rc ||| nb_op (nb_d (fs p) pv)) (nb_op (rc ||| nb_op (nb_d (fs p) pv))) rs im
        generalize pt_prop fs lv mk cn 9 n0 (rc ||| nb_op (nb_d (fs p) pv)) (nb_op (rc ||| nb_op (nb_d (fs p) pv))) rs im = R at a b c d e k1 ⊢
        generalize pt_prop fs lv mk cn 9 n0 (rc ||| nb_op (nb_d (fs p) pv)) (nb_op (rc ||| nb_op (nb_d (fs p) pv))) rs2 im2 = S at a b c d e ⊢
        obtain ⟨R1, R2, R3, R4, R5, R6⟩ := R
        obtain ⟨S1, S2, S3, S4, S5, S6⟩ := S
        dsimp only at a b c d e k1 ⊢
        subst a b c d
        by_cases h0 : R1 = 0
        · rw [if_pos h0, if_pos h0]; exact ⟨rfl, rfl, rfl⟩
        · rw [if_neg h0, if_neg h0, ← used_ag R2 (2 ^ R1) (fs R1) e, ← exs_ag (R2 - n0) (fun i hi => (e i (by have := k1.1; omega)).1)]
          exact ih _ _ _ _ _ _ _ _ _ _ _ _ _ (fun i hi => e i (by have := k1.1; omega))
theorem right_ag {fs : Nat → Nat} {lv mk cn w pb x : Nat} {rs im rs2 im2 : Nat → Nat} :
    (pt_right fs lv mk cn w pb x rs im).1 = (pt_right fs lv mk cn w pb x rs2 im2).1 ∧ (pt_right fs lv mk cn w pb x rs im).2.1 = (pt_right fs lv mk cn w pb x rs2 im2).2.1 ∧ (pt_right fs lv mk cn w pb x rs im).2.2.1 = (pt_right fs lv mk cn w pb x rs2 im2).2.2.1 := by
  unfold pt_right
  dsimp only
  obtain ⟨a, b, c, d, e⟩ := prop_ag (fs := fs) (lv := lv) (mk := mk) (cn := cn) 9 0 (nb_op x) (nb_op (nb_op x)) rs im rs2 im2 (fun i hi => absurd hi (Nat.not_lt_zero i))
  generalize pt_prop fs lv mk cn 9 0 (nb_op x) (nb_op (nb_op x)) rs im = R at a b c d e ⊢
  generalize pt_prop fs lv mk cn 9 0 (nb_op x) (nb_op (nb_op x)) rs2 im2 = S at a b c d e ⊢
  obtain ⟨R1, R2, R3, R4, R5, R6⟩ := R
  obtain ⟨S1, S2, S3, S4, S5, S6⟩ := S
  dsimp only at a b c d e ⊢
  subst a b c d
  by_cases h0 : R1 = 0
  · rw [if_pos h0, if_pos h0]
    by_cases hw : w = 0
    · rw [if_pos hw, if_pos hw]; exact ⟨rfl, rfl, rfl⟩
    · rw [if_neg hw, if_neg hw]
      dsimp only
      rw [← rl_ag R2 (fun i hi => (e i hi).1), ← ru_ag R2 (fun i hi => (e i hi).1)]
      obtain ⟨a2, b2, c2⟩ := sp_ag (fs := fs) (lv := lv) (mk := mk) (cn := cn) (pv := 2 ^ pb) (rc := R3) (n0 := R2) cn 1 (pt_ru R5 R2) (pt_rl R5 R2) R2 R3 R4 R2 R3 R4 R5 R6 S5 S6 e
      rw [← a2, ← b2, ← c2]
      exact ⟨rfl, rfl, rfl⟩
  · rw [if_neg h0, if_neg h0]
    dsimp only
    rw [← used_ag R2 (2 ^ R1) (fs R1) e, ← exs_ag (R2 - 0) (fun i hi => (e i (by omega)).1)]
    exact ⟨rfl, rfl, rfl⟩
/-! the hints of both sides -/
/-- row and blocks have the same hints -/
def pt_hr (cn ba g : Nat) (ft fc : Nat → Nat) (fr : Nat → Int32) (hc : Nat → Nat) (hh : Nat → Int32) : Prop :=
  (∀ j, 1 ≤ j → j ≤ 32 → fc j = hc j) ∧ (∀ j, 1 ≤ j → j ≤ 32 → ¬ fc j = 0 → ba < j ∧ j ≤ cn ∧ ft j + fc j ≤ g ∧ fc j ≤ 400 ∧ ∀ k, k < fc j → fr (ft j + k) = hh (400 * (j - ba - 1) + k)) ∧
  (∀ i j, 1 ≤ i → i ≤ 32 → 1 ≤ j → j ≤ 32 → ¬ i = j → ¬ fc i = 0 → ¬ fc j = 0 → ft i + fc i ≤ ft j ∨ ft j + fc j ≤ ft i)
def pt_sb (β : Nat → Nat) (ba : Nat) : Nat → Nat
  | 0 => 0
  | n + 1 => pt_sb β ba n + β (ba + n + 1)
theorem sb_mono {β : Nat → Nat} {ba : Nat} : ∀ a d, pt_sb β ba a ≤ pt_sb β ba (a + d) := by
  intro a d
  induction d with
  | zero => exact Nat.le_refl _
  | succ d ih => rw [← Nat.add_assoc, pt_sb]; omega
theorem put_out {fr : Nat → Int32} {g : Nat} {L : List Int32} {j : Nat} (h : j < g ∨ g + L.length ≤ j) : pt_put fr g L j = fr j := by
  unfold pt_put
  rw [if_neg (by omega)]
theorem put_in {fr : Nat → Int32} {g : Nat} {L : List Int32} {k : Nat} (h : k < L.length) : pt_put fr g L (g + k) = L.getD k 0 := by
  unfold pt_put
  rw [if_pos (by omega), show g + k - g = k by omega]
theorem hr_new {cn ba g c : Nat} {ft fc : Nat → Nat} {fr : Nat → Int32} {hc : Nat → Nat} {hh : Nat → Int32} {L : List Int32} (h : pt_hr cn ba g ft fc fr hc hh) (hb : ba < c) (hcn : c ≤ cn) (h32 : cn ≤ 32) (h0 : fc c = 0) (hl : L.length ≤ 400) :
    pt_hr cn ba (g + L.length) (va_up ft c g) (va_up fc c (fc c + L.length)) (pt_put fr g L) (va_up hc c (hc c + L.length)) (pt_put hh (400 * (c - ba - 1) + hc c) L) := by
  obtain ⟨h1, h2, h3⟩ := h
  have hc0 : hc c = 0 := by rw [← h1 c (by omega) (by omega)]; exact h0
  rw [h0, hc0, Nat.zero_add, Nat.add_zero]
  refine ⟨fun j a b => ?_, fun j a b hj => ?_, fun i j a b d e hij hi hj => ?_⟩
  · by_cases hjc : j = c
    · subst hjc; rw [va_up_self, va_up_self]
    · rw [va_up_ne _ _ hjc, va_up_ne _ _ hjc]; exact h1 j a b
  · by_cases hjc : j = c
    · subst hjc
      rw [va_up_self, va_up_self]
      refine ⟨hb, hcn, Nat.le_refl _, hl, fun k hk => ?_⟩
      rw [put_in hk, put_in hk]
    · rw [va_up_ne _ _ hjc] at hj
      rw [va_up_ne _ _ hjc, va_up_ne _ _ hjc]
      obtain ⟨a1, a2, a3, a4, a5⟩ := h2 j a b hj
      refine ⟨a1, a2, by omega, a4, fun k hk => ?_⟩
      rw [put_out (by omega), put_out (by omega)]
      exact a5 k hk
  · by_cases hic : i = c
    · subst hic
      have hjc : ¬ j = i := fun q => hij q.symm
      rw [va_up_ne _ _ hjc] at hj
      rw [va_up_self, va_up_self, va_up_ne _ _ hjc, va_up_ne _ _ hjc]
      have := (h2 j d e hj).2.2.1
      omega
    · rw [va_up_ne _ _ hic] at hi
      rw [va_up_ne _ _ hic, va_up_ne _ _ hic]
      by_cases hjc : j = c
      · subst hjc
        rw [va_up_self, va_up_self]
        have := (h2 i a b hi).2.2.1
        omega
      · rw [va_up_ne _ _ hjc] at hj
        rw [va_up_ne _ _ hjc, va_up_ne _ _ hjc]
        exact h3 i j a b d e hij hi hj
/-- the live ones are those of the formula and those added by the first k steps -/
def pt_lok (ba : Nat) (dl : Nat → Bool) (nu : Nat → Nat) (k lv : Nat) : Prop := ∀ j, 1 ≤ j → lv.testBit j = true → j ≤ ba ∨ ∃ i, 1 ≤ i ∧ i ≤ k ∧ dl i = false ∧ nu i = j
theorem gb_rel {fs fz pb : Nat → Nat} {cn ba K : Nat} {dl : Nat → Bool} {nu : Nat → Nat} {β : Nat → Nat} (h16 : ∀ j, fs j < 65536) (h32 : cn ≤ 32) (hb16 : ba ≤ 16) (hlit : ∀ j, 1 ≤ j → j ≤ cn → 1 ≤ fz j → pb j < 16 ∧ (nb_op (fs j)).testBit (pb j) = true)
    (hβ : ∀ i, 1 ≤ i → i ≤ K → dl i = false → (if fz (nu i) = 0 then 9 else 63 + 9 * (nu i - ba)) ≤ β (nu i))
    (hcn16 : cn ≤ ba + 16)
    (hinc : ∀ i j, 1 ≤ i → i < j → j ≤ K → dl i = false → dl j = false → nu i < nu j) (hadd : ∀ i, 1 ≤ i → i ≤ K → dl i = false → ba < nu i ∧ nu i ≤ cn)
    (hdel : ∀ i, 1 ≤ i → i ≤ K → dl i = true → nu i = 0 ∨ nu i ≤ ba ∨ ∃ j, 1 ≤ j ∧ j < i ∧ dl j = false ∧ nu j = nu i) :
    ∀ (k lv ma g : Nat) (ft fc : Nat → Nat) (fr : Nat → Int32) (n t f : Nat) (rs im : Nat → Nat) (hc : Nat → Nat) (hh : Nat → Int32) (rs2 im2 : Nat → Nat) (m : Nat), k ≤ K → pt_lok ba dl nu k lv → (∀ i, 1 ≤ i → i ≤ k → dl i = false → nu i < m ∧ fc (nu i) = 0) → ba < m → pt_hr cn ba g ft fc fr hc hh → (∀ j, hc j ≤ 400) →
    (pt_gb fs fz pb cn dl nu k lv ma g ft fc fr n t f rs im).1 = (pm_gb fs fz pb cn ba dl nu k lv ma hc hh rs2 im2).1 ∧
    (pt_gb fs fz pb cn dl nu k lv ma g ft fc fr n t f rs im).2.2.1 = (pm_gb fs fz pb cn ba dl nu k lv ma hc hh rs2 im2).2.1 ∧
    (pt_gb fs fz pb cn dl nu k lv ma g ft fc fr n t f rs im).2.2.2.1 ≤ g + pt_sb β ba (m - ba - 1) ∧
    (∀ j, (pm_gb fs fz pb cn ba dl nu k lv ma hc hh rs2 im2).2.2.1 j ≤ 400) ∧
    pt_hr cn ba (pt_gb fs fz pb cn dl nu k lv ma g ft fc fr n t f rs im).2.2.2.1 (pt_gb fs fz pb cn dl nu k lv ma g ft fc fr n t f rs im).2.2.2.2.1 (pt_gb fs fz pb cn dl nu k lv ma g ft fc fr n t f rs im).2.2.2.2.2.1 (pt_gb fs fz pb cn dl nu k lv ma g ft fc fr n t f rs im).2.2.2.2.2.2.1 (pm_gb fs fz pb cn ba dl nu k lv ma hc hh rs2 im2).2.2.1 (pm_gb fs fz pb cn ba dl nu k lv ma hc hh rs2 im2).2.2.2 := by
  intro k
  induction k with
  | zero => intro lv ma g ft fc fr n t f rs im hc hh rs2 im2 m hk hl hf hm hr h4; exact ⟨rfl, rfl, Nat.le_add_right _ _, h4, hr⟩
  | succ k ih =>
    intro lv ma g ft fc fr n t f rs im hc hh rs2 im2 m hk hl hf hm hr h4
    rw [pt_gb, pm_gb]
    by_cases hd : dl (k + 1) = true
    · rw [if_pos hd, if_pos hd]
      refine ih _ _ _ _ _ _ _ _ _ _ _ _ _ _ _ m (by omega) (fun j hj hb => ?_) (fun i a b => hf i a (by omega)) hm hr h4
      rw [Nat.testBit_or, Nat.testBit_two_pow] at hb
      rcases Bool.or_eq_true_iff.mp hb with hb | hb
      · rcases hl j hj hb with q | ⟨i, a, b, d, e⟩
        · exact Or.inl q
        · refine Or.inr ⟨i, a, ?_, d, e⟩
          by_cases hi : i = k + 1
          · rw [hi, hd] at d; exact absurd d (by decide)
          · omega
      · have hb := of_decide_eq_true hb
        rcases hdel (k + 1) (by omega) hk hd with q | q | ⟨i, a, b, d, e⟩
        · omega
        · exact Or.inl (by omega)
        · exact Or.inr ⟨i, a, by omega, d, by omega⟩
    · rw [if_neg hd, if_neg hd]
      have hd : dl (k + 1) = false := by cases h : dl (k + 1) with
        | false => rfl
        | true => exact absurd h hd
      obtain ⟨hm1, hf0⟩ := hf (k + 1) (by omega) (Nat.le_refl _) hd
      obtain ⟨hb1, hb2⟩ := hadd (k + 1) (by omega) hk hd
      have hlt : ∀ i, 1 ≤ i → i ≤ k → dl i = false → nu i < nu (k + 1) := fun i a b d => hinc i (k + 1) a (by omega) hk d hd
      have hl2 : pt_lok ba dl nu k (nb_d lv (2 ^ nu (k + 1))) := by
        intro j hj hb
        rw [nb_d_bit, Nat.testBit_two_pow, Bool.and_eq_true] at hb
        rcases hl j hj hb.1 with q | ⟨i, a, b, d, e⟩
        · exact Or.inl q
        · refine Or.inr ⟨i, a, ?_, d, e⟩
          by_cases hi : i = k + 1
          · exfalso
            have := hb.2
            rw [decide_eq_true (by rw [← e, hi])] at this
            exact absurd this (by decide)
          · omega
      have hsb : pt_sb β ba (nu (k + 1) - ba - 1) + β (nu (k + 1)) ≤ pt_sb β ba (m - ba - 1) := by
        have h := sb_mono (β := β) (ba := ba) (nu (k + 1) - ba - 1 + 1) (m - ba - 1 - (nu (k + 1) - ba - 1 + 1))
        rw [show nu (k + 1) - ba - 1 + 1 + (m - ba - 1 - (nu (k + 1) - ba - 1 + 1)) = m - ba - 1 by omega, pt_sb, show ba + (nu (k + 1) - ba - 1) + 1 = nu (k + 1) by omega] at h
        exact h
      by_cases hma : ma.testBit (nu (k + 1)) = false
      · rw [if_pos hma, if_pos hma]
        obtain ⟨r1, r2, r3, r4, r5⟩ := ih (nb_d lv (2 ^ nu (k + 1))) ma g ft fc fr n t f rs im hc hh rs2 im2 (nu (k + 1)) (by omega) hl2 (fun i a b d => ⟨hlt i a b d, (hf i a (by omega) d).2⟩) hb1 hr h4
        exact ⟨r1, r2, by omega, r4, r5⟩
      · rw [if_neg hma, if_neg hma]
        dsimp only
        obtain ⟨a1, a2, a3⟩ := right_ag (fs := fs) (lv := nb_d lv (2 ^ nu (k + 1))) (mk := ma) (cn := cn) (w := fz (nu (k + 1))) (pb := pb (nu (k + 1))) (x := fs (nu (k + 1))) (rs := rs) (im := im) (rs2 := rs2) (im2 := im2)
        have hlen := right_len (lv := nb_d lv (2 ^ nu (k + 1))) (mk := ma) (cn := cn) (w := fz (nu (k + 1))) (pb := pb (nu (k + 1))) (x := fs (nu (k + 1))) (m := nu (k + 1) - 1) (j := nu (k + 1) - ba) (rs := rs) (im := im) h16 (h16 _) (fun i hi _ hb => by
          rcases hl2 i hi hb with q | ⟨i2, a, b, d, e⟩
          · omega
          · have := hlt i2 a b d; omega) (by omega) (by omega) (fun hw => hlit _ (by omega) hb2 (by omega))
        have hβk := hβ (k + 1) (by omega) hk hd
        have hl400 : (pt_right fs (nb_d lv (2 ^ nu (k + 1))) ma cn (fz (nu (k + 1))) (pb (nu (k + 1))) (fs (nu (k + 1))) rs im).2.2.1.length ≤ 400 := by
          refine Nat.le_trans hlen ?_
          split
          · decide
          · have : nu (k + 1) - ba ≤ 16 := by omega
            omega
        generalize pt_right fs (nb_d lv (2 ^ nu (k + 1))) ma cn (fz (nu (k + 1))) (pb (nu (k + 1))) (fs (nu (k + 1))) rs im = Z at a1 a2 a3 hlen hl400 ⊢
        generalize pt_right fs (nb_d lv (2 ^ nu (k + 1))) ma cn (fz (nu (k + 1))) (pb (nu (k + 1))) (fs (nu (k + 1))) rs2 im2 = Y at a1 a2 a3 ⊢
        rw [← a1, ← a2, ← a3]
        have hr2 := hr_new (L := Z.2.2.1) hr hb1 hb2 h32 hf0 hl400
        have hc0 : hc (nu (k + 1)) = 0 := by rw [← hr.1 _ (by omega) (by omega)]; exact hf0
        have h42 : ∀ j, va_up hc (nu (k + 1)) (hc (nu (k + 1)) + Z.2.2.1.length) j ≤ 400 := by
          intro j
          by_cases hj : j = nu (k + 1)
          · rw [hj, va_up_self]; omega
          · rw [va_up_ne _ _ hj]; exact h4 j
        split
        · obtain ⟨r1, r2, r3, r4, r5⟩ := ih (nb_d lv (2 ^ nu (k + 1))) Z.2.1 (g + Z.2.2.1.length) (va_up ft (nu (k + 1)) g) (va_up fc (nu (k + 1)) (fc (nu (k + 1)) + Z.2.2.1.length)) (pt_put fr g Z.2.2.1) Z.2.2.2.1 Z.2.2.2.2.1 Z.2.2.2.2.2.1 Z.2.2.2.2.2.2.1 Z.2.2.2.2.2.2.2 (va_up hc (nu (k + 1)) (hc (nu (k + 1)) + Z.2.2.1.length)) (pt_put hh (400 * (nu (k + 1) - ba - 1) + hc (nu (k + 1))) Z.2.2.1) Y.2.2.2.2.2.2.1 Y.2.2.2.2.2.2.2 (nu (k + 1)) (by omega) hl2 (fun i a b d => ⟨hlt i a b d, by rw [va_up_ne _ _ (by have := hlt i a b d; omega)]; exact (hf i a (by omega) d).2⟩) hb1 hr2 h42
          exact ⟨r1, r2, by omega, r4, r5⟩
        · exact ⟨rfl, rfl, by show g + Z.2.2.1.length ≤ _; omega, h42, hr2⟩
theorem live_ok {ba : Nat} {dl : Nat → Bool} {nu : Nat → Nat} : ∀ (k i lv : Nat), 1 ≤ i → pt_lok ba dl nu (i - 1) lv → pt_lok ba dl nu (i - 1 + k) (pt_live dl nu k i lv) := by
  intro k
  induction k with
  | zero => intro i lv _ h; exact h
  | succ k ih =>
    intro i lv hi h
    rw [pt_live]
    have h2 := ih (i + 1) (if dl i = true then nb_d lv (2 ^ nu i) else lv ||| 2 ^ nu i) (by omega) (by
      intro j hj hb
      split at hb
      · rw [nb_d_bit, Bool.and_eq_true] at hb
        rcases h j hj hb.1 with q | ⟨i2, a, b, d, e⟩
        · exact Or.inl q
        · exact Or.inr ⟨i2, a, by omega, d, e⟩
      · rename_i hd
        rw [Nat.testBit_or, Nat.testBit_two_pow] at hb
        rcases Bool.or_eq_true_iff.mp hb with hb | hb
        · rcases h j hj hb with q | ⟨i2, a, b, d, e⟩
          · exact Or.inl q
          · exact Or.inr ⟨i2, a, by omega, d, e⟩
        · refine Or.inr ⟨i, hi, by omega, ?_, of_decide_eq_true hb⟩
          cases h : dl i with
          | false => rfl
          | true => exact absurd h hd)
    rw [show i + 1 - 1 + k = i - 1 + (k + 1) by omega] at h2
    exact h2
theorem live_cg {dl dl2 : Nat → Bool} {nu : Nat → Nat} : ∀ (k i lv : Nat), (∀ j, i ≤ j → j < i + k → dl j = dl2 j) → pt_live dl nu k i lv = pt_live dl2 nu k i lv := by
  intro k
  induction k with
  | zero => intro i lv _; rfl
  | succ k ih =>
    intro i lv h
    rw [pt_live, pt_live, h i (Nat.le_refl _) (by omega)]
    exact ih _ _ (fun j a b => h j (by omega) (by omega))
theorem pm_cg {fs fz pb : Nat → Nat} {cn ba : Nat} {dl dl2 : Nat → Bool} {nu : Nat → Nat} : ∀ (k lv ma : Nat) (hc : Nat → Nat) (hh : Nat → Int32) (rs im : Nat → Nat), (∀ j, 1 ≤ j → j ≤ k → dl j = dl2 j) → pm_gb fs fz pb cn ba dl nu k lv ma hc hh rs im = pm_gb fs fz pb cn ba dl2 nu k lv ma hc hh rs im := by
  intro k
  induction k with
  | zero => intro lv ma hc hh rs im _; rfl
  | succ k ih =>
    intro lv ma hc hh rs im h
    rw [pm_gb, pm_gb, h (k + 1) (by omega) (Nat.le_refl _)]
    simp only [fun a b c d e f => ih a b c d e f (fun j x y => h j x (by omega))]
/-- the whole row has room -/
theorem sb_2048 {ba n : Nat} (hn : n ≤ 16) : pt_sb (fun c => if c = ba + n then 9 else 63 + 9 * (c - ba)) ba n ≤ 2048 := by
  have h1 : ∀ k, k ≤ n → ¬ k = n → pt_sb (fun c => if c = ba + n then 9 else 63 + 9 * (c - ba)) ba k = pt_sb (fun c => 63 + 9 * (c - ba)) ba k := by
    intro k
    induction k with
    | zero => intro _ _; rfl
    | succ k ih =>
      intro a b
      rw [pt_sb, pt_sb, ih (by omega) (by omega)]
      rw [if_neg (by omega)]
  have h2 : ∀ k, pt_sb (fun c => 63 + 9 * (c - ba)) ba k = pt_sb (fun c => 63 + 9 * (c - 0)) 0 k := by
    intro k
    induction k with
    | zero => rfl
    | succ k ih => rw [pt_sb, pt_sb, ih]; omega
  cases n with
  | zero => exact Nat.zero_le _
  | succ n =>
    rw [pt_sb, h1 n (by omega) (by omega), h2]
    simp only [Nat.add_assoc, if_true]
    have h3 : ∀ k, k ≤ 15 → pt_sb (fun c => 63 + 9 * (c - 0)) 0 k ≤ 2025 := by decide +kernel
    have := h3 n (by omega)
    omega
