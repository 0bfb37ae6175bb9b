/-! marks -/
def pt_mi (cn mk : Nat) : Prop := ∀ j, mk.testBit j = true → 1 ≤ j ∧ j ≤ cn
theorem mi_or {cn a b : Nat} (h1 : pt_mi cn a) (h2 : pt_mi cn b) : pt_mi cn (a ||| b) := by
  intro j hj
  rw [Nat.testBit_or] at hj
  rcases Bool.or_eq_true_iff.mp hj with h | h
  · exact h1 j h
  · exact h2 j h
theorem mi_2 {cn a : Nat} (h1 : 1 ≤ a) (h2 : a ≤ cn) : pt_mi cn (2 ^ a) := by
  intro j hj
  rw [Nat.testBit_two_pow] at hj
  have := of_decide_eq_true hj
  omega
theorem mi_used {fs rs im : Nat → Nat} {cn : Nat} : ∀ (k u lk : Nat), pt_mi cn u → (∀ i, i < k → 1 ≤ rs i ∧ rs i ≤ cn) → pt_mi cn (pt_used fs rs im k u lk) := by
  intro k
  induction k with
  | zero => intro u lk h _; exact h
  | succ k ih =>
    intro u lk h hr
    rw [pt_used]
    split
    · exact ih _ _ h (fun i hi => hr i (by omega))
    · exact ih _ _ (mi_or h (mi_2 (hr k (by omega)).1 (hr k (by omega)).2)) (fun i hi => hr i (by omega))
theorem mi_ru {rs : Nat → Nat} {cn : Nat} : ∀ k, (∀ i, i < k → 1 ≤ rs i ∧ rs i ≤ cn) → pt_mi cn (pt_ru rs k) := by
  intro k
  induction k with
  | zero => intro _ j hj; rw [pt_ru, Nat.zero_testBit] at hj; exact absurd hj (by decide)
  | succ k ih => intro h; rw [pt_ru]; exact mi_or (ih (fun i hi => h i (by omega))) (mi_2 (h k (by omega)).1 (h k (by omega)).2)
theorem prop_in {fs : Nat → Nat} {lv mk cn : Nat} : ∀ (k n t f : Nat) (rs im : Nat → Nat), (∀ i, i < n → 1 ≤ rs i ∧ rs i ≤ cn) → (∀ i, i < (pt_prop fs lv mk cn k n t f rs im).2.1 → 1 ≤ (pt_prop fs lv mk cn k n t f rs im).2.2.2.2.1 i ∧ (pt_prop fs lv mk cn k n t f rs im).2.2.2.2.1 i ≤ cn) ∧ (¬ (pt_prop fs lv mk cn k n t f rs im).1 = 0 → 1 ≤ (pt_prop fs lv mk cn k n t f rs im).1 ∧ (pt_prop fs lv mk cn k n t f rs im).1 ≤ cn) := by
  intro k
  induction k with
  | zero => intro n t f rs im h; exact ⟨h, fun q => absurd rfl q⟩
  | succ k ih =>
    intro n t f rs im h
    have hni := next_in fs lv mk cn t f
    rw [pt_prop]
    generalize pt_next fs lv mk cn t f = ce at hni ⊢
    by_cases h0 : ce = 0
    · rw [if_pos h0]; exact ⟨h, fun q => absurd rfl q⟩
    · obtain ⟨h1, h2, h3, h4⟩ := hni.resolve_left h0
      rw [if_neg h0]
      by_cases hy : nb_d (fs ce) f = 0
      · rw [if_pos hy]; exact ⟨h, fun _ => ⟨h1, h2⟩⟩
      · rw [if_neg hy]
        refine ih _ _ _ _ _ (fun i hi => ?_)
        by_cases hin : i = n
        · subst hin; rw [va_up_self]; exact ⟨h1, h2⟩
        · rw [va_up_ne _ _ hin]; exact h i (by omega)
theorem mi_sp {fs : Nat → Nat} {lv mk cn pv rc n0 : Nat} : ∀ (k p u : Nat) (L : List Int32) (n t f : Nat) (rs im : Nat → Nat), 1 ≤ p → p + k = cn + 1 → pt_mi cn u → (∀ i, i < n0 → 1 ≤ rs i ∧ rs i ≤ cn) → pt_mi cn (pt_sp fs lv mk cn pv rc n0 k p u L n t f rs im).2.1 := by
  intro k
  induction k with
  | zero => intro p u L n t f rs im _ _ h _; exact h
  | succ k ih =>
    intro p u L n t f rs im h1 h2 h hr
    rw [pt_sp]
    split
    · exact ih _ _ _ _ _ _ _ _ (by omega) (by omega) h hr
    · split
      · exact ih _ _ _ _ _ _ _ _ (by omega) (by omega) (mi_or h (mi_2 h1 (by omega))) hr
      · dsimp only
        obtain ⟨a1, a2⟩ := prop_in (fs := fs) (lv := lv) (mk := mk) (cn := cn) 9 n0 (rc ||| nb_op (nb_d (fs p) pv)) (nb_op (rc ||| nb_op (nb_d (fs p) pv))) rs im hr
        have k1 := prop_kp (fs := fs) (lv := lv) (mk := mk) (cn := cn) 9 n0 (rc ||| nb_op (nb_d (fs p) pv)) (nb_op (rc ||| nb_op (nb_d (fs p) pv))) rs im
        generalize pt_prop fs lv mk cn 9 n0 (rc ||| nb_op (nb_d (fs p) pv)) (nb_op (rc ||| nb_op (nb_d (fs p) pv))) rs im = R at a1 a2 k1 ⊢
        obtain ⟨R1, R2, R3, R4, R5, R6⟩ := R
        dsimp only at a1 a2 k1 ⊢
        by_cases h0 : R1 = 0
        · rw [if_pos h0]; exact mi_or h (mi_2 h1 (by omega))
        · rw [if_neg h0]
          refine ih _ _ _ _ _ _ _ _ (by omega) (by omega) (mi_or (mi_or h (mi_2 h1 (by omega))) (mi_used _ _ _ (mi_2 (a2 h0).1 (a2 h0).2) a1)) (fun i hi => a1 i (by have := k1.1; omega))
theorem mi_right {fs : Nat → Nat} {lv mk cn w pb x : Nat} {rs im : Nat → Nat} (h : pt_mi cn mk) : pt_mi cn (pt_right fs lv mk cn w pb x rs im).2.1 := by
  unfold pt_right
  dsimp only
  obtain ⟨a1, a2⟩ := prop_in (fs := fs) (lv := lv) (mk := mk) (cn := cn) 9 0 (nb_op x) (nb_op (nb_op x)) rs im (fun i hi => absurd hi (Nat.not_lt_zero i))
  generalize pt_prop fs lv mk cn 9 0 (nb_op x) (nb_op (nb_op x)) rs im = R at a1 a2 ⊢
  obtain ⟨R1, R2, R3, R4, R5, R6⟩ := R
  dsimp only at a1 a2 ⊢
  by_cases h0 : R1 = 0
  · rw [if_pos h0]
    by_cases hw : w = 0
    · rw [if_pos hw]; exact h
    · rw [if_neg hw]
      dsimp only
      split
      · exact mi_or h (mi_sp _ _ _ _ _ _ _ _ _ (by omega) (by omega) (mi_ru _ a1) a1)
      · exact h
  · rw [if_neg h0]
    exact mi_or h (mi_used _ _ _ (mi_2 (a2 h0).1 (a2 h0).2) a1)
theorem mi_gb {fs fz pb : Nat → Nat} {cn : Nat} {dl : Nat → Bool} {nu : Nat → Nat} : ∀ (k lv ma g : Nat) (ft fc : Nat → Nat) (fr : Nat → Int32) (n t f : Nat) (rs im : Nat → Nat), pt_mi cn ma → pt_mi cn (pt_gb fs fz pb cn dl nu k lv ma g ft fc fr n t f rs im).2.2.1 := by
  intro k
  induction k with
  | zero => intro lv ma g ft fc fr n t f rs im h; exact h
  | succ k ih =>
    intro lv ma g ft fc fr n t f rs im h
    rw [pt_gb]
    split
    · exact ih _ _ _ _ _ _ _ _ _ _ _ h
    · split
      · exact ih _ _ _ _ _ _ _ _ _ _ _ h
      · dsimp only
        have h2 := mi_right (fs := fs) (lv := nb_d lv (2 ^ nu (k + 1))) (w := fz (nu (k + 1))) (pb := pb (nu (k + 1))) (x := fs (nu (k + 1))) (rs := rs) (im := im) h
        generalize pt_right fs (nb_d lv (2 ^ nu (k + 1))) ma cn (fz (nu (k + 1))) (pb (nu (k + 1))) (fs (nu (k + 1))) rs im = Z at h2 ⊢
        by_cases h1 : Z.1 = true
        · rw [if_pos h1]; exact ih _ _ _ _ _ _ _ _ _ _ _ h2
        · rw [if_neg h1]; exact h2
theorem mi_lt {cn mk : Nat} (h : pt_mi cn mk) (hc : cn ≤ 32) : mk < 2 ^ 33 := by
  apply Nat.lt_pow_two_of_testBit
  intro i hi
  cases hq : mk.testBit i with
  | false => rfl
  | true => have := h i hq; omega
theorem fb_cg {fs fz pb : Nat → Nat} {cn : Nat} {dl dl2 : Nat → Bool} {nu : Nat → Nat} {ma : Nat} {ft fc : Nat → Nat} {fr : Nat → Int32} : ∀ (k i lv nx : Nat) (cf : Bool) (n t f : Nat) (rs im : Nat → Nat), (∀ j, i ≤ j → j < i + k → dl j = dl2 j) → pt_fb fs fz pb cn dl nu ma ft fc fr k i lv nx cf n t f rs im = pt_fb fs fz pb cn dl2 nu ma ft fc fr k i lv nx cf n t f rs im := by
  intro k
  induction k with
  | zero => intro i lv nx cf n t f rs im _; rfl
  | succ k ih =>
    intro i lv nx cf n t f rs im h
    have ih2 := fun lv nx cf n t f rs im => ih (i + 1) lv nx cf n t f rs im (fun j a b => h j (by omega) (by omega))
    rw [pt_fb, pt_fb, h i (Nat.le_refl _) (by omega)]
    simp only [ih2]
/-- the hints, as both sides read and change them -/
theorem hr_hc {cn ba g : Nat} {ft fc : Nat → Nat} {fr : Nat → Int32} {hc : Nat → Nat} {hh : Nat → Int32} (h : pt_hr cn ba g ft fc fr hc hh) (hcn : cn ≤ 32) (j : Nat) (h1 : ba < j) (h2 : j ≤ cn) : pt_hc fc j = hc j := by
  unfold pt_hc
  rw [if_pos ⟨by omega, by omega⟩]
  exact h.1 j (by omega) (by omega)
theorem hr_hv {cn ba g : Nat} {ft fc : Nat → Nat} {fr : Nat → Int32} {hc : Nat → Nat} {hh : Nat → Int32} (h : pt_hr cn ba g ft fc fr hc hh) (hcn : cn ≤ 32) (j k : Nat) (h1 : ba < j) (h2 : j ≤ cn) : pt_hv ft fc fr j k = if k < hc j then hh (400 * (j - ba - 1) + k) else 0 := by
  unfold pt_hv
  rw [hr_hc h hcn j h1 h2]
  by_cases hk : k < hc j
  · rw [if_pos hk, if_pos hk]
    have he := h.1 j (by omega) (by omega)
    exact (h.2.1 j (by omega) (by omega) (by omega)).2.2.2.2 k (by omega)
  · rw [if_neg hk, if_neg hk]
/-- a clause that is none of those added has no hints -/
theorem hr_no {cn ba g : Nat} {ft fc : Nat → Nat} {fr : Nat → Int32} {hc : Nat → Nat} {hh : Nat → Int32} (h : pt_hr cn ba g ft fc fr hc hh) (j : Nat) (h1 : ¬ (ba < j ∧ j ≤ cn)) : pt_hc fc j = 0 := by
  unfold pt_hc
  by_cases hj : 1 ≤ j ∧ j ≤ 32
  · rw [if_pos hj]
    cases hq : fc j with
    | zero => rfl
    | succ q =>
      obtain ⟨a, b, _⟩ := h.2.1 j hj.1 hj.2 (by omega)
      exact absurd ⟨a, b⟩ h1
  · rw [if_neg hj]
theorem hr_poke {cn ba g c k : Nat} {x : Int32} {ft fc : Nat → Nat} {fr : Nat → Int32} {hc : Nat → Nat} {hh : Nat → Int32} (h : pt_hr cn ba g ft fc fr hc hh) (h1 : 1 ≤ c) (h2 : c ≤ 32) (hk : k < fc c) : pt_hr cn ba g ft fc (upd fr (ft c + k) x) hc (upd hh (400 * (c - ba - 1) + k) x) := by
  obtain ⟨a1, a2, a3⟩ := h
  refine ⟨a1, fun j j1 j2 j3 => ?_, a3⟩
  obtain ⟨b1, b2, b3, b4, b5⟩ := a2 j j1 j2 j3
  refine ⟨b1, b2, b3, b4, fun i hi => ?_⟩
  by_cases hj : j = c
  · subst hj
    unfold upd
    by_cases hik : i = k
    · subst hik; rw [if_pos rfl, if_pos rfl]
    · rw [if_neg (by omega), if_neg (by omega)]; exact b5 i hi
  · have c3 := a2 c h1 h2 (by omega)
    have d3 := a3 j c j1 j2 h1 h2 hj j3 (by omega)
    unfold upd
    rw [if_neg (by omega), if_neg (by omega)]
    exact b5 i hi
