/-! rows in order -/
def pt_rk (c : Nat) (fz fs : Nat → Nat) (fl : Nat → Int32) : Prop := ∀ i, 1 ≤ i → i ≤ c → ∃ bb pm, pt_row fl (i * 8) (fz i) bb pm (fs i)
theorem row_lt {gl : Nat → Int32} {a w : Nat} {bb pm : Nat → Nat} {z : Nat} (h : pt_row gl a w bb pm z) : z < 65536 := by
  obtain ⟨h8, h0, he, hk⟩ := h
  rw [← he]
  cases w with
  | zero => rw [h0]; decide
  | succ w =>
    obtain ⟨a1, a2, a3, a4, a5⟩ := hk w (by omega)
    rw [a4]
    exact Nat.or_lt_two_pow (n := 16) a5 (Nat.pow_lt_pow_right (by decide) a1)
theorem rk_0 {fz fs : Nat → Nat} {fl : Nat → Int32} : pt_rk 0 fz fs fl := fun i a b => by omega
theorem rk_8 {c i : Nat} {fz fs : Nat → Nat} {fl : Nat → Int32} (h : pt_rk c fz fs fl) (h1 : 1 ≤ i) (h2 : i ≤ c) : fz i ≤ 8 := by
  obtain ⟨bb, pm, hr⟩ := h i h1 h2
  exact hr.1
theorem rk_16 {c i : Nat} {fz fs : Nat → Nat} {fl : Nat → Int32} (h : pt_rk c fz fs fl) (h1 : 1 ≤ i) (h2 : i ≤ c) : fs i < 65536 := by
  obtain ⟨bb, pm, hr⟩ := h i h1 h2
  exact row_lt hr
theorem rk_le {c d : Nat} {fz fs : Nat → Nat} {fl : Nat → Int32} (h : pt_rk c fz fs fl) (h1 : d ≤ c) : pt_rk d fz fs fl := fun i a b => h i a (by omega)
theorem rk_beg {c : Nat} {fz fs : Nat → Nat} {fl : Nat → Int32} (h : pt_rk c fz fs fl) : pt_rk (c + 1) (va_up fz (c + 1) 0) (va_up fs (c + 1) 0) fl := by
  intro i h1 h2
  by_cases hi : i = c + 1
  · subst hi; rw [va_up_self, va_up_self]; exact ⟨_, _, row_e⟩
  · rw [va_up_ne _ _ hi, va_up_ne _ _ hi]; exact h i h1 (by omega)
theorem rk_app {c b : Nat} {fz fs : Nat → Nat} {fl : Nat → Int32} (hc : 1 ≤ c) (h : pt_rk c fz fs fl) (hb : b < 16) (hf : fs c &&& (2 ^ (b % 8) ||| 2 ^ (b % 8 + 8)) = 0) : pt_rk c (va_up fz c (fz c + 1)) (va_up fs c (fs c ||| 2 ^ b)) (upd fl (c * 8 + fz c) (pt_lit b)) := by
  intro i h1 h2
  obtain ⟨bb, pm, hr⟩ := h i h1 h2
  by_cases hi : i = c
  · subst hi
    rw [va_up_self, va_up_self]
    exact ⟨_, _, row_app hr hb hf (rm_step (row_rm hr (row_lt hr)) hb hf).1 (row_lt hr)⟩
  · rw [va_up_ne _ _ hi, va_up_ne _ _ hi]
    refine ⟨bb, pm, row_same hr (fun k hk => ?_)⟩
    have h8 := hr.1
    have h9 := rk_8 h hc (Nat.le_refl c)
    obtain ⟨bc, pc, hrc⟩ := h c hc (Nat.le_refl c)
    have hw := (rm_step (row_rm hrc (row_lt hrc)) hb hf).1
    unfold upd
    rw [if_neg (by omega)]
theorem rc_rk {t : Nat → Nat} {tn v c : Nat} (hc : 1 ≤ c) : ∀ (k q : Nat) (fz fs : Nat → Nat) (fl : Nat → Int32), pt_rk c fz fs fl → pt_rk c (pt_rc t tn v c k q fz fs fl).2.2.1 (pt_rc t tn v c k q fz fs fl).2.2.2.1 (pt_rc t tn v c k q fz fs fl).2.2.2.2 := by
  intro k
  induction k with
  | zero => intro q fz fs fl h; exact h
  | succ k ih =>
    intro q fz fs fl h
    rw [pt_rc]
    split
    · exact h
    · split
      · exact h
      · rename_i b hb
        by_cases h1 : v < b % 8 + 1 ∨ ¬ fs c &&& (2 ^ (b % 8) ||| 2 ^ (b % 8 + 8)) = 0
        · rw [if_pos h1]; exact h
        · rw [if_neg h1]
          refine ih _ _ _ _ (rk_app hc h (lof_some hb).1 ?_)
          by_cases h2 : fs c &&& (2 ^ (b % 8) ||| 2 ^ (b % 8 + 8)) = 0
          · exact h2
          · exact absurd (Or.inr h2) h1
theorem rc_16 {t : Nat → Nat} {tn v c : Nat} : ∀ (k q : Nat) (fz fs : Nat → Nat) (fl : Nat → Int32), (∀ j, fs j < 65536) → ∀ j, (pt_rc t tn v c k q fz fs fl).2.2.2.1 j < 65536 := by
  intro k
  induction k with
  | zero => intro q fz fs fl h; exact h
  | succ k ih =>
    intro q fz fs fl h
    rw [pt_rc]
    split
    · exact h
    · split
      · exact h
      · rename_i b hb
        by_cases h1 : v < b % 8 + 1 ∨ ¬ fs c &&& (2 ^ (b % 8) ||| 2 ^ (b % 8 + 8)) = 0
        · rw [if_pos h1]; exact h
        · rw [if_neg h1]
          refine ih _ _ _ _ (fun j => ?_)
          unfold va_up
          split
          · exact Nat.or_lt_two_pow (n := 16) (h c) (Nat.pow_lt_pow_right (by decide) (lof_some hb).1)
          · exact h j
theorem up_16 {fs : Nat → Nat} {c z : Nat} (h : ∀ j, fs j < 65536) (hz : z < 65536) : ∀ j, va_up fs c z j < 65536 := by
  intro j
  unfold va_up
  split
  · exact hz
  · exact h j
theorem rows_rk {t : Nat → Nat} {tn v : Nat} : ∀ (k c q : Nat) (fz fs : Nat → Nat) (fl : Nat → Int32), pt_rk c fz fs fl → pt_rk (pt_rows t tn v k c q fz fs fl).2.1 (pt_rows t tn v k c q fz fs fl).2.2.2.1 (pt_rows t tn v k c q fz fs fl).2.2.2.2.1 (pt_rows t tn v k c q fz fs fl).2.2.2.2.2 ∧ (pt_rows t tn v k c q fz fs fl).2.1 ≤ c + k ∧ ((pt_rows t tn v k c q fz fs fl).1 = true → (pt_rows t tn v k c q fz fs fl).2.1 = c + k) ∧ ((∀ j, fs j < 65536) → ∀ j, (pt_rows t tn v k c q fz fs fl).2.2.2.2.1 j < 65536) := by
  intro k
  induction k with
  | zero => intro c q fz fs fl h; exact ⟨h, Nat.le_refl _, fun _ => rfl, fun g => g⟩
  | succ k ih =>
    intro c q fz fs fl h
    have h2 := rc_rk (t := t) (tn := tn) (v := v) (c := c + 1) (by omega) 9 q (va_up fz (c + 1) 0) (va_up fs (c + 1) 0) fl (rk_beg h)
    have h3 := fun g => rc_16 (t := t) (tn := tn) (v := v) (c := c + 1) 9 q (va_up fz (c + 1) 0) (va_up fs (c + 1) 0) fl (up_16 g (by decide))
    rw [pt_rows]
    generalize pt_rc t tn v (c + 1) 9 q (va_up fz (c + 1) 0) (va_up fs (c + 1) 0) fl = Z at h2 h3 ⊢
    by_cases h1 : Z.1 = true
    · rw [if_pos h1]
      obtain ⟨a, b, d, e⟩ := ih (c + 1) Z.2.1 Z.2.2.1 Z.2.2.2.1 Z.2.2.2.2 h2
      exact ⟨a, by omega, fun q => by rw [d q]; omega, fun g => e (h3 g)⟩
    · rw [if_neg h1]
      exact ⟨h2, by show c + 1 ≤ _; omega, fun q => absurd (show false = true from q) (by decide), h3⟩
theorem prf_rk {t : Nat → Nat} {tn : Nat} : ∀ (k c q : Nat) (fz fs : Nat → Nat) (fl : Nat → Int32) (dd : Nat → Bool), pt_rk c fz fs fl → pt_rk (pt_prf t tn k c q fz fs fl dd).2.1 (pt_prf t tn k c q fz fs fl dd).2.2.1 (pt_prf t tn k c q fz fs fl dd).2.2.2.1 (pt_prf t tn k c q fz fs fl dd).2.2.2.2.1 ∧ (pt_prf t tn k c q fz fs fl dd).2.1 ≤ c + k ∧ ((∀ j, fs j < 65536) → ∀ j, (pt_prf t tn k c q fz fs fl dd).2.2.2.1 j < 65536) := by
  intro k
  induction k with
  | zero => intro c q fz fs fl dd h; exact ⟨h, Nat.le_refl _, fun g => g⟩
  | succ k ih =>
    intro c q fz fs fl dd h
    rw [pt_prf]
    by_cases h0 : pt_ws t tn q < pt_zz t tn q
    · rw [if_neg (fun z => z h0)]
      dsimp only
      generalize (if pt_w1 t (pt_ws t tn q) (pt_zz t tn q) 100 = true then pt_zz t tn q else q) = q2
      have h2 := rc_rk (t := t) (tn := tn) (v := 8) (c := c + 1) (by omega) 9 q2 (va_up fz (c + 1) 0) (va_up fs (c + 1) 0) fl (rk_beg h)
      have h3 := fun g => rc_16 (t := t) (tn := tn) (v := 8) (c := c + 1) 9 q2 (va_up fz (c + 1) 0) (va_up fs (c + 1) 0) fl (up_16 g (by decide))
      generalize pt_rc t tn 8 (c + 1) 9 q2 (va_up fz (c + 1) 0) (va_up fs (c + 1) 0) fl = Z at h2 h3 ⊢
      by_cases h1 : Z.1 = true
      · rw [if_pos h1]
        obtain ⟨a, b, e⟩ := ih (c + 1) Z.2.1 Z.2.2.1 Z.2.2.2.1 Z.2.2.2.2 (va_up dd (c + 1) (pt_w1 t (pt_ws t tn q) (pt_zz t tn q) 100)) h2
        exact ⟨a, by omega, fun g => e (h3 g)⟩
      · rw [if_neg h1]
        exact ⟨h2, by show c + 1 ≤ _; omega, h3⟩
    · rw [if_pos h0]
      exact ⟨h, by show c ≤ _; omega, fun g => g⟩
theorem lob_lt {x b : Nat} (h : pt_lob x = some b) : b < 16 := by
  unfold pt_lob at h
  split at h
  · have := Option.some.inj h
    split at this <;> omega
  · exact absurd h (by simp)
theorem rp_rk {t : Nat → Nat} {tn c : Nat} (hc : 1 ≤ c) : ∀ (k i : Nat) (fz fs : Nat → Nat) (fl : Nat → Int32), pt_rk c fz fs fl → pt_rk c (pt_rp t tn c k i fz fs fl).2.1 (pt_rp t tn c k i fz fs fl).2.2.1 (pt_rp t tn c k i fz fs fl).2.2.2 ∧ ((∀ j, fs j < 65536) → ∀ j, (pt_rp t tn c k i fz fs fl).2.2.1 j < 65536) := by
  intro k
  induction k with
  | zero => intro i fz fs fl h; exact ⟨h, fun g => g⟩
  | succ k ih =>
    intro i fz fs fl h
    rw [pt_rp]
    split
    · exact ⟨h, fun g => g⟩
    · split
      · exact ⟨h, fun g => g⟩
      · split
        · exact ⟨h, fun g => g⟩
        · rename_i b hb
          by_cases h1 : fs c &&& (2 ^ (b % 8) ||| 2 ^ (b % 8 + 8)) = 0
          · rw [if_neg (fun z => z h1)]
            obtain ⟨a, e⟩ := ih (i + 1) _ _ _ (rk_app hc h (lob_lt hb) h1)
            exact ⟨a, fun g => e (up_16 g (Nat.or_lt_two_pow (n := 16) (g c) (Nat.pow_lt_pow_right (by decide) (lob_lt hb))))⟩
          · rw [if_pos h1]; exact ⟨h, fun g => g⟩
theorem pck_rk {t : Nat → Nat} {tn : Nat} : ∀ (k c i : Nat) (fz fs : Nat → Nat) (fl : Nat → Int32) (dd : Nat → Bool), pt_rk c fz fs fl → pt_rk (pt_pck t tn k c i fz fs fl dd).2.1 (pt_pck t tn k c i fz fs fl dd).2.2.1 (pt_pck t tn k c i fz fs fl dd).2.2.2.1 (pt_pck t tn k c i fz fs fl dd).2.2.2.2.1 ∧ (pt_pck t tn k c i fz fs fl dd).2.1 ≤ c + k ∧ ((∀ j, fs j < 65536) → ∀ j, (pt_pck t tn k c i fz fs fl dd).2.2.2.1 j < 65536) := by
  intro k
  induction k with
  | zero => intro c i fz fs fl dd h; exact ⟨h, Nat.le_refl _, fun g => g⟩
  | succ k ih =>
    intro c i fz fs fl dd h
    rw [pt_pck]
    split
    · exact ⟨h, by show c ≤ _; omega, fun g => g⟩
    · split
      · exact ⟨h, by show c ≤ _; omega, fun g => g⟩
      · dsimp only
        obtain ⟨h2, h3⟩ := rp_rk (t := t) (tn := tn) (c := c + 1) (by omega) 9 (i + 1) (va_up fz (c + 1) 0) (va_up fs (c + 1) 0) fl (rk_beg h)
        generalize pt_rp t tn (c + 1) 9 (i + 1) (va_up fz (c + 1) 0) (va_up fs (c + 1) 0) fl = Z at h2 h3 ⊢
        by_cases h1 : Z.1 = (-1000)
        · rw [if_pos h1]
          exact ⟨h2, by show c + 1 ≤ _; omega, fun g => h3 (up_16 g (by decide))⟩
        · rw [if_neg h1]
          obtain ⟨a, b, e⟩ := ih (c + 1) (pt_num Z.1) Z.2.1 Z.2.2.1 Z.2.2.2 (va_up dd (c + 1) (decide (t i = 100))) h2
          exact ⟨a, by omega, fun g => e (h3 (up_16 g (by decide)))⟩
/-- a clause is taken over -/
theorem rk_cpy {n i c : Nat} {gz gs fz fs : Nat → Nat} {gl fl : Nat → Int32} (h : pt_rk n fz fs fl) (hg : pt_rk c gz gs gl) (h1 : 1 ≤ i) (h2 : i ≤ c) : pt_rk (n + 1) (va_up fz (n + 1) (gz i)) (va_up fs (n + 1) (gs i)) (va_cpy gl fl (i * 8) ((n + 1) * 8) (gz i)) := by
  intro j hj1 hj2
  have h8 := rk_8 hg h1 h2
  by_cases hj : j = n + 1
  · subst hj
    rw [va_up_self, va_up_self]
    obtain ⟨bb, pm, hr⟩ := hg i h1 h2
    refine ⟨bb, pm, row_same hr (fun k hk => ?_)⟩
    unfold va_cpy
    rw [if_pos (by omega), show (n + 1) * 8 + k - (n + 1) * 8 = k by omega]
  · rw [va_up_ne _ _ hj, va_up_ne _ _ hj]
    obtain ⟨bb, pm, hr⟩ := h j hj1 (by omega)
    refine ⟨bb, pm, row_same hr (fun k hk => ?_)⟩
    have := hr.1
    unfold va_cpy
    rw [if_neg (by omega)]
/-- the first k clauses are taken over -/
def pt_cps (gz gs : Nat → Nat) (gl : Nat → Int32) (fz fs : Nat → Nat) (fl : Nat → Int32) : Nat → (Nat → Nat) × (Nat → Nat) × (Nat → Int32)
  | 0 => (fz, fs, fl)
  | k + 1 => (va_up (pt_cps gz gs gl fz fs fl k).1 (k + 1) (gz (k + 1)), va_up (pt_cps gz gs gl fz fs fl k).2.1 (k + 1) (gs (k + 1)), va_cpy gl (pt_cps gz gs gl fz fs fl k).2.2 ((k + 1) * 8) ((k + 1) * 8) (gz (k + 1)))
theorem cps_rk {c : Nat} {gz gs fz fs : Nat → Nat} {gl fl : Nat → Int32} (hg : pt_rk c gz gs gl) : ∀ k, k ≤ c → pt_rk k (pt_cps gz gs gl fz fs fl k).1 (pt_cps gz gs gl fz fs fl k).2.1 (pt_cps gz gs gl fz fs fl k).2.2 ∧ ((∀ j, fs j < 65536) → ∀ j, (pt_cps gz gs gl fz fs fl k).2.1 j < 65536) := by
  intro k
  induction k with
  | zero => intro _; exact ⟨rk_0, fun g => g⟩
  | succ k ih =>
    intro hk
    obtain ⟨a, b⟩ := ih (by omega)
    exact ⟨rk_cpy a hg (by omega) hk, fun g => up_16 (b g) (rk_16 hg (by omega) hk)⟩
/-- clauses and steps fit together -/
def pt_sti (ba n : Nat) (fz fs : Nat → Nat) (fl : Nat → Int32) (k : Nat) (dl : Nat → Bool) (nu : Nat → Nat) : Prop :=
  pt_rk n fz fs fl ∧ (∀ j, fs j < 65536) ∧ ba ≤ n ∧ n ≤ ba + k ∧ (∀ a, 1 ≤ a → a ≤ k → nu a ≤ n ∧ (dl a = false → ba < nu a)) ∧ (∀ a b, 1 ≤ a → a < b → b ≤ k → dl b = false → nu a < nu b) ∧ (∀ a, 1 ≤ a → a ≤ k → dl a = true → nu a = 0 ∨ nu a ≤ ba ∨ ∃ b, 1 ≤ b ∧ b < a ∧ dl b = false ∧ nu b = nu a) ∧ (∀ a, nu a ≤ 32)
def pt_end (n : Nat) (fz : Nat → Nat) (k : Nat) (op : Bool) (dl : Nat → Bool) (nu : Nat → Nat) : Prop := op = false → 1 ≤ k ∧ dl k = false ∧ nu k = n ∧ fz n = 0
theorem last_in (P : Nat → Bool) : ∀ k, pt_last P k = 0 ∨ (1 ≤ pt_last P k ∧ P (pt_last P k) = true) := by
  intro k
  induction k with
  | zero => exact Or.inl rfl
  | succ k ih =>
    by_cases h : P (k + 1) = true
    · rw [pt_last_yes (by omega) h]; exact Or.inr ⟨by omega, h⟩
    · rw [pt_last_no (by omega) (by cases hq : P (k + 1) with
        | false => rfl
        | true => exact absurd hq h)]
      exact ih
theorem set_ok {ba c : Nat} {gz gs : Nat → Nat} {gl : Nat → Int32} {dd : Nat → Bool} (hg : pt_rk c gz gs gl) (hb : ba ≤ 16) (hc16 : c ≤ 16) : ∀ (r i lv n : Nat) (fz fs : Nat → Nat) (fl : Nat → Int32) (k : Nat) (op : Bool) (dl : Nat → Bool) (nu : Nat → Nat), i = k + 1 → k + r ≤ c → pt_sti ba n fz fs fl k dl nu → pt_end n fz k op dl nu → pt_lok ba dl nu k lv →
    pt_sti ba (pt_set gz gs gl dd r i lv n fz fs fl k op dl nu).1 (pt_set gz gs gl dd r i lv n fz fs fl k op dl nu).2.1 (pt_set gz gs gl dd r i lv n fz fs fl k op dl nu).2.2.1 (pt_set gz gs gl dd r i lv n fz fs fl k op dl nu).2.2.2.1 (pt_set gz gs gl dd r i lv n fz fs fl k op dl nu).2.2.2.2.1 (pt_set gz gs gl dd r i lv n fz fs fl k op dl nu).2.2.2.2.2.2.1 (pt_set gz gs gl dd r i lv n fz fs fl k op dl nu).2.2.2.2.2.2.2 ∧
    pt_end (pt_set gz gs gl dd r i lv n fz fs fl k op dl nu).1 (pt_set gz gs gl dd r i lv n fz fs fl k op dl nu).2.1 (pt_set gz gs gl dd r i lv n fz fs fl k op dl nu).2.2.2.2.1 (pt_set gz gs gl dd r i lv n fz fs fl k op dl nu).2.2.2.2.2.1 (pt_set gz gs gl dd r i lv n fz fs fl k op dl nu).2.2.2.2.2.2.1 (pt_set gz gs gl dd r i lv n fz fs fl k op dl nu).2.2.2.2.2.2.2 ∧ (pt_set gz gs gl dd r i lv n fz fs fl k op dl nu).2.2.2.2.1 ≤ k + r := by
  intro r
  induction r with
  | zero => intro i lv n fz fs fl k op dl nu hi hr h he hl; exact ⟨h, he, Nat.le_refl _⟩
  | succ r ih =>
    intro i lv n fz fs fl k op dl nu hi hr h he hl
    rw [pt_set]
    by_cases ho : op = false
    · rw [if_pos ho]; exact ⟨h, he, by show k ≤ _; omega⟩
    · rw [if_neg ho]
      obtain ⟨s1, s2, s3, s4, s5, s6, s7, s8⟩ := h
      subst hi
      by_cases hd : dd (k + 1) = true
      · rw [if_pos hd, hd]
        have hli := last_in (fun j => lv.testBit j && decide (fs j = gs (k + 1))) n
        have hll := pt_last_le (fun j => lv.testBit j && decide (fs j = gs (k + 1))) n
        generalize pt_last (fun j => lv.testBit j && decide (fs j = gs (k + 1))) n = z at hli hll ⊢
        have hz : z = 0 ∨ z ≤ ba ∨ ∃ b, 1 ≤ b ∧ b ≤ k ∧ dl b = false ∧ nu b = z := by
          rcases hli with q | ⟨q1, q2⟩
          · exact Or.inl q
          · rw [Bool.and_eq_true] at q2
            exact Or.inr (hl z q1 q2.1)
        refine have R := ih (k + 1 + 1) (nb_d lv (2 ^ z)) n fz fs fl (k + 1) op (va_up dl (k + 1) true) (va_up nu (k + 1) z) rfl (by omega) ⟨s1, s2, s3, by omega, fun a a1 a2 => ?_, fun a b a1 a2 a3 a4 => ?_, fun a a1 a2 a3 => ?_, fun a => ?_⟩ (fun q => absurd q ho) (fun j j1 j2 => ?_); ⟨R.1, R.2.1, Nat.le_trans R.2.2 (by omega)⟩
        · by_cases hak : a = k + 1
          · subst hak; rw [va_up_self, va_up_self]; exact ⟨hll, fun q => absurd q (by decide)⟩
          · rw [va_up_ne _ _ hak, va_up_ne _ _ hak]; exact s5 a a1 (by omega)
        · by_cases hbk : b = k + 1
          · subst hbk; rw [va_up_self] at a4; exact absurd a4 (by decide)
          · rw [va_up_ne _ _ hbk] at a4
            rw [va_up_ne _ _ hbk, va_up_ne _ _ (by omega)]
            exact s6 a b a1 a2 (by omega) a4
        · by_cases hak : a = k + 1
          · subst hak
            rw [va_up_self]
            rcases hz with q | q | ⟨b, b1, b2, b3, b4⟩
            · exact Or.inl q
            · exact Or.inr (Or.inl q)
            · exact Or.inr (Or.inr ⟨b, b1, by omega, by rw [va_up_ne _ _ (by omega)]; exact b3, by rw [va_up_ne _ _ (by omega)]; exact b4⟩)
          · rw [va_up_ne _ _ hak] at a3
            rw [va_up_ne _ _ hak]
            rcases s7 a a1 (by omega) a3 with q | q | ⟨b, b1, b2, b3, b4⟩
            · exact Or.inl q
            · exact Or.inr (Or.inl q)
            · exact Or.inr (Or.inr ⟨b, b1, b2, by rw [va_up_ne _ _ (by omega)]; exact b3, by rw [va_up_ne _ _ (by omega)]; exact b4⟩)
        · unfold va_up
          split
          · omega
          · exact s8 a
        · rw [nb_d_bit, Bool.and_eq_true] at j2
          rcases hl j j1 j2.1 with q | ⟨b, b1, b2, b3, b4⟩
          · exact Or.inl q
          · exact Or.inr ⟨b, b1, by omega, by rw [va_up_ne _ _ (by omega)]; exact b3, by rw [va_up_ne _ _ (by omega)]; exact b4⟩
      · rw [if_neg hd]
        have hd : dd (k + 1) = false := by cases hq : dd (k + 1) with
          | false => rfl
          | true => exact absurd hq hd
        rw [hd]
        refine have R := ih (k + 1 + 1) (lv ||| 2 ^ (n + 1)) (n + 1) (va_up fz (n + 1) (gz (k + 1))) (va_up fs (n + 1) (gs (k + 1))) (va_cpy gl fl ((k + 1) * 8) ((n + 1) * 8) (gz (k + 1))) (k + 1) (!decide (gz (k + 1) = 0)) (va_up dl (k + 1) false) (va_up nu (k + 1) (n + 1)) rfl (by omega) ⟨rk_cpy s1 hg (by omega) (by omega), up_16 s2 (rk_16 hg (by omega) (by omega)), by omega, by omega, fun a a1 a2 => ?_, fun a b a1 a2 a3 a4 => ?_, fun a a1 a2 a3 => ?_, fun a => ?_⟩ (fun q => ?_) (fun j j1 j2 => ?_); ⟨R.1, R.2.1, Nat.le_trans R.2.2 (by omega)⟩
        · by_cases hak : a = k + 1
          · subst hak; rw [va_up_self]; exact ⟨Nat.le_refl _, fun _ => by omega⟩
          · rw [va_up_ne _ _ hak, va_up_ne _ _ hak]
            obtain ⟨x1, x2⟩ := s5 a a1 (by omega)
            exact ⟨by omega, x2⟩
        · by_cases hbk : b = k + 1
          · subst hbk
            rw [va_up_self, va_up_ne _ _ (by omega)]
            have := (s5 a a1 (by omega)).1
            omega
          · rw [va_up_ne _ _ hbk] at a4
            rw [va_up_ne _ _ hbk, va_up_ne _ _ (by omega)]
            exact s6 a b a1 a2 (by omega) a4
        · by_cases hak : a = k + 1
          · subst hak; rw [va_up_self] at a3; exact absurd a3 (by decide)
          · rw [va_up_ne _ _ hak] at a3
            rw [va_up_ne _ _ hak]
            rcases s7 a a1 (by omega) a3 with q | q | ⟨b, b1, b2, b3, b4⟩
            · exact Or.inl q
            · exact Or.inr (Or.inl q)
            · exact Or.inr (Or.inr ⟨b, b1, b2, by rw [va_up_ne _ _ (by omega)]; exact b3, by rw [va_up_ne _ _ (by omega)]; exact b4⟩)
        · unfold va_up
          split
          · omega
          · exact s8 a
        · refine ⟨by omega, va_up_self _ _ _, va_up_self _ _ _, ?_⟩
          rw [va_up_self]
          cases hq : decide (gz (k + 1) = 0) with
          | false => rw [hq] at q; exact absurd q (by decide)
          | true => exact of_decide_eq_true hq
        · rw [Nat.testBit_or, Nat.testBit_two_pow] at j2
          rcases Bool.or_eq_true_iff.mp j2 with j2 | j2
          · rcases hl j j1 j2 with q | ⟨b, b1, b2, b3, b4⟩
            · exact Or.inl q
            · exact Or.inr ⟨b, b1, by omega, by rw [va_up_ne _ _ (by omega)]; exact b3, by rw [va_up_ne _ _ (by omega)]; exact b4⟩
          · exact Or.inr ⟨k + 1, by omega, Nat.le_refl _, va_up_self _ _ _, by rw [va_up_self]; exact of_decide_eq_true j2⟩
theorem lok_0 {ba : Nat} {dl : Nat → Bool} {nu : Nat → Nat} : pt_lok ba dl nu 0 (2 ^ (ba + 1) - 2) := by
  intro j h1 h2
  rw [fo_bit h1] at h2
  exact Or.inl (of_decide_eq_true h2)
/-- the bit of a clause's first literal, and of its opposite -/
def pt_qb (fl : Nat → Int32) (j : Nat) : Nat := (pt_lof (fl (j * 8))).getD 0
def pt_pb (fl : Nat → Int32) (j : Nat) : Nat := (pt_qb fl j + 8) % 16
theorem qb_lit {n j : Nat} {fz fs : Nat → Nat} {fl : Nat → Int32} (h : pt_rk n fz fs fl) (h1 : 1 ≤ j) (h2 : j ≤ n) (h3 : 1 ≤ fz j) : pt_qb fl j < 16 ∧ fl (j * 8) = pt_lit (pt_qb fl j) ∧ (pt_qb fl j + 8) % 16 = pt_pb fl j ∧ (nb_op (fs j)).testBit (pt_pb fl j) = true := by
  obtain ⟨bb, pm, hr⟩ := h j h1 h2
  obtain ⟨a1, a2, a3, a4, a5⟩ := hr.2.2.2 0 (by omega)
  rw [Nat.add_zero] at a2
  have hq : pt_qb fl j = bb 0 := by
    unfold pt_qb
    rw [a2, lof_lit _ a1]; rfl
  have hbit : (fs j).testBit (bb 0) = true := by
    have := (row_bits hr (fz j) (Nat.le_refl _) (bb 0)).mpr ⟨0, by omega, rfl⟩
    rw [hr.2.2.1] at this
    exact this
  refine ⟨by rw [hq]; exact a1, by rw [hq]; exact a2, rfl, ?_⟩
  unfold pt_pb
  rw [hq, nb_op_bit (row_lt hr)]
  by_cases h8 : bb 0 < 8
  · rw [if_neg (by omega), if_pos (by omega), show (bb 0 + 8) % 16 - 8 = bb 0 by omega]; exact hbit
  · rw [if_pos (by omega), show (bb 0 + 8) % 16 + 8 = bb 0 by omega]; exact hbit
/-- what a check finds is the same on both sides, and fits -/
theorem chk_both {ba n k : Nat} {fz fs : Nat → Nat} {fl : Nat → Int32} {dl dl2 : Nat → Bool} {nu : Nat → Nat} (h : pt_sti ba n fz fs fl k dl nu) (he : pt_end n fz k false dl nu) (hb : ba ≤ 16) (hk : k ≤ 16) (hdl : ∀ i, 1 ≤ i → i ≤ k → dl i = dl2 i)
    (g : Nat) (hg : g = 0) (ft fc : Nat → Nat) (fr : Nat → Int32) (m t f : Nat) (rs im : Nat → Nat) (hc : Nat → Nat) (hh : Nat → Int32) (rs2 im2 : Nat → Nat) (hf0 : ∀ j, 1 ≤ j → j ≤ 32 → fc j = 0) (hc0 : ∀ j, 1 ≤ j → j ≤ 32 → hc j = 0) (hc4 : ∀ j, hc j ≤ 400)
    {X : Nat × pt_S} (hX : pt_gb fs fz (pt_pb fl) n dl nu k (pt_live dl nu k 1 (2 ^ (ba + 1) - 2)) (2 ^ n) g ft fc fr m t f rs im = X) {Y : Nat × Nat × (Nat → Nat) × (Nat → Int32)} (hY : pm_gb fs fz (pt_pb fl) n ba dl2 nu k (pt_live dl2 nu k 1 (2 ^ (ba + 1) - 2)) (2 ^ n) hc hh rs2 im2 = Y) :
    X.1 = Y.1 ∧ X.2.2.1 = Y.2.1 ∧ X.2.2.2.1 ≤ 2048 ∧ (∀ j, Y.2.2.1 j ≤ 400) ∧ pt_hr n ba X.2.2.2.1 X.2.2.2.2.1 X.2.2.2.2.2.1 X.2.2.2.2.2.2.1 Y.2.2.1 Y.2.2.2 := by
  subst hg
  obtain ⟨s1, s2, s3, s4, s5, s6, s7, s8⟩ := h
  obtain ⟨e1, e2, e3, e4⟩ := he rfl
  rw [← live_cg (dl := dl) (dl2 := dl2) k 1 _ (fun j a b => hdl j a (by omega)), ← pm_cg (dl := dl) (dl2 := dl2) k _ _ _ _ _ _ (fun j a b => hdl j a b)] at hY
  subst hX hY
  have hbn : ba < n := by have := (s5 k e1 (Nat.le_refl _)).2 e2; omega
  have hr := gb_rel (fs := fs) (fz := fz) (pb := pt_pb fl) (cn := n) (ba := ba) (K := k) (dl := dl) (nu := nu) (β := fun c => if c = ba + (n - ba) then 9 else 63 + 9 * (c - ba)) s2 (by omega) hb (fun j a b d => by
      have q := qb_lit s1 a b d
      exact ⟨by rw [← q.2.2.1]; omega, q.2.2.2⟩) (fun i a b d => by
      by_cases hi : nu i = ba + (n - ba)
      · rw [if_pos hi, hi, show ba + (n - ba) = n by omega, if_pos e4]; exact Nat.le_refl _
      · rw [if_neg hi]
        split
        · omega
        · exact Nat.le_refl _) (by omega) (fun i j a b d _ e => s6 i j a b d e) (fun i a b d => ⟨(s5 i a b).2 d, (s5 i a b).1⟩) s7
    k (pt_live dl nu k 1 (2 ^ (ba + 1) - 2)) (2 ^ n) 0 ft fc fr m t f rs im hc hh rs2 im2 (n + 1) (Nat.le_refl _) (by
      have q := live_ok (ba := ba) (dl := dl) (nu := nu) k 1 (2 ^ (ba + 1) - 2) (Nat.le_refl _) lok_0
      rw [show 1 - 1 + k = k by omega] at q
      exact q) (fun i a b d => ⟨by have := (s5 i a b).1; omega, hf0 _ (by have := (s5 i a b).2 d; omega) (s8 i)⟩) (by omega) ⟨fun j a b => by rw [hf0 j a b, hc0 j a b], fun j a b q => absurd (hf0 j a b) q, fun i j a b d e _ q => absurd (hf0 i a b) q⟩ hc4
  obtain ⟨r1, r2, r3, r4, r5⟩ := hr
  refine ⟨r1, r2, ?_, r4, r5⟩
  refine Nat.le_trans r3 ?_
  rw [Nat.zero_add, show n + 1 - ba - 1 = n - ba by omega]
  exact sb_2048 (by omega)
