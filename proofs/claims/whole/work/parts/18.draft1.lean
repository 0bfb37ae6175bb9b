/-! a clause is read -/
/-- behind the next word -/
def pt_zz (t : Nat → Nat) (n q : Nat) : Nat := pt_we t n (pt_ws t n q)
theorem zz_le {t : Nat → Nat} {n q : Nat} (h : q ≤ n) : pt_zz t n q ≤ n := we_le (ws_le h)
theorem zz_ge (t : Nat → Nat) (n q : Nat) : q ≤ pt_zz t n q := Nat.le_trans (ws_ge t n q) (we_ge t n _)
theorem ws_zz (t : Nat → Nat) (n q : Nat) : pt_ws t n q ≤ pt_zz t n q := we_ge t n _
theorem ws_lt {t : Nat → Nat} {n q : Nat} (h : pt_ws t n q < n) : pt_ws t n q < pt_zz t n q := by
  have h1 := pt_skip_end (fun j => pt_gap (t j)) n q
  have h2 : pt_gap (t (pt_ws t n q)) = false := by
    cases hg : pt_gap (t (pt_ws t n q)) with
    | false => rfl
    | true => exact absurd ⟨h, hg⟩ h1
  unfold pt_zz
  rw [we_step h (by rw [h2]; rfl)]
  exact we_ge t n _
/-- the bit of a literal -/
def pt_lof (x : Int32) : Option Nat := (List.range 16).find? (fun b => decide (pt_lit b = x))
theorem lof_lit : ∀ b, b < 16 → pt_lof (pt_lit b) = some b := by decide +kernel
theorem lof_some {x : Int32} {b : Nat} (h : pt_lof x = some b) : b < 16 ∧ x = pt_lit b := by
  unfold pt_lof at h
  have h1 := List.find?_some h
  have h2 := List.mem_of_find?_eq_some h
  exact ⟨List.mem_range.mp h2, (of_decide_eq_true h1).symm⟩
theorem lof_none {x : Int32} (h : pt_lof x = none) : pt_no x := by
  unfold pt_lof at h
  rw [List.find?_eq_none] at h
  have h1 : ∀ b, b < 16 → ¬ pt_lit b = x := fun b hb q => h b (List.mem_range.mpr hb) (decide_eq_true q)
  have ht : ∀ b, b < 16 → ¬ (pt_lit b).toInt = x.toInt := fun b hb q => h1 b hb (Int32.toInt_inj.mp q)
  have e1 : (nI 1).toInt = 1 := by decide
  have e8 : (nI 8).toInt = 8 := by decide
  have e0 : (0 : Int32).toInt = 0 := rfl
  have hv : ∀ z : Int, (∃ b, b < 16 ∧ (pt_lit b).toInt = z) → x.toInt = z → False := by
    intro z hz q
    obtain ⟨b, hb, hbz⟩ := hz
    exact ht b hb (hbz.trans q.symm)
  unfold pt_no
  by_cases hx : 0 ≤ x
  · rw [if_pos hx, Int32.lt_iff_toInt_lt, Int32.lt_iff_toInt_lt, e1, e8]
    have hx0 := Int32.le_iff_toInt_le.mp hx
    rw [e0] at hx0
    by_cases hlo : x.toInt < 1
    · exact Or.inl hlo
    · by_cases hhi : 8 < x.toInt
      · exact Or.inr hhi
      · exfalso
        have hc : x.toInt = 1 ∨ x.toInt = 2 ∨ x.toInt = 3 ∨ x.toInt = 4 ∨ x.toInt = 5 ∨ x.toInt = 6 ∨ x.toInt = 7 ∨ x.toInt = 8 := by omega
        rcases hc with q | q | q | q | q | q | q | q
        · exact hv 1 ⟨0, by decide, by decide⟩ q
        · exact hv 2 ⟨1, by decide, by decide⟩ q
        · exact hv 3 ⟨2, by decide, by decide⟩ q
        · exact hv 4 ⟨3, by decide, by decide⟩ q
        · exact hv 5 ⟨4, by decide, by decide⟩ q
        · exact hv 6 ⟨5, by decide, by decide⟩ q
        · exact hv 7 ⟨6, by decide, by decide⟩ q
        · exact hv 8 ⟨7, by decide, by decide⟩ q
  · rw [if_neg hx, Int32.lt_iff_toInt_lt, Int32.lt_iff_toInt_lt, e1, e8]
    have hx0 : x.toInt < 0 := by
      have : ¬ (0 : Int32).toInt ≤ x.toInt := fun q => hx (Int32.le_iff_toInt_le.mpr q)
      rw [e0] at this; omega
    have hsub : (0 - x).toInt = (0 - x.toInt).bmod (2 ^ 32) := by rw [Int32.toInt_sub, e0]
    by_cases hlo : x.toInt < -8
    · have hr := Int32.le_toInt x
      by_cases hm : x.toInt = -2147483648
      · left; rw [hsub, hm]; decide
      · right
        rw [hsub, Int.bmod_eq_of_le (by omega) (by omega)]
        omega
    · exfalso
      have hc : x.toInt = -1 ∨ x.toInt = -2 ∨ x.toInt = -3 ∨ x.toInt = -4 ∨ x.toInt = -5 ∨ x.toInt = -6 ∨ x.toInt = -7 ∨ x.toInt = -8 := by omega
      rcases hc with q | q | q | q | q | q | q | q
      · exact hv (-1) ⟨8, by decide, by decide⟩ q
      · exact hv (-2) ⟨9, by decide, by decide⟩ q
      · exact hv (-3) ⟨10, by decide, by decide⟩ q
      · exact hv (-4) ⟨11, by decide, by decide⟩ q
      · exact hv (-5) ⟨12, by decide, by decide⟩ q
      · exact hv (-6) ⟨13, by decide, by decide⟩ q
      · exact hv (-7) ⟨14, by decide, by decide⟩ q
      · exact hv (-8) ⟨15, by decide, by decide⟩ q
/-- both literals of a bit's variable -/
def pt_pair (b : Nat) : Nat := 2 ^ (b % 8) ||| 2 ^ (b % 8 + 8)
theorem pair_bits {x b : Nat} (hb : b < 16) (h : x &&& (2 ^ (b % 8) ||| 2 ^ (b % 8 + 8)) = 0) : x.testBit b = false ∧ x.testBit ((b + 8) % 16) = false := by
  have key : ∀ i, (2 ^ (b % 8) ||| 2 ^ (b % 8 + 8)).testBit i = true → x.testBit i = false := by
    intro i hi
    have h1 : (x &&& (2 ^ (b % 8) ||| 2 ^ (b % 8 + 8))).testBit i = false := by rw [h]; exact Nat.zero_testBit i
    rw [Nat.testBit_and, hi, Bool.and_true] at h1
    exact h1
  constructor
  · apply key
    rw [Nat.testBit_or, Nat.testBit_two_pow, Nat.testBit_two_pow]
    by_cases h8 : b < 8
    · rw [decide_eq_true (by omega)]; rfl
    · rw [decide_eq_true (show b % 8 + 8 = b by omega), Bool.or_true]
  · apply key
    rw [Nat.testBit_or, Nat.testBit_two_pow, Nat.testBit_two_pow]
    by_cases h8 : b < 8
    · rw [decide_eq_true (show b % 8 + 8 = (b + 8) % 16 by omega), Bool.or_true]
    · rw [decide_eq_true (show b % 8 = (b + 8) % 16 by omega)]; rfl
/-- there is room in the row -/
def pt_rm (w x : Nat) : Prop := w + pt_free x ≤ 8 ∧ x < 65536
theorem rm_step {w x b : Nat} (h : pt_rm w x) (hb : b < 16) (hf : x &&& (2 ^ (b % 8) ||| 2 ^ (b % 8 + 8)) = 0) : w < 8 ∧ pt_rm (w + 1) (x ||| 2 ^ b) := by
  obtain ⟨h1, h2⟩ := pair_bits hb hf
  have h3 := free_or x b hb h1 h2
  obtain ⟨h4, h5⟩ := h
  exact ⟨by omega, by omega, Nat.or_lt_two_pow (n := 16) h5 (Nat.pow_lt_pow_right (by decide) hb)⟩
abbrev pt_R : Type := Bool × Nat × (Nat → Nat) × (Nat → Nat) × (Nat → Int32)
/-- the integers of a clause c are read, k of them yet: whether it was in order, behind which word it stands, the rows -/
def pt_rc (t : Nat → Nat) (tn v c : Nat) : Nat → Nat → (Nat → Nat) → (Nat → Nat) → (Nat → Int32) → pt_R
  | 0, q, fz, fs, fl => (false, q, fz, fs, fl)
  | k + 1, q, fz, fs, fl =>
    if pt_intv t (pt_ws t tn q) (pt_zz t tn q) = 0 then (true, pt_zz t tn q, fz, fs, fl)
    else match pt_lof (pt_intv t (pt_ws t tn q) (pt_zz t tn q)) with
      | none => (false, pt_zz t tn q, fz, fs, fl)
      | some b => if v < b % 8 + 1 ∨ ¬ fs c &&& (2 ^ (b % 8) ||| 2 ^ (b % 8 + 8)) = 0 then (false, pt_zz t tn q, fz, fs, fl)
        else pt_rc t tn v c k (pt_zz t tn q) (va_up fz c (fz c + 1)) (va_up fs c (fs c ||| 2 ^ b)) (upd fl (c * 8 + fz c) (pt_lit b))
abbrev pt_K : Type := Int32 × (Nat → Nat) × (Nat → Nat) × (Nat → Int32)
/-- the literal's bit of a byte -/
def pt_lob (x : Nat) : Option Nat := if 1 ≤ x / 2 ∧ x / 2 ≤ 8 then some (if x % 2 = 0 then x / 2 - 1 else x / 2 + 7) else none
/-- the bytes of a clause are read: the place behind it, or that there is none -/
def pt_rp (t : Nat → Nat) (tn c : Nat) : Nat → Nat → (Nat → Nat) → (Nat → Nat) → (Nat → Int32) → pt_K
  | 0, _, fz, fs, fl => (-1000, fz, fs, fl)
  | k + 1, i, fz, fs, fl =>
    if tn ≤ i then (-1000, fz, fs, fl)
    else if t i = 0 then (nI (i + 1), fz, fs, fl)
    else match pt_lob (t i) with
      | none => (-1000, fz, fs, fl)
      | some b => if ¬ fs c &&& (2 ^ (b % 8) ||| 2 ^ (b % 8 + 8)) = 0 then (-1000, fz, fs, fl)
        else pt_rp t tn c k (i + 1) (va_up fz c (fz c + 1)) (va_up fs c (fs c ||| 2 ^ b)) (upd fl (c * 8 + fz c) (pt_lit b))
theorem lob_some : ∀ x, x < 256 → ∀ b, pt_lob x = some b → b < 16 ∧ (if x % 2 = 0 then nI (x / 2) else -nI (x / 2)) = pt_lit b := by
  intro x hx b h
  unfold pt_lob at h
  split at h
  · rename_i h1
    have h2 := Option.some.inj h
    subst h2
    by_cases h3 : x % 2 = 0
    · rw [if_pos h3, if_pos h3]
      refine ⟨by omega, ?_⟩
      rw [pt_lit, if_pos (by omega), show x / 2 - 1 + 1 = x / 2 by omega]
    · rw [if_neg h3, if_neg h3]
      refine ⟨by omega, ?_⟩
      rw [pt_lit, if_neg (by omega), show x / 2 + 7 - 7 = x / 2 by omega]
  · exact absurd h (by simp)
theorem lob_none : ∀ x, x < 256 → pt_lob x = none → pt_no (if x % 2 = 0 then nI (x / 2) else -nI (x / 2)) := by
  intro x hx h
  unfold pt_lob at h
  split at h
  · exact absurd h (by simp)
  · rename_i h1
    have key : ∀ y, y < 128 → ¬ (1 ≤ y ∧ y ≤ 8) → pt_no (nI y) ∧ pt_no (-nI y) := by
      unfold pt_no
      decide +kernel
    have h2 := key (x / 2) (by omega) h1
    split
    · exact h2.1
    · exact h2.2
theorem no_500 : pt_no ((-1000 : Int32) >>> (nI 1 &&& 31)) := by unfold pt_no; decide +kernel

theorem dc_Dr_readClause_0 : decode bc_Dr_readClause 0 = .ok (.aload_n 0, 1) := by decide +kernel
theorem dc_Dr_readClause_1 : decode bc_Dr_readClause 1 = .ok (.getfield 20, 3) := by decide +kernel
theorem dc_Dr_readClause_4 : decode bc_Dr_readClause 4 = .ok (.invokevirtual 74, 3) := by decide +kernel
theorem dc_Dr_readClause_7 : decode bc_Dr_readClause 7 = .ok (.ifCond .ne (5), 3) := by decide +kernel
theorem dc_Dr_readClause_10 : decode bc_Dr_readClause 10 = .ok (.iconst 0, 1) := by decide +kernel
theorem dc_Dr_readClause_11 : decode bc_Dr_readClause 11 = .ok (.ireturn, 1) := by decide +kernel
theorem dc_Dr_readClause_12 : decode bc_Dr_readClause 12 = .ok (.iconst 0, 1) := by decide +kernel
theorem dc_Dr_readClause_13 : decode bc_Dr_readClause 13 = .ok (.istore_n 3, 1) := by decide +kernel
theorem dc_Dr_readClause_14 : decode bc_Dr_readClause 14 = .ok (.iload_n 3, 1) := by decide +kernel
theorem dc_Dr_readClause_15 : decode bc_Dr_readClause 15 = .ok (.bipush (8), 2) := by decide +kernel
theorem dc_Dr_readClause_17 : decode bc_Dr_readClause 17 = .ok (.if_icmp .gt (49), 3) := by decide +kernel
theorem dc_Dr_readClause_20 : decode bc_Dr_readClause 20 = .ok (.aload_n 1, 1) := by decide +kernel
theorem dc_Dr_readClause_21 : decode bc_Dr_readClause 21 = .ok (.invokevirtual 43, 3) := by decide +kernel
theorem dc_Dr_readClause_24 : decode bc_Dr_readClause 24 = .ok (.istore 4, 2) := by decide +kernel
theorem dc_Dr_readClause_26 : decode bc_Dr_readClause 26 = .ok (.aload_n 1, 1) := by decide +kernel
theorem dc_Dr_readClause_27 : decode bc_Dr_readClause 27 = .ok (.invokevirtual 47, 3) := by decide +kernel
theorem dc_Dr_readClause_30 : decode bc_Dr_readClause 30 = .ok (.iload 4, 2) := by decide +kernel
theorem dc_Dr_readClause_32 : decode bc_Dr_readClause 32 = .ok (.ifCond .ne (5), 3) := by decide +kernel
theorem dc_Dr_readClause_35 : decode bc_Dr_readClause 35 = .ok (.iconst 1, 1) := by decide +kernel
theorem dc_Dr_readClause_36 : decode bc_Dr_readClause 36 = .ok (.ireturn, 1) := by decide +kernel
theorem dc_Dr_readClause_37 : decode bc_Dr_readClause 37 = .ok (.iload 4, 2) := by decide +kernel
theorem dc_Dr_readClause_39 : decode bc_Dr_readClause 39 = .ok (.invokestatic 77, 3) := by decide +kernel
theorem dc_Dr_readClause_42 : decode bc_Dr_readClause 42 = .ok (.iload_n 2, 1) := by decide +kernel
theorem dc_Dr_readClause_43 : decode bc_Dr_readClause 43 = .ok (.if_icmp .gt (15), 3) := by decide +kernel
theorem dc_Dr_readClause_46 : decode bc_Dr_readClause 46 = .ok (.aload_n 0, 1) := by decide +kernel
theorem dc_Dr_readClause_47 : decode bc_Dr_readClause 47 = .ok (.getfield 20, 3) := by decide +kernel
theorem dc_Dr_readClause_50 : decode bc_Dr_readClause 50 = .ok (.iload 4, 2) := by decide +kernel
theorem dc_Dr_readClause_52 : decode bc_Dr_readClause 52 = .ok (.invokevirtual 80, 3) := by decide +kernel
theorem dc_Dr_readClause_55 : decode bc_Dr_readClause 55 = .ok (.ifCond .ne (5), 3) := by decide +kernel
theorem dc_Dr_readClause_58 : decode bc_Dr_readClause 58 = .ok (.iconst 0, 1) := by decide +kernel
theorem dc_Dr_readClause_59 : decode bc_Dr_readClause 59 = .ok (.ireturn, 1) := by decide +kernel
theorem dc_Dr_readClause_60 : decode bc_Dr_readClause 60 = .ok (.iinc 3 (1), 3) := by decide +kernel
theorem dc_Dr_readClause_63 : decode bc_Dr_readClause 63 = .ok (.goto (-49), 3) := by decide +kernel
theorem dc_Dr_readClause_66 : decode bc_Dr_readClause 66 = .ok (.iconst 0, 1) := by decide +kernel
theorem dc_Dr_readClause_67 : decode bc_Dr_readClause 67 = .ok (.ireturn, 1) := by decide +kernel
theorem dc_Dr_readPackedClause_0 : decode bc_Dr_readPackedClause 0 = .ok (.aload_n 0, 1) := by decide +kernel
theorem dc_Dr_readPackedClause_1 : decode bc_Dr_readPackedClause 1 = .ok (.getfield 20, 3) := by decide +kernel
theorem dc_Dr_readPackedClause_4 : decode bc_Dr_readPackedClause 4 = .ok (.invokevirtual 74, 3) := by decide +kernel
theorem dc_Dr_readPackedClause_7 : decode bc_Dr_readPackedClause 7 = .ok (.ifCond .ne (7), 3) := by decide +kernel
theorem dc_Dr_readPackedClause_10 : decode bc_Dr_readPackedClause 10 = .ok (.sipush (-1000), 3) := by decide +kernel
theorem dc_Dr_readPackedClause_13 : decode bc_Dr_readPackedClause 13 = .ok (.ireturn, 1) := by decide +kernel
theorem dc_Dr_readPackedClause_14 : decode bc_Dr_readPackedClause 14 = .ok (.iload_n 2, 1) := by decide +kernel
theorem dc_Dr_readPackedClause_15 : decode bc_Dr_readPackedClause 15 = .ok (.istore_n 3, 1) := by decide +kernel
theorem dc_Dr_readPackedClause_16 : decode bc_Dr_readPackedClause 16 = .ok (.iload_n 3, 1) := by decide +kernel
theorem dc_Dr_readPackedClause_17 : decode bc_Dr_readPackedClause 17 = .ok (.iload_n 2, 1) := by decide +kernel
theorem dc_Dr_readPackedClause_18 : decode bc_Dr_readPackedClause 18 = .ok (.bipush (8), 2) := by decide +kernel
theorem dc_Dr_readPackedClause_20 : decode bc_Dr_readPackedClause 20 = .ok (.iadd, 1) := by decide +kernel
theorem dc_Dr_readPackedClause_21 : decode bc_Dr_readPackedClause 21 = .ok (.if_icmp .gt (60), 3) := by decide +kernel
theorem dc_Dr_readPackedClause_24 : decode bc_Dr_readPackedClause 24 = .ok (.aload_n 1, 1) := by decide +kernel
theorem dc_Dr_readPackedClause_25 : decode bc_Dr_readPackedClause 25 = .ok (.iload_n 3, 1) := by decide +kernel
theorem dc_Dr_readPackedClause_26 : decode bc_Dr_readPackedClause 26 = .ok (.invokevirtual 66, 3) := by decide +kernel
theorem dc_Dr_readPackedClause_29 : decode bc_Dr_readPackedClause 29 = .ok (.istore 4, 2) := by decide +kernel
theorem dc_Dr_readPackedClause_31 : decode bc_Dr_readPackedClause 31 = .ok (.iload 4, 2) := by decide +kernel
theorem dc_Dr_readPackedClause_33 : decode bc_Dr_readPackedClause 33 = .ok (.ifCond .ne (7), 3) := by decide +kernel
theorem dc_Dr_readPackedClause_36 : decode bc_Dr_readPackedClause 36 = .ok (.iload_n 3, 1) := by decide +kernel
theorem dc_Dr_readPackedClause_37 : decode bc_Dr_readPackedClause 37 = .ok (.iconst 1, 1) := by decide +kernel
theorem dc_Dr_readPackedClause_38 : decode bc_Dr_readPackedClause 38 = .ok (.iadd, 1) := by decide +kernel
theorem dc_Dr_readPackedClause_39 : decode bc_Dr_readPackedClause 39 = .ok (.ireturn, 1) := by decide +kernel
theorem dc_Dr_readPackedClause_40 : decode bc_Dr_readPackedClause 40 = .ok (.iload 4, 2) := by decide +kernel
theorem dc_Dr_readPackedClause_42 : decode bc_Dr_readPackedClause 42 = .ok (.iconst 1, 1) := by decide +kernel
theorem dc_Dr_readPackedClause_43 : decode bc_Dr_readPackedClause 43 = .ok (.ishr, 1) := by decide +kernel
theorem dc_Dr_readPackedClause_44 : decode bc_Dr_readPackedClause 44 = .ok (.istore 5, 2) := by decide +kernel
theorem dc_Dr_readPackedClause_46 : decode bc_Dr_readPackedClause 46 = .ok (.aload_n 0, 1) := by decide +kernel
theorem dc_Dr_readPackedClause_47 : decode bc_Dr_readPackedClause 47 = .ok (.getfield 20, 3) := by decide +kernel
theorem dc_Dr_readPackedClause_50 : decode bc_Dr_readPackedClause 50 = .ok (.iload 4, 2) := by decide +kernel
theorem dc_Dr_readPackedClause_52 : decode bc_Dr_readPackedClause 52 = .ok (.iconst 1, 1) := by decide +kernel
theorem dc_Dr_readPackedClause_53 : decode bc_Dr_readPackedClause 53 = .ok (.iand, 1) := by decide +kernel
theorem dc_Dr_readPackedClause_54 : decode bc_Dr_readPackedClause 54 = .ok (.ifCond .ne (8), 3) := by decide +kernel
theorem dc_Dr_readPackedClause_57 : decode bc_Dr_readPackedClause 57 = .ok (.iload 5, 2) := by decide +kernel
theorem dc_Dr_readPackedClause_59 : decode bc_Dr_readPackedClause 59 = .ok (.goto (6), 3) := by decide +kernel
theorem dc_Dr_readPackedClause_62 : decode bc_Dr_readPackedClause 62 = .ok (.iload 5, 2) := by decide +kernel
theorem dc_Dr_readPackedClause_64 : decode bc_Dr_readPackedClause 64 = .ok (.ineg, 1) := by decide +kernel
theorem dc_Dr_readPackedClause_65 : decode bc_Dr_readPackedClause 65 = .ok (.invokevirtual 80, 3) := by decide +kernel
theorem dc_Dr_readPackedClause_68 : decode bc_Dr_readPackedClause 68 = .ok (.ifCond .ne (7), 3) := by decide +kernel
theorem dc_Dr_readPackedClause_71 : decode bc_Dr_readPackedClause 71 = .ok (.sipush (-1000), 3) := by decide +kernel
theorem dc_Dr_readPackedClause_74 : decode bc_Dr_readPackedClause 74 = .ok (.ireturn, 1) := by decide +kernel
theorem dc_Dr_readPackedClause_75 : decode bc_Dr_readPackedClause 75 = .ok (.iinc 3 (1), 3) := by decide +kernel
theorem dc_Dr_readPackedClause_78 : decode bc_Dr_readPackedClause 78 = .ok (.goto (-62), 3) := by decide +kernel
theorem dc_Dr_readPackedClause_81 : decode bc_Dr_readPackedClause 81 = .ok (.sipush (-1000), 3) := by decide +kernel
theorem dc_Dr_readPackedClause_84 : decode bc_Dr_readPackedClause 84 = .ok (.ireturn, 1) := by decide +kernel
set_option maxHeartbeats 4000000 in
set_option maxRecDepth 100000 in
theorem ct_Dr_readClause (l : Launch) (D : va_G) (cI cZ : ClassId) (sz : Nat) (xd : Nat) (xr : Nat) (da : Nat) (ra : Nat) (rb : Nat) (rd : Nat) (n : Nat) (fz : Nat → Nat) (fs : Nat → Nat) (fl : Nat → Int32) (xw : Nat) (q : Nat) (xt : Nat) (ta : Nat) (tn : Nat) (t : Nat → Nat) (v : Nat) (hn16 : n < 16) (hv8 : v ≤ 8) (htn0 : tn ≤ 250) (ht : ∀ j, t j < 256) (hq : q ≤ tn) : Met l yn_Dr_readClause (Cond.code yn_Dr_readClause bc_Dr_readClause 5 (some .boolean) :: kx_all) ({ frames := 3, cells := 0, slots := 0, locals := 63 } : Room) (kp [.ref xd, .ref xw, .int (nI v)] D cI cZ [dr_c xd xr da, cl_c xr ra rb rd n, ar_n cI ra 17 fz, ar_n cI rb 17 fs, ar_i cI rd (17 * 8) fl, wo_c xw xt (pt_ws t tn (q)) (pt_zz t tn (q)), tx_c xt ta tn, ar_n cI ta 250 t] sz) (kw_q (some (.int (kb_i ((pt_rc t tn v (n + 1) 9 q (va_up fz (n + 1) 0) (va_up fs (n + 1) 0) fl).1)))) D kc_l [dr_c xd xr da, cl_c xr ra rb rd (n + 1), ar_n cI ra 17 ((pt_rc t tn v (n + 1) 9 q (va_up fz (n + 1) 0) (va_up fs (n + 1) 0) fl).2.2.1), ar_n cI rb 17 ((pt_rc t tn v (n + 1) 9 q (va_up fz (n + 1) 0) (va_up fs (n + 1) 0) fl).2.2.2.1), ar_i cI rd (17 * 8) ((pt_rc t tn v (n + 1) 9 q (va_up fz (n + 1) 0) (va_up fs (n + 1) 0) fl).2.2.2.2), wo_c xw xt (pt_ws t tn ((pt_rc t tn v (n + 1) 9 q (va_up fz (n + 1) 0) (va_up fs (n + 1) 0) fl).2.1)) (pt_zz t tn ((pt_rc t tn v (n + 1) 9 q (va_up fz (n + 1) 0) (va_up fs (n + 1) 0) fl).2.1)), tx_c xt ta tn, ar_n cI ta 250 t] (va_A [dr_c xd xr da, cl_c xr ra rb rd n, ar_n cI ra 17 fz, ar_n cI rb 17 fs, ar_i cI rd (17 * 8) fl, wo_c xw xt (pt_ws t tn (q)) (pt_zz t tn (q)), tx_c xt ta tn, ar_n cI ta 250 t] sz)) 0 0 (va_A [dr_c xd xr da, cl_c xr ra rb rd n, ar_n cI ra 17 fz, ar_n cI rb 17 fs, ar_i cI rd (17 * 8) fl, wo_c xw xt (pt_ws t tn (q)) (pt_zz t tn (q)), tx_c xt ta tn, ar_n cI ta 250 t] sz) := by
  refine kx_metW (by decide) (Nat.le_of_ble_eq_true rfl) ?_
  intro p e s m below meth c ls A hx hb hr hml hts hown hlocks hin hA hP hK hD hN hl hS
  have hown : s.vm.findClass rn_Dr = some m.cls := hown
  have hl : lv_has ls 5 [(0, .ref xd), (1, .ref xw), (2, .int (nI v))] := hl
  have htn : tn ≤ 250 := htn0
  refine lv_aload_n hx hb dc_Dr_readClause_0 rfl (lv_at hl 0 rfl) ?_
  refine va_get (ci := 3) (v := .ref xr) (C := rn_Dr) (T := fd_Dr) (N := 2) hx hb hts in_Dr hown hK hP 0 rfl rfl 0 (by decide) (hts _ wd_87) (fun _ h9 => h9) rfl dc_Dr_readClause_1 ?_
  refine kw_call1 (wr := [dr_c xd xr da, wo_c xw xt (pt_ws t tn (q)) (pt_zz t tn (q)), tx_c xt ta tn, ar_n cI ta 250 t]) (ws' := [dr_c xd xr da, cl_c xr ra rb rd (n + 1), ar_n cI ra 17 (va_up fz (n + 1) 0), ar_n cI rb 17 (va_up fs (n + 1) 0), ar_i cI rd (17 * 8) fl, wo_c xw xt (pt_ws t tn (q)) (pt_zz t tn (q)), tx_c xt ta tn, ar_n cI ta 250 t]) (va_runV (As := []) (rest := []) ⟨hx, hb, hml, hown, hts⟩ (ct_Cl_begin l D cI cZ _ xr ra rb rd 17 n fz fs fl (by decide) (by omega)) (cwV 0 hts (kx_gV wd_402 wd_403 wd_404 wd_4 wd_405) rfl rfl rfl ⟨rfl, yd_Cl_begin⟩ ⟨Nat.le_of_ble_eq_true rfl, Nat.le_of_ble_eq_true rfl⟩) (kp_V (q0 := 1) (ci := 2) hP hD hK hN [1, 2, 3, 4] rfl rfl rfl rfl rfl) rfl rfl hl.1 rfl (lv_room (Nat.le_of_ble_eq_true rfl)) dc_Dr_readClause_4 ⟨Nat.le_of_ble_eq_true rfl, Nat.le_of_ble_eq_true rfl⟩) hP hD hS hA [1, 2, 3, 4] [0, 5, 6, 7] [0, 4, 5, 6, 7, 1, 2, 3] rfl rfl rfl (by decide) rfl rfl (fun H locs hP hD hS => ?_)
  refine kb_if_ne hx hb dc_Dr_readClause_7 rfl (fun hc7 => ?_) (fun hc7 => ?_)
  · refine lv_iconst (v := nI 0) hx hb dc_Dr_readClause_12 (by decide +kernel) ?_
    refine lv_istore_n (lv' := [(3, .int (nI 0)), (0, .ref xd), (1, .ref xw), (2, .int (nI v))]) hx hb dc_Dr_readClause_13 rfl hl (by decide) rfl (fun ls hl => ?_)
    have lp_14 : ∀ (K : Nat) (k : Nat) (q1 : Nat) (fz1 : Nat → Nat) (fs1 : Nat → Nat) (fl1 : Nat → Int32) (H : Heap) (locs : List Loc) (ls : Array Slot), 9 - k < K → va_P D kc_l [dr_c xd xr da, cl_c xr ra rb rd (n + 1), ar_n cI ra 17 fz1, ar_n cI rb 17 fs1, ar_i cI rd (17 * 8) fl1, wo_c xw xt (pt_ws t tn (q1)) (pt_zz t tn (q1)), tx_c xt ta tn, ar_n cI ta 250 t] H → va_D A [dr_c xd xr da, cl_c xr ra rb rd (n + 1), ar_n cI ra 17 fz1, ar_n cI rb 17 fs1, ar_i cI rd (17 * 8) fl1, wo_c xw xt (pt_ws t tn (q1)) (pt_zz t tn (q1)), tx_c xt ta tn, ar_n cI ta 250 t] → va_S A s.heap H locs → lv_has ls 5 [(3, .int (nI k)), (0, .ref xd), (1, .ref xw), (2, .int (nI v))] → (pt_rc t tn v (n + 1) (9 - k) q1 fz1 fs1 fl1 = pt_rc t tn v (n + 1) 9 q (va_up fz (n + 1) 0) (va_up fs (n + 1) 0) fl) → (k ≤ 9) → (pt_rm (fz1 (n + 1)) (fs1 (n + 1))) → (q1 ≤ tn) → W p l e ({ frames := 3, cells := 0, slots := 0, locals := 63 } : Room) s m ([.ref xd, .ref xw, .int (nI v)] : List Value).toArray below meth c H locs 0 0 (MQ below (kw_q (some (.int (kb_i ((pt_rc t tn v (n + 1) 9 q (va_up fz (n + 1) 0) (va_up fs (n + 1) 0) fl).1)))) D kc_l [dr_c xd xr da, cl_c xr ra rb rd (n + 1), ar_n cI ra 17 ((pt_rc t tn v (n + 1) 9 q (va_up fz (n + 1) 0) (va_up fs (n + 1) 0) fl).2.2.1), ar_n cI rb 17 ((pt_rc t tn v (n + 1) 9 q (va_up fz (n + 1) 0) (va_up fs (n + 1) 0) fl).2.2.2.1), ar_i cI rd (17 * 8) ((pt_rc t tn v (n + 1) 9 q (va_up fz (n + 1) 0) (va_up fs (n + 1) 0) fl).2.2.2.2), wo_c xw xt (pt_ws t tn ((pt_rc t tn v (n + 1) 9 q (va_up fz (n + 1) 0) (va_up fs (n + 1) 0) fl).2.1)) (pt_zz t tn ((pt_rc t tn v (n + 1) 9 q (va_up fz (n + 1) 0) (va_up fs (n + 1) 0) fl).2.1)), tx_c xt ta tn, ar_n cI ta 250 t] A) ([.ref xd, .ref xw, .int (nI v)] : List Value).toArray s 0 0 A) (F0 m 14 ls []) := by
      intro K
      induction K with
      | zero =>
        intro k q1 fz1 fs1 fl1 H locs ls hk
        exact absurd hk (Nat.not_lt_zero _)
      | succ K ih =>
        intro k q1 fz1 fs1 fl1 H locs ls hk hP hD hS hl h1 h2 h3 h4
        refine lv_iload_n hx hb dc_Dr_readClause_14 rfl (lv_at hl 0 rfl) ?_
        refine lv_bipush (v := nI 8) hx hb dc_Dr_readClause_15 (by decide +kernel) ?_
        refine kn_icmp_gt hx hb (by omega) (by omega) dc_Dr_readClause_17 rfl (fun hc17 => ?_) (fun hc17 => ?_)
        · refine lv_iconst (v := nI 0) hx hb dc_Dr_readClause_66 (by decide +kernel) ?_
          refine kn_top (y := kb_i false) (by decide +kernel) ?_
          exact kw_zret hx hb hr hlocks hP hD hS dc_Dr_readClause_67 (by rw [← h1, show 9 - k = 0 by omega, pt_rc]) (by rw [← h1, show 9 - k = 0 by omega, pt_rc])
        · refine lv_aload_n hx hb dc_Dr_readClause_20 rfl (lv_at hl 2 rfl) ?_
          refine kr_call1 (va_runV (As := []) (rest := []) ⟨hx, hb, hml, hown, hts⟩ (ct_Wd_integer l D cI cZ _ xw xt ta 250 tn t (pt_ws t tn (q1)) (pt_zz t tn (q1)) (by decide) (htn) (ht) (ws_zz _ _ _) (zz_le h4) (fun h9 => ws_lt h9)) (cwV 0 hts (kx_gV wd_393 wd_394 wd_395 wd_10 wd_396) rfl rfl rfl ⟨rfl, yd_Wd_integer⟩ ⟨Nat.le_of_ble_eq_true rfl, Nat.le_of_ble_eq_true rfl⟩) (kp_V (q0 := 5) (ci := 1) hP hD hK hN [5, 6, 7] rfl rfl rfl rfl rfl) rfl rfl hl.1 rfl (lv_room (Nat.le_of_ble_eq_true rfl)) dc_Dr_readClause_21 ⟨Nat.le_of_ble_eq_true rfl, Nat.le_of_ble_eq_true rfl⟩) ?_
          refine lv_istore (lv' := [(4, .int (pt_intv t (pt_ws t tn (q1)) (pt_zz t tn (q1)))), (3, .int (nI k)), (0, .ref xd), (1, .ref xw), (2, .int (nI v))]) hx hb dc_Dr_readClause_24 hl (by decide) rfl (fun ls hl => ?_)
          refine lv_aload_n hx hb dc_Dr_readClause_26 rfl (lv_at hl 3 rfl) ?_
          refine kw_call0 (wr := [dr_c xd xr da, cl_c xr ra rb rd (n + 1), ar_n cI ra 17 fz1, ar_n cI rb 17 fs1, ar_i cI rd (17 * 8) fl1]) (ws' := [dr_c xd xr da, cl_c xr ra rb rd (n + 1), ar_n cI ra 17 fz1, ar_n cI rb 17 fs1, ar_i cI rd (17 * 8) fl1, wo_c xw xt (pt_ws t tn (pt_zz t tn (q1))) (pt_we t tn (pt_ws t tn (pt_zz t tn (q1)))), tx_c xt ta tn, ar_n cI ta 250 t]) (va_runV (As := []) (rest := []) ⟨hx, hb, hml, hown, hts⟩ (ct_Wd_advance l D cI cZ _ xw xt ta 250 tn t (pt_ws t tn (q1)) (pt_zz t tn (q1)) (by decide) (htn) (ht) (zz_le h4)) (cwV 0 hts (kx_gV wd_397 wd_389 wd_390 wd_10 wd_391) rfl rfl rfl ⟨rfl, yd_Wd_advance⟩ ⟨Nat.le_of_ble_eq_true rfl, Nat.le_of_ble_eq_true rfl⟩) (kp_V (q0 := 5) (ci := 1) hP hD hK hN [5, 6, 7] rfl rfl rfl rfl rfl) rfl rfl hl.1 rfl (lv_room (Nat.le_of_ble_eq_true rfl)) dc_Dr_readClause_27 ⟨Nat.le_of_ble_eq_true rfl, Nat.le_of_ble_eq_true rfl⟩) hP hD hS hA [5, 6, 7] [0, 1, 2, 3, 4] [0, 1, 2, 3, 4, 5, 6, 7] rfl rfl rfl (by decide) rfl rfl (fun H locs hP hD hS => ?_)
          have hP : va_P D kc_l [dr_c xd xr da, cl_c xr ra rb rd (n + 1), ar_n cI ra 17 fz1, ar_n cI rb 17 fs1, ar_i cI rd (17 * 8) fl1, wo_c xw xt (pt_ws t tn (pt_zz t tn q1)) (pt_zz t tn (pt_zz t tn q1)), tx_c xt ta tn, ar_n cI ta 250 t] H := hP
          have hD : va_D A [dr_c xd xr da, cl_c xr ra rb rd (n + 1), ar_n cI ra 17 fz1, ar_n cI rb 17 fs1, ar_i cI rd (17 * 8) fl1, wo_c xw xt (pt_ws t tn (pt_zz t tn q1)) (pt_zz t tn (pt_zz t tn q1)), tx_c xt ta tn, ar_n cI ta 250 t] := hD
          have hst : pt_rc t tn v (n + 1) (9 - k) q1 fz1 fs1 fl1 = (if pt_intv t (pt_ws t tn q1) (pt_zz t tn q1) = 0 then (true, pt_zz t tn q1, fz1, fs1, fl1) else match pt_lof (pt_intv t (pt_ws t tn q1) (pt_zz t tn q1)) with | none => (false, pt_zz t tn q1, fz1, fs1, fl1) | some b => if v < b % 8 + 1 ∨ ¬ fs1 (n + 1) &&& (2 ^ (b % 8) ||| 2 ^ (b % 8 + 8)) = 0 then (false, pt_zz t tn q1, fz1, fs1, fl1) else pt_rc t tn v (n + 1) (9 - (k + 1)) (pt_zz t tn q1) (va_up fz1 (n + 1) (fz1 (n + 1) + 1)) (va_up fs1 (n + 1) (fs1 (n + 1) ||| 2 ^ b)) (upd fl1 ((n + 1) * 8 + fz1 (n + 1)) (pt_lit b))) := by
            rw [show 9 - k = (9 - (k + 1)) + 1 by omega, pt_rc]
          generalize hxe : pt_intv t (pt_ws t tn q1) (pt_zz t tn q1) = x at hl hst
          by_cases hx0 : x = 0
          · refine lv_iload hx hb dc_Dr_readClause_30 (lv_at hl 0 rfl) ?_
            refine lv_if_ne hx hb dc_Dr_readClause_32 rfl (fun hc32 => ?_) (fun hc32 => ?_)
            · exact absurd hx0 hc32
            · refine lv_iconst (v := nI 1) hx hb dc_Dr_readClause_35 (by decide +kernel) ?_
              refine kn_top (y := kb_i true) (by decide +kernel) ?_
              exact kw_zret hx hb hr hlocks hP hD hS dc_Dr_readClause_36 (by rw [← h1, hst, if_pos hx0]) (by rw [← h1, hst, if_pos hx0])
          · rcases hlo : pt_lof x with _ | b
            · rw [if_neg hx0, hlo] at hst
              refine lv_iload hx hb dc_Dr_readClause_30 (lv_at hl 0 rfl) ?_
              refine lv_if_ne hx hb dc_Dr_readClause_32 rfl (fun hc32 => ?_) (fun hc32 => ?_)
              · refine lv_iload hx hb dc_Dr_readClause_37 (lv_at hl 0 rfl) ?_
                refine va_mabs hx hb (by rw [hml]; exact hl.1.symm) hown (hts _ wd_406) (hts _ wd_407) (hts _ wd_5) (hts _ wd_408) (Nat.le_of_ble_eq_true rfl) (Nat.le_of_ble_eq_true rfl) (Nat.le_of_ble_eq_true rfl) (Nat.le_of_ble_eq_true rfl) dc_Dr_readClause_39 ?_
                refine lv_iload_n hx hb dc_Dr_readClause_42 rfl (lv_at hl 4 rfl) ?_
                refine lv_icmp_gt hx hb dc_Dr_readClause_43 rfl (fun hc43 => ?_) (fun hc43 => ?_)
                · refine lv_iconst (v := nI 0) hx hb dc_Dr_readClause_58 (by decide +kernel) ?_
                  refine kn_top (y := kb_i false) (by decide +kernel) ?_
                  exact kw_zret hx hb hr hlocks hP hD hS dc_Dr_readClause_59 (by rw [← h1, hst]) (by rw [← h1, hst])
                · refine lv_aload_n hx hb dc_Dr_readClause_46 rfl (lv_at hl 2 rfl) ?_
                  refine va_get (ci := 3) (v := .ref xr) (C := rn_Dr) (T := fd_Dr) (N := 2) hx hb hts in_Dr hown hK hP 0 rfl rfl 0 (by decide) (hts _ wd_87) (fun _ h9 => h9) rfl dc_Dr_readClause_47 ?_
                  refine lv_iload hx hb dc_Dr_readClause_50 (lv_at hl 0 rfl) ?_
                  refine kr_call1 (va_runV (As := [.int x]) (rest := []) ⟨hx, hb, hml, hown, hts⟩ (ct_Cl_append_no l D cI cZ _ xr ra rb rd (n + 1) x (by omega) (by omega) (lof_none hlo)) (cwV 1 hts (kx_gV wd_409 wd_410 wd_411 wd_4 wd_412) rfl rfl rfl ⟨rfl, yd_Cl_append⟩ ⟨Nat.le_of_ble_eq_true rfl, Nat.le_of_ble_eq_true rfl⟩) (kp_V (q0 := 1) (ci := 2) hP hD hK hN [1] rfl rfl rfl rfl rfl) rfl rfl hl.1 rfl (lv_room (Nat.le_of_ble_eq_true rfl)) dc_Dr_readClause_52 ⟨Nat.le_of_ble_eq_true rfl, Nat.le_of_ble_eq_true rfl⟩) ?_
                  refine kb_if_ne hx hb dc_Dr_readClause_55 rfl (fun hc55 => ?_) (fun hc55 => ?_)
                  · exact absurd hc55 (by decide)
                  · refine lv_iconst (v := nI 0) hx hb dc_Dr_readClause_58 (by decide +kernel) ?_
                    refine kn_top (y := kb_i false) (by decide +kernel) ?_
                    exact kw_zret hx hb hr hlocks hP hD hS dc_Dr_readClause_59 (by rw [← h1, hst]) (by rw [← h1, hst])
              · exact absurd hc32 hx0
            · obtain ⟨hb16, rfl⟩ := lof_some hlo
              rw [if_neg hx0, hlo] at hst
              dsimp only at hst
              refine lv_iload hx hb dc_Dr_readClause_30 (lv_at hl 0 rfl) ?_
              refine lv_if_ne hx hb dc_Dr_readClause_32 rfl (fun hc32 => ?_) (fun hc32 => ?_)
              · refine lv_iload hx hb dc_Dr_readClause_37 (lv_at hl 0 rfl) ?_
                refine va_mabs hx hb (by rw [hml]; exact hl.1.symm) hown (hts _ wd_406) (hts _ wd_407) (hts _ wd_5) (hts _ wd_408) (Nat.le_of_ble_eq_true rfl) (Nat.le_of_ble_eq_true rfl) (Nat.le_of_ble_eq_true rfl) (Nat.le_of_ble_eq_true rfl) dc_Dr_readClause_39 ?_
                refine kn_top (y := nI (b % 8 + 1)) (pt_abs b hb16) ?_
                refine lv_iload_n hx hb dc_Dr_readClause_42 rfl (lv_at hl 4 rfl) ?_
                refine kn_icmp_gt hx hb (by omega) (by omega) dc_Dr_readClause_43 rfl (fun hc43 => ?_) (fun hc43 => ?_)
                · have hno : v < b % 8 + 1 ∨ ¬ fs1 (n + 1) &&& (2 ^ (b % 8) ||| 2 ^ (b % 8 + 8)) = 0 := Or.inl hc43
                  refine lv_iconst (v := nI 0) hx hb dc_Dr_readClause_58 (by decide +kernel) ?_
                  refine kn_top (y := kb_i false) (by decide +kernel) ?_
                  exact kw_zret hx hb hr hlocks hP hD hS dc_Dr_readClause_59 (by rw [← h1, hst, if_pos hno]) (by rw [← h1, hst, if_pos hno])
                · refine lv_aload_n hx hb dc_Dr_readClause_46 rfl (lv_at hl 2 rfl) ?_
                  refine va_get (ci := 3) (v := .ref xr) (C := rn_Dr) (T := fd_Dr) (N := 2) hx hb hts in_Dr hown hK hP 0 rfl rfl 0 (by decide) (hts _ wd_87) (fun _ h9 => h9) rfl dc_Dr_readClause_47 ?_
                  refine lv_iload hx hb dc_Dr_readClause_50 (lv_at hl 0 rfl) ?_
                  by_cases hfr : ¬ fs1 (n + 1) &&& (2 ^ (b % 8) ||| 2 ^ (b % 8 + 8)) = 0
                  rotate_left
                  have hfr := Classical.not_not.mp hfr
                  rotate_left
                  · have hno : v < b % 8 + 1 ∨ ¬ fs1 (n + 1) &&& (2 ^ (b % 8) ||| 2 ^ (b % 8 + 8)) = 0 := Or.inr hfr
                    refine kr_call1 (va_runV (As := [.int (pt_lit b)]) (rest := []) ⟨hx, hb, hml, hown, hts⟩ (ct_Cl_append_dup l D cI cZ _ xr ra rb rd 17 (n + 1) fz1 fs1 fl1 b (by decide) (by omega) (hb16) (by omega) (h3.2) (hfr)) (cwV 1 hts (kx_gV wd_409 wd_410 wd_411 wd_4 wd_412) rfl rfl rfl ⟨rfl, yd_Cl_append⟩ ⟨Nat.le_of_ble_eq_true rfl, Nat.le_of_ble_eq_true rfl⟩) (kp_V (q0 := 1) (ci := 2) hP hD hK hN [1, 2, 3, 4] rfl rfl rfl rfl rfl) rfl rfl hl.1 rfl (lv_room (Nat.le_of_ble_eq_true rfl)) dc_Dr_readClause_52 ⟨Nat.le_of_ble_eq_true rfl, Nat.le_of_ble_eq_true rfl⟩) ?_
                    refine kb_if_ne hx hb dc_Dr_readClause_55 rfl (fun hc55 => ?_) (fun hc55 => ?_)
                    · exact absurd hc55 (by decide)
                    · refine lv_iconst (v := nI 0) hx hb dc_Dr_readClause_58 (by decide +kernel) ?_
                      refine kn_top (y := kb_i false) (by decide +kernel) ?_
                      exact kw_zret hx hb hr hlocks hP hD hS dc_Dr_readClause_59 (by rw [← h1, hst, if_pos hno]) (by rw [← h1, hst, if_pos hno])
                  · obtain ⟨hw8, hrm⟩ := rm_step h3 hb16 hfr
                    rw [if_neg (fun q => q.elim (fun q1 => by omega) (fun q1 => q1 hfr))] at hst
                    refine kw_call1 (wr := [dr_c xd xr da, wo_c xw xt (pt_ws t tn (pt_zz t tn q1)) (pt_zz t tn (pt_zz t tn q1)), tx_c xt ta tn, ar_n cI ta 250 t]) (ws' := [dr_c xd xr da, cl_c xr ra rb rd (n + 1), ar_n cI ra 17 (va_up fz1 (n + 1) (fz1 (n + 1) + 1)), ar_n cI rb 17 (va_up fs1 (n + 1) (fs1 (n + 1) ||| 2 ^ b)), ar_i cI rd (17 * 8) (upd fl1 ((n + 1) * 8 + fz1 (n + 1)) (pt_lit b)), wo_c xw xt (pt_ws t tn (pt_zz t tn q1)) (pt_zz t tn (pt_zz t tn q1)), tx_c xt ta tn, ar_n cI ta 250 t]) (va_runV (As := [.int (pt_lit b)]) (rest := []) ⟨hx, hb, hml, hown, hts⟩ (ct_Cl_append l D cI cZ _ xr ra rb rd 17 (n + 1) fz1 fs1 fl1 b (by decide) (by omega) (hb16) (by omega) (h3.2) (hfr) (hw8)) (cwV 1 hts (kx_gV wd_409 wd_410 wd_411 wd_4 wd_412) rfl rfl rfl ⟨rfl, yd_Cl_append⟩ ⟨Nat.le_of_ble_eq_true rfl, Nat.le_of_ble_eq_true rfl⟩) (kp_V (q0 := 1) (ci := 2) hP hD hK hN [1, 2, 3, 4] rfl rfl rfl rfl rfl) rfl rfl hl.1 rfl (lv_room (Nat.le_of_ble_eq_true rfl)) dc_Dr_readClause_52 ⟨Nat.le_of_ble_eq_true rfl, Nat.le_of_ble_eq_true rfl⟩) hP hD hS hA [1, 2, 3, 4] [0, 5, 6, 7] [0, 4, 5, 6, 7, 1, 2, 3] rfl rfl rfl (by decide) rfl rfl (fun H locs hP hD hS => ?_)
                    refine kb_if_ne hx hb dc_Dr_readClause_55 rfl (fun hc55 => ?_) (fun hc55 => ?_)
                    · refine lv_iinc (k := 1) (v := nI (k + 1)) (lv' := [(3, .int (nI (k + 1))), (4, .int (pt_lit b)), (0, .ref xd), (1, .ref xw), (2, .int (nI v))]) hx hb dc_Dr_readClause_60 hl rfl (nI_1 _) (by decide) rfl (fun ls hl => ?_)
                      refine lv_goto hx hb dc_Dr_readClause_63 rfl ?_
                      have hl := lv_sub (l' := [(3, .int (nI (k + 1))), (0, .ref xd), (1, .ref xw), (2, .int (nI v))]) hl [0, 2, 3, 4] rfl
                      exact ih _ _ _ _ _ _ _ _ (by omega) hP hD hS hl (by rw [← h1, hst]) (by omega) (by rw [va_up_self, va_up_self]; exact hrm) (zz_le h4)
                    · exact absurd hc55 (by decide)
              · exact absurd hc32 hx0
    exact lp_14 _ _ _ _ _ _ _ _ _ (Nat.lt_succ_self _) hP hD hS hl (rfl) (by omega) (by rw [va_up_self, va_up_self]; exact ⟨by decide, by decide⟩) (hq)
  · exact absurd hc7 (by decide)

set_option maxHeartbeats 4000000 in
set_option maxRecDepth 100000 in
theorem ct_Dr_readPackedClause (l : Launch) (D : va_G) (cI cZ : ClassId) (sz : Nat) (xd : Nat) (xr : Nat) (da : Nat) (ra : Nat) (rb : Nat) (rd : Nat) (n : Nat) (fz : Nat → Nat) (fs : Nat → Nat) (fl : Nat → Int32) (xt : Nat) (ta : Nat) (tn : Nat) (t : Nat → Nat) (q : Nat) (hn16 : n < 16) (htn0 : tn ≤ 250) (ht : ∀ j, t j < 256) (hq : q ≤ 1000) : Met l yn_Dr_readPackedClause (Cond.code yn_Dr_readPackedClause bc_Dr_readPackedClause 6 (some .int) :: kx_all) ({ frames := 2, cells := 0, slots := 0, locals := 42 } : Room) (kp [.ref xd, .ref xt, .int (nI q)] D cI cZ [dr_c xd xr da, cl_c xr ra rb rd n, ar_n cI ra 17 fz, ar_n cI rb 17 fs, ar_i cI rd (17 * 8) fl, tx_c xt ta tn, ar_n cI ta 250 t] sz) (kw_q (some (.int ((pt_rp t tn (n + 1) 9 q (va_up fz (n + 1) 0) (va_up fs (n + 1) 0) fl).1))) D kc_l [dr_c xd xr da, cl_c xr ra rb rd (n + 1), ar_n cI ra 17 ((pt_rp t tn (n + 1) 9 q (va_up fz (n + 1) 0) (va_up fs (n + 1) 0) fl).2.1), ar_n cI rb 17 ((pt_rp t tn (n + 1) 9 q (va_up fz (n + 1) 0) (va_up fs (n + 1) 0) fl).2.2.1), ar_i cI rd (17 * 8) ((pt_rp t tn (n + 1) 9 q (va_up fz (n + 1) 0) (va_up fs (n + 1) 0) fl).2.2.2), tx_c xt ta tn, ar_n cI ta 250 t] (va_A [dr_c xd xr da, cl_c xr ra rb rd n, ar_n cI ra 17 fz, ar_n cI rb 17 fs, ar_i cI rd (17 * 8) fl, tx_c xt ta tn, ar_n cI ta 250 t] sz)) 0 0 (va_A [dr_c xd xr da, cl_c xr ra rb rd n, ar_n cI ra 17 fz, ar_n cI rb 17 fs, ar_i cI rd (17 * 8) fl, tx_c xt ta tn, ar_n cI ta 250 t] sz) := by
  refine kx_metW (by decide) (Nat.le_of_ble_eq_true rfl) ?_
  intro p e s m below meth c ls A hx hb hr hml hts hown hlocks hin hA hP hK hD hN hl hS
  have hown : s.vm.findClass rn_Dr = some m.cls := hown
  have hl : lv_has ls 6 [(0, .ref xd), (1, .ref xt), (2, .int (nI q))] := hl
  have htn : tn ≤ 250 := htn0
  refine lv_aload_n hx hb dc_Dr_readPackedClause_0 rfl (lv_at hl 0 rfl) ?_
  refine va_get (ci := 3) (v := .ref xr) (C := rn_Dr) (T := fd_Dr) (N := 2) hx hb hts in_Dr hown hK hP 0 rfl rfl 0 (by decide) (hts _ wd_87) (fun _ h9 => h9) rfl dc_Dr_readPackedClause_1 ?_
  refine kw_call1 (wr := [dr_c xd xr da, tx_c xt ta tn, ar_n cI ta 250 t]) (ws' := [dr_c xd xr da, cl_c xr ra rb rd (n + 1), ar_n cI ra 17 (va_up fz (n + 1) 0), ar_n cI rb 17 (va_up fs (n + 1) 0), ar_i cI rd (17 * 8) fl, tx_c xt ta tn, ar_n cI ta 250 t]) (va_runV (As := []) (rest := []) ⟨hx, hb, hml, hown, hts⟩ (ct_Cl_begin l D cI cZ _ xr ra rb rd 17 n fz fs fl (by decide) (by omega)) (cwV 0 hts (kx_gV wd_402 wd_403 wd_404 wd_4 wd_405) rfl rfl rfl ⟨rfl, yd_Cl_begin⟩ ⟨Nat.le_of_ble_eq_true rfl, Nat.le_of_ble_eq_true rfl⟩) (kp_V (q0 := 1) (ci := 2) hP hD hK hN [1, 2, 3, 4] rfl rfl rfl rfl rfl) rfl rfl hl.1 rfl (lv_room (Nat.le_of_ble_eq_true rfl)) dc_Dr_readPackedClause_4 ⟨Nat.le_of_ble_eq_true rfl, Nat.le_of_ble_eq_true rfl⟩) hP hD hS hA [1, 2, 3, 4] [0, 5, 6] [0, 3, 4, 5, 6, 1, 2] rfl rfl rfl (by decide) rfl rfl (fun H locs hP hD hS => ?_)
  refine kb_if_ne hx hb dc_Dr_readPackedClause_7 rfl (fun hc7 => ?_) (fun hc7 => ?_)
  · refine lv_iload_n hx hb dc_Dr_readPackedClause_14 rfl (lv_at hl 2 rfl) ?_
    refine lv_istore_n (lv' := [(3, .int (nI q)), (0, .ref xd), (1, .ref xt), (2, .int (nI q))]) hx hb dc_Dr_readPackedClause_15 rfl hl (by decide) rfl (fun ls hl => ?_)
    have lp_16 : ∀ (K : Nat) (i : Nat) (fz1 : Nat → Nat) (fs1 : Nat → Nat) (fl1 : Nat → Int32) (H : Heap) (locs : List Loc) (ls : Array Slot), q + 9 - i < K → va_P D kc_l [dr_c xd xr da, cl_c xr ra rb rd (n + 1), ar_n cI ra 17 fz1, ar_n cI rb 17 fs1, ar_i cI rd (17 * 8) fl1, tx_c xt ta tn, ar_n cI ta 250 t] H → va_D A [dr_c xd xr da, cl_c xr ra rb rd (n + 1), ar_n cI ra 17 fz1, ar_n cI rb 17 fs1, ar_i cI rd (17 * 8) fl1, tx_c xt ta tn, ar_n cI ta 250 t] → va_S A s.heap H locs → lv_has ls 6 [(3, .int (nI i)), (0, .ref xd), (1, .ref xt), (2, .int (nI q))] → (pt_rp t tn (n + 1) (9 - (i - q)) i fz1 fs1 fl1 = pt_rp t tn (n + 1) 9 q (va_up fz (n + 1) 0) (va_up fs (n + 1) 0) fl) → (q ≤ i ∧ i ≤ q + 9) → (pt_rm (fz1 (n + 1)) (fs1 (n + 1))) → W p l e ({ frames := 2, cells := 0, slots := 0, locals := 42 } : Room) s m ([.ref xd, .ref xt, .int (nI q)] : List Value).toArray below meth c H locs 0 0 (MQ below (kw_q (some (.int ((pt_rp t tn (n + 1) 9 q (va_up fz (n + 1) 0) (va_up fs (n + 1) 0) fl).1))) D kc_l [dr_c xd xr da, cl_c xr ra rb rd (n + 1), ar_n cI ra 17 ((pt_rp t tn (n + 1) 9 q (va_up fz (n + 1) 0) (va_up fs (n + 1) 0) fl).2.1), ar_n cI rb 17 ((pt_rp t tn (n + 1) 9 q (va_up fz (n + 1) 0) (va_up fs (n + 1) 0) fl).2.2.1), ar_i cI rd (17 * 8) ((pt_rp t tn (n + 1) 9 q (va_up fz (n + 1) 0) (va_up fs (n + 1) 0) fl).2.2.2), tx_c xt ta tn, ar_n cI ta 250 t] A) ([.ref xd, .ref xt, .int (nI q)] : List Value).toArray s 0 0 A) (F0 m 16 ls []) := by
      intro K
      induction K with
      | zero =>
        intro i fz1 fs1 fl1 H locs ls hk
        exact absurd hk (Nat.not_lt_zero _)
      | succ K ih =>
        intro i fz1 fs1 fl1 H locs ls hk hP hD hS hl h1 h2 h3
        refine lv_iload_n hx hb dc_Dr_readPackedClause_16 rfl (lv_at hl 0 rfl) ?_
        refine lv_iload_n hx hb dc_Dr_readPackedClause_17 rfl (lv_at hl 3 rfl) ?_
        refine lv_bipush (v := nI 8) hx hb dc_Dr_readPackedClause_18 (by decide +kernel) ?_
        refine kn_iadd hx hb dc_Dr_readPackedClause_20 ?_
        refine kn_icmp_gt hx hb (by omega) (by omega) dc_Dr_readPackedClause_21 rfl (fun hc21 => ?_) (fun hc21 => ?_)
        · refine lv_sipush (v := (-1000)) hx hb dc_Dr_readPackedClause_81 (by decide +kernel) ?_
          exact kw_iret hx hb hr hlocks hP hD hS dc_Dr_readPackedClause_84 (by rw [← h1, show 9 - (i - q) = 0 by omega, pt_rp]) (by rw [← h1, show 9 - (i - q) = 0 by omega, pt_rp])
        · have hst : pt_rp t tn (n + 1) (9 - (i - q)) i fz1 fs1 fl1 = (if tn ≤ i then (-1000, fz1, fs1, fl1) else if t i = 0 then (nI (i + 1), fz1, fs1, fl1) else match pt_lob (t i) with | none => (-1000, fz1, fs1, fl1) | some b => if ¬ fs1 (n + 1) &&& (2 ^ (b % 8) ||| 2 ^ (b % 8 + 8)) = 0 then (-1000, fz1, fs1, fl1) else pt_rp t tn (n + 1) (9 - (i + 1 - q)) (i + 1) (va_up fz1 (n + 1) (fz1 (n + 1) + 1)) (va_up fs1 (n + 1) (fs1 (n + 1) ||| 2 ^ b)) (upd fl1 ((n + 1) * 8 + fz1 (n + 1)) (pt_lit b))) := by
            rw [show 9 - (i - q) = (9 - (i + 1 - q)) + 1 by omega, pt_rp]
          by_cases hti : tn ≤ i
          · rw [if_pos hti] at hst
            refine lv_aload_n hx hb dc_Dr_readPackedClause_24 rfl (lv_at hl 2 rfl) ?_
            refine lv_iload_n hx hb dc_Dr_readPackedClause_25 rfl (lv_at hl 0 rfl) ?_
            refine kr_call1 (va_runV (As := [.int (nI i)]) (rest := []) ⟨hx, hb, hml, hown, hts⟩ (ct_Tx_at l D cI cZ _ xt ta 250 tn t (nI i) (by decide) (htn)) (cwV 1 hts (kx_gV wd_532 wd_293 wd_294 wd_2 wd_295) rfl rfl rfl ⟨rfl, yd_Tx_at⟩ ⟨Nat.le_of_ble_eq_true rfl, Nat.le_of_ble_eq_true rfl⟩) (kp_V (q0 := 5) (ci := 0) hP hD hK hN [5, 6] rfl rfl rfl rfl rfl) rfl rfl hl.1 rfl (lv_room (Nat.le_of_ble_eq_true rfl)) dc_Dr_readPackedClause_26 ⟨Nat.le_of_ble_eq_true rfl, Nat.le_of_ble_eq_true rfl⟩) ?_
            refine kn_top (y := (-1000)) (pt_at_out hti (by omega)) ?_
            refine lv_istore (lv' := [(4, .int ((-1000))), (3, .int (nI i)), (0, .ref xd), (1, .ref xt), (2, .int (nI q))]) hx hb dc_Dr_readPackedClause_29 hl (by decide) rfl (fun ls hl => ?_)
            refine lv_iload hx hb dc_Dr_readPackedClause_31 (lv_at hl 0 rfl) ?_
            refine lv_if_ne hx hb dc_Dr_readPackedClause_33 rfl (fun hc33 => ?_) (fun hc33 => ?_)
            · refine lv_iload hx hb dc_Dr_readPackedClause_40 (lv_at hl 0 rfl) ?_
              refine lv_iconst (v := nI 1) hx hb dc_Dr_readPackedClause_42 (by decide +kernel) ?_
              refine lv_ishr hx hb dc_Dr_readPackedClause_43 ?_
              refine lv_istore (lv' := [(5, .int (((-1000)) >>> ((nI 1) &&& 31))), (4, .int ((-1000))), (3, .int (nI i)), (0, .ref xd), (1, .ref xt), (2, .int (nI q))]) hx hb dc_Dr_readPackedClause_44 hl (by decide) rfl (fun ls hl => ?_)
              refine lv_aload_n hx hb dc_Dr_readPackedClause_46 rfl (lv_at hl 3 rfl) ?_
              refine va_get (ci := 3) (v := .ref xr) (C := rn_Dr) (T := fd_Dr) (N := 2) hx hb hts in_Dr hown hK hP 0 rfl rfl 0 (by decide) (hts _ wd_87) (fun _ h9 => h9) rfl dc_Dr_readPackedClause_47 ?_
              refine lv_iload hx hb dc_Dr_readPackedClause_50 (lv_at hl 1 rfl) ?_
              refine lv_iconst (v := nI 1) hx hb dc_Dr_readPackedClause_52 (by decide +kernel) ?_
              refine lv_iand hx hb dc_Dr_readPackedClause_53 ?_
              refine lv_if_ne hx hb dc_Dr_readPackedClause_54 rfl (fun hc54 => ?_) (fun hc54 => ?_)
              · exact absurd (show (-1000 : Int32) &&& nI 1 = 0 by decide +kernel) hc54
              · refine lv_iload hx hb dc_Dr_readPackedClause_57 (lv_at hl 0 rfl) ?_
                refine lv_goto hx hb dc_Dr_readPackedClause_59 rfl ?_
                refine kr_call1 (va_runV (As := [.int (((-1000)) >>> ((nI 1) &&& 31))]) (rest := []) ⟨hx, hb, hml, hown, hts⟩ (ct_Cl_append_no l D cI cZ _ xr ra rb rd (n + 1) (((-1000)) >>> ((nI 1) &&& 31)) (by omega) (by omega) (no_500)) (cwV 1 hts (kx_gV wd_409 wd_410 wd_411 wd_4 wd_412) rfl rfl rfl ⟨rfl, yd_Cl_append⟩ ⟨Nat.le_of_ble_eq_true rfl, Nat.le_of_ble_eq_true rfl⟩) (kp_V (q0 := 1) (ci := 2) hP hD hK hN [1] rfl rfl rfl rfl rfl) rfl rfl hl.1 rfl (lv_room (Nat.le_of_ble_eq_true rfl)) dc_Dr_readPackedClause_65 ⟨Nat.le_of_ble_eq_true rfl, Nat.le_of_ble_eq_true rfl⟩) ?_
                refine kb_if_ne hx hb dc_Dr_readPackedClause_68 rfl (fun hc68 => ?_) (fun hc68 => ?_)
                · exact absurd hc68 (by decide)
                · refine lv_sipush (v := (-1000)) hx hb dc_Dr_readPackedClause_71 (by decide +kernel) ?_
                  exact kw_iret hx hb hr hlocks hP hD hS dc_Dr_readPackedClause_74 (by rw [← h1, hst]) (by rw [← h1, hst])
            · exact absurd hc33 (by decide +kernel)
          · rw [if_neg hti] at hst
            have h256 := ht i
            refine lv_aload_n hx hb dc_Dr_readPackedClause_24 rfl (lv_at hl 2 rfl) ?_
            refine lv_iload_n hx hb dc_Dr_readPackedClause_25 rfl (lv_at hl 0 rfl) ?_
            refine kr_call1 (va_runV (As := [.int (nI i)]) (rest := []) ⟨hx, hb, hml, hown, hts⟩ (ct_Tx_atn l D cI cZ _ xt ta 250 tn t i (by decide) (htn) (by omega)) (cwV 1 hts (kx_gV wd_532 wd_293 wd_294 wd_2 wd_295) rfl rfl rfl ⟨rfl, yd_Tx_at⟩ ⟨Nat.le_of_ble_eq_true rfl, Nat.le_of_ble_eq_true rfl⟩) (kp_V (q0 := 5) (ci := 0) hP hD hK hN [5, 6] rfl rfl rfl rfl rfl) rfl rfl hl.1 rfl (lv_room (Nat.le_of_ble_eq_true rfl)) dc_Dr_readPackedClause_26 ⟨Nat.le_of_ble_eq_true rfl, Nat.le_of_ble_eq_true rfl⟩) ?_
            refine lv_istore (lv' := [(4, .int (nI (t i))), (3, .int (nI i)), (0, .ref xd), (1, .ref xt), (2, .int (nI q))]) hx hb dc_Dr_readPackedClause_29 hl (by decide) rfl (fun ls hl => ?_)
            refine lv_iload hx hb dc_Dr_readPackedClause_31 (lv_at hl 0 rfl) ?_
            refine kn_if_ne hx hb (by omega) dc_Dr_readPackedClause_33 rfl (fun hc33 => ?_) (fun hc33 => ?_)
            · rw [if_neg hc33] at hst
              refine lv_iload hx hb dc_Dr_readPackedClause_40 (lv_at hl 0 rfl) ?_
              refine lv_iconst (v := nI 1) hx hb dc_Dr_readPackedClause_42 (by decide +kernel) ?_
              refine lv_ishr hx hb dc_Dr_readPackedClause_43 ?_
              refine kn_top (y := nI (t i / 2)) (pk_shrN (k := 1) (by omega) _ (by decide +kernel)) ?_
              refine lv_istore (lv' := [(5, .int (nI (t i / 2))), (4, .int (nI (t i))), (3, .int (nI i)), (0, .ref xd), (1, .ref xt), (2, .int (nI q))]) hx hb dc_Dr_readPackedClause_44 hl (by decide) rfl (fun ls hl => ?_)
              refine lv_aload_n hx hb dc_Dr_readPackedClause_46 rfl (lv_at hl 3 rfl) ?_
              refine va_get (ci := 3) (v := .ref xr) (C := rn_Dr) (T := fd_Dr) (N := 2) hx hb hts in_Dr hown hK hP 0 rfl rfl 0 (by decide) (hts _ wd_87) (fun _ h9 => h9) rfl dc_Dr_readPackedClause_47 ?_
              refine lv_iload hx hb dc_Dr_readPackedClause_50 (lv_at hl 1 rfl) ?_
              refine lv_iconst (v := nI 1) hx hb dc_Dr_readPackedClause_52 (by decide +kernel) ?_
              refine kn_iand hx hb dc_Dr_readPackedClause_53 ?_
              refine kn_top (y := nI (t i % 2)) (congrArg nI (Nat.and_two_pow_sub_one_eq_mod (t i) 1)) ?_
              refine kn_if_ne hx hb (by omega) dc_Dr_readPackedClause_54 rfl (fun hc54 => ?_) (fun hc54 => ?_)
              · refine lv_iload hx hb dc_Dr_readPackedClause_62 (lv_at hl 0 rfl) ?_
                refine lv_ineg hx hb dc_Dr_readPackedClause_64 ?_
                rcases hlo : pt_lob (t i) with _ | b
                · rw [hlo] at hst
                  refine kr_call1 (va_runV (As := [.int (-(nI (t i / 2)))]) (rest := []) ⟨hx, hb, hml, hown, hts⟩ (ct_Cl_append_no l D cI cZ _ xr ra rb rd (n + 1) (-(nI (t i / 2))) (by omega) (by omega) (by have h9 := lob_none (t i) h256 hlo; rw [if_neg hc54] at h9; exact h9)) (cwV 1 hts (kx_gV wd_409 wd_410 wd_411 wd_4 wd_412) rfl rfl rfl ⟨rfl, yd_Cl_append⟩ ⟨Nat.le_of_ble_eq_true rfl, Nat.le_of_ble_eq_true rfl⟩) (kp_V (q0 := 1) (ci := 2) hP hD hK hN [1] rfl rfl rfl rfl rfl) rfl rfl hl.1 rfl (lv_room (Nat.le_of_ble_eq_true rfl)) dc_Dr_readPackedClause_65 ⟨Nat.le_of_ble_eq_true rfl, Nat.le_of_ble_eq_true rfl⟩) ?_
                  refine kb_if_ne hx hb dc_Dr_readPackedClause_68 rfl (fun hc68 => ?_) (fun hc68 => ?_)
                  · exact absurd hc68 (by decide)
                  · refine lv_sipush (v := (-1000)) hx hb dc_Dr_readPackedClause_71 (by decide +kernel) ?_
                    exact kw_iret hx hb hr hlocks hP hD hS dc_Dr_readPackedClause_74 (by rw [← h1, hst]) (by rw [← h1, hst])
                · obtain ⟨hb16, hbe⟩ := lob_some (t i) h256 b hlo
                  rw [if_neg hc54] at hbe
                  rw [hlo] at hst
                  dsimp only at hst
                  refine kn_top (y := pt_lit b) hbe ?_
                  by_cases hfr : ¬ fs1 (n + 1) &&& (2 ^ (b % 8) ||| 2 ^ (b % 8 + 8)) = 0
                  · rw [if_pos hfr] at hst
                    refine kr_call1 (va_runV (As := [.int (pt_lit b)]) (rest := []) ⟨hx, hb, hml, hown, hts⟩ (ct_Cl_append_dup l D cI cZ _ xr ra rb rd 17 (n + 1) fz1 fs1 fl1 b (by decide) (by omega) (hb16) (by omega) (h3.2) (hfr)) (cwV 1 hts (kx_gV wd_409 wd_410 wd_411 wd_4 wd_412) rfl rfl rfl ⟨rfl, yd_Cl_append⟩ ⟨Nat.le_of_ble_eq_true rfl, Nat.le_of_ble_eq_true rfl⟩) (kp_V (q0 := 1) (ci := 2) hP hD hK hN [1, 2, 3, 4] rfl rfl rfl rfl rfl) rfl rfl hl.1 rfl (lv_room (Nat.le_of_ble_eq_true rfl)) dc_Dr_readPackedClause_65 ⟨Nat.le_of_ble_eq_true rfl, Nat.le_of_ble_eq_true rfl⟩) ?_
                    refine kb_if_ne hx hb dc_Dr_readPackedClause_68 rfl (fun hc68 => ?_) (fun hc68 => ?_)
                    · exact absurd hc68 (by decide)
                    · refine lv_sipush (v := (-1000)) hx hb dc_Dr_readPackedClause_71 (by decide +kernel) ?_
                      exact kw_iret hx hb hr hlocks hP hD hS dc_Dr_readPackedClause_74 (by rw [← h1, hst]) (by rw [← h1, hst])
                  · have hfr := Classical.not_not.mp hfr
                    obtain ⟨hw8, hrm⟩ := rm_step h3 hb16 hfr
                    rw [if_neg (fun q9 => q9 hfr)] at hst
                    refine kw_call1 (wr := [dr_c xd xr da, tx_c xt ta tn, ar_n cI ta 250 t]) (ws' := [dr_c xd xr da, cl_c xr ra rb rd (n + 1), ar_n cI ra 17 (va_up fz1 (n + 1) (fz1 (n + 1) + 1)), ar_n cI rb 17 (va_up fs1 (n + 1) (fs1 (n + 1) ||| 2 ^ b)), ar_i cI rd (17 * 8) (upd fl1 ((n + 1) * 8 + fz1 (n + 1)) (pt_lit b)), tx_c xt ta tn, ar_n cI ta 250 t]) (va_runV (As := [.int (pt_lit b)]) (rest := []) ⟨hx, hb, hml, hown, hts⟩ (ct_Cl_append l D cI cZ _ xr ra rb rd 17 (n + 1) fz1 fs1 fl1 b (by decide) (by omega) (hb16) (by omega) (h3.2) (hfr) (hw8)) (cwV 1 hts (kx_gV wd_409 wd_410 wd_411 wd_4 wd_412) rfl rfl rfl ⟨rfl, yd_Cl_append⟩ ⟨Nat.le_of_ble_eq_true rfl, Nat.le_of_ble_eq_true rfl⟩) (kp_V (q0 := 1) (ci := 2) hP hD hK hN [1, 2, 3, 4] rfl rfl rfl rfl rfl) rfl rfl hl.1 rfl (lv_room (Nat.le_of_ble_eq_true rfl)) dc_Dr_readPackedClause_65 ⟨Nat.le_of_ble_eq_true rfl, Nat.le_of_ble_eq_true rfl⟩) hP hD hS hA [1, 2, 3, 4] [0, 5, 6] [0, 3, 4, 5, 6, 1, 2] rfl rfl rfl (by decide) rfl rfl (fun H locs hP hD hS => ?_)
                    refine kb_if_ne hx hb dc_Dr_readPackedClause_68 rfl (fun hc68 => ?_) (fun hc68 => ?_)
                    · refine lv_iinc (k := 2) (v := nI (i + 1)) (lv' := [(3, .int (nI (i + 1))), (5, .int (nI (t i / 2))), (4, .int (nI (t i))), (0, .ref xd), (1, .ref xt), (2, .int (nI q))]) hx hb dc_Dr_readPackedClause_75 hl rfl (nI_1 _) (by decide) rfl (fun ls hl => ?_)
                      refine lv_goto hx hb dc_Dr_readPackedClause_78 rfl ?_
                      have hl := lv_sub (l' := [(3, .int (nI (i + 1))), (0, .ref xd), (1, .ref xt), (2, .int (nI q))]) hl [0, 3, 4, 5] rfl
                      exact ih _ _ _ _ _ _ _ (by omega) hP hD hS hl (by rw [← h1, hst]) (⟨by omega, by omega⟩) (by rw [va_up_self, va_up_self]; exact hrm)
                    · exact absurd hc68 (by decide)
              · refine lv_iload hx hb dc_Dr_readPackedClause_57 (lv_at hl 0 rfl) ?_
                refine lv_goto hx hb dc_Dr_readPackedClause_59 rfl ?_
                rcases hlo : pt_lob (t i) with _ | b
                · rw [hlo] at hst
                  refine kr_call1 (va_runV (As := [.int (nI (t i / 2))]) (rest := []) ⟨hx, hb, hml, hown, hts⟩ (ct_Cl_append_no l D cI cZ _ xr ra rb rd (n + 1) (nI (t i / 2)) (by omega) (by omega) (by have h9 := lob_none (t i) h256 hlo; rw [if_pos hc54] at h9; exact h9)) (cwV 1 hts (kx_gV wd_409 wd_410 wd_411 wd_4 wd_412) rfl rfl rfl ⟨rfl, yd_Cl_append⟩ ⟨Nat.le_of_ble_eq_true rfl, Nat.le_of_ble_eq_true rfl⟩) (kp_V (q0 := 1) (ci := 2) hP hD hK hN [1] rfl rfl rfl rfl rfl) rfl rfl hl.1 rfl (lv_room (Nat.le_of_ble_eq_true rfl)) dc_Dr_readPackedClause_65 ⟨Nat.le_of_ble_eq_true rfl, Nat.le_of_ble_eq_true rfl⟩) ?_
                  refine kb_if_ne hx hb dc_Dr_readPackedClause_68 rfl (fun hc68 => ?_) (fun hc68 => ?_)
                  · exact absurd hc68 (by decide)
                  · refine lv_sipush (v := (-1000)) hx hb dc_Dr_readPackedClause_71 (by decide +kernel) ?_
                    exact kw_iret hx hb hr hlocks hP hD hS dc_Dr_readPackedClause_74 (by rw [← h1, hst]) (by rw [← h1, hst])
                · obtain ⟨hb16, hbe⟩ := lob_some (t i) h256 b hlo
                  rw [if_pos hc54] at hbe
                  rw [hlo] at hst
                  dsimp only at hst
                  refine kn_top (y := pt_lit b) hbe ?_
                  by_cases hfr : ¬ fs1 (n + 1) &&& (2 ^ (b % 8) ||| 2 ^ (b % 8 + 8)) = 0
                  · rw [if_pos hfr] at hst
                    refine kr_call1 (va_runV (As := [.int (pt_lit b)]) (rest := []) ⟨hx, hb, hml, hown, hts⟩ (ct_Cl_append_dup l D cI cZ _ xr ra rb rd 17 (n + 1) fz1 fs1 fl1 b (by decide) (by omega) (hb16) (by omega) (h3.2) (hfr)) (cwV 1 hts (kx_gV wd_409 wd_410 wd_411 wd_4 wd_412) rfl rfl rfl ⟨rfl, yd_Cl_append⟩ ⟨Nat.le_of_ble_eq_true rfl, Nat.le_of_ble_eq_true rfl⟩) (kp_V (q0 := 1) (ci := 2) hP hD hK hN [1, 2, 3, 4] rfl rfl rfl rfl rfl) rfl rfl hl.1 rfl (lv_room (Nat.le_of_ble_eq_true rfl)) dc_Dr_readPackedClause_65 ⟨Nat.le_of_ble_eq_true rfl, Nat.le_of_ble_eq_true rfl⟩) ?_
                    refine kb_if_ne hx hb dc_Dr_readPackedClause_68 rfl (fun hc68 => ?_) (fun hc68 => ?_)
                    · exact absurd hc68 (by decide)
                    · refine lv_sipush (v := (-1000)) hx hb dc_Dr_readPackedClause_71 (by decide +kernel) ?_
                      exact kw_iret hx hb hr hlocks hP hD hS dc_Dr_readPackedClause_74 (by rw [← h1, hst]) (by rw [← h1, hst])
                  · have hfr := Classical.not_not.mp hfr
                    obtain ⟨hw8, hrm⟩ := rm_step h3 hb16 hfr
                    rw [if_neg (fun q9 => q9 hfr)] at hst
                    refine kw_call1 (wr := [dr_c xd xr da, tx_c xt ta tn, ar_n cI ta 250 t]) (ws' := [dr_c xd xr da, cl_c xr ra rb rd (n + 1), ar_n cI ra 17 (va_up fz1 (n + 1) (fz1 (n + 1) + 1)), ar_n cI rb 17 (va_up fs1 (n + 1) (fs1 (n + 1) ||| 2 ^ b)), ar_i cI rd (17 * 8) (upd fl1 ((n + 1) * 8 + fz1 (n + 1)) (pt_lit b)), tx_c xt ta tn, ar_n cI ta 250 t]) (va_runV (As := [.int (pt_lit b)]) (rest := []) ⟨hx, hb, hml, hown, hts⟩ (ct_Cl_append l D cI cZ _ xr ra rb rd 17 (n + 1) fz1 fs1 fl1 b (by decide) (by omega) (hb16) (by omega) (h3.2) (hfr) (hw8)) (cwV 1 hts (kx_gV wd_409 wd_410 wd_411 wd_4 wd_412) rfl rfl rfl ⟨rfl, yd_Cl_append⟩ ⟨Nat.le_of_ble_eq_true rfl, Nat.le_of_ble_eq_true rfl⟩) (kp_V (q0 := 1) (ci := 2) hP hD hK hN [1, 2, 3, 4] rfl rfl rfl rfl rfl) rfl rfl hl.1 rfl (lv_room (Nat.le_of_ble_eq_true rfl)) dc_Dr_readPackedClause_65 ⟨Nat.le_of_ble_eq_true rfl, Nat.le_of_ble_eq_true rfl⟩) hP hD hS hA [1, 2, 3, 4] [0, 5, 6] [0, 3, 4, 5, 6, 1, 2] rfl rfl rfl (by decide) rfl rfl (fun H locs hP hD hS => ?_)
                    refine kb_if_ne hx hb dc_Dr_readPackedClause_68 rfl (fun hc68 => ?_) (fun hc68 => ?_)
                    · refine lv_iinc (k := 2) (v := nI (i + 1)) (lv' := [(3, .int (nI (i + 1))), (5, .int (nI (t i / 2))), (4, .int (nI (t i))), (0, .ref xd), (1, .ref xt), (2, .int (nI q))]) hx hb dc_Dr_readPackedClause_75 hl rfl (nI_1 _) (by decide) rfl (fun ls hl => ?_)
                      refine lv_goto hx hb dc_Dr_readPackedClause_78 rfl ?_
                      have hl := lv_sub (l' := [(3, .int (nI (i + 1))), (0, .ref xd), (1, .ref xt), (2, .int (nI q))]) hl [0, 3, 4, 5] rfl
                      exact ih _ _ _ _ _ _ _ (by omega) hP hD hS hl (by rw [← h1, hst]) (⟨by omega, by omega⟩) (by rw [va_up_self, va_up_self]; exact hrm)
                    · exact absurd hc68 (by decide)
            · rw [if_pos hc33] at hst
              refine lv_iload_n hx hb dc_Dr_readPackedClause_36 rfl (lv_at hl 1 rfl) ?_
              refine lv_iconst (v := nI 1) hx hb dc_Dr_readPackedClause_37 (by decide +kernel) ?_
              refine kn_iadd hx hb dc_Dr_readPackedClause_38 ?_
              exact kw_iret hx hb hr hlocks hP hD hS dc_Dr_readPackedClause_39 (by rw [← h1, hst]) (by rw [← h1, hst])
    exact lp_16 _ _ _ _ _ _ _ _ (Nat.lt_succ_self _) hP hD hS hl (by rw [Nat.sub_self]) (⟨by omega, by omega⟩) (by rw [va_up_self, va_up_self]; exact ⟨by decide, by decide⟩)
  · exact absurd hc7 (by decide)
