/-! bits of the numbers nI n and lN n -/
/-- a without the bits of b -/
def nb_d (a b : Nat) : Nat := a ^^^ (a &&& b)
theorem nb_d_bit (a b i : Nat) : (nb_d a b).testBit i = (a.testBit i && !b.testBit i) := by
  unfold nb_d
  rw [Nat.testBit_xor, Nat.testBit_and]
  cases a.testBit i <;> cases b.testBit i <;> rfl
theorem nb_d_lt {a b n : Nat} (h : a < 2 ^ n) : nb_d a b < 2 ^ n := by
  unfold nb_d
  refine Nat.xor_lt_two_pow h ?_
  rw [Nat.and_comm]
  exact Nat.and_lt_two_pow _ h
theorem nb_and (a b : Nat) : nI a &&& nI b = nI (a &&& b) := by
  apply Int32.toBitVec_inj.1
  show BitVec.ofNat 32 a &&& BitVec.ofNat 32 b = BitVec.ofNat 32 (a &&& b)
  apply BitVec.eq_of_getLsbD_eq
  intro i hi
  simp [hi]
theorem nb_or (a b : Nat) : nI a ||| nI b = nI (a ||| b) := by
  apply Int32.toBitVec_inj.1
  show BitVec.ofNat 32 a ||| BitVec.ofNat 32 b = BitVec.ofNat 32 (a ||| b)
  apply BitVec.eq_of_getLsbD_eq
  intro i hi
  simp [hi]
theorem nb_not (a b : Nat) : nI a &&& (nI b ^^^ (-1)) = nI (nb_d a b) := by
  apply Int32.toBitVec_inj.1
  show BitVec.ofNat 32 a &&& (BitVec.ofNat 32 b ^^^ BitVec.allOnes 32) = BitVec.ofNat 32 (nb_d a b)
  apply BitVec.eq_of_getLsbD_eq
  intro i hi
  simp only [BitVec.getLsbD_and, BitVec.getLsbD_xor, BitVec.getLsbD_ofNat, BitVec.getLsbD_allOnes, hi, nb_d_bit, decide_true, Bool.true_and, Bool.xor_true]
theorem nb_shl1 : ∀ k, k < 31 → nI 1 <<< (nI k &&& 31) = nI (2 ^ k) := by decide +kernel
theorem lb_and (a b : Nat) : lN a &&& lN b = lN (a &&& b) := by
  apply Int64.toBitVec_inj.1
  show BitVec.ofNat 64 a &&& BitVec.ofNat 64 b = BitVec.ofNat 64 (a &&& b)
  apply BitVec.eq_of_getLsbD_eq
  intro i hi
  simp [hi]
theorem lb_or (a b : Nat) : lN a ||| lN b = lN (a ||| b) := by
  apply Int64.toBitVec_inj.1
  show BitVec.ofNat 64 a ||| BitVec.ofNat 64 b = BitVec.ofNat 64 (a ||| b)
  apply BitVec.eq_of_getLsbD_eq
  intro i hi
  simp [hi]
theorem lb_not (a b : Nat) : lN a &&& (lN b ^^^ (-1)) = lN (nb_d a b) := by
  apply Int64.toBitVec_inj.1
  show BitVec.ofNat 64 a &&& (BitVec.ofNat 64 b ^^^ BitVec.allOnes 64) = BitVec.ofNat 64 (nb_d a b)
  apply BitVec.eq_of_getLsbD_eq
  intro i hi
  simp only [BitVec.getLsbD_and, BitVec.getLsbD_xor, BitVec.getLsbD_ofNat, BitVec.getLsbD_allOnes, hi, nb_d_bit, decide_true, Bool.true_and, Bool.xor_true]
theorem lb_shl1 : ∀ k, k < 62 → lN 1 <<< ((nI k).toInt64 &&& 63) = lN (2 ^ k) := by decide +kernel
theorem lN_z {x : Nat} (h : x < 2 ^ 64) : lN x = 0 ↔ x = 0 := by
  constructor
  · intro h0
    have h1 : (lN x).toBitVec.toNat = 0 := by rw [h0]; rfl
    have h2 : (lN x).toBitVec.toNat = x := by
      show (BitVec.ofNat 64 x).toNat = x
      rw [BitVec.toNat_ofNat, Nat.mod_eq_of_lt h]
    omega
  · intro h0
    rw [h0]; rfl
theorem nI_z {x : Nat} (h : x < 2 ^ 32) : nI x = 0 ↔ x = 0 := by
  constructor
  · intro h0
    have h1 : (nI x).toBitVec.toNat = 0 := by rw [h0]; rfl
    rw [pk_tn h] at h1
    exact h1
  · intro h0
    rw [h0]; rfl
/-- the two bytes of a set of literals, one for the other -/
def nb_op (x : Nat) : Nat := (x % 256) <<< 8 ||| x >>> 8
theorem nb_op_bit {x : Nat} (h : x < 65536) (i : Nat) : (nb_op x).testBit i = if i < 8 then x.testBit (i + 8) else if i < 16 then x.testBit (i - 8) else false := by
  unfold nb_op
  rw [Nat.testBit_or, Nat.testBit_shiftLeft, Nat.testBit_shiftRight, show (256 : Nat) = 2 ^ 8 from rfl, Nat.testBit_mod_two_pow]
  have hb : ∀ j, 16 ≤ j → x.testBit j = false := fun j hj => Nat.testBit_lt_two_pow (Nat.lt_of_lt_of_le (show x < 2 ^ 16 from h) (Nat.pow_le_pow_right (show 0 < 2 by decide) hj))
  by_cases h8 : i < 8
  · rw [if_pos h8, decide_eq_false (by omega), Nat.add_comm 8 i]; simp
  · rw [if_neg h8, decide_eq_true (show i ≥ 8 by omega), hb (8 + i) (by omega)]
    by_cases h16 : i < 16
    · rw [if_pos h16, decide_eq_true (by omega)]; simp
    · rw [if_neg h16, decide_eq_false (by omega)]; simp
theorem nb_op_lt {x : Nat} (h : x < 65536) : nb_op x < 65536 := by
  unfold nb_op
  refine Nat.or_lt_two_pow (n := 16) ?_ ?_
  · rw [Nat.shiftLeft_eq]; omega
  · rw [Nat.shiftRight_eq_div_pow]; omega
/-- as the one program does it -/
theorem nb_op_i {x : Nat} (h : x < 65536) : ((nI x).toUInt32 >>> ((nI 8).toUInt32 &&& Int32.toUInt32 31)).toInt32 ||| (nI x <<< (nI 8 &&& 31) &&& nI 65280) = nI (nb_op x) := by
  rw [pk_ushrN (k := 8) (by omega) _ (by decide +kernel), pk_shlN (k := 8) _ (by decide +kernel) (by omega), nb_and, nb_or]
  congr 1
  unfold nb_op
  rw [Nat.or_comm, Nat.shiftRight_eq_div_pow]
  congr 1
  apply Nat.eq_of_testBit_eq
  intro i
  rw [Nat.testBit_and, ← Nat.shiftLeft_eq, Nat.testBit_shiftLeft, Nat.testBit_shiftLeft, show (256 : Nat) = 2 ^ 8 from rfl, Nat.testBit_mod_two_pow]
  have hm : (65280 : Nat).testBit i = (decide (i ≥ 8) && decide (i < 16)) := by
    by_cases hi : i < 16
    · revert i; decide +kernel
    · rw [Nat.testBit_lt_two_pow (Nat.lt_of_lt_of_le (show 65280 < 2 ^ 16 by decide) (Nat.pow_le_pow_right (show 0 < 2 by decide) (by omega))), decide_eq_false hi]; simp
  rw [hm]
  by_cases h8 : i ≥ 8
  · rw [decide_eq_true h8]
    by_cases h16 : i < 16
    · rw [decide_eq_true h16, decide_eq_true (by omega)]; simp
    · rw [decide_eq_false h16, decide_eq_false (by omega)]; simp
  · rw [decide_eq_false h8]; simp
/-- as the other does it -/
theorem nb_op_j {x : Nat} (h : x < 65536) : ((nI x &&& nI 255) <<< (nI 8 &&& 31)) ||| (nI x >>> (nI 8 &&& 31)) = nI (nb_op x) := by
  have e : x &&& 255 = x % 256 := Nat.and_two_pow_sub_one_eq_mod x 8
  rw [nb_and, e, pk_shlN (k := 8) _ (by decide +kernel) (by omega), pk_shrN (k := 8) (by omega) _ (by decide +kernel), nb_or]
  congr 1
  unfold nb_op
  rw [Nat.shiftLeft_eq, Nat.shiftRight_eq_div_pow]
/-- at most one bit -/
theorem nb_one_i {x : Nat} (h : x < 65536) : nI x &&& (nI x - nI 1) = 0 ↔ x &&& (x - 1) = 0 := by
  by_cases h0 : x = 0
  · subst h0; decide +kernel
  · rw [pk_sub (by omega), nb_and]
    exact nI_z (Nat.lt_trans (Nat.and_lt_two_pow (n := 16) _ (by omega)) (by decide))
/-! a text: n bytes t 0, t 1, ..; its words -/
def pt_gap (c : Nat) : Bool := c == 32 || c == 10
/-- the first place from i on, before n, where the byte isn't one of those that g has -/
def pt_sk (g : Nat → Bool) (n : Nat) : Nat → Nat → Nat
  | 0, i => i
  | k + 1, i => if i < n ∧ g i = true then pt_sk g n k (i + 1) else i
def pt_skip (g : Nat → Bool) (n i : Nat) : Nat := pt_sk g n (n - i) i
theorem pt_skip_step {g : Nat → Bool} {n i : Nat} (h : i < n) (hg : g i = true) : pt_skip g n i = pt_skip g n (i + 1) := by
  obtain ⟨k, hk⟩ : ∃ k, n - i = k + 1 := ⟨n - i - 1, by omega⟩
  have hk2 : n - (i + 1) = k := by omega
  unfold pt_skip
  rw [hk, hk2, pt_sk, if_pos ⟨h, hg⟩]
theorem pt_skip_stop {g : Nat → Bool} {n i : Nat} (h : ¬ (i < n ∧ g i = true)) : pt_skip g n i = i := by
  unfold pt_skip
  cases hk : n - i with
  | zero => rw [pt_sk]
  | succ k => rw [pt_sk, if_neg h]
theorem pt_sk_ge (g : Nat → Bool) (n : Nat) : ∀ k i, i ≤ pt_sk g n k i := by
  intro k
  induction k with
  | zero => intro i; exact Nat.le_refl i
  | succ k ih =>
    intro i
    rw [pt_sk]
    split
    · exact Nat.le_trans (Nat.le_succ i) (ih (i + 1))
    · exact Nat.le_refl i
theorem pt_skip_ge (g : Nat → Bool) (n i : Nat) : i ≤ pt_skip g n i := pt_sk_ge g n _ i
theorem pt_sk_le (g : Nat → Bool) (n : Nat) : ∀ k i, i ≤ n → pt_sk g n k i ≤ n := by
  intro k
  induction k with
  | zero => intro i h; exact h
  | succ k ih =>
    intro i h
    rw [pt_sk]
    split
    · exact ih (i + 1) (by omega)
    · exact h
theorem pt_skip_le {g : Nat → Bool} {n i : Nat} (h : i ≤ n) : pt_skip g n i ≤ n := pt_sk_le g n _ i h
theorem pt_sk_end (g : Nat → Bool) (n : Nat) : ∀ k i, n - i = k → ¬ (pt_sk g n k i < n ∧ g (pt_sk g n k i) = true) := by
  intro k
  induction k with
  | zero => intro i h; rw [pt_sk]; omega
  | succ k ih =>
    intro i h
    rw [pt_sk]
    split
    · exact ih (i + 1) (by omega)
    · assumption
theorem pt_skip_end (g : Nat → Bool) (n i : Nat) : ¬ (pt_skip g n i < n ∧ g (pt_skip g n i) = true) := pt_sk_end g n _ i rfl
/-- where the next word begins and ends, behind place i -/
def pt_ws (t : Nat → Nat) (n i : Nat) : Nat := pt_skip (fun j => pt_gap (t j)) n i
def pt_we (t : Nat → Nat) (n i : Nat) : Nat := pt_skip (fun j => !pt_gap (t j)) n i
/-- a row of k digits from place i on, behind the value v -/
def pt_dg (t : Nat → Nat) : Nat → Nat → Nat → Option Nat
  | 0, _, v => some v
  | k + 1, i, v => if 48 ≤ t i ∧ t i ≤ 57 then pt_dg t k (i + 1) (v * 10 + (t i - 48)) else none
/-- the integer that the word from a to b is -/
def pt_int (t : Nat → Nat) (a b : Nat) : Option Int32 :=
  if a < b ∧ t a = 45 then (if b ≤ a + 1 ∨ 3 < b - a ∨ t (a + 1) = 48 then none else (pt_dg t (b - (a + 1)) (a + 1) 0).map (fun v => -(nI v)))
  else (if b ≤ a ∨ 3 < b - a ∨ (t a = 48 ∧ 1 < b - a) then none else (pt_dg t (b - a) a 0).map (fun v => nI v))
