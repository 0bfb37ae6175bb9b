section
/-! bits of the numbers nI n and lN n -/
/-- a without the bits of b -/
def nb_d (a b : Nat) : Nat := a ^^^ (a &&& b)
theorem nb_d_bit (a b i : Nat) : (nb_d a b).testBit i = (a.testBit i && !b.testBit i) := by
  unfold nb_d
  rw [Nat.testBit_xor, Nat.testBit_and]
  cases a.testBit i <;> cases b.testBit i <;> rfl
theorem nb_d_lt {a b n : Nat} (h : a < 2 ^ n) : nb_d a b < 2 ^ n := by
  unfold nb_d
  refine Nat.xor_lt_two_pow h ?_
  rw [Nat.and_comm]
  exact Nat.and_lt_two_pow _ h
theorem nb_and (a b : Nat) : nI a &&& nI b = nI (a &&& b) := by
  apply Int32.toBitVec_inj.1
  show BitVec.ofNat 32 a &&& BitVec.ofNat 32 b = BitVec.ofNat 32 (a &&& b)
  apply BitVec.eq_of_getLsbD_eq
  intro i hi
  simp [hi]
theorem nb_or (a b : Nat) : nI a ||| nI b = nI (a ||| b) := by
  apply Int32.toBitVec_inj.1
  show BitVec.ofNat 32 a ||| BitVec.ofNat 32 b = BitVec.ofNat 32 (a ||| b)
  apply BitVec.eq_of_getLsbD_eq
  intro i hi
  simp [hi]
theorem nb_not (a b : Nat) : nI a &&& (nI b ^^^ (-1)) = nI (nb_d a b) := by
  apply Int32.toBitVec_inj.1
  show BitVec.ofNat 32 a &&& (BitVec.ofNat 32 b ^^^ BitVec.allOnes 32) = BitVec.ofNat 32 (nb_d a b)
  apply BitVec.eq_of_getLsbD_eq
  intro i hi
  simp only [BitVec.getLsbD_and, BitVec.getLsbD_xor, BitVec.getLsbD_ofNat, BitVec.getLsbD_allOnes, hi, nb_d_bit, decide_true, Bool.true_and, Bool.xor_true]
theorem nb_shl1 : ∀ k, k < 31 → nI 1 <<< (nI k &&& 31) = nI (2 ^ k) := by decide +kernel
theorem lb_and (a b : Nat) : lN a &&& lN b = lN (a &&& b) := by
  apply Int64.toBitVec_inj.1
  show BitVec.ofNat 64 a &&& BitVec.ofNat 64 b = BitVec.ofNat 64 (a &&& b)
  apply BitVec.eq_of_getLsbD_eq
  intro i hi
  simp [hi]
theorem lb_or (a b : Nat) : lN a ||| lN b = lN (a ||| b) := by
  apply Int64.toBitVec_inj.1
  show BitVec.ofNat 64 a ||| BitVec.ofNat 64 b = BitVec.ofNat 64 (a ||| b)
  apply BitVec.eq_of_getLsbD_eq
  intro i hi
  simp [hi]
theorem lb_not (a b : Nat) : lN a &&& (lN b ^^^ (-1)) = lN (nb_d a b) := by
  apply Int64.toBitVec_inj.1
  show BitVec.ofNat 64 a &&& (BitVec.ofNat 64 b ^^^ BitVec.allOnes 64) = BitVec.ofNat 64 (nb_d a b)
  apply BitVec.eq_of_getLsbD_eq
  intro i hi
  simp only [BitVec.getLsbD_and, BitVec.getLsbD_xor, BitVec.getLsbD_ofNat, BitVec.getLsbD_allOnes, hi, nb_d_bit, decide_true, Bool.true_and, Bool.xor_true]
theorem lb_shl1 : ∀ k, k < 62 → lN 1 <<< ((nI k).toInt64 &&& 63) = lN (2 ^ k) := by decide +kernel
theorem lN_z {x : Nat} (h : x < 2 ^ 64) : lN x = 0 ↔ x = 0 := by
  constructor
  · intro h0
    have h1 : (lN x).toBitVec.toNat = 0 := by rw [h0]; rfl
    have h2 : (lN x).toBitVec.toNat = x := by
      show (BitVec.ofNat 64 x).toNat = x
      rw [BitVec.toNat_ofNat, Nat.mod_eq_of_lt h]
    omega
  · intro h0
    rw [h0]; rfl
theorem nI_z {x : Nat} (h : x < 2 ^ 32) : nI x = 0 ↔ x = 0 := by
  constructor
  · intro h0
    have h1 : (nI x).toBitVec.toNat = 0 := by rw [h0]; rfl
    rw [pk_tn h] at h1
    exact h1
  · intro h0
    rw [h0]; rfl
/-- the two bytes of a set of literals, one for the other -/
def nb_op (x : Nat) : Nat := (x % 256) <<< 8 ||| x >>> 8
theorem nb_op_bit {x : Nat} (h : x < 65536) (i : Nat) : (nb_op x).testBit i = if i < 8 then x.testBit (i + 8) else if i < 16 then x.testBit (i - 8) else false := by
  unfold nb_op
  rw [Nat.testBit_or, Nat.testBit_shiftLeft, Nat.testBit_shiftRight, show (256 : Nat) = 2 ^ 8 from rfl, Nat.testBit_mod_two_pow]
  have hb : ∀ j, 16 ≤ j → x.testBit j = false := fun j hj => Nat.testBit_lt_two_pow (Nat.lt_of_lt_of_le (show x < 2 ^ 16 from h) (Nat.pow_le_pow_right (show 0 < 2 by decide) hj))
  by_cases h8 : i < 8
  · rw [if_pos h8, decide_eq_false (by omega), Nat.add_comm 8 i]; simp
  · rw [if_neg h8, decide_eq_true (show i ≥ 8 by omega), hb (8 + i) (by omega)]
    by_cases h16 : i < 16
    · rw [if_pos h16, decide_eq_true (by omega)]; simp
    · rw [if_neg h16, decide_eq_false (by omega)]; simp
theorem nb_op_lt {x : Nat} (h : x < 65536) : nb_op x < 65536 := by
  unfold nb_op
  refine Nat.or_lt_two_pow (n := 16) ?_ ?_
  · rw [Nat.shiftLeft_eq]; omega
  · rw [Nat.shiftRight_eq_div_pow]; omega
/-- as the one program does it -/
theorem nb_op_i {x : Nat} (h : x < 65536) : ((nI x).toUInt32 >>> ((nI 8).toUInt32 &&& Int32.toUInt32 31)).toInt32 ||| (nI x <<< (nI 8 &&& 31) &&& nI 65280) = nI (nb_op x) := by
  rw [pk_ushrN (k := 8) (by omega) _ (by decide +kernel), pk_shlN (k := 8) _ (by decide +kernel) (by omega), nb_and, nb_or]
  congr 1
  unfold nb_op
  rw [Nat.or_comm, Nat.shiftRight_eq_div_pow]
  congr 1
  apply Nat.eq_of_testBit_eq
  intro i
  rw [Nat.testBit_and, ← Nat.shiftLeft_eq, Nat.testBit_shiftLeft, Nat.testBit_shiftLeft, show (256 : Nat) = 2 ^ 8 from rfl, Nat.testBit_mod_two_pow]
  have hm : (65280 : Nat).testBit i = (decide (i ≥ 8) && decide (i < 16)) := by
    by_cases hi : i < 16
    · revert i; decide +kernel
    · rw [Nat.testBit_lt_two_pow (Nat.lt_of_lt_of_le (show 65280 < 2 ^ 16 by decide) (Nat.pow_le_pow_right (show 0 < 2 by decide) (by omega))), decide_eq_false hi]; simp
  rw [hm]
  by_cases h8 : i ≥ 8
  · rw [decide_eq_true h8]
    by_cases h16 : i < 16
    · rw [decide_eq_true h16, decide_eq_true (by omega)]; simp
    · rw [decide_eq_false h16, decide_eq_false (by omega)]; simp
  · rw [decide_eq_false h8]; simp
/-- as the other does it -/
theorem nb_op_j {x : Nat} (h : x < 65536) : ((nI x &&& nI 255) <<< (nI 8 &&& 31)) ||| (nI x >>> (nI 8 &&& 31)) = nI (nb_op x) := by
  have e : x &&& 255 = x % 256 := Nat.and_two_pow_sub_one_eq_mod x 8
  rw [nb_and, e, pk_shlN (k := 8) _ (by decide +kernel) (by omega), pk_shrN (k := 8) (by omega) _ (by decide +kernel), nb_or]
  congr 1
  unfold nb_op
  rw [Nat.shiftLeft_eq, Nat.shiftRight_eq_div_pow]
/-- at most one bit -/
theorem nb_one_i {x : Nat} (h : x < 65536) : nI x &&& (nI x - nI 1) = 0 ↔ x &&& (x - 1) = 0 := by
  by_cases h0 : x = 0
  · subst h0; decide +kernel
  · rw [pk_sub (by omega), nb_and]
    exact nI_z (Nat.lt_trans (Nat.and_lt_two_pow (n := 16) _ (by omega)) (by decide))
/-! a text: n bytes t 0, t 1, ..; its words -/
def pt_gap (c : Nat) : Bool := c == 32 || c == 10
/-- the first place from i on, before n, where the byte isn't one of those that g has -/
def pt_sk (g : Nat → Bool) (n : Nat) : Nat → Nat → Nat
  | 0, i => i
  | k + 1, i => if i < n ∧ g i = true then pt_sk g n k (i + 1) else i
def pt_skip (g : Nat → Bool) (n i : Nat) : Nat := pt_sk g n (n - i) i
theorem pt_skip_step {g : Nat → Bool} {n i : Nat} (h : i < n) (hg : g i = true) : pt_skip g n i = pt_skip g n (i + 1) := by
  obtain ⟨k, hk⟩ : ∃ k, n - i = k + 1 := ⟨n - i - 1, by omega⟩
  have hk2 : n - (i + 1) = k := by omega
  unfold pt_skip
  rw [hk, hk2, pt_sk, if_pos ⟨h, hg⟩]
theorem pt_skip_stop {g : Nat → Bool} {n i : Nat} (h : ¬ (i < n ∧ g i = true)) : pt_skip g n i = i := by
  unfold pt_skip
  cases hk : n - i with
  | zero => rw [pt_sk]
  | succ k => rw [pt_sk, if_neg h]
theorem pt_sk_ge (g : Nat → Bool) (n : Nat) : ∀ k i, i ≤ pt_sk g n k i := by
  intro k
  induction k with
  | zero => intro i; exact Nat.le_refl i
  | succ k ih =>
    intro i
    rw [pt_sk]
    split
    · exact Nat.le_trans (Nat.le_succ i) (ih (i + 1))
    · exact Nat.le_refl i
theorem pt_skip_ge (g : Nat → Bool) (n i : Nat) : i ≤ pt_skip g n i := pt_sk_ge g n _ i
theorem pt_sk_le (g : Nat → Bool) (n : Nat) : ∀ k i, i ≤ n → pt_sk g n k i ≤ n := by
  intro k
  induction k with
  | zero => intro i h; exact h
  | succ k ih =>
    intro i h
    rw [pt_sk]
    split
    · exact ih (i + 1) (by omega)
    · exact h
theorem pt_skip_le {g : Nat → Bool} {n i : Nat} (h : i ≤ n) : pt_skip g n i ≤ n := pt_sk_le g n _ i h
theorem pt_sk_end (g : Nat → Bool) (n : Nat) : ∀ k i, n - i = k → ¬ (pt_sk g n k i < n ∧ g (pt_sk g n k i) = true) := by
  intro k
  induction k with
  | zero => intro i h; rw [pt_sk]; omega
  | succ k ih =>
    intro i h
    rw [pt_sk]
    split
    · exact ih (i + 1) (by omega)
    · assumption
theorem pt_skip_end (g : Nat → Bool) (n i : Nat) : ¬ (pt_skip g n i < n ∧ g (pt_skip g n i) = true) := pt_sk_end g n _ i rfl
/-- where the next word begins and ends, behind place i -/
def pt_ws (t : Nat → Nat) (n i : Nat) : Nat := pt_skip (fun j => pt_gap (t j)) n i
def pt_we (t : Nat → Nat) (n i : Nat) : Nat := pt_skip (fun j => !pt_gap (t j)) n i
/-- a row of k digits from place i on, behind the value v -/
def pt_dg (t : Nat → Nat) : Nat → Nat → Nat → Option Nat
  | 0, _, v => some v
  | k + 1, i, v => if 48 ≤ t i ∧ t i ≤ 57 then pt_dg t k (i + 1) (v * 10 + (t i - 48)) else none
/-- the integer that the word from a to b is -/
def pt_int (t : Nat → Nat) (a b : Nat) : Option Int32 :=
  if a < b ∧ t a = 45 then (if b ≤ a + 1 ∨ 3 < b - a ∨ t (a + 1) = 48 then none else (pt_dg t (b - (a + 1)) (a + 1) 0).map (fun v => -(nI v)))
  else (if b ≤ a ∨ 3 < b - a ∨ (t a = 48 ∧ 1 < b - a) then none else (pt_dg t (b - a) a 0).map (fun v => nI v))
end
section
-- ===== PART A: goes FIRST, ahead of the names: the tables' words, and 'selects' of the private methods out of them =====
/-- a private method of a class that the tables say can be made, by its rows of tables_1 -/
def lw_okq (q : MethodName × Nat) : Prop := (q.1.cls ≠ "java/lang/invoke/MethodHandle" ∧ q.1.cls ≠ "java/lang/invoke/VarHandle") ∧ Cond.instantiable q.1.cls q.2 ∈ tables_1 ∧ Cond.privateMethod q.1 ∈ tables_1 ∧ Cond.instanceMethod q.1 ∈ tables_1
theorem lw_p0 : lw_okq (⟨"ProofTrimmer$Draft", "readClause", "(LProofTrimmer$Words;I)Z"⟩, 2) := ⟨⟨by decide +kernel, by decide +kernel⟩, List.mem_of_getElem? (i := 49) (by decide +kernel), List.mem_of_getElem? (i := 399) (by decide +kernel), List.mem_of_getElem? (i := 400) (by decide +kernel)⟩
theorem lw_p1 : lw_okq (⟨"java/lang/Throwable", "fillInStackTrace", "(I)Ljava/lang/Throwable;"⟩, 6) := ⟨⟨by decide +kernel, by decide +kernel⟩, List.mem_of_getElem? (i := 459) (by decide +kernel), List.mem_of_getElem? (i := 457) (by decide +kernel), List.mem_of_getElem? (i := 458) (by decide +kernel)⟩
theorem lw_p2 : lw_okq (⟨"ProofTrimmer$Draft", "readPackedClause", "(LProofTrimmer$Text;I)I"⟩, 2) := ⟨⟨by decide +kernel, by decide +kernel⟩, List.mem_of_getElem? (i := 49) (by decide +kernel), List.mem_of_getElem? (i := 534) (by decide +kernel), List.mem_of_getElem? (i := 535) (by decide +kernel)⟩
theorem lw_p3 : lw_okq (⟨"ProofTrimmer$Checker", "isRight", "(I)Z"⟩, 5) := ⟨⟨by decide +kernel, by decide +kernel⟩, List.mem_of_getElem? (i := 571) (by decide +kernel), List.mem_of_getElem? (i := 604) (by decide +kernel), List.mem_of_getElem? (i := 605) (by decide +kernel)⟩
theorem lw_p4 : lw_okq (⟨"ProofTrimmer$Checker", "propagate", "()I"⟩, 5) := ⟨⟨by decide +kernel, by decide +kernel⟩, List.mem_of_getElem? (i := 571) (by decide +kernel), List.mem_of_getElem? (i := 621) (by decide +kernel), List.mem_of_getElem? (i := 622) (by decide +kernel)⟩
theorem lw_p5 : lw_okq (⟨"ProofTrimmer$Checker", "firstReady", "(J)I"⟩, 5) := ⟨⟨by decide +kernel, by decide +kernel⟩, List.mem_of_getElem? (i := 571) (by decide +kernel), List.mem_of_getElem? (i := 625) (by decide +kernel), List.mem_of_getElem? (i := 626) (by decide +kernel)⟩
theorem lw_p6 : lw_okq (⟨"ProofTrimmer$Checker", "explain", "(III)J"⟩, 5) := ⟨⟨by decide +kernel, by decide +kernel⟩, List.mem_of_getElem? (i := 571) (by decide +kernel), List.mem_of_getElem? (i := 637) (by decide +kernel), List.mem_of_getElem? (i := 638) (by decide +kernel)⟩
theorem lw_p7 : lw_okq (⟨"ProofTrimmer$Checker", "settlesPartners", "(I)Z"⟩, 5) := ⟨⟨by decide +kernel, by decide +kernel⟩, List.mem_of_getElem? (i := 571) (by decide +kernel), List.mem_of_getElem? (i := 650) (by decide +kernel), List.mem_of_getElem? (i := 651) (by decide +kernel)⟩
theorem lw_p8 : lw_okq (⟨"ProofTrimmer$Verifier", "isGood", "(I)Z"⟩, 7) := ⟨⟨by decide +kernel, by decide +kernel⟩, List.mem_of_getElem? (i := 672) (by decide +kernel), List.mem_of_getElem? (i := 708) (by decide +kernel), List.mem_of_getElem? (i := 709) (by decide +kernel)⟩
theorem lw_p9 : lw_okq (⟨"ProofTrimmer$Verifier", "followsPositives", "(I)Z"⟩, 7) := ⟨⟨by decide +kernel, by decide +kernel⟩, List.mem_of_getElem? (i := 672) (by decide +kernel), List.mem_of_getElem? (i := 714) (by decide +kernel), List.mem_of_getElem? (i := 715) (by decide +kernel)⟩
theorem lw_p10 : lw_okq (⟨"ProofTrimmer$Verifier", "followsPartners", "(I)Z"⟩, 7) := ⟨⟨by decide +kernel, by decide +kernel⟩, List.mem_of_getElem? (i := 672) (by decide +kernel), List.mem_of_getElem? (i := 723) (by decide +kernel), List.mem_of_getElem? (i := 724) (by decide +kernel)⟩
theorem lw_p11 : lw_okq (⟨"ProofTrimmer", "writeStep", "(ZI)V"⟩, 10) := ⟨⟨by decide +kernel, by decide +kernel⟩, List.mem_of_getElem? (i := 24) (by decide +kernel), List.mem_of_getElem? (i := 736) (by decide +kernel), List.mem_of_getElem? (i := 737) (by decide +kernel)⟩
theorem lw_p12 : lw_okq (⟨"ProofTrimmerModel", "readFormula", "()Z"⟩, 36) := ⟨⟨by decide +kernel, by decide +kernel⟩, List.mem_of_getElem? (i := 741) (by decide +kernel), List.mem_of_getElem? (i := 873) (by decide +kernel), List.mem_of_getElem? (i := 874) (by decide +kernel)⟩
theorem lw_p13 : lw_okq (⟨"ProofTrimmerModel", "word", "()Z"⟩, 36) := ⟨⟨by decide +kernel, by decide +kernel⟩, List.mem_of_getElem? (i := 741) (by decide +kernel), List.mem_of_getElem? (i := 877) (by decide +kernel), List.mem_of_getElem? (i := 878) (by decide +kernel)⟩
theorem lw_p14 : lw_okq (⟨"ProofTrimmerModel", "isWord", "(III)Z"⟩, 36) := ⟨⟨by decide +kernel, by decide +kernel⟩, List.mem_of_getElem? (i := 741) (by decide +kernel), List.mem_of_getElem? (i := 884) (by decide +kernel), List.mem_of_getElem? (i := 885) (by decide +kernel)⟩
theorem lw_p15 : lw_okq (⟨"ProofTrimmerModel", "integer", "()I"⟩, 36) := ⟨⟨by decide +kernel, by decide +kernel⟩, List.mem_of_getElem? (i := 741) (by decide +kernel), List.mem_of_getElem? (i := 888) (by decide +kernel), List.mem_of_getElem? (i := 889) (by decide +kernel)⟩
def lw_privs_1 : List (MethodName × Nat) := [(⟨"ProofTrimmer$Draft", "readClause", "(LProofTrimmer$Words;I)Z"⟩, 2), (⟨"java/lang/Throwable", "fillInStackTrace", "(I)Ljava/lang/Throwable;"⟩, 6), (⟨"ProofTrimmer$Draft", "readPackedClause", "(LProofTrimmer$Text;I)I"⟩, 2), (⟨"ProofTrimmer$Checker", "isRight", "(I)Z"⟩, 5), (⟨"ProofTrimmer$Checker", "propagate", "()I"⟩, 5), (⟨"ProofTrimmer$Checker", "firstReady", "(J)I"⟩, 5), (⟨"ProofTrimmer$Checker", "explain", "(III)J"⟩, 5), (⟨"ProofTrimmer$Checker", "settlesPartners", "(I)Z"⟩, 5), (⟨"ProofTrimmer$Verifier", "isGood", "(I)Z"⟩, 7), (⟨"ProofTrimmer$Verifier", "followsPositives", "(I)Z"⟩, 7), (⟨"ProofTrimmer$Verifier", "followsPartners", "(I)Z"⟩, 7), (⟨"ProofTrimmer", "writeStep", "(ZI)V"⟩, 10), (⟨"ProofTrimmerModel", "readFormula", "()Z"⟩, 36), (⟨"ProofTrimmerModel", "word", "()Z"⟩, 36), (⟨"ProofTrimmerModel", "isWord", "(III)Z"⟩, 36), (⟨"ProofTrimmerModel", "integer", "()I"⟩, 36)]
theorem lw_r1 : ∀ q ∈ lw_privs_1, lw_okq q := List.forall_mem_cons.mpr ⟨lw_p0, List.forall_mem_cons.mpr ⟨lw_p1, List.forall_mem_cons.mpr ⟨lw_p2, List.forall_mem_cons.mpr ⟨lw_p3, List.forall_mem_cons.mpr ⟨lw_p4, List.forall_mem_cons.mpr ⟨lw_p5, List.forall_mem_cons.mpr ⟨lw_p6, List.forall_mem_cons.mpr ⟨lw_p7, List.forall_mem_cons.mpr ⟨lw_p8, List.forall_mem_cons.mpr ⟨lw_p9, List.forall_mem_cons.mpr ⟨lw_p10, List.forall_mem_cons.mpr ⟨lw_p11, List.forall_mem_cons.mpr ⟨lw_p12, List.forall_mem_cons.mpr ⟨lw_p13, List.forall_mem_cons.mpr ⟨lw_p14, List.forall_mem_cons.mpr ⟨lw_p15, fun _ h => absurd h List.not_mem_nil⟩⟩⟩⟩⟩⟩⟩⟩⟩⟩⟩⟩⟩⟩⟩⟩
theorem lw_p16 : lw_okq (⟨"ProofTrimmerModel", "readClause", "(IZ)V"⟩, 36) := ⟨⟨by decide +kernel, by decide +kernel⟩, List.mem_of_getElem? (i := 741) (by decide +kernel), List.mem_of_getElem? (i := 892) (by decide +kernel), List.mem_of_getElem? (i := 893) (by decide +kernel)⟩
theorem lw_p17 : lw_okq (⟨"ProofTrimmerModel", "beginClause", "(Z)V"⟩, 36) := ⟨⟨by decide +kernel, by decide +kernel⟩, List.mem_of_getElem? (i := 741) (by decide +kernel), List.mem_of_getElem? (i := 896) (by decide +kernel), List.mem_of_getElem? (i := 897) (by decide +kernel)⟩
theorem lw_p18 : lw_okq (⟨"ProofTrimmerModel", "take", "(II)V"⟩, 36) := ⟨⟨by decide +kernel, by decide +kernel⟩, List.mem_of_getElem? (i := 741) (by decide +kernel), List.mem_of_getElem? (i := 900) (by decide +kernel), List.mem_of_getElem? (i := 901) (by decide +kernel)⟩
theorem lw_p19 : lw_okq (⟨"ProofTrimmerModel", "refuse", "(I)I"⟩, 36) := ⟨⟨by decide +kernel, by decide +kernel⟩, List.mem_of_getElem? (i := 741) (by decide +kernel), List.mem_of_getElem? (i := 904) (by decide +kernel), List.mem_of_getElem? (i := 905) (by decide +kernel)⟩
theorem lw_p20 : lw_okq (⟨"ProofTrimmerModel", "make", "(I)V"⟩, 36) := ⟨⟨by decide +kernel, by decide +kernel⟩, List.mem_of_getElem? (i := 741) (by decide +kernel), List.mem_of_getElem? (i := 908) (by decide +kernel), List.mem_of_getElem? (i := 909) (by decide +kernel)⟩
theorem lw_p21 : lw_okq (⟨"ProofTrimmerModel", "setAt", "(I)I"⟩, 36) := ⟨⟨by decide +kernel, by decide +kernel⟩, List.mem_of_getElem? (i := 741) (by decide +kernel), List.mem_of_getElem? (i := 912) (by decide +kernel), List.mem_of_getElem? (i := 913) (by decide +kernel)⟩
theorem lw_p22 : lw_okq (⟨"ProofTrimmerModel", "readPacked", "()Z"⟩, 36) := ⟨⟨by decide +kernel, by decide +kernel⟩, List.mem_of_getElem? (i := 741) (by decide +kernel), List.mem_of_getElem? (i := 923) (by decide +kernel), List.mem_of_getElem? (i := 924) (by decide +kernel)⟩
theorem lw_p23 : lw_okq (⟨"ProofTrimmerModel", "readProof", "()Z"⟩, 36) := ⟨⟨by decide +kernel, by decide +kernel⟩, List.mem_of_getElem? (i := 741) (by decide +kernel), List.mem_of_getElem? (i := 927) (by decide +kernel), List.mem_of_getElem? (i := 928) (by decide +kernel)⟩
theorem lw_p24 : lw_okq (⟨"ProofTrimmerModel", "first", "()V"⟩, 36) := ⟨⟨by decide +kernel, by decide +kernel⟩, List.mem_of_getElem? (i := 741) (by decide +kernel), List.mem_of_getElem? (i := 931) (by decide +kernel), List.mem_of_getElem? (i := 932) (by decide +kernel)⟩
theorem lw_p25 : lw_okq (⟨"ProofTrimmerModel", "alike", "(I)I"⟩, 36) := ⟨⟨by decide +kernel, by decide +kernel⟩, List.mem_of_getElem? (i := 741) (by decide +kernel), List.mem_of_getElem? (i := 935) (by decide +kernel), List.mem_of_getElem? (i := 936) (by decide +kernel)⟩
theorem lw_p26 : lw_okq (⟨"ProofTrimmerModel", "holds", "(I)Z"⟩, 36) := ⟨⟨by decide +kernel, by decide +kernel⟩, List.mem_of_getElem? (i := 741) (by decide +kernel), List.mem_of_getElem? (i := 943) (by decide +kernel), List.mem_of_getElem? (i := 944) (by decide +kernel)⟩
theorem lw_p27 : lw_okq (⟨"ProofTrimmerModel", "propagate", "()I"⟩, 36) := ⟨⟨by decide +kernel, by decide +kernel⟩, List.mem_of_getElem? (i := 741) (by decide +kernel), List.mem_of_getElem? (i := 950) (by decide +kernel), List.mem_of_getElem? (i := 951) (by decide +kernel)⟩
theorem lw_p28 : lw_okq (⟨"ProofTrimmerModel", "next", "()I"⟩, 36) := ⟨⟨by decide +kernel, by decide +kernel⟩, List.mem_of_getElem? (i := 741) (by decide +kernel), List.mem_of_getElem? (i := 954) (by decide +kernel), List.mem_of_getElem? (i := 955) (by decide +kernel)⟩
theorem lw_p29 : lw_okq (⟨"ProofTrimmerModel", "open", "(I)I"⟩, 36) := ⟨⟨by decide +kernel, by decide +kernel⟩, List.mem_of_getElem? (i := 741) (by decide +kernel), List.mem_of_getElem? (i := 958) (by decide +kernel), List.mem_of_getElem? (i := 959) (by decide +kernel)⟩
theorem lw_p30 : lw_okq (⟨"ProofTrimmerModel", "use", "(I)V"⟩, 36) := ⟨⟨by decide +kernel, by decide +kernel⟩, List.mem_of_getElem? (i := 741) (by decide +kernel), List.mem_of_getElem? (i := 965) (by decide +kernel), List.mem_of_getElem? (i := 966) (by decide +kernel)⟩
theorem lw_p31 : lw_okq (⟨"ProofTrimmerModel", "sayUsed", "(III)V"⟩, 36) := ⟨⟨by decide +kernel, by decide +kernel⟩, List.mem_of_getElem? (i := 741) (by decide +kernel), List.mem_of_getElem? (i := 969) (by decide +kernel), List.mem_of_getElem? (i := 970) (by decide +kernel)⟩
def lw_privs_2 : List (MethodName × Nat) := [(⟨"ProofTrimmerModel", "readClause", "(IZ)V"⟩, 36), (⟨"ProofTrimmerModel", "beginClause", "(Z)V"⟩, 36), (⟨"ProofTrimmerModel", "take", "(II)V"⟩, 36), (⟨"ProofTrimmerModel", "refuse", "(I)I"⟩, 36), (⟨"ProofTrimmerModel", "make", "(I)V"⟩, 36), (⟨"ProofTrimmerModel", "setAt", "(I)I"⟩, 36), (⟨"ProofTrimmerModel", "readPacked", "()Z"⟩, 36), (⟨"ProofTrimmerModel", "readProof", "()Z"⟩, 36), (⟨"ProofTrimmerModel", "first", "()V"⟩, 36), (⟨"ProofTrimmerModel", "alike", "(I)I"⟩, 36), (⟨"ProofTrimmerModel", "holds", "(I)Z"⟩, 36), (⟨"ProofTrimmerModel", "propagate", "()I"⟩, 36), (⟨"ProofTrimmerModel", "next", "()I"⟩, 36), (⟨"ProofTrimmerModel", "open", "(I)I"⟩, 36), (⟨"ProofTrimmerModel", "use", "(I)V"⟩, 36), (⟨"ProofTrimmerModel", "sayUsed", "(III)V"⟩, 36)]
theorem lw_r2 : ∀ q ∈ lw_privs_2, lw_okq q := List.forall_mem_cons.mpr ⟨lw_p16, List.forall_mem_cons.mpr ⟨lw_p17, List.forall_mem_cons.mpr ⟨lw_p18, List.forall_mem_cons.mpr ⟨lw_p19, List.forall_mem_cons.mpr ⟨lw_p20, List.forall_mem_cons.mpr ⟨lw_p21, List.forall_mem_cons.mpr ⟨lw_p22, List.forall_mem_cons.mpr ⟨lw_p23, List.forall_mem_cons.mpr ⟨lw_p24, List.forall_mem_cons.mpr ⟨lw_p25, List.forall_mem_cons.mpr ⟨lw_p26, List.forall_mem_cons.mpr ⟨lw_p27, List.forall_mem_cons.mpr ⟨lw_p28, List.forall_mem_cons.mpr ⟨lw_p29, List.forall_mem_cons.mpr ⟨lw_p30, List.forall_mem_cons.mpr ⟨lw_p31, fun _ h => absurd h List.not_mem_nil⟩⟩⟩⟩⟩⟩⟩⟩⟩⟩⟩⟩⟩⟩⟩⟩
theorem lw_p32 : lw_okq (⟨"ProofTrimmerModel", "say", "(II)V"⟩, 36) := ⟨⟨by decide +kernel, by decide +kernel⟩, List.mem_of_getElem? (i := 741) (by decide +kernel), List.mem_of_getElem? (i := 973) (by decide +kernel), List.mem_of_getElem? (i := 974) (by decide +kernel)⟩
theorem lw_p33 : lw_okq (⟨"ProofTrimmerModel", "partners", "(I)Z"⟩, 36) := ⟨⟨by decide +kernel, by decide +kernel⟩, List.mem_of_getElem? (i := 741) (by decide +kernel), List.mem_of_getElem? (i := 977) (by decide +kernel), List.mem_of_getElem? (i := 978) (by decide +kernel)⟩
theorem lw_p34 : lw_okq (⟨"ProofTrimmerModel", "markAll", "()V"⟩, 36) := ⟨⟨by decide +kernel, by decide +kernel⟩, List.mem_of_getElem? (i := 741) (by decide +kernel), List.mem_of_getElem? (i := 981) (by decide +kernel), List.mem_of_getElem? (i := 982) (by decide +kernel)⟩
theorem lw_p35 : lw_okq (⟨"ProofTrimmerModel", "isClause", "(I)Z"⟩, 36) := ⟨⟨by decide +kernel, by decide +kernel⟩, List.mem_of_getElem? (i := 741) (by decide +kernel), List.mem_of_getElem? (i := 993) (by decide +kernel), List.mem_of_getElem? (i := 994) (by decide +kernel)⟩
theorem lw_p36 : lw_okq (⟨"ProofTrimmerModel", "isHint", "(II)Z"⟩, 36) := ⟨⟨by decide +kernel, by decide +kernel⟩, List.mem_of_getElem? (i := 741) (by decide +kernel), List.mem_of_getElem? (i := 1017) (by decide +kernel), List.mem_of_getElem? (i := 1018) (by decide +kernel)⟩
theorem lw_p37 : lw_okq (⟨"ProofTrimmerModel", "isGood", "(I)Z"⟩, 36) := ⟨⟨by decide +kernel, by decide +kernel⟩, List.mem_of_getElem? (i := 741) (by decide +kernel), List.mem_of_getElem? (i := 1029) (by decide +kernel), List.mem_of_getElem? (i := 1030) (by decide +kernel)⟩
theorem lw_p38 : lw_okq (⟨"ProofTrimmerModel", "positive", "(I)I"⟩, 36) := ⟨⟨by decide +kernel, by decide +kernel⟩, List.mem_of_getElem? (i := 741) (by decide +kernel), List.mem_of_getElem? (i := 1033) (by decide +kernel), List.mem_of_getElem? (i := 1034) (by decide +kernel)⟩
theorem lw_p39 : lw_okq (⟨"ProofTrimmerModel", "followsPartners", "(I)Z"⟩, 36) := ⟨⟨by decide +kernel, by decide +kernel⟩, List.mem_of_getElem? (i := 741) (by decide +kernel), List.mem_of_getElem? (i := 1037) (by decide +kernel), List.mem_of_getElem? (i := 1038) (by decide +kernel)⟩
theorem lw_p40 : lw_okq (⟨"ProofTrimmerModel", "put", "(I)V"⟩, 36) := ⟨⟨by decide +kernel, by decide +kernel⟩, List.mem_of_getElem? (i := 741) (by decide +kernel), List.mem_of_getElem? (i := 1045) (by decide +kernel), List.mem_of_getElem? (i := 1046) (by decide +kernel)⟩
def lw_privs_3 : List (MethodName × Nat) := [(⟨"ProofTrimmerModel", "say", "(II)V"⟩, 36), (⟨"ProofTrimmerModel", "partners", "(I)Z"⟩, 36), (⟨"ProofTrimmerModel", "markAll", "()V"⟩, 36), (⟨"ProofTrimmerModel", "isClause", "(I)Z"⟩, 36), (⟨"ProofTrimmerModel", "isHint", "(II)Z"⟩, 36), (⟨"ProofTrimmerModel", "isGood", "(I)Z"⟩, 36), (⟨"ProofTrimmerModel", "positive", "(I)I"⟩, 36), (⟨"ProofTrimmerModel", "followsPartners", "(I)Z"⟩, 36), (⟨"ProofTrimmerModel", "put", "(I)V"⟩, 36)]
theorem lw_r3 : ∀ q ∈ lw_privs_3, lw_okq q := List.forall_mem_cons.mpr ⟨lw_p32, List.forall_mem_cons.mpr ⟨lw_p33, List.forall_mem_cons.mpr ⟨lw_p34, List.forall_mem_cons.mpr ⟨lw_p35, List.forall_mem_cons.mpr ⟨lw_p36, List.forall_mem_cons.mpr ⟨lw_p37, List.forall_mem_cons.mpr ⟨lw_p38, List.forall_mem_cons.mpr ⟨lw_p39, List.forall_mem_cons.mpr ⟨lw_p40, fun _ h => absurd h List.not_mem_nil⟩⟩⟩⟩⟩⟩⟩⟩⟩
def lw_privs : List (MethodName × Nat) := lw_privs_1 ++ (lw_privs_2 ++ (lw_privs_3))
def lw_tbl : List Cond := k2_sels lw_privs ++ tables_1
theorem lw_privs_ok : ∀ q ∈ lw_privs, lw_okq q := by
  show ∀ q ∈ lw_privs_1 ++ (lw_privs_2 ++ (lw_privs_3)), lw_okq q
  exact List.forall_mem_append.mpr ⟨lw_r1, List.forall_mem_append.mpr ⟨lw_r2, lw_r3⟩⟩
end
section
/-! own rows: numbers of the kind nI, and truth values, on the operand stack -/
def kb_i (b : Bool) : Int32 := if b = true then 1 else 0
theorem kb_0 {b : Bool} : kb_i b = 0 ↔ b = false := by cases b <;> decide
theorem kb_t : kb_i true = 1 := rfl
theorem kb_f : kb_i false = 0 := rfl
theorem kb_n0 {b : Bool} : ¬ kb_i b = 0 ↔ b = true := by cases b <;> decide
theorem kb_nar (b : Bool) : narrow .boolean (.int (kb_i b)) = .int (kb_i b) := by cases b <;> rfl
theorem kb_vp (b : Bool) : vp_nar .boolean (kb_i b) = kb_i b := by cases b <;> rfl
theorem kb_fit (b : Bool) : fits .boolean (.int (kb_i b)) = true := by cases b <;> rfl
theorem kn_dec {n : Nat} (h : 0 < n) : nI n + Int32.ofInt (-1) = nI (n - 1) := sb_m1 h
section KN
variable {p : Program} {l : Launch} {e : Env} {R : Room} {s : State} {m : MethodId} {args : Array Value} {below : List Frame} {meth : Method} {c : Code} {H : Heap} {locs : List Loc} {cells slots : Nat} {Q : State → Prop}
variable {cc : ByteArray} {pc : Nat} {ls : Array Slot} {rest : List Value}
theorem kn_iadd (hexec : p.tables.exec = Jvm.exec) (hb : c.code = cc) {x y : Nat} (hdg : decode cc pc = .ok (.iadd, 1)) (k : W p l e R s m args below meth c H locs cells slots Q (F0 m (pc + 1) ls (.int (nI (x + y)) :: rest))) : W p l e R s m args below meth c H locs cells slots Q (F0 m pc ls (.int (nI y) :: .int (nI x) :: rest)) :=
  lv_iadd hexec hb hdg (by rw [nI_add]; exact k)
theorem kn_isub (hexec : p.tables.exec = Jvm.exec) (hb : c.code = cc) {x y : Nat} (h : y ≤ x) (hdg : decode cc pc = .ok (.isub, 1)) (k : W p l e R s m args below meth c H locs cells slots Q (F0 m (pc + 1) ls (.int (nI (x - y)) :: rest))) : W p l e R s m args below meth c H locs cells slots Q (F0 m pc ls (.int (nI y) :: .int (nI x) :: rest)) :=
  lv_isub hexec hb hdg (by rw [pk_sub h]; exact k)
theorem kn_imul (hexec : p.tables.exec = Jvm.exec) (hb : c.code = cc) {x y : Nat} (hdg : decode cc pc = .ok (.imul, 1)) (k : W p l e R s m args below meth c H locs cells slots Q (F0 m (pc + 1) ls (.int (nI (x * y)) :: rest))) : W p l e R s m args below meth c H locs cells slots Q (F0 m pc ls (.int (nI y) :: .int (nI x) :: rest)) :=
  lv_imul hexec hb hdg (by rw [pk_mul]; exact k)
theorem kn_icmp_eq (hexec : p.tables.exec = Jvm.exec) (hb : c.code = cc) {x y : Nat} (hx : x < 2 ^ 31) (hy : y < 2 ^ 31) {off : Int} {tgt : Nat} (hdg : decode cc pc = .ok (.if_icmp .eq off, 3)) (ht : (pc : Int) + off = (tgt : Int))
    (kt : x = y → W p l e R s m args below meth c H locs cells slots Q (F0 m tgt ls rest)) (kf : ¬ x = y → W p l e R s m args below meth c H locs cells slots Q (F0 m (pc + 3) ls rest)) : W p l e R s m args below meth c H locs cells slots Q (F0 m pc ls (.int (nI y) :: .int (nI x) :: rest)) :=
  lv_icmp_eq hexec hb hdg ht (fun h => kt (by first | exact (nI_eq hx hy).mp h | exact ((nI_eq hy hx).mp h).symm)) (fun h => kf (fun q => h (by rw [q])))
theorem kn_icmp_ne (hexec : p.tables.exec = Jvm.exec) (hb : c.code = cc) {x y : Nat} (hx : x < 2 ^ 31) (hy : y < 2 ^ 31) {off : Int} {tgt : Nat} (hdg : decode cc pc = .ok (.if_icmp .ne off, 3)) (ht : (pc : Int) + off = (tgt : Int))
    (kt : ¬ x = y → W p l e R s m args below meth c H locs cells slots Q (F0 m tgt ls rest)) (kf : x = y → W p l e R s m args below meth c H locs cells slots Q (F0 m (pc + 3) ls rest)) : W p l e R s m args below meth c H locs cells slots Q (F0 m pc ls (.int (nI y) :: .int (nI x) :: rest)) :=
  lv_icmp_ne hexec hb hdg ht (fun h => kt (fun q => h (by rw [q]))) (fun h => kf (by
    first | exact (nI_eq hx hy).mp h | exact ((nI_eq hy hx).mp h).symm))
theorem kn_icmp_lt (hexec : p.tables.exec = Jvm.exec) (hb : c.code = cc) {x y : Nat} (hx : x < 2 ^ 31) (hy : y < 2 ^ 31) {off : Int} {tgt : Nat} (hdg : decode cc pc = .ok (.if_icmp .lt off, 3)) (ht : (pc : Int) + off = (tgt : Int))
    (kt : x < y → W p l e R s m args below meth c H locs cells slots Q (F0 m tgt ls rest)) (kf : y ≤ x → W p l e R s m args below meth c H locs cells slots Q (F0 m (pc + 3) ls rest)) : W p l e R s m args below meth c H locs cells slots Q (F0 m pc ls (.int (nI y) :: .int (nI x) :: rest)) :=
  lv_icmp_lt hexec hb hdg ht (fun h => kt ((nI_ltI hx hy).mp h)) (fun h => kf (Nat.le_of_not_lt (fun q => h ((nI_ltI hx hy).mpr q))))
theorem kn_icmp_ge (hexec : p.tables.exec = Jvm.exec) (hb : c.code = cc) {x y : Nat} (hx : x < 2 ^ 31) (hy : y < 2 ^ 31) {off : Int} {tgt : Nat} (hdg : decode cc pc = .ok (.if_icmp .ge off, 3)) (ht : (pc : Int) + off = (tgt : Int))
    (kt : y ≤ x → W p l e R s m args below meth c H locs cells slots Q (F0 m tgt ls rest)) (kf : x < y → W p l e R s m args below meth c H locs cells slots Q (F0 m (pc + 3) ls rest)) : W p l e R s m args below meth c H locs cells slots Q (F0 m pc ls (.int (nI y) :: .int (nI x) :: rest)) :=
  lv_icmp_ge hexec hb hdg ht (fun h => kt ((nI_leI hy hx).mp h)) (fun h => kf (Nat.lt_of_not_le (fun q => h ((nI_leI hy hx).mpr q))))
theorem kn_icmp_gt (hexec : p.tables.exec = Jvm.exec) (hb : c.code = cc) {x y : Nat} (hx : x < 2 ^ 31) (hy : y < 2 ^ 31) {off : Int} {tgt : Nat} (hdg : decode cc pc = .ok (.if_icmp .gt off, 3)) (ht : (pc : Int) + off = (tgt : Int))
    (kt : y < x → W p l e R s m args below meth c H locs cells slots Q (F0 m tgt ls rest)) (kf : x ≤ y → W p l e R s m args below meth c H locs cells slots Q (F0 m (pc + 3) ls rest)) : W p l e R s m args below meth c H locs cells slots Q (F0 m pc ls (.int (nI y) :: .int (nI x) :: rest)) :=
  lv_icmp_gt hexec hb hdg ht (fun h => kt ((nI_ltI hy hx).mp h)) (fun h => kf (Nat.le_of_not_lt (fun q => h ((nI_ltI hy hx).mpr q))))
theorem kn_icmp_le (hexec : p.tables.exec = Jvm.exec) (hb : c.code = cc) {x y : Nat} (hx : x < 2 ^ 31) (hy : y < 2 ^ 31) {off : Int} {tgt : Nat} (hdg : decode cc pc = .ok (.if_icmp .le off, 3)) (ht : (pc : Int) + off = (tgt : Int))
    (kt : x ≤ y → W p l e R s m args below meth c H locs cells slots Q (F0 m tgt ls rest)) (kf : y < x → W p l e R s m args below meth c H locs cells slots Q (F0 m (pc + 3) ls rest)) : W p l e R s m args below meth c H locs cells slots Q (F0 m pc ls (.int (nI y) :: .int (nI x) :: rest)) :=
  lv_icmp_le hexec hb hdg ht (fun h => kt ((nI_leI hx hy).mp h)) (fun h => kf (Nat.lt_of_not_le (fun q => h ((nI_leI hx hy).mpr q))))
theorem kn_if_eq (hexec : p.tables.exec = Jvm.exec) (hb : c.code = cc) {x : Nat} (hx : x < 2 ^ 32) {off : Int} {tgt : Nat} (hdg : decode cc pc = .ok (.ifCond .eq off, 3)) (ht : (pc : Int) + off = (tgt : Int))
    (kt : x = 0 → W p l e R s m args below meth c H locs cells slots Q (F0 m tgt ls rest)) (kf : ¬ x = 0 → W p l e R s m args below meth c H locs cells slots Q (F0 m (pc + 3) ls rest)) : W p l e R s m args below meth c H locs cells slots Q (F0 m pc ls (.int (nI x) :: rest)) :=
  lv_if_eq hexec hb hdg ht (fun h => kt ((nI_z hx).mp h)) (fun h => kf (fun q => h ((nI_z hx).mpr q)))
theorem kn_if_ne (hexec : p.tables.exec = Jvm.exec) (hb : c.code = cc) {x : Nat} (hx : x < 2 ^ 32) {off : Int} {tgt : Nat} (hdg : decode cc pc = .ok (.ifCond .ne off, 3)) (ht : (pc : Int) + off = (tgt : Int))
    (kt : ¬ x = 0 → W p l e R s m args below meth c H locs cells slots Q (F0 m tgt ls rest)) (kf : x = 0 → W p l e R s m args below meth c H locs cells slots Q (F0 m (pc + 3) ls rest)) : W p l e R s m args below meth c H locs cells slots Q (F0 m pc ls (.int (nI x) :: rest)) :=
  lv_if_ne hexec hb hdg ht (fun h => kt (fun q => h ((nI_z hx).mpr q))) (fun h => kf ((nI_z hx).mp h))
theorem kb_if_eq (hexec : p.tables.exec = Jvm.exec) (hb : c.code = cc) {x : Bool} {off : Int} {tgt : Nat} (hdg : decode cc pc = .ok (.ifCond .eq off, 3)) (ht : (pc : Int) + off = (tgt : Int))
    (kt : x = false → W p l e R s m args below meth c H locs cells slots Q (F0 m tgt ls rest)) (kf : x = true → W p l e R s m args below meth c H locs cells slots Q (F0 m (pc + 3) ls rest)) : W p l e R s m args below meth c H locs cells slots Q (F0 m pc ls (.int (kb_i x) :: rest)) :=
  lv_if_eq hexec hb hdg ht (fun h => kt (kb_0.mp h)) (fun h => kf (kb_n0.mp h))
theorem kb_if_ne (hexec : p.tables.exec = Jvm.exec) (hb : c.code = cc) {x : Bool} {off : Int} {tgt : Nat} (hdg : decode cc pc = .ok (.ifCond .ne off, 3)) (ht : (pc : Int) + off = (tgt : Int))
    (kt : x = true → W p l e R s m args below meth c H locs cells slots Q (F0 m tgt ls rest)) (kf : x = false → W p l e R s m args below meth c H locs cells slots Q (F0 m (pc + 3) ls rest)) : W p l e R s m args below meth c H locs cells slots Q (F0 m pc ls (.int (kb_i x) :: rest)) :=
  lv_if_ne hexec hb hdg ht (fun h => kt (kb_n0.mp h)) (fun h => kf (kb_0.mp h))
theorem kn_iand (hexec : p.tables.exec = Jvm.exec) (hb : c.code = cc) {x y : Nat} (hdg : decode cc pc = .ok (.iand, 1)) (k : W p l e R s m args below meth c H locs cells slots Q (F0 m (pc + 1) ls (.int (nI (x &&& y)) :: rest))) : W p l e R s m args below meth c H locs cells slots Q (F0 m pc ls (.int (nI y) :: .int (nI x) :: rest)) :=
  lv_iand hexec hb hdg (by rw [nb_and]; exact k)
theorem kn_ior (hexec : p.tables.exec = Jvm.exec) (hb : c.code = cc) {x y : Nat} (hdg : decode cc pc = .ok (.ior, 1)) (k : W p l e R s m args below meth c H locs cells slots Q (F0 m (pc + 1) ls (.int (nI (x ||| y)) :: rest))) : W p l e R s m args below meth c H locs cells slots Q (F0 m pc ls (.int (nI y) :: .int (nI x) :: rest)) :=
  lv_ior hexec hb hdg (by rw [nb_or]; exact k)
theorem kn_inot (hexec : p.tables.exec = Jvm.exec) (hb : c.code = cc) {x y : Nat} (hdg : decode cc pc = .ok (.iand, 1)) (k : W p l e R s m args below meth c H locs cells slots Q (F0 m (pc + 1) ls (.int (nI (nb_d x y)) :: rest))) : W p l e R s m args below meth c H locs cells slots Q (F0 m pc ls (.int (nI y ^^^ (-1)) :: .int (nI x) :: rest)) :=
  lv_iand hexec hb hdg (by rw [nb_not]; exact k)
theorem kl_land (hexec : p.tables.exec = Jvm.exec) (hb : c.code = cc) {x y : Nat} (hdg : decode cc pc = .ok (.land, 1)) (k : W p l e R s m args below meth c H locs cells slots Q (F0 m (pc + 1) ls (.long (lN (x &&& y)) :: rest))) : W p l e R s m args below meth c H locs cells slots Q (F0 m pc ls (.long (lN y) :: .long (lN x) :: rest)) :=
  lv_land hexec hb hdg (by rw [lb_and]; exact k)
theorem kl_lor (hexec : p.tables.exec = Jvm.exec) (hb : c.code = cc) {x y : Nat} (hdg : decode cc pc = .ok (.lor, 1)) (k : W p l e R s m args below meth c H locs cells slots Q (F0 m (pc + 1) ls (.long (lN (x ||| y)) :: rest))) : W p l e R s m args below meth c H locs cells slots Q (F0 m pc ls (.long (lN y) :: .long (lN x) :: rest)) :=
  lv_lor hexec hb hdg (by rw [lb_or]; exact k)
theorem kl_lnot (hexec : p.tables.exec = Jvm.exec) (hb : c.code = cc) {x y : Nat} (hdg : decode cc pc = .ok (.land, 1)) (k : W p l e R s m args below meth c H locs cells slots Q (F0 m (pc + 1) ls (.long (lN (nb_d x y)) :: rest))) : W p l e R s m args below meth c H locs cells slots Q (F0 m pc ls (.long (lN y ^^^ (-1)) :: .long (lN x) :: rest)) :=
  lv_land hexec hb hdg (by rw [lb_not]; exact k)
/-- a number on the stack, written otherwise -/
theorem kn_top {x y : Int32} (h : x = y) (k : W p l e R s m args below meth c H locs cells slots Q (F0 m pc ls (.int y :: rest))) : W p l e R s m args below meth c H locs cells slots Q (F0 m pc ls (.int x :: rest)) := by rw [h]; exact k
theorem kl_top {x y : Int64} (h : x = y) (k : W p l e R s m args below meth c H locs cells slots Q (F0 m pc ls (.long y :: rest))) : W p l e R s m args below meth c H locs cells slots Q (F0 m pc ls (.long x :: rest)) := by rw [h]; exact k
end KN
/-- arrays as cells: of numbers, of truth values, of ints -/
abbrev ar_n (cI : ClassId) (a n : Nat) (t : Nat → Nat) : Nat × va_E := (a, .inl (cI, n, .inl (fun i => nI (t i))))
abbrev ar_b (cZ : ClassId) (a n : Nat) (t : Nat → Bool) : Nat × va_E := (a, .inl (cZ, n, .inl (fun i => kb_i (t i))))
abbrev ar_i (cI : ClassId) (a n : Nat) (f : Nat → Int32) : Nat × va_E := (a, .inl (cI, n, .inl f))
theorem ar_upn (t : Nat → Nat) (j x : Nat) : upd (fun i => nI (t i)) j (nI x) = fun i => nI (va_up t j x i) := by
  funext i
  unfold upd va_up
  by_cases h : i = j
  · rw [if_pos h, if_pos h]
  · rw [if_neg h, if_neg h]
theorem ar_upb (t : Nat → Bool) (j : Nat) (x : Bool) : upd (fun i => kb_i (t i)) j (kb_i x) = fun i => kb_i (va_up t j x i) := by
  funext i
  unfold upd va_up
  by_cases h : i = j
  · rw [if_pos h, if_pos h]
  · rw [if_neg h, if_neg h]
section KA
variable {p : Program} {l : Launch} {e : Env} {R : Room} {s : State} {m : MethodId} {args : Array Value} {below : List Frame} {meth : Method} {c : Code} {H : Heap} {locs : List Loc} {cells slots : Nat} {Q : State → Prop}
variable {cc : ByteArray} {pc : Nat} {ls : Array Slot} {rest : List Value} {D : va_G} {cl : List vw_C} {A : Nat → Prop} {a : Nat} {tys : List (ClassId × FieldType)} {ws : va_W} {H0 : Heap}
theorem ka_iald (hexec : p.tables.exec = Jvm.exec) (hb : c.code = cc) (hK : va_K D cl tys s) (hP : va_P D cl ws H) (q0 t0 : Nat) {cA : ClassId} {n : Nat} {f : Nat → Int32} (ha : ws[q0]? = some (a, .inl (cA, n, .inl f))) (ht : tys[t0]? = some (cA, .int)) {j : Nat} (h : j < n) (hn : n < 2 ^ 31) (hdg : decode cc pc = .ok (.iaload, 1))
    (kk : W p l e R s m args below meth c H locs cells slots Q (F0 m (pc + 1) ls (.int (f j) :: rest))) : W p l e R s m args below meth c H locs cells slots Q (F0 m pc ls (.int (nI j) :: .ref a :: rest)) :=
  va_iald hexec hb hK hP q0 t0 ha ht (vp_in_nI h hn) hdg (by rw [nI_clamp (Nat.lt_trans h hn)]; exact kk)
theorem ka_zald (hexec : p.tables.exec = Jvm.exec) (hb : c.code = cc) (hK : va_K D cl tys s) (hP : va_P D cl ws H) (q0 t0 : Nat) {cA : ClassId} {n : Nat} {f : Nat → Int32} (ha : ws[q0]? = some (a, .inl (cA, n, .inl f))) (ht : tys[t0]? = some (cA, .boolean)) {j : Nat} (h : j < n) (hn : n < 2 ^ 31) (hdg : decode cc pc = .ok (.baload, 1))
    (kk : W p l e R s m args below meth c H locs cells slots Q (F0 m (pc + 1) ls (.int (f j) :: rest))) : W p l e R s m args below meth c H locs cells slots Q (F0 m pc ls (.int (nI j) :: .ref a :: rest)) :=
  va_zald hexec hb hK hP q0 t0 ha ht (vp_in_nI h hn) hdg (by rw [nI_clamp (Nat.lt_trans h hn)]; exact kk)
theorem ka_iast (hexec : p.tables.exec = Jvm.exec) (hb : c.code = cc) (hK : va_K D cl tys s) (hP : va_P D cl ws H) (hD : va_D A ws) (hS : va_S A H0 H locs) (q0 t0 : Nat) {cA : ClassId} {n : Nat} {f : Nat → Int32} (ha : ws[q0]? = some (a, .inl (cA, n, .inl f))) (ht : tys[t0]? = some (cA, .int)) {j : Nat} {x : Int32} (h : j < n) (hn : n < 2 ^ 31) (hdg : decode cc pc = .ok (.iastore, 1)) {ws' : va_W} (hw : ws.set q0 (a, .inl (cA, n, .inl (upd f j x))) = ws')
    (kk : ∀ (H1 : Heap) (locs1 : List Loc), va_P D cl ws' H1 → va_D A ws' → va_S A H0 H1 locs1 → W p l e R s m args below meth c H1 locs1 cells slots Q (F0 m (pc + 1) ls rest)) : W p l e R s m args below meth c H locs cells slots Q (F0 m pc ls (.int x :: .int (nI j) :: .ref a :: rest)) :=
  va_iast hexec hb hK hP hD hS q0 t0 ha ht (vp_in_nI h hn) hdg (by rw [nI_clamp (Nat.lt_trans h hn), hw]; exact kk)
theorem ka_zast (hexec : p.tables.exec = Jvm.exec) (hb : c.code = cc) (hK : va_K D cl tys s) (hP : va_P D cl ws H) (hD : va_D A ws) (hS : va_S A H0 H locs) (q0 t0 : Nat) {cA : ClassId} {n : Nat} {f : Nat → Int32} (ha : ws[q0]? = some (a, .inl (cA, n, .inl f))) (ht : tys[t0]? = some (cA, .boolean)) {j : Nat} {b : Bool} (h : j < n) (hn : n < 2 ^ 31) (hdg : decode cc pc = .ok (.bastore, 1)) {ws' : va_W} (hw : ws.set q0 (a, .inl (cA, n, .inl (upd f j (kb_i b)))) = ws')
    (kk : ∀ (H1 : Heap) (locs1 : List Loc), va_P D cl ws' H1 → va_D A ws' → va_S A H0 H1 locs1 → W p l e R s m args below meth c H1 locs1 cells slots Q (F0 m (pc + 1) ls rest)) : W p l e R s m args below meth c H locs cells slots Q (F0 m pc ls (.int (kb_i b) :: .int (nI j) :: .ref a :: rest)) :=
  va_zast hexec hb hK hP hD hS q0 t0 ha ht (vp_in_nI h hn) hdg (by rw [nI_clamp (Nat.lt_trans h hn), kb_vp, hw]; exact kk)
theorem ka_nald (hexec : p.tables.exec = Jvm.exec) (hb : c.code = cc) (hK : va_K D cl tys s) (hP : va_P D cl ws H) (q0 t0 : Nat) {cA : ClassId} {n : Nat} {t : Nat → Nat} (ha : ws[q0]? = some (ar_n cA a n t)) (ht : tys[t0]? = some (cA, .int)) {j : Nat} (h : j < n) (hn : n < 2 ^ 31) (hdg : decode cc pc = .ok (.iaload, 1))
    (kk : W p l e R s m args below meth c H locs cells slots Q (F0 m (pc + 1) ls (.int (nI (t j)) :: rest))) : W p l e R s m args below meth c H locs cells slots Q (F0 m pc ls (.int (nI j) :: .ref a :: rest)) :=
  ka_iald hexec hb hK hP q0 t0 ha ht h hn hdg kk
theorem ka_bald (hexec : p.tables.exec = Jvm.exec) (hb : c.code = cc) (hK : va_K D cl tys s) (hP : va_P D cl ws H) (q0 t0 : Nat) {cA : ClassId} {n : Nat} {t : Nat → Bool} (ha : ws[q0]? = some (ar_b cA a n t)) (ht : tys[t0]? = some (cA, .boolean)) {j : Nat} (h : j < n) (hn : n < 2 ^ 31) (hdg : decode cc pc = .ok (.baload, 1))
    (kk : W p l e R s m args below meth c H locs cells slots Q (F0 m (pc + 1) ls (.int (kb_i (t j)) :: rest))) : W p l e R s m args below meth c H locs cells slots Q (F0 m pc ls (.int (nI j) :: .ref a :: rest)) :=
  ka_zald hexec hb hK hP q0 t0 ha ht h hn hdg kk
theorem ka_nast (hexec : p.tables.exec = Jvm.exec) (hb : c.code = cc) (hK : va_K D cl tys s) (hP : va_P D cl ws H) (hD : va_D A ws) (hS : va_S A H0 H locs) (q0 t0 : Nat) {cA : ClassId} {n : Nat} {t : Nat → Nat} (ha : ws[q0]? = some (ar_n cA a n t)) (ht : tys[t0]? = some (cA, .int)) {j : Nat} {x : Nat} (h : j < n) (hn : n < 2 ^ 31) (hdg : decode cc pc = .ok (.iastore, 1)) {ws' : va_W} (hw : ws.set q0 (ar_n cA a n (va_up t j x)) = ws')
    (kk : ∀ (H1 : Heap) (locs1 : List Loc), va_P D cl ws' H1 → va_D A ws' → va_S A H0 H1 locs1 → W p l e R s m args below meth c H1 locs1 cells slots Q (F0 m (pc + 1) ls rest)) : W p l e R s m args below meth c H locs cells slots Q (F0 m pc ls (.int (nI x) :: .int (nI j) :: .ref a :: rest)) :=
  ka_iast hexec hb hK hP hD hS q0 t0 ha ht h hn hdg (by rw [ar_upn]; exact hw) kk
theorem ka_bast (hexec : p.tables.exec = Jvm.exec) (hb : c.code = cc) (hK : va_K D cl tys s) (hP : va_P D cl ws H) (hD : va_D A ws) (hS : va_S A H0 H locs) (q0 t0 : Nat) {cA : ClassId} {n : Nat} {t : Nat → Bool} (ha : ws[q0]? = some (ar_b cA a n t)) (ht : tys[t0]? = some (cA, .boolean)) {j : Nat} {x : Bool} (h : j < n) (hn : n < 2 ^ 31) (hdg : decode cc pc = .ok (.bastore, 1)) {ws' : va_W} (hw : ws.set q0 (ar_b cA a n (va_up t j x)) = ws')
    (kk : ∀ (H1 : Heap) (locs1 : List Loc), va_P D cl ws' H1 → va_D A ws' → va_S A H0 H1 locs1 → W p l e R s m args below meth c H1 locs1 cells slots Q (F0 m (pc + 1) ls rest)) : W p l e R s m args below meth c H locs cells slots Q (F0 m pc ls (.int (kb_i x) :: .int (nI j) :: .ref a :: rest)) :=
  ka_zast hexec hb hK hP hD hS q0 t0 ha ht h hn hdg (by rw [ar_upb]; exact hw) kk
end KA
/-! own rows: contracts in one form, for readers and for writers -/
/-- a reader's end: its answer, and nothing changed -/
def kr_q (v : Option Value) : Array Value → State → Outcome → State → Prop := fun _ st o t => o = .returned v ∧ t.heap = st.heap
/-- a writer's end: its answer, its world, nothing else changed -/
def kw_q (v : Option Value) (D : va_G) (cl : List vw_C) (ws : va_W) (A : Nat → Prop) : Array Value → State → Outcome → State → Prop := fun _ st o t => o = .returned v ∧ va_P D cl ws t.heap ∧ va_D A ws ∧ va_F A st t
theorem kx_map {ws ws' : va_W} {is : List Nat} (h : is.map (fun i => ws[i]?) = ws'.map some) : is.filterMap (fun i => ws[i]?) = ws' := by
  induction is generalizing ws' with
  | nil => cases ws' with
    | nil => rfl
    | cons a b => simp at h
  | cons i is ih => cases ws' with
    | nil => simp at h
    | cons a b =>
      simp only [List.map_cons, List.cons.injEq] at h
      rw [List.filterMap_cons_some h.1, ih h.2]
section KC
variable {p : Program} {l : Launch} {e : Env} {R : Room} {s : State} {m : MethodId} {args : Array Value} {below : List Frame} {meth : Method} {c : Code} {H : Heap} {locs : List Loc} {cells slots : Nat} {Q : State → Prop}
variable {pc : Nat} {ls : Array Slot} {rest st0 : List Value} {a : Array Value} {A0 : Nat → Prop} {H0 : Heap} {mc ms : Nat} {free : Addr → Prop} {D : va_G} {cl : List vw_C}
/-- a reader was called -/
theorem kr_call {v : Option Value} (hr : va_Run p l e R s m args below meth c H locs cells slots 0 0 (F0 m pc ls st0) rest (kr_q v a) (fun _ => False)) (kk : W p l e R s m args below meth c H locs cells slots Q (F0 m (pc + 3) ls (v.toList ++ rest))) : W p l e R s m args below meth c H locs cells slots Q (F0 m pc ls st0) := by
  intro T hT X
  obtain ⟨v', st₀, t, T', L, h0, X', hL, e1, e2, ⟨hv, hh⟩, st⟩ := hr T hT X
  cases hv
  obtain ⟨t2, a1, b1⟩ := kk T' (by rw [e1, hh, h0]) (Stand.forget X' (fun q h => (hL q h).elim))
  exact ⟨t2, st t2 a1, b1⟩
/-- a reader was called, that answers -/
theorem kr_call1 {v : Value} (hr : va_Run p l e R s m args below meth c H locs cells slots 0 0 (F0 m pc ls st0) rest (kr_q (some v) a) (fun _ => False)) (kk : W p l e R s m args below meth c H locs cells slots Q (F0 m (pc + 3) ls (v :: rest))) : W p l e R s m args below meth c H locs cells slots Q (F0 m pc ls st0) := kr_call hr kk
/-- a writer was called: its cells are cut out, and put back beside the others -/
theorem kw_call {v : Option Value} {ws wc wr w1 ws' : va_W} (hr : va_Run p l e R s m args below meth c H locs cells slots mc ms (F0 m pc ls st0) rest (kw_q v D cl w1 (va_A wc H.size) a) (va_A wc H.size)) (hP : va_P D cl ws H) (hD : va_D A0 ws) (hS : va_S A0 H0 H locs) (hA : ∀ q, H0.size ≤ q → A0 q)
    (isC isR is : List Nat) (hC : isC.map (fun i => ws[i]?) = wc.map some) (hR : isR.map (fun i => ws[i]?) = wr.map some) (hn : va_nd isR = true) (hdis : ∀ i ∈ isR, i ∉ isC) (hs : is.map (fun i => (wr ++ w1)[i]?) = ws'.map some) (hns : va_nd is = true)
    (kk : ∀ (H1 : Heap) (locs1 : List Loc), va_P D cl ws' H1 → va_D A0 ws' → va_S A0 H0 H1 locs1 → W p l e R s m args below meth c H1 locs1 (cells + mc) (slots + ms) Q (F0 m (pc + 3) ls (v.toList ++ rest))) : W p l e R s m args below meth c H locs cells slots Q (F0 m pc ls st0) := by
  have hF := va_free (wc := wc) hD hS hA isC hC
  intro T hT X
  obtain ⟨v', st₀, t, T', L, h0, X', hL, e1, e2, ⟨hv, hP1, hD1, hz, hk⟩, st⟩ := hr T hT X
  cases hv
  rw [h0] at hz hk
  rw [← e1] at hP1 hz hk
  obtain ⟨hP2, hD2⟩ := va_join (wr := wr) (w1 := w1) hP hD isC isR hC hR hn hdis hk hF hP1 hD1
  obtain ⟨t2, a1, b1⟩ := kk T'.heap (locs ++ L) (hP2.sub is (kx_map hs)) (hD2.sub is hns hs)
    ⟨Nat.le_trans hS.1 hz, fun q h1 h2 => by rw [hk q (Nat.lt_of_lt_of_le h1 hS.1) (fun z => h2 (hF q z))]; exact hS.2.1 q h1 h2, fun q hq => by
      rcases List.mem_append.mp hq with h | h
      · exact hS.2.2 q h
      · exact hF _ (hL q h)⟩ T' rfl X'
  exact ⟨t2, st t2 a1, b1⟩
theorem kw_call1 {v : Value} {ws wc wr w1 ws' : va_W} (hr : va_Run p l e R s m args below meth c H locs cells slots mc ms (F0 m pc ls st0) rest (kw_q (some v) D cl w1 (va_A wc H.size) a) (va_A wc H.size)) (hP : va_P D cl ws H) (hD : va_D A0 ws) (hS : va_S A0 H0 H locs) (hA : ∀ q, H0.size ≤ q → A0 q)
    (isC isR is : List Nat) (hC : isC.map (fun i => ws[i]?) = wc.map some) (hR : isR.map (fun i => ws[i]?) = wr.map some) (hn : va_nd isR = true) (hdis : ∀ i ∈ isR, i ∉ isC) (hs : is.map (fun i => (wr ++ w1)[i]?) = ws'.map some) (hns : va_nd is = true)
    (kk : ∀ (H1 : Heap) (locs1 : List Loc), va_P D cl ws' H1 → va_D A0 ws' → va_S A0 H0 H1 locs1 → W p l e R s m args below meth c H1 locs1 (cells + mc) (slots + ms) Q (F0 m (pc + 3) ls (v :: rest))) : W p l e R s m args below meth c H locs cells slots Q (F0 m pc ls st0) := kw_call hr hP hD hS hA isC isR is hC hR hn hdis hs hns kk
theorem kw_call0 {ws wc wr w1 ws' : va_W} (hr : va_Run p l e R s m args below meth c H locs cells slots mc ms (F0 m pc ls st0) rest (kw_q none D cl w1 (va_A wc H.size) a) (va_A wc H.size)) (hP : va_P D cl ws H) (hD : va_D A0 ws) (hS : va_S A0 H0 H locs) (hA : ∀ q, H0.size ≤ q → A0 q)
    (isC isR is : List Nat) (hC : isC.map (fun i => ws[i]?) = wc.map some) (hR : isR.map (fun i => ws[i]?) = wr.map some) (hn : va_nd isR = true) (hdis : ∀ i ∈ isR, i ∉ isC) (hs : is.map (fun i => (wr ++ w1)[i]?) = ws'.map some) (hns : va_nd is = true)
    (kk : ∀ (H1 : Heap) (locs1 : List Loc), va_P D cl ws' H1 → va_D A0 ws' → va_S A0 H0 H1 locs1 → W p l e R s m args below meth c H1 locs1 (cells + mc) (slots + ms) Q (F0 m (pc + 3) ls rest)) : W p l e R s m args below meth c H locs cells slots Q (F0 m pc ls st0) := kw_call hr hP hD hS hA isC isR is hC hR hn hdis hs hns kk
end KC
section KR
variable {p : Program} {l : Launch} {e : Env} {R : Room} {s : State} {m : MethodId} {args : Array Value} {below : List Frame} {meth : Method} {c : Code} {H : Heap} {locs : List Loc} {cells slots : Nat}
variable {cc : ByteArray} {pc : Nat} {ls : Array Slot} {D : va_G} {cl : List vw_C} {A : Nat → Prop}
theorem kr_iret (hexec : p.tables.exec = Jvm.exec) (hb : c.code = cc) (hr : meth.sig.returnType = some .int) (hlocks : meth.locks = false) {v w : Int32} (hdg : decode cc pc = .ok (.ireturn, 1)) (he : w = v) : W p l e R s m args below meth c s.heap [] 0 0 (MQ below (kr_q (some (.int v))) args s 0 0 (fun _ => False)) (F0 m pc ls [.int w]) := by
  subst he
  exact W.iret hexec hb hr (fun t ht _ => ⟨rfl, ht⟩) (fun _ h => by cases h) hdg hlocks
theorem kr_lret (hexec : p.tables.exec = Jvm.exec) (hb : c.code = cc) (hr : meth.sig.returnType = some .long) (hlocks : meth.locks = false) {v w : Int64} (hdg : decode cc pc = .ok (.lreturn, 1)) (he : w = v) : W p l e R s m args below meth c s.heap [] 0 0 (MQ below (kr_q (some (.long v))) args s 0 0 (fun _ => False)) (F0 m pc ls [.long w]) := by
  subst he
  exact W.lret hexec hb hr (fun t ht _ => ⟨rfl, ht⟩) (fun _ h => by cases h) hdg hlocks
theorem kr_zret (hexec : p.tables.exec = Jvm.exec) (hb : c.code = cc) (hr : meth.sig.returnType = some .boolean) (hlocks : meth.locks = false) {v w : Bool} (hdg : decode cc pc = .ok (.ireturn, 1)) (he : w = v) : W p l e R s m args below meth c s.heap [] 0 0 (MQ below (kr_q (some (.int (kb_i v)))) args s 0 0 (fun _ => False)) (F0 m pc ls [.int (kb_i w)]) := by
  subst he
  exact W.zret hexec hb hr (kb_nar _) (fun t ht _ => ⟨rfl, ht⟩) (fun _ h => by cases h) hdg hlocks
theorem kw_vret (hexec : p.tables.exec = Jvm.exec) (hb : c.code = cc) (hr : meth.sig.returnType = none) (hlocks : meth.locks = false) {ws ws' : va_W} (hP : va_P D cl ws H) (hD : va_D A ws) (hS : va_S A s.heap H locs) (hdg : decode cc pc = .ok (.return_, 1)) (hw : ws = ws') : W p l e R s m args below meth c H locs cells slots (MQ below (kw_q none D cl ws' A) args s cells slots A) (F0 m pc ls []) := by
  subst hw
  exact W.vret hexec hb hr (fun t ht _ => ⟨rfl, by rw [ht]; exact hP, hD, hS.F ht⟩) hS.2.2 hdg hlocks
theorem kw_iret (hexec : p.tables.exec = Jvm.exec) (hb : c.code = cc) (hr : meth.sig.returnType = some .int) (hlocks : meth.locks = false) {ws ws' : va_W} (hP : va_P D cl ws H) (hD : va_D A ws) (hS : va_S A s.heap H locs) {v w : Int32} (hdg : decode cc pc = .ok (.ireturn, 1)) (he : w = v) (hw : ws = ws') : W p l e R s m args below meth c H locs cells slots (MQ below (kw_q (some (.int v)) D cl ws' A) args s cells slots A) (F0 m pc ls [.int w]) := by
  subst hw
  subst he
  exact W.iret hexec hb hr (fun t ht _ => ⟨rfl, by rw [ht]; exact hP, hD, hS.F ht⟩) hS.2.2 hdg hlocks
theorem kw_zret (hexec : p.tables.exec = Jvm.exec) (hb : c.code = cc) (hr : meth.sig.returnType = some .boolean) (hlocks : meth.locks = false) {ws ws' : va_W} (hP : va_P D cl ws H) (hD : va_D A ws) (hS : va_S A s.heap H locs) {v w : Bool} (hdg : decode cc pc = .ok (.ireturn, 1)) (he : w = v) (hw : ws = ws') : W p l e R s m args below meth c H locs cells slots (MQ below (kw_q (some (.int (kb_i v))) D cl ws' A) args s cells slots A) (F0 m pc ls [.int (kb_i w)]) := by
  subst hw
  subst he
  exact W.zret hexec hb hr (kb_nar _) (fun t ht _ => ⟨rfl, by rw [ht]; exact hP, hD, hS.F ht⟩) hS.2.2 hdg hlocks
theorem kw_lret (hexec : p.tables.exec = Jvm.exec) (hb : c.code = cc) (hr : meth.sig.returnType = some .long) (hlocks : meth.locks = false) {ws ws' : va_W} (hP : va_P D cl ws H) (hD : va_D A ws) (hS : va_S A s.heap H locs) {v w : Int64} (hdg : decode cc pc = .ok (.lreturn, 1)) (he : w = v) (hw : ws = ws') : W p l e R s m args below meth c H locs cells slots (MQ below (kw_q (some (.long v)) D cl ws' A) args s cells slots A) (F0 m pc ls [.long w]) := by
  subst hw
  subst he
  exact W.lret hexec hb hr (fun t ht _ => ⟨rfl, by rw [ht]; exact hP, hD, hS.F ht⟩) hS.2.2 hdg hlocks
end KR
end
section
/-! names: the system's kinds of objects, their fields, its methods; the words of the tables by their places -/
def rn_Pt : String := "ProofTrimmer"
def fd_Pt : u_T := fun k => match k with
  | 0 => ("ProofTrimmer", "text", "LProofTrimmer$Text;", true)
  | 1 => ("ProofTrimmer", "output", "LProofTrimmer$Text;", true)
  | 2 => ("ProofTrimmer", "draft", "LProofTrimmer$Draft;", true)
  | 3 => ("ProofTrimmer", "clauses", "LProofTrimmer$Clauses;", true)
  | 4 => ("ProofTrimmer", "steps", "LProofTrimmer$Steps;", true)
  | 5 => ("ProofTrimmer", "trace", "LProofTrimmer$Trace;", true)
  | 6 => ("ProofTrimmer", "assignment", "LProofTrimmer$Assignment;", true)
  | 7 => ("ProofTrimmer", "hasFormula", "Z", false)
  | 8 => ("ProofTrimmer", "hasProof", "Z", false)
  | _ => ("ProofTrimmer", "formulaClauses", "I", false)
def ty_Pt : Nat → FieldType := fun k => match k with
  | 0 => .object "ProofTrimmer$Text"
  | 1 => .object "ProofTrimmer$Text"
  | 2 => .object "ProofTrimmer$Draft"
  | 3 => .object "ProofTrimmer$Clauses"
  | 4 => .object "ProofTrimmer$Steps"
  | 5 => .object "ProofTrimmer$Trace"
  | 6 => .object "ProofTrimmer$Assignment"
  | 7 => .boolean
  | 8 => .boolean
  | _ => .int
theorem nm_Pt : ∀ a, a < 10 → ∀ b, b < 10 → a ≠ b → (fd_Pt a).2.1 ≠ (fd_Pt b).2.1 := by decide +kernel
theorem tk_Pt : ∀ k, k < 10 → parseFieldDescriptor (fd_Pt k).2.2.1 = some (ty_Pt k) := by decide +kernel
def rn_Tx : String := "ProofTrimmer$Text"
def fd_Tx : u_T := fun k => match k with
  | 0 => ("ProofTrimmer$Text", "row", "[I", true)
  | _ => ("ProofTrimmer$Text", "length", "I", false)
def ty_Tx : Nat → FieldType := fun k => match k with
  | 0 => .array .int
  | _ => .int
theorem nm_Tx : ∀ a, a < 2 → ∀ b, b < 2 → a ≠ b → (fd_Tx a).2.1 ≠ (fd_Tx b).2.1 := by decide +kernel
theorem tk_Tx : ∀ k, k < 2 → parseFieldDescriptor (fd_Tx k).2.2.1 = some (ty_Tx k) := by decide +kernel
def rn_Wd : String := "ProofTrimmer$Words"
def fd_Wd : u_T := fun k => match k with
  | 0 => ("ProofTrimmer$Words", "text", "LProofTrimmer$Text;", true)
  | 1 => ("ProofTrimmer$Words", "start", "I", false)
  | _ => ("ProofTrimmer$Words", "end", "I", false)
def ty_Wd : Nat → FieldType := fun k => match k with
  | 0 => .object "ProofTrimmer$Text"
  | 1 => .int
  | _ => .int
theorem nm_Wd : ∀ a, a < 3 → ∀ b, b < 3 → a ≠ b → (fd_Wd a).2.1 ≠ (fd_Wd b).2.1 := by decide +kernel
theorem tk_Wd : ∀ k, k < 3 → parseFieldDescriptor (fd_Wd k).2.2.1 = some (ty_Wd k) := by decide +kernel
def rn_Cl : String := "ProofTrimmer$Clauses"
def fd_Cl : u_T := fun k => match k with
  | 0 => ("ProofTrimmer$Clauses", "sizes", "[I", true)
  | 1 => ("ProofTrimmer$Clauses", "sets", "[I", true)
  | 2 => ("ProofTrimmer$Clauses", "literals", "[I", true)
  | _ => ("ProofTrimmer$Clauses", "count", "I", false)
def ty_Cl : Nat → FieldType := fun k => match k with
  | 0 => .array .int
  | 1 => .array .int
  | 2 => .array .int
  | _ => .int
theorem nm_Cl : ∀ a, a < 4 → ∀ b, b < 4 → a ≠ b → (fd_Cl a).2.1 ≠ (fd_Cl b).2.1 := by decide +kernel
theorem tk_Cl : ∀ k, k < 4 → parseFieldDescriptor (fd_Cl k).2.2.1 = some (ty_Cl k) := by decide +kernel
def rn_Dr : String := "ProofTrimmer$Draft"
def fd_Dr : u_T := fun k => match k with
  | 0 => ("ProofTrimmer$Draft", "rows", "LProofTrimmer$Clauses;", true)
  | _ => ("ProofTrimmer$Draft", "deleting", "[Z", true)
def ty_Dr : Nat → FieldType := fun k => match k with
  | 0 => .object "ProofTrimmer$Clauses"
  | _ => .array .boolean
theorem nm_Dr : ∀ a, a < 2 → ∀ b, b < 2 → a ≠ b → (fd_Dr a).2.1 ≠ (fd_Dr b).2.1 := by decide +kernel
theorem tk_Dr : ∀ k, k < 2 → parseFieldDescriptor (fd_Dr k).2.2.1 = some (ty_Dr k) := by decide +kernel
def rn_Sp : String := "ProofTrimmer$Steps"
def fd_Sp : u_T := fun k => match k with
  | 0 => ("ProofTrimmer$Steps", "deleting", "[Z", true)
  | 1 => ("ProofTrimmer$Steps", "numbers", "[I", true)
  | 2 => ("ProofTrimmer$Steps", "count", "I", false)
  | _ => ("ProofTrimmer$Steps", "open", "Z", false)
def ty_Sp : Nat → FieldType := fun k => match k with
  | 0 => .array .boolean
  | 1 => .array .int
  | 2 => .int
  | _ => .boolean
theorem nm_Sp : ∀ a, a < 4 → ∀ b, b < 4 → a ≠ b → (fd_Sp a).2.1 ≠ (fd_Sp b).2.1 := by decide +kernel
theorem tk_Sp : ∀ k, k < 4 → parseFieldDescriptor (fd_Sp k).2.2.1 = some (ty_Sp k) := by decide +kernel
def rn_Tr : String := "ProofTrimmer$Trace"
def fd_Tr : u_T := fun k => match k with
  | 0 => ("ProofTrimmer$Trace", "starts", "[I", true)
  | 1 => ("ProofTrimmer$Trace", "counts", "[I", true)
  | 2 => ("ProofTrimmer$Trace", "row", "[I", true)
  | 3 => ("ProofTrimmer$Trace", "filled", "I", false)
  | 4 => ("ProofTrimmer$Trace", "markedOnes", "J", false)
  | _ => ("ProofTrimmer$Trace", "checked", "Z", false)
def ty_Tr : Nat → FieldType := fun k => match k with
  | 0 => .array .int
  | 1 => .array .int
  | 2 => .array .int
  | 3 => .int
  | 4 => .long
  | _ => .boolean
theorem nm_Tr : ∀ a, a < 6 → ∀ b, b < 6 → a ≠ b → (fd_Tr a).2.1 ≠ (fd_Tr b).2.1 := by decide +kernel
theorem tk_Tr : ∀ k, k < 6 → parseFieldDescriptor (fd_Tr k).2.2.1 = some (ty_Tr k) := by decide +kernel
def rn_As : String := "ProofTrimmer$Assignment"
def fd_As : u_T := fun k => match k with
  | 0 => ("ProofTrimmer$Assignment", "reasons", "[I", true)
  | 1 => ("ProofTrimmer$Assignment", "implied", "[I", true)
  | 2 => ("ProofTrimmer$Assignment", "count", "I", false)
  | 3 => ("ProofTrimmer$Assignment", "truths", "I", false)
  | _ => ("ProofTrimmer$Assignment", "falsehoods", "I", false)
def ty_As : Nat → FieldType := fun k => match k with
  | 0 => .array .int
  | 1 => .array .int
  | 2 => .int
  | 3 => .int
  | _ => .int
theorem nm_As : ∀ a, a < 5 → ∀ b, b < 5 → a ≠ b → (fd_As a).2.1 ≠ (fd_As b).2.1 := by decide +kernel
theorem tk_As : ∀ k, k < 5 → parseFieldDescriptor (fd_As k).2.2.1 = some (ty_As k) := by decide +kernel
def rn_Ck : String := "ProofTrimmer$Checker"
def fd_Ck : u_T := fun k => match k with
  | 0 => ("ProofTrimmer$Checker", "clauses", "LProofTrimmer$Clauses;", true)
  | 1 => ("ProofTrimmer$Checker", "steps", "LProofTrimmer$Steps;", true)
  | 2 => ("ProofTrimmer$Checker", "trace", "LProofTrimmer$Trace;", true)
  | 3 => ("ProofTrimmer$Checker", "assignment", "LProofTrimmer$Assignment;", true)
  | _ => ("ProofTrimmer$Checker", "live", "J", false)
def ty_Ck : Nat → FieldType := fun k => match k with
  | 0 => .object "ProofTrimmer$Clauses"
  | 1 => .object "ProofTrimmer$Steps"
  | 2 => .object "ProofTrimmer$Trace"
  | 3 => .object "ProofTrimmer$Assignment"
  | _ => .long
theorem nm_Ck : ∀ a, a < 5 → ∀ b, b < 5 → a ≠ b → (fd_Ck a).2.1 ≠ (fd_Ck b).2.1 := by decide +kernel
theorem tk_Ck : ∀ k, k < 5 → parseFieldDescriptor (fd_Ck k).2.2.1 = some (ty_Ck k) := by decide +kernel
def rn_Vf : String := "ProofTrimmer$Verifier"
def fd_Vf : u_T := fun k => match k with
  | 0 => ("ProofTrimmer$Verifier", "clauses", "LProofTrimmer$Clauses;", true)
  | 1 => ("ProofTrimmer$Verifier", "steps", "LProofTrimmer$Steps;", true)
  | 2 => ("ProofTrimmer$Verifier", "trace", "LProofTrimmer$Trace;", true)
  | 3 => ("ProofTrimmer$Verifier", "assignment", "LProofTrimmer$Assignment;", true)
  | 4 => ("ProofTrimmer$Verifier", "live", "J", false)
  | 5 => ("ProofTrimmer$Verifier", "next", "I", false)
  | _ => ("ProofTrimmer$Verifier", "conflict", "Z", false)
def ty_Vf : Nat → FieldType := fun k => match k with
  | 0 => .object "ProofTrimmer$Clauses"
  | 1 => .object "ProofTrimmer$Steps"
  | 2 => .object "ProofTrimmer$Trace"
  | 3 => .object "ProofTrimmer$Assignment"
  | 4 => .long
  | 5 => .int
  | _ => .boolean
theorem nm_Vf : ∀ a, a < 7 → ∀ b, b < 7 → a ≠ b → (fd_Vf a).2.1 ≠ (fd_Vf b).2.1 := by decide +kernel
theorem tk_Vf : ∀ k, k < 7 → parseFieldDescriptor (fd_Vf k).2.2.1 = some (ty_Vf k) := by decide +kernel
def rn_Mo : String := "ProofTrimmerModel"
def fd_Mo : u_T := fun k => match k with
  | 0 => ("ProofTrimmerModel", "thrown", "I", false)
  | 1 => ("ProofTrimmerModel", "typed", "I", false)
  | 2 => ("ProofTrimmerModel", "text", "[I", true)
  | 3 => ("ProofTrimmerModel", "at", "I", false)
  | 4 => ("ProofTrimmerModel", "from", "I", false)
  | 5 => ("ProofTrimmerModel", "to", "I", false)
  | 6 => ("ProofTrimmerModel", "good", "Z", false)
  | 7 => ("ProofTrimmerModel", "reads", "I", false)
  | 8 => ("ProofTrimmerModel", "readSize", "[I", true)
  | 9 => ("ProofTrimmerModel", "readLiteral", "[I", true)
  | 10 => ("ProofTrimmerModel", "readDeletes", "[Z", true)
  | 11 => ("ProofTrimmerModel", "hasFormula", "Z", false)
  | 12 => ("ProofTrimmerModel", "hasProof", "Z", false)
  | 13 => ("ProofTrimmerModel", "closed", "Z", false)
  | 14 => ("ProofTrimmerModel", "checked", "Z", false)
  | 15 => ("ProofTrimmerModel", "base", "I", false)
  | 16 => ("ProofTrimmerModel", "count", "I", false)
  | 17 => ("ProofTrimmerModel", "set", "[I", true)
  | 18 => ("ProofTrimmerModel", "size", "[I", true)
  | 19 => ("ProofTrimmerModel", "literal", "[I", true)
  | 20 => ("ProofTrimmerModel", "live", "[Z", true)
  | 21 => ("ProofTrimmerModel", "mark", "[Z", true)
  | 22 => ("ProofTrimmerModel", "steps", "I", false)
  | 23 => ("ProofTrimmerModel", "adds", "[Z", true)
  | 24 => ("ProofTrimmerModel", "clause", "[I", true)
  | 25 => ("ProofTrimmerModel", "hintCount", "[I", true)
  | 26 => ("ProofTrimmerModel", "hint", "[I", true)
  | 27 => ("ProofTrimmerModel", "truth", "I", false)
  | 28 => ("ProofTrimmerModel", "reasons", "I", false)
  | 29 => ("ProofTrimmerModel", "reason", "[I", true)
  | 30 => ("ProofTrimmerModel", "reached", "[I", true)
  | 31 => ("ProofTrimmerModel", "used", "[Z", true)
  | 32 => ("ProofTrimmerModel", "later", "[Z", true)
  | 33 => ("ProofTrimmerModel", "written", "I", false)
  | 34 => ("ProofTrimmerModel", "out", "[I", true)
  | _ => ("ProofTrimmerModel", "follow", "I", false)
def ty_Mo : Nat → FieldType := fun k => match k with
  | 0 => .int
  | 1 => .int
  | 2 => .array .int
  | 3 => .int
  | 4 => .int
  | 5 => .int
  | 6 => .boolean
  | 7 => .int
  | 8 => .array .int
  | 9 => .array .int
  | 10 => .array .boolean
  | 11 => .boolean
  | 12 => .boolean
  | 13 => .boolean
  | 14 => .boolean
  | 15 => .int
  | 16 => .int
  | 17 => .array .int
  | 18 => .array .int
  | 19 => .array .int
  | 20 => .array .boolean
  | 21 => .array .boolean
  | 22 => .int
  | 23 => .array .boolean
  | 24 => .array .int
  | 25 => .array .int
  | 26 => .array .int
  | 27 => .int
  | 28 => .int
  | 29 => .array .int
  | 30 => .array .int
  | 31 => .array .boolean
  | 32 => .array .boolean
  | 33 => .int
  | 34 => .array .int
  | _ => .int
theorem nm_Mo : ∀ a, a < 36 → ∀ b, b < 36 → a ≠ b → (fd_Mo a).2.1 ≠ (fd_Mo b).2.1 := by decide +kernel
theorem tk_Mo : ∀ k, k < 36 → parseFieldDescriptor (fd_Mo k).2.2.1 = some (ty_Mo k) := by decide +kernel
def rn_La : String := "ProofTrimmerLaw"
abbrev bc_Pt_init : ByteArray := prog_1_method_1_code
def yn_Pt_init : MethodName := ⟨rn_Pt, "<init>", "()V"⟩
abbrev bc_Pt_type : ByteArray := prog_1_method_2_code
def yn_Pt_type : MethodName := ⟨rn_Pt, "type", "(JI)I"⟩
abbrev bc_Pt_wipe : ByteArray := prog_1_method_3_code
def yn_Pt_wipe : MethodName := ⟨rn_Pt, "wipe", "()I"⟩
abbrev bc_Pt_formula : ByteArray := prog_1_method_4_code
def yn_Pt_formula : MethodName := ⟨rn_Pt, "formula", "()I"⟩
abbrev bc_Pt_proof : ByteArray := prog_1_method_5_code
def yn_Pt_proof : MethodName := ⟨rn_Pt, "proof", "(Z)I"⟩
abbrev bc_Pt_check : ByteArray := prog_1_method_6_code
def yn_Pt_check : MethodName := ⟨rn_Pt, "check", "()I"⟩
abbrev bc_Pt_clauses : ByteArray := prog_1_method_7_code
def yn_Pt_clauses : MethodName := ⟨rn_Pt, "clauses", "()I"⟩
abbrev bc_Pt_size : ByteArray := prog_1_method_8_code
def yn_Pt_size : MethodName := ⟨rn_Pt, "size", "(I)I"⟩
abbrev bc_Pt_literal : ByteArray := prog_1_method_9_code
def yn_Pt_literal : MethodName := ⟨rn_Pt, "literal", "(II)I"⟩
abbrev bc_Pt_step : ByteArray := prog_1_method_10_code
def yn_Pt_step : MethodName := ⟨rn_Pt, "step", "(I)I"⟩
abbrev bc_Pt_marked : ByteArray := prog_1_method_11_code
def yn_Pt_marked : MethodName := ⟨rn_Pt, "marked", "(I)Z"⟩
abbrev bc_Pt_hints : ByteArray := prog_1_method_12_code
def yn_Pt_hints : MethodName := ⟨rn_Pt, "hints", "(I)I"⟩
abbrev bc_Pt_hint : ByteArray := prog_1_method_13_code
def yn_Pt_hint : MethodName := ⟨rn_Pt, "hint", "(II)I"⟩
abbrev bc_Pt_poke : ByteArray := prog_1_method_14_code
def yn_Pt_poke : MethodName := ⟨rn_Pt, "poke", "(III)Z"⟩
abbrev bc_Pt_verify : ByteArray := prog_1_method_15_code
def yn_Pt_verify : MethodName := ⟨rn_Pt, "verify", "()I"⟩
abbrev bc_Pt_write : ByteArray := prog_1_method_16_code
def yn_Pt_write : MethodName := ⟨rn_Pt, "write", "()I"⟩
abbrev bc_Pt_written : ByteArray := prog_1_method_17_code
def yn_Pt_written : MethodName := ⟨rn_Pt, "written", "(I)I"⟩
abbrev bc_Pt_writeStep : ByteArray := prog_1_method_18_code
def yn_Pt_writeStep : MethodName := ⟨rn_Pt, "writeStep", "(ZI)V"⟩
abbrev bc_Pt_only : ByteArray := prog_1_method_19_code
def yn_Pt_only : MethodName := ⟨rn_Pt, "only", "(I)I"⟩
abbrev bc_Pt_opposites : ByteArray := prog_1_method_20_code
def yn_Pt_opposites : MethodName := ⟨rn_Pt, "opposites", "(I)I"⟩
abbrev bc_Pt_one : ByteArray := prog_1_method_21_code
def yn_Pt_one : MethodName := ⟨rn_Pt, "one", "(I)J"⟩
abbrev bc_Pt_firstOnes : ByteArray := prog_1_method_22_code
def yn_Pt_firstOnes : MethodName := ⟨rn_Pt, "firstOnes", "(I)J"⟩
abbrev bc_Pt_contains : ByteArray := prog_1_method_23_code
def yn_Pt_contains : MethodName := ⟨rn_Pt, "contains", "(JI)Z"⟩
abbrev bc_Mo_init : ByteArray := prog_12_method_1_code
def yn_Mo_init : MethodName := ⟨rn_Mo, "<init>", "()V"⟩
abbrev bc_Mo_thrown : ByteArray := prog_12_method_2_code
def yn_Mo_thrown : MethodName := ⟨rn_Mo, "thrown", "()I"⟩
abbrev bc_Mo_refuse : ByteArray := prog_12_method_3_code
def yn_Mo_refuse : MethodName := ⟨rn_Mo, "refuse", "(I)I"⟩
abbrev bc_Mo_type : ByteArray := prog_12_method_4_code
def yn_Mo_type : MethodName := ⟨rn_Mo, "type", "(JI)I"⟩
abbrev bc_Mo_wipe : ByteArray := prog_12_method_5_code
def yn_Mo_wipe : MethodName := ⟨rn_Mo, "wipe", "()I"⟩
abbrev bc_Mo_isGap : ByteArray := prog_12_method_6_code
def yn_Mo_isGap : MethodName := ⟨rn_Mo, "isGap", "(I)Z"⟩
abbrev bc_Mo_word : ByteArray := prog_12_method_7_code
def yn_Mo_word : MethodName := ⟨rn_Mo, "word", "()Z"⟩
abbrev bc_Mo_isWord : ByteArray := prog_12_method_8_code
def yn_Mo_isWord : MethodName := ⟨rn_Mo, "isWord", "(III)Z"⟩
abbrev bc_Mo_integer : ByteArray := prog_12_method_9_code
def yn_Mo_integer : MethodName := ⟨rn_Mo, "integer", "()I"⟩
abbrev bc_Mo_beginClause : ByteArray := prog_12_method_10_code
def yn_Mo_beginClause : MethodName := ⟨rn_Mo, "beginClause", "(Z)V"⟩
abbrev bc_Mo_take : ByteArray := prog_12_method_11_code
def yn_Mo_take : MethodName := ⟨rn_Mo, "take", "(II)V"⟩
abbrev bc_Mo_readClause : ByteArray := prog_12_method_12_code
def yn_Mo_readClause : MethodName := ⟨rn_Mo, "readClause", "(IZ)V"⟩
abbrev bc_Mo_readFormula : ByteArray := prog_12_method_13_code
def yn_Mo_readFormula : MethodName := ⟨rn_Mo, "readFormula", "()Z"⟩
abbrev bc_Mo_readProof : ByteArray := prog_12_method_14_code
def yn_Mo_readProof : MethodName := ⟨rn_Mo, "readProof", "()Z"⟩
abbrev bc_Mo_readPacked : ByteArray := prog_12_method_15_code
def yn_Mo_readPacked : MethodName := ⟨rn_Mo, "readPacked", "()Z"⟩
abbrev bc_Mo_bitOf : ByteArray := prog_12_method_16_code
def yn_Mo_bitOf : MethodName := ⟨rn_Mo, "bitOf", "(I)I"⟩
abbrev bc_Mo_opposite : ByteArray := prog_12_method_17_code
def yn_Mo_opposite : MethodName := ⟨rn_Mo, "opposite", "(I)I"⟩
abbrev bc_Mo_setAt : ByteArray := prog_12_method_18_code
def yn_Mo_setAt : MethodName := ⟨rn_Mo, "setAt", "(I)I"⟩
abbrev bc_Mo_make : ByteArray := prog_12_method_19_code
def yn_Mo_make : MethodName := ⟨rn_Mo, "make", "(I)V"⟩
abbrev bc_Mo_formula : ByteArray := prog_12_method_20_code
def yn_Mo_formula : MethodName := ⟨rn_Mo, "formula", "()I"⟩
abbrev bc_Mo_first : ByteArray := prog_12_method_21_code
def yn_Mo_first : MethodName := ⟨rn_Mo, "first", "()V"⟩
abbrev bc_Mo_alike : ByteArray := prog_12_method_22_code
def yn_Mo_alike : MethodName := ⟨rn_Mo, "alike", "(I)I"⟩
abbrev bc_Mo_proof : ByteArray := prog_12_method_23_code
def yn_Mo_proof : MethodName := ⟨rn_Mo, "proof", "(Z)I"⟩
abbrev bc_Mo_bits : ByteArray := prog_12_method_24_code
def yn_Mo_bits : MethodName := ⟨rn_Mo, "bits", "(I)I"⟩
abbrev bc_Mo_open : ByteArray := prog_12_method_25_code
def yn_Mo_open : MethodName := ⟨rn_Mo, "open", "(I)I"⟩
abbrev bc_Mo_next : ByteArray := prog_12_method_26_code
def yn_Mo_next : MethodName := ⟨rn_Mo, "next", "()I"⟩
abbrev bc_Mo_propagate : ByteArray := prog_12_method_27_code
def yn_Mo_propagate : MethodName := ⟨rn_Mo, "propagate", "()I"⟩
abbrev bc_Mo_use : ByteArray := prog_12_method_28_code
def yn_Mo_use : MethodName := ⟨rn_Mo, "use", "(I)V"⟩
abbrev bc_Mo_say : ByteArray := prog_12_method_29_code
def yn_Mo_say : MethodName := ⟨rn_Mo, "say", "(II)V"⟩
abbrev bc_Mo_sayUsed : ByteArray := prog_12_method_30_code
def yn_Mo_sayUsed : MethodName := ⟨rn_Mo, "sayUsed", "(III)V"⟩
abbrev bc_Mo_markAll : ByteArray := prog_12_method_31_code
def yn_Mo_markAll : MethodName := ⟨rn_Mo, "markAll", "()V"⟩
abbrev bc_Mo_partners : ByteArray := prog_12_method_32_code
def yn_Mo_partners : MethodName := ⟨rn_Mo, "partners", "(I)Z"⟩
abbrev bc_Mo_holds : ByteArray := prog_12_method_33_code
def yn_Mo_holds : MethodName := ⟨rn_Mo, "holds", "(I)Z"⟩
abbrev bc_Mo_check : ByteArray := prog_12_method_34_code
def yn_Mo_check : MethodName := ⟨rn_Mo, "check", "()I"⟩
abbrev bc_Mo_clauses : ByteArray := prog_12_method_35_code
def yn_Mo_clauses : MethodName := ⟨rn_Mo, "clauses", "()I"⟩
abbrev bc_Mo_isClause : ByteArray := prog_12_method_36_code
def yn_Mo_isClause : MethodName := ⟨rn_Mo, "isClause", "(I)Z"⟩
abbrev bc_Mo_size : ByteArray := prog_12_method_37_code
def yn_Mo_size : MethodName := ⟨rn_Mo, "size", "(I)I"⟩
abbrev bc_Mo_literal : ByteArray := prog_12_method_38_code
def yn_Mo_literal : MethodName := ⟨rn_Mo, "literal", "(II)I"⟩
abbrev bc_Mo_step : ByteArray := prog_12_method_39_code
def yn_Mo_step : MethodName := ⟨rn_Mo, "step", "(I)I"⟩
abbrev bc_Mo_marked : ByteArray := prog_12_method_40_code
def yn_Mo_marked : MethodName := ⟨rn_Mo, "marked", "(I)Z"⟩
abbrev bc_Mo_hints : ByteArray := prog_12_method_41_code
def yn_Mo_hints : MethodName := ⟨rn_Mo, "hints", "(I)I"⟩
abbrev bc_Mo_isHint : ByteArray := prog_12_method_42_code
def yn_Mo_isHint : MethodName := ⟨rn_Mo, "isHint", "(II)Z"⟩
abbrev bc_Mo_hint : ByteArray := prog_12_method_43_code
def yn_Mo_hint : MethodName := ⟨rn_Mo, "hint", "(II)I"⟩
abbrev bc_Mo_poke : ByteArray := prog_12_method_44_code
def yn_Mo_poke : MethodName := ⟨rn_Mo, "poke", "(III)Z"⟩
abbrev bc_Mo_positive : ByteArray := prog_12_method_45_code
def yn_Mo_positive : MethodName := ⟨rn_Mo, "positive", "(I)I"⟩
abbrev bc_Mo_followsPartners : ByteArray := prog_12_method_46_code
def yn_Mo_followsPartners : MethodName := ⟨rn_Mo, "followsPartners", "(I)Z"⟩
abbrev bc_Mo_isGood : ByteArray := prog_12_method_47_code
def yn_Mo_isGood : MethodName := ⟨rn_Mo, "isGood", "(I)Z"⟩
abbrev bc_Mo_verify : ByteArray := prog_12_method_48_code
def yn_Mo_verify : MethodName := ⟨rn_Mo, "verify", "()I"⟩
abbrev bc_Mo_put : ByteArray := prog_12_method_49_code
def yn_Mo_put : MethodName := ⟨rn_Mo, "put", "(I)V"⟩
abbrev bc_Mo_write : ByteArray := prog_12_method_50_code
def yn_Mo_write : MethodName := ⟨rn_Mo, "write", "()I"⟩
abbrev bc_Mo_written : ByteArray := prog_12_method_51_code
def yn_Mo_written : MethodName := ⟨rn_Mo, "written", "(I)I"⟩
abbrev bc_As_init : ByteArray := prog_2_method_1_code
def yn_As_init : MethodName := ⟨rn_As, "<init>", "()V"⟩
abbrev bc_As_restart : ByteArray := prog_2_method_2_code
def yn_As_restart : MethodName := ⟨rn_As, "restart", "(II)V"⟩
abbrev bc_As_isReady : ByteArray := prog_2_method_3_code
def yn_As_isReady : MethodName := ⟨rn_As, "isReady", "(I)Z"⟩
abbrev bc_As_follow : ByteArray := prog_2_method_4_code
def yn_As_follow : MethodName := ⟨rn_As, "follow", "(II)Z"⟩
abbrev bc_As_usedFor : ByteArray := prog_2_method_5_code
def yn_As_usedFor : MethodName := ⟨rn_As, "usedFor", "(I[I)J"⟩
abbrev bc_Ck_init : ByteArray := prog_3_method_1_code
def yn_Ck_init : MethodName := ⟨rn_Ck, "<init>", "(LProofTrimmer$Clauses;LProofTrimmer$Steps;LProofTrimmer$Trace;LProofTrimmer$Assignment;)V"⟩
abbrev bc_Ck_goBack : ByteArray := prog_3_method_2_code
def yn_Ck_goBack : MethodName := ⟨rn_Ck, "goBack", "(I)I"⟩
abbrev bc_Ck_isRight : ByteArray := prog_3_method_3_code
def yn_Ck_isRight : MethodName := ⟨rn_Ck, "isRight", "(I)Z"⟩
abbrev bc_Ck_settlesPartners : ByteArray := prog_3_method_4_code
def yn_Ck_settlesPartners : MethodName := ⟨rn_Ck, "settlesPartners", "(I)Z"⟩
abbrev bc_Ck_explain : ByteArray := prog_3_method_5_code
def yn_Ck_explain : MethodName := ⟨rn_Ck, "explain", "(III)J"⟩
abbrev bc_Ck_propagate : ByteArray := prog_3_method_6_code
def yn_Ck_propagate : MethodName := ⟨rn_Ck, "propagate", "()I"⟩
abbrev bc_Ck_firstReady : ByteArray := prog_3_method_7_code
def yn_Ck_firstReady : MethodName := ⟨rn_Ck, "firstReady", "(J)I"⟩
abbrev bc_Cl_init : ByteArray := prog_4_method_1_code
def yn_Cl_init : MethodName := ⟨rn_Cl, "<init>", "(I)V"⟩
abbrev bc_Cl_has : ByteArray := prog_4_method_2_code
def yn_Cl_has : MethodName := ⟨rn_Cl, "has", "(I)Z"⟩
abbrev bc_Cl_literalAt : ByteArray := prog_4_method_3_code
def yn_Cl_literalAt : MethodName := ⟨rn_Cl, "literalAt", "(II)I"⟩
abbrev bc_Cl_keep : ByteArray := prog_4_method_4_code
def yn_Cl_keep : MethodName := ⟨rn_Cl, "keep", "(I)V"⟩
abbrev bc_Cl_begin : ByteArray := prog_4_method_5_code
def yn_Cl_begin : MethodName := ⟨rn_Cl, "begin", "()Z"⟩
abbrev bc_Cl_append : ByteArray := prog_4_method_6_code
def yn_Cl_append : MethodName := ⟨rn_Cl, "append", "(I)Z"⟩
abbrev bc_Cl_copy : ByteArray := prog_4_method_7_code
def yn_Cl_copy : MethodName := ⟨rn_Cl, "copy", "(LProofTrimmer$Clauses;I)V"⟩
abbrev bc_Cl_greatestAlike : ByteArray := prog_4_method_8_code
def yn_Cl_greatestAlike : MethodName := ⟨rn_Cl, "greatestAlike", "(JI)I"⟩
abbrev bc_Dr_init : ByteArray := prog_5_method_1_code
def yn_Dr_init : MethodName := ⟨rn_Dr, "<init>", "()V"⟩
abbrev bc_Dr_readFormula : ByteArray := prog_5_method_2_code
def yn_Dr_readFormula : MethodName := ⟨rn_Dr, "readFormula", "(LProofTrimmer$Words;)Z"⟩
abbrev bc_Dr_readProof : ByteArray := prog_5_method_3_code
def yn_Dr_readProof : MethodName := ⟨rn_Dr, "readProof", "(LProofTrimmer$Words;)Z"⟩
abbrev bc_Dr_readPacked : ByteArray := prog_5_method_4_code
def yn_Dr_readPacked : MethodName := ⟨rn_Dr, "readPacked", "(LProofTrimmer$Text;)Z"⟩
abbrev bc_Dr_readClause : ByteArray := prog_5_method_5_code
def yn_Dr_readClause : MethodName := ⟨rn_Dr, "readClause", "(LProofTrimmer$Words;I)Z"⟩
abbrev bc_Dr_readPackedClause : ByteArray := prog_5_method_6_code
def yn_Dr_readPackedClause : MethodName := ⟨rn_Dr, "readPackedClause", "(LProofTrimmer$Text;I)I"⟩
abbrev bc_Sp_init : ByteArray := prog_6_method_1_code
def yn_Sp_init : MethodName := ⟨rn_Sp, "<init>", "()V"⟩
abbrev bc_Sp_forget : ByteArray := prog_6_method_2_code
def yn_Sp_forget : MethodName := ⟨rn_Sp, "forget", "()V"⟩
abbrev bc_Sp_settle : ByteArray := prog_6_method_3_code
def yn_Sp_settle : MethodName := ⟨rn_Sp, "settle", "(LProofTrimmer$Draft;LProofTrimmer$Clauses;)V"⟩
abbrev bc_Sp_liveAfterAll : ByteArray := prog_6_method_4_code
def yn_Sp_liveAfterAll : MethodName := ⟨rn_Sp, "liveAfterAll", "(I)J"⟩
abbrev bc_Tx_init : ByteArray := prog_7_method_1_code
def yn_Tx_init : MethodName := ⟨rn_Tx, "<init>", "(I)V"⟩
abbrev bc_Tx_clear : ByteArray := prog_7_method_2_code
def yn_Tx_clear : MethodName := ⟨rn_Tx, "clear", "()V"⟩
abbrev bc_Tx_put : ByteArray := prog_7_method_3_code
def yn_Tx_put : MethodName := ⟨rn_Tx, "put", "(I)V"⟩
abbrev bc_Tx_at : ByteArray := prog_7_method_4_code
def yn_Tx_at : MethodName := ⟨rn_Tx, "at", "(I)I"⟩
abbrev bc_Tr_init : ByteArray := prog_8_method_1_code
def yn_Tr_init : MethodName := ⟨rn_Tr, "<init>", "()V"⟩
abbrev bc_Tr_forget : ByteArray := prog_8_method_2_code
def yn_Tr_forget : MethodName := ⟨rn_Tr, "forget", "()V"⟩
abbrev bc_Tr_begin : ByteArray := prog_8_method_3_code
def yn_Tr_begin : MethodName := ⟨rn_Tr, "begin", "(I)V"⟩
abbrev bc_Tr_append : ByteArray := prog_8_method_4_code
def yn_Tr_append : MethodName := ⟨rn_Tr, "append", "(II)V"⟩
abbrev bc_Tr_countOf : ByteArray := prog_8_method_5_code
def yn_Tr_countOf : MethodName := ⟨rn_Tr, "countOf", "(I)I"⟩
abbrev bc_Tr_hintAt : ByteArray := prog_8_method_6_code
def yn_Tr_hintAt : MethodName := ⟨rn_Tr, "hintAt", "(II)I"⟩
abbrev bc_Tr_replace : ByteArray := prog_8_method_7_code
def yn_Tr_replace : MethodName := ⟨rn_Tr, "replace", "(III)Z"⟩
abbrev bc_Vf_init : ByteArray := prog_9_method_1_code
def yn_Vf_init : MethodName := ⟨rn_Vf, "<init>", "(LProofTrimmer$Clauses;LProofTrimmer$Steps;LProofTrimmer$Trace;LProofTrimmer$Assignment;)V"⟩
abbrev bc_Vf_firstBad : ByteArray := prog_9_method_2_code
def yn_Vf_firstBad : MethodName := ⟨rn_Vf, "firstBad", "(I)I"⟩
abbrev bc_Vf_isGood : ByteArray := prog_9_method_3_code
def yn_Vf_isGood : MethodName := ⟨rn_Vf, "isGood", "(I)Z"⟩
abbrev bc_Vf_followsPartners : ByteArray := prog_9_method_4_code
def yn_Vf_followsPartners : MethodName := ⟨rn_Vf, "followsPartners", "(I)Z"⟩
abbrev bc_Vf_followsPositives : ByteArray := prog_9_method_5_code
def yn_Vf_followsPositives : MethodName := ⟨rn_Vf, "followsPositives", "(I)Z"⟩
abbrev bc_Wd_init : ByteArray := prog_10_method_1_code
def yn_Wd_init : MethodName := ⟨rn_Wd, "<init>", "(LProofTrimmer$Text;)V"⟩
abbrev bc_Wd_hasWord : ByteArray := prog_10_method_2_code
def yn_Wd_hasWord : MethodName := ⟨rn_Wd, "hasWord", "()Z"⟩
abbrev bc_Wd_advance : ByteArray := prog_10_method_3_code
def yn_Wd_advance : MethodName := ⟨rn_Wd, "advance", "()V"⟩
abbrev bc_Wd_skip : ByteArray := prog_10_method_4_code
def yn_Wd_skip : MethodName := ⟨rn_Wd, "skip", "(Ljava/lang/String;)Z"⟩
abbrev bc_Wd_integer : ByteArray := prog_10_method_5_code
def yn_Wd_integer : MethodName := ⟨rn_Wd, "integer", "()I"⟩
abbrev bc_Wd_gapsEnd : ByteArray := prog_10_method_6_code
def yn_Wd_gapsEnd : MethodName := ⟨rn_Wd, "gapsEnd", "(LProofTrimmer$Text;I)I"⟩
abbrev bc_Wd_wordsEnd : ByteArray := prog_10_method_7_code
def yn_Wd_wordsEnd : MethodName := ⟨rn_Wd, "wordsEnd", "(LProofTrimmer$Text;I)I"⟩
def yn_La_formula : MethodName := ⟨rn_La, "formula", "(LProofTrimmer;[J)I"⟩
def yn_La_proof : MethodName := ⟨rn_La, "proof", "(LProofTrimmer;Z[J)I"⟩
def yn_La_check : MethodName := ⟨rn_La, "check", "(LProofTrimmer;[J)I"⟩
def yn_La_verify : MethodName := ⟨rn_La, "verify", "(LProofTrimmer;[J)I"⟩
def yn_La_write : MethodName := ⟨rn_La, "write", "(LProofTrimmer;[J)I"⟩
def yn_La_law : MethodName := ⟨rn_La, "law", "([I)Z"⟩
/-- the words that every method takes with it -/
def kx_all : List Cond := lw_tbl.filter goodWord
theorem kx_of {w : Cond} (h : w ∈ tables_1) (hg : goodWord w = true) : w ∈ kx_all := List.mem_filter.mpr ⟨List.mem_append_right _ h, hg⟩
theorem kx_1 {w : Cond} (i : Nat) (h : tables_1_1[i]? = some w) (hg : goodWord w = true) : w ∈ kx_all := kx_of (List.mem_append_left _ (List.mem_of_getElem? h)) hg
theorem kx_2 {w : Cond} (i : Nat) (h : tables_1_2[i]? = some w) (hg : goodWord w = true) : w ∈ kx_all := kx_of (List.mem_append_right _ (List.mem_append_left _ (List.mem_of_getElem? h))) hg
theorem kx_3 {w : Cond} (i : Nat) (h : tables_1_3[i]? = some w) (hg : goodWord w = true) : w ∈ kx_all := kx_of (List.mem_append_right _ (List.mem_append_right _ (List.mem_append_left _ (List.mem_of_getElem? h)))) hg
theorem kx_4 {w : Cond} (i : Nat) (h : tables_1_4[i]? = some w) (hg : goodWord w = true) : w ∈ kx_all := kx_of (List.mem_append_right _ (List.mem_append_right _ (List.mem_append_right _ (List.mem_append_left _ (List.mem_of_getElem? h))))) hg
theorem kx_5 {w : Cond} (i : Nat) (h : tables_1_5[i]? = some w) (hg : goodWord w = true) : w ∈ kx_all := kx_of (List.mem_append_right _ (List.mem_append_right _ (List.mem_append_right _ (List.mem_append_right _ (List.mem_of_getElem? h))))) hg
theorem kx_sel {q : MethodName × Nat} (h : q ∈ lw_privs) : Cond.selects q.1.cls q.1 q.1 ∈ kx_all := List.mem_filter.mpr ⟨List.mem_append_left _ (List.mem_map.mpr ⟨q, h, rfl⟩), rfl⟩
theorem kx_good : GoodIn kx_all kx_all := fun w h => ⟨h, good_of_word (List.mem_filter.mp h).2⟩
theorem wd_0 : Cond.initialized rn_La ∈ kx_all := kx_1 0 rfl rfl
theorem wd_1 : Cond.initialized rn_Pt ∈ kx_all := kx_1 1 rfl rfl
theorem wd_2 : Cond.initialized rn_Tx ∈ kx_all := kx_1 2 rfl rfl
theorem wd_3 : Cond.initialized rn_Dr ∈ kx_all := kx_1 3 rfl rfl
theorem wd_4 : Cond.initialized rn_Cl ∈ kx_all := kx_1 4 rfl rfl
theorem wd_6 : Cond.initialized rn_Sp ∈ kx_all := kx_1 6 rfl rfl
theorem wd_7 : Cond.initialized rn_Tr ∈ kx_all := kx_1 7 rfl rfl
theorem wd_8 : Cond.initialized rn_As ∈ kx_all := kx_1 8 rfl rfl
theorem wd_9 : Cond.initialized rn_Mo ∈ kx_all := kx_1 9 rfl rfl
theorem wd_10 : Cond.initialized rn_Wd ∈ kx_all := kx_1 10 rfl rfl
theorem wd_20 : Cond.initialized rn_Ck ∈ kx_all := kx_1 20 rfl rfl
theorem wd_22 : Cond.initialized rn_Vf ∈ kx_all := kx_1 22 rfl rfl
theorem wd_23 : Cond.classLink rn_La 8 rn_Pt ∈ kx_all := kx_1 23 rfl rfl
theorem wd_24 : Cond.instantiable rn_Pt 10 ∈ kx_all := kx_1 24 rfl rfl
theorem wd_25 : Cond.methodLink rn_La 30 yn_Pt_init ∈ kx_all := kx_1 25 rfl rfl
theorem wd_26 : Cond.instanceMethod yn_Pt_init ∈ kx_all := kx_1 26 rfl rfl
theorem wd_27 : Cond.code yn_Pt_init bc_Pt_init 1 none ∈ kx_all := kx_1 27 rfl rfl
theorem wd_28 : Cond.methodLink rn_Pt 3 objectInit ∈ kx_all := kx_1 28 rfl rfl
theorem wd_29 : Cond.instanceMethod objectInit ∈ kx_all := kx_1 29 rfl rfl
theorem wd_30 : Cond.code objectInit ⟨#[0xb1]⟩ 1 none ∈ kx_all := kx_1 30 rfl rfl
theorem wd_31 : Cond.classLink rn_Pt 9 rn_Tx ∈ kx_all := kx_1 31 rfl rfl
theorem wd_32 : Cond.instantiable rn_Tx 2 ∈ kx_all := kx_1 32 rfl rfl
theorem wd_33 : Cond.methodLink rn_Pt 11 yn_Tx_init ∈ kx_all := kx_1 33 rfl rfl
theorem wd_34 : Cond.instanceMethod yn_Tx_init ∈ kx_all := kx_1 34 rfl rfl
theorem wd_35 : Cond.code yn_Tx_init bc_Tx_init 2 none ∈ kx_all := kx_1 35 rfl rfl
theorem wd_36 : Cond.methodLink rn_Tx 3 objectInit ∈ kx_all := kx_1 36 rfl rfl
theorem wd_37 : Cond.fieldLink rn_Tx 9 "ProofTrimmer$Text" "row" "[I" ∈ kx_all := kx_1 37 rfl rfl
theorem wd_38 : Cond.fieldLink rn_Tx 15 "ProofTrimmer$Text" "length" "I" ∈ kx_all := kx_1 38 rfl rfl
theorem wd_42 : Cond.laysFinal "ProofTrimmer$Text" "ProofTrimmer$Text" "row" "[I" ∈ kx_all := kx_1 42 rfl rfl
theorem wd_44 : Cond.lays "ProofTrimmer$Text" "ProofTrimmer$Text" "length" "I" ∈ kx_all := kx_1 44 rfl rfl
theorem wd_47 : Cond.arrayClass .int ∈ kx_all := kx_1 47 rfl rfl
theorem wd_48 : Cond.classLink rn_Pt 21 rn_Dr ∈ kx_all := kx_1 48 rfl rfl
theorem wd_49 : Cond.instantiable rn_Dr 2 ∈ kx_all := kx_1 49 rfl rfl
theorem wd_50 : Cond.methodLink rn_Pt 23 yn_Dr_init ∈ kx_all := kx_1 50 rfl rfl
theorem wd_51 : Cond.instanceMethod yn_Dr_init ∈ kx_all := kx_1 51 rfl rfl
theorem wd_52 : Cond.code yn_Dr_init bc_Dr_init 1 none ∈ kx_all := kx_1 52 rfl rfl
theorem wd_53 : Cond.methodLink rn_Dr 3 objectInit ∈ kx_all := kx_1 53 rfl rfl
theorem wd_54 : Cond.classLink rn_Dr 9 rn_Cl ∈ kx_all := kx_1 54 rfl rfl
theorem wd_55 : Cond.instantiable rn_Cl 4 ∈ kx_all := kx_1 55 rfl rfl
theorem wd_56 : Cond.methodLink rn_Dr 11 ⟨"java/lang/Math", "max", "(II)I"⟩ ∈ kx_all := kx_1 56 rfl rfl
theorem wd_59 : Cond.methodLink rn_Dr 17 yn_Cl_init ∈ kx_all := kx_1 59 rfl rfl
theorem wd_60 : Cond.instanceMethod yn_Cl_init ∈ kx_all := kx_1 60 rfl rfl
theorem wd_61 : Cond.code yn_Cl_init bc_Cl_init 2 none ∈ kx_all := kx_1 61 rfl rfl
theorem wd_62 : Cond.methodLink rn_Cl 3 objectInit ∈ kx_all := kx_1 62 rfl rfl
theorem wd_63 : Cond.fieldLink rn_Cl 9 "ProofTrimmer$Clauses" "sizes" "[I" ∈ kx_all := kx_1 63 rfl rfl
theorem wd_68 : Cond.fieldLink rn_Cl 15 "ProofTrimmer$Clauses" "sets" "[I" ∈ kx_all := kx_1 68 rfl rfl
theorem wd_72 : Cond.fieldLink rn_Cl 18 "ProofTrimmer$Clauses" "literals" "[I" ∈ kx_all := kx_1 72 rfl rfl
theorem wd_73 : Cond.fieldLink rn_Cl 21 "ProofTrimmer$Clauses" "count" "I" ∈ kx_all := kx_1 73 rfl rfl
theorem wd_78 : Cond.laysFinal "ProofTrimmer$Clauses" "ProofTrimmer$Clauses" "sizes" "[I" ∈ kx_all := kx_1 78 rfl rfl
theorem wd_80 : Cond.laysFinal "ProofTrimmer$Clauses" "ProofTrimmer$Clauses" "sets" "[I" ∈ kx_all := kx_1 80 rfl rfl
theorem wd_82 : Cond.laysFinal "ProofTrimmer$Clauses" "ProofTrimmer$Clauses" "literals" "[I" ∈ kx_all := kx_1 82 rfl rfl
theorem wd_84 : Cond.lays "ProofTrimmer$Clauses" "ProofTrimmer$Clauses" "count" "I" ∈ kx_all := kx_1 84 rfl rfl
theorem wd_87 : Cond.fieldLink rn_Dr 20 "ProofTrimmer$Draft" "rows" "LProofTrimmer$Clauses;" ∈ kx_all := kx_1 87 rfl rfl
theorem wd_90 : Cond.fieldLink rn_Dr 26 "ProofTrimmer$Draft" "deleting" "[Z" ∈ kx_all := kx_1 90 rfl rfl
theorem wd_92 : Cond.laysFinal "ProofTrimmer$Draft" "ProofTrimmer$Draft" "rows" "LProofTrimmer$Clauses;" ∈ kx_all := kx_1 92 rfl rfl
theorem wd_94 : Cond.laysFinal "ProofTrimmer$Draft" "ProofTrimmer$Draft" "deleting" "[Z" ∈ kx_all := kx_1 94 rfl rfl
theorem wd_97 : Cond.arrayClass .boolean ∈ kx_all := kx_1 97 rfl rfl
theorem wd_98 : Cond.classLink rn_Pt 28 rn_Cl ∈ kx_all := kx_1 98 rfl rfl
theorem wd_99 : Cond.methodLink rn_Pt 30 yn_Cl_init ∈ kx_all := kx_1 99 rfl rfl
theorem wd_100 : Cond.classLink rn_Pt 35 rn_Sp ∈ kx_all := kx_1 100 rfl rfl
theorem wd_101 : Cond.instantiable rn_Sp 4 ∈ kx_all := kx_1 101 rfl rfl
theorem wd_102 : Cond.methodLink rn_Pt 37 yn_Sp_init ∈ kx_all := kx_1 102 rfl rfl
theorem wd_103 : Cond.instanceMethod yn_Sp_init ∈ kx_all := kx_1 103 rfl rfl
theorem wd_104 : Cond.code yn_Sp_init bc_Sp_init 1 none ∈ kx_all := kx_1 104 rfl rfl
theorem wd_105 : Cond.methodLink rn_Sp 3 objectInit ∈ kx_all := kx_1 105 rfl rfl
theorem wd_106 : Cond.fieldLink rn_Sp 9 "ProofTrimmer$Steps" "deleting" "[Z" ∈ kx_all := kx_1 106 rfl rfl
theorem wd_110 : Cond.fieldLink rn_Sp 15 "ProofTrimmer$Steps" "numbers" "[I" ∈ kx_all := kx_1 110 rfl rfl
theorem wd_114 : Cond.fieldLink rn_Sp 19 "ProofTrimmer$Steps" "count" "I" ∈ kx_all := kx_1 114 rfl rfl
theorem wd_118 : Cond.fieldLink rn_Sp 23 "ProofTrimmer$Steps" "open" "Z" ∈ kx_all := kx_1 118 rfl rfl
theorem wd_120 : Cond.laysFinal "ProofTrimmer$Steps" "ProofTrimmer$Steps" "deleting" "[Z" ∈ kx_all := kx_1 120 rfl rfl
theorem wd_122 : Cond.laysFinal "ProofTrimmer$Steps" "ProofTrimmer$Steps" "numbers" "[I" ∈ kx_all := kx_1 122 rfl rfl
theorem wd_124 : Cond.lays "ProofTrimmer$Steps" "ProofTrimmer$Steps" "count" "I" ∈ kx_all := kx_1 124 rfl rfl
theorem wd_126 : Cond.lays "ProofTrimmer$Steps" "ProofTrimmer$Steps" "open" "Z" ∈ kx_all := kx_1 126 rfl rfl
theorem wd_129 : Cond.classLink rn_Pt 42 rn_Tr ∈ kx_all := kx_1 129 rfl rfl
theorem wd_130 : Cond.instantiable rn_Tr 6 ∈ kx_all := kx_1 130 rfl rfl
theorem wd_131 : Cond.methodLink rn_Pt 44 yn_Tr_init ∈ kx_all := kx_1 131 rfl rfl
theorem wd_132 : Cond.instanceMethod yn_Tr_init ∈ kx_all := kx_1 132 rfl rfl
theorem wd_133 : Cond.code yn_Tr_init bc_Tr_init 1 none ∈ kx_all := kx_1 133 rfl rfl
theorem wd_134 : Cond.methodLink rn_Tr 3 objectInit ∈ kx_all := kx_1 134 rfl rfl
theorem wd_135 : Cond.fieldLink rn_Tr 9 "ProofTrimmer$Trace" "starts" "[I" ∈ kx_all := kx_1 135 rfl rfl
theorem wd_136 : Cond.fieldLink rn_Tr 15 "ProofTrimmer$Trace" "counts" "[I" ∈ kx_all := kx_1 136 rfl rfl
theorem wd_137 : Cond.fieldLink rn_Tr 18 "ProofTrimmer$Trace" "row" "[I" ∈ kx_all := kx_1 137 rfl rfl
theorem wd_138 : Cond.fieldLink rn_Tr 21 "ProofTrimmer$Trace" "filled" "I" ∈ kx_all := kx_1 138 rfl rfl
theorem wd_139 : Cond.fieldLink rn_Tr 25 "ProofTrimmer$Trace" "markedOnes" "J" ∈ kx_all := kx_1 139 rfl rfl
theorem wd_143 : Cond.fieldLink rn_Tr 29 "ProofTrimmer$Trace" "checked" "Z" ∈ kx_all := kx_1 143 rfl rfl
theorem wd_145 : Cond.laysFinal "ProofTrimmer$Trace" "ProofTrimmer$Trace" "starts" "[I" ∈ kx_all := kx_1 145 rfl rfl
theorem wd_147 : Cond.laysFinal "ProofTrimmer$Trace" "ProofTrimmer$Trace" "counts" "[I" ∈ kx_all := kx_1 147 rfl rfl
theorem wd_149 : Cond.laysFinal "ProofTrimmer$Trace" "ProofTrimmer$Trace" "row" "[I" ∈ kx_all := kx_1 149 rfl rfl
theorem wd_151 : Cond.lays "ProofTrimmer$Trace" "ProofTrimmer$Trace" "filled" "I" ∈ kx_all := kx_1 151 rfl rfl
theorem wd_153 : Cond.lays "ProofTrimmer$Trace" "ProofTrimmer$Trace" "markedOnes" "J" ∈ kx_all := kx_1 153 rfl rfl
theorem wd_155 : Cond.lays "ProofTrimmer$Trace" "ProofTrimmer$Trace" "checked" "Z" ∈ kx_all := kx_1 155 rfl rfl
theorem wd_158 : Cond.classLink rn_Pt 49 rn_As ∈ kx_all := kx_1 158 rfl rfl
theorem wd_159 : Cond.instantiable rn_As 5 ∈ kx_all := kx_1 159 rfl rfl
theorem wd_160 : Cond.methodLink rn_Pt 51 yn_As_init ∈ kx_all := kx_1 160 rfl rfl
theorem wd_161 : Cond.instanceMethod yn_As_init ∈ kx_all := kx_1 161 rfl rfl
theorem wd_162 : Cond.code yn_As_init bc_As_init 1 none ∈ kx_all := kx_1 162 rfl rfl
theorem wd_163 : Cond.methodLink rn_As 3 objectInit ∈ kx_all := kx_1 163 rfl rfl
theorem wd_164 : Cond.fieldLink rn_As 9 "ProofTrimmer$Assignment" "reasons" "[I" ∈ kx_all := kx_1 164 rfl rfl
theorem wd_166 : Cond.fieldLink rn_As 15 "ProofTrimmer$Assignment" "implied" "[I" ∈ kx_all := kx_1 166 rfl rfl
theorem wd_167 : Cond.fieldLink rn_As 29 "ProofTrimmer$Assignment" "count" "I" ∈ kx_all := kx_1 167 rfl rfl
theorem wd_169 : Cond.fieldLink rn_As 18 "ProofTrimmer$Assignment" "truths" "I" ∈ kx_all := kx_1 169 rfl rfl
theorem wd_172 : Cond.fieldLink rn_As 26 "ProofTrimmer$Assignment" "falsehoods" "I" ∈ kx_all := kx_1 172 rfl rfl
theorem wd_173 : Cond.laysFinal "ProofTrimmer$Assignment" "ProofTrimmer$Assignment" "reasons" "[I" ∈ kx_all := kx_1 173 rfl rfl
theorem wd_175 : Cond.laysFinal "ProofTrimmer$Assignment" "ProofTrimmer$Assignment" "implied" "[I" ∈ kx_all := kx_1 175 rfl rfl
theorem wd_177 : Cond.lays "ProofTrimmer$Assignment" "ProofTrimmer$Assignment" "count" "I" ∈ kx_all := kx_1 177 rfl rfl
theorem wd_179 : Cond.lays "ProofTrimmer$Assignment" "ProofTrimmer$Assignment" "truths" "I" ∈ kx_all := kx_1 179 rfl rfl
theorem wd_181 : Cond.lays "ProofTrimmer$Assignment" "ProofTrimmer$Assignment" "falsehoods" "I" ∈ kx_all := kx_1 181 rfl rfl
theorem wd_184 : Cond.fieldLink rn_Pt 14 "ProofTrimmer" "text" "LProofTrimmer$Text;" ∈ kx_all := kx_1 184 rfl rfl
theorem wd_185 : Cond.fieldLink rn_Pt 18 "ProofTrimmer" "output" "LProofTrimmer$Text;" ∈ kx_all := kx_1 185 rfl rfl
theorem wd_186 : Cond.fieldLink rn_Pt 24 "ProofTrimmer" "draft" "LProofTrimmer$Draft;" ∈ kx_all := kx_1 186 rfl rfl
theorem wd_187 : Cond.fieldLink rn_Pt 31 "ProofTrimmer" "clauses" "LProofTrimmer$Clauses;" ∈ kx_all := kx_1 187 rfl rfl
theorem wd_188 : Cond.fieldLink rn_Pt 38 "ProofTrimmer" "steps" "LProofTrimmer$Steps;" ∈ kx_all := kx_1 188 rfl rfl
theorem wd_189 : Cond.fieldLink rn_Pt 45 "ProofTrimmer" "trace" "LProofTrimmer$Trace;" ∈ kx_all := kx_1 189 rfl rfl
theorem wd_190 : Cond.fieldLink rn_Pt 52 "ProofTrimmer" "assignment" "LProofTrimmer$Assignment;" ∈ kx_all := kx_1 190 rfl rfl
theorem wd_191 : Cond.fieldLink rn_Pt 98 "ProofTrimmer" "hasFormula" "Z" ∈ kx_all := kx_1 191 rfl rfl
theorem wd_192 : Cond.fieldLink rn_Pt 102 "ProofTrimmer" "hasProof" "Z" ∈ kx_all := kx_1 192 rfl rfl
theorem wd_193 : Cond.fieldLink rn_Pt 95 "ProofTrimmer" "formulaClauses" "I" ∈ kx_all := kx_1 193 rfl rfl
theorem wd_194 : Cond.laysFinal "ProofTrimmer" "ProofTrimmer" "text" "LProofTrimmer$Text;" ∈ kx_all := kx_1 194 rfl rfl
theorem wd_196 : Cond.laysFinal "ProofTrimmer" "ProofTrimmer" "output" "LProofTrimmer$Text;" ∈ kx_all := kx_1 196 rfl rfl
theorem wd_198 : Cond.laysFinal "ProofTrimmer" "ProofTrimmer" "draft" "LProofTrimmer$Draft;" ∈ kx_all := kx_1 198 rfl rfl
theorem wd_200 : Cond.laysFinal "ProofTrimmer" "ProofTrimmer" "clauses" "LProofTrimmer$Clauses;" ∈ kx_all := kx_1 200 rfl rfl
theorem wd_202 : Cond.laysFinal "ProofTrimmer" "ProofTrimmer" "steps" "LProofTrimmer$Steps;" ∈ kx_all := kx_1 202 rfl rfl
theorem wd_204 : Cond.laysFinal "ProofTrimmer" "ProofTrimmer" "trace" "LProofTrimmer$Trace;" ∈ kx_all := kx_1 204 rfl rfl
theorem wd_206 : Cond.laysFinal "ProofTrimmer" "ProofTrimmer" "assignment" "LProofTrimmer$Assignment;" ∈ kx_all := kx_1 206 rfl rfl
theorem wd_208 : Cond.lays "ProofTrimmer" "ProofTrimmer" "hasFormula" "Z" ∈ kx_all := kx_1 208 rfl rfl
theorem wd_210 : Cond.lays "ProofTrimmer" "ProofTrimmer" "hasProof" "Z" ∈ kx_all := kx_1 210 rfl rfl
theorem wd_212 : Cond.lays "ProofTrimmer" "ProofTrimmer" "formulaClauses" "I" ∈ kx_all := kx_1 212 rfl rfl
theorem wd_215 : Cond.methodLink rn_La 36 yn_Pt_type ∈ kx_all := kx_1 215 rfl rfl
theorem wd_216 : Cond.instanceMethod yn_Pt_type ∈ kx_all := kx_1 216 rfl rfl
theorem wd_217 : Cond.selects rn_Pt yn_Pt_type yn_Pt_type ∈ kx_all := kx_1 217 rfl rfl
theorem wd_218 : Cond.code yn_Pt_type bc_Pt_type 5 (some .int) ∈ kx_all := kx_1 218 rfl rfl
theorem wd_219 : Cond.methodLink rn_Pt 60 yn_Tx_put ∈ kx_all := kx_1 219 rfl rfl
theorem wd_220 : Cond.instanceMethod yn_Tx_put ∈ kx_all := kx_1 220 rfl rfl
theorem wd_221 : Cond.selects rn_Tx yn_Tx_put yn_Tx_put ∈ kx_all := kx_1 221 rfl rfl
theorem wd_222 : Cond.code yn_Tx_put bc_Tx_put 2 none ∈ kx_all := kx_1 222 rfl rfl
theorem wd_223 : Cond.methodLink rn_La 41 yn_Pt_wipe ∈ kx_all := kx_1 223 rfl rfl
theorem wd_224 : Cond.instanceMethod yn_Pt_wipe ∈ kx_all := kx_1 224 rfl rfl
theorem wd_225 : Cond.selects rn_Pt yn_Pt_wipe yn_Pt_wipe ∈ kx_all := kx_1 225 rfl rfl
theorem wd_226 : Cond.code yn_Pt_wipe bc_Pt_wipe 2 (some .int) ∈ kx_all := kx_1 226 rfl rfl
theorem wd_227 : Cond.methodLink rn_Pt 63 yn_Tx_clear ∈ kx_all := kx_1 227 rfl rfl
theorem wd_228 : Cond.instanceMethod yn_Tx_clear ∈ kx_all := kx_1 228 rfl rfl
theorem wd_229 : Cond.selects rn_Tx yn_Tx_clear yn_Tx_clear ∈ kx_all := kx_1 229 rfl rfl
theorem wd_230 : Cond.code yn_Tx_clear bc_Tx_clear 1 none ∈ kx_all := kx_1 230 rfl rfl
theorem wd_231 : Cond.methodLink rn_La 61 yn_Pt_clauses ∈ kx_all := kx_1 231 rfl rfl
theorem wd_232 : Cond.instanceMethod yn_Pt_clauses ∈ kx_all := kx_1 232 rfl rfl
theorem wd_233 : Cond.selects rn_Pt yn_Pt_clauses yn_Pt_clauses ∈ kx_all := kx_1 233 rfl rfl
theorem wd_234 : Cond.code yn_Pt_clauses bc_Pt_clauses 1 (some .int) ∈ kx_all := kx_1 234 rfl rfl
theorem wd_235 : Cond.methodLink rn_La 65 yn_Pt_size ∈ kx_all := kx_1 235 rfl rfl
theorem wd_236 : Cond.instanceMethod yn_Pt_size ∈ kx_all := kx_1 236 rfl rfl
theorem wd_237 : Cond.selects rn_Pt yn_Pt_size yn_Pt_size ∈ kx_all := kx_1 237 rfl rfl
theorem wd_238 : Cond.code yn_Pt_size bc_Pt_size 2 (some .int) ∈ kx_all := kx_1 238 rfl rfl
theorem wd_239 : Cond.methodLink rn_Pt 160 yn_Cl_has ∈ kx_all := kx_1 239 rfl rfl
theorem wd_240 : Cond.instanceMethod yn_Cl_has ∈ kx_all := kx_2 0 rfl rfl
theorem wd_241 : Cond.selects rn_Cl yn_Cl_has yn_Cl_has ∈ kx_all := kx_2 1 rfl rfl
theorem wd_242 : Cond.code yn_Cl_has bc_Cl_has 2 (some .boolean) ∈ kx_all := kx_2 2 rfl rfl
theorem wd_243 : Cond.methodLink rn_La 70 yn_Pt_literal ∈ kx_all := kx_2 3 rfl rfl
theorem wd_244 : Cond.instanceMethod yn_Pt_literal ∈ kx_all := kx_2 4 rfl rfl
theorem wd_245 : Cond.selects rn_Pt yn_Pt_literal yn_Pt_literal ∈ kx_all := kx_2 5 rfl rfl
theorem wd_246 : Cond.code yn_Pt_literal bc_Pt_literal 3 (some .int) ∈ kx_all := kx_2 6 rfl rfl
theorem wd_247 : Cond.methodLink rn_Pt 168 yn_Cl_literalAt ∈ kx_all := kx_2 7 rfl rfl
theorem wd_248 : Cond.instanceMethod yn_Cl_literalAt ∈ kx_all := kx_2 8 rfl rfl
theorem wd_249 : Cond.selects rn_Cl yn_Cl_literalAt yn_Cl_literalAt ∈ kx_all := kx_2 9 rfl rfl
theorem wd_250 : Cond.code yn_Cl_literalAt bc_Cl_literalAt 3 (some .int) ∈ kx_all := kx_2 10 rfl rfl
theorem wd_251 : Cond.methodLink rn_Cl 25 yn_Cl_has ∈ kx_all := kx_2 11 rfl rfl
theorem wd_252 : Cond.methodLink rn_La 75 yn_Pt_step ∈ kx_all := kx_2 12 rfl rfl
theorem wd_253 : Cond.instanceMethod yn_Pt_step ∈ kx_all := kx_2 13 rfl rfl
theorem wd_254 : Cond.selects rn_Pt yn_Pt_step yn_Pt_step ∈ kx_all := kx_2 14 rfl rfl
theorem wd_255 : Cond.code yn_Pt_step bc_Pt_step 2 (some .int) ∈ kx_all := kx_2 15 rfl rfl
theorem wd_256 : Cond.methodLink rn_La 79 yn_Pt_marked ∈ kx_all := kx_2 16 rfl rfl
theorem wd_257 : Cond.instanceMethod yn_Pt_marked ∈ kx_all := kx_2 17 rfl rfl
theorem wd_258 : Cond.selects rn_Pt yn_Pt_marked yn_Pt_marked ∈ kx_all := kx_2 18 rfl rfl
theorem wd_259 : Cond.code yn_Pt_marked bc_Pt_marked 2 (some .boolean) ∈ kx_all := kx_2 19 rfl rfl
theorem wd_260 : Cond.methodLink rn_Pt 176 yn_Pt_contains ∈ kx_all := kx_2 20 rfl rfl
theorem wd_261 : Cond.static yn_Pt_contains ∈ kx_all := kx_2 21 rfl rfl
theorem wd_262 : Cond.code yn_Pt_contains bc_Pt_contains 3 (some .boolean) ∈ kx_all := kx_2 22 rfl rfl
theorem wd_263 : Cond.methodLink rn_La 84 yn_Pt_hints ∈ kx_all := kx_2 23 rfl rfl
theorem wd_264 : Cond.instanceMethod yn_Pt_hints ∈ kx_all := kx_2 24 rfl rfl
theorem wd_265 : Cond.selects rn_Pt yn_Pt_hints yn_Pt_hints ∈ kx_all := kx_2 25 rfl rfl
theorem wd_266 : Cond.code yn_Pt_hints bc_Pt_hints 2 (some .int) ∈ kx_all := kx_2 26 rfl rfl
theorem wd_267 : Cond.methodLink rn_Pt 180 yn_Tr_countOf ∈ kx_all := kx_2 27 rfl rfl
theorem wd_268 : Cond.instanceMethod yn_Tr_countOf ∈ kx_all := kx_2 28 rfl rfl
theorem wd_269 : Cond.selects rn_Tr yn_Tr_countOf yn_Tr_countOf ∈ kx_all := kx_2 29 rfl rfl
theorem wd_270 : Cond.code yn_Tr_countOf bc_Tr_countOf 2 (some .int) ∈ kx_all := kx_2 30 rfl rfl
theorem wd_271 : Cond.methodLink rn_La 88 yn_Pt_hint ∈ kx_all := kx_2 31 rfl rfl
theorem wd_272 : Cond.instanceMethod yn_Pt_hint ∈ kx_all := kx_2 32 rfl rfl
theorem wd_273 : Cond.selects rn_Pt yn_Pt_hint yn_Pt_hint ∈ kx_all := kx_2 33 rfl rfl
theorem wd_274 : Cond.code yn_Pt_hint bc_Pt_hint 3 (some .int) ∈ kx_all := kx_2 34 rfl rfl
theorem wd_275 : Cond.methodLink rn_Pt 183 yn_Tr_hintAt ∈ kx_all := kx_2 35 rfl rfl
theorem wd_276 : Cond.instanceMethod yn_Tr_hintAt ∈ kx_all := kx_2 36 rfl rfl
theorem wd_277 : Cond.selects rn_Tr yn_Tr_hintAt yn_Tr_hintAt ∈ kx_all := kx_2 37 rfl rfl
theorem wd_278 : Cond.code yn_Tr_hintAt bc_Tr_hintAt 3 (some .int) ∈ kx_all := kx_2 38 rfl rfl
theorem wd_279 : Cond.methodLink rn_Tr 33 yn_Tr_countOf ∈ kx_all := kx_2 39 rfl rfl
theorem wd_280 : Cond.methodLink rn_La 92 yn_Pt_poke ∈ kx_all := kx_2 40 rfl rfl
theorem wd_281 : Cond.instanceMethod yn_Pt_poke ∈ kx_all := kx_2 41 rfl rfl
theorem wd_282 : Cond.selects rn_Pt yn_Pt_poke yn_Pt_poke ∈ kx_all := kx_2 42 rfl rfl
theorem wd_283 : Cond.code yn_Pt_poke bc_Pt_poke 4 (some .boolean) ∈ kx_all := kx_2 43 rfl rfl
theorem wd_284 : Cond.methodLink rn_Pt 186 yn_Tr_replace ∈ kx_all := kx_2 44 rfl rfl
theorem wd_285 : Cond.instanceMethod yn_Tr_replace ∈ kx_all := kx_2 45 rfl rfl
theorem wd_286 : Cond.selects rn_Tr yn_Tr_replace yn_Tr_replace ∈ kx_all := kx_2 46 rfl rfl
theorem wd_287 : Cond.code yn_Tr_replace bc_Tr_replace 4 (some .boolean) ∈ kx_all := kx_2 47 rfl rfl
theorem wd_288 : Cond.methodLink rn_La 103 yn_Pt_written ∈ kx_all := kx_2 48 rfl rfl
theorem wd_289 : Cond.instanceMethod yn_Pt_written ∈ kx_all := kx_2 49 rfl rfl
theorem wd_290 : Cond.selects rn_Pt yn_Pt_written yn_Pt_written ∈ kx_all := kx_2 50 rfl rfl
theorem wd_291 : Cond.code yn_Pt_written bc_Pt_written 2 (some .int) ∈ kx_all := kx_2 51 rfl rfl
theorem wd_292 : Cond.methodLink rn_Pt 206 yn_Tx_at ∈ kx_all := kx_2 52 rfl rfl
theorem wd_293 : Cond.instanceMethod yn_Tx_at ∈ kx_all := kx_2 53 rfl rfl
theorem wd_294 : Cond.selects rn_Tx yn_Tx_at yn_Tx_at ∈ kx_all := kx_2 54 rfl rfl
theorem wd_295 : Cond.code yn_Tx_at bc_Tx_at 2 (some .int) ∈ kx_all := kx_2 55 rfl rfl
theorem wd_296 : Cond.methodLink rn_La 45 yn_La_formula ∈ kx_all := kx_2 56 rfl rfl
theorem wd_297 : Cond.static yn_La_formula ∈ kx_all := kx_2 57 rfl rfl
theorem wd_299 : Cond.classLink rn_La 13 "java/lang/IllegalArgumentException" ∈ kx_all := kx_2 59 rfl rfl
theorem wd_300 : Cond.methodLink rn_La 7 yn_Pt_formula ∈ kx_all := kx_2 60 rfl rfl
theorem wd_301 : Cond.instanceMethod yn_Pt_formula ∈ kx_all := kx_2 61 rfl rfl
theorem wd_302 : Cond.selects rn_Pt yn_Pt_formula yn_Pt_formula ∈ kx_all := kx_2 62 rfl rfl
theorem wd_303 : Cond.code yn_Pt_formula bc_Pt_formula 2 (some .int) ∈ kx_all := kx_2 63 rfl rfl
theorem wd_304 : Cond.classLink rn_Pt 66 rn_Wd ∈ kx_all := kx_2 64 rfl rfl
theorem wd_305 : Cond.instantiable rn_Wd 3 ∈ kx_all := kx_2 65 rfl rfl
theorem wd_306 : Cond.methodLink rn_Pt 68 yn_Wd_init ∈ kx_all := kx_2 66 rfl rfl
theorem wd_307 : Cond.instanceMethod yn_Wd_init ∈ kx_all := kx_2 67 rfl rfl
theorem wd_308 : Cond.code yn_Wd_init bc_Wd_init 2 none ∈ kx_all := kx_2 68 rfl rfl
theorem wd_309 : Cond.methodLink rn_Wd 3 objectInit ∈ kx_all := kx_2 69 rfl rfl
theorem wd_310 : Cond.methodLink rn_Wd 15 yn_Wd_gapsEnd ∈ kx_all := kx_2 70 rfl rfl
theorem wd_311 : Cond.static yn_Wd_gapsEnd ∈ kx_all := kx_2 71 rfl rfl
theorem wd_312 : Cond.code yn_Wd_gapsEnd bc_Wd_gapsEnd 3 (some .int) ∈ kx_all := kx_2 72 rfl rfl
theorem wd_313 : Cond.methodLink rn_Wd 35 yn_Tx_at ∈ kx_all := kx_2 73 rfl rfl
theorem wd_314 : Cond.methodLink rn_Wd 23 yn_Wd_wordsEnd ∈ kx_all := kx_2 74 rfl rfl
theorem wd_315 : Cond.static yn_Wd_wordsEnd ∈ kx_all := kx_2 75 rfl rfl
theorem wd_316 : Cond.code yn_Wd_wordsEnd bc_Wd_wordsEnd 3 (some .int) ∈ kx_all := kx_2 76 rfl rfl
theorem wd_317 : Cond.fieldLink rn_Wd 9 "ProofTrimmer$Words" "text" "LProofTrimmer$Text;" ∈ kx_all := kx_2 77 rfl rfl
theorem wd_318 : Cond.fieldLink rn_Wd 19 "ProofTrimmer$Words" "start" "I" ∈ kx_all := kx_2 78 rfl rfl
theorem wd_319 : Cond.fieldLink rn_Wd 26 "ProofTrimmer$Words" "end" "I" ∈ kx_all := kx_2 79 rfl rfl
theorem wd_320 : Cond.laysFinal "ProofTrimmer$Words" "ProofTrimmer$Words" "text" "LProofTrimmer$Text;" ∈ kx_all := kx_2 80 rfl rfl
theorem wd_322 : Cond.lays "ProofTrimmer$Words" "ProofTrimmer$Words" "start" "I" ∈ kx_all := kx_2 82 rfl rfl
theorem wd_324 : Cond.lays "ProofTrimmer$Words" "ProofTrimmer$Words" "end" "I" ∈ kx_all := kx_2 84 rfl rfl
theorem wd_327 : Cond.methodLink rn_Pt 71 yn_Dr_readFormula ∈ kx_all := kx_2 87 rfl rfl
theorem wd_328 : Cond.instanceMethod yn_Dr_readFormula ∈ kx_all := kx_2 88 rfl rfl
theorem wd_329 : Cond.selects rn_Dr yn_Dr_readFormula yn_Dr_readFormula ∈ kx_all := kx_2 89 rfl rfl
theorem wd_330 : Cond.code yn_Dr_readFormula bc_Dr_readFormula 5 (some .boolean) ∈ kx_all := kx_2 90 rfl rfl
theorem wd_331 : Cond.methodLink rn_Dr 30 yn_Cl_keep ∈ kx_all := kx_2 91 rfl rfl
theorem wd_332 : Cond.instanceMethod yn_Cl_keep ∈ kx_all := kx_2 92 rfl rfl
theorem wd_333 : Cond.selects rn_Cl yn_Cl_keep yn_Cl_keep ∈ kx_all := kx_2 93 rfl rfl
theorem wd_334 : Cond.code yn_Cl_keep bc_Cl_keep 2 none ∈ kx_all := kx_2 94 rfl rfl
theorem wd_336 : Cond.methodLink rn_Dr 35 yn_Wd_skip ∈ kx_all := kx_2 96 rfl rfl
theorem wd_337 : Cond.instanceMethod yn_Wd_skip ∈ kx_all := kx_2 97 rfl rfl
theorem wd_338 : Cond.selects rn_Wd yn_Wd_skip yn_Wd_skip ∈ kx_all := kx_2 98 rfl rfl
theorem wd_339 : Cond.code yn_Wd_skip bc_Wd_skip 3 (some .boolean) ∈ kx_all := kx_2 99 rfl rfl
theorem wd_340 : Cond.methodLink rn_Wd 29 ⟨"java/lang/String", "length", "()I"⟩ ∈ kx_all := kx_2 100 rfl rfl
theorem wd_350 : Cond.methodLink rn_Wd 41 ⟨"java/lang/String", "charAt", "(I)C"⟩ ∈ kx_all := kx_2 110 rfl rfl
theorem wd_388 : Cond.methodLink rn_Wd 45 yn_Wd_advance ∈ kx_all := kx_2 148 rfl rfl
theorem wd_389 : Cond.instanceMethod yn_Wd_advance ∈ kx_all := kx_2 149 rfl rfl
theorem wd_390 : Cond.selects rn_Wd yn_Wd_advance yn_Wd_advance ∈ kx_all := kx_2 150 rfl rfl
theorem wd_391 : Cond.code yn_Wd_advance bc_Wd_advance 1 none ∈ kx_all := kx_2 151 rfl rfl
theorem wd_393 : Cond.methodLink rn_Dr 43 yn_Wd_integer ∈ kx_all := kx_2 153 rfl rfl
theorem wd_394 : Cond.instanceMethod yn_Wd_integer ∈ kx_all := kx_2 154 rfl rfl
theorem wd_395 : Cond.selects rn_Wd yn_Wd_integer yn_Wd_integer ∈ kx_all := kx_2 155 rfl rfl
theorem wd_396 : Cond.code yn_Wd_integer bc_Wd_integer 6 (some .int) ∈ kx_all := kx_2 156 rfl rfl
theorem wd_397 : Cond.methodLink rn_Dr 47 yn_Wd_advance ∈ kx_all := kx_2 157 rfl rfl
theorem wd_398 : Cond.methodLink rn_Dr 50 yn_Dr_readClause ∈ kx_all := kx_2 158 rfl rfl
theorem wd_400 : Cond.instanceMethod yn_Dr_readClause ∈ kx_all := kx_2 160 rfl rfl
theorem wd_401 : Cond.code yn_Dr_readClause bc_Dr_readClause 5 (some .boolean) ∈ kx_all := kx_2 161 rfl rfl
theorem wd_402 : Cond.methodLink rn_Dr 74 yn_Cl_begin ∈ kx_all := kx_2 162 rfl rfl
theorem wd_403 : Cond.instanceMethod yn_Cl_begin ∈ kx_all := kx_2 163 rfl rfl
theorem wd_404 : Cond.selects rn_Cl yn_Cl_begin yn_Cl_begin ∈ kx_all := kx_2 164 rfl rfl
theorem wd_405 : Cond.code yn_Cl_begin bc_Cl_begin 1 (some .boolean) ∈ kx_all := kx_2 165 rfl rfl
theorem wd_406 : Cond.methodLink rn_Dr 77 ⟨"java/lang/Math", "abs", "(I)I"⟩ ∈ kx_all := kx_2 166 rfl rfl
theorem wd_409 : Cond.methodLink rn_Dr 80 yn_Cl_append ∈ kx_all := kx_2 169 rfl rfl
theorem wd_410 : Cond.instanceMethod yn_Cl_append ∈ kx_all := kx_2 170 rfl rfl
theorem wd_411 : Cond.selects rn_Cl yn_Cl_append yn_Cl_append ∈ kx_all := kx_2 171 rfl rfl
theorem wd_412 : Cond.code yn_Cl_append bc_Cl_append 3 (some .boolean) ∈ kx_all := kx_2 172 rfl rfl
theorem wd_413 : Cond.methodLink rn_Cl 29 ⟨"java/lang/Math", "abs", "(I)I"⟩ ∈ kx_all := kx_2 173 rfl rfl
theorem wd_415 : Cond.static yn_Pt_only ∈ kx_all := kx_2 175 rfl rfl
theorem wd_416 : Cond.code yn_Pt_only bc_Pt_only 1 (some .int) ∈ kx_all := kx_2 176 rfl rfl
theorem wd_417 : Cond.methodLink rn_Dr 54 yn_Wd_hasWord ∈ kx_all := kx_2 177 rfl rfl
theorem wd_418 : Cond.instanceMethod yn_Wd_hasWord ∈ kx_all := kx_2 178 rfl rfl
theorem wd_419 : Cond.selects rn_Wd yn_Wd_hasWord yn_Wd_hasWord ∈ kx_all := kx_2 179 rfl rfl
theorem wd_420 : Cond.code yn_Wd_hasWord bc_Wd_hasWord 1 (some .boolean) ∈ kx_all := kx_2 180 rfl rfl
theorem wd_421 : Cond.classLink rn_Pt 75 "java/lang/IllegalArgumentException" ∈ kx_all := kx_2 181 rfl rfl
theorem wd_446 : Cond.methodLink "java/lang/Throwable" 1 objectInit ∈ kx_all := kx_2 206 rfl rfl
theorem wd_462 : Cond.methodLink rn_Pt 79 ⟨"java/lang/IllegalArgumentException", "<init>", "(Ljava/lang/String;)V"⟩ ∈ kx_all := kx_2 222 rfl rfl
theorem wd_487 : Cond.arrayClass .byte ∈ kx_all := kx_3 7 rfl rfl
theorem wd_488 : Cond.methodLink rn_Pt 82 yn_Cl_keep ∈ kx_all := kx_3 8 rfl rfl
theorem wd_489 : Cond.methodLink rn_Pt 91 yn_Cl_copy ∈ kx_all := kx_3 9 rfl rfl
theorem wd_490 : Cond.instanceMethod yn_Cl_copy ∈ kx_all := kx_3 10 rfl rfl
theorem wd_491 : Cond.selects rn_Cl yn_Cl_copy yn_Cl_copy ∈ kx_all := kx_3 11 rfl rfl
theorem wd_492 : Cond.code yn_Cl_copy bc_Cl_copy 4 none ∈ kx_all := kx_3 12 rfl rfl
theorem wd_493 : Cond.methodLink rn_Cl 38 yn_Cl_begin ∈ kx_all := kx_3 13 rfl rfl
theorem wd_494 : Cond.methodLink rn_Cl 42 yn_Cl_literalAt ∈ kx_all := kx_3 14 rfl rfl
theorem wd_495 : Cond.methodLink rn_Cl 46 yn_Cl_append ∈ kx_all := kx_3 15 rfl rfl
theorem wd_496 : Cond.methodLink rn_Pt 105 yn_Sp_forget ∈ kx_all := kx_3 16 rfl rfl
theorem wd_497 : Cond.instanceMethod yn_Sp_forget ∈ kx_all := kx_3 17 rfl rfl
theorem wd_498 : Cond.selects rn_Sp yn_Sp_forget yn_Sp_forget ∈ kx_all := kx_3 18 rfl rfl
theorem wd_499 : Cond.code yn_Sp_forget bc_Sp_forget 1 none ∈ kx_all := kx_3 19 rfl rfl
theorem wd_500 : Cond.methodLink rn_Pt 108 yn_Tr_forget ∈ kx_all := kx_3 20 rfl rfl
theorem wd_501 : Cond.instanceMethod yn_Tr_forget ∈ kx_all := kx_3 21 rfl rfl
theorem wd_502 : Cond.selects rn_Tr yn_Tr_forget yn_Tr_forget ∈ kx_all := kx_3 22 rfl rfl
theorem wd_503 : Cond.code yn_Tr_forget bc_Tr_forget 2 none ∈ kx_all := kx_3 23 rfl rfl
theorem wd_504 : Cond.methodLink rn_La 54 yn_La_proof ∈ kx_all := kx_3 24 rfl rfl
theorem wd_505 : Cond.static yn_La_proof ∈ kx_all := kx_3 25 rfl rfl
theorem wd_507 : Cond.classLink rn_La 19 "java/lang/IllegalStateException" ∈ kx_all := kx_3 27 rfl rfl
theorem wd_508 : Cond.methodLink rn_La 15 yn_Pt_proof ∈ kx_all := kx_3 28 rfl rfl
theorem wd_509 : Cond.instanceMethod yn_Pt_proof ∈ kx_all := kx_3 29 rfl rfl
theorem wd_510 : Cond.selects rn_Pt yn_Pt_proof yn_Pt_proof ∈ kx_all := kx_3 30 rfl rfl
theorem wd_511 : Cond.code yn_Pt_proof bc_Pt_proof 2 (some .int) ∈ kx_all := kx_3 31 rfl rfl
theorem wd_512 : Cond.classLink rn_Pt 109 "java/lang/IllegalStateException" ∈ kx_all := kx_3 32 rfl rfl
theorem wd_522 : Cond.methodLink rn_Pt 113 ⟨"java/lang/IllegalStateException", "<init>", "(Ljava/lang/String;)V"⟩ ∈ kx_all := kx_3 42 rfl rfl
theorem wd_528 : Cond.methodLink rn_Pt 114 yn_Dr_readPacked ∈ kx_all := kx_3 48 rfl rfl
theorem wd_529 : Cond.instanceMethod yn_Dr_readPacked ∈ kx_all := kx_3 49 rfl rfl
theorem wd_530 : Cond.selects rn_Dr yn_Dr_readPacked yn_Dr_readPacked ∈ kx_all := kx_3 50 rfl rfl
theorem wd_531 : Cond.code yn_Dr_readPacked bc_Dr_readPacked 5 (some .boolean) ∈ kx_all := kx_3 51 rfl rfl
theorem wd_532 : Cond.methodLink rn_Dr 66 yn_Tx_at ∈ kx_all := kx_3 52 rfl rfl
theorem wd_533 : Cond.methodLink rn_Dr 70 yn_Dr_readPackedClause ∈ kx_all := kx_3 53 rfl rfl
theorem wd_535 : Cond.instanceMethod yn_Dr_readPackedClause ∈ kx_all := kx_3 55 rfl rfl
theorem wd_536 : Cond.code yn_Dr_readPackedClause bc_Dr_readPackedClause 6 (some .int) ∈ kx_all := kx_3 56 rfl rfl
theorem wd_537 : Cond.methodLink rn_Pt 118 yn_Dr_readProof ∈ kx_all := kx_3 57 rfl rfl
theorem wd_538 : Cond.instanceMethod yn_Dr_readProof ∈ kx_all := kx_3 58 rfl rfl
theorem wd_539 : Cond.selects rn_Dr yn_Dr_readProof yn_Dr_readProof ∈ kx_all := kx_3 59 rfl rfl
theorem wd_540 : Cond.code yn_Dr_readProof bc_Dr_readProof 3 (some .boolean) ∈ kx_all := kx_3 60 rfl rfl
theorem wd_543 : Cond.methodLink rn_Pt 123 yn_Sp_settle ∈ kx_all := kx_3 63 rfl rfl
theorem wd_544 : Cond.instanceMethod yn_Sp_settle ∈ kx_all := kx_3 64 rfl rfl
theorem wd_545 : Cond.selects rn_Sp yn_Sp_settle yn_Sp_settle ∈ kx_all := kx_3 65 rfl rfl
theorem wd_546 : Cond.code yn_Sp_settle bc_Sp_settle 6 none ∈ kx_all := kx_3 66 rfl rfl
theorem wd_547 : Cond.methodLink rn_Sp 27 yn_Sp_forget ∈ kx_all := kx_3 67 rfl rfl
theorem wd_549 : Cond.static yn_Pt_firstOnes ∈ kx_all := kx_3 69 rfl rfl
theorem wd_550 : Cond.code yn_Pt_firstOnes bc_Pt_firstOnes 1 (some .long) ∈ kx_all := kx_3 70 rfl rfl
theorem wd_551 : Cond.constantLong rn_Pt 215 (2 : Int64) ∈ kx_all := kx_3 71 rfl rfl
theorem wd_552 : Cond.methodLink rn_Sp 47 yn_Cl_greatestAlike ∈ kx_all := kx_3 72 rfl rfl
theorem wd_553 : Cond.instanceMethod yn_Cl_greatestAlike ∈ kx_all := kx_3 73 rfl rfl
theorem wd_554 : Cond.selects rn_Cl yn_Cl_greatestAlike yn_Cl_greatestAlike ∈ kx_all := kx_3 74 rfl rfl
theorem wd_555 : Cond.code yn_Cl_greatestAlike bc_Cl_greatestAlike 5 (some .int) ∈ kx_all := kx_3 75 rfl rfl
theorem wd_558 : Cond.static yn_Pt_one ∈ kx_all := kx_3 78 rfl rfl
theorem wd_559 : Cond.code yn_Pt_one bc_Pt_one 1 (some .long) ∈ kx_all := kx_3 79 rfl rfl
theorem wd_560 : Cond.constantLong rn_Sp 54 (-1 : Int64) ∈ kx_all := kx_3 80 rfl rfl
theorem wd_561 : Cond.methodLink rn_Sp 56 yn_Cl_copy ∈ kx_all := kx_3 81 rfl rfl
theorem wd_562 : Cond.methodLink rn_La 58 yn_La_check ∈ kx_all := kx_3 82 rfl rfl
theorem wd_563 : Cond.static yn_La_check ∈ kx_all := kx_3 83 rfl rfl
theorem wd_565 : Cond.methodLink rn_La 21 yn_Pt_check ∈ kx_all := kx_3 85 rfl rfl
theorem wd_566 : Cond.instanceMethod yn_Pt_check ∈ kx_all := kx_3 86 rfl rfl
theorem wd_567 : Cond.selects rn_Pt yn_Pt_check yn_Pt_check ∈ kx_all := kx_3 87 rfl rfl
theorem wd_568 : Cond.code yn_Pt_check bc_Pt_check 2 (some .int) ∈ kx_all := kx_3 88 rfl rfl
theorem wd_570 : Cond.classLink rn_Pt 132 rn_Ck ∈ kx_all := kx_3 90 rfl rfl
theorem wd_571 : Cond.instantiable rn_Ck 5 ∈ kx_all := kx_3 91 rfl rfl
theorem wd_572 : Cond.methodLink rn_Pt 134 yn_Ck_init ∈ kx_all := kx_3 92 rfl rfl
theorem wd_573 : Cond.instanceMethod yn_Ck_init ∈ kx_all := kx_3 93 rfl rfl
theorem wd_574 : Cond.code yn_Ck_init bc_Ck_init 5 none ∈ kx_all := kx_3 94 rfl rfl
theorem wd_575 : Cond.methodLink rn_Ck 3 objectInit ∈ kx_all := kx_3 95 rfl rfl
theorem wd_576 : Cond.fieldLink rn_Ck 9 "ProofTrimmer$Checker" "clauses" "LProofTrimmer$Clauses;" ∈ kx_all := kx_3 96 rfl rfl
theorem wd_577 : Cond.fieldLink rn_Ck 15 "ProofTrimmer$Checker" "steps" "LProofTrimmer$Steps;" ∈ kx_all := kx_3 97 rfl rfl
theorem wd_578 : Cond.fieldLink rn_Ck 19 "ProofTrimmer$Checker" "trace" "LProofTrimmer$Trace;" ∈ kx_all := kx_3 98 rfl rfl
theorem wd_579 : Cond.fieldLink rn_Ck 23 "ProofTrimmer$Checker" "assignment" "LProofTrimmer$Assignment;" ∈ kx_all := kx_3 99 rfl rfl
theorem wd_580 : Cond.fieldLink rn_Ck 33 "ProofTrimmer$Checker" "live" "J" ∈ kx_all := kx_3 100 rfl rfl
theorem wd_581 : Cond.laysFinal "ProofTrimmer$Checker" "ProofTrimmer$Checker" "clauses" "LProofTrimmer$Clauses;" ∈ kx_all := kx_3 101 rfl rfl
theorem wd_583 : Cond.laysFinal "ProofTrimmer$Checker" "ProofTrimmer$Checker" "steps" "LProofTrimmer$Steps;" ∈ kx_all := kx_3 103 rfl rfl
theorem wd_585 : Cond.laysFinal "ProofTrimmer$Checker" "ProofTrimmer$Checker" "trace" "LProofTrimmer$Trace;" ∈ kx_all := kx_3 105 rfl rfl
theorem wd_587 : Cond.laysFinal "ProofTrimmer$Checker" "ProofTrimmer$Checker" "assignment" "LProofTrimmer$Assignment;" ∈ kx_all := kx_3 107 rfl rfl
theorem wd_589 : Cond.lays "ProofTrimmer$Checker" "ProofTrimmer$Checker" "live" "J" ∈ kx_all := kx_3 109 rfl rfl
theorem wd_592 : Cond.methodLink rn_Pt 137 yn_Ck_goBack ∈ kx_all := kx_3 112 rfl rfl
theorem wd_593 : Cond.instanceMethod yn_Ck_goBack ∈ kx_all := kx_3 113 rfl rfl
theorem wd_594 : Cond.selects rn_Ck yn_Ck_goBack yn_Ck_goBack ∈ kx_all := kx_3 114 rfl rfl
theorem wd_595 : Cond.code yn_Ck_goBack bc_Ck_goBack 4 (some .int) ∈ kx_all := kx_3 115 rfl rfl
theorem wd_596 : Cond.methodLink rn_Ck 27 yn_Sp_liveAfterAll ∈ kx_all := kx_3 116 rfl rfl
theorem wd_597 : Cond.instanceMethod yn_Sp_liveAfterAll ∈ kx_all := kx_3 117 rfl rfl
theorem wd_598 : Cond.selects rn_Sp yn_Sp_liveAfterAll yn_Sp_liveAfterAll ∈ kx_all := kx_3 118 rfl rfl
theorem wd_599 : Cond.code yn_Sp_liveAfterAll bc_Sp_liveAfterAll 5 (some .long) ∈ kx_all := kx_3 119 rfl rfl
theorem wd_601 : Cond.constantLong rn_Ck 60 (-1 : Int64) ∈ kx_all := kx_3 121 rfl rfl
theorem wd_603 : Cond.methodLink rn_Ck 66 yn_Ck_isRight ∈ kx_all := kx_3 123 rfl rfl
theorem wd_605 : Cond.instanceMethod yn_Ck_isRight ∈ kx_all := kx_3 125 rfl rfl
theorem wd_606 : Cond.code yn_Ck_isRight bc_Ck_isRight 3 (some .boolean) ∈ kx_all := kx_3 126 rfl rfl
theorem wd_607 : Cond.methodLink rn_Ck 70 yn_Tr_begin ∈ kx_all := kx_3 127 rfl rfl
theorem wd_608 : Cond.instanceMethod yn_Tr_begin ∈ kx_all := kx_3 128 rfl rfl
theorem wd_609 : Cond.selects rn_Tr yn_Tr_begin yn_Tr_begin ∈ kx_all := kx_3 129 rfl rfl
theorem wd_610 : Cond.code yn_Tr_begin bc_Tr_begin 2 none ∈ kx_all := kx_3 130 rfl rfl
theorem wd_612 : Cond.static yn_Pt_opposites ∈ kx_all := kx_3 132 rfl rfl
theorem wd_613 : Cond.code yn_Pt_opposites bc_Pt_opposites 1 (some .int) ∈ kx_all := kx_3 133 rfl rfl
theorem wd_614 : Cond.constant rn_Pt 214 (65280 : Int32) ∈ kx_all := kx_3 134 rfl rfl
theorem wd_615 : Cond.methodLink rn_Ck 81 yn_As_restart ∈ kx_all := kx_3 135 rfl rfl
theorem wd_616 : Cond.instanceMethod yn_As_restart ∈ kx_all := kx_3 136 rfl rfl
theorem wd_617 : Cond.selects rn_As yn_As_restart yn_As_restart ∈ kx_all := kx_3 137 rfl rfl
theorem wd_618 : Cond.code yn_As_restart bc_As_restart 3 none ∈ kx_all := kx_3 138 rfl rfl
theorem wd_620 : Cond.methodLink rn_Ck 87 yn_Ck_propagate ∈ kx_all := kx_3 140 rfl rfl
theorem wd_622 : Cond.instanceMethod yn_Ck_propagate ∈ kx_all := kx_3 142 rfl rfl
theorem wd_623 : Cond.code yn_Ck_propagate bc_Ck_propagate 3 (some .int) ∈ kx_all := kx_3 143 rfl rfl
theorem wd_624 : Cond.methodLink rn_Ck 122 yn_Ck_firstReady ∈ kx_all := kx_3 144 rfl rfl
theorem wd_626 : Cond.instanceMethod yn_Ck_firstReady ∈ kx_all := kx_3 146 rfl rfl
theorem wd_627 : Cond.code yn_Ck_firstReady bc_Ck_firstReady 4 (some .int) ∈ kx_all := kx_3 147 rfl rfl
theorem wd_628 : Cond.methodLink rn_Ck 130 yn_As_isReady ∈ kx_all := kx_3 148 rfl rfl
theorem wd_629 : Cond.instanceMethod yn_As_isReady ∈ kx_all := kx_3 149 rfl rfl
theorem wd_630 : Cond.selects rn_As yn_As_isReady yn_As_isReady ∈ kx_all := kx_3 150 rfl rfl
theorem wd_631 : Cond.code yn_As_isReady bc_As_isReady 3 (some .boolean) ∈ kx_all := kx_3 151 rfl rfl
theorem wd_632 : Cond.methodLink rn_Ck 126 yn_As_follow ∈ kx_all := kx_3 152 rfl rfl
theorem wd_633 : Cond.instanceMethod yn_As_follow ∈ kx_all := kx_3 153 rfl rfl
theorem wd_634 : Cond.selects rn_As yn_As_follow yn_As_follow ∈ kx_all := kx_3 154 rfl rfl
theorem wd_635 : Cond.code yn_As_follow bc_As_follow 4 (some .boolean) ∈ kx_all := kx_3 155 rfl rfl
theorem wd_636 : Cond.methodLink rn_Ck 91 yn_Ck_explain ∈ kx_all := kx_3 156 rfl rfl
theorem wd_638 : Cond.instanceMethod yn_Ck_explain ∈ kx_all := kx_3 158 rfl rfl
theorem wd_639 : Cond.code yn_Ck_explain bc_Ck_explain 7 (some .long) ∈ kx_all := kx_3 159 rfl rfl
theorem wd_640 : Cond.methodLink rn_Ck 118 yn_As_usedFor ∈ kx_all := kx_3 160 rfl rfl
theorem wd_641 : Cond.instanceMethod yn_As_usedFor ∈ kx_all := kx_3 161 rfl rfl
theorem wd_642 : Cond.selects rn_As yn_As_usedFor yn_As_usedFor ∈ kx_all := kx_3 162 rfl rfl
theorem wd_643 : Cond.code yn_As_usedFor bc_As_usedFor 7 (some .long) ∈ kx_all := kx_3 163 rfl rfl
theorem wd_645 : Cond.methodLink rn_Ck 108 yn_Tr_append ∈ kx_all := kx_3 165 rfl rfl
theorem wd_646 : Cond.instanceMethod yn_Tr_append ∈ kx_all := kx_3 166 rfl rfl
theorem wd_647 : Cond.selects rn_Tr yn_Tr_append yn_Tr_append ∈ kx_all := kx_3 167 rfl rfl
theorem wd_648 : Cond.code yn_Tr_append bc_Tr_append 3 none ∈ kx_all := kx_3 168 rfl rfl
theorem wd_649 : Cond.methodLink rn_Ck 98 yn_Ck_settlesPartners ∈ kx_all := kx_3 169 rfl rfl
theorem wd_651 : Cond.instanceMethod yn_Ck_settlesPartners ∈ kx_all := kx_3 171 rfl rfl
theorem wd_652 : Cond.code yn_Ck_settlesPartners bc_Ck_settlesPartners 10 (some .boolean) ∈ kx_all := kx_3 172 rfl rfl
theorem wd_653 : Cond.methodLink rn_Ck 111 yn_Cl_literalAt ∈ kx_all := kx_3 173 rfl rfl
theorem wd_655 : Cond.methodLink rn_Pt 148 yn_Pt_firstOnes ∈ kx_all := kx_3 175 rfl rfl
theorem wd_656 : Cond.constantLong rn_Pt 152 (-1 : Int64) ∈ kx_all := kx_3 176 rfl rfl
theorem wd_657 : Cond.methodLink rn_Pt 154 ⟨"java/lang/Long", "bitCount", "(J)I"⟩ ∈ kx_all := kx_3 177 rfl rfl
theorem wd_663 : Cond.methodLink rn_La 97 yn_La_verify ∈ kx_all := kx_3 183 rfl rfl
theorem wd_664 : Cond.static yn_La_verify ∈ kx_all := kx_3 184 rfl rfl
theorem wd_666 : Cond.methodLink rn_La 24 yn_Pt_verify ∈ kx_all := kx_3 186 rfl rfl
theorem wd_667 : Cond.instanceMethod yn_Pt_verify ∈ kx_all := kx_3 187 rfl rfl
theorem wd_668 : Cond.selects rn_Pt yn_Pt_verify yn_Pt_verify ∈ kx_all := kx_3 188 rfl rfl
theorem wd_669 : Cond.code yn_Pt_verify bc_Pt_verify 1 (some .int) ∈ kx_all := kx_3 189 rfl rfl
theorem wd_671 : Cond.classLink rn_Pt 192 rn_Vf ∈ kx_all := kx_3 191 rfl rfl
theorem wd_672 : Cond.instantiable rn_Vf 7 ∈ kx_all := kx_3 192 rfl rfl
theorem wd_673 : Cond.methodLink rn_Pt 194 yn_Vf_init ∈ kx_all := kx_3 193 rfl rfl
theorem wd_674 : Cond.instanceMethod yn_Vf_init ∈ kx_all := kx_3 194 rfl rfl
theorem wd_675 : Cond.code yn_Vf_init bc_Vf_init 5 none ∈ kx_all := kx_3 195 rfl rfl
theorem wd_676 : Cond.methodLink rn_Vf 1 objectInit ∈ kx_all := kx_3 196 rfl rfl
theorem wd_677 : Cond.fieldLink rn_Vf 7 "ProofTrimmer$Verifier" "clauses" "LProofTrimmer$Clauses;" ∈ kx_all := kx_3 197 rfl rfl
theorem wd_678 : Cond.fieldLink rn_Vf 13 "ProofTrimmer$Verifier" "steps" "LProofTrimmer$Steps;" ∈ kx_all := kx_3 198 rfl rfl
theorem wd_679 : Cond.fieldLink rn_Vf 17 "ProofTrimmer$Verifier" "trace" "LProofTrimmer$Trace;" ∈ kx_all := kx_3 199 rfl rfl
theorem wd_680 : Cond.fieldLink rn_Vf 21 "ProofTrimmer$Verifier" "assignment" "LProofTrimmer$Assignment;" ∈ kx_all := kx_3 200 rfl rfl
theorem wd_681 : Cond.fieldLink rn_Vf 31 "ProofTrimmer$Verifier" "live" "J" ∈ kx_all := kx_3 201 rfl rfl
theorem wd_682 : Cond.fieldLink rn_Vf 67 "ProofTrimmer$Verifier" "next" "I" ∈ kx_all := kx_3 202 rfl rfl
theorem wd_683 : Cond.fieldLink rn_Vf 88 "ProofTrimmer$Verifier" "conflict" "Z" ∈ kx_all := kx_3 203 rfl rfl
theorem wd_684 : Cond.laysFinal "ProofTrimmer$Verifier" "ProofTrimmer$Verifier" "clauses" "LProofTrimmer$Clauses;" ∈ kx_all := kx_3 204 rfl rfl
theorem wd_686 : Cond.laysFinal "ProofTrimmer$Verifier" "ProofTrimmer$Verifier" "steps" "LProofTrimmer$Steps;" ∈ kx_all := kx_3 206 rfl rfl
theorem wd_688 : Cond.laysFinal "ProofTrimmer$Verifier" "ProofTrimmer$Verifier" "trace" "LProofTrimmer$Trace;" ∈ kx_all := kx_3 208 rfl rfl
theorem wd_690 : Cond.laysFinal "ProofTrimmer$Verifier" "ProofTrimmer$Verifier" "assignment" "LProofTrimmer$Assignment;" ∈ kx_all := kx_3 210 rfl rfl
theorem wd_692 : Cond.lays "ProofTrimmer$Verifier" "ProofTrimmer$Verifier" "live" "J" ∈ kx_all := kx_3 212 rfl rfl
theorem wd_694 : Cond.lays "ProofTrimmer$Verifier" "ProofTrimmer$Verifier" "next" "I" ∈ kx_all := kx_3 214 rfl rfl
theorem wd_696 : Cond.lays "ProofTrimmer$Verifier" "ProofTrimmer$Verifier" "conflict" "Z" ∈ kx_all := kx_3 216 rfl rfl
theorem wd_699 : Cond.methodLink rn_Pt 195 yn_Vf_firstBad ∈ kx_all := kx_3 219 rfl rfl
theorem wd_700 : Cond.instanceMethod yn_Vf_firstBad ∈ kx_all := kx_3 220 rfl rfl
theorem wd_701 : Cond.selects rn_Vf yn_Vf_firstBad yn_Vf_firstBad ∈ kx_all := kx_3 221 rfl rfl
theorem wd_702 : Cond.code yn_Vf_firstBad bc_Vf_firstBad 4 (some .int) ∈ kx_all := kx_3 222 rfl rfl
theorem wd_705 : Cond.constantLong rn_Vf 52 (-1 : Int64) ∈ kx_all := kx_3 225 rfl rfl
theorem wd_707 : Cond.methodLink rn_Vf 63 yn_Vf_isGood ∈ kx_all := kx_3 227 rfl rfl
theorem wd_709 : Cond.instanceMethod yn_Vf_isGood ∈ kx_all := kx_3 229 rfl rfl
theorem wd_710 : Cond.code yn_Vf_isGood bc_Vf_isGood 2 (some .boolean) ∈ kx_all := kx_3 230 rfl rfl
theorem wd_712 : Cond.methodLink rn_Vf 79 yn_As_restart ∈ kx_all := kx_3 232 rfl rfl
theorem wd_713 : Cond.methodLink rn_Vf 85 yn_Vf_followsPositives ∈ kx_all := kx_3 233 rfl rfl
theorem wd_715 : Cond.instanceMethod yn_Vf_followsPositives ∈ kx_all := kx_3 235 rfl rfl
theorem wd_716 : Cond.code yn_Vf_followsPositives bc_Vf_followsPositives 3 (some .boolean) ∈ kx_all := kx_3 236 rfl rfl
theorem wd_717 : Cond.methodLink rn_Vf 98 yn_Tr_countOf ∈ kx_all := kx_3 237 rfl rfl
theorem wd_718 : Cond.methodLink rn_Vf 112 yn_Tr_hintAt ∈ kx_all := kx_3 238 rfl rfl
theorem wd_719 : Cond.methodLink rn_Vf 115 yn_Cl_has ∈ kx_all := kx_3 239 rfl rfl
theorem wd_720 : Cond.methodLink rn_Vf 118 yn_As_isReady ∈ kx_all := kx_4 0 rfl rfl
theorem wd_721 : Cond.methodLink rn_Vf 121 yn_As_follow ∈ kx_all := kx_4 1 rfl rfl
theorem wd_722 : Cond.methodLink rn_Vf 95 yn_Vf_followsPartners ∈ kx_all := kx_4 2 rfl rfl
theorem wd_724 : Cond.instanceMethod yn_Vf_followsPartners ∈ kx_all := kx_4 4 rfl rfl
theorem wd_725 : Cond.code yn_Vf_followsPartners bc_Vf_followsPartners 6 (some .boolean) ∈ kx_all := kx_4 5 rfl rfl
theorem wd_726 : Cond.methodLink rn_Vf 104 yn_Cl_literalAt ∈ kx_all := kx_4 6 rfl rfl
theorem wd_728 : Cond.methodLink rn_La 100 yn_La_write ∈ kx_all := kx_4 8 rfl rfl
theorem wd_729 : Cond.static yn_La_write ∈ kx_all := kx_4 9 rfl rfl
theorem wd_731 : Cond.methodLink rn_La 27 yn_Pt_write ∈ kx_all := kx_4 11 rfl rfl
theorem wd_732 : Cond.instanceMethod yn_Pt_write ∈ kx_all := kx_4 12 rfl rfl
theorem wd_733 : Cond.selects rn_Pt yn_Pt_write yn_Pt_write ∈ kx_all := kx_4 13 rfl rfl
theorem wd_734 : Cond.code yn_Pt_write bc_Pt_write 4 (some .int) ∈ kx_all := kx_4 14 rfl rfl
theorem wd_735 : Cond.methodLink rn_Pt 202 yn_Pt_writeStep ∈ kx_all := kx_4 15 rfl rfl
theorem wd_737 : Cond.instanceMethod yn_Pt_writeStep ∈ kx_all := kx_4 17 rfl rfl
theorem wd_738 : Cond.code yn_Pt_writeStep bc_Pt_writeStep 5 none ∈ kx_all := kx_4 18 rfl rfl
theorem wd_739 : Cond.methodLink rn_Pt 209 ⟨"java/lang/Math", "abs", "(I)I"⟩ ∈ kx_all := kx_4 19 rfl rfl
theorem wd_740 : Cond.classLink rn_La 31 rn_Mo ∈ kx_all := kx_4 20 rfl rfl
theorem wd_741 : Cond.instantiable rn_Mo 36 ∈ kx_all := kx_4 21 rfl rfl
theorem wd_742 : Cond.methodLink rn_La 33 yn_Mo_init ∈ kx_all := kx_4 22 rfl rfl
theorem wd_743 : Cond.instanceMethod yn_Mo_init ∈ kx_all := kx_4 23 rfl rfl
theorem wd_744 : Cond.code yn_Mo_init bc_Mo_init 1 none ∈ kx_all := kx_4 24 rfl rfl
theorem wd_745 : Cond.methodLink rn_Mo 1 objectInit ∈ kx_all := kx_4 25 rfl rfl
theorem wd_746 : Cond.fieldLink rn_Mo 65 "ProofTrimmerModel" "thrown" "I" ∈ kx_all := kx_4 26 rfl rfl
theorem wd_747 : Cond.fieldLink rn_Mo 69 "ProofTrimmerModel" "typed" "I" ∈ kx_all := kx_4 27 rfl rfl
theorem wd_748 : Cond.fieldLink rn_Mo 7 "ProofTrimmerModel" "text" "[I" ∈ kx_all := kx_4 28 rfl rfl
theorem wd_749 : Cond.fieldLink rn_Mo 74 "ProofTrimmerModel" "at" "I" ∈ kx_all := kx_4 29 rfl rfl
theorem wd_750 : Cond.fieldLink rn_Mo 81 "ProofTrimmerModel" "from" "I" ∈ kx_all := kx_4 30 rfl rfl
theorem wd_751 : Cond.fieldLink rn_Mo 84 "ProofTrimmerModel" "to" "I" ∈ kx_all := kx_4 31 rfl rfl
theorem wd_752 : Cond.fieldLink rn_Mo 87 "ProofTrimmerModel" "good" "Z" ∈ kx_all := kx_4 32 rfl rfl
theorem wd_753 : Cond.fieldLink rn_Mo 91 "ProofTrimmerModel" "reads" "I" ∈ kx_all := kx_4 33 rfl rfl
theorem wd_754 : Cond.fieldLink rn_Mo 13 "ProofTrimmerModel" "readSize" "[I" ∈ kx_all := kx_4 34 rfl rfl
theorem wd_755 : Cond.fieldLink rn_Mo 16 "ProofTrimmerModel" "readLiteral" "[I" ∈ kx_all := kx_4 35 rfl rfl
theorem wd_756 : Cond.fieldLink rn_Mo 19 "ProofTrimmerModel" "readDeletes" "[Z" ∈ kx_all := kx_4 36 rfl rfl
theorem wd_757 : Cond.fieldLink rn_Mo 134 "ProofTrimmerModel" "hasFormula" "Z" ∈ kx_all := kx_4 37 rfl rfl
theorem wd_758 : Cond.fieldLink rn_Mo 137 "ProofTrimmerModel" "hasProof" "Z" ∈ kx_all := kx_4 38 rfl rfl
theorem wd_759 : Cond.fieldLink rn_Mo 159 "ProofTrimmerModel" "closed" "Z" ∈ kx_all := kx_4 39 rfl rfl
theorem wd_760 : Cond.fieldLink rn_Mo 140 "ProofTrimmerModel" "checked" "Z" ∈ kx_all := kx_4 40 rfl rfl
theorem wd_761 : Cond.fieldLink rn_Mo 150 "ProofTrimmerModel" "base" "I" ∈ kx_all := kx_4 41 rfl rfl
theorem wd_762 : Cond.fieldLink rn_Mo 122 "ProofTrimmerModel" "count" "I" ∈ kx_all := kx_4 42 rfl rfl
theorem wd_763 : Cond.fieldLink rn_Mo 23 "ProofTrimmerModel" "set" "[I" ∈ kx_all := kx_4 43 rfl rfl
theorem wd_764 : Cond.fieldLink rn_Mo 26 "ProofTrimmerModel" "size" "[I" ∈ kx_all := kx_4 44 rfl rfl
theorem wd_765 : Cond.fieldLink rn_Mo 29 "ProofTrimmerModel" "literal" "[I" ∈ kx_all := kx_4 45 rfl rfl
theorem wd_766 : Cond.fieldLink rn_Mo 32 "ProofTrimmerModel" "live" "[Z" ∈ kx_all := kx_4 46 rfl rfl
theorem wd_767 : Cond.fieldLink rn_Mo 35 "ProofTrimmerModel" "mark" "[Z" ∈ kx_all := kx_4 47 rfl rfl
theorem wd_768 : Cond.fieldLink rn_Mo 143 "ProofTrimmerModel" "steps" "I" ∈ kx_all := kx_4 48 rfl rfl
theorem wd_769 : Cond.fieldLink rn_Mo 38 "ProofTrimmerModel" "adds" "[Z" ∈ kx_all := kx_4 49 rfl rfl
theorem wd_770 : Cond.fieldLink rn_Mo 41 "ProofTrimmerModel" "clause" "[I" ∈ kx_all := kx_4 50 rfl rfl
theorem wd_771 : Cond.fieldLink rn_Mo 44 "ProofTrimmerModel" "hintCount" "[I" ∈ kx_all := kx_4 51 rfl rfl
theorem wd_772 : Cond.fieldLink rn_Mo 47 "ProofTrimmerModel" "hint" "[I" ∈ kx_all := kx_4 52 rfl rfl
theorem wd_773 : Cond.fieldLink rn_Mo 168 "ProofTrimmerModel" "truth" "I" ∈ kx_all := kx_4 53 rfl rfl
theorem wd_774 : Cond.fieldLink rn_Mo 183 "ProofTrimmerModel" "reasons" "I" ∈ kx_all := kx_4 54 rfl rfl
theorem wd_775 : Cond.fieldLink rn_Mo 50 "ProofTrimmerModel" "reason" "[I" ∈ kx_all := kx_4 55 rfl rfl
theorem wd_776 : Cond.fieldLink rn_Mo 53 "ProofTrimmerModel" "reached" "[I" ∈ kx_all := kx_4 56 rfl rfl
theorem wd_777 : Cond.fieldLink rn_Mo 56 "ProofTrimmerModel" "used" "[Z" ∈ kx_all := kx_4 57 rfl rfl
theorem wd_778 : Cond.fieldLink rn_Mo 59 "ProofTrimmerModel" "later" "[Z" ∈ kx_all := kx_4 58 rfl rfl
theorem wd_779 : Cond.fieldLink rn_Mo 227 "ProofTrimmerModel" "written" "I" ∈ kx_all := kx_4 59 rfl rfl
theorem wd_780 : Cond.fieldLink rn_Mo 62 "ProofTrimmerModel" "out" "[I" ∈ kx_all := kx_4 60 rfl rfl
theorem wd_781 : Cond.fieldLink rn_Mo 215 "ProofTrimmerModel" "follow" "I" ∈ kx_all := kx_4 61 rfl rfl
theorem wd_782 : Cond.lays "ProofTrimmerModel" "ProofTrimmerModel" "thrown" "I" ∈ kx_all := kx_4 62 rfl rfl
theorem wd_784 : Cond.lays "ProofTrimmerModel" "ProofTrimmerModel" "typed" "I" ∈ kx_all := kx_4 64 rfl rfl
theorem wd_786 : Cond.laysFinal "ProofTrimmerModel" "ProofTrimmerModel" "text" "[I" ∈ kx_all := kx_4 66 rfl rfl
theorem wd_788 : Cond.lays "ProofTrimmerModel" "ProofTrimmerModel" "at" "I" ∈ kx_all := kx_4 68 rfl rfl
theorem wd_790 : Cond.lays "ProofTrimmerModel" "ProofTrimmerModel" "from" "I" ∈ kx_all := kx_4 70 rfl rfl
theorem wd_792 : Cond.lays "ProofTrimmerModel" "ProofTrimmerModel" "to" "I" ∈ kx_all := kx_4 72 rfl rfl
theorem wd_794 : Cond.lays "ProofTrimmerModel" "ProofTrimmerModel" "good" "Z" ∈ kx_all := kx_4 74 rfl rfl
theorem wd_796 : Cond.lays "ProofTrimmerModel" "ProofTrimmerModel" "reads" "I" ∈ kx_all := kx_4 76 rfl rfl
theorem wd_798 : Cond.laysFinal "ProofTrimmerModel" "ProofTrimmerModel" "readSize" "[I" ∈ kx_all := kx_4 78 rfl rfl
theorem wd_800 : Cond.laysFinal "ProofTrimmerModel" "ProofTrimmerModel" "readLiteral" "[I" ∈ kx_all := kx_4 80 rfl rfl
theorem wd_802 : Cond.laysFinal "ProofTrimmerModel" "ProofTrimmerModel" "readDeletes" "[Z" ∈ kx_all := kx_4 82 rfl rfl
theorem wd_804 : Cond.lays "ProofTrimmerModel" "ProofTrimmerModel" "hasFormula" "Z" ∈ kx_all := kx_4 84 rfl rfl
theorem wd_806 : Cond.lays "ProofTrimmerModel" "ProofTrimmerModel" "hasProof" "Z" ∈ kx_all := kx_4 86 rfl rfl
theorem wd_808 : Cond.lays "ProofTrimmerModel" "ProofTrimmerModel" "closed" "Z" ∈ kx_all := kx_4 88 rfl rfl
theorem wd_810 : Cond.lays "ProofTrimmerModel" "ProofTrimmerModel" "checked" "Z" ∈ kx_all := kx_4 90 rfl rfl
theorem wd_812 : Cond.lays "ProofTrimmerModel" "ProofTrimmerModel" "base" "I" ∈ kx_all := kx_4 92 rfl rfl
theorem wd_814 : Cond.lays "ProofTrimmerModel" "ProofTrimmerModel" "count" "I" ∈ kx_all := kx_4 94 rfl rfl
theorem wd_816 : Cond.laysFinal "ProofTrimmerModel" "ProofTrimmerModel" "set" "[I" ∈ kx_all := kx_4 96 rfl rfl
theorem wd_818 : Cond.laysFinal "ProofTrimmerModel" "ProofTrimmerModel" "size" "[I" ∈ kx_all := kx_4 98 rfl rfl
theorem wd_820 : Cond.laysFinal "ProofTrimmerModel" "ProofTrimmerModel" "literal" "[I" ∈ kx_all := kx_4 100 rfl rfl
theorem wd_822 : Cond.laysFinal "ProofTrimmerModel" "ProofTrimmerModel" "live" "[Z" ∈ kx_all := kx_4 102 rfl rfl
theorem wd_824 : Cond.laysFinal "ProofTrimmerModel" "ProofTrimmerModel" "mark" "[Z" ∈ kx_all := kx_4 104 rfl rfl
theorem wd_826 : Cond.lays "ProofTrimmerModel" "ProofTrimmerModel" "steps" "I" ∈ kx_all := kx_4 106 rfl rfl
theorem wd_828 : Cond.laysFinal "ProofTrimmerModel" "ProofTrimmerModel" "adds" "[Z" ∈ kx_all := kx_4 108 rfl rfl
theorem wd_830 : Cond.laysFinal "ProofTrimmerModel" "ProofTrimmerModel" "clause" "[I" ∈ kx_all := kx_4 110 rfl rfl
theorem wd_832 : Cond.laysFinal "ProofTrimmerModel" "ProofTrimmerModel" "hintCount" "[I" ∈ kx_all := kx_4 112 rfl rfl
theorem wd_834 : Cond.laysFinal "ProofTrimmerModel" "ProofTrimmerModel" "hint" "[I" ∈ kx_all := kx_4 114 rfl rfl
theorem wd_836 : Cond.lays "ProofTrimmerModel" "ProofTrimmerModel" "truth" "I" ∈ kx_all := kx_4 116 rfl rfl
theorem wd_838 : Cond.lays "ProofTrimmerModel" "ProofTrimmerModel" "reasons" "I" ∈ kx_all := kx_4 118 rfl rfl
theorem wd_840 : Cond.laysFinal "ProofTrimmerModel" "ProofTrimmerModel" "reason" "[I" ∈ kx_all := kx_4 120 rfl rfl
theorem wd_842 : Cond.laysFinal "ProofTrimmerModel" "ProofTrimmerModel" "reached" "[I" ∈ kx_all := kx_4 122 rfl rfl
theorem wd_844 : Cond.laysFinal "ProofTrimmerModel" "ProofTrimmerModel" "used" "[Z" ∈ kx_all := kx_4 124 rfl rfl
theorem wd_846 : Cond.laysFinal "ProofTrimmerModel" "ProofTrimmerModel" "later" "[Z" ∈ kx_all := kx_4 126 rfl rfl
theorem wd_848 : Cond.lays "ProofTrimmerModel" "ProofTrimmerModel" "written" "I" ∈ kx_all := kx_4 128 rfl rfl
theorem wd_850 : Cond.laysFinal "ProofTrimmerModel" "ProofTrimmerModel" "out" "[I" ∈ kx_all := kx_4 130 rfl rfl
theorem wd_852 : Cond.lays "ProofTrimmerModel" "ProofTrimmerModel" "follow" "I" ∈ kx_all := kx_4 132 rfl rfl
theorem wd_855 : Cond.methodLink rn_La 51 yn_Mo_thrown ∈ kx_all := kx_4 135 rfl rfl
theorem wd_856 : Cond.instanceMethod yn_Mo_thrown ∈ kx_all := kx_4 136 rfl rfl
theorem wd_857 : Cond.selects rn_Mo yn_Mo_thrown yn_Mo_thrown ∈ kx_all := kx_4 137 rfl rfl
theorem wd_858 : Cond.code yn_Mo_thrown bc_Mo_thrown 1 (some .int) ∈ kx_all := kx_4 138 rfl rfl
theorem wd_859 : Cond.methodLink rn_La 40 yn_Mo_type ∈ kx_all := kx_4 139 rfl rfl
theorem wd_860 : Cond.instanceMethod yn_Mo_type ∈ kx_all := kx_4 140 rfl rfl
theorem wd_861 : Cond.selects rn_Mo yn_Mo_type yn_Mo_type ∈ kx_all := kx_4 141 rfl rfl
theorem wd_862 : Cond.code yn_Mo_type bc_Mo_type 5 (some .int) ∈ kx_all := kx_4 142 rfl rfl
theorem wd_863 : Cond.constantLong rn_Mo 72 (255 : Int64) ∈ kx_all := kx_4 143 rfl rfl
theorem wd_864 : Cond.methodLink rn_La 44 yn_Mo_wipe ∈ kx_all := kx_4 144 rfl rfl
theorem wd_865 : Cond.instanceMethod yn_Mo_wipe ∈ kx_all := kx_4 145 rfl rfl
theorem wd_866 : Cond.selects rn_Mo yn_Mo_wipe yn_Mo_wipe ∈ kx_all := kx_4 146 rfl rfl
theorem wd_867 : Cond.code yn_Mo_wipe bc_Mo_wipe 2 (some .int) ∈ kx_all := kx_4 147 rfl rfl
theorem wd_868 : Cond.methodLink rn_La 50 yn_Mo_formula ∈ kx_all := kx_4 148 rfl rfl
theorem wd_869 : Cond.instanceMethod yn_Mo_formula ∈ kx_all := kx_4 149 rfl rfl
theorem wd_870 : Cond.selects rn_Mo yn_Mo_formula yn_Mo_formula ∈ kx_all := kx_4 150 rfl rfl
theorem wd_871 : Cond.code yn_Mo_formula bc_Mo_formula 2 (some .int) ∈ kx_all := kx_4 151 rfl rfl
theorem wd_872 : Cond.methodLink rn_Mo 128 yn_Mo_readFormula ∈ kx_all := kx_4 152 rfl rfl
theorem wd_874 : Cond.instanceMethod yn_Mo_readFormula ∈ kx_all := kx_4 154 rfl rfl
theorem wd_875 : Cond.code yn_Mo_readFormula bc_Mo_readFormula 4 (some .boolean) ∈ kx_all := kx_4 155 rfl rfl
theorem wd_876 : Cond.methodLink rn_Mo 106 yn_Mo_word ∈ kx_all := kx_4 156 rfl rfl
theorem wd_878 : Cond.instanceMethod yn_Mo_word ∈ kx_all := kx_4 158 rfl rfl
theorem wd_879 : Cond.code yn_Mo_word bc_Mo_word 1 (some .boolean) ∈ kx_all := kx_4 159 rfl rfl
theorem wd_880 : Cond.methodLink rn_Mo 77 yn_Mo_isGap ∈ kx_all := kx_4 160 rfl rfl
theorem wd_881 : Cond.static yn_Mo_isGap ∈ kx_all := kx_4 161 rfl rfl
theorem wd_882 : Cond.code yn_Mo_isGap bc_Mo_isGap 1 (some .boolean) ∈ kx_all := kx_4 162 rfl rfl
theorem wd_883 : Cond.methodLink rn_Mo 110 yn_Mo_isWord ∈ kx_all := kx_4 163 rfl rfl
theorem wd_885 : Cond.instanceMethod yn_Mo_isWord ∈ kx_all := kx_4 165 rfl rfl
theorem wd_886 : Cond.code yn_Mo_isWord bc_Mo_isWord 5 (some .boolean) ∈ kx_all := kx_4 166 rfl rfl
theorem wd_887 : Cond.methodLink rn_Mo 98 yn_Mo_integer ∈ kx_all := kx_4 167 rfl rfl
theorem wd_889 : Cond.instanceMethod yn_Mo_integer ∈ kx_all := kx_4 169 rfl rfl
theorem wd_890 : Cond.code yn_Mo_integer bc_Mo_integer 5 (some .int) ∈ kx_all := kx_4 170 rfl rfl
theorem wd_891 : Cond.methodLink rn_Mo 114 yn_Mo_readClause ∈ kx_all := kx_4 171 rfl rfl
theorem wd_893 : Cond.instanceMethod yn_Mo_readClause ∈ kx_all := kx_4 173 rfl rfl
theorem wd_894 : Cond.code yn_Mo_readClause bc_Mo_readClause 4 none ∈ kx_all := kx_4 174 rfl rfl
theorem wd_895 : Cond.methodLink rn_Mo 94 yn_Mo_beginClause ∈ kx_all := kx_4 175 rfl rfl
theorem wd_897 : Cond.instanceMethod yn_Mo_beginClause ∈ kx_all := kx_4 177 rfl rfl
theorem wd_898 : Cond.code yn_Mo_beginClause bc_Mo_beginClause 2 none ∈ kx_all := kx_4 178 rfl rfl
theorem wd_899 : Cond.methodLink rn_Mo 102 yn_Mo_take ∈ kx_all := kx_4 179 rfl rfl
theorem wd_901 : Cond.instanceMethod yn_Mo_take ∈ kx_all := kx_4 181 rfl rfl
theorem wd_902 : Cond.code yn_Mo_take bc_Mo_take 6 none ∈ kx_all := kx_4 182 rfl rfl
theorem wd_903 : Cond.methodLink rn_Mo 131 yn_Mo_refuse ∈ kx_all := kx_4 183 rfl rfl
theorem wd_905 : Cond.instanceMethod yn_Mo_refuse ∈ kx_all := kx_4 185 rfl rfl
theorem wd_906 : Cond.code yn_Mo_refuse bc_Mo_refuse 2 (some .int) ∈ kx_all := kx_4 186 rfl rfl
theorem wd_907 : Cond.methodLink rn_Mo 146 yn_Mo_make ∈ kx_all := kx_4 187 rfl rfl
theorem wd_909 : Cond.instanceMethod yn_Mo_make ∈ kx_all := kx_4 189 rfl rfl
theorem wd_910 : Cond.code yn_Mo_make bc_Mo_make 3 none ∈ kx_all := kx_4 190 rfl rfl
theorem wd_911 : Cond.methodLink rn_Mo 125 yn_Mo_setAt ∈ kx_all := kx_4 191 rfl rfl
theorem wd_913 : Cond.instanceMethod yn_Mo_setAt ∈ kx_all := kx_4 193 rfl rfl
theorem wd_914 : Cond.code yn_Mo_setAt bc_Mo_setAt 4 (some .int) ∈ kx_all := kx_4 194 rfl rfl
theorem wd_915 : Cond.methodLink rn_Mo 118 yn_Mo_bitOf ∈ kx_all := kx_4 195 rfl rfl
theorem wd_916 : Cond.static yn_Mo_bitOf ∈ kx_all := kx_4 196 rfl rfl
theorem wd_917 : Cond.code yn_Mo_bitOf bc_Mo_bitOf 1 (some .int) ∈ kx_all := kx_4 197 rfl rfl
theorem wd_918 : Cond.methodLink rn_La 57 yn_Mo_proof ∈ kx_all := kx_4 198 rfl rfl
theorem wd_919 : Cond.instanceMethod yn_Mo_proof ∈ kx_all := kx_4 199 rfl rfl
theorem wd_920 : Cond.selects rn_Mo yn_Mo_proof yn_Mo_proof ∈ kx_all := kx_4 200 rfl rfl
theorem wd_921 : Cond.code yn_Mo_proof bc_Mo_proof 4 (some .int) ∈ kx_all := kx_4 201 rfl rfl
theorem wd_922 : Cond.methodLink rn_Mo 153 yn_Mo_readPacked ∈ kx_all := kx_4 202 rfl rfl
theorem wd_924 : Cond.instanceMethod yn_Mo_readPacked ∈ kx_all := kx_4 204 rfl rfl
theorem wd_925 : Cond.code yn_Mo_readPacked bc_Mo_readPacked 2 (some .boolean) ∈ kx_all := kx_4 205 rfl rfl
theorem wd_926 : Cond.methodLink rn_Mo 156 yn_Mo_readProof ∈ kx_all := kx_4 206 rfl rfl
theorem wd_928 : Cond.instanceMethod yn_Mo_readProof ∈ kx_all := kx_4 208 rfl rfl
theorem wd_929 : Cond.code yn_Mo_readProof bc_Mo_readProof 2 (some .boolean) ∈ kx_all := kx_4 209 rfl rfl
theorem wd_930 : Cond.methodLink rn_Mo 162 yn_Mo_first ∈ kx_all := kx_4 210 rfl rfl
theorem wd_932 : Cond.instanceMethod yn_Mo_first ∈ kx_all := kx_4 212 rfl rfl
theorem wd_933 : Cond.code yn_Mo_first bc_Mo_first 2 none ∈ kx_all := kx_4 213 rfl rfl
theorem wd_934 : Cond.methodLink rn_Mo 165 yn_Mo_alike ∈ kx_all := kx_4 214 rfl rfl
theorem wd_936 : Cond.instanceMethod yn_Mo_alike ∈ kx_all := kx_4 216 rfl rfl
theorem wd_937 : Cond.code yn_Mo_alike bc_Mo_alike 3 (some .int) ∈ kx_all := kx_4 217 rfl rfl
theorem wd_938 : Cond.methodLink rn_La 60 yn_Mo_check ∈ kx_all := kx_4 218 rfl rfl
theorem wd_939 : Cond.instanceMethod yn_Mo_check ∈ kx_all := kx_4 219 rfl rfl
theorem wd_940 : Cond.selects rn_Mo yn_Mo_check yn_Mo_check ∈ kx_all := kx_4 220 rfl rfl
theorem wd_941 : Cond.code yn_Mo_check bc_Mo_check 3 (some .int) ∈ kx_all := kx_4 221 rfl rfl
theorem wd_942 : Cond.methodLink rn_Mo 205 yn_Mo_holds ∈ kx_all := kx_4 222 rfl rfl
theorem wd_944 : Cond.instanceMethod yn_Mo_holds ∈ kx_all := kx_4 224 rfl rfl
theorem wd_945 : Cond.code yn_Mo_holds bc_Mo_holds 3 (some .boolean) ∈ kx_all := kx_4 225 rfl rfl
theorem wd_946 : Cond.methodLink rn_Mo 171 yn_Mo_opposite ∈ kx_all := kx_4 226 rfl rfl
theorem wd_947 : Cond.static yn_Mo_opposite ∈ kx_all := kx_4 227 rfl rfl
theorem wd_948 : Cond.code yn_Mo_opposite bc_Mo_opposite 1 (some .int) ∈ kx_all := kx_4 228 rfl rfl
theorem wd_949 : Cond.methodLink rn_Mo 189 yn_Mo_propagate ∈ kx_all := kx_4 229 rfl rfl
theorem wd_951 : Cond.instanceMethod yn_Mo_propagate ∈ kx_all := kx_4 231 rfl rfl
theorem wd_952 : Cond.code yn_Mo_propagate bc_Mo_propagate 2 (some .int) ∈ kx_all := kx_4 232 rfl rfl
theorem wd_953 : Cond.methodLink rn_Mo 180 yn_Mo_next ∈ kx_all := kx_4 233 rfl rfl
theorem wd_955 : Cond.instanceMethod yn_Mo_next ∈ kx_all := kx_4 235 rfl rfl
theorem wd_956 : Cond.code yn_Mo_next bc_Mo_next 3 (some .int) ∈ kx_all := kx_4 236 rfl rfl
theorem wd_957 : Cond.methodLink rn_Mo 174 yn_Mo_open ∈ kx_all := kx_4 237 rfl rfl
theorem wd_959 : Cond.instanceMethod yn_Mo_open ∈ kx_all := kx_4 239 rfl rfl
theorem wd_960 : Cond.code yn_Mo_open bc_Mo_open 2 (some .int) ∈ kx_all := kx_5 0 rfl rfl
theorem wd_961 : Cond.methodLink rn_Mo 177 yn_Mo_bits ∈ kx_all := kx_5 1 rfl rfl
theorem wd_962 : Cond.static yn_Mo_bits ∈ kx_all := kx_5 2 rfl rfl
theorem wd_963 : Cond.code yn_Mo_bits bc_Mo_bits 3 (some .int) ∈ kx_all := kx_5 3 rfl rfl
theorem wd_964 : Cond.methodLink rn_Mo 192 yn_Mo_use ∈ kx_all := kx_5 4 rfl rfl
theorem wd_966 : Cond.instanceMethod yn_Mo_use ∈ kx_all := kx_5 6 rfl rfl
theorem wd_967 : Cond.code yn_Mo_use bc_Mo_use 5 none ∈ kx_all := kx_5 7 rfl rfl
theorem wd_968 : Cond.methodLink rn_Mo 195 yn_Mo_sayUsed ∈ kx_all := kx_5 8 rfl rfl
theorem wd_970 : Cond.instanceMethod yn_Mo_sayUsed ∈ kx_all := kx_5 10 rfl rfl
theorem wd_971 : Cond.code yn_Mo_sayUsed bc_Mo_sayUsed 5 none ∈ kx_all := kx_5 11 rfl rfl
theorem wd_972 : Cond.methodLink rn_Mo 186 yn_Mo_say ∈ kx_all := kx_5 12 rfl rfl
theorem wd_974 : Cond.instanceMethod yn_Mo_say ∈ kx_all := kx_5 14 rfl rfl
theorem wd_975 : Cond.code yn_Mo_say bc_Mo_say 3 none ∈ kx_all := kx_5 15 rfl rfl
theorem wd_976 : Cond.methodLink rn_Mo 199 yn_Mo_partners ∈ kx_all := kx_5 16 rfl rfl
theorem wd_978 : Cond.instanceMethod yn_Mo_partners ∈ kx_all := kx_5 18 rfl rfl
theorem wd_979 : Cond.code yn_Mo_partners bc_Mo_partners 8 (some .boolean) ∈ kx_all := kx_5 19 rfl rfl
theorem wd_980 : Cond.methodLink rn_Mo 202 yn_Mo_markAll ∈ kx_all := kx_5 20 rfl rfl
theorem wd_982 : Cond.instanceMethod yn_Mo_markAll ∈ kx_all := kx_5 22 rfl rfl
theorem wd_983 : Cond.code yn_Mo_markAll bc_Mo_markAll 2 none ∈ kx_all := kx_5 23 rfl rfl
theorem wd_984 : Cond.methodLink rn_La 64 yn_Mo_clauses ∈ kx_all := kx_5 24 rfl rfl
theorem wd_985 : Cond.instanceMethod yn_Mo_clauses ∈ kx_all := kx_5 25 rfl rfl
theorem wd_986 : Cond.selects rn_Mo yn_Mo_clauses yn_Mo_clauses ∈ kx_all := kx_5 26 rfl rfl
theorem wd_987 : Cond.code yn_Mo_clauses bc_Mo_clauses 1 (some .int) ∈ kx_all := kx_5 27 rfl rfl
theorem wd_988 : Cond.methodLink rn_La 69 yn_Mo_size ∈ kx_all := kx_5 28 rfl rfl
theorem wd_989 : Cond.instanceMethod yn_Mo_size ∈ kx_all := kx_5 29 rfl rfl
theorem wd_990 : Cond.selects rn_Mo yn_Mo_size yn_Mo_size ∈ kx_all := kx_5 30 rfl rfl
theorem wd_991 : Cond.code yn_Mo_size bc_Mo_size 2 (some .int) ∈ kx_all := kx_5 31 rfl rfl
theorem wd_992 : Cond.methodLink rn_Mo 208 yn_Mo_isClause ∈ kx_all := kx_5 32 rfl rfl
theorem wd_994 : Cond.instanceMethod yn_Mo_isClause ∈ kx_all := kx_5 34 rfl rfl
theorem wd_995 : Cond.code yn_Mo_isClause bc_Mo_isClause 2 (some .boolean) ∈ kx_all := kx_5 35 rfl rfl
theorem wd_996 : Cond.methodLink rn_La 74 yn_Mo_literal ∈ kx_all := kx_5 36 rfl rfl
theorem wd_997 : Cond.instanceMethod yn_Mo_literal ∈ kx_all := kx_5 37 rfl rfl
theorem wd_998 : Cond.selects rn_Mo yn_Mo_literal yn_Mo_literal ∈ kx_all := kx_5 38 rfl rfl
theorem wd_999 : Cond.code yn_Mo_literal bc_Mo_literal 3 (some .int) ∈ kx_all := kx_5 39 rfl rfl
theorem wd_1000 : Cond.methodLink rn_La 78 yn_Mo_step ∈ kx_all := kx_5 40 rfl rfl
theorem wd_1001 : Cond.instanceMethod yn_Mo_step ∈ kx_all := kx_5 41 rfl rfl
theorem wd_1002 : Cond.selects rn_Mo yn_Mo_step yn_Mo_step ∈ kx_all := kx_5 42 rfl rfl
theorem wd_1003 : Cond.code yn_Mo_step bc_Mo_step 2 (some .int) ∈ kx_all := kx_5 43 rfl rfl
theorem wd_1004 : Cond.methodLink rn_La 83 yn_Mo_marked ∈ kx_all := kx_5 44 rfl rfl
theorem wd_1005 : Cond.instanceMethod yn_Mo_marked ∈ kx_all := kx_5 45 rfl rfl
theorem wd_1006 : Cond.selects rn_Mo yn_Mo_marked yn_Mo_marked ∈ kx_all := kx_5 46 rfl rfl
theorem wd_1007 : Cond.code yn_Mo_marked bc_Mo_marked 2 (some .boolean) ∈ kx_all := kx_5 47 rfl rfl
theorem wd_1008 : Cond.methodLink rn_La 87 yn_Mo_hints ∈ kx_all := kx_5 48 rfl rfl
theorem wd_1009 : Cond.instanceMethod yn_Mo_hints ∈ kx_all := kx_5 49 rfl rfl
theorem wd_1010 : Cond.selects rn_Mo yn_Mo_hints yn_Mo_hints ∈ kx_all := kx_5 50 rfl rfl
theorem wd_1011 : Cond.code yn_Mo_hints bc_Mo_hints 2 (some .int) ∈ kx_all := kx_5 51 rfl rfl
theorem wd_1012 : Cond.methodLink rn_La 91 yn_Mo_hint ∈ kx_all := kx_5 52 rfl rfl
theorem wd_1013 : Cond.instanceMethod yn_Mo_hint ∈ kx_all := kx_5 53 rfl rfl
theorem wd_1014 : Cond.selects rn_Mo yn_Mo_hint yn_Mo_hint ∈ kx_all := kx_5 54 rfl rfl
theorem wd_1015 : Cond.code yn_Mo_hint bc_Mo_hint 3 (some .int) ∈ kx_all := kx_5 55 rfl rfl
theorem wd_1016 : Cond.methodLink rn_Mo 211 yn_Mo_isHint ∈ kx_all := kx_5 56 rfl rfl
theorem wd_1018 : Cond.instanceMethod yn_Mo_isHint ∈ kx_all := kx_5 58 rfl rfl
theorem wd_1019 : Cond.code yn_Mo_isHint bc_Mo_isHint 3 (some .boolean) ∈ kx_all := kx_5 59 rfl rfl
theorem wd_1020 : Cond.methodLink rn_La 96 yn_Mo_poke ∈ kx_all := kx_5 60 rfl rfl
theorem wd_1021 : Cond.instanceMethod yn_Mo_poke ∈ kx_all := kx_5 61 rfl rfl
theorem wd_1022 : Cond.selects rn_Mo yn_Mo_poke yn_Mo_poke ∈ kx_all := kx_5 62 rfl rfl
theorem wd_1023 : Cond.code yn_Mo_poke bc_Mo_poke 4 (some .boolean) ∈ kx_all := kx_5 63 rfl rfl
theorem wd_1024 : Cond.methodLink rn_La 99 yn_Mo_verify ∈ kx_all := kx_5 64 rfl rfl
theorem wd_1025 : Cond.instanceMethod yn_Mo_verify ∈ kx_all := kx_5 65 rfl rfl
theorem wd_1026 : Cond.selects rn_Mo yn_Mo_verify yn_Mo_verify ∈ kx_all := kx_5 66 rfl rfl
theorem wd_1027 : Cond.code yn_Mo_verify bc_Mo_verify 3 (some .int) ∈ kx_all := kx_5 67 rfl rfl
theorem wd_1028 : Cond.methodLink rn_Mo 224 yn_Mo_isGood ∈ kx_all := kx_5 68 rfl rfl
theorem wd_1030 : Cond.instanceMethod yn_Mo_isGood ∈ kx_all := kx_5 70 rfl rfl
theorem wd_1031 : Cond.code yn_Mo_isGood bc_Mo_isGood 3 (some .boolean) ∈ kx_all := kx_5 71 rfl rfl
theorem wd_1032 : Cond.methodLink rn_Mo 218 yn_Mo_positive ∈ kx_all := kx_5 72 rfl rfl
theorem wd_1034 : Cond.instanceMethod yn_Mo_positive ∈ kx_all := kx_5 74 rfl rfl
theorem wd_1035 : Cond.code yn_Mo_positive bc_Mo_positive 5 (some .int) ∈ kx_all := kx_5 75 rfl rfl
theorem wd_1036 : Cond.methodLink rn_Mo 221 yn_Mo_followsPartners ∈ kx_all := kx_5 76 rfl rfl
theorem wd_1038 : Cond.instanceMethod yn_Mo_followsPartners ∈ kx_all := kx_5 78 rfl rfl
theorem wd_1039 : Cond.code yn_Mo_followsPartners bc_Mo_followsPartners 7 (some .boolean) ∈ kx_all := kx_5 79 rfl rfl
theorem wd_1040 : Cond.methodLink rn_La 102 yn_Mo_write ∈ kx_all := kx_5 80 rfl rfl
theorem wd_1041 : Cond.instanceMethod yn_Mo_write ∈ kx_all := kx_5 81 rfl rfl
theorem wd_1042 : Cond.selects rn_Mo yn_Mo_write yn_Mo_write ∈ kx_all := kx_5 82 rfl rfl
theorem wd_1043 : Cond.code yn_Mo_write bc_Mo_write 5 (some .int) ∈ kx_all := kx_5 83 rfl rfl
theorem wd_1044 : Cond.methodLink rn_Mo 230 yn_Mo_put ∈ kx_all := kx_5 84 rfl rfl
theorem wd_1046 : Cond.instanceMethod yn_Mo_put ∈ kx_all := kx_5 86 rfl rfl
theorem wd_1047 : Cond.code yn_Mo_put bc_Mo_put 2 none ∈ kx_all := kx_5 87 rfl rfl
theorem wd_1048 : Cond.methodLink rn_La 106 yn_Mo_written ∈ kx_all := kx_5 88 rfl rfl
theorem wd_1049 : Cond.instanceMethod yn_Mo_written ∈ kx_all := kx_5 89 rfl rfl
theorem wd_1050 : Cond.selects rn_Mo yn_Mo_written yn_Mo_written ∈ kx_all := kx_5 90 rfl rfl
theorem wd_1051 : Cond.code yn_Mo_written bc_Mo_written 2 (some .int) ∈ kx_all := kx_5 91 rfl rfl
theorem wd_1052 : Cond.constantLong rn_La 34 (4294967295 : Int64) ∈ kx_all := kx_5 92 rfl rfl
theorem wd_1053 : Cond.arrayClass .long ∈ kx_all := kx_5 93 rfl rfl
theorem wd_407 : Cond.static Lib.Math.abs.name ∈ kx_all := kx_2 167 rfl rfl
theorem wd_408 : Cond.code Lib.Math.abs.name Lib.Math.abs.code 1 (some .int) ∈ kx_all := kx_2 168 rfl rfl
theorem wd_57 : Cond.static Lib.Math.max.name ∈ kx_all := kx_1 57 rfl rfl
theorem wd_58 : Cond.code Lib.Math.max.name Lib.Math.max.code 2 (some .int) ∈ kx_all := kx_1 58 rfl rfl
theorem wd_5 : Cond.initialized "java/lang/Math" ∈ kx_all := kx_1 5 rfl rfl
theorem in_Pt : ∀ w ∈ u_ws rn_Pt fd_Pt 10, w ∈ kx_all := by
  intro w h
  obtain ⟨k, hk, rfl⟩ := List.mem_map.mp h
  have hk2 := List.mem_range.mp hk
  match k, hk2 with
  | 0, _ => exact wd_194
  | 1, _ => exact wd_196
  | 2, _ => exact wd_198
  | 3, _ => exact wd_200
  | 4, _ => exact wd_202
  | 5, _ => exact wd_204
  | 6, _ => exact wd_206
  | 7, _ => exact wd_208
  | 8, _ => exact wd_210
  | 9, _ => exact wd_212
  | k + 10, h9 => omega
theorem in_Tx : ∀ w ∈ u_ws rn_Tx fd_Tx 2, w ∈ kx_all := by
  intro w h
  obtain ⟨k, hk, rfl⟩ := List.mem_map.mp h
  have hk2 := List.mem_range.mp hk
  match k, hk2 with
  | 0, _ => exact wd_42
  | 1, _ => exact wd_44
  | k + 2, h9 => omega
theorem in_Wd : ∀ w ∈ u_ws rn_Wd fd_Wd 3, w ∈ kx_all := by
  intro w h
  obtain ⟨k, hk, rfl⟩ := List.mem_map.mp h
  have hk2 := List.mem_range.mp hk
  match k, hk2 with
  | 0, _ => exact wd_320
  | 1, _ => exact wd_322
  | 2, _ => exact wd_324
  | k + 3, h9 => omega
theorem in_Cl : ∀ w ∈ u_ws rn_Cl fd_Cl 4, w ∈ kx_all := by
  intro w h
  obtain ⟨k, hk, rfl⟩ := List.mem_map.mp h
  have hk2 := List.mem_range.mp hk
  match k, hk2 with
  | 0, _ => exact wd_78
  | 1, _ => exact wd_80
  | 2, _ => exact wd_82
  | 3, _ => exact wd_84
  | k + 4, h9 => omega
theorem in_Dr : ∀ w ∈ u_ws rn_Dr fd_Dr 2, w ∈ kx_all := by
  intro w h
  obtain ⟨k, hk, rfl⟩ := List.mem_map.mp h
  have hk2 := List.mem_range.mp hk
  match k, hk2 with
  | 0, _ => exact wd_92
  | 1, _ => exact wd_94
  | k + 2, h9 => omega
theorem in_Sp : ∀ w ∈ u_ws rn_Sp fd_Sp 4, w ∈ kx_all := by
  intro w h
  obtain ⟨k, hk, rfl⟩ := List.mem_map.mp h
  have hk2 := List.mem_range.mp hk
  match k, hk2 with
  | 0, _ => exact wd_120
  | 1, _ => exact wd_122
  | 2, _ => exact wd_124
  | 3, _ => exact wd_126
  | k + 4, h9 => omega
theorem in_Tr : ∀ w ∈ u_ws rn_Tr fd_Tr 6, w ∈ kx_all := by
  intro w h
  obtain ⟨k, hk, rfl⟩ := List.mem_map.mp h
  have hk2 := List.mem_range.mp hk
  match k, hk2 with
  | 0, _ => exact wd_145
  | 1, _ => exact wd_147
  | 2, _ => exact wd_149
  | 3, _ => exact wd_151
  | 4, _ => exact wd_153
  | 5, _ => exact wd_155
  | k + 6, h9 => omega
theorem in_As : ∀ w ∈ u_ws rn_As fd_As 5, w ∈ kx_all := by
  intro w h
  obtain ⟨k, hk, rfl⟩ := List.mem_map.mp h
  have hk2 := List.mem_range.mp hk
  match k, hk2 with
  | 0, _ => exact wd_173
  | 1, _ => exact wd_175
  | 2, _ => exact wd_177
  | 3, _ => exact wd_179
  | 4, _ => exact wd_181
  | k + 5, h9 => omega
theorem in_Ck : ∀ w ∈ u_ws rn_Ck fd_Ck 5, w ∈ kx_all := by
  intro w h
  obtain ⟨k, hk, rfl⟩ := List.mem_map.mp h
  have hk2 := List.mem_range.mp hk
  match k, hk2 with
  | 0, _ => exact wd_581
  | 1, _ => exact wd_583
  | 2, _ => exact wd_585
  | 3, _ => exact wd_587
  | 4, _ => exact wd_589
  | k + 5, h9 => omega
theorem in_Vf : ∀ w ∈ u_ws rn_Vf fd_Vf 7, w ∈ kx_all := by
  intro w h
  obtain ⟨k, hk, rfl⟩ := List.mem_map.mp h
  have hk2 := List.mem_range.mp hk
  match k, hk2 with
  | 0, _ => exact wd_684
  | 1, _ => exact wd_686
  | 2, _ => exact wd_688
  | 3, _ => exact wd_690
  | 4, _ => exact wd_692
  | 5, _ => exact wd_694
  | 6, _ => exact wd_696
  | k + 7, h9 => omega
theorem in_Mo : ∀ w ∈ u_ws rn_Mo fd_Mo 36, w ∈ kx_all := by
  intro w h
  obtain ⟨k, hk, rfl⟩ := List.mem_map.mp h
  have hk2 := List.mem_range.mp hk
  match k, hk2 with
  | 0, _ => exact wd_782
  | 1, _ => exact wd_784
  | 2, _ => exact wd_786
  | 3, _ => exact wd_788
  | 4, _ => exact wd_790
  | 5, _ => exact wd_792
  | 6, _ => exact wd_794
  | 7, _ => exact wd_796
  | 8, _ => exact wd_798
  | 9, _ => exact wd_800
  | 10, _ => exact wd_802
  | 11, _ => exact wd_804
  | 12, _ => exact wd_806
  | 13, _ => exact wd_808
  | 14, _ => exact wd_810
  | 15, _ => exact wd_812
  | 16, _ => exact wd_814
  | 17, _ => exact wd_816
  | 18, _ => exact wd_818
  | 19, _ => exact wd_820
  | 20, _ => exact wd_822
  | 21, _ => exact wd_824
  | 22, _ => exact wd_826
  | 23, _ => exact wd_828
  | 24, _ => exact wd_830
  | 25, _ => exact wd_832
  | 26, _ => exact wd_834
  | 27, _ => exact wd_836
  | 28, _ => exact wd_838
  | 29, _ => exact wd_840
  | 30, _ => exact wd_842
  | 31, _ => exact wd_844
  | 32, _ => exact wd_846
  | 33, _ => exact wd_848
  | 34, _ => exact wd_850
  | 35, _ => exact wd_852
  | k + 36, h9 => omega
end
section
/-! worlds: cells by kind; what the tables say; the form of a contract -/
def kc_l : List vw_C := [(rn_Tx, fd_Tx, 2), (rn_Wd, fd_Wd, 3), (rn_Cl, fd_Cl, 4), (rn_Dr, fd_Dr, 2), (rn_Sp, fd_Sp, 4), (rn_Tr, fd_Tr, 6), (rn_As, fd_As, 5), (rn_Ck, fd_Ck, 5), (rn_Vf, fd_Vf, 7), (rn_Pt, fd_Pt, 10), (rn_Mo, fd_Mo, 36)]
abbrev tx_c (o : Nat) (x0 : Nat) (x1 : Nat) : Nat × va_E := (o, .inr (0, [.ref x0, .int (nI x1)]))
abbrev wo_c (o : Nat) (x0 : Nat) (x1 : Nat) (x2 : Nat) : Nat × va_E := (o, .inr (1, [.ref x0, .int (nI x1), .int (nI x2)]))
abbrev cl_c (o : Nat) (x0 : Nat) (x1 : Nat) (x2 : Nat) (x3 : Nat) : Nat × va_E := (o, .inr (2, [.ref x0, .ref x1, .ref x2, .int (nI x3)]))
abbrev dr_c (o : Nat) (x0 : Nat) (x1 : Nat) : Nat × va_E := (o, .inr (3, [.ref x0, .ref x1]))
abbrev sp_c (o : Nat) (x0 : Nat) (x1 : Nat) (x2 : Nat) (x3 : Bool) : Nat × va_E := (o, .inr (4, [.ref x0, .ref x1, .int (nI x2), .int (kb_i x3)]))
abbrev tr_c (o : Nat) (x0 : Nat) (x1 : Nat) (x2 : Nat) (x3 : Nat) (x4 : Nat) (x5 : Bool) : Nat × va_E := (o, .inr (5, [.ref x0, .ref x1, .ref x2, .int (nI x3), .long (lN x4), .int (kb_i x5)]))
abbrev as_c (o : Nat) (x0 : Nat) (x1 : Nat) (x2 : Nat) (x3 : Nat) (x4 : Nat) : Nat × va_E := (o, .inr (6, [.ref x0, .ref x1, .int (nI x2), .int (nI x3), .int (nI x4)]))
abbrev ck_c (o : Nat) (x0 : Nat) (x1 : Nat) (x2 : Nat) (x3 : Nat) (x4 : Nat) : Nat × va_E := (o, .inr (7, [.ref x0, .ref x1, .ref x2, .ref x3, .long (lN x4)]))
abbrev vf_c (o : Nat) (x0 : Nat) (x1 : Nat) (x2 : Nat) (x3 : Nat) (x4 : Nat) (x5 : Nat) (x6 : Bool) : Nat × va_E := (o, .inr (8, [.ref x0, .ref x1, .ref x2, .ref x3, .long (lN x4), .int (nI x5), .int (kb_i x6)]))
abbrev pt_c (o : Nat) (x0 : Nat) (x1 : Nat) (x2 : Nat) (x3 : Nat) (x4 : Nat) (x5 : Nat) (x6 : Nat) (x7 : Bool) (x8 : Bool) (x9 : Nat) : Nat × va_E := (o, .inr (9, [.ref x0, .ref x1, .ref x2, .ref x3, .ref x4, .ref x5, .ref x6, .int (kb_i x7), .int (kb_i x8), .int (nI x9)]))
abbrev mo_c (o : Nat) (x0 : Nat) (x1 : Nat) (x2 : Nat) (x3 : Nat) (x4 : Nat) (x5 : Nat) (x6 : Bool) (x7 : Nat) (x8 : Nat) (x9 : Nat) (x10 : Nat) (x11 : Bool) (x12 : Bool) (x13 : Bool) (x14 : Bool) (x15 : Nat) (x16 : Nat) (x17 : Nat) (x18 : Nat) (x19 : Nat) (x20 : Nat) (x21 : Nat) (x22 : Nat) (x23 : Nat) (x24 : Nat) (x25 : Nat) (x26 : Nat) (x27 : Nat) (x28 : Nat) (x29 : Nat) (x30 : Nat) (x31 : Nat) (x32 : Nat) (x33 : Nat) (x34 : Nat) (x35 : Nat) : Nat × va_E := (o, .inr (10, [.int (nI x0), .int (nI x1), .ref x2, .int (nI x3), .int (nI x4), .int (nI x5), .int (kb_i x6), .int (nI x7), .ref x8, .ref x9, .ref x10, .int (kb_i x11), .int (kb_i x12), .int (kb_i x13), .int (kb_i x14), .int (nI x15), .int (nI x16), .ref x17, .ref x18, .ref x19, .ref x20, .ref x21, .int (nI x22), .ref x23, .ref x24, .ref x25, .ref x26, .int (nI x27), .int (nI x28), .ref x29, .ref x30, .ref x31, .ref x32, .int (nI x33), .ref x34, .int (nI x35)]))
def kx_nf : List (String × Nat × String × String × String) := [(rn_Pt, 56, "ProofTrimmer$Text", "length", "I"), (rn_Dr, 60, "ProofTrimmer$Text", "length", "I"), (rn_Wd, 48, "ProofTrimmer$Text", "length", "I"), (rn_Vf, 92, "ProofTrimmer$Clauses", "sizes", "[I"), (rn_Ck, 95, "ProofTrimmer$Clauses", "sizes", "[I"), (rn_Sp, 60, "ProofTrimmer$Clauses", "sizes", "[I"), (rn_Pt, 164, "ProofTrimmer$Clauses", "sizes", "[I"), (rn_Vf, 70, "ProofTrimmer$Clauses", "sets", "[I"), (rn_Ck, 74, "ProofTrimmer$Clauses", "sets", "[I"), (rn_Sp, 44, "ProofTrimmer$Clauses", "sets", "[I"), (rn_Ck, 37, "ProofTrimmer$Clauses", "count", "I"), (rn_Sp, 30, "ProofTrimmer$Clauses", "count", "I"), (rn_Vf, 111, "ProofTrimmer$Clauses", "count", "I"), (rn_Pt, 88, "ProofTrimmer$Clauses", "count", "I"), (rn_Sp, 37, "ProofTrimmer$Draft", "rows", "LProofTrimmer$Clauses;"), (rn_Pt, 85, "ProofTrimmer$Draft", "rows", "LProofTrimmer$Clauses;"), (rn_Sp, 43, "ProofTrimmer$Draft", "deleting", "[Z"), (rn_Vf, 45, "ProofTrimmer$Steps", "deleting", "[Z"), (rn_Ck, 56, "ProofTrimmer$Steps", "deleting", "[Z"), (rn_Pt, 198, "ProofTrimmer$Steps", "deleting", "[Z"), (rn_Vf, 41, "ProofTrimmer$Steps", "numbers", "[I"), (rn_Ck, 52, "ProofTrimmer$Steps", "numbers", "[I"), (rn_Pt, 173, "ProofTrimmer$Steps", "numbers", "[I"), (rn_Vf, 35, "ProofTrimmer$Steps", "count", "I"), (rn_Ck, 51, "ProofTrimmer$Steps", "count", "I"), (rn_Pt, 172, "ProofTrimmer$Steps", "count", "I"), (rn_Pt, 129, "ProofTrimmer$Steps", "open", "Z"), (rn_Ck, 46, "ProofTrimmer$Trace", "markedOnes", "J"), (rn_Vf, 54, "ProofTrimmer$Trace", "markedOnes", "J"), (rn_Pt, 144, "ProofTrimmer$Trace", "markedOnes", "J"), (rn_Pt, 141, "ProofTrimmer$Trace", "checked", "Z"), (rn_Ck, 105, "ProofTrimmer$Assignment", "reasons", "[I"), (rn_Ck, 104, "ProofTrimmer$Assignment", "count", "I"), (rn_Ck, 101, "ProofTrimmer$Assignment", "truths", "I"), (rn_Vf, 101, "ProofTrimmer$Assignment", "truths", "I")]
def kx_nm : List (String × Nat × MethodName) := [(rn_Cl, 35, yn_Pt_only), (rn_Sp, 33, yn_Pt_firstOnes), (rn_Cl, 49, yn_Pt_contains), (rn_Sp, 51, yn_Pt_one), (rn_Ck, 43, yn_Pt_one), (rn_Ck, 62, yn_Pt_contains), (rn_Ck, 77, yn_Pt_opposites), (rn_As, 22, yn_Pt_opposites), (rn_As, 32, yn_Pt_one), (rn_Ck, 115, yn_Pt_only), (rn_Vf, 25, yn_Pt_firstOnes), (rn_Vf, 49, yn_Pt_one), (rn_Vf, 59, yn_Pt_contains), (rn_Vf, 75, yn_Pt_opposites), (rn_Vf, 108, yn_Pt_only)]
/-- the links between nest mates -/
def kx_N (U : State) : Prop := (∀ q ∈ kx_nf, va_Nw (.fieldLinkNest q.1 q.2.1 q.2.2.1 q.2.2.2.1 q.2.2.2.2 rn_Pt) U) ∧ ∀ q ∈ kx_nm, va_Nw (.methodLinkNest q.1 q.2.1 q.2.2 rn_Pt) U
theorem kx_N.same {u U : State} (h : u.vm = U.vm) (hN : kx_N u) : kx_N U := ⟨fun q hq => va_Nw.same rfl h (hN.1 q hq), fun q hq => va_Nw.same rfl h (hN.2 q hq)⟩
theorem kx_N.warm {s U : State} (h : s.WarmedH U.vm) (hN : kx_N s) : kx_N U := ⟨fun q hq => va_Nw.warmF h (hN.1 q hq), fun q hq => va_Nw.warmM h (hN.2 q hq)⟩
theorem nf_39 {args : Array Value} {s : State} (h : kx_N s) : (Cond.fieldLinkNest rn_Pt 56 "ProofTrimmer$Text" "length" "I" rn_Pt).before args s = true := va_Nw.use rfl (h.1 (rn_Pt, 56, "ProofTrimmer$Text", "length", "I") (List.mem_of_getElem? (i := 0) rfl))
theorem nf_40 {args : Array Value} {s : State} (h : kx_N s) : (Cond.fieldLinkNest rn_Dr 60 "ProofTrimmer$Text" "length" "I" rn_Pt).before args s = true := va_Nw.use rfl (h.1 (rn_Dr, 60, "ProofTrimmer$Text", "length", "I") (List.mem_of_getElem? (i := 1) rfl))
theorem nf_41 {args : Array Value} {s : State} (h : kx_N s) : (Cond.fieldLinkNest rn_Wd 48 "ProofTrimmer$Text" "length" "I" rn_Pt).before args s = true := va_Nw.use rfl (h.1 (rn_Wd, 48, "ProofTrimmer$Text", "length", "I") (List.mem_of_getElem? (i := 2) rfl))
theorem nf_64 {args : Array Value} {s : State} (h : kx_N s) : (Cond.fieldLinkNest rn_Vf 92 "ProofTrimmer$Clauses" "sizes" "[I" rn_Pt).before args s = true := va_Nw.use rfl (h.1 (rn_Vf, 92, "ProofTrimmer$Clauses", "sizes", "[I") (List.mem_of_getElem? (i := 3) rfl))
theorem nf_65 {args : Array Value} {s : State} (h : kx_N s) : (Cond.fieldLinkNest rn_Ck 95 "ProofTrimmer$Clauses" "sizes" "[I" rn_Pt).before args s = true := va_Nw.use rfl (h.1 (rn_Ck, 95, "ProofTrimmer$Clauses", "sizes", "[I") (List.mem_of_getElem? (i := 4) rfl))
theorem nf_66 {args : Array Value} {s : State} (h : kx_N s) : (Cond.fieldLinkNest rn_Sp 60 "ProofTrimmer$Clauses" "sizes" "[I" rn_Pt).before args s = true := va_Nw.use rfl (h.1 (rn_Sp, 60, "ProofTrimmer$Clauses", "sizes", "[I") (List.mem_of_getElem? (i := 5) rfl))
theorem nf_67 {args : Array Value} {s : State} (h : kx_N s) : (Cond.fieldLinkNest rn_Pt 164 "ProofTrimmer$Clauses" "sizes" "[I" rn_Pt).before args s = true := va_Nw.use rfl (h.1 (rn_Pt, 164, "ProofTrimmer$Clauses", "sizes", "[I") (List.mem_of_getElem? (i := 6) rfl))
theorem nf_69 {args : Array Value} {s : State} (h : kx_N s) : (Cond.fieldLinkNest rn_Vf 70 "ProofTrimmer$Clauses" "sets" "[I" rn_Pt).before args s = true := va_Nw.use rfl (h.1 (rn_Vf, 70, "ProofTrimmer$Clauses", "sets", "[I") (List.mem_of_getElem? (i := 7) rfl))
theorem nf_70 {args : Array Value} {s : State} (h : kx_N s) : (Cond.fieldLinkNest rn_Ck 74 "ProofTrimmer$Clauses" "sets" "[I" rn_Pt).before args s = true := va_Nw.use rfl (h.1 (rn_Ck, 74, "ProofTrimmer$Clauses", "sets", "[I") (List.mem_of_getElem? (i := 8) rfl))
theorem nf_71 {args : Array Value} {s : State} (h : kx_N s) : (Cond.fieldLinkNest rn_Sp 44 "ProofTrimmer$Clauses" "sets" "[I" rn_Pt).before args s = true := va_Nw.use rfl (h.1 (rn_Sp, 44, "ProofTrimmer$Clauses", "sets", "[I") (List.mem_of_getElem? (i := 9) rfl))
theorem nf_74 {args : Array Value} {s : State} (h : kx_N s) : (Cond.fieldLinkNest rn_Ck 37 "ProofTrimmer$Clauses" "count" "I" rn_Pt).before args s = true := va_Nw.use rfl (h.1 (rn_Ck, 37, "ProofTrimmer$Clauses", "count", "I") (List.mem_of_getElem? (i := 10) rfl))
theorem nf_75 {args : Array Value} {s : State} (h : kx_N s) : (Cond.fieldLinkNest rn_Sp 30 "ProofTrimmer$Clauses" "count" "I" rn_Pt).before args s = true := va_Nw.use rfl (h.1 (rn_Sp, 30, "ProofTrimmer$Clauses", "count", "I") (List.mem_of_getElem? (i := 11) rfl))
theorem nf_76 {args : Array Value} {s : State} (h : kx_N s) : (Cond.fieldLinkNest rn_Vf 111 "ProofTrimmer$Clauses" "count" "I" rn_Pt).before args s = true := va_Nw.use rfl (h.1 (rn_Vf, 111, "ProofTrimmer$Clauses", "count", "I") (List.mem_of_getElem? (i := 12) rfl))
theorem nf_77 {args : Array Value} {s : State} (h : kx_N s) : (Cond.fieldLinkNest rn_Pt 88 "ProofTrimmer$Clauses" "count" "I" rn_Pt).before args s = true := va_Nw.use rfl (h.1 (rn_Pt, 88, "ProofTrimmer$Clauses", "count", "I") (List.mem_of_getElem? (i := 13) rfl))
theorem nf_88 {args : Array Value} {s : State} (h : kx_N s) : (Cond.fieldLinkNest rn_Sp 37 "ProofTrimmer$Draft" "rows" "LProofTrimmer$Clauses;" rn_Pt).before args s = true := va_Nw.use rfl (h.1 (rn_Sp, 37, "ProofTrimmer$Draft", "rows", "LProofTrimmer$Clauses;") (List.mem_of_getElem? (i := 14) rfl))
theorem nf_89 {args : Array Value} {s : State} (h : kx_N s) : (Cond.fieldLinkNest rn_Pt 85 "ProofTrimmer$Draft" "rows" "LProofTrimmer$Clauses;" rn_Pt).before args s = true := va_Nw.use rfl (h.1 (rn_Pt, 85, "ProofTrimmer$Draft", "rows", "LProofTrimmer$Clauses;") (List.mem_of_getElem? (i := 15) rfl))
theorem nf_91 {args : Array Value} {s : State} (h : kx_N s) : (Cond.fieldLinkNest rn_Sp 43 "ProofTrimmer$Draft" "deleting" "[Z" rn_Pt).before args s = true := va_Nw.use rfl (h.1 (rn_Sp, 43, "ProofTrimmer$Draft", "deleting", "[Z") (List.mem_of_getElem? (i := 16) rfl))
theorem nf_107 {args : Array Value} {s : State} (h : kx_N s) : (Cond.fieldLinkNest rn_Vf 45 "ProofTrimmer$Steps" "deleting" "[Z" rn_Pt).before args s = true := va_Nw.use rfl (h.1 (rn_Vf, 45, "ProofTrimmer$Steps", "deleting", "[Z") (List.mem_of_getElem? (i := 17) rfl))
theorem nf_108 {args : Array Value} {s : State} (h : kx_N s) : (Cond.fieldLinkNest rn_Ck 56 "ProofTrimmer$Steps" "deleting" "[Z" rn_Pt).before args s = true := va_Nw.use rfl (h.1 (rn_Ck, 56, "ProofTrimmer$Steps", "deleting", "[Z") (List.mem_of_getElem? (i := 18) rfl))
theorem nf_109 {args : Array Value} {s : State} (h : kx_N s) : (Cond.fieldLinkNest rn_Pt 198 "ProofTrimmer$Steps" "deleting" "[Z" rn_Pt).before args s = true := va_Nw.use rfl (h.1 (rn_Pt, 198, "ProofTrimmer$Steps", "deleting", "[Z") (List.mem_of_getElem? (i := 19) rfl))
theorem nf_111 {args : Array Value} {s : State} (h : kx_N s) : (Cond.fieldLinkNest rn_Vf 41 "ProofTrimmer$Steps" "numbers" "[I" rn_Pt).before args s = true := va_Nw.use rfl (h.1 (rn_Vf, 41, "ProofTrimmer$Steps", "numbers", "[I") (List.mem_of_getElem? (i := 20) rfl))
theorem nf_112 {args : Array Value} {s : State} (h : kx_N s) : (Cond.fieldLinkNest rn_Ck 52 "ProofTrimmer$Steps" "numbers" "[I" rn_Pt).before args s = true := va_Nw.use rfl (h.1 (rn_Ck, 52, "ProofTrimmer$Steps", "numbers", "[I") (List.mem_of_getElem? (i := 21) rfl))
theorem nf_113 {args : Array Value} {s : State} (h : kx_N s) : (Cond.fieldLinkNest rn_Pt 173 "ProofTrimmer$Steps" "numbers" "[I" rn_Pt).before args s = true := va_Nw.use rfl (h.1 (rn_Pt, 173, "ProofTrimmer$Steps", "numbers", "[I") (List.mem_of_getElem? (i := 22) rfl))
theorem nf_115 {args : Array Value} {s : State} (h : kx_N s) : (Cond.fieldLinkNest rn_Vf 35 "ProofTrimmer$Steps" "count" "I" rn_Pt).before args s = true := va_Nw.use rfl (h.1 (rn_Vf, 35, "ProofTrimmer$Steps", "count", "I") (List.mem_of_getElem? (i := 23) rfl))
theorem nf_116 {args : Array Value} {s : State} (h : kx_N s) : (Cond.fieldLinkNest rn_Ck 51 "ProofTrimmer$Steps" "count" "I" rn_Pt).before args s = true := va_Nw.use rfl (h.1 (rn_Ck, 51, "ProofTrimmer$Steps", "count", "I") (List.mem_of_getElem? (i := 24) rfl))
theorem nf_117 {args : Array Value} {s : State} (h : kx_N s) : (Cond.fieldLinkNest rn_Pt 172 "ProofTrimmer$Steps" "count" "I" rn_Pt).before args s = true := va_Nw.use rfl (h.1 (rn_Pt, 172, "ProofTrimmer$Steps", "count", "I") (List.mem_of_getElem? (i := 25) rfl))
theorem nf_119 {args : Array Value} {s : State} (h : kx_N s) : (Cond.fieldLinkNest rn_Pt 129 "ProofTrimmer$Steps" "open" "Z" rn_Pt).before args s = true := va_Nw.use rfl (h.1 (rn_Pt, 129, "ProofTrimmer$Steps", "open", "Z") (List.mem_of_getElem? (i := 26) rfl))
theorem nf_140 {args : Array Value} {s : State} (h : kx_N s) : (Cond.fieldLinkNest rn_Ck 46 "ProofTrimmer$Trace" "markedOnes" "J" rn_Pt).before args s = true := va_Nw.use rfl (h.1 (rn_Ck, 46, "ProofTrimmer$Trace", "markedOnes", "J") (List.mem_of_getElem? (i := 27) rfl))
theorem nf_141 {args : Array Value} {s : State} (h : kx_N s) : (Cond.fieldLinkNest rn_Vf 54 "ProofTrimmer$Trace" "markedOnes" "J" rn_Pt).before args s = true := va_Nw.use rfl (h.1 (rn_Vf, 54, "ProofTrimmer$Trace", "markedOnes", "J") (List.mem_of_getElem? (i := 28) rfl))
theorem nf_142 {args : Array Value} {s : State} (h : kx_N s) : (Cond.fieldLinkNest rn_Pt 144 "ProofTrimmer$Trace" "markedOnes" "J" rn_Pt).before args s = true := va_Nw.use rfl (h.1 (rn_Pt, 144, "ProofTrimmer$Trace", "markedOnes", "J") (List.mem_of_getElem? (i := 29) rfl))
theorem nf_144 {args : Array Value} {s : State} (h : kx_N s) : (Cond.fieldLinkNest rn_Pt 141 "ProofTrimmer$Trace" "checked" "Z" rn_Pt).before args s = true := va_Nw.use rfl (h.1 (rn_Pt, 141, "ProofTrimmer$Trace", "checked", "Z") (List.mem_of_getElem? (i := 30) rfl))
theorem nf_165 {args : Array Value} {s : State} (h : kx_N s) : (Cond.fieldLinkNest rn_Ck 105 "ProofTrimmer$Assignment" "reasons" "[I" rn_Pt).before args s = true := va_Nw.use rfl (h.1 (rn_Ck, 105, "ProofTrimmer$Assignment", "reasons", "[I") (List.mem_of_getElem? (i := 31) rfl))
theorem nf_168 {args : Array Value} {s : State} (h : kx_N s) : (Cond.fieldLinkNest rn_Ck 104 "ProofTrimmer$Assignment" "count" "I" rn_Pt).before args s = true := va_Nw.use rfl (h.1 (rn_Ck, 104, "ProofTrimmer$Assignment", "count", "I") (List.mem_of_getElem? (i := 32) rfl))
theorem nf_170 {args : Array Value} {s : State} (h : kx_N s) : (Cond.fieldLinkNest rn_Ck 101 "ProofTrimmer$Assignment" "truths" "I" rn_Pt).before args s = true := va_Nw.use rfl (h.1 (rn_Ck, 101, "ProofTrimmer$Assignment", "truths", "I") (List.mem_of_getElem? (i := 33) rfl))
theorem nf_171 {args : Array Value} {s : State} (h : kx_N s) : (Cond.fieldLinkNest rn_Vf 101 "ProofTrimmer$Assignment" "truths" "I" rn_Pt).before args s = true := va_Nw.use rfl (h.1 (rn_Vf, 101, "ProofTrimmer$Assignment", "truths", "I") (List.mem_of_getElem? (i := 34) rfl))
theorem nw_414 {s : State} (h : kx_N s) : va_Nw (.methodLinkNest rn_Cl 35 yn_Pt_only rn_Pt) s := h.2 (rn_Cl, 35, yn_Pt_only) (List.mem_of_getElem? (i := 0) rfl)
theorem nw_548 {s : State} (h : kx_N s) : va_Nw (.methodLinkNest rn_Sp 33 yn_Pt_firstOnes rn_Pt) s := h.2 (rn_Sp, 33, yn_Pt_firstOnes) (List.mem_of_getElem? (i := 1) rfl)
theorem nw_556 {s : State} (h : kx_N s) : va_Nw (.methodLinkNest rn_Cl 49 yn_Pt_contains rn_Pt) s := h.2 (rn_Cl, 49, yn_Pt_contains) (List.mem_of_getElem? (i := 2) rfl)
theorem nw_557 {s : State} (h : kx_N s) : va_Nw (.methodLinkNest rn_Sp 51 yn_Pt_one rn_Pt) s := h.2 (rn_Sp, 51, yn_Pt_one) (List.mem_of_getElem? (i := 3) rfl)
theorem nw_600 {s : State} (h : kx_N s) : va_Nw (.methodLinkNest rn_Ck 43 yn_Pt_one rn_Pt) s := h.2 (rn_Ck, 43, yn_Pt_one) (List.mem_of_getElem? (i := 4) rfl)
theorem nw_602 {s : State} (h : kx_N s) : va_Nw (.methodLinkNest rn_Ck 62 yn_Pt_contains rn_Pt) s := h.2 (rn_Ck, 62, yn_Pt_contains) (List.mem_of_getElem? (i := 5) rfl)
theorem nw_611 {s : State} (h : kx_N s) : va_Nw (.methodLinkNest rn_Ck 77 yn_Pt_opposites rn_Pt) s := h.2 (rn_Ck, 77, yn_Pt_opposites) (List.mem_of_getElem? (i := 6) rfl)
theorem nw_619 {s : State} (h : kx_N s) : va_Nw (.methodLinkNest rn_As 22 yn_Pt_opposites rn_Pt) s := h.2 (rn_As, 22, yn_Pt_opposites) (List.mem_of_getElem? (i := 7) rfl)
theorem nw_644 {s : State} (h : kx_N s) : va_Nw (.methodLinkNest rn_As 32 yn_Pt_one rn_Pt) s := h.2 (rn_As, 32, yn_Pt_one) (List.mem_of_getElem? (i := 8) rfl)
theorem nw_654 {s : State} (h : kx_N s) : va_Nw (.methodLinkNest rn_Ck 115 yn_Pt_only rn_Pt) s := h.2 (rn_Ck, 115, yn_Pt_only) (List.mem_of_getElem? (i := 9) rfl)
theorem nw_703 {s : State} (h : kx_N s) : va_Nw (.methodLinkNest rn_Vf 25 yn_Pt_firstOnes rn_Pt) s := h.2 (rn_Vf, 25, yn_Pt_firstOnes) (List.mem_of_getElem? (i := 10) rfl)
theorem nw_704 {s : State} (h : kx_N s) : va_Nw (.methodLinkNest rn_Vf 49 yn_Pt_one rn_Pt) s := h.2 (rn_Vf, 49, yn_Pt_one) (List.mem_of_getElem? (i := 11) rfl)
theorem nw_706 {s : State} (h : kx_N s) : va_Nw (.methodLinkNest rn_Vf 59 yn_Pt_contains rn_Pt) s := h.2 (rn_Vf, 59, yn_Pt_contains) (List.mem_of_getElem? (i := 12) rfl)
theorem nw_711 {s : State} (h : kx_N s) : va_Nw (.methodLinkNest rn_Vf 75 yn_Pt_opposites rn_Pt) s := h.2 (rn_Vf, 75, yn_Pt_opposites) (List.mem_of_getElem? (i := 13) rfl)
theorem nw_727 {s : State} (h : kx_N s) : va_Nw (.methodLinkNest rn_Vf 108 yn_Pt_only rn_Pt) s := h.2 (rn_Vf, 108, yn_Pt_only) (List.mem_of_getElem? (i := 14) rfl)
/-- a contract's start: the arguments, the heap's size, the world -/
def kp (av : List Value) (D : va_G) (cI cZ : ClassId) (ws : va_W) (sz : Nat) : Array Value → State → Prop :=
  va_Pc av (fun U => U.heap.size = sz ∧ va_P D kc_l ws U.heap ∧ va_K D kc_l [(cI, .int), (cZ, .boolean)] U ∧ va_D (fun _ => True) ws ∧ kx_N U)
theorem kp_blind {av : List Value} {D : va_G} {cI cZ : ClassId} {ws : va_W} {sz : Nat} : FrameBlind (kp av D cI cZ ws sz) := fun a U g mk q => by
  obtain ⟨q0, q1, qP, qK, qD, qN⟩ := q
  exact ⟨q0, q1, qP, va_K.moved (u := U) (U := U.calling g mk a) (Vm.Alike.refl U.vm) qK, qD, kx_N.same (u := U) (U := U.calling g mk a) rfl qN⟩
section KP
variable {s : State} {H : Heap} {D : va_G} {cI cZ : ClassId} {ws wc : va_W} {A : Nat → Prop} {tys : List (ClassId × FieldType)}
theorem kp_S {av : List Value} (hP : va_P D kc_l ws H) (hD : va_D A ws) (hK : va_K D kc_l [(cI, .int), (cZ, .boolean)] s) (hN : kx_N s) (is : List Nat) (hs : is.map (fun i => ws[i]?) = wc.map some) (hn : va_nd is = true) : PreS s H (kp av D cI cZ wc H.size) av :=
  ⟨kp_blind, fun U hU hW => ⟨rfl, by rw [hU], by rw [hU]; exact hP.sub is (kx_map hs), va_K.moved hW.alike hK, (hD.sub is hn hs).weaken (fun _ _ _ _ => trivial), hN.warm hW⟩⟩
theorem kp_V {b q0 ci : Nat} {q : vw_C} {fs : List Value} {C : String} {As : List Value} (hP : va_P D kc_l ws H) (hD : va_D A ws) (hK : va_K D kc_l [(cI, .int), (cZ, .boolean)] s) (hN : kx_N s) (is : List Nat) (hs : is.map (fun i => ws[i]?) = wc.map some) (hn : va_nd is = true) (hc : kc_l[ci]? = some q) (hC : q.1 = C) (he : ws[q0]? = some (b, .inr (ci, fs))) : PreV s H C b (kp (.ref b :: As) D cI cZ wc H.size) As :=
  ⟨kp_blind, by rw [← hC]; exact va_recv hK hP hc he, (kp_S hP hD hK hN is hs hn).2⟩
end KP
theorem kx_gi {w : Cond} (h : w ∈ kx_all) : GoodIn kx_all (w :: kx_all) := fun x hx => (List.mem_cons.mp hx).elim (fun e => by rw [e]; exact kx_good w h) (fun h => kx_good x h)
theorem kx_gV {own C : String} {i : Nat} {y : MethodName} {w : Cond} (h1 : Cond.methodLink own i y ∈ kx_all) (h2 : Cond.instanceMethod y ∈ kx_all) (h3 : Cond.selects C y y ∈ kx_all) (h4 : Cond.initialized C ∈ kx_all) (h5 : w ∈ kx_all) : GoodIn kx_all (wsV own i C y (w :: kx_all)) := by
  intro x hx
  rcases List.mem_append.mp hx with h | h
  · rcases List.mem_cons.mp h with rfl | h
    · exact kx_good _ h1
    · rcases List.mem_cons.mp h with rfl | h
      · exact kx_good _ h2
      · rcases List.mem_cons.mp h with rfl | h
        · exact kx_good _ h3
        · rcases List.mem_cons.mp h with rfl | h
          · exact kx_good _ h4
          · cases h
  · exact kx_gi h5 x h
theorem kx_gS {own : String} {i : Nat} {y : MethodName} {w : Cond} (h1 : Cond.methodLink own i y ∈ kx_all) (h2 : Cond.static y ∈ kx_all) (h3 : Cond.initialized own ∈ kx_all) (h5 : w ∈ kx_all) : GoodIn kx_all (wsS own i y (w :: kx_all)) := by
  intro x hx
  rcases List.mem_append.mp hx with h | h
  · rcases List.mem_cons.mp h with rfl | h
    · exact kx_good _ h1
    · rcases List.mem_cons.mp h with rfl | h
      · exact kx_good _ h2
      · rcases List.mem_cons.mp h with rfl | h
        · exact kx_good _ h3
        · cases h
  · exact kx_gi h5 x h
/-- a reader's contract out of its walk -/
theorem kx_met {l : Launch} {y : MethodName} {cc : ByteArray} {maxL : Nat} {ret : Option FieldType} {rm : Room} {av : List Value} {D : va_G} {cI cZ : ClassId} {ws : va_W} {sz mc ms : Nat} {Qc : Array Value → State → Outcome → State → Prop} {free : Addr → Prop} (hy : plainName y.cls = true) (hlen : (lg_sl av).length ≤ maxL)
    (body : ∀ (p : Program) (e : Env) (s : State) (m : MethodId) (below : List Frame) (meth : Method) (c : Code) (ls : Array Slot), p.tables.exec = Jvm.exec → c.code = cc → meth.sig.returnType = ret → c.maxLocals = maxL → (∀ w ∈ kx_all, w.before av.toArray s = true) → s.vm.findClass y.cls = some m.cls → meth.locks = false → meth.name = y.name → s.heap.size = sz → va_P D kc_l ws s.heap → va_K D kc_l [(cI, .int), (cZ, .boolean)] s → va_D (fun _ => True) ws → kx_N s → lv_has ls maxL (lv_args 0 av) →
      W p l e rm s m av.toArray below meth c s.heap [] 0 0 (MQ below Qc av.toArray s mc ms free) (F0 m 0 ls [])) : Met l y (Cond.code y cc maxL ret :: kx_all) rm (kp av D cI cZ ws sz) Qc mc ms free := by
  refine Met.ofW (cc := cc) (maxL := maxL) (ret := ret) hy rfl ?_
  intro p e s m args below meth c s₁ B hml hv
  obtain ⟨rfl, hsz, hP, hK, hD, hN⟩ := hv
  have hl := lv_entry av (n := maxL) hlen
  rw [lg_entry_eq]
  generalize (lg_sl av ++ List.replicate (maxL - (lg_sl av).length) Slot.unset).toArray = ls at hl ⊢
  exact body p e s m below meth c ls B.exec B.bytes B.returns hml (fun w h => atoms_spec (ws := Cond.code y cc maxL ret :: kx_all) B.pre w (List.mem_cons_of_mem _ h)) (findClass_of_methodNamed B.named) B.notSynchronized (name_of_methodNamed B.named B.method).1 hsz hP hK hD hN hl
/-- a writer's contract out of its walk -/
theorem kx_metW {l : Launch} {y : MethodName} {cc : ByteArray} {maxL : Nat} {ret : Option FieldType} {rm : Room} {av : List Value} {D : va_G} {cI cZ : ClassId} {ws ws' : va_W} {sz mc ms : Nat} {v : Option Value} (hy : plainName y.cls = true) (hlen : (lg_sl av).length ≤ maxL)
    (body : ∀ (p : Program) (e : Env) (s : State) (m : MethodId) (below : List Frame) (meth : Method) (c : Code) (ls : Array Slot) (A : Nat → Prop), p.tables.exec = Jvm.exec → c.code = cc → meth.sig.returnType = ret → c.maxLocals = maxL → (∀ w ∈ kx_all, w.before av.toArray s = true) → s.vm.findClass y.cls = some m.cls → meth.locks = false → meth.name = y.name → (∀ q : Nat, s.heap.size ≤ q → A q) → va_P D kc_l ws s.heap → va_K D kc_l [(cI, .int), (cZ, .boolean)] s → va_D A ws → kx_N s → lv_has ls maxL (lv_args 0 av) → va_S A s.heap s.heap [] →
      W p l e rm s m av.toArray below meth c s.heap [] 0 0 (MQ below (kw_q v D kc_l ws' A) av.toArray s mc ms A) (F0 m 0 ls [])) : Met l y (Cond.code y cc maxL ret :: kx_all) rm (kp av D cI cZ ws sz) (kw_q v D kc_l ws' (va_A ws sz)) mc ms (va_A ws sz) := by
  refine kx_met hy hlen ?_
  intro p e s m below meth c ls hx hb hr hml hts hown hlk hnm hsz hP hK hD0 hN hl
  subst hsz
  exact body p e s m below meth c ls (va_A ws s.heap.size) hx hb hr hml hts hown hlk hnm (fun q h => Or.inr h) hP hK (hD0.self (sz := s.heap.size)) hN hl va_S.rf
theorem yd_Pt_init : yn_Pt_init.cls ≠ "java/lang/invoke/MethodHandle" ∧ yn_Pt_init.cls ≠ "java/lang/invoke/VarHandle" ∧ (parseMethodDescriptor yn_Pt_init.desc).map (fun d => d.parameters.length) = some 0 := by decide +kernel
theorem yd_Pt_type : yn_Pt_type.cls ≠ "java/lang/invoke/MethodHandle" ∧ yn_Pt_type.cls ≠ "java/lang/invoke/VarHandle" ∧ (parseMethodDescriptor yn_Pt_type.desc).map (fun d => d.parameters.length) = some 2 := by decide +kernel
theorem yd_Pt_wipe : yn_Pt_wipe.cls ≠ "java/lang/invoke/MethodHandle" ∧ yn_Pt_wipe.cls ≠ "java/lang/invoke/VarHandle" ∧ (parseMethodDescriptor yn_Pt_wipe.desc).map (fun d => d.parameters.length) = some 0 := by decide +kernel
theorem yd_Pt_formula : yn_Pt_formula.cls ≠ "java/lang/invoke/MethodHandle" ∧ yn_Pt_formula.cls ≠ "java/lang/invoke/VarHandle" ∧ (parseMethodDescriptor yn_Pt_formula.desc).map (fun d => d.parameters.length) = some 0 := by decide +kernel
theorem yd_Pt_proof : yn_Pt_proof.cls ≠ "java/lang/invoke/MethodHandle" ∧ yn_Pt_proof.cls ≠ "java/lang/invoke/VarHandle" ∧ (parseMethodDescriptor yn_Pt_proof.desc).map (fun d => d.parameters.length) = some 1 := by decide +kernel
theorem yd_Pt_check : yn_Pt_check.cls ≠ "java/lang/invoke/MethodHandle" ∧ yn_Pt_check.cls ≠ "java/lang/invoke/VarHandle" ∧ (parseMethodDescriptor yn_Pt_check.desc).map (fun d => d.parameters.length) = some 0 := by decide +kernel
theorem yd_Pt_clauses : yn_Pt_clauses.cls ≠ "java/lang/invoke/MethodHandle" ∧ yn_Pt_clauses.cls ≠ "java/lang/invoke/VarHandle" ∧ (parseMethodDescriptor yn_Pt_clauses.desc).map (fun d => d.parameters.length) = some 0 := by decide +kernel
theorem yd_Pt_size : yn_Pt_size.cls ≠ "java/lang/invoke/MethodHandle" ∧ yn_Pt_size.cls ≠ "java/lang/invoke/VarHandle" ∧ (parseMethodDescriptor yn_Pt_size.desc).map (fun d => d.parameters.length) = some 1 := by decide +kernel
theorem yd_Pt_literal : yn_Pt_literal.cls ≠ "java/lang/invoke/MethodHandle" ∧ yn_Pt_literal.cls ≠ "java/lang/invoke/VarHandle" ∧ (parseMethodDescriptor yn_Pt_literal.desc).map (fun d => d.parameters.length) = some 2 := by decide +kernel
theorem yd_Pt_step : yn_Pt_step.cls ≠ "java/lang/invoke/MethodHandle" ∧ yn_Pt_step.cls ≠ "java/lang/invoke/VarHandle" ∧ (parseMethodDescriptor yn_Pt_step.desc).map (fun d => d.parameters.length) = some 1 := by decide +kernel
theorem yd_Pt_marked : yn_Pt_marked.cls ≠ "java/lang/invoke/MethodHandle" ∧ yn_Pt_marked.cls ≠ "java/lang/invoke/VarHandle" ∧ (parseMethodDescriptor yn_Pt_marked.desc).map (fun d => d.parameters.length) = some 1 := by decide +kernel
theorem yd_Pt_hints : yn_Pt_hints.cls ≠ "java/lang/invoke/MethodHandle" ∧ yn_Pt_hints.cls ≠ "java/lang/invoke/VarHandle" ∧ (parseMethodDescriptor yn_Pt_hints.desc).map (fun d => d.parameters.length) = some 1 := by decide +kernel
theorem yd_Pt_hint : yn_Pt_hint.cls ≠ "java/lang/invoke/MethodHandle" ∧ yn_Pt_hint.cls ≠ "java/lang/invoke/VarHandle" ∧ (parseMethodDescriptor yn_Pt_hint.desc).map (fun d => d.parameters.length) = some 2 := by decide +kernel
theorem yd_Pt_poke : yn_Pt_poke.cls ≠ "java/lang/invoke/MethodHandle" ∧ yn_Pt_poke.cls ≠ "java/lang/invoke/VarHandle" ∧ (parseMethodDescriptor yn_Pt_poke.desc).map (fun d => d.parameters.length) = some 3 := by decide +kernel
theorem yd_Pt_verify : yn_Pt_verify.cls ≠ "java/lang/invoke/MethodHandle" ∧ yn_Pt_verify.cls ≠ "java/lang/invoke/VarHandle" ∧ (parseMethodDescriptor yn_Pt_verify.desc).map (fun d => d.parameters.length) = some 0 := by decide +kernel
theorem yd_Pt_write : yn_Pt_write.cls ≠ "java/lang/invoke/MethodHandle" ∧ yn_Pt_write.cls ≠ "java/lang/invoke/VarHandle" ∧ (parseMethodDescriptor yn_Pt_write.desc).map (fun d => d.parameters.length) = some 0 := by decide +kernel
theorem yd_Pt_written : yn_Pt_written.cls ≠ "java/lang/invoke/MethodHandle" ∧ yn_Pt_written.cls ≠ "java/lang/invoke/VarHandle" ∧ (parseMethodDescriptor yn_Pt_written.desc).map (fun d => d.parameters.length) = some 1 := by decide +kernel
theorem yd_Pt_writeStep : yn_Pt_writeStep.cls ≠ "java/lang/invoke/MethodHandle" ∧ yn_Pt_writeStep.cls ≠ "java/lang/invoke/VarHandle" ∧ (parseMethodDescriptor yn_Pt_writeStep.desc).map (fun d => d.parameters.length) = some 2 := by decide +kernel
theorem yd_Pt_only : yn_Pt_only.cls ≠ "java/lang/invoke/MethodHandle" ∧ yn_Pt_only.cls ≠ "java/lang/invoke/VarHandle" ∧ (parseMethodDescriptor yn_Pt_only.desc).map (fun d => d.parameters.length) = some 1 := by decide +kernel
theorem yd_Pt_opposites : yn_Pt_opposites.cls ≠ "java/lang/invoke/MethodHandle" ∧ yn_Pt_opposites.cls ≠ "java/lang/invoke/VarHandle" ∧ (parseMethodDescriptor yn_Pt_opposites.desc).map (fun d => d.parameters.length) = some 1 := by decide +kernel
theorem yd_Pt_one : yn_Pt_one.cls ≠ "java/lang/invoke/MethodHandle" ∧ yn_Pt_one.cls ≠ "java/lang/invoke/VarHandle" ∧ (parseMethodDescriptor yn_Pt_one.desc).map (fun d => d.parameters.length) = some 1 := by decide +kernel
theorem yd_Pt_firstOnes : yn_Pt_firstOnes.cls ≠ "java/lang/invoke/MethodHandle" ∧ yn_Pt_firstOnes.cls ≠ "java/lang/invoke/VarHandle" ∧ (parseMethodDescriptor yn_Pt_firstOnes.desc).map (fun d => d.parameters.length) = some 1 := by decide +kernel
theorem yd_Pt_contains : yn_Pt_contains.cls ≠ "java/lang/invoke/MethodHandle" ∧ yn_Pt_contains.cls ≠ "java/lang/invoke/VarHandle" ∧ (parseMethodDescriptor yn_Pt_contains.desc).map (fun d => d.parameters.length) = some 2 := by decide +kernel
theorem yd_Mo_init : yn_Mo_init.cls ≠ "java/lang/invoke/MethodHandle" ∧ yn_Mo_init.cls ≠ "java/lang/invoke/VarHandle" ∧ (parseMethodDescriptor yn_Mo_init.desc).map (fun d => d.parameters.length) = some 0 := by decide +kernel
theorem yd_Mo_thrown : yn_Mo_thrown.cls ≠ "java/lang/invoke/MethodHandle" ∧ yn_Mo_thrown.cls ≠ "java/lang/invoke/VarHandle" ∧ (parseMethodDescriptor yn_Mo_thrown.desc).map (fun d => d.parameters.length) = some 0 := by decide +kernel
theorem yd_Mo_refuse : yn_Mo_refuse.cls ≠ "java/lang/invoke/MethodHandle" ∧ yn_Mo_refuse.cls ≠ "java/lang/invoke/VarHandle" ∧ (parseMethodDescriptor yn_Mo_refuse.desc).map (fun d => d.parameters.length) = some 1 := by decide +kernel
theorem yd_Mo_type : yn_Mo_type.cls ≠ "java/lang/invoke/MethodHandle" ∧ yn_Mo_type.cls ≠ "java/lang/invoke/VarHandle" ∧ (parseMethodDescriptor yn_Mo_type.desc).map (fun d => d.parameters.length) = some 2 := by decide +kernel
theorem yd_Mo_wipe : yn_Mo_wipe.cls ≠ "java/lang/invoke/MethodHandle" ∧ yn_Mo_wipe.cls ≠ "java/lang/invoke/VarHandle" ∧ (parseMethodDescriptor yn_Mo_wipe.desc).map (fun d => d.parameters.length) = some 0 := by decide +kernel
theorem yd_Mo_isGap : yn_Mo_isGap.cls ≠ "java/lang/invoke/MethodHandle" ∧ yn_Mo_isGap.cls ≠ "java/lang/invoke/VarHandle" ∧ (parseMethodDescriptor yn_Mo_isGap.desc).map (fun d => d.parameters.length) = some 1 := by decide +kernel
theorem yd_Mo_word : yn_Mo_word.cls ≠ "java/lang/invoke/MethodHandle" ∧ yn_Mo_word.cls ≠ "java/lang/invoke/VarHandle" ∧ (parseMethodDescriptor yn_Mo_word.desc).map (fun d => d.parameters.length) = some 0 := by decide +kernel
theorem yd_Mo_isWord : yn_Mo_isWord.cls ≠ "java/lang/invoke/MethodHandle" ∧ yn_Mo_isWord.cls ≠ "java/lang/invoke/VarHandle" ∧ (parseMethodDescriptor yn_Mo_isWord.desc).map (fun d => d.parameters.length) = some 3 := by decide +kernel
theorem yd_Mo_integer : yn_Mo_integer.cls ≠ "java/lang/invoke/MethodHandle" ∧ yn_Mo_integer.cls ≠ "java/lang/invoke/VarHandle" ∧ (parseMethodDescriptor yn_Mo_integer.desc).map (fun d => d.parameters.length) = some 0 := by decide +kernel
theorem yd_Mo_beginClause : yn_Mo_beginClause.cls ≠ "java/lang/invoke/MethodHandle" ∧ yn_Mo_beginClause.cls ≠ "java/lang/invoke/VarHandle" ∧ (parseMethodDescriptor yn_Mo_beginClause.desc).map (fun d => d.parameters.length) = some 1 := by decide +kernel
theorem yd_Mo_take : yn_Mo_take.cls ≠ "java/lang/invoke/MethodHandle" ∧ yn_Mo_take.cls ≠ "java/lang/invoke/VarHandle" ∧ (parseMethodDescriptor yn_Mo_take.desc).map (fun d => d.parameters.length) = some 2 := by decide +kernel
theorem yd_Mo_readClause : yn_Mo_readClause.cls ≠ "java/lang/invoke/MethodHandle" ∧ yn_Mo_readClause.cls ≠ "java/lang/invoke/VarHandle" ∧ (parseMethodDescriptor yn_Mo_readClause.desc).map (fun d => d.parameters.length) = some 2 := by decide +kernel
theorem yd_Mo_readFormula : yn_Mo_readFormula.cls ≠ "java/lang/invoke/MethodHandle" ∧ yn_Mo_readFormula.cls ≠ "java/lang/invoke/VarHandle" ∧ (parseMethodDescriptor yn_Mo_readFormula.desc).map (fun d => d.parameters.length) = some 0 := by decide +kernel
theorem yd_Mo_readProof : yn_Mo_readProof.cls ≠ "java/lang/invoke/MethodHandle" ∧ yn_Mo_readProof.cls ≠ "java/lang/invoke/VarHandle" ∧ (parseMethodDescriptor yn_Mo_readProof.desc).map (fun d => d.parameters.length) = some 0 := by decide +kernel
theorem yd_Mo_readPacked : yn_Mo_readPacked.cls ≠ "java/lang/invoke/MethodHandle" ∧ yn_Mo_readPacked.cls ≠ "java/lang/invoke/VarHandle" ∧ (parseMethodDescriptor yn_Mo_readPacked.desc).map (fun d => d.parameters.length) = some 0 := by decide +kernel
theorem yd_Mo_bitOf : yn_Mo_bitOf.cls ≠ "java/lang/invoke/MethodHandle" ∧ yn_Mo_bitOf.cls ≠ "java/lang/invoke/VarHandle" ∧ (parseMethodDescriptor yn_Mo_bitOf.desc).map (fun d => d.parameters.length) = some 1 := by decide +kernel
theorem yd_Mo_opposite : yn_Mo_opposite.cls ≠ "java/lang/invoke/MethodHandle" ∧ yn_Mo_opposite.cls ≠ "java/lang/invoke/VarHandle" ∧ (parseMethodDescriptor yn_Mo_opposite.desc).map (fun d => d.parameters.length) = some 1 := by decide +kernel
theorem yd_Mo_setAt : yn_Mo_setAt.cls ≠ "java/lang/invoke/MethodHandle" ∧ yn_Mo_setAt.cls ≠ "java/lang/invoke/VarHandle" ∧ (parseMethodDescriptor yn_Mo_setAt.desc).map (fun d => d.parameters.length) = some 1 := by decide +kernel
theorem yd_Mo_make : yn_Mo_make.cls ≠ "java/lang/invoke/MethodHandle" ∧ yn_Mo_make.cls ≠ "java/lang/invoke/VarHandle" ∧ (parseMethodDescriptor yn_Mo_make.desc).map (fun d => d.parameters.length) = some 1 := by decide +kernel
theorem yd_Mo_formula : yn_Mo_formula.cls ≠ "java/lang/invoke/MethodHandle" ∧ yn_Mo_formula.cls ≠ "java/lang/invoke/VarHandle" ∧ (parseMethodDescriptor yn_Mo_formula.desc).map (fun d => d.parameters.length) = some 0 := by decide +kernel
theorem yd_Mo_first : yn_Mo_first.cls ≠ "java/lang/invoke/MethodHandle" ∧ yn_Mo_first.cls ≠ "java/lang/invoke/VarHandle" ∧ (parseMethodDescriptor yn_Mo_first.desc).map (fun d => d.parameters.length) = some 0 := by decide +kernel
theorem yd_Mo_alike : yn_Mo_alike.cls ≠ "java/lang/invoke/MethodHandle" ∧ yn_Mo_alike.cls ≠ "java/lang/invoke/VarHandle" ∧ (parseMethodDescriptor yn_Mo_alike.desc).map (fun d => d.parameters.length) = some 1 := by decide +kernel
theorem yd_Mo_proof : yn_Mo_proof.cls ≠ "java/lang/invoke/MethodHandle" ∧ yn_Mo_proof.cls ≠ "java/lang/invoke/VarHandle" ∧ (parseMethodDescriptor yn_Mo_proof.desc).map (fun d => d.parameters.length) = some 1 := by decide +kernel
theorem yd_Mo_bits : yn_Mo_bits.cls ≠ "java/lang/invoke/MethodHandle" ∧ yn_Mo_bits.cls ≠ "java/lang/invoke/VarHandle" ∧ (parseMethodDescriptor yn_Mo_bits.desc).map (fun d => d.parameters.length) = some 1 := by decide +kernel
theorem yd_Mo_open : yn_Mo_open.cls ≠ "java/lang/invoke/MethodHandle" ∧ yn_Mo_open.cls ≠ "java/lang/invoke/VarHandle" ∧ (parseMethodDescriptor yn_Mo_open.desc).map (fun d => d.parameters.length) = some 1 := by decide +kernel
theorem yd_Mo_next : yn_Mo_next.cls ≠ "java/lang/invoke/MethodHandle" ∧ yn_Mo_next.cls ≠ "java/lang/invoke/VarHandle" ∧ (parseMethodDescriptor yn_Mo_next.desc).map (fun d => d.parameters.length) = some 0 := by decide +kernel
theorem yd_Mo_propagate : yn_Mo_propagate.cls ≠ "java/lang/invoke/MethodHandle" ∧ yn_Mo_propagate.cls ≠ "java/lang/invoke/VarHandle" ∧ (parseMethodDescriptor yn_Mo_propagate.desc).map (fun d => d.parameters.length) = some 0 := by decide +kernel
theorem yd_Mo_use : yn_Mo_use.cls ≠ "java/lang/invoke/MethodHandle" ∧ yn_Mo_use.cls ≠ "java/lang/invoke/VarHandle" ∧ (parseMethodDescriptor yn_Mo_use.desc).map (fun d => d.parameters.length) = some 1 := by decide +kernel
theorem yd_Mo_say : yn_Mo_say.cls ≠ "java/lang/invoke/MethodHandle" ∧ yn_Mo_say.cls ≠ "java/lang/invoke/VarHandle" ∧ (parseMethodDescriptor yn_Mo_say.desc).map (fun d => d.parameters.length) = some 2 := by decide +kernel
theorem yd_Mo_sayUsed : yn_Mo_sayUsed.cls ≠ "java/lang/invoke/MethodHandle" ∧ yn_Mo_sayUsed.cls ≠ "java/lang/invoke/VarHandle" ∧ (parseMethodDescriptor yn_Mo_sayUsed.desc).map (fun d => d.parameters.length) = some 3 := by decide +kernel
theorem yd_Mo_markAll : yn_Mo_markAll.cls ≠ "java/lang/invoke/MethodHandle" ∧ yn_Mo_markAll.cls ≠ "java/lang/invoke/VarHandle" ∧ (parseMethodDescriptor yn_Mo_markAll.desc).map (fun d => d.parameters.length) = some 0 := by decide +kernel
theorem yd_Mo_partners : yn_Mo_partners.cls ≠ "java/lang/invoke/MethodHandle" ∧ yn_Mo_partners.cls ≠ "java/lang/invoke/VarHandle" ∧ (parseMethodDescriptor yn_Mo_partners.desc).map (fun d => d.parameters.length) = some 1 := by decide +kernel
theorem yd_Mo_holds : yn_Mo_holds.cls ≠ "java/lang/invoke/MethodHandle" ∧ yn_Mo_holds.cls ≠ "java/lang/invoke/VarHandle" ∧ (parseMethodDescriptor yn_Mo_holds.desc).map (fun d => d.parameters.length) = some 1 := by decide +kernel
theorem yd_Mo_check : yn_Mo_check.cls ≠ "java/lang/invoke/MethodHandle" ∧ yn_Mo_check.cls ≠ "java/lang/invoke/VarHandle" ∧ (parseMethodDescriptor yn_Mo_check.desc).map (fun d => d.parameters.length) = some 0 := by decide +kernel
theorem yd_Mo_clauses : yn_Mo_clauses.cls ≠ "java/lang/invoke/MethodHandle" ∧ yn_Mo_clauses.cls ≠ "java/lang/invoke/VarHandle" ∧ (parseMethodDescriptor yn_Mo_clauses.desc).map (fun d => d.parameters.length) = some 0 := by decide +kernel
theorem yd_Mo_isClause : yn_Mo_isClause.cls ≠ "java/lang/invoke/MethodHandle" ∧ yn_Mo_isClause.cls ≠ "java/lang/invoke/VarHandle" ∧ (parseMethodDescriptor yn_Mo_isClause.desc).map (fun d => d.parameters.length) = some 1 := by decide +kernel
theorem yd_Mo_size : yn_Mo_size.cls ≠ "java/lang/invoke/MethodHandle" ∧ yn_Mo_size.cls ≠ "java/lang/invoke/VarHandle" ∧ (parseMethodDescriptor yn_Mo_size.desc).map (fun d => d.parameters.length) = some 1 := by decide +kernel
theorem yd_Mo_literal : yn_Mo_literal.cls ≠ "java/lang/invoke/MethodHandle" ∧ yn_Mo_literal.cls ≠ "java/lang/invoke/VarHandle" ∧ (parseMethodDescriptor yn_Mo_literal.desc).map (fun d => d.parameters.length) = some 2 := by decide +kernel
theorem yd_Mo_step : yn_Mo_step.cls ≠ "java/lang/invoke/MethodHandle" ∧ yn_Mo_step.cls ≠ "java/lang/invoke/VarHandle" ∧ (parseMethodDescriptor yn_Mo_step.desc).map (fun d => d.parameters.length) = some 1 := by decide +kernel
theorem yd_Mo_marked : yn_Mo_marked.cls ≠ "java/lang/invoke/MethodHandle" ∧ yn_Mo_marked.cls ≠ "java/lang/invoke/VarHandle" ∧ (parseMethodDescriptor yn_Mo_marked.desc).map (fun d => d.parameters.length) = some 1 := by decide +kernel
theorem yd_Mo_hints : yn_Mo_hints.cls ≠ "java/lang/invoke/MethodHandle" ∧ yn_Mo_hints.cls ≠ "java/lang/invoke/VarHandle" ∧ (parseMethodDescriptor yn_Mo_hints.desc).map (fun d => d.parameters.length) = some 1 := by decide +kernel
theorem yd_Mo_isHint : yn_Mo_isHint.cls ≠ "java/lang/invoke/MethodHandle" ∧ yn_Mo_isHint.cls ≠ "java/lang/invoke/VarHandle" ∧ (parseMethodDescriptor yn_Mo_isHint.desc).map (fun d => d.parameters.length) = some 2 := by decide +kernel
theorem yd_Mo_hint : yn_Mo_hint.cls ≠ "java/lang/invoke/MethodHandle" ∧ yn_Mo_hint.cls ≠ "java/lang/invoke/VarHandle" ∧ (parseMethodDescriptor yn_Mo_hint.desc).map (fun d => d.parameters.length) = some 2 := by decide +kernel
theorem yd_Mo_poke : yn_Mo_poke.cls ≠ "java/lang/invoke/MethodHandle" ∧ yn_Mo_poke.cls ≠ "java/lang/invoke/VarHandle" ∧ (parseMethodDescriptor yn_Mo_poke.desc).map (fun d => d.parameters.length) = some 3 := by decide +kernel
theorem yd_Mo_positive : yn_Mo_positive.cls ≠ "java/lang/invoke/MethodHandle" ∧ yn_Mo_positive.cls ≠ "java/lang/invoke/VarHandle" ∧ (parseMethodDescriptor yn_Mo_positive.desc).map (fun d => d.parameters.length) = some 1 := by decide +kernel
theorem yd_Mo_followsPartners : yn_Mo_followsPartners.cls ≠ "java/lang/invoke/MethodHandle" ∧ yn_Mo_followsPartners.cls ≠ "java/lang/invoke/VarHandle" ∧ (parseMethodDescriptor yn_Mo_followsPartners.desc).map (fun d => d.parameters.length) = some 1 := by decide +kernel
theorem yd_Mo_isGood : yn_Mo_isGood.cls ≠ "java/lang/invoke/MethodHandle" ∧ yn_Mo_isGood.cls ≠ "java/lang/invoke/VarHandle" ∧ (parseMethodDescriptor yn_Mo_isGood.desc).map (fun d => d.parameters.length) = some 1 := by decide +kernel
theorem yd_Mo_verify : yn_Mo_verify.cls ≠ "java/lang/invoke/MethodHandle" ∧ yn_Mo_verify.cls ≠ "java/lang/invoke/VarHandle" ∧ (parseMethodDescriptor yn_Mo_verify.desc).map (fun d => d.parameters.length) = some 0 := by decide +kernel
theorem yd_Mo_put : yn_Mo_put.cls ≠ "java/lang/invoke/MethodHandle" ∧ yn_Mo_put.cls ≠ "java/lang/invoke/VarHandle" ∧ (parseMethodDescriptor yn_Mo_put.desc).map (fun d => d.parameters.length) = some 1 := by decide +kernel
theorem yd_Mo_write : yn_Mo_write.cls ≠ "java/lang/invoke/MethodHandle" ∧ yn_Mo_write.cls ≠ "java/lang/invoke/VarHandle" ∧ (parseMethodDescriptor yn_Mo_write.desc).map (fun d => d.parameters.length) = some 0 := by decide +kernel
theorem yd_Mo_written : yn_Mo_written.cls ≠ "java/lang/invoke/MethodHandle" ∧ yn_Mo_written.cls ≠ "java/lang/invoke/VarHandle" ∧ (parseMethodDescriptor yn_Mo_written.desc).map (fun d => d.parameters.length) = some 1 := by decide +kernel
theorem yd_As_init : yn_As_init.cls ≠ "java/lang/invoke/MethodHandle" ∧ yn_As_init.cls ≠ "java/lang/invoke/VarHandle" ∧ (parseMethodDescriptor yn_As_init.desc).map (fun d => d.parameters.length) = some 0 := by decide +kernel
theorem yd_As_restart : yn_As_restart.cls ≠ "java/lang/invoke/MethodHandle" ∧ yn_As_restart.cls ≠ "java/lang/invoke/VarHandle" ∧ (parseMethodDescriptor yn_As_restart.desc).map (fun d => d.parameters.length) = some 2 := by decide +kernel
theorem yd_As_isReady : yn_As_isReady.cls ≠ "java/lang/invoke/MethodHandle" ∧ yn_As_isReady.cls ≠ "java/lang/invoke/VarHandle" ∧ (parseMethodDescriptor yn_As_isReady.desc).map (fun d => d.parameters.length) = some 1 := by decide +kernel
theorem yd_As_follow : yn_As_follow.cls ≠ "java/lang/invoke/MethodHandle" ∧ yn_As_follow.cls ≠ "java/lang/invoke/VarHandle" ∧ (parseMethodDescriptor yn_As_follow.desc).map (fun d => d.parameters.length) = some 2 := by decide +kernel
theorem yd_As_usedFor : yn_As_usedFor.cls ≠ "java/lang/invoke/MethodHandle" ∧ yn_As_usedFor.cls ≠ "java/lang/invoke/VarHandle" ∧ (parseMethodDescriptor yn_As_usedFor.desc).map (fun d => d.parameters.length) = some 2 := by decide +kernel
theorem yd_Ck_init : yn_Ck_init.cls ≠ "java/lang/invoke/MethodHandle" ∧ yn_Ck_init.cls ≠ "java/lang/invoke/VarHandle" ∧ (parseMethodDescriptor yn_Ck_init.desc).map (fun d => d.parameters.length) = some 4 := by decide +kernel
theorem yd_Ck_goBack : yn_Ck_goBack.cls ≠ "java/lang/invoke/MethodHandle" ∧ yn_Ck_goBack.cls ≠ "java/lang/invoke/VarHandle" ∧ (parseMethodDescriptor yn_Ck_goBack.desc).map (fun d => d.parameters.length) = some 1 := by decide +kernel
theorem yd_Ck_isRight : yn_Ck_isRight.cls ≠ "java/lang/invoke/MethodHandle" ∧ yn_Ck_isRight.cls ≠ "java/lang/invoke/VarHandle" ∧ (parseMethodDescriptor yn_Ck_isRight.desc).map (fun d => d.parameters.length) = some 1 := by decide +kernel
theorem yd_Ck_settlesPartners : yn_Ck_settlesPartners.cls ≠ "java/lang/invoke/MethodHandle" ∧ yn_Ck_settlesPartners.cls ≠ "java/lang/invoke/VarHandle" ∧ (parseMethodDescriptor yn_Ck_settlesPartners.desc).map (fun d => d.parameters.length) = some 1 := by decide +kernel
theorem yd_Ck_explain : yn_Ck_explain.cls ≠ "java/lang/invoke/MethodHandle" ∧ yn_Ck_explain.cls ≠ "java/lang/invoke/VarHandle" ∧ (parseMethodDescriptor yn_Ck_explain.desc).map (fun d => d.parameters.length) = some 3 := by decide +kernel
theorem yd_Ck_propagate : yn_Ck_propagate.cls ≠ "java/lang/invoke/MethodHandle" ∧ yn_Ck_propagate.cls ≠ "java/lang/invoke/VarHandle" ∧ (parseMethodDescriptor yn_Ck_propagate.desc).map (fun d => d.parameters.length) = some 0 := by decide +kernel
theorem yd_Ck_firstReady : yn_Ck_firstReady.cls ≠ "java/lang/invoke/MethodHandle" ∧ yn_Ck_firstReady.cls ≠ "java/lang/invoke/VarHandle" ∧ (parseMethodDescriptor yn_Ck_firstReady.desc).map (fun d => d.parameters.length) = some 1 := by decide +kernel
theorem yd_Cl_init : yn_Cl_init.cls ≠ "java/lang/invoke/MethodHandle" ∧ yn_Cl_init.cls ≠ "java/lang/invoke/VarHandle" ∧ (parseMethodDescriptor yn_Cl_init.desc).map (fun d => d.parameters.length) = some 1 := by decide +kernel
theorem yd_Cl_has : yn_Cl_has.cls ≠ "java/lang/invoke/MethodHandle" ∧ yn_Cl_has.cls ≠ "java/lang/invoke/VarHandle" ∧ (parseMethodDescriptor yn_Cl_has.desc).map (fun d => d.parameters.length) = some 1 := by decide +kernel
theorem yd_Cl_literalAt : yn_Cl_literalAt.cls ≠ "java/lang/invoke/MethodHandle" ∧ yn_Cl_literalAt.cls ≠ "java/lang/invoke/VarHandle" ∧ (parseMethodDescriptor yn_Cl_literalAt.desc).map (fun d => d.parameters.length) = some 2 := by decide +kernel
theorem yd_Cl_keep : yn_Cl_keep.cls ≠ "java/lang/invoke/MethodHandle" ∧ yn_Cl_keep.cls ≠ "java/lang/invoke/VarHandle" ∧ (parseMethodDescriptor yn_Cl_keep.desc).map (fun d => d.parameters.length) = some 1 := by decide +kernel
theorem yd_Cl_begin : yn_Cl_begin.cls ≠ "java/lang/invoke/MethodHandle" ∧ yn_Cl_begin.cls ≠ "java/lang/invoke/VarHandle" ∧ (parseMethodDescriptor yn_Cl_begin.desc).map (fun d => d.parameters.length) = some 0 := by decide +kernel
theorem yd_Cl_append : yn_Cl_append.cls ≠ "java/lang/invoke/MethodHandle" ∧ yn_Cl_append.cls ≠ "java/lang/invoke/VarHandle" ∧ (parseMethodDescriptor yn_Cl_append.desc).map (fun d => d.parameters.length) = some 1 := by decide +kernel
theorem yd_Cl_copy : yn_Cl_copy.cls ≠ "java/lang/invoke/MethodHandle" ∧ yn_Cl_copy.cls ≠ "java/lang/invoke/VarHandle" ∧ (parseMethodDescriptor yn_Cl_copy.desc).map (fun d => d.parameters.length) = some 2 := by decide +kernel
theorem yd_Cl_greatestAlike : yn_Cl_greatestAlike.cls ≠ "java/lang/invoke/MethodHandle" ∧ yn_Cl_greatestAlike.cls ≠ "java/lang/invoke/VarHandle" ∧ (parseMethodDescriptor yn_Cl_greatestAlike.desc).map (fun d => d.parameters.length) = some 2 := by decide +kernel
theorem yd_Dr_init : yn_Dr_init.cls ≠ "java/lang/invoke/MethodHandle" ∧ yn_Dr_init.cls ≠ "java/lang/invoke/VarHandle" ∧ (parseMethodDescriptor yn_Dr_init.desc).map (fun d => d.parameters.length) = some 0 := by decide +kernel
theorem yd_Dr_readFormula : yn_Dr_readFormula.cls ≠ "java/lang/invoke/MethodHandle" ∧ yn_Dr_readFormula.cls ≠ "java/lang/invoke/VarHandle" ∧ (parseMethodDescriptor yn_Dr_readFormula.desc).map (fun d => d.parameters.length) = some 1 := by decide +kernel
theorem yd_Dr_readProof : yn_Dr_readProof.cls ≠ "java/lang/invoke/MethodHandle" ∧ yn_Dr_readProof.cls ≠ "java/lang/invoke/VarHandle" ∧ (parseMethodDescriptor yn_Dr_readProof.desc).map (fun d => d.parameters.length) = some 1 := by decide +kernel
theorem yd_Dr_readPacked : yn_Dr_readPacked.cls ≠ "java/lang/invoke/MethodHandle" ∧ yn_Dr_readPacked.cls ≠ "java/lang/invoke/VarHandle" ∧ (parseMethodDescriptor yn_Dr_readPacked.desc).map (fun d => d.parameters.length) = some 1 := by decide +kernel
theorem yd_Dr_readClause : yn_Dr_readClause.cls ≠ "java/lang/invoke/MethodHandle" ∧ yn_Dr_readClause.cls ≠ "java/lang/invoke/VarHandle" ∧ (parseMethodDescriptor yn_Dr_readClause.desc).map (fun d => d.parameters.length) = some 2 := by decide +kernel
theorem yd_Dr_readPackedClause : yn_Dr_readPackedClause.cls ≠ "java/lang/invoke/MethodHandle" ∧ yn_Dr_readPackedClause.cls ≠ "java/lang/invoke/VarHandle" ∧ (parseMethodDescriptor yn_Dr_readPackedClause.desc).map (fun d => d.parameters.length) = some 2 := by decide +kernel
theorem yd_Sp_init : yn_Sp_init.cls ≠ "java/lang/invoke/MethodHandle" ∧ yn_Sp_init.cls ≠ "java/lang/invoke/VarHandle" ∧ (parseMethodDescriptor yn_Sp_init.desc).map (fun d => d.parameters.length) = some 0 := by decide +kernel
theorem yd_Sp_forget : yn_Sp_forget.cls ≠ "java/lang/invoke/MethodHandle" ∧ yn_Sp_forget.cls ≠ "java/lang/invoke/VarHandle" ∧ (parseMethodDescriptor yn_Sp_forget.desc).map (fun d => d.parameters.length) = some 0 := by decide +kernel
theorem yd_Sp_settle : yn_Sp_settle.cls ≠ "java/lang/invoke/MethodHandle" ∧ yn_Sp_settle.cls ≠ "java/lang/invoke/VarHandle" ∧ (parseMethodDescriptor yn_Sp_settle.desc).map (fun d => d.parameters.length) = some 2 := by decide +kernel
theorem yd_Sp_liveAfterAll : yn_Sp_liveAfterAll.cls ≠ "java/lang/invoke/MethodHandle" ∧ yn_Sp_liveAfterAll.cls ≠ "java/lang/invoke/VarHandle" ∧ (parseMethodDescriptor yn_Sp_liveAfterAll.desc).map (fun d => d.parameters.length) = some 1 := by decide +kernel
theorem yd_Tx_init : yn_Tx_init.cls ≠ "java/lang/invoke/MethodHandle" ∧ yn_Tx_init.cls ≠ "java/lang/invoke/VarHandle" ∧ (parseMethodDescriptor yn_Tx_init.desc).map (fun d => d.parameters.length) = some 1 := by decide +kernel
theorem yd_Tx_clear : yn_Tx_clear.cls ≠ "java/lang/invoke/MethodHandle" ∧ yn_Tx_clear.cls ≠ "java/lang/invoke/VarHandle" ∧ (parseMethodDescriptor yn_Tx_clear.desc).map (fun d => d.parameters.length) = some 0 := by decide +kernel
theorem yd_Tx_put : yn_Tx_put.cls ≠ "java/lang/invoke/MethodHandle" ∧ yn_Tx_put.cls ≠ "java/lang/invoke/VarHandle" ∧ (parseMethodDescriptor yn_Tx_put.desc).map (fun d => d.parameters.length) = some 1 := by decide +kernel
theorem yd_Tx_at : yn_Tx_at.cls ≠ "java/lang/invoke/MethodHandle" ∧ yn_Tx_at.cls ≠ "java/lang/invoke/VarHandle" ∧ (parseMethodDescriptor yn_Tx_at.desc).map (fun d => d.parameters.length) = some 1 := by decide +kernel
theorem yd_Tr_init : yn_Tr_init.cls ≠ "java/lang/invoke/MethodHandle" ∧ yn_Tr_init.cls ≠ "java/lang/invoke/VarHandle" ∧ (parseMethodDescriptor yn_Tr_init.desc).map (fun d => d.parameters.length) = some 0 := by decide +kernel
theorem yd_Tr_forget : yn_Tr_forget.cls ≠ "java/lang/invoke/MethodHandle" ∧ yn_Tr_forget.cls ≠ "java/lang/invoke/VarHandle" ∧ (parseMethodDescriptor yn_Tr_forget.desc).map (fun d => d.parameters.length) = some 0 := by decide +kernel
theorem yd_Tr_begin : yn_Tr_begin.cls ≠ "java/lang/invoke/MethodHandle" ∧ yn_Tr_begin.cls ≠ "java/lang/invoke/VarHandle" ∧ (parseMethodDescriptor yn_Tr_begin.desc).map (fun d => d.parameters.length) = some 1 := by decide +kernel
theorem yd_Tr_append : yn_Tr_append.cls ≠ "java/lang/invoke/MethodHandle" ∧ yn_Tr_append.cls ≠ "java/lang/invoke/VarHandle" ∧ (parseMethodDescriptor yn_Tr_append.desc).map (fun d => d.parameters.length) = some 2 := by decide +kernel
theorem yd_Tr_countOf : yn_Tr_countOf.cls ≠ "java/lang/invoke/MethodHandle" ∧ yn_Tr_countOf.cls ≠ "java/lang/invoke/VarHandle" ∧ (parseMethodDescriptor yn_Tr_countOf.desc).map (fun d => d.parameters.length) = some 1 := by decide +kernel
theorem yd_Tr_hintAt : yn_Tr_hintAt.cls ≠ "java/lang/invoke/MethodHandle" ∧ yn_Tr_hintAt.cls ≠ "java/lang/invoke/VarHandle" ∧ (parseMethodDescriptor yn_Tr_hintAt.desc).map (fun d => d.parameters.length) = some 2 := by decide +kernel
theorem yd_Tr_replace : yn_Tr_replace.cls ≠ "java/lang/invoke/MethodHandle" ∧ yn_Tr_replace.cls ≠ "java/lang/invoke/VarHandle" ∧ (parseMethodDescriptor yn_Tr_replace.desc).map (fun d => d.parameters.length) = some 3 := by decide +kernel
theorem yd_Vf_init : yn_Vf_init.cls ≠ "java/lang/invoke/MethodHandle" ∧ yn_Vf_init.cls ≠ "java/lang/invoke/VarHandle" ∧ (parseMethodDescriptor yn_Vf_init.desc).map (fun d => d.parameters.length) = some 4 := by decide +kernel
theorem yd_Vf_firstBad : yn_Vf_firstBad.cls ≠ "java/lang/invoke/MethodHandle" ∧ yn_Vf_firstBad.cls ≠ "java/lang/invoke/VarHandle" ∧ (parseMethodDescriptor yn_Vf_firstBad.desc).map (fun d => d.parameters.length) = some 1 := by decide +kernel
theorem yd_Vf_isGood : yn_Vf_isGood.cls ≠ "java/lang/invoke/MethodHandle" ∧ yn_Vf_isGood.cls ≠ "java/lang/invoke/VarHandle" ∧ (parseMethodDescriptor yn_Vf_isGood.desc).map (fun d => d.parameters.length) = some 1 := by decide +kernel
theorem yd_Vf_followsPartners : yn_Vf_followsPartners.cls ≠ "java/lang/invoke/MethodHandle" ∧ yn_Vf_followsPartners.cls ≠ "java/lang/invoke/VarHandle" ∧ (parseMethodDescriptor yn_Vf_followsPartners.desc).map (fun d => d.parameters.length) = some 1 := by decide +kernel
theorem yd_Vf_followsPositives : yn_Vf_followsPositives.cls ≠ "java/lang/invoke/MethodHandle" ∧ yn_Vf_followsPositives.cls ≠ "java/lang/invoke/VarHandle" ∧ (parseMethodDescriptor yn_Vf_followsPositives.desc).map (fun d => d.parameters.length) = some 1 := by decide +kernel
theorem yd_Wd_init : yn_Wd_init.cls ≠ "java/lang/invoke/MethodHandle" ∧ yn_Wd_init.cls ≠ "java/lang/invoke/VarHandle" ∧ (parseMethodDescriptor yn_Wd_init.desc).map (fun d => d.parameters.length) = some 1 := by decide +kernel
theorem yd_Wd_hasWord : yn_Wd_hasWord.cls ≠ "java/lang/invoke/MethodHandle" ∧ yn_Wd_hasWord.cls ≠ "java/lang/invoke/VarHandle" ∧ (parseMethodDescriptor yn_Wd_hasWord.desc).map (fun d => d.parameters.length) = some 0 := by decide +kernel
theorem yd_Wd_advance : yn_Wd_advance.cls ≠ "java/lang/invoke/MethodHandle" ∧ yn_Wd_advance.cls ≠ "java/lang/invoke/VarHandle" ∧ (parseMethodDescriptor yn_Wd_advance.desc).map (fun d => d.parameters.length) = some 0 := by decide +kernel
theorem yd_Wd_skip : yn_Wd_skip.cls ≠ "java/lang/invoke/MethodHandle" ∧ yn_Wd_skip.cls ≠ "java/lang/invoke/VarHandle" ∧ (parseMethodDescriptor yn_Wd_skip.desc).map (fun d => d.parameters.length) = some 1 := by decide +kernel
theorem yd_Wd_integer : yn_Wd_integer.cls ≠ "java/lang/invoke/MethodHandle" ∧ yn_Wd_integer.cls ≠ "java/lang/invoke/VarHandle" ∧ (parseMethodDescriptor yn_Wd_integer.desc).map (fun d => d.parameters.length) = some 0 := by decide +kernel
theorem yd_Wd_gapsEnd : yn_Wd_gapsEnd.cls ≠ "java/lang/invoke/MethodHandle" ∧ yn_Wd_gapsEnd.cls ≠ "java/lang/invoke/VarHandle" ∧ (parseMethodDescriptor yn_Wd_gapsEnd.desc).map (fun d => d.parameters.length) = some 2 := by decide +kernel
theorem yd_Wd_wordsEnd : yn_Wd_wordsEnd.cls ≠ "java/lang/invoke/MethodHandle" ∧ yn_Wd_wordsEnd.cls ≠ "java/lang/invoke/VarHandle" ∧ (parseMethodDescriptor yn_Wd_wordsEnd.desc).map (fun d => d.parameters.length) = some 2 := by decide +kernel
end
section
/-! a text: a row of numbers and how many of them count -/
theorem dc_Tx_clear_0 : decode bc_Tx_clear 0 = .ok (.aload_n 0, 1) := by decide +kernel
theorem dc_Tx_clear_1 : decode bc_Tx_clear 1 = .ok (.iconst 0, 1) := by decide +kernel
theorem dc_Tx_clear_2 : decode bc_Tx_clear 2 = .ok (.putfield 15, 3) := by decide +kernel
theorem dc_Tx_clear_5 : decode bc_Tx_clear 5 = .ok (.return_, 1) := by decide +kernel
theorem dc_Tx_put_0 : decode bc_Tx_put 0 = .ok (.aload_n 0, 1) := by decide +kernel
theorem dc_Tx_put_1 : decode bc_Tx_put 1 = .ok (.getfield 15, 3) := by decide +kernel
theorem dc_Tx_put_4 : decode bc_Tx_put 4 = .ok (.aload_n 0, 1) := by decide +kernel
theorem dc_Tx_put_5 : decode bc_Tx_put 5 = .ok (.getfield 9, 3) := by decide +kernel
theorem dc_Tx_put_8 : decode bc_Tx_put 8 = .ok (.arraylength, 1) := by decide +kernel
theorem dc_Tx_put_9 : decode bc_Tx_put 9 = .ok (.if_icmp .ge (23), 3) := by decide +kernel
theorem dc_Tx_put_12 : decode bc_Tx_put 12 = .ok (.aload_n 0, 1) := by decide +kernel
theorem dc_Tx_put_13 : decode bc_Tx_put 13 = .ok (.getfield 9, 3) := by decide +kernel
theorem dc_Tx_put_16 : decode bc_Tx_put 16 = .ok (.aload_n 0, 1) := by decide +kernel
theorem dc_Tx_put_17 : decode bc_Tx_put 17 = .ok (.getfield 15, 3) := by decide +kernel
theorem dc_Tx_put_20 : decode bc_Tx_put 20 = .ok (.iload_n 1, 1) := by decide +kernel
theorem dc_Tx_put_21 : decode bc_Tx_put 21 = .ok (.iastore, 1) := by decide +kernel
theorem dc_Tx_put_22 : decode bc_Tx_put 22 = .ok (.aload_n 0, 1) := by decide +kernel
theorem dc_Tx_put_23 : decode bc_Tx_put 23 = .ok (.dup, 1) := by decide +kernel
theorem dc_Tx_put_24 : decode bc_Tx_put 24 = .ok (.getfield 15, 3) := by decide +kernel
theorem dc_Tx_put_27 : decode bc_Tx_put 27 = .ok (.iconst 1, 1) := by decide +kernel
theorem dc_Tx_put_28 : decode bc_Tx_put 28 = .ok (.iadd, 1) := by decide +kernel
theorem dc_Tx_put_29 : decode bc_Tx_put 29 = .ok (.putfield 15, 3) := by decide +kernel
theorem dc_Tx_put_32 : decode bc_Tx_put 32 = .ok (.return_, 1) := by decide +kernel
theorem dc_Tx_at_0 : decode bc_Tx_at 0 = .ok (.iload_n 1, 1) := by decide +kernel
theorem dc_Tx_at_1 : decode bc_Tx_at 1 = .ok (.ifCond .lt (20), 3) := by decide +kernel
theorem dc_Tx_at_4 : decode bc_Tx_at 4 = .ok (.iload_n 1, 1) := by decide +kernel
theorem dc_Tx_at_5 : decode bc_Tx_at 5 = .ok (.aload_n 0, 1) := by decide +kernel
theorem dc_Tx_at_6 : decode bc_Tx_at 6 = .ok (.getfield 15, 3) := by decide +kernel
theorem dc_Tx_at_9 : decode bc_Tx_at 9 = .ok (.if_icmp .ge (12), 3) := by decide +kernel
theorem dc_Tx_at_12 : decode bc_Tx_at 12 = .ok (.aload_n 0, 1) := by decide +kernel
theorem dc_Tx_at_13 : decode bc_Tx_at 13 = .ok (.getfield 9, 3) := by decide +kernel
theorem dc_Tx_at_16 : decode bc_Tx_at 16 = .ok (.iload_n 1, 1) := by decide +kernel
theorem dc_Tx_at_17 : decode bc_Tx_at 17 = .ok (.iaload, 1) := by decide +kernel
theorem dc_Tx_at_18 : decode bc_Tx_at 18 = .ok (.goto (6), 3) := by decide +kernel
theorem dc_Tx_at_21 : decode bc_Tx_at 21 = .ok (.sipush (-1000), 3) := by decide +kernel
theorem dc_Tx_at_24 : decode bc_Tx_at 24 = .ok (.ireturn, 1) := by decide +kernel
set_option maxHeartbeats 4000000 in
set_option maxRecDepth 100000 in
theorem ct_Tx_clear (l : Launch) (D : va_G) (cI cZ : ClassId) (sz : Nat) (o : Nat) (a : Nat) (n : Nat)  : Met l yn_Tx_clear (Cond.code yn_Tx_clear bc_Tx_clear 1 none :: kx_all) ({ frames := 0, cells := 0, slots := 0, locals := 0 } : Room) (kp [.ref o] D cI cZ [tx_c o a n] sz) (kw_q none D kc_l [tx_c o a 0] (va_A [tx_c o a n] sz)) 0 0 (va_A [tx_c o a n] sz) := by
  refine kx_metW (by decide) (Nat.le_of_ble_eq_true rfl) ?_
  intro p e s m below meth c ls A hx hb hr hml hts hown hlocks hin hA hP hK hD hN hl hS
  have hown : s.vm.findClass rn_Tx = some m.cls := hown
  have hl : lv_has ls 1 [(0, .ref o)] := hl
  refine lv_aload_n hx hb dc_Tx_clear_0 rfl (lv_at hl 0 rfl) ?_
  refine lv_iconst (v := nI 0) hx hb dc_Tx_clear_1 (by decide +kernel) ?_
  refine va_put (ci := 0) (v := .int (nI 0)) (ty := .int) (C := rn_Tx) (T := fd_Tx) (N := 2) hx hb hts in_Tx ty_Tx tk_Tx nm_Tx hown hK hP hD hS 0 rfl rfl 1 (by decide) (hts _ wd_38) (fun _ h9 => h9) rfl (by decide +kernel) rfl rfl (Nat.le_of_ble_eq_true rfl) dc_Tx_clear_2 (fun H locs hP hD hS => ?_)
  have hP : va_P D kc_l [tx_c o a 0] H := hP
  have hD : va_D A [tx_c o a 0] := hD
  exact kw_vret hx hb hr hlocks hP hD hS dc_Tx_clear_5 (rfl)

set_option maxHeartbeats 4000000 in
set_option maxRecDepth 100000 in
theorem ct_Tx_put (l : Launch) (D : va_G) (cI cZ : ClassId) (sz : Nat) (o : Nat) (a : Nat) (N : Nat) (n : Nat) (t : Nat → Nat) (x : Nat) (hN : N < 2 ^ 31) (hn : n < N) : Met l yn_Tx_put (Cond.code yn_Tx_put bc_Tx_put 2 none :: kx_all) ({ frames := 0, cells := 0, slots := 0, locals := 0 } : Room) (kp [.ref o, .int (nI x)] D cI cZ [tx_c o a n, ar_n cI a N t] sz) (kw_q none D kc_l [tx_c o a (n + 1), ar_n cI a N (va_up t n x)] (va_A [tx_c o a n, ar_n cI a N t] sz)) 0 0 (va_A [tx_c o a n, ar_n cI a N t] sz) := by
  refine kx_metW (by decide) (Nat.le_of_ble_eq_true rfl) ?_
  intro p e s m below meth c ls A hx hb hr hml hts hown hlocks hin hA hP hK hD hN hl hS
  have hown : s.vm.findClass rn_Tx = some m.cls := hown
  have hl : lv_has ls 2 [(0, .ref o), (1, .int (nI x))] := hl
  refine lv_aload_n hx hb dc_Tx_put_0 rfl (lv_at hl 0 rfl) ?_
  refine va_get (ci := 0) (v := .int (nI n)) (C := rn_Tx) (T := fd_Tx) (N := 2) hx hb hts in_Tx hown hK hP 0 rfl rfl 1 (by decide) (hts _ wd_38) (fun _ h9 => h9) rfl dc_Tx_put_1 ?_
  refine lv_aload_n hx hb dc_Tx_put_4 rfl (lv_at hl 0 rfl) ?_
  refine va_get (ci := 0) (v := .ref a) (C := rn_Tx) (T := fd_Tx) (N := 2) hx hb hts in_Tx hown hK hP 0 rfl rfl 0 (by decide) (hts _ wd_37) (fun _ h9 => h9) rfl dc_Tx_put_5 ?_
  refine va_alen (v := nI N) hx hb hK hP 1 0 rfl rfl rfl dc_Tx_put_8 ?_
  refine kn_icmp_ge hx hb (by omega) (by omega) dc_Tx_put_9 rfl (fun hc9 => ?_) (fun hc9 => ?_)
  · exfalso; omega
  · refine lv_aload_n hx hb dc_Tx_put_12 rfl (lv_at hl 0 rfl) ?_
    refine va_get (ci := 0) (v := .ref a) (C := rn_Tx) (T := fd_Tx) (N := 2) hx hb hts in_Tx hown hK hP 0 rfl rfl 0 (by decide) (hts _ wd_37) (fun _ h9 => h9) rfl dc_Tx_put_13 ?_
    refine lv_aload_n hx hb dc_Tx_put_16 rfl (lv_at hl 0 rfl) ?_
    refine va_get (ci := 0) (v := .int (nI n)) (C := rn_Tx) (T := fd_Tx) (N := 2) hx hb hts in_Tx hown hK hP 0 rfl rfl 1 (by decide) (hts _ wd_38) (fun _ h9 => h9) rfl dc_Tx_put_17 ?_
    refine lv_iload_n hx hb dc_Tx_put_20 rfl (lv_at hl 1 rfl) ?_
    refine ka_nast (t := t) hx hb hK hP hD hS 1 0 rfl rfl (j := n) (by omega) (by omega) dc_Tx_put_21 (ws' := [tx_c o a n, ar_n cI a N (va_up t n x)]) rfl (fun H locs hP hD hS => ?_)
    refine lv_aload_n hx hb dc_Tx_put_22 rfl (lv_at hl 0 rfl) ?_
    refine lv_dup hx hb dc_Tx_put_23 rfl ?_
    refine va_get (ci := 0) (v := .int (nI n)) (C := rn_Tx) (T := fd_Tx) (N := 2) hx hb hts in_Tx hown hK hP 0 rfl rfl 1 (by decide) (hts _ wd_38) (fun _ h9 => h9) rfl dc_Tx_put_24 ?_
    refine lv_iconst (v := nI 1) hx hb dc_Tx_put_27 (by decide +kernel) ?_
    refine kn_iadd hx hb dc_Tx_put_28 ?_
    refine va_put (ci := 0) (v := .int (nI (n + 1))) (ty := .int) (C := rn_Tx) (T := fd_Tx) (N := 2) hx hb hts in_Tx ty_Tx tk_Tx nm_Tx hown hK hP hD hS 0 rfl rfl 1 (by decide) (hts _ wd_38) (fun _ h9 => h9) rfl (by decide +kernel) rfl rfl (Nat.le_of_ble_eq_true rfl) dc_Tx_put_29 (fun H locs hP hD hS => ?_)
    have hP : va_P D kc_l [tx_c o a (n + 1), ar_n cI a N (va_up t n x)] H := hP
    have hD : va_D A [tx_c o a (n + 1), ar_n cI a N (va_up t n x)] := hD
    exact kw_vret hx hb hr hlocks hP hD hS dc_Tx_put_32 (rfl)

/-- the byte at a place, or the number that says that there is none -/
def pt_at (t : Nat → Nat) (n : Nat) (i : Int32) : Int32 := if i < 0 ∨ nI n ≤ i then (-1000) else nI (t i.toNatClampNeg)
theorem pt_at_lt {t : Nat → Nat} {n : Nat} {i : Int32} (h : i < 0) : pt_at t n i = (-1000) := if_pos (Or.inl h)
theorem pt_at_ge {t : Nat → Nat} {n : Nat} {i : Int32} (h : nI n ≤ i) (hn : n < 2 ^ 31) : pt_at t n i = (-1000) := if_pos (Or.inr h)
theorem pt_at_in {t : Nat → Nat} {n j : Nat} (h : j < n) (hn : n < 2 ^ 31) : pt_at t n (nI j) = nI (t j) := by
  unfold pt_at
  rw [if_neg, nI_clamp (by omega)]
  rintro (q | q)
  · exact nI_pos (by omega) q
  · exact nI_ge h hn q
theorem pt_at_out {t : Nat → Nat} {n j : Nat} (h : n ≤ j) (hj : j < 2 ^ 31) : pt_at t n (nI j) = (-1000) := if_pos (Or.inr (nI_le h hj))
theorem ni_nlt {n : Nat} {i : Int32} (h : nI n ≤ i) (hn : n < 2 ^ 31) : ¬ i < 0 := by
  intro q
  have h1 := Int32.le_iff_toInt_le.mp h
  have h2 := Int32.lt_iff_toInt_lt.mp q
  rw [nI_toInt hn] at h1
  have h3 : (0 : Int32).toInt = 0 := rfl
  omega

set_option maxHeartbeats 4000000 in
set_option maxRecDepth 100000 in
theorem ct_Tx_at (l : Launch) (D : va_G) (cI cZ : ClassId) (sz : Nat) (o : Nat) (a : Nat) (N : Nat) (n : Nat) (t : Nat → Nat) (i : Int32) (hN : N < 2 ^ 31) (hn : n ≤ N) : Met l yn_Tx_at (Cond.code yn_Tx_at bc_Tx_at 2 (some .int) :: kx_all) ({ frames := 0, cells := 0, slots := 0, locals := 0 } : Room) (kp [.ref o, .int i] D cI cZ [tx_c o a n, ar_n cI a N t] sz) (kr_q (some (.int (pt_at t n i)))) 0 0 (fun _ => False) := by
  refine kx_met (by decide) (Nat.le_of_ble_eq_true rfl) ?_
  intro p e s m below meth c ls hx hb hr hml hts hown hlocks hin hsz hP hK hD hN hl
  have hown : s.vm.findClass rn_Tx = some m.cls := hown
  have hl : lv_has ls 2 [(0, .ref o), (1, .int i)] := hl
  have hn2 : n < 2 ^ 31 := by omega
  rcases pk_ix i (show n < 2 ^ 31 by omega) with hi | hi | ⟨j, hj, rfl⟩
  · refine lv_iload_n hx hb dc_Tx_at_0 rfl (lv_at hl 1 rfl) ?_
    refine lv_if_lt hx hb dc_Tx_at_1 rfl (fun hc1 => ?_) (fun hc1 => ?_)
    · refine lv_sipush (v := (-1000)) hx hb dc_Tx_at_21 (by decide +kernel) ?_
      exact kr_iret hx hb hr hlocks dc_Tx_at_24 ((pt_at_lt hi).symm)
    · exact absurd hi hc1
  · refine lv_iload_n hx hb dc_Tx_at_0 rfl (lv_at hl 1 rfl) ?_
    refine lv_if_lt hx hb dc_Tx_at_1 rfl (fun hc1 => ?_) (fun hc1 => ?_)
    · exfalso; exact absurd hc1 (ni_nlt hi hn2)
    · refine lv_iload_n hx hb dc_Tx_at_4 rfl (lv_at hl 1 rfl) ?_
      refine lv_aload_n hx hb dc_Tx_at_5 rfl (lv_at hl 0 rfl) ?_
      refine va_get (ci := 0) (v := .int (nI n)) (C := rn_Tx) (T := fd_Tx) (N := 2) hx hb hts in_Tx hown hK hP 0 rfl rfl 1 (by decide) (hts _ wd_38) (fun _ h9 => h9) rfl dc_Tx_at_6 ?_
      refine lv_icmp_ge hx hb dc_Tx_at_9 rfl (fun hc9 => ?_) (fun hc9 => ?_)
      · refine lv_sipush (v := (-1000)) hx hb dc_Tx_at_21 (by decide +kernel) ?_
        exact kr_iret hx hb hr hlocks dc_Tx_at_24 ((pt_at_ge hi hn2).symm)
      · exact absurd hi hc9
  · refine lv_iload_n hx hb dc_Tx_at_0 rfl (lv_at hl 1 rfl) ?_
    refine lv_if_lt hx hb dc_Tx_at_1 rfl (fun hc1 => ?_) (fun hc1 => ?_)
    · exact absurd hc1 (nI_pos (by omega))
    · refine lv_iload_n hx hb dc_Tx_at_4 rfl (lv_at hl 1 rfl) ?_
      refine lv_aload_n hx hb dc_Tx_at_5 rfl (lv_at hl 0 rfl) ?_
      refine va_get (ci := 0) (v := .int (nI n)) (C := rn_Tx) (T := fd_Tx) (N := 2) hx hb hts in_Tx hown hK hP 0 rfl rfl 1 (by decide) (hts _ wd_38) (fun _ h9 => h9) rfl dc_Tx_at_6 ?_
      refine kn_icmp_ge hx hb (by omega) (by omega) dc_Tx_at_9 rfl (fun hc9 => ?_) (fun hc9 => ?_)
      · exfalso; omega
      · refine lv_aload_n hx hb dc_Tx_at_12 rfl (lv_at hl 0 rfl) ?_
        refine va_get (ci := 0) (v := .ref a) (C := rn_Tx) (T := fd_Tx) (N := 2) hx hb hts in_Tx hown hK hP 0 rfl rfl 0 (by decide) (hts _ wd_37) (fun _ h9 => h9) rfl dc_Tx_at_13 ?_
        refine lv_iload_n hx hb dc_Tx_at_16 rfl (lv_at hl 1 rfl) ?_
        refine ka_nald (t := t) hx hb hK hP 1 0 rfl rfl (j := j) (by omega) (by omega) dc_Tx_at_17 ?_
        refine lv_goto hx hb dc_Tx_at_18 rfl ?_
        exact kr_iret hx hb hr hlocks dc_Tx_at_24 ((pt_at_in hj hn2).symm)

theorem ct_Tx_atn (l : Launch) (D : va_G) (cI cZ : ClassId) (sz : Nat) (o : Nat) (a : Nat) (N : Nat) (n : Nat) (t : Nat → Nat) (j : Nat) (hN : N < 2 ^ 31) (hn : n ≤ N) (hj : j < n) : Met l yn_Tx_at (Cond.code yn_Tx_at bc_Tx_at 2 (some .int) :: kx_all) ({ frames := 0, cells := 0, slots := 0, locals := 0 } : Room) (kp [.ref o, .int (nI j)] D cI cZ [tx_c o a n, ar_n cI a N t] sz) (kr_q (some (.int (nI (t j))))) 0 0 (fun _ => False) := by
  have h := ct_Tx_at l D cI cZ sz o a N n t (nI j) hN hn
  rw [pt_at_in hj (by omega)] at h
  exact h
end
section
/-! the small functions on sets -/
section KQ
variable {p : Program} {l : Launch} {e : Env} {R : Room} {s : State} {m : MethodId} {args : Array Value} {below : List Frame} {meth : Method} {c : Code} {H : Heap} {locs : List Loc} {cells slots : Nat} {Q : State → Prop}
variable {cc : ByteArray} {pc : Nat} {ls : Array Slot} {rest : List Value}
theorem kn_ldc (hexec : p.tables.exec = Jvm.exec) (hb : c.code = cc) {own : String} {index : Nat} {v y : Int32} (hown : s.vm.findClass own = some m.cls) (hconst : (Jvm.Cond.constant own index v).before args s = true) (hdg : decode cc pc = .ok (.ldc index, 2)) (h : v = y) (k : W p l e R s m args below meth c H locs cells slots Q (F0 m (pc + 2) ls (.int y :: rest))) : W p l e R s m args below meth c H locs cells slots Q (F0 m pc ls rest) := by
  subst h
  exact lv_ldc hexec hb hown hconst hdg k
theorem kl_ldc2 (hexec : p.tables.exec = Jvm.exec) (hb : c.code = cc) {own : String} {index : Nat} {v y : Int64} (hown : s.vm.findClass own = some m.cls) (hconst : (Jvm.Cond.constantLong own index v).before args s = true) (hdg : decode cc pc = .ok (.ldc2_w index, 3)) (h : v = y) (k : W p l e R s m args below meth c H locs cells slots Q (F0 m (pc + 3) ls (.long y :: rest))) : W p l e R s m args below meth c H locs cells slots Q (F0 m pc ls rest) := by
  subst h
  exact lv_ldc2 hexec hb hown hconst hdg k
end KQ
/-- the literal of a bit: 1 .. 8, then -1 .. -8 -/
def pt_lit (b : Nat) : Int32 := if b < 8 then nI (b + 1) else -(nI (b - 7))
theorem pt_lit_pos : ∀ b, b < 8 → ¬ pt_lit b ≤ 0 := by decide +kernel
theorem pt_lit_neg : ∀ b, b < 16 → ¬ b < 8 → pt_lit b ≤ 0 := by decide +kernel
theorem pt_lit_p1 : ∀ b, b < 8 → pt_lit b - nI 1 = nI b := by decide +kernel
theorem pt_lit_7 : ∀ b, b < 16 → ¬ b < 8 → nI 7 - pt_lit b = nI b := by decide +kernel
theorem pt_lit_op : ∀ b, b < 16 → -(pt_lit b) = pt_lit ((b + 8) % 16) := by decide +kernel
theorem pt_bit0 {a k : Nat} (ha : a < 2 ^ 62) (hk : k < 62) : lg_cmp (lN (a &&& 2 ^ k)) (lN 0) = 0 ↔ a.testBit k = false := by
  rw [lg_cmp_eq]
  have h1 : a &&& 2 ^ k < 2 ^ 64 := Nat.lt_of_le_of_lt Nat.and_le_left (Nat.lt_trans ha (by decide))
  constructor
  · intro h
    have h2 := (lN_z h1).mp h
    have h3 : (a &&& 2 ^ k).testBit k = false := by rw [h2]; exact Nat.zero_testBit k
    rw [Nat.testBit_and, Nat.testBit_two_pow_self, Bool.and_true] at h3
    exact h3
  · intro h
    apply (lN_z h1).mpr
    apply Nat.eq_of_testBit_eq
    intro i
    rw [Nat.testBit_and, Nat.testBit_two_pow, Nat.zero_testBit]
    by_cases hi : k = i
    · subst hi; rw [h]; rfl
    · rw [decide_eq_false hi, Bool.and_false]

theorem dc_Pt_only_0 : decode bc_Pt_only 0 = .ok (.iconst 1, 1) := by decide +kernel
theorem dc_Pt_only_1 : decode bc_Pt_only 1 = .ok (.iload_n 0, 1) := by decide +kernel
theorem dc_Pt_only_2 : decode bc_Pt_only 2 = .ok (.ifCond .le (9), 3) := by decide +kernel
theorem dc_Pt_only_5 : decode bc_Pt_only 5 = .ok (.iload_n 0, 1) := by decide +kernel
theorem dc_Pt_only_6 : decode bc_Pt_only 6 = .ok (.iconst 1, 1) := by decide +kernel
theorem dc_Pt_only_7 : decode bc_Pt_only 7 = .ok (.isub, 1) := by decide +kernel
theorem dc_Pt_only_8 : decode bc_Pt_only 8 = .ok (.goto (7), 3) := by decide +kernel
theorem dc_Pt_only_11 : decode bc_Pt_only 11 = .ok (.bipush (7), 2) := by decide +kernel
theorem dc_Pt_only_13 : decode bc_Pt_only 13 = .ok (.iload_n 0, 1) := by decide +kernel
theorem dc_Pt_only_14 : decode bc_Pt_only 14 = .ok (.isub, 1) := by decide +kernel
theorem dc_Pt_only_15 : decode bc_Pt_only 15 = .ok (.ishl, 1) := by decide +kernel
theorem dc_Pt_only_16 : decode bc_Pt_only 16 = .ok (.ireturn, 1) := by decide +kernel
theorem dc_Pt_opposites_0 : decode bc_Pt_opposites 0 = .ok (.iload_n 0, 1) := by decide +kernel
theorem dc_Pt_opposites_1 : decode bc_Pt_opposites 1 = .ok (.bipush (8), 2) := by decide +kernel
theorem dc_Pt_opposites_3 : decode bc_Pt_opposites 3 = .ok (.iushr, 1) := by decide +kernel
theorem dc_Pt_opposites_4 : decode bc_Pt_opposites 4 = .ok (.iload_n 0, 1) := by decide +kernel
theorem dc_Pt_opposites_5 : decode bc_Pt_opposites 5 = .ok (.bipush (8), 2) := by decide +kernel
theorem dc_Pt_opposites_7 : decode bc_Pt_opposites 7 = .ok (.ishl, 1) := by decide +kernel
theorem dc_Pt_opposites_8 : decode bc_Pt_opposites 8 = .ok (.ldc 214, 2) := by decide +kernel
theorem dc_Pt_opposites_10 : decode bc_Pt_opposites 10 = .ok (.iand, 1) := by decide +kernel
theorem dc_Pt_opposites_11 : decode bc_Pt_opposites 11 = .ok (.ior, 1) := by decide +kernel
theorem dc_Pt_opposites_12 : decode bc_Pt_opposites 12 = .ok (.ireturn, 1) := by decide +kernel
theorem dc_Pt_one_0 : decode bc_Pt_one 0 = .ok (.lconst 1, 1) := by decide +kernel
theorem dc_Pt_one_1 : decode bc_Pt_one 1 = .ok (.iload_n 0, 1) := by decide +kernel
theorem dc_Pt_one_2 : decode bc_Pt_one 2 = .ok (.lshl, 1) := by decide +kernel
theorem dc_Pt_one_3 : decode bc_Pt_one 3 = .ok (.lreturn, 1) := by decide +kernel
theorem dc_Pt_firstOnes_0 : decode bc_Pt_firstOnes 0 = .ok (.lconst 1, 1) := by decide +kernel
theorem dc_Pt_firstOnes_1 : decode bc_Pt_firstOnes 1 = .ok (.iload_n 0, 1) := by decide +kernel
theorem dc_Pt_firstOnes_2 : decode bc_Pt_firstOnes 2 = .ok (.iconst 1, 1) := by decide +kernel
theorem dc_Pt_firstOnes_3 : decode bc_Pt_firstOnes 3 = .ok (.iadd, 1) := by decide +kernel
theorem dc_Pt_firstOnes_4 : decode bc_Pt_firstOnes 4 = .ok (.lshl, 1) := by decide +kernel
theorem dc_Pt_firstOnes_5 : decode bc_Pt_firstOnes 5 = .ok (.ldc2_w 215, 3) := by decide +kernel
theorem dc_Pt_firstOnes_8 : decode bc_Pt_firstOnes 8 = .ok (.lsub, 1) := by decide +kernel
theorem dc_Pt_firstOnes_9 : decode bc_Pt_firstOnes 9 = .ok (.lreturn, 1) := by decide +kernel
theorem dc_Pt_contains_0 : decode bc_Pt_contains 0 = .ok (.lload_n 0, 1) := by decide +kernel
theorem dc_Pt_contains_1 : decode bc_Pt_contains 1 = .ok (.lconst 1, 1) := by decide +kernel
theorem dc_Pt_contains_2 : decode bc_Pt_contains 2 = .ok (.iload_n 2, 1) := by decide +kernel
theorem dc_Pt_contains_3 : decode bc_Pt_contains 3 = .ok (.lshl, 1) := by decide +kernel
theorem dc_Pt_contains_4 : decode bc_Pt_contains 4 = .ok (.land, 1) := by decide +kernel
theorem dc_Pt_contains_5 : decode bc_Pt_contains 5 = .ok (.lconst 0, 1) := by decide +kernel
theorem dc_Pt_contains_6 : decode bc_Pt_contains 6 = .ok (.lcmp, 1) := by decide +kernel
theorem dc_Pt_contains_7 : decode bc_Pt_contains 7 = .ok (.ifCond .eq (7), 3) := by decide +kernel
theorem dc_Pt_contains_10 : decode bc_Pt_contains 10 = .ok (.iconst 1, 1) := by decide +kernel
theorem dc_Pt_contains_11 : decode bc_Pt_contains 11 = .ok (.goto (4), 3) := by decide +kernel
theorem dc_Pt_contains_14 : decode bc_Pt_contains 14 = .ok (.iconst 0, 1) := by decide +kernel
theorem dc_Pt_contains_15 : decode bc_Pt_contains 15 = .ok (.ireturn, 1) := by decide +kernel
set_option maxHeartbeats 4000000 in
set_option maxRecDepth 100000 in
theorem ct_Pt_only (l : Launch) (D : va_G) (cI cZ : ClassId) (sz : Nat) (b : Nat) (hb16 : b < 16) : Met l yn_Pt_only (Cond.code yn_Pt_only bc_Pt_only 1 (some .int) :: kx_all) ({ frames := 0, cells := 0, slots := 0, locals := 0 } : Room) (kp [.int (pt_lit b)] D cI cZ [] sz) (kr_q (some (.int (nI (2 ^ b))))) 0 0 (fun _ => False) := by
  refine kx_met (by decide) (Nat.le_of_ble_eq_true rfl) ?_
  intro p e s m below meth c ls hx hb hr hml hts hown hlocks hin hsz hP hK hD hN hl
  have hown : s.vm.findClass rn_Pt = some m.cls := hown
  have hl : lv_has ls 1 [(0, .int (pt_lit b))] := hl
  by_cases h8 : b < 8
  · refine lv_iconst (v := nI 1) hx hb dc_Pt_only_0 (by decide +kernel) ?_
    refine lv_iload_n hx hb dc_Pt_only_1 rfl (lv_at hl 0 rfl) ?_
    refine lv_if_le hx hb dc_Pt_only_2 rfl (fun hc2 => ?_) (fun hc2 => ?_)
    · exact absurd hc2 (pt_lit_pos b h8)
    · refine lv_iload_n hx hb dc_Pt_only_5 rfl (lv_at hl 0 rfl) ?_
      refine lv_iconst (v := nI 1) hx hb dc_Pt_only_6 (by decide +kernel) ?_
      refine lv_isub hx hb dc_Pt_only_7 ?_
      refine kn_top (y := nI b) (pt_lit_p1 b h8) ?_
      refine lv_goto hx hb dc_Pt_only_8 rfl ?_
      refine lv_ishl hx hb dc_Pt_only_15 ?_
      refine kn_top (y := nI (2 ^ b)) (nb_shl1 b (by omega)) ?_
      exact kr_iret hx hb hr hlocks dc_Pt_only_16 (rfl)
  · refine lv_iconst (v := nI 1) hx hb dc_Pt_only_0 (by decide +kernel) ?_
    refine lv_iload_n hx hb dc_Pt_only_1 rfl (lv_at hl 0 rfl) ?_
    refine lv_if_le hx hb dc_Pt_only_2 rfl (fun hc2 => ?_) (fun hc2 => ?_)
    · refine lv_bipush (v := nI 7) hx hb dc_Pt_only_11 (by decide +kernel) ?_
      refine lv_iload_n hx hb dc_Pt_only_13 rfl (lv_at hl 0 rfl) ?_
      refine lv_isub hx hb dc_Pt_only_14 ?_
      refine kn_top (y := nI b) (pt_lit_7 b hb16 h8) ?_
      refine lv_ishl hx hb dc_Pt_only_15 ?_
      refine kn_top (y := nI (2 ^ b)) (nb_shl1 b (by omega)) ?_
      exact kr_iret hx hb hr hlocks dc_Pt_only_16 (rfl)
    · exact absurd (pt_lit_neg b hb16 h8) hc2

set_option maxHeartbeats 4000000 in
set_option maxRecDepth 100000 in
theorem ct_Pt_opposites (l : Launch) (D : va_G) (cI cZ : ClassId) (sz : Nat) (x : Nat) (hx16 : x < 65536) : Met l yn_Pt_opposites (Cond.code yn_Pt_opposites bc_Pt_opposites 1 (some .int) :: kx_all) ({ frames := 0, cells := 0, slots := 0, locals := 0 } : Room) (kp [.int (nI x)] D cI cZ [] sz) (kr_q (some (.int (nI (nb_op x))))) 0 0 (fun _ => False) := by
  refine kx_met (by decide) (Nat.le_of_ble_eq_true rfl) ?_
  intro p e s m below meth c ls hx hb hr hml hts hown hlocks hin hsz hP hK hD hN hl
  have hown : s.vm.findClass rn_Pt = some m.cls := hown
  have hl : lv_has ls 1 [(0, .int (nI x))] := hl
  refine lv_iload_n hx hb dc_Pt_opposites_0 rfl (lv_at hl 0 rfl) ?_
  refine lv_bipush (v := nI 8) hx hb dc_Pt_opposites_1 (by decide +kernel) ?_
  refine lv_iushr hx hb dc_Pt_opposites_3 rfl ?_
  refine lv_iload_n hx hb dc_Pt_opposites_4 rfl (lv_at hl 0 rfl) ?_
  refine lv_bipush (v := nI 8) hx hb dc_Pt_opposites_5 (by decide +kernel) ?_
  refine lv_ishl hx hb dc_Pt_opposites_7 ?_
  refine kn_ldc (y := nI 65280) hx hb hown (hts _ wd_614) dc_Pt_opposites_8 (by decide +kernel) ?_
  refine lv_iand hx hb dc_Pt_opposites_10 ?_
  refine lv_ior hx hb dc_Pt_opposites_11 ?_
  refine kn_top (y := nI (nb_op x)) (nb_op_i hx16) ?_
  exact kr_iret hx hb hr hlocks dc_Pt_opposites_12 (rfl)

set_option maxHeartbeats 4000000 in
set_option maxRecDepth 100000 in
theorem ct_Pt_one (l : Launch) (D : va_G) (cI cZ : ClassId) (sz : Nat) (k : Nat) (hk : k < 62) : Met l yn_Pt_one (Cond.code yn_Pt_one bc_Pt_one 1 (some .long) :: kx_all) ({ frames := 0, cells := 0, slots := 0, locals := 0 } : Room) (kp [.int (nI k)] D cI cZ [] sz) (kr_q (some (.long (lN (2 ^ k))))) 0 0 (fun _ => False) := by
  refine kx_met (by decide) (Nat.le_of_ble_eq_true rfl) ?_
  intro p e s m below meth c ls hx hb hr hml hts hown hlocks hin hsz hP hK hD hN hl
  have hown : s.vm.findClass rn_Pt = some m.cls := hown
  have hl : lv_has ls 1 [(0, .int (nI k))] := hl
  refine lv_lconst (v := lN 1) hx hb dc_Pt_one_0 (by decide +kernel) ?_
  refine lv_iload_n hx hb dc_Pt_one_1 rfl (lv_at hl 0 rfl) ?_
  refine lv_lshl hx hb dc_Pt_one_2 rfl ?_
  refine kl_top (y := lN (2 ^ k)) (lb_shl1 k hk) ?_
  exact kr_lret hx hb hr hlocks dc_Pt_one_3 (rfl)

set_option maxHeartbeats 4000000 in
set_option maxRecDepth 100000 in
theorem ct_Pt_firstOnes (l : Launch) (D : va_G) (cI cZ : ClassId) (sz : Nat) (k : Nat) (hk : k < 61) : Met l yn_Pt_firstOnes (Cond.code yn_Pt_firstOnes bc_Pt_firstOnes 1 (some .long) :: kx_all) ({ frames := 0, cells := 0, slots := 0, locals := 0 } : Room) (kp [.int (nI k)] D cI cZ [] sz) (kr_q (some (.long (lN (2 ^ (k + 1) - 2))))) 0 0 (fun _ => False) := by
  refine kx_met (by decide) (Nat.le_of_ble_eq_true rfl) ?_
  intro p e s m below meth c ls hx hb hr hml hts hown hlocks hin hsz hP hK hD hN hl
  have hown : s.vm.findClass rn_Pt = some m.cls := hown
  have hl : lv_has ls 1 [(0, .int (nI k))] := hl
  refine lv_lconst (v := lN 1) hx hb dc_Pt_firstOnes_0 (by decide +kernel) ?_
  refine lv_iload_n hx hb dc_Pt_firstOnes_1 rfl (lv_at hl 0 rfl) ?_
  refine lv_iconst (v := nI 1) hx hb dc_Pt_firstOnes_2 (by decide +kernel) ?_
  refine kn_iadd hx hb dc_Pt_firstOnes_3 ?_
  refine lv_lshl hx hb dc_Pt_firstOnes_4 rfl ?_
  refine kl_top (y := lN (2 ^ (k + 1))) (lb_shl1 (k + 1) (by omega)) ?_
  refine kl_ldc2 (y := lN 2) hx hb hown (hts _ wd_551) dc_Pt_firstOnes_5 (by decide +kernel) ?_
  refine lv_lsub hx hb dc_Pt_firstOnes_8 ?_
  refine kl_top (y := lN (2 ^ (k + 1) - 2)) (lN_sub (by have h9 : 2 ^ 1 ≤ 2 ^ (k + 1) := Nat.pow_le_pow_right (by decide) (by omega); omega)) ?_
  exact kr_lret hx hb hr hlocks dc_Pt_firstOnes_9 (rfl)

set_option maxHeartbeats 4000000 in
set_option maxRecDepth 100000 in
theorem ct_Pt_contains (l : Launch) (D : va_G) (cI cZ : ClassId) (sz : Nat) (a : Nat) (k : Nat) (ha : a < 2 ^ 62) (hk : k < 62) : Met l yn_Pt_contains (Cond.code yn_Pt_contains bc_Pt_contains 3 (some .boolean) :: kx_all) ({ frames := 0, cells := 0, slots := 0, locals := 0 } : Room) (kp [.long (lN a), .int (nI k)] D cI cZ [] sz) (kr_q (some (.int (kb_i (a.testBit k))))) 0 0 (fun _ => False) := by
  refine kx_met (by decide) (Nat.le_of_ble_eq_true rfl) ?_
  intro p e s m below meth c ls hx hb hr hml hts hown hlocks hin hsz hP hK hD hN hl
  have hown : s.vm.findClass rn_Pt = some m.cls := hown
  have hl : lv_has ls 3 [(0, .long (lN a)), (2, .int (nI k))] := hl
  refine lv_lload_n hx hb dc_Pt_contains_0 rfl (lv_at hl 0 rfl) ?_
  refine lv_lconst (v := lN 1) hx hb dc_Pt_contains_1 (by decide +kernel) ?_
  refine lv_iload_n hx hb dc_Pt_contains_2 rfl (lv_at hl 1 rfl) ?_
  refine lv_lshl hx hb dc_Pt_contains_3 rfl ?_
  refine kl_top (y := lN (2 ^ k)) (lb_shl1 k hk) ?_
  refine kl_land hx hb dc_Pt_contains_4 ?_
  refine lv_lconst (v := lN 0) hx hb dc_Pt_contains_5 (by decide +kernel) ?_
  refine W.lcmp hx hb dc_Pt_contains_6 ?_
  refine lv_if_eq hx hb dc_Pt_contains_7 rfl (fun hc7 => ?_) (fun hc7 => ?_)
  · refine lv_iconst (v := nI 0) hx hb dc_Pt_contains_14 (by decide +kernel) ?_
    refine kn_top (y := kb_i false) (by decide +kernel) ?_
    exact kr_zret hx hb hr hlocks dc_Pt_contains_15 (((pt_bit0 ha hk).mp hc7).symm)
  · refine lv_iconst (v := nI 1) hx hb dc_Pt_contains_10 (by decide +kernel) ?_
    refine lv_goto hx hb dc_Pt_contains_11 rfl ?_
    refine kn_top (y := kb_i true) (by decide +kernel) ?_
    exact kr_zret hx hb hr hlocks dc_Pt_contains_15 ((by cases h9 : a.testBit k with | true => rfl | false => exact absurd ((pt_bit0 ha hk).mpr h9) hc7))
end
section
/-! the words of a text -/
def pt_intv (t : Nat → Nat) (a b : Nat) : Int32 := (pt_int t a b).getD (-1000)
theorem iv_n {t : Nat → Nat} {a b : Nat} (h : a < b ∧ t a = 45) : pt_intv t a b = if b ≤ a + 1 ∨ 3 < b - a ∨ t (a + 1) = 48 then (-1000) else ((pt_dg t (b - (a + 1)) (a + 1) 0).map (fun v => -(nI v))).getD (-1000) := by
  unfold pt_intv pt_int
  rw [if_pos h]
  split <;> rfl
theorem iv_p {t : Nat → Nat} {a b : Nat} (h : ¬ (a < b ∧ t a = 45)) : pt_intv t a b = if b ≤ a ∨ 3 < b - a ∨ (t a = 48 ∧ 1 < b - a) then (-1000) else ((pt_dg t (b - a) a 0).map (fun v => nI v)).getD (-1000) := by
  unfold pt_intv pt_int
  rw [if_neg h]
  split <;> rfl
theorem dg_no {t : Nat → Nat} {e i v : Nat} (h : i < e) (hd : ¬ (48 ≤ t i ∧ t i ≤ 57)) : pt_dg t (e - i) i v = none := by
  obtain ⟨k, hk⟩ : ∃ k, e - i = k + 1 := ⟨e - i - 1, by omega⟩
  rw [hk, pt_dg, if_neg hd]
theorem dg_st {t : Nat → Nat} {e i v : Nat} (h : i < e) (hd : 48 ≤ t i ∧ t i ≤ 57) : pt_dg t (e - i) i v = pt_dg t (e - (i + 1)) (i + 1) (v * 10 + (t i - 48)) := by
  obtain ⟨k, hk⟩ : ∃ k, e - i = k + 1 := ⟨e - i - 1, by omega⟩
  have hk2 : e - (i + 1) = k := by omega
  rw [hk, hk2, pt_dg, if_pos hd]
theorem dg_en {t : Nat → Nat} {e i v : Nat} (h : e ≤ i) : pt_dg t (e - i) i v = some v := by
  rw [show e - i = 0 by omega, pt_dg]

theorem ws_step {t : Nat → Nat} {n i : Nat} (h : i < n) (hg : pt_gap (t i) = true) : pt_ws t n i = pt_ws t n (i + 1) := pt_skip_step h hg
theorem ws_stop {t : Nat → Nat} {n i : Nat} (h : ¬ (i < n ∧ pt_gap (t i) = true)) : pt_ws t n i = i := pt_skip_stop h
theorem we_step {t : Nat → Nat} {n i : Nat} (h : i < n) (hg : (!pt_gap (t i)) = true) : pt_we t n i = pt_we t n (i + 1) := pt_skip_step h hg
theorem we_stop {t : Nat → Nat} {n i : Nat} (h : ¬ (i < n ∧ (!pt_gap (t i)) = true)) : pt_we t n i = i := pt_skip_stop h
theorem ws_ge (t : Nat → Nat) (n i : Nat) : i ≤ pt_ws t n i := pt_skip_ge _ n i
theorem ws_le {t : Nat → Nat} {n i : Nat} (h : i ≤ n) : pt_ws t n i ≤ n := pt_skip_le h
theorem we_ge (t : Nat → Nat) (n i : Nat) : i ≤ pt_we t n i := pt_skip_ge _ n i
theorem we_le {t : Nat → Nat} {n i : Nat} (h : i ≤ n) : pt_we t n i ≤ n := pt_skip_le h

theorem dc_Wd_gapsEnd_0 : decode bc_Wd_gapsEnd 0 = .ok (.iload_n 1, 1) := by decide +kernel
theorem dc_Wd_gapsEnd_1 : decode bc_Wd_gapsEnd 1 = .ok (.istore_n 2, 1) := by decide +kernel
theorem dc_Wd_gapsEnd_2 : decode bc_Wd_gapsEnd 2 = .ok (.iload_n 2, 1) := by decide +kernel
theorem dc_Wd_gapsEnd_3 : decode bc_Wd_gapsEnd 3 = .ok (.aload_n 0, 1) := by decide +kernel
theorem dc_Wd_gapsEnd_4 : decode bc_Wd_gapsEnd 4 = .ok (.getfield 48, 3) := by decide +kernel
theorem dc_Wd_gapsEnd_7 : decode bc_Wd_gapsEnd 7 = .ok (.if_icmp .ge (29), 3) := by decide +kernel
theorem dc_Wd_gapsEnd_10 : decode bc_Wd_gapsEnd 10 = .ok (.aload_n 0, 1) := by decide +kernel
theorem dc_Wd_gapsEnd_11 : decode bc_Wd_gapsEnd 11 = .ok (.iload_n 2, 1) := by decide +kernel
theorem dc_Wd_gapsEnd_12 : decode bc_Wd_gapsEnd 12 = .ok (.invokevirtual 35, 3) := by decide +kernel
theorem dc_Wd_gapsEnd_15 : decode bc_Wd_gapsEnd 15 = .ok (.bipush (32), 2) := by decide +kernel
theorem dc_Wd_gapsEnd_17 : decode bc_Wd_gapsEnd 17 = .ok (.if_icmp .eq (13), 3) := by decide +kernel
theorem dc_Wd_gapsEnd_20 : decode bc_Wd_gapsEnd 20 = .ok (.aload_n 0, 1) := by decide +kernel
theorem dc_Wd_gapsEnd_21 : decode bc_Wd_gapsEnd 21 = .ok (.iload_n 2, 1) := by decide +kernel
theorem dc_Wd_gapsEnd_22 : decode bc_Wd_gapsEnd 22 = .ok (.invokevirtual 35, 3) := by decide +kernel
theorem dc_Wd_gapsEnd_25 : decode bc_Wd_gapsEnd 25 = .ok (.bipush (10), 2) := by decide +kernel
theorem dc_Wd_gapsEnd_27 : decode bc_Wd_gapsEnd 27 = .ok (.if_icmp .ne (9), 3) := by decide +kernel
theorem dc_Wd_gapsEnd_30 : decode bc_Wd_gapsEnd 30 = .ok (.iinc 2 (1), 3) := by decide +kernel
theorem dc_Wd_gapsEnd_33 : decode bc_Wd_gapsEnd 33 = .ok (.goto (-31), 3) := by decide +kernel
theorem dc_Wd_gapsEnd_36 : decode bc_Wd_gapsEnd 36 = .ok (.iload_n 2, 1) := by decide +kernel
theorem dc_Wd_gapsEnd_37 : decode bc_Wd_gapsEnd 37 = .ok (.ireturn, 1) := by decide +kernel
theorem dc_Wd_wordsEnd_0 : decode bc_Wd_wordsEnd 0 = .ok (.iload_n 1, 1) := by decide +kernel
theorem dc_Wd_wordsEnd_1 : decode bc_Wd_wordsEnd 1 = .ok (.istore_n 2, 1) := by decide +kernel
theorem dc_Wd_wordsEnd_2 : decode bc_Wd_wordsEnd 2 = .ok (.iload_n 2, 1) := by decide +kernel
theorem dc_Wd_wordsEnd_3 : decode bc_Wd_wordsEnd 3 = .ok (.aload_n 0, 1) := by decide +kernel
theorem dc_Wd_wordsEnd_4 : decode bc_Wd_wordsEnd 4 = .ok (.getfield 48, 3) := by decide +kernel
theorem dc_Wd_wordsEnd_7 : decode bc_Wd_wordsEnd 7 = .ok (.if_icmp .ge (29), 3) := by decide +kernel
theorem dc_Wd_wordsEnd_10 : decode bc_Wd_wordsEnd 10 = .ok (.aload_n 0, 1) := by decide +kernel
theorem dc_Wd_wordsEnd_11 : decode bc_Wd_wordsEnd 11 = .ok (.iload_n 2, 1) := by decide +kernel
theorem dc_Wd_wordsEnd_12 : decode bc_Wd_wordsEnd 12 = .ok (.invokevirtual 35, 3) := by decide +kernel
theorem dc_Wd_wordsEnd_15 : decode bc_Wd_wordsEnd 15 = .ok (.bipush (32), 2) := by decide +kernel
theorem dc_Wd_wordsEnd_17 : decode bc_Wd_wordsEnd 17 = .ok (.if_icmp .eq (19), 3) := by decide +kernel
theorem dc_Wd_wordsEnd_20 : decode bc_Wd_wordsEnd 20 = .ok (.aload_n 0, 1) := by decide +kernel
theorem dc_Wd_wordsEnd_21 : decode bc_Wd_wordsEnd 21 = .ok (.iload_n 2, 1) := by decide +kernel
theorem dc_Wd_wordsEnd_22 : decode bc_Wd_wordsEnd 22 = .ok (.invokevirtual 35, 3) := by decide +kernel
theorem dc_Wd_wordsEnd_25 : decode bc_Wd_wordsEnd 25 = .ok (.bipush (10), 2) := by decide +kernel
theorem dc_Wd_wordsEnd_27 : decode bc_Wd_wordsEnd 27 = .ok (.if_icmp .eq (9), 3) := by decide +kernel
theorem dc_Wd_wordsEnd_30 : decode bc_Wd_wordsEnd 30 = .ok (.iinc 2 (1), 3) := by decide +kernel
theorem dc_Wd_wordsEnd_33 : decode bc_Wd_wordsEnd 33 = .ok (.goto (-31), 3) := by decide +kernel
theorem dc_Wd_wordsEnd_36 : decode bc_Wd_wordsEnd 36 = .ok (.iload_n 2, 1) := by decide +kernel
theorem dc_Wd_wordsEnd_37 : decode bc_Wd_wordsEnd 37 = .ok (.ireturn, 1) := by decide +kernel
theorem dc_Wd_hasWord_0 : decode bc_Wd_hasWord 0 = .ok (.aload_n 0, 1) := by decide +kernel
theorem dc_Wd_hasWord_1 : decode bc_Wd_hasWord 1 = .ok (.getfield 19, 3) := by decide +kernel
theorem dc_Wd_hasWord_4 : decode bc_Wd_hasWord 4 = .ok (.aload_n 0, 1) := by decide +kernel
theorem dc_Wd_hasWord_5 : decode bc_Wd_hasWord 5 = .ok (.getfield 26, 3) := by decide +kernel
theorem dc_Wd_hasWord_8 : decode bc_Wd_hasWord 8 = .ok (.if_icmp .ge (7), 3) := by decide +kernel
theorem dc_Wd_hasWord_11 : decode bc_Wd_hasWord 11 = .ok (.iconst 1, 1) := by decide +kernel
theorem dc_Wd_hasWord_12 : decode bc_Wd_hasWord 12 = .ok (.goto (4), 3) := by decide +kernel
theorem dc_Wd_hasWord_15 : decode bc_Wd_hasWord 15 = .ok (.iconst 0, 1) := by decide +kernel
theorem dc_Wd_hasWord_16 : decode bc_Wd_hasWord 16 = .ok (.ireturn, 1) := by decide +kernel
theorem dc_Wd_advance_0 : decode bc_Wd_advance 0 = .ok (.aload_n 0, 1) := by decide +kernel
theorem dc_Wd_advance_1 : decode bc_Wd_advance 1 = .ok (.aload_n 0, 1) := by decide +kernel
theorem dc_Wd_advance_2 : decode bc_Wd_advance 2 = .ok (.getfield 9, 3) := by decide +kernel
theorem dc_Wd_advance_5 : decode bc_Wd_advance 5 = .ok (.aload_n 0, 1) := by decide +kernel
theorem dc_Wd_advance_6 : decode bc_Wd_advance 6 = .ok (.getfield 26, 3) := by decide +kernel
theorem dc_Wd_advance_9 : decode bc_Wd_advance 9 = .ok (.invokestatic 15, 3) := by decide +kernel
theorem dc_Wd_advance_12 : decode bc_Wd_advance 12 = .ok (.putfield 19, 3) := by decide +kernel
theorem dc_Wd_advance_15 : decode bc_Wd_advance 15 = .ok (.aload_n 0, 1) := by decide +kernel
theorem dc_Wd_advance_16 : decode bc_Wd_advance 16 = .ok (.aload_n 0, 1) := by decide +kernel
theorem dc_Wd_advance_17 : decode bc_Wd_advance 17 = .ok (.getfield 9, 3) := by decide +kernel
theorem dc_Wd_advance_20 : decode bc_Wd_advance 20 = .ok (.aload_n 0, 1) := by decide +kernel
theorem dc_Wd_advance_21 : decode bc_Wd_advance 21 = .ok (.getfield 19, 3) := by decide +kernel
theorem dc_Wd_advance_24 : decode bc_Wd_advance 24 = .ok (.invokestatic 23, 3) := by decide +kernel
theorem dc_Wd_advance_27 : decode bc_Wd_advance 27 = .ok (.putfield 26, 3) := by decide +kernel
theorem dc_Wd_advance_30 : decode bc_Wd_advance 30 = .ok (.return_, 1) := by decide +kernel
theorem dc_Wd_integer_0 : decode bc_Wd_integer 0 = .ok (.aload_n 0, 1) := by decide +kernel
theorem dc_Wd_integer_1 : decode bc_Wd_integer 1 = .ok (.getfield 9, 3) := by decide +kernel
theorem dc_Wd_integer_4 : decode bc_Wd_integer 4 = .ok (.aload_n 0, 1) := by decide +kernel
theorem dc_Wd_integer_5 : decode bc_Wd_integer 5 = .ok (.getfield 19, 3) := by decide +kernel
theorem dc_Wd_integer_8 : decode bc_Wd_integer 8 = .ok (.invokevirtual 35, 3) := by decide +kernel
theorem dc_Wd_integer_11 : decode bc_Wd_integer 11 = .ok (.bipush (45), 2) := by decide +kernel
theorem dc_Wd_integer_13 : decode bc_Wd_integer 13 = .ok (.if_icmp .ne (7), 3) := by decide +kernel
theorem dc_Wd_integer_16 : decode bc_Wd_integer 16 = .ok (.iconst 1, 1) := by decide +kernel
theorem dc_Wd_integer_17 : decode bc_Wd_integer 17 = .ok (.goto (4), 3) := by decide +kernel
theorem dc_Wd_integer_20 : decode bc_Wd_integer 20 = .ok (.iconst 0, 1) := by decide +kernel
theorem dc_Wd_integer_21 : decode bc_Wd_integer 21 = .ok (.istore_n 1, 1) := by decide +kernel
theorem dc_Wd_integer_22 : decode bc_Wd_integer 22 = .ok (.iload_n 1, 1) := by decide +kernel
theorem dc_Wd_integer_23 : decode bc_Wd_integer 23 = .ok (.ifCond .eq (12), 3) := by decide +kernel
theorem dc_Wd_integer_26 : decode bc_Wd_integer 26 = .ok (.aload_n 0, 1) := by decide +kernel
theorem dc_Wd_integer_27 : decode bc_Wd_integer 27 = .ok (.getfield 19, 3) := by decide +kernel
theorem dc_Wd_integer_30 : decode bc_Wd_integer 30 = .ok (.iconst 1, 1) := by decide +kernel
theorem dc_Wd_integer_31 : decode bc_Wd_integer 31 = .ok (.iadd, 1) := by decide +kernel
theorem dc_Wd_integer_32 : decode bc_Wd_integer 32 = .ok (.goto (7), 3) := by decide +kernel
theorem dc_Wd_integer_35 : decode bc_Wd_integer 35 = .ok (.aload_n 0, 1) := by decide +kernel
theorem dc_Wd_integer_36 : decode bc_Wd_integer 36 = .ok (.getfield 19, 3) := by decide +kernel
theorem dc_Wd_integer_39 : decode bc_Wd_integer 39 = .ok (.istore_n 2, 1) := by decide +kernel
theorem dc_Wd_integer_40 : decode bc_Wd_integer 40 = .ok (.iload_n 2, 1) := by decide +kernel
theorem dc_Wd_integer_41 : decode bc_Wd_integer 41 = .ok (.aload_n 0, 1) := by decide +kernel
theorem dc_Wd_integer_42 : decode bc_Wd_integer 42 = .ok (.getfield 26, 3) := by decide +kernel
theorem dc_Wd_integer_45 : decode bc_Wd_integer 45 = .ok (.if_icmp .ge (16), 3) := by decide +kernel
theorem dc_Wd_integer_48 : decode bc_Wd_integer 48 = .ok (.aload_n 0, 1) := by decide +kernel
theorem dc_Wd_integer_49 : decode bc_Wd_integer 49 = .ok (.getfield 26, 3) := by decide +kernel
theorem dc_Wd_integer_52 : decode bc_Wd_integer 52 = .ok (.aload_n 0, 1) := by decide +kernel
theorem dc_Wd_integer_53 : decode bc_Wd_integer 53 = .ok (.getfield 19, 3) := by decide +kernel
theorem dc_Wd_integer_56 : decode bc_Wd_integer 56 = .ok (.isub, 1) := by decide +kernel
theorem dc_Wd_integer_57 : decode bc_Wd_integer 57 = .ok (.iconst 3, 1) := by decide +kernel
theorem dc_Wd_integer_58 : decode bc_Wd_integer 58 = .ok (.if_icmp .le (7), 3) := by decide +kernel
theorem dc_Wd_integer_61 : decode bc_Wd_integer 61 = .ok (.sipush (-1000), 3) := by decide +kernel
theorem dc_Wd_integer_64 : decode bc_Wd_integer 64 = .ok (.ireturn, 1) := by decide +kernel
theorem dc_Wd_integer_65 : decode bc_Wd_integer 65 = .ok (.aload_n 0, 1) := by decide +kernel
theorem dc_Wd_integer_66 : decode bc_Wd_integer 66 = .ok (.getfield 9, 3) := by decide +kernel
theorem dc_Wd_integer_69 : decode bc_Wd_integer 69 = .ok (.iload_n 2, 1) := by decide +kernel
theorem dc_Wd_integer_70 : decode bc_Wd_integer 70 = .ok (.invokevirtual 35, 3) := by decide +kernel
theorem dc_Wd_integer_73 : decode bc_Wd_integer 73 = .ok (.bipush (48), 2) := by decide +kernel
theorem dc_Wd_integer_75 : decode bc_Wd_integer 75 = .ok (.if_icmp .ne (20), 3) := by decide +kernel
theorem dc_Wd_integer_78 : decode bc_Wd_integer 78 = .ok (.aload_n 0, 1) := by decide +kernel
theorem dc_Wd_integer_79 : decode bc_Wd_integer 79 = .ok (.getfield 26, 3) := by decide +kernel
theorem dc_Wd_integer_82 : decode bc_Wd_integer 82 = .ok (.aload_n 0, 1) := by decide +kernel
theorem dc_Wd_integer_83 : decode bc_Wd_integer 83 = .ok (.getfield 19, 3) := by decide +kernel
theorem dc_Wd_integer_86 : decode bc_Wd_integer 86 = .ok (.isub, 1) := by decide +kernel
theorem dc_Wd_integer_87 : decode bc_Wd_integer 87 = .ok (.iconst 1, 1) := by decide +kernel
theorem dc_Wd_integer_88 : decode bc_Wd_integer 88 = .ok (.if_icmp .le (7), 3) := by decide +kernel
theorem dc_Wd_integer_91 : decode bc_Wd_integer 91 = .ok (.sipush (-1000), 3) := by decide +kernel
theorem dc_Wd_integer_94 : decode bc_Wd_integer 94 = .ok (.ireturn, 1) := by decide +kernel
theorem dc_Wd_integer_95 : decode bc_Wd_integer 95 = .ok (.iconst 0, 1) := by decide +kernel
theorem dc_Wd_integer_96 : decode bc_Wd_integer 96 = .ok (.istore_n 3, 1) := by decide +kernel
theorem dc_Wd_integer_97 : decode bc_Wd_integer 97 = .ok (.iload_n 2, 1) := by decide +kernel
theorem dc_Wd_integer_98 : decode bc_Wd_integer 98 = .ok (.istore 4, 2) := by decide +kernel
theorem dc_Wd_integer_100 : decode bc_Wd_integer 100 = .ok (.iload 4, 2) := by decide +kernel
theorem dc_Wd_integer_102 : decode bc_Wd_integer 102 = .ok (.aload_n 0, 1) := by decide +kernel
theorem dc_Wd_integer_103 : decode bc_Wd_integer 103 = .ok (.getfield 26, 3) := by decide +kernel
theorem dc_Wd_integer_106 : decode bc_Wd_integer 106 = .ok (.if_icmp .ge (47), 3) := by decide +kernel
theorem dc_Wd_integer_109 : decode bc_Wd_integer 109 = .ok (.aload_n 0, 1) := by decide +kernel
theorem dc_Wd_integer_110 : decode bc_Wd_integer 110 = .ok (.getfield 9, 3) := by decide +kernel
theorem dc_Wd_integer_113 : decode bc_Wd_integer 113 = .ok (.iload 4, 2) := by decide +kernel
theorem dc_Wd_integer_115 : decode bc_Wd_integer 115 = .ok (.invokevirtual 35, 3) := by decide +kernel
theorem dc_Wd_integer_118 : decode bc_Wd_integer 118 = .ok (.bipush (48), 2) := by decide +kernel
theorem dc_Wd_integer_120 : decode bc_Wd_integer 120 = .ok (.isub, 1) := by decide +kernel
theorem dc_Wd_integer_121 : decode bc_Wd_integer 121 = .ok (.istore 5, 2) := by decide +kernel
theorem dc_Wd_integer_123 : decode bc_Wd_integer 123 = .ok (.iload 5, 2) := by decide +kernel
theorem dc_Wd_integer_125 : decode bc_Wd_integer 125 = .ok (.ifCond .lt (10), 3) := by decide +kernel
theorem dc_Wd_integer_128 : decode bc_Wd_integer 128 = .ok (.iload 5, 2) := by decide +kernel
theorem dc_Wd_integer_130 : decode bc_Wd_integer 130 = .ok (.bipush (9), 2) := by decide +kernel
theorem dc_Wd_integer_132 : decode bc_Wd_integer 132 = .ok (.if_icmp .le (7), 3) := by decide +kernel
theorem dc_Wd_integer_135 : decode bc_Wd_integer 135 = .ok (.sipush (-1000), 3) := by decide +kernel
theorem dc_Wd_integer_138 : decode bc_Wd_integer 138 = .ok (.ireturn, 1) := by decide +kernel
theorem dc_Wd_integer_139 : decode bc_Wd_integer 139 = .ok (.iload_n 3, 1) := by decide +kernel
theorem dc_Wd_integer_140 : decode bc_Wd_integer 140 = .ok (.bipush (10), 2) := by decide +kernel
theorem dc_Wd_integer_142 : decode bc_Wd_integer 142 = .ok (.imul, 1) := by decide +kernel
theorem dc_Wd_integer_143 : decode bc_Wd_integer 143 = .ok (.iload 5, 2) := by decide +kernel
theorem dc_Wd_integer_145 : decode bc_Wd_integer 145 = .ok (.iadd, 1) := by decide +kernel
theorem dc_Wd_integer_146 : decode bc_Wd_integer 146 = .ok (.istore_n 3, 1) := by decide +kernel
theorem dc_Wd_integer_147 : decode bc_Wd_integer 147 = .ok (.iinc 4 (1), 3) := by decide +kernel
theorem dc_Wd_integer_150 : decode bc_Wd_integer 150 = .ok (.goto (-50), 3) := by decide +kernel
theorem dc_Wd_integer_153 : decode bc_Wd_integer 153 = .ok (.iload_n 1, 1) := by decide +kernel
theorem dc_Wd_integer_154 : decode bc_Wd_integer 154 = .ok (.ifCond .eq (8), 3) := by decide +kernel
theorem dc_Wd_integer_157 : decode bc_Wd_integer 157 = .ok (.iload_n 3, 1) := by decide +kernel
theorem dc_Wd_integer_158 : decode bc_Wd_integer 158 = .ok (.ineg, 1) := by decide +kernel
theorem dc_Wd_integer_159 : decode bc_Wd_integer 159 = .ok (.goto (4), 3) := by decide +kernel
theorem dc_Wd_integer_162 : decode bc_Wd_integer 162 = .ok (.iload_n 3, 1) := by decide +kernel
theorem dc_Wd_integer_163 : decode bc_Wd_integer 163 = .ok (.ireturn, 1) := by decide +kernel
theorem dc_Wd_init_0 : decode bc_Wd_init 0 = .ok (.aload_n 0, 1) := by decide +kernel
theorem dc_Wd_init_1 : decode bc_Wd_init 1 = .ok (.invokespecial 3, 3) := by decide +kernel
theorem dc_Wd_init_4 : decode bc_Wd_init 4 = .ok (.aload_n 0, 1) := by decide +kernel
theorem dc_Wd_init_5 : decode bc_Wd_init 5 = .ok (.aload_n 1, 1) := by decide +kernel
theorem dc_Wd_init_6 : decode bc_Wd_init 6 = .ok (.putfield 9, 3) := by decide +kernel
theorem dc_Wd_init_9 : decode bc_Wd_init 9 = .ok (.aload_n 0, 1) := by decide +kernel
theorem dc_Wd_init_10 : decode bc_Wd_init 10 = .ok (.aload_n 1, 1) := by decide +kernel
theorem dc_Wd_init_11 : decode bc_Wd_init 11 = .ok (.iconst 0, 1) := by decide +kernel
theorem dc_Wd_init_12 : decode bc_Wd_init 12 = .ok (.invokestatic 15, 3) := by decide +kernel
theorem dc_Wd_init_15 : decode bc_Wd_init 15 = .ok (.putfield 19, 3) := by decide +kernel
theorem dc_Wd_init_18 : decode bc_Wd_init 18 = .ok (.aload_n 0, 1) := by decide +kernel
theorem dc_Wd_init_19 : decode bc_Wd_init 19 = .ok (.aload_n 1, 1) := by decide +kernel
theorem dc_Wd_init_20 : decode bc_Wd_init 20 = .ok (.aload_n 0, 1) := by decide +kernel
theorem dc_Wd_init_21 : decode bc_Wd_init 21 = .ok (.getfield 19, 3) := by decide +kernel
theorem dc_Wd_init_24 : decode bc_Wd_init 24 = .ok (.invokestatic 23, 3) := by decide +kernel
theorem dc_Wd_init_27 : decode bc_Wd_init 27 = .ok (.putfield 26, 3) := by decide +kernel
theorem dc_Wd_init_30 : decode bc_Wd_init 30 = .ok (.return_, 1) := by decide +kernel
set_option maxHeartbeats 4000000 in
set_option maxRecDepth 100000 in
theorem ct_Wd_gapsEnd (l : Launch) (D : va_G) (cI cZ : ClassId) (sz : Nat) (o : Nat) (a : Nat) (N : Nat) (n : Nat) (t : Nat → Nat) (i : Nat) (hN : N < 2 ^ 31) (hn : n ≤ N) (ht : ∀ j, t j < 256) (hi : i ≤ n) : Met l yn_Wd_gapsEnd (Cond.code yn_Wd_gapsEnd bc_Wd_gapsEnd 3 (some .int) :: kx_all) ({ frames := 1, cells := 0, slots := 0, locals := 21 } : Room) (kp [.ref o, .int (nI i)] D cI cZ [tx_c o a n, ar_n cI a N t] sz) (kr_q (some (.int (nI (pt_ws t n i))))) 0 0 (fun _ => False) := by
  refine kx_met (by decide) (Nat.le_of_ble_eq_true rfl) ?_
  intro p e s m below meth c ls hx hb hr hml hts hown hlocks hin hsz hP hK hD hN hl
  have hown : s.vm.findClass rn_Wd = some m.cls := hown
  have hl : lv_has ls 3 [(0, .ref o), (1, .int (nI i))] := hl
  refine lv_iload_n hx hb dc_Wd_gapsEnd_0 rfl (lv_at hl 1 rfl) ?_
  refine lv_istore_n (lv' := [(2, .int (nI i)), (0, .ref o), (1, .int (nI i))]) hx hb dc_Wd_gapsEnd_1 rfl hl (by decide) rfl (fun ls hl => ?_)
  have lp_2 : ∀ (K : Nat) (at_ : Nat) (ls : Array Slot), n - at_ < K → lv_has ls 3 [(2, .int (nI at_)), (0, .ref o), (1, .int (nI i))] → (pt_ws t n at_ = pt_ws t n i) → (at_ ≤ n) → W p l e ({ frames := 1, cells := 0, slots := 0, locals := 21 } : Room) s m ([.ref o, .int (nI i)] : List Value).toArray below meth c s.heap [] 0 0 (MQ below (kr_q (some (.int (nI (pt_ws t n i))))) ([.ref o, .int (nI i)] : List Value).toArray s 0 0 (fun _ => False)) (F0 m 2 ls []) := by
    intro K
    induction K with
    | zero =>
      intro at_ ls hk
      exact absurd hk (Nat.not_lt_zero _)
    | succ K ih =>
      intro at_ ls hk hl h1 h2
      refine lv_iload_n hx hb dc_Wd_gapsEnd_2 rfl (lv_at hl 0 rfl) ?_
      refine lv_aload_n hx hb dc_Wd_gapsEnd_3 rfl (lv_at hl 1 rfl) ?_
      refine va_getN (ci := 0) (v := .int (nI n)) (C := rn_Tx) (T := fd_Tx) (N := 2) hx hb hts in_Tx hown hK hP 0 rfl rfl 1 (by decide) (nf_41 hN) (fun _ h9 => h9) rfl dc_Wd_gapsEnd_4 ?_
      refine kn_icmp_ge hx hb (by omega) (by omega) dc_Wd_gapsEnd_7 rfl (fun hc7 => ?_) (fun hc7 => ?_)
      · refine lv_iload_n hx hb dc_Wd_gapsEnd_36 rfl (lv_at hl 0 rfl) ?_
        exact kr_iret hx hb hr hlocks dc_Wd_gapsEnd_37 (by rw [← h1, ws_stop (fun q => by omega)])
      · refine lv_aload_n hx hb dc_Wd_gapsEnd_10 rfl (lv_at hl 1 rfl) ?_
        refine lv_iload_n hx hb dc_Wd_gapsEnd_11 rfl (lv_at hl 0 rfl) ?_
        refine kr_call1 (va_runV (As := [.int (nI at_)]) (rest := []) ⟨hx, hb, hml, hown, hts⟩ (ct_Tx_atn l D cI cZ _ o a N n t at_ (by omega) (by omega) (by omega)) (cwV 1 hts (kx_gV wd_313 wd_293 wd_294 wd_2 wd_295) rfl rfl rfl ⟨rfl, yd_Tx_at⟩ ⟨Nat.le_of_ble_eq_true rfl, Nat.le_of_ble_eq_true rfl⟩) (kp_V (q0 := 0) (ci := 0) hP hD hK hN [0, 1] rfl rfl rfl rfl rfl) rfl rfl hl.1 rfl (lv_room (Nat.le_of_ble_eq_true rfl)) dc_Wd_gapsEnd_12 ⟨Nat.le_of_ble_eq_true rfl, Nat.le_of_ble_eq_true rfl⟩) ?_
        refine lv_bipush (v := nI 32) hx hb dc_Wd_gapsEnd_15 (by decide +kernel) ?_
        refine kn_icmp_eq hx hb (Nat.lt_trans (ht at_) (by decide)) (by omega) dc_Wd_gapsEnd_17 rfl (fun hc17 => ?_) (fun hc17 => ?_)
        · refine lv_iinc (k := 0) (v := nI (at_ + 1)) (lv' := [(2, .int (nI (at_ + 1))), (0, .ref o), (1, .int (nI i))]) hx hb dc_Wd_gapsEnd_30 hl rfl (nI_1 _) (by decide) rfl (fun ls hl => ?_)
          refine lv_goto hx hb dc_Wd_gapsEnd_33 rfl ?_
          exact ih _ _ (by omega) hl (by rw [← h1]; exact (ws_step (by omega) (by simp [pt_gap, hc17])).symm) (by omega)
        · refine lv_aload_n hx hb dc_Wd_gapsEnd_20 rfl (lv_at hl 1 rfl) ?_
          refine lv_iload_n hx hb dc_Wd_gapsEnd_21 rfl (lv_at hl 0 rfl) ?_
          refine kr_call1 (va_runV (As := [.int (nI at_)]) (rest := []) ⟨hx, hb, hml, hown, hts⟩ (ct_Tx_atn l D cI cZ _ o a N n t at_ (by omega) (by omega) (by omega)) (cwV 1 hts (kx_gV wd_313 wd_293 wd_294 wd_2 wd_295) rfl rfl rfl ⟨rfl, yd_Tx_at⟩ ⟨Nat.le_of_ble_eq_true rfl, Nat.le_of_ble_eq_true rfl⟩) (kp_V (q0 := 0) (ci := 0) hP hD hK hN [0, 1] rfl rfl rfl rfl rfl) rfl rfl hl.1 rfl (lv_room (Nat.le_of_ble_eq_true rfl)) dc_Wd_gapsEnd_22 ⟨Nat.le_of_ble_eq_true rfl, Nat.le_of_ble_eq_true rfl⟩) ?_
          refine lv_bipush (v := nI 10) hx hb dc_Wd_gapsEnd_25 (by decide +kernel) ?_
          refine kn_icmp_ne hx hb (Nat.lt_trans (ht at_) (by decide)) (by omega) dc_Wd_gapsEnd_27 rfl (fun hc27 => ?_) (fun hc27 => ?_)
          · refine lv_iload_n hx hb dc_Wd_gapsEnd_36 rfl (lv_at hl 0 rfl) ?_
            exact kr_iret hx hb hr hlocks dc_Wd_gapsEnd_37 (by rw [← h1, ws_stop (fun q => by have := q.2; simp [pt_gap, hc17, hc27] at this)])
          · refine lv_iinc (k := 0) (v := nI (at_ + 1)) (lv' := [(2, .int (nI (at_ + 1))), (0, .ref o), (1, .int (nI i))]) hx hb dc_Wd_gapsEnd_30 hl rfl (nI_1 _) (by decide) rfl (fun ls hl => ?_)
            refine lv_goto hx hb dc_Wd_gapsEnd_33 rfl ?_
            exact ih _ _ (by omega) hl (by rw [← h1]; exact (ws_step (by omega) (by simp [pt_gap, hc27])).symm) (by omega)
  exact lp_2 _ _ _ (Nat.lt_succ_self _) hl (rfl) (by omega)

set_option maxHeartbeats 4000000 in
set_option maxRecDepth 100000 in
theorem ct_Wd_wordsEnd (l : Launch) (D : va_G) (cI cZ : ClassId) (sz : Nat) (o : Nat) (a : Nat) (N : Nat) (n : Nat) (t : Nat → Nat) (i : Nat) (hN : N < 2 ^ 31) (hn : n ≤ N) (ht : ∀ j, t j < 256) (hi : i ≤ n) : Met l yn_Wd_wordsEnd (Cond.code yn_Wd_wordsEnd bc_Wd_wordsEnd 3 (some .int) :: kx_all) ({ frames := 1, cells := 0, slots := 0, locals := 21 } : Room) (kp [.ref o, .int (nI i)] D cI cZ [tx_c o a n, ar_n cI a N t] sz) (kr_q (some (.int (nI (pt_we t n i))))) 0 0 (fun _ => False) := by
  refine kx_met (by decide) (Nat.le_of_ble_eq_true rfl) ?_
  intro p e s m below meth c ls hx hb hr hml hts hown hlocks hin hsz hP hK hD hN hl
  have hown : s.vm.findClass rn_Wd = some m.cls := hown
  have hl : lv_has ls 3 [(0, .ref o), (1, .int (nI i))] := hl
  refine lv_iload_n hx hb dc_Wd_wordsEnd_0 rfl (lv_at hl 1 rfl) ?_
  refine lv_istore_n (lv' := [(2, .int (nI i)), (0, .ref o), (1, .int (nI i))]) hx hb dc_Wd_wordsEnd_1 rfl hl (by decide) rfl (fun ls hl => ?_)
  have lp_2 : ∀ (K : Nat) (at_ : Nat) (ls : Array Slot), n - at_ < K → lv_has ls 3 [(2, .int (nI at_)), (0, .ref o), (1, .int (nI i))] → (pt_we t n at_ = pt_we t n i) → (at_ ≤ n) → W p l e ({ frames := 1, cells := 0, slots := 0, locals := 21 } : Room) s m ([.ref o, .int (nI i)] : List Value).toArray below meth c s.heap [] 0 0 (MQ below (kr_q (some (.int (nI (pt_we t n i))))) ([.ref o, .int (nI i)] : List Value).toArray s 0 0 (fun _ => False)) (F0 m 2 ls []) := by
    intro K
    induction K with
    | zero =>
      intro at_ ls hk
      exact absurd hk (Nat.not_lt_zero _)
    | succ K ih =>
      intro at_ ls hk hl h1 h2
      refine lv_iload_n hx hb dc_Wd_wordsEnd_2 rfl (lv_at hl 0 rfl) ?_
      refine lv_aload_n hx hb dc_Wd_wordsEnd_3 rfl (lv_at hl 1 rfl) ?_
      refine va_getN (ci := 0) (v := .int (nI n)) (C := rn_Tx) (T := fd_Tx) (N := 2) hx hb hts in_Tx hown hK hP 0 rfl rfl 1 (by decide) (nf_41 hN) (fun _ h9 => h9) rfl dc_Wd_wordsEnd_4 ?_
      refine kn_icmp_ge hx hb (by omega) (by omega) dc_Wd_wordsEnd_7 rfl (fun hc7 => ?_) (fun hc7 => ?_)
      · refine lv_iload_n hx hb dc_Wd_wordsEnd_36 rfl (lv_at hl 0 rfl) ?_
        exact kr_iret hx hb hr hlocks dc_Wd_wordsEnd_37 (by rw [← h1, we_stop (fun q => by omega)])
      · refine lv_aload_n hx hb dc_Wd_wordsEnd_10 rfl (lv_at hl 1 rfl) ?_
        refine lv_iload_n hx hb dc_Wd_wordsEnd_11 rfl (lv_at hl 0 rfl) ?_
        refine kr_call1 (va_runV (As := [.int (nI at_)]) (rest := []) ⟨hx, hb, hml, hown, hts⟩ (ct_Tx_atn l D cI cZ _ o a N n t at_ (by omega) (by omega) (by omega)) (cwV 1 hts (kx_gV wd_313 wd_293 wd_294 wd_2 wd_295) rfl rfl rfl ⟨rfl, yd_Tx_at⟩ ⟨Nat.le_of_ble_eq_true rfl, Nat.le_of_ble_eq_true rfl⟩) (kp_V (q0 := 0) (ci := 0) hP hD hK hN [0, 1] rfl rfl rfl rfl rfl) rfl rfl hl.1 rfl (lv_room (Nat.le_of_ble_eq_true rfl)) dc_Wd_wordsEnd_12 ⟨Nat.le_of_ble_eq_true rfl, Nat.le_of_ble_eq_true rfl⟩) ?_
        refine lv_bipush (v := nI 32) hx hb dc_Wd_wordsEnd_15 (by decide +kernel) ?_
        refine kn_icmp_eq hx hb (Nat.lt_trans (ht at_) (by decide)) (by omega) dc_Wd_wordsEnd_17 rfl (fun hc17 => ?_) (fun hc17 => ?_)
        · refine lv_iload_n hx hb dc_Wd_wordsEnd_36 rfl (lv_at hl 0 rfl) ?_
          exact kr_iret hx hb hr hlocks dc_Wd_wordsEnd_37 (by rw [← h1, we_stop (fun q => by have := q.2; simp [pt_gap, hc17] at this)])
        · refine lv_aload_n hx hb dc_Wd_wordsEnd_20 rfl (lv_at hl 1 rfl) ?_
          refine lv_iload_n hx hb dc_Wd_wordsEnd_21 rfl (lv_at hl 0 rfl) ?_
          refine kr_call1 (va_runV (As := [.int (nI at_)]) (rest := []) ⟨hx, hb, hml, hown, hts⟩ (ct_Tx_atn l D cI cZ _ o a N n t at_ (by omega) (by omega) (by omega)) (cwV 1 hts (kx_gV wd_313 wd_293 wd_294 wd_2 wd_295) rfl rfl rfl ⟨rfl, yd_Tx_at⟩ ⟨Nat.le_of_ble_eq_true rfl, Nat.le_of_ble_eq_true rfl⟩) (kp_V (q0 := 0) (ci := 0) hP hD hK hN [0, 1] rfl rfl rfl rfl rfl) rfl rfl hl.1 rfl (lv_room (Nat.le_of_ble_eq_true rfl)) dc_Wd_wordsEnd_22 ⟨Nat.le_of_ble_eq_true rfl, Nat.le_of_ble_eq_true rfl⟩) ?_
          refine lv_bipush (v := nI 10) hx hb dc_Wd_wordsEnd_25 (by decide +kernel) ?_
          refine kn_icmp_eq hx hb (Nat.lt_trans (ht at_) (by decide)) (by omega) dc_Wd_wordsEnd_27 rfl (fun hc27 => ?_) (fun hc27 => ?_)
          · refine lv_iload_n hx hb dc_Wd_wordsEnd_36 rfl (lv_at hl 0 rfl) ?_
            exact kr_iret hx hb hr hlocks dc_Wd_wordsEnd_37 (by rw [← h1, we_stop (fun q => by have := q.2; simp [pt_gap, hc27] at this)])
          · refine lv_iinc (k := 0) (v := nI (at_ + 1)) (lv' := [(2, .int (nI (at_ + 1))), (0, .ref o), (1, .int (nI i))]) hx hb dc_Wd_wordsEnd_30 hl rfl (nI_1 _) (by decide) rfl (fun ls hl => ?_)
            refine lv_goto hx hb dc_Wd_wordsEnd_33 rfl ?_
            exact ih _ _ (by omega) hl (by rw [← h1]; exact (we_step (by omega) (by simp [pt_gap, hc17, hc27])).symm) (by omega)
  exact lp_2 _ _ _ (Nat.lt_succ_self _) hl (rfl) (by omega)

set_option maxHeartbeats 4000000 in
set_option maxRecDepth 100000 in
theorem ct_Wd_hasWord (l : Launch) (D : va_G) (cI cZ : ClassId) (sz : Nat) (w : Nat) (o : Nat) (ga : Nat) (gb : Nat) (hs : ga < 2 ^ 31) (he : gb < 2 ^ 31) : Met l yn_Wd_hasWord (Cond.code yn_Wd_hasWord bc_Wd_hasWord 1 (some .boolean) :: kx_all) ({ frames := 0, cells := 0, slots := 0, locals := 0 } : Room) (kp [.ref w] D cI cZ [wo_c w o ga gb] sz) (kr_q (some (.int (kb_i (decide (ga < gb)))))) 0 0 (fun _ => False) := by
  refine kx_met (by decide) (Nat.le_of_ble_eq_true rfl) ?_
  intro p e s m below meth c ls hx hb hr hml hts hown hlocks hin hsz hP hK hD hN hl
  have hown : s.vm.findClass rn_Wd = some m.cls := hown
  have hl : lv_has ls 1 [(0, .ref w)] := hl
  refine lv_aload_n hx hb dc_Wd_hasWord_0 rfl (lv_at hl 0 rfl) ?_
  refine va_get (ci := 1) (v := .int (nI ga)) (C := rn_Wd) (T := fd_Wd) (N := 3) hx hb hts in_Wd hown hK hP 0 rfl rfl 1 (by decide) (hts _ wd_318) (fun _ h9 => h9) rfl dc_Wd_hasWord_1 ?_
  refine lv_aload_n hx hb dc_Wd_hasWord_4 rfl (lv_at hl 0 rfl) ?_
  refine va_get (ci := 1) (v := .int (nI gb)) (C := rn_Wd) (T := fd_Wd) (N := 3) hx hb hts in_Wd hown hK hP 0 rfl rfl 2 (by decide) (hts _ wd_319) (fun _ h9 => h9) rfl dc_Wd_hasWord_5 ?_
  refine kn_icmp_ge hx hb (by omega) (by omega) dc_Wd_hasWord_8 rfl (fun hc8 => ?_) (fun hc8 => ?_)
  · refine lv_iconst (v := nI 0) hx hb dc_Wd_hasWord_15 (by decide +kernel) ?_
    refine kn_top (y := kb_i false) (by decide +kernel) ?_
    exact kr_zret hx hb hr hlocks dc_Wd_hasWord_16 ((decide_eq_false (by omega)).symm)
  · refine lv_iconst (v := nI 1) hx hb dc_Wd_hasWord_11 (by decide +kernel) ?_
    refine lv_goto hx hb dc_Wd_hasWord_12 rfl ?_
    refine kn_top (y := kb_i true) (by decide +kernel) ?_
    exact kr_zret hx hb hr hlocks dc_Wd_hasWord_16 ((decide_eq_true (by omega)).symm)

set_option maxHeartbeats 4000000 in
set_option maxRecDepth 100000 in
theorem ct_Wd_integer (l : Launch) (D : va_G) (cI cZ : ClassId) (sz : Nat) (w : Nat) (o : Nat) (a : Nat) (N : Nat) (n : Nat) (t : Nat → Nat) (ga : Nat) (gb : Nat) (hN : N < 2 ^ 31) (hn : n ≤ N) (ht : ∀ j, t j < 256) (hse : ga ≤ gb) (hen : gb ≤ n) (hs : ga < n → ga < gb) : Met l yn_Wd_integer (Cond.code yn_Wd_integer bc_Wd_integer 6 (some .int) :: kx_all) ({ frames := 1, cells := 0, slots := 0, locals := 21 } : Room) (kp [.ref w] D cI cZ [wo_c w o ga gb, tx_c o a n, ar_n cI a N t] sz) (kr_q (some (.int (pt_intv t ga gb)))) 0 0 (fun _ => False) := by
  refine kx_met (by decide) (Nat.le_of_ble_eq_true rfl) ?_
  intro p e s m below meth c ls hx hb hr hml hts hown hlocks hin hsz hP hK hD hN hl
  have hown : s.vm.findClass rn_Wd = some m.cls := hown
  have hl : lv_has ls 6 [(0, .ref w)] := hl
  have hn2 : n < 2 ^ 31 := by omega
  by_cases hsn : n ≤ ga
  · refine lv_aload_n hx hb dc_Wd_integer_0 rfl (lv_at hl 0 rfl) ?_
    refine va_get (ci := 1) (v := .ref o) (C := rn_Wd) (T := fd_Wd) (N := 3) hx hb hts in_Wd hown hK hP 0 rfl rfl 0 (by decide) (hts _ wd_317) (fun _ h9 => h9) rfl dc_Wd_integer_1 ?_
    refine lv_aload_n hx hb dc_Wd_integer_4 rfl (lv_at hl 0 rfl) ?_
    refine va_get (ci := 1) (v := .int (nI ga)) (C := rn_Wd) (T := fd_Wd) (N := 3) hx hb hts in_Wd hown hK hP 0 rfl rfl 1 (by decide) (hts _ wd_318) (fun _ h9 => h9) rfl dc_Wd_integer_5 ?_
    refine kr_call1 (va_runV (As := [.int (nI ga)]) (rest := []) ⟨hx, hb, hml, hown, hts⟩ (ct_Tx_at l D cI cZ _ o a N n t (nI ga) (by omega) (by omega)) (cwV 1 hts (kx_gV wd_313 wd_293 wd_294 wd_2 wd_295) rfl rfl rfl ⟨rfl, yd_Tx_at⟩ ⟨Nat.le_of_ble_eq_true rfl, Nat.le_of_ble_eq_true rfl⟩) (kp_V (q0 := 1) (ci := 0) hP hD hK hN [1, 2] rfl rfl rfl rfl rfl) rfl rfl hl.1 rfl (lv_room (Nat.le_of_ble_eq_true rfl)) dc_Wd_integer_8 ⟨Nat.le_of_ble_eq_true rfl, Nat.le_of_ble_eq_true rfl⟩) ?_
    refine kn_top (y := (-1000)) (pt_at_out (by omega) (by omega)) ?_
    refine lv_bipush (v := nI 45) hx hb dc_Wd_integer_11 (by decide +kernel) ?_
    refine lv_icmp_ne hx hb dc_Wd_integer_13 rfl (fun hc13 => ?_) (fun hc13 => ?_)
    · refine lv_iconst (v := nI 0) hx hb dc_Wd_integer_20 (by decide +kernel) ?_
      refine lv_istore_n (lv' := [(1, .int (nI 0)), (0, .ref w)]) hx hb dc_Wd_integer_21 rfl hl (by decide) rfl (fun ls hl => ?_)
      refine lv_iload_n hx hb dc_Wd_integer_22 rfl (lv_at hl 0 rfl) ?_
      refine kn_if_eq hx hb (by omega) dc_Wd_integer_23 rfl (fun hc23 => ?_) (fun hc23 => ?_)
      · refine lv_aload_n hx hb dc_Wd_integer_35 rfl (lv_at hl 1 rfl) ?_
        refine va_get (ci := 1) (v := .int (nI ga)) (C := rn_Wd) (T := fd_Wd) (N := 3) hx hb hts in_Wd hown hK hP 0 rfl rfl 1 (by decide) (hts _ wd_318) (fun _ h9 => h9) rfl dc_Wd_integer_36 ?_
        refine lv_istore_n (lv' := [(2, .int (nI ga)), (1, .int (nI 0)), (0, .ref w)]) hx hb dc_Wd_integer_39 rfl hl (by decide) rfl (fun ls hl => ?_)
        refine lv_iload_n hx hb dc_Wd_integer_40 rfl (lv_at hl 0 rfl) ?_
        refine lv_aload_n hx hb dc_Wd_integer_41 rfl (lv_at hl 2 rfl) ?_
        refine va_get (ci := 1) (v := .int (nI gb)) (C := rn_Wd) (T := fd_Wd) (N := 3) hx hb hts in_Wd hown hK hP 0 rfl rfl 2 (by decide) (hts _ wd_319) (fun _ h9 => h9) rfl dc_Wd_integer_42 ?_
        refine kn_icmp_ge hx hb (by omega) (by omega) dc_Wd_integer_45 rfl (fun hc45 => ?_) (fun hc45 => ?_)
        · refine lv_sipush (v := (-1000)) hx hb dc_Wd_integer_61 (by decide +kernel) ?_
          exact kr_iret hx hb hr hlocks dc_Wd_integer_64 (by rw [iv_p (fun q => by omega), if_pos (Or.inl (by omega))])
        · exfalso; omega
      · exact absurd rfl hc23
    · exact absurd hc13 (by decide +kernel)
  · refine lv_aload_n hx hb dc_Wd_integer_0 rfl (lv_at hl 0 rfl) ?_
    refine va_get (ci := 1) (v := .ref o) (C := rn_Wd) (T := fd_Wd) (N := 3) hx hb hts in_Wd hown hK hP 0 rfl rfl 0 (by decide) (hts _ wd_317) (fun _ h9 => h9) rfl dc_Wd_integer_1 ?_
    refine lv_aload_n hx hb dc_Wd_integer_4 rfl (lv_at hl 0 rfl) ?_
    refine va_get (ci := 1) (v := .int (nI ga)) (C := rn_Wd) (T := fd_Wd) (N := 3) hx hb hts in_Wd hown hK hP 0 rfl rfl 1 (by decide) (hts _ wd_318) (fun _ h9 => h9) rfl dc_Wd_integer_5 ?_
    refine kr_call1 (va_runV (As := [.int (nI ga)]) (rest := []) ⟨hx, hb, hml, hown, hts⟩ (ct_Tx_atn l D cI cZ _ o a N n t ga (by omega) (by omega) (by omega)) (cwV 1 hts (kx_gV wd_313 wd_293 wd_294 wd_2 wd_295) rfl rfl rfl ⟨rfl, yd_Tx_at⟩ ⟨Nat.le_of_ble_eq_true rfl, Nat.le_of_ble_eq_true rfl⟩) (kp_V (q0 := 1) (ci := 0) hP hD hK hN [1, 2] rfl rfl rfl rfl rfl) rfl rfl hl.1 rfl (lv_room (Nat.le_of_ble_eq_true rfl)) dc_Wd_integer_8 ⟨Nat.le_of_ble_eq_true rfl, Nat.le_of_ble_eq_true rfl⟩) ?_
    by_cases hneg : t ga = 45
    · refine lv_bipush (v := nI 45) hx hb dc_Wd_integer_11 (by decide +kernel) ?_
      refine kn_icmp_ne hx hb (Nat.lt_trans (ht ga) (by decide)) (by omega) dc_Wd_integer_13 rfl (fun hc13 => ?_) (fun hc13 => ?_)
      · exact absurd hneg hc13
      · refine lv_iconst (v := nI 1) hx hb dc_Wd_integer_16 (by decide +kernel) ?_
        refine lv_goto hx hb dc_Wd_integer_17 rfl ?_
        refine lv_istore_n (lv' := [(1, .int (nI 1)), (0, .ref w)]) hx hb dc_Wd_integer_21 rfl hl (by decide) rfl (fun ls hl => ?_)
        refine lv_iload_n hx hb dc_Wd_integer_22 rfl (lv_at hl 0 rfl) ?_
        refine kn_if_eq hx hb (by omega) dc_Wd_integer_23 rfl (fun hc23 => ?_) (fun hc23 => ?_)
        · exact absurd hc23 (by decide)
        · refine lv_aload_n hx hb dc_Wd_integer_26 rfl (lv_at hl 1 rfl) ?_
          refine va_get (ci := 1) (v := .int (nI ga)) (C := rn_Wd) (T := fd_Wd) (N := 3) hx hb hts in_Wd hown hK hP 0 rfl rfl 1 (by decide) (hts _ wd_318) (fun _ h9 => h9) rfl dc_Wd_integer_27 ?_
          refine lv_iconst (v := nI 1) hx hb dc_Wd_integer_30 (by decide +kernel) ?_
          refine kn_iadd hx hb dc_Wd_integer_31 ?_
          refine lv_goto hx hb dc_Wd_integer_32 rfl ?_
          refine lv_istore_n (lv' := [(2, .int (nI (ga + 1))), (1, .int (nI 1)), (0, .ref w)]) hx hb dc_Wd_integer_39 rfl hl (by decide) rfl (fun ls hl => ?_)
          refine lv_iload_n hx hb dc_Wd_integer_40 rfl (lv_at hl 0 rfl) ?_
          refine lv_aload_n hx hb dc_Wd_integer_41 rfl (lv_at hl 2 rfl) ?_
          refine va_get (ci := 1) (v := .int (nI gb)) (C := rn_Wd) (T := fd_Wd) (N := 3) hx hb hts in_Wd hown hK hP 0 rfl rfl 2 (by decide) (hts _ wd_319) (fun _ h9 => h9) rfl dc_Wd_integer_42 ?_
          refine kn_icmp_ge hx hb (by omega) (by omega) dc_Wd_integer_45 rfl (fun hc45 => ?_) (fun hc45 => ?_)
          · refine lv_sipush (v := (-1000)) hx hb dc_Wd_integer_61 (by decide +kernel) ?_
            exact kr_iret hx hb hr hlocks dc_Wd_integer_64 (by rw [iv_n ⟨by omega, hneg⟩, if_pos (Or.inl (by omega))])
          · refine lv_aload_n hx hb dc_Wd_integer_48 rfl (lv_at hl 2 rfl) ?_
            refine va_get (ci := 1) (v := .int (nI gb)) (C := rn_Wd) (T := fd_Wd) (N := 3) hx hb hts in_Wd hown hK hP 0 rfl rfl 2 (by decide) (hts _ wd_319) (fun _ h9 => h9) rfl dc_Wd_integer_49 ?_
            refine lv_aload_n hx hb dc_Wd_integer_52 rfl (lv_at hl 2 rfl) ?_
            refine va_get (ci := 1) (v := .int (nI ga)) (C := rn_Wd) (T := fd_Wd) (N := 3) hx hb hts in_Wd hown hK hP 0 rfl rfl 1 (by decide) (hts _ wd_318) (fun _ h9 => h9) rfl dc_Wd_integer_53 ?_
            refine kn_isub hx hb (by omega) dc_Wd_integer_56 ?_
            refine lv_iconst (v := nI 3) hx hb dc_Wd_integer_57 (by decide +kernel) ?_
            refine kn_icmp_le hx hb (by omega) (by omega) dc_Wd_integer_58 rfl (fun hc58 => ?_) (fun hc58 => ?_)
            · refine lv_aload_n hx hb dc_Wd_integer_65 rfl (lv_at hl 2 rfl) ?_
              refine va_get (ci := 1) (v := .ref o) (C := rn_Wd) (T := fd_Wd) (N := 3) hx hb hts in_Wd hown hK hP 0 rfl rfl 0 (by decide) (hts _ wd_317) (fun _ h9 => h9) rfl dc_Wd_integer_66 ?_
              refine lv_iload_n hx hb dc_Wd_integer_69 rfl (lv_at hl 0 rfl) ?_
              refine kr_call1 (va_runV (As := [.int (nI (ga + 1))]) (rest := []) ⟨hx, hb, hml, hown, hts⟩ (ct_Tx_atn l D cI cZ _ o a N n t (ga + 1) (by omega) (by omega) (by omega)) (cwV 1 hts (kx_gV wd_313 wd_293 wd_294 wd_2 wd_295) rfl rfl rfl ⟨rfl, yd_Tx_at⟩ ⟨Nat.le_of_ble_eq_true rfl, Nat.le_of_ble_eq_true rfl⟩) (kp_V (q0 := 1) (ci := 0) hP hD hK hN [1, 2] rfl rfl rfl rfl rfl) rfl rfl hl.1 rfl (lv_room (Nat.le_of_ble_eq_true rfl)) dc_Wd_integer_70 ⟨Nat.le_of_ble_eq_true rfl, Nat.le_of_ble_eq_true rfl⟩) ?_
              refine lv_bipush (v := nI 48) hx hb dc_Wd_integer_73 (by decide +kernel) ?_
              refine kn_icmp_ne hx hb (Nat.lt_trans (ht (ga + 1)) (by decide)) (by omega) dc_Wd_integer_75 rfl (fun hc75 => ?_) (fun hc75 => ?_)
              · have hno : ¬ (gb ≤ ga + 1 ∨ 3 < gb - ga ∨ t (ga + 1) = 48) := fun q => by omega
                refine lv_iconst (v := nI 0) hx hb dc_Wd_integer_95 (by decide +kernel) ?_
                refine lv_istore_n (lv' := [(3, .int (nI 0)), (2, .int (nI (ga + 1))), (1, .int (nI 1)), (0, .ref w)]) hx hb dc_Wd_integer_96 rfl hl (by decide) rfl (fun ls hl => ?_)
                refine lv_iload_n hx hb dc_Wd_integer_97 rfl (lv_at hl 1 rfl) ?_
                refine lv_istore (lv' := [(4, .int (nI (ga + 1))), (3, .int (nI 0)), (2, .int (nI (ga + 1))), (1, .int (nI 1)), (0, .ref w)]) hx hb dc_Wd_integer_98 hl (by decide) rfl (fun ls hl => ?_)
                have lp_100 : ∀ (K : Nat) (i : Nat) (v : Nat) (ls : Array Slot), gb - i < K → lv_has ls 6 [(4, .int (nI i)), (3, .int (nI v)), (2, .int (nI (ga + 1))), (1, .int (nI 1)), (0, .ref w)] → (pt_dg t (gb - i) i v = pt_dg t (gb - (ga + 1)) (ga + 1) 0) → (ga + 1 ≤ i ∧ i ≤ gb) → W p l e ({ frames := 1, cells := 0, slots := 0, locals := 21 } : Room) s m ([.ref w] : List Value).toArray below meth c s.heap [] 0 0 (MQ below (kr_q (some (.int (pt_intv t ga gb)))) ([.ref w] : List Value).toArray s 0 0 (fun _ => False)) (F0 m 100 ls []) := by
                  intro K
                  induction K with
                  | zero =>
                    intro i v ls hk
                    exact absurd hk (Nat.not_lt_zero _)
                  | succ K ih =>
                    intro i v ls hk hl h1 h2
                    refine lv_iload hx hb dc_Wd_integer_100 (lv_at hl 0 rfl) ?_
                    refine lv_aload_n hx hb dc_Wd_integer_102 rfl (lv_at hl 4 rfl) ?_
                    refine va_get (ci := 1) (v := .int (nI gb)) (C := rn_Wd) (T := fd_Wd) (N := 3) hx hb hts in_Wd hown hK hP 0 rfl rfl 2 (by decide) (hts _ wd_319) (fun _ h9 => h9) rfl dc_Wd_integer_103 ?_
                    refine kn_icmp_ge hx hb (by omega) (by omega) dc_Wd_integer_106 rfl (fun hc106 => ?_) (fun hc106 => ?_)
                    · refine lv_iload_n hx hb dc_Wd_integer_153 rfl (lv_at hl 3 rfl) ?_
                      refine kn_if_eq hx hb (by omega) dc_Wd_integer_154 rfl (fun hc154 => ?_) (fun hc154 => ?_)
                      · exact absurd hc154 (by decide)
                      · refine lv_iload_n hx hb dc_Wd_integer_157 rfl (lv_at hl 1 rfl) ?_
                        refine lv_ineg hx hb dc_Wd_integer_158 ?_
                        refine lv_goto hx hb dc_Wd_integer_159 rfl ?_
                        exact kr_iret hx hb hr hlocks dc_Wd_integer_163 (by rw [iv_n ⟨by omega, hneg⟩, if_neg hno, ← h1, dg_en (by omega)]; rfl)
                    · refine lv_aload_n hx hb dc_Wd_integer_109 rfl (lv_at hl 4 rfl) ?_
                      refine va_get (ci := 1) (v := .ref o) (C := rn_Wd) (T := fd_Wd) (N := 3) hx hb hts in_Wd hown hK hP 0 rfl rfl 0 (by decide) (hts _ wd_317) (fun _ h9 => h9) rfl dc_Wd_integer_110 ?_
                      refine lv_iload hx hb dc_Wd_integer_113 (lv_at hl 0 rfl) ?_
                      refine kr_call1 (va_runV (As := [.int (nI i)]) (rest := []) ⟨hx, hb, hml, hown, hts⟩ (ct_Tx_atn l D cI cZ _ o a N n t i (by omega) (by omega) (by omega)) (cwV 1 hts (kx_gV wd_313 wd_293 wd_294 wd_2 wd_295) rfl rfl rfl ⟨rfl, yd_Tx_at⟩ ⟨Nat.le_of_ble_eq_true rfl, Nat.le_of_ble_eq_true rfl⟩) (kp_V (q0 := 1) (ci := 0) hP hD hK hN [1, 2] rfl rfl rfl rfl rfl) rfl rfl hl.1 rfl (lv_room (Nat.le_of_ble_eq_true rfl)) dc_Wd_integer_115 ⟨Nat.le_of_ble_eq_true rfl, Nat.le_of_ble_eq_true rfl⟩) ?_
                      have h256 := ht i
                      by_cases h48 : 48 ≤ t i
                      · refine lv_bipush (v := nI 48) hx hb dc_Wd_integer_118 (by decide +kernel) ?_
                        refine kn_isub hx hb (by omega) dc_Wd_integer_120 ?_
                        refine lv_istore (lv' := [(5, .int (nI ((t i) - 48))), (4, .int (nI i)), (3, .int (nI v)), (2, .int (nI (ga + 1))), (1, .int (nI 1)), (0, .ref w)]) hx hb dc_Wd_integer_121 hl (by decide) rfl (fun ls hl => ?_)
                        refine lv_iload hx hb dc_Wd_integer_123 (lv_at hl 0 rfl) ?_
                        refine lv_if_lt hx hb dc_Wd_integer_125 rfl (fun hc125 => ?_) (fun hc125 => ?_)
                        · exact absurd hc125 (nI_pos (by omega))
                        · refine lv_iload hx hb dc_Wd_integer_128 (lv_at hl 0 rfl) ?_
                          refine lv_bipush (v := nI 9) hx hb dc_Wd_integer_130 (by decide +kernel) ?_
                          refine kn_icmp_le hx hb (by omega) (by omega) dc_Wd_integer_132 rfl (fun hc132 => ?_) (fun hc132 => ?_)
                          · refine lv_iload_n hx hb dc_Wd_integer_139 rfl (lv_at hl 2 rfl) ?_
                            refine lv_bipush (v := nI 10) hx hb dc_Wd_integer_140 (by decide +kernel) ?_
                            refine kn_imul hx hb dc_Wd_integer_142 ?_
                            refine lv_iload hx hb dc_Wd_integer_143 (lv_at hl 0 rfl) ?_
                            refine kn_iadd hx hb dc_Wd_integer_145 ?_
                            refine lv_istore_n (lv' := [(3, .int (nI ((v * 10) + ((t i) - 48)))), (5, .int (nI ((t i) - 48))), (4, .int (nI i)), (2, .int (nI (ga + 1))), (1, .int (nI 1)), (0, .ref w)]) hx hb dc_Wd_integer_146 rfl hl (by decide) rfl (fun ls hl => ?_)
                            refine lv_iinc (k := 2) (v := nI (i + 1)) (lv' := [(4, .int (nI (i + 1))), (3, .int (nI ((v * 10) + ((t i) - 48)))), (5, .int (nI ((t i) - 48))), (2, .int (nI (ga + 1))), (1, .int (nI 1)), (0, .ref w)]) hx hb dc_Wd_integer_147 hl rfl (nI_1 _) (by decide) rfl (fun ls hl => ?_)
                            refine lv_goto hx hb dc_Wd_integer_150 rfl ?_
                            have hl := lv_sub (l' := [(4, .int (nI (i + 1))), (3, .int (nI ((v * 10) + ((t i) - 48)))), (2, .int (nI (ga + 1))), (1, .int (nI 1)), (0, .ref w)]) hl [0, 1, 3, 4, 5] rfl
                            exact ih _ _ _ (by omega) hl (by rw [← h1]; exact (dg_st (by omega) ⟨by omega, by omega⟩).symm) (⟨by omega, by omega⟩)
                          · refine lv_sipush (v := (-1000)) hx hb dc_Wd_integer_135 (by decide +kernel) ?_
                            exact kr_iret hx hb hr hlocks dc_Wd_integer_138 (by rw [iv_n ⟨by omega, hneg⟩, if_neg hno, ← h1, dg_no (by omega) (fun q => by omega)]; rfl)
                      · refine lv_bipush (v := nI 48) hx hb dc_Wd_integer_118 (by decide +kernel) ?_
                        refine lv_isub hx hb dc_Wd_integer_120 ?_
                        refine lv_istore (lv' := [(5, .int ((nI (t i)) - (nI 48))), (4, .int (nI i)), (3, .int (nI v)), (2, .int (nI (ga + 1))), (1, .int (nI 1)), (0, .ref w)]) hx hb dc_Wd_integer_121 hl (by decide) rfl (fun ls hl => ?_)
                        refine lv_iload hx hb dc_Wd_integer_123 (lv_at hl 0 rfl) ?_
                        refine lv_if_lt hx hb dc_Wd_integer_125 rfl (fun hc125 => ?_) (fun hc125 => ?_)
                        · refine lv_sipush (v := (-1000)) hx hb dc_Wd_integer_135 (by decide +kernel) ?_
                          exact kr_iret hx hb hr hlocks dc_Wd_integer_138 (by rw [iv_n ⟨by omega, hneg⟩, if_neg hno, ← h1, dg_no (by omega) (fun q => by omega)]; rfl)
                        · exact absurd (pk_sneg (by decide) (by omega)) hc125
                exact lp_100 _ _ _ _ (Nat.lt_succ_self _) hl (rfl) (⟨by omega, by omega⟩)
              · refine lv_aload_n hx hb dc_Wd_integer_78 rfl (lv_at hl 2 rfl) ?_
                refine va_get (ci := 1) (v := .int (nI gb)) (C := rn_Wd) (T := fd_Wd) (N := 3) hx hb hts in_Wd hown hK hP 0 rfl rfl 2 (by decide) (hts _ wd_319) (fun _ h9 => h9) rfl dc_Wd_integer_79 ?_
                refine lv_aload_n hx hb dc_Wd_integer_82 rfl (lv_at hl 2 rfl) ?_
                refine va_get (ci := 1) (v := .int (nI ga)) (C := rn_Wd) (T := fd_Wd) (N := 3) hx hb hts in_Wd hown hK hP 0 rfl rfl 1 (by decide) (hts _ wd_318) (fun _ h9 => h9) rfl dc_Wd_integer_83 ?_
                refine kn_isub hx hb (by omega) dc_Wd_integer_86 ?_
                refine lv_iconst (v := nI 1) hx hb dc_Wd_integer_87 (by decide +kernel) ?_
                refine kn_icmp_le hx hb (by omega) (by omega) dc_Wd_integer_88 rfl (fun hc88 => ?_) (fun hc88 => ?_)
                · exfalso; omega
                · refine lv_sipush (v := (-1000)) hx hb dc_Wd_integer_91 (by decide +kernel) ?_
                  exact kr_iret hx hb hr hlocks dc_Wd_integer_94 (by rw [iv_n ⟨by omega, hneg⟩, if_pos (Or.inr (Or.inr (hc75)))])
            · refine lv_sipush (v := (-1000)) hx hb dc_Wd_integer_61 (by decide +kernel) ?_
              exact kr_iret hx hb hr hlocks dc_Wd_integer_64 (by rw [iv_n ⟨by omega, hneg⟩, if_pos (Or.inr (Or.inl (by omega)))])
    · refine lv_bipush (v := nI 45) hx hb dc_Wd_integer_11 (by decide +kernel) ?_
      refine kn_icmp_ne hx hb (Nat.lt_trans (ht ga) (by decide)) (by omega) dc_Wd_integer_13 rfl (fun hc13 => ?_) (fun hc13 => ?_)
      · refine lv_iconst (v := nI 0) hx hb dc_Wd_integer_20 (by decide +kernel) ?_
        refine lv_istore_n (lv' := [(1, .int (nI 0)), (0, .ref w)]) hx hb dc_Wd_integer_21 rfl hl (by decide) rfl (fun ls hl => ?_)
        refine lv_iload_n hx hb dc_Wd_integer_22 rfl (lv_at hl 0 rfl) ?_
        refine kn_if_eq hx hb (by omega) dc_Wd_integer_23 rfl (fun hc23 => ?_) (fun hc23 => ?_)
        · refine lv_aload_n hx hb dc_Wd_integer_35 rfl (lv_at hl 1 rfl) ?_
          refine va_get (ci := 1) (v := .int (nI ga)) (C := rn_Wd) (T := fd_Wd) (N := 3) hx hb hts in_Wd hown hK hP 0 rfl rfl 1 (by decide) (hts _ wd_318) (fun _ h9 => h9) rfl dc_Wd_integer_36 ?_
          refine lv_istore_n (lv' := [(2, .int (nI ga)), (1, .int (nI 0)), (0, .ref w)]) hx hb dc_Wd_integer_39 rfl hl (by decide) rfl (fun ls hl => ?_)
          refine lv_iload_n hx hb dc_Wd_integer_40 rfl (lv_at hl 0 rfl) ?_
          refine lv_aload_n hx hb dc_Wd_integer_41 rfl (lv_at hl 2 rfl) ?_
          refine va_get (ci := 1) (v := .int (nI gb)) (C := rn_Wd) (T := fd_Wd) (N := 3) hx hb hts in_Wd hown hK hP 0 rfl rfl 2 (by decide) (hts _ wd_319) (fun _ h9 => h9) rfl dc_Wd_integer_42 ?_
          refine kn_icmp_ge hx hb (by omega) (by omega) dc_Wd_integer_45 rfl (fun hc45 => ?_) (fun hc45 => ?_)
          · refine lv_sipush (v := (-1000)) hx hb dc_Wd_integer_61 (by decide +kernel) ?_
            exact kr_iret hx hb hr hlocks dc_Wd_integer_64 (by rw [iv_p (fun q => hneg q.2), if_pos (Or.inl (by omega))])
          · refine lv_aload_n hx hb dc_Wd_integer_48 rfl (lv_at hl 2 rfl) ?_
            refine va_get (ci := 1) (v := .int (nI gb)) (C := rn_Wd) (T := fd_Wd) (N := 3) hx hb hts in_Wd hown hK hP 0 rfl rfl 2 (by decide) (hts _ wd_319) (fun _ h9 => h9) rfl dc_Wd_integer_49 ?_
            refine lv_aload_n hx hb dc_Wd_integer_52 rfl (lv_at hl 2 rfl) ?_
            refine va_get (ci := 1) (v := .int (nI ga)) (C := rn_Wd) (T := fd_Wd) (N := 3) hx hb hts in_Wd hown hK hP 0 rfl rfl 1 (by decide) (hts _ wd_318) (fun _ h9 => h9) rfl dc_Wd_integer_53 ?_
            refine kn_isub hx hb (by omega) dc_Wd_integer_56 ?_
            refine lv_iconst (v := nI 3) hx hb dc_Wd_integer_57 (by decide +kernel) ?_
            refine kn_icmp_le hx hb (by omega) (by omega) dc_Wd_integer_58 rfl (fun hc58 => ?_) (fun hc58 => ?_)
            · refine lv_aload_n hx hb dc_Wd_integer_65 rfl (lv_at hl 2 rfl) ?_
              refine va_get (ci := 1) (v := .ref o) (C := rn_Wd) (T := fd_Wd) (N := 3) hx hb hts in_Wd hown hK hP 0 rfl rfl 0 (by decide) (hts _ wd_317) (fun _ h9 => h9) rfl dc_Wd_integer_66 ?_
              refine lv_iload_n hx hb dc_Wd_integer_69 rfl (lv_at hl 0 rfl) ?_
              refine kr_call1 (va_runV (As := [.int (nI ga)]) (rest := []) ⟨hx, hb, hml, hown, hts⟩ (ct_Tx_atn l D cI cZ _ o a N n t ga (by omega) (by omega) (by omega)) (cwV 1 hts (kx_gV wd_313 wd_293 wd_294 wd_2 wd_295) rfl rfl rfl ⟨rfl, yd_Tx_at⟩ ⟨Nat.le_of_ble_eq_true rfl, Nat.le_of_ble_eq_true rfl⟩) (kp_V (q0 := 1) (ci := 0) hP hD hK hN [1, 2] rfl rfl rfl rfl rfl) rfl rfl hl.1 rfl (lv_room (Nat.le_of_ble_eq_true rfl)) dc_Wd_integer_70 ⟨Nat.le_of_ble_eq_true rfl, Nat.le_of_ble_eq_true rfl⟩) ?_
              refine lv_bipush (v := nI 48) hx hb dc_Wd_integer_73 (by decide +kernel) ?_
              refine kn_icmp_ne hx hb (Nat.lt_trans (ht ga) (by decide)) (by omega) dc_Wd_integer_75 rfl (fun hc75 => ?_) (fun hc75 => ?_)
              · have hno : ¬ (gb ≤ ga ∨ 3 < gb - ga ∨ (t ga = 48 ∧ 1 < gb - ga)) := fun q => by omega
                refine lv_iconst (v := nI 0) hx hb dc_Wd_integer_95 (by decide +kernel) ?_
                refine lv_istore_n (lv' := [(3, .int (nI 0)), (2, .int (nI ga)), (1, .int (nI 0)), (0, .ref w)]) hx hb dc_Wd_integer_96 rfl hl (by decide) rfl (fun ls hl => ?_)
                refine lv_iload_n hx hb dc_Wd_integer_97 rfl (lv_at hl 1 rfl) ?_
                refine lv_istore (lv' := [(4, .int (nI ga)), (3, .int (nI 0)), (2, .int (nI ga)), (1, .int (nI 0)), (0, .ref w)]) hx hb dc_Wd_integer_98 hl (by decide) rfl (fun ls hl => ?_)
                have lp_100 : ∀ (K : Nat) (i : Nat) (v : Nat) (ls : Array Slot), gb - i < K → lv_has ls 6 [(4, .int (nI i)), (3, .int (nI v)), (2, .int (nI ga)), (1, .int (nI 0)), (0, .ref w)] → (pt_dg t (gb - i) i v = pt_dg t (gb - (ga)) (ga) 0) → (ga ≤ i ∧ i ≤ gb) → W p l e ({ frames := 1, cells := 0, slots := 0, locals := 21 } : Room) s m ([.ref w] : List Value).toArray below meth c s.heap [] 0 0 (MQ below (kr_q (some (.int (pt_intv t ga gb)))) ([.ref w] : List Value).toArray s 0 0 (fun _ => False)) (F0 m 100 ls []) := by
                  intro K
                  induction K with
                  | zero =>
                    intro i v ls hk
                    exact absurd hk (Nat.not_lt_zero _)
                  | succ K ih =>
                    intro i v ls hk hl h1 h2
                    refine lv_iload hx hb dc_Wd_integer_100 (lv_at hl 0 rfl) ?_
                    refine lv_aload_n hx hb dc_Wd_integer_102 rfl (lv_at hl 4 rfl) ?_
                    refine va_get (ci := 1) (v := .int (nI gb)) (C := rn_Wd) (T := fd_Wd) (N := 3) hx hb hts in_Wd hown hK hP 0 rfl rfl 2 (by decide) (hts _ wd_319) (fun _ h9 => h9) rfl dc_Wd_integer_103 ?_
                    refine kn_icmp_ge hx hb (by omega) (by omega) dc_Wd_integer_106 rfl (fun hc106 => ?_) (fun hc106 => ?_)
                    · refine lv_iload_n hx hb dc_Wd_integer_153 rfl (lv_at hl 3 rfl) ?_
                      refine kn_if_eq hx hb (by omega) dc_Wd_integer_154 rfl (fun hc154 => ?_) (fun hc154 => ?_)
                      · refine lv_iload_n hx hb dc_Wd_integer_162 rfl (lv_at hl 1 rfl) ?_
                        exact kr_iret hx hb hr hlocks dc_Wd_integer_163 (by rw [iv_p (fun q => hneg q.2), if_neg hno, ← h1, dg_en (by omega)]; rfl)
                      · exact absurd rfl hc154
                    · refine lv_aload_n hx hb dc_Wd_integer_109 rfl (lv_at hl 4 rfl) ?_
                      refine va_get (ci := 1) (v := .ref o) (C := rn_Wd) (T := fd_Wd) (N := 3) hx hb hts in_Wd hown hK hP 0 rfl rfl 0 (by decide) (hts _ wd_317) (fun _ h9 => h9) rfl dc_Wd_integer_110 ?_
                      refine lv_iload hx hb dc_Wd_integer_113 (lv_at hl 0 rfl) ?_
                      refine kr_call1 (va_runV (As := [.int (nI i)]) (rest := []) ⟨hx, hb, hml, hown, hts⟩ (ct_Tx_atn l D cI cZ _ o a N n t i (by omega) (by omega) (by omega)) (cwV 1 hts (kx_gV wd_313 wd_293 wd_294 wd_2 wd_295) rfl rfl rfl ⟨rfl, yd_Tx_at⟩ ⟨Nat.le_of_ble_eq_true rfl, Nat.le_of_ble_eq_true rfl⟩) (kp_V (q0 := 1) (ci := 0) hP hD hK hN [1, 2] rfl rfl rfl rfl rfl) rfl rfl hl.1 rfl (lv_room (Nat.le_of_ble_eq_true rfl)) dc_Wd_integer_115 ⟨Nat.le_of_ble_eq_true rfl, Nat.le_of_ble_eq_true rfl⟩) ?_
                      have h256 := ht i
                      by_cases h48 : 48 ≤ t i
                      · refine lv_bipush (v := nI 48) hx hb dc_Wd_integer_118 (by decide +kernel) ?_
                        refine kn_isub hx hb (by omega) dc_Wd_integer_120 ?_
                        refine lv_istore (lv' := [(5, .int (nI ((t i) - 48))), (4, .int (nI i)), (3, .int (nI v)), (2, .int (nI ga)), (1, .int (nI 0)), (0, .ref w)]) hx hb dc_Wd_integer_121 hl (by decide) rfl (fun ls hl => ?_)
                        refine lv_iload hx hb dc_Wd_integer_123 (lv_at hl 0 rfl) ?_
                        refine lv_if_lt hx hb dc_Wd_integer_125 rfl (fun hc125 => ?_) (fun hc125 => ?_)
                        · exact absurd hc125 (nI_pos (by omega))
                        · refine lv_iload hx hb dc_Wd_integer_128 (lv_at hl 0 rfl) ?_
                          refine lv_bipush (v := nI 9) hx hb dc_Wd_integer_130 (by decide +kernel) ?_
                          refine kn_icmp_le hx hb (by omega) (by omega) dc_Wd_integer_132 rfl (fun hc132 => ?_) (fun hc132 => ?_)
                          · refine lv_iload_n hx hb dc_Wd_integer_139 rfl (lv_at hl 2 rfl) ?_
                            refine lv_bipush (v := nI 10) hx hb dc_Wd_integer_140 (by decide +kernel) ?_
                            refine kn_imul hx hb dc_Wd_integer_142 ?_
                            refine lv_iload hx hb dc_Wd_integer_143 (lv_at hl 0 rfl) ?_
                            refine kn_iadd hx hb dc_Wd_integer_145 ?_
                            refine lv_istore_n (lv' := [(3, .int (nI ((v * 10) + ((t i) - 48)))), (5, .int (nI ((t i) - 48))), (4, .int (nI i)), (2, .int (nI ga)), (1, .int (nI 0)), (0, .ref w)]) hx hb dc_Wd_integer_146 rfl hl (by decide) rfl (fun ls hl => ?_)
                            refine lv_iinc (k := 2) (v := nI (i + 1)) (lv' := [(4, .int (nI (i + 1))), (3, .int (nI ((v * 10) + ((t i) - 48)))), (5, .int (nI ((t i) - 48))), (2, .int (nI ga)), (1, .int (nI 0)), (0, .ref w)]) hx hb dc_Wd_integer_147 hl rfl (nI_1 _) (by decide) rfl (fun ls hl => ?_)
                            refine lv_goto hx hb dc_Wd_integer_150 rfl ?_
                            have hl := lv_sub (l' := [(4, .int (nI (i + 1))), (3, .int (nI ((v * 10) + ((t i) - 48)))), (2, .int (nI ga)), (1, .int (nI 0)), (0, .ref w)]) hl [0, 1, 3, 4, 5] rfl
                            exact ih _ _ _ (by omega) hl (by rw [← h1]; exact (dg_st (by omega) ⟨by omega, by omega⟩).symm) (⟨by omega, by omega⟩)
                          · refine lv_sipush (v := (-1000)) hx hb dc_Wd_integer_135 (by decide +kernel) ?_
                            exact kr_iret hx hb hr hlocks dc_Wd_integer_138 (by rw [iv_p (fun q => hneg q.2), if_neg hno, ← h1, dg_no (by omega) (fun q => by omega)]; rfl)
                      · refine lv_bipush (v := nI 48) hx hb dc_Wd_integer_118 (by decide +kernel) ?_
                        refine lv_isub hx hb dc_Wd_integer_120 ?_
                        refine lv_istore (lv' := [(5, .int ((nI (t i)) - (nI 48))), (4, .int (nI i)), (3, .int (nI v)), (2, .int (nI ga)), (1, .int (nI 0)), (0, .ref w)]) hx hb dc_Wd_integer_121 hl (by decide) rfl (fun ls hl => ?_)
                        refine lv_iload hx hb dc_Wd_integer_123 (lv_at hl 0 rfl) ?_
                        refine lv_if_lt hx hb dc_Wd_integer_125 rfl (fun hc125 => ?_) (fun hc125 => ?_)
                        · refine lv_sipush (v := (-1000)) hx hb dc_Wd_integer_135 (by decide +kernel) ?_
                          exact kr_iret hx hb hr hlocks dc_Wd_integer_138 (by rw [iv_p (fun q => hneg q.2), if_neg hno, ← h1, dg_no (by omega) (fun q => by omega)]; rfl)
                        · exact absurd (pk_sneg (by decide) (by omega)) hc125
                exact lp_100 _ _ _ _ (Nat.lt_succ_self _) hl (rfl) (⟨by omega, by omega⟩)
              · refine lv_aload_n hx hb dc_Wd_integer_78 rfl (lv_at hl 2 rfl) ?_
                refine va_get (ci := 1) (v := .int (nI gb)) (C := rn_Wd) (T := fd_Wd) (N := 3) hx hb hts in_Wd hown hK hP 0 rfl rfl 2 (by decide) (hts _ wd_319) (fun _ h9 => h9) rfl dc_Wd_integer_79 ?_
                refine lv_aload_n hx hb dc_Wd_integer_82 rfl (lv_at hl 2 rfl) ?_
                refine va_get (ci := 1) (v := .int (nI ga)) (C := rn_Wd) (T := fd_Wd) (N := 3) hx hb hts in_Wd hown hK hP 0 rfl rfl 1 (by decide) (hts _ wd_318) (fun _ h9 => h9) rfl dc_Wd_integer_83 ?_
                refine kn_isub hx hb (by omega) dc_Wd_integer_86 ?_
                refine lv_iconst (v := nI 1) hx hb dc_Wd_integer_87 (by decide +kernel) ?_
                refine kn_icmp_le hx hb (by omega) (by omega) dc_Wd_integer_88 rfl (fun hc88 => ?_) (fun hc88 => ?_)
                · have hno : ¬ (gb ≤ ga ∨ 3 < gb - ga ∨ (t ga = 48 ∧ 1 < gb - ga)) := fun q => by omega
                  refine lv_iconst (v := nI 0) hx hb dc_Wd_integer_95 (by decide +kernel) ?_
                  refine lv_istore_n (lv' := [(3, .int (nI 0)), (2, .int (nI ga)), (1, .int (nI 0)), (0, .ref w)]) hx hb dc_Wd_integer_96 rfl hl (by decide) rfl (fun ls hl => ?_)
                  refine lv_iload_n hx hb dc_Wd_integer_97 rfl (lv_at hl 1 rfl) ?_
                  refine lv_istore (lv' := [(4, .int (nI ga)), (3, .int (nI 0)), (2, .int (nI ga)), (1, .int (nI 0)), (0, .ref w)]) hx hb dc_Wd_integer_98 hl (by decide) rfl (fun ls hl => ?_)
                  have lp_100 : ∀ (K : Nat) (i : Nat) (v : Nat) (ls : Array Slot), gb - i < K → lv_has ls 6 [(4, .int (nI i)), (3, .int (nI v)), (2, .int (nI ga)), (1, .int (nI 0)), (0, .ref w)] → (pt_dg t (gb - i) i v = pt_dg t (gb - (ga)) (ga) 0) → (ga ≤ i ∧ i ≤ gb) → W p l e ({ frames := 1, cells := 0, slots := 0, locals := 21 } : Room) s m ([.ref w] : List Value).toArray below meth c s.heap [] 0 0 (MQ below (kr_q (some (.int (pt_intv t ga gb)))) ([.ref w] : List Value).toArray s 0 0 (fun _ => False)) (F0 m 100 ls []) := by
                    intro K
                    induction K with
                    | zero =>
                      intro i v ls hk
                      exact absurd hk (Nat.not_lt_zero _)
                    | succ K ih =>
                      intro i v ls hk hl h1 h2
                      refine lv_iload hx hb dc_Wd_integer_100 (lv_at hl 0 rfl) ?_
                      refine lv_aload_n hx hb dc_Wd_integer_102 rfl (lv_at hl 4 rfl) ?_
                      refine va_get (ci := 1) (v := .int (nI gb)) (C := rn_Wd) (T := fd_Wd) (N := 3) hx hb hts in_Wd hown hK hP 0 rfl rfl 2 (by decide) (hts _ wd_319) (fun _ h9 => h9) rfl dc_Wd_integer_103 ?_
                      refine kn_icmp_ge hx hb (by omega) (by omega) dc_Wd_integer_106 rfl (fun hc106 => ?_) (fun hc106 => ?_)
                      · refine lv_iload_n hx hb dc_Wd_integer_153 rfl (lv_at hl 3 rfl) ?_
                        refine kn_if_eq hx hb (by omega) dc_Wd_integer_154 rfl (fun hc154 => ?_) (fun hc154 => ?_)
                        · refine lv_iload_n hx hb dc_Wd_integer_162 rfl (lv_at hl 1 rfl) ?_
                          exact kr_iret hx hb hr hlocks dc_Wd_integer_163 (by rw [iv_p (fun q => hneg q.2), if_neg hno, ← h1, dg_en (by omega)]; rfl)
                        · exact absurd rfl hc154
                      · refine lv_aload_n hx hb dc_Wd_integer_109 rfl (lv_at hl 4 rfl) ?_
                        refine va_get (ci := 1) (v := .ref o) (C := rn_Wd) (T := fd_Wd) (N := 3) hx hb hts in_Wd hown hK hP 0 rfl rfl 0 (by decide) (hts _ wd_317) (fun _ h9 => h9) rfl dc_Wd_integer_110 ?_
                        refine lv_iload hx hb dc_Wd_integer_113 (lv_at hl 0 rfl) ?_
                        refine kr_call1 (va_runV (As := [.int (nI i)]) (rest := []) ⟨hx, hb, hml, hown, hts⟩ (ct_Tx_atn l D cI cZ _ o a N n t i (by omega) (by omega) (by omega)) (cwV 1 hts (kx_gV wd_313 wd_293 wd_294 wd_2 wd_295) rfl rfl rfl ⟨rfl, yd_Tx_at⟩ ⟨Nat.le_of_ble_eq_true rfl, Nat.le_of_ble_eq_true rfl⟩) (kp_V (q0 := 1) (ci := 0) hP hD hK hN [1, 2] rfl rfl rfl rfl rfl) rfl rfl hl.1 rfl (lv_room (Nat.le_of_ble_eq_true rfl)) dc_Wd_integer_115 ⟨Nat.le_of_ble_eq_true rfl, Nat.le_of_ble_eq_true rfl⟩) ?_
                        have h256 := ht i
                        by_cases h48 : 48 ≤ t i
                        · refine lv_bipush (v := nI 48) hx hb dc_Wd_integer_118 (by decide +kernel) ?_
                          refine kn_isub hx hb (by omega) dc_Wd_integer_120 ?_
                          refine lv_istore (lv' := [(5, .int (nI ((t i) - 48))), (4, .int (nI i)), (3, .int (nI v)), (2, .int (nI ga)), (1, .int (nI 0)), (0, .ref w)]) hx hb dc_Wd_integer_121 hl (by decide) rfl (fun ls hl => ?_)
                          refine lv_iload hx hb dc_Wd_integer_123 (lv_at hl 0 rfl) ?_
                          refine lv_if_lt hx hb dc_Wd_integer_125 rfl (fun hc125 => ?_) (fun hc125 => ?_)
                          · exact absurd hc125 (nI_pos (by omega))
                          · refine lv_iload hx hb dc_Wd_integer_128 (lv_at hl 0 rfl) ?_
                            refine lv_bipush (v := nI 9) hx hb dc_Wd_integer_130 (by decide +kernel) ?_
                            refine kn_icmp_le hx hb (by omega) (by omega) dc_Wd_integer_132 rfl (fun hc132 => ?_) (fun hc132 => ?_)
                            · refine lv_iload_n hx hb dc_Wd_integer_139 rfl (lv_at hl 2 rfl) ?_
                              refine lv_bipush (v := nI 10) hx hb dc_Wd_integer_140 (by decide +kernel) ?_
                              refine kn_imul hx hb dc_Wd_integer_142 ?_
                              refine lv_iload hx hb dc_Wd_integer_143 (lv_at hl 0 rfl) ?_
                              refine kn_iadd hx hb dc_Wd_integer_145 ?_
                              refine lv_istore_n (lv' := [(3, .int (nI ((v * 10) + ((t i) - 48)))), (5, .int (nI ((t i) - 48))), (4, .int (nI i)), (2, .int (nI ga)), (1, .int (nI 0)), (0, .ref w)]) hx hb dc_Wd_integer_146 rfl hl (by decide) rfl (fun ls hl => ?_)
                              refine lv_iinc (k := 2) (v := nI (i + 1)) (lv' := [(4, .int (nI (i + 1))), (3, .int (nI ((v * 10) + ((t i) - 48)))), (5, .int (nI ((t i) - 48))), (2, .int (nI ga)), (1, .int (nI 0)), (0, .ref w)]) hx hb dc_Wd_integer_147 hl rfl (nI_1 _) (by decide) rfl (fun ls hl => ?_)
                              refine lv_goto hx hb dc_Wd_integer_150 rfl ?_
                              have hl := lv_sub (l' := [(4, .int (nI (i + 1))), (3, .int (nI ((v * 10) + ((t i) - 48)))), (2, .int (nI ga)), (1, .int (nI 0)), (0, .ref w)]) hl [0, 1, 3, 4, 5] rfl
                              exact ih _ _ _ (by omega) hl (by rw [← h1]; exact (dg_st (by omega) ⟨by omega, by omega⟩).symm) (⟨by omega, by omega⟩)
                            · refine lv_sipush (v := (-1000)) hx hb dc_Wd_integer_135 (by decide +kernel) ?_
                              exact kr_iret hx hb hr hlocks dc_Wd_integer_138 (by rw [iv_p (fun q => hneg q.2), if_neg hno, ← h1, dg_no (by omega) (fun q => by omega)]; rfl)
                        · refine lv_bipush (v := nI 48) hx hb dc_Wd_integer_118 (by decide +kernel) ?_
                          refine lv_isub hx hb dc_Wd_integer_120 ?_
                          refine lv_istore (lv' := [(5, .int ((nI (t i)) - (nI 48))), (4, .int (nI i)), (3, .int (nI v)), (2, .int (nI ga)), (1, .int (nI 0)), (0, .ref w)]) hx hb dc_Wd_integer_121 hl (by decide) rfl (fun ls hl => ?_)
                          refine lv_iload hx hb dc_Wd_integer_123 (lv_at hl 0 rfl) ?_
                          refine lv_if_lt hx hb dc_Wd_integer_125 rfl (fun hc125 => ?_) (fun hc125 => ?_)
                          · refine lv_sipush (v := (-1000)) hx hb dc_Wd_integer_135 (by decide +kernel) ?_
                            exact kr_iret hx hb hr hlocks dc_Wd_integer_138 (by rw [iv_p (fun q => hneg q.2), if_neg hno, ← h1, dg_no (by omega) (fun q => by omega)]; rfl)
                          · exact absurd (pk_sneg (by decide) (by omega)) hc125
                  exact lp_100 _ _ _ _ (Nat.lt_succ_self _) hl (rfl) (⟨by omega, by omega⟩)
                · refine lv_sipush (v := (-1000)) hx hb dc_Wd_integer_91 (by decide +kernel) ?_
                  exact kr_iret hx hb hr hlocks dc_Wd_integer_94 (by rw [iv_p (fun q => hneg q.2), if_pos (Or.inr (Or.inr (⟨hc75, by omega⟩)))])
            · refine lv_sipush (v := (-1000)) hx hb dc_Wd_integer_61 (by decide +kernel) ?_
              exact kr_iret hx hb hr hlocks dc_Wd_integer_64 (by rw [iv_p (fun q => hneg q.2), if_pos (Or.inr (Or.inl (by omega)))])
        · exact absurd rfl hc23
      · exact absurd hc13 hneg

set_option maxHeartbeats 4000000 in
set_option maxRecDepth 100000 in
theorem ct_Wd_advance (l : Launch) (D : va_G) (cI cZ : ClassId) (sz : Nat) (w : Nat) (o : Nat) (a : Nat) (N : Nat) (n : Nat) (t : Nat → Nat) (ga : Nat) (gb : Nat) (hN : N < 2 ^ 31) (hn : n ≤ N) (ht : ∀ j, t j < 256) (he : gb ≤ n) : Met l yn_Wd_advance (Cond.code yn_Wd_advance bc_Wd_advance 1 none :: kx_all) ({ frames := 2, cells := 0, slots := 0, locals := 43 } : Room) (kp [.ref w] D cI cZ [wo_c w o ga gb, tx_c o a n, ar_n cI a N t] sz) (kw_q none D kc_l [wo_c w o (pt_ws t n gb) (pt_we t n (pt_ws t n gb)), tx_c o a n, ar_n cI a N t] (va_A [wo_c w o ga gb, tx_c o a n, ar_n cI a N t] sz)) 0 0 (va_A [wo_c w o ga gb, tx_c o a n, ar_n cI a N t] sz) := by
  refine kx_metW (by decide) (Nat.le_of_ble_eq_true rfl) ?_
  intro p e s m below meth c ls A hx hb hr hml hts hown hlocks hin hA hP hK hD hN hl hS
  have hown : s.vm.findClass rn_Wd = some m.cls := hown
  have hl : lv_has ls 1 [(0, .ref w)] := hl
  refine lv_aload_n hx hb dc_Wd_advance_0 rfl (lv_at hl 0 rfl) ?_
  refine lv_aload_n hx hb dc_Wd_advance_1 rfl (lv_at hl 0 rfl) ?_
  refine va_get (ci := 1) (v := .ref o) (C := rn_Wd) (T := fd_Wd) (N := 3) hx hb hts in_Wd hown hK hP 0 rfl rfl 0 (by decide) (hts _ wd_317) (fun _ h9 => h9) rfl dc_Wd_advance_2 ?_
  refine lv_aload_n hx hb dc_Wd_advance_5 rfl (lv_at hl 0 rfl) ?_
  refine va_get (ci := 1) (v := .int (nI gb)) (C := rn_Wd) (T := fd_Wd) (N := 3) hx hb hts in_Wd hown hK hP 0 rfl rfl 2 (by decide) (hts _ wd_319) (fun _ h9 => h9) rfl dc_Wd_advance_6 ?_
  refine kr_call1 (va_runS (As := [.ref o, .int (nI gb)]) (rest := [.ref w]) ⟨hx, hb, hml, hown, hts⟩ (ct_Wd_gapsEnd l D cI cZ _ o a N n t gb (by omega) (by omega) (ht) (by omega)) (cwS 2 hts (kx_gS wd_310 wd_311 wd_10 wd_312) rfl rfl rfl ⟨rfl, yd_Wd_gapsEnd⟩ ⟨Nat.le_of_ble_eq_true rfl, Nat.le_of_ble_eq_true rfl⟩) (kp_S hP hD hK hN [1, 2] rfl rfl) rfl rfl hl.1 rfl (lv_room (Nat.le_of_ble_eq_true rfl)) dc_Wd_advance_9 ⟨Nat.le_of_ble_eq_true rfl, Nat.le_of_ble_eq_true rfl⟩) ?_
  refine va_put (ci := 1) (v := .int (nI (pt_ws t n gb))) (ty := .int) (C := rn_Wd) (T := fd_Wd) (N := 3) hx hb hts in_Wd ty_Wd tk_Wd nm_Wd hown hK hP hD hS 0 rfl rfl 1 (by decide) (hts _ wd_318) (fun _ h9 => h9) rfl (by decide +kernel) rfl rfl (Nat.le_of_ble_eq_true rfl) dc_Wd_advance_12 (fun H locs hP hD hS => ?_)
  have hP : va_P D kc_l [wo_c w o (pt_ws t n gb) gb, tx_c o a n, ar_n cI a N t] H := hP
  have hD : va_D A [wo_c w o (pt_ws t n gb) gb, tx_c o a n, ar_n cI a N t] := hD
  refine lv_aload_n hx hb dc_Wd_advance_15 rfl (lv_at hl 0 rfl) ?_
  refine lv_aload_n hx hb dc_Wd_advance_16 rfl (lv_at hl 0 rfl) ?_
  refine va_get (ci := 1) (v := .ref o) (C := rn_Wd) (T := fd_Wd) (N := 3) hx hb hts in_Wd hown hK hP 0 rfl rfl 0 (by decide) (hts _ wd_317) (fun _ h9 => h9) rfl dc_Wd_advance_17 ?_
  refine lv_aload_n hx hb dc_Wd_advance_20 rfl (lv_at hl 0 rfl) ?_
  refine va_get (ci := 1) (v := .int (nI (pt_ws t n gb))) (C := rn_Wd) (T := fd_Wd) (N := 3) hx hb hts in_Wd hown hK hP 0 rfl rfl 1 (by decide) (hts _ wd_318) (fun _ h9 => h9) rfl dc_Wd_advance_21 ?_
  refine kr_call1 (va_runS (As := [.ref o, .int (nI (pt_ws t n gb))]) (rest := [.ref w]) ⟨hx, hb, hml, hown, hts⟩ (ct_Wd_wordsEnd l D cI cZ _ o a N n t (pt_ws t n gb) (by omega) (by omega) (ht) (ws_le (by omega))) (cwS 2 hts (kx_gS wd_314 wd_315 wd_10 wd_316) rfl rfl rfl ⟨rfl, yd_Wd_wordsEnd⟩ ⟨Nat.le_of_ble_eq_true rfl, Nat.le_of_ble_eq_true rfl⟩) (kp_S hP hD hK hN [1, 2] rfl rfl) rfl rfl hl.1 rfl (lv_room (Nat.le_of_ble_eq_true rfl)) dc_Wd_advance_24 ⟨Nat.le_of_ble_eq_true rfl, Nat.le_of_ble_eq_true rfl⟩) ?_
  refine va_put (ci := 1) (v := .int (nI (pt_we t n (pt_ws t n gb)))) (ty := .int) (C := rn_Wd) (T := fd_Wd) (N := 3) hx hb hts in_Wd ty_Wd tk_Wd nm_Wd hown hK hP hD hS 0 rfl rfl 2 (by decide) (hts _ wd_319) (fun _ h9 => h9) rfl (by decide +kernel) rfl rfl (Nat.le_of_ble_eq_true rfl) dc_Wd_advance_27 (fun H locs hP hD hS => ?_)
  have hP : va_P D kc_l [wo_c w o (pt_ws t n gb) (pt_we t n (pt_ws t n gb)), tx_c o a n, ar_n cI a N t] H := hP
  have hD : va_D A [wo_c w o (pt_ws t n gb) (pt_we t n (pt_ws t n gb)), tx_c o a n, ar_n cI a N t] := hD
  exact kw_vret hx hb hr hlocks hP hD hS dc_Wd_advance_30 (rfl)

set_option maxHeartbeats 4000000 in
set_option maxRecDepth 100000 in
theorem ct_Wd_init (l : Launch) (D : va_G) (cI cZ : ClassId) (sz : Nat) (w : Nat) (o : Nat) (a : Nat) (N : Nat) (n : Nat) (t : Nat → Nat) (hN : N < 2 ^ 31) (hn : n ≤ N) (ht : ∀ j, t j < 256) : Met l yn_Wd_init (Cond.code yn_Wd_init bc_Wd_init 2 none :: kx_all) ({ frames := 2, cells := 0, slots := 0, locals := 43 } : Room) (kp [.ref w, .ref o] D cI cZ [(w, .inr (1, [.null, .int 0, .int 0])), tx_c o a n, ar_n cI a N t] sz) (kw_q none D kc_l [wo_c w o (pt_ws t n 0) (pt_we t n (pt_ws t n 0)), tx_c o a n, ar_n cI a N t] (va_A [(w, .inr (1, [.null, .int 0, .int 0])), tx_c o a n, ar_n cI a N t] sz)) 0 0 (va_A [(w, .inr (1, [.null, .int 0, .int 0])), tx_c o a n, ar_n cI a N t] sz) := by
  refine kx_metW (by decide) (Nat.le_of_ble_eq_true rfl) ?_
  intro p e s m below meth c ls A hx hb hr hml hts hown hlocks hin hA hP hK hD hN hl hS
  have hown : s.vm.findClass rn_Wd = some m.cls := hown
  have hl : lv_has ls 2 [(0, .ref w), (1, .ref o)] := hl
  refine lv_aload_n hx hb dc_Wd_init_0 rfl (lv_at hl 0 rfl) ?_
  refine W.objInit hx hb hown (hts _ wd_309) (hts _ wd_29) (hts _ wd_30) rfl (by rw [hml]; exact hl.1) rfl dc_Wd_init_1 (Nat.le_of_ble_eq_true rfl) (Nat.le_of_ble_eq_true rfl) ?_
  refine W.eq (g2 := F0 m 4 ls []) rfl ?_
  refine lv_aload_n hx hb dc_Wd_init_4 rfl (lv_at hl 0 rfl) ?_
  refine lv_aload_n hx hb dc_Wd_init_5 rfl (lv_at hl 1 rfl) ?_
  refine va_putF (ci := 1) (v := .ref o) (ty := .object "ProofTrimmer$Text") (C := rn_Wd) (T := fd_Wd) (N := 3) hx hb hts in_Wd ty_Wd tk_Wd nm_Wd hown hK hP hD hS 0 rfl rfl 0 (by decide) (hts _ wd_317) (fun _ h9 => h9) rfl hin rfl (by decide +kernel) rfl rfl (Nat.le_of_ble_eq_true rfl) dc_Wd_init_6 (fun H locs hP hD hS => ?_)
  have hP : va_P D kc_l [(w, .inr (1, [.ref o, .int 0, .int 0])), tx_c o a n, ar_n cI a N t] H := hP
  have hD : va_D A [(w, .inr (1, [.ref o, .int 0, .int 0])), tx_c o a n, ar_n cI a N t] := hD
  refine lv_aload_n hx hb dc_Wd_init_9 rfl (lv_at hl 0 rfl) ?_
  refine lv_aload_n hx hb dc_Wd_init_10 rfl (lv_at hl 1 rfl) ?_
  refine lv_iconst (v := nI 0) hx hb dc_Wd_init_11 (by decide +kernel) ?_
  refine kr_call1 (va_runS (As := [.ref o, .int (nI 0)]) (rest := [.ref w]) ⟨hx, hb, hml, hown, hts⟩ (ct_Wd_gapsEnd l D cI cZ _ o a N n t 0 (by omega) (by omega) (ht) (by omega)) (cwS 2 hts (kx_gS wd_310 wd_311 wd_10 wd_312) rfl rfl rfl ⟨rfl, yd_Wd_gapsEnd⟩ ⟨Nat.le_of_ble_eq_true rfl, Nat.le_of_ble_eq_true rfl⟩) (kp_S hP hD hK hN [1, 2] rfl rfl) rfl rfl hl.1 rfl (lv_room (Nat.le_of_ble_eq_true rfl)) dc_Wd_init_12 ⟨Nat.le_of_ble_eq_true rfl, Nat.le_of_ble_eq_true rfl⟩) ?_
  refine va_put (ci := 1) (v := .int (nI (pt_ws t n 0))) (ty := .int) (C := rn_Wd) (T := fd_Wd) (N := 3) hx hb hts in_Wd ty_Wd tk_Wd nm_Wd hown hK hP hD hS 0 rfl rfl 1 (by decide) (hts _ wd_318) (fun _ h9 => h9) rfl (by decide +kernel) rfl rfl (Nat.le_of_ble_eq_true rfl) dc_Wd_init_15 (fun H locs hP hD hS => ?_)
  have hP : va_P D kc_l [(w, .inr (1, [.ref o, .int (nI (pt_ws t n 0)), .int 0])), tx_c o a n, ar_n cI a N t] H := hP
  have hD : va_D A [(w, .inr (1, [.ref o, .int (nI (pt_ws t n 0)), .int 0])), tx_c o a n, ar_n cI a N t] := hD
  refine lv_aload_n hx hb dc_Wd_init_18 rfl (lv_at hl 0 rfl) ?_
  refine lv_aload_n hx hb dc_Wd_init_19 rfl (lv_at hl 1 rfl) ?_
  refine lv_aload_n hx hb dc_Wd_init_20 rfl (lv_at hl 0 rfl) ?_
  refine va_get (ci := 1) (v := .int (nI (pt_ws t n 0))) (C := rn_Wd) (T := fd_Wd) (N := 3) hx hb hts in_Wd hown hK hP 0 rfl rfl 1 (by decide) (hts _ wd_318) (fun _ h9 => h9) rfl dc_Wd_init_21 ?_
  refine kr_call1 (va_runS (As := [.ref o, .int (nI (pt_ws t n 0))]) (rest := [.ref w]) ⟨hx, hb, hml, hown, hts⟩ (ct_Wd_wordsEnd l D cI cZ _ o a N n t (pt_ws t n 0) (by omega) (by omega) (ht) (ws_le (by omega))) (cwS 2 hts (kx_gS wd_314 wd_315 wd_10 wd_316) rfl rfl rfl ⟨rfl, yd_Wd_wordsEnd⟩ ⟨Nat.le_of_ble_eq_true rfl, Nat.le_of_ble_eq_true rfl⟩) (kp_S hP hD hK hN [1, 2] rfl rfl) rfl rfl hl.1 rfl (lv_room (Nat.le_of_ble_eq_true rfl)) dc_Wd_init_24 ⟨Nat.le_of_ble_eq_true rfl, Nat.le_of_ble_eq_true rfl⟩) ?_
  refine va_put (ci := 1) (v := .int (nI (pt_we t n (pt_ws t n 0)))) (ty := .int) (C := rn_Wd) (T := fd_Wd) (N := 3) hx hb hts in_Wd ty_Wd tk_Wd nm_Wd hown hK hP hD hS 0 rfl rfl 2 (by decide) (hts _ wd_319) (fun _ h9 => h9) rfl (by decide +kernel) rfl rfl (Nat.le_of_ble_eq_true rfl) dc_Wd_init_27 (fun H locs hP hD hS => ?_)
  have hP : va_P D kc_l [wo_c w o (pt_ws t n 0) (pt_we t n (pt_ws t n 0)), tx_c o a n, ar_n cI a N t] H := hP
  have hD : va_D A [wo_c w o (pt_ws t n 0) (pt_we t n (pt_ws t n 0)), tx_c o a n, ar_n cI a N t] := hD
  exact kw_vret hx hb hr hlocks hP hD hS dc_Wd_init_30 (rfl)
end
section
/-! clauses by their numbers -/
theorem ni_lt1 {i : Int32} (h : i < 0) (k : Nat) (hk : k < 2 ^ 31) : i < nI k := by
  rw [Int32.lt_iff_toInt_lt] at h ⊢
  rw [nI_toInt hk]
  have h3 : (0 : Int32).toInt = 0 := rfl
  omega
/-- the greatest number up to k with a property, or 0 -/
def pt_last (P : Nat → Bool) : Nat → Nat
  | 0 => 0
  | k + 1 => if P (k + 1) = true then k + 1 else pt_last P k
theorem pt_last_le (P : Nat → Bool) : ∀ k, pt_last P k ≤ k := by
  intro k
  induction k with
  | zero => exact Nat.le_refl 0
  | succ k ih =>
    rw [pt_last]
    split
    · exact Nat.le_refl _
    · omega
theorem pt_abs : ∀ b, b < 16 → (if 0 ≤ pt_lit b then pt_lit b else 0 - pt_lit b) = nI (b % 8 + 1) := by decide +kernel
theorem pt_var : ∀ b, b < 16 → nI (b % 8 + 1) = pt_lit (b % 8) := by decide +kernel
theorem pt_vneg : ∀ b, b < 16 → -nI (b % 8 + 1) = pt_lit (b % 8 + 8) := by decide +kernel
/-- the number of no literal -/
def pt_no (x : Int32) : Prop := (if 0 ≤ x then x else 0 - x) < nI 1 ∨ nI 8 < (if 0 ≤ x then x else 0 - x)

theorem dc_Cl_has_0 : decode bc_Cl_has 0 = .ok (.iload_n 1, 1) := by decide +kernel
theorem dc_Cl_has_1 : decode bc_Cl_has 1 = .ok (.iconst 1, 1) := by decide +kernel
theorem dc_Cl_has_2 : decode bc_Cl_has 2 = .ok (.if_icmp .lt (15), 3) := by decide +kernel
theorem dc_Cl_has_5 : decode bc_Cl_has 5 = .ok (.iload_n 1, 1) := by decide +kernel
theorem dc_Cl_has_6 : decode bc_Cl_has 6 = .ok (.aload_n 0, 1) := by decide +kernel
theorem dc_Cl_has_7 : decode bc_Cl_has 7 = .ok (.getfield 21, 3) := by decide +kernel
theorem dc_Cl_has_10 : decode bc_Cl_has 10 = .ok (.if_icmp .gt (7), 3) := by decide +kernel
theorem dc_Cl_has_13 : decode bc_Cl_has 13 = .ok (.iconst 1, 1) := by decide +kernel
theorem dc_Cl_has_14 : decode bc_Cl_has 14 = .ok (.goto (4), 3) := by decide +kernel
theorem dc_Cl_has_17 : decode bc_Cl_has 17 = .ok (.iconst 0, 1) := by decide +kernel
theorem dc_Cl_has_18 : decode bc_Cl_has 18 = .ok (.ireturn, 1) := by decide +kernel
theorem dc_Cl_literalAt_0 : decode bc_Cl_literalAt 0 = .ok (.aload_n 0, 1) := by decide +kernel
theorem dc_Cl_literalAt_1 : decode bc_Cl_literalAt 1 = .ok (.iload_n 1, 1) := by decide +kernel
theorem dc_Cl_literalAt_2 : decode bc_Cl_literalAt 2 = .ok (.invokevirtual 25, 3) := by decide +kernel
theorem dc_Cl_literalAt_5 : decode bc_Cl_literalAt 5 = .ok (.ifCond .eq (31), 3) := by decide +kernel
theorem dc_Cl_literalAt_8 : decode bc_Cl_literalAt 8 = .ok (.iload_n 2, 1) := by decide +kernel
theorem dc_Cl_literalAt_9 : decode bc_Cl_literalAt 9 = .ok (.ifCond .lt (27), 3) := by decide +kernel
theorem dc_Cl_literalAt_12 : decode bc_Cl_literalAt 12 = .ok (.iload_n 2, 1) := by decide +kernel
theorem dc_Cl_literalAt_13 : decode bc_Cl_literalAt 13 = .ok (.aload_n 0, 1) := by decide +kernel
theorem dc_Cl_literalAt_14 : decode bc_Cl_literalAt 14 = .ok (.getfield 9, 3) := by decide +kernel
theorem dc_Cl_literalAt_17 : decode bc_Cl_literalAt 17 = .ok (.iload_n 1, 1) := by decide +kernel
theorem dc_Cl_literalAt_18 : decode bc_Cl_literalAt 18 = .ok (.iaload, 1) := by decide +kernel
theorem dc_Cl_literalAt_19 : decode bc_Cl_literalAt 19 = .ok (.if_icmp .ge (17), 3) := by decide +kernel
theorem dc_Cl_literalAt_22 : decode bc_Cl_literalAt 22 = .ok (.aload_n 0, 1) := by decide +kernel
theorem dc_Cl_literalAt_23 : decode bc_Cl_literalAt 23 = .ok (.getfield 18, 3) := by decide +kernel
theorem dc_Cl_literalAt_26 : decode bc_Cl_literalAt 26 = .ok (.iload_n 1, 1) := by decide +kernel
theorem dc_Cl_literalAt_27 : decode bc_Cl_literalAt 27 = .ok (.bipush (8), 2) := by decide +kernel
theorem dc_Cl_literalAt_29 : decode bc_Cl_literalAt 29 = .ok (.imul, 1) := by decide +kernel
theorem dc_Cl_literalAt_30 : decode bc_Cl_literalAt 30 = .ok (.iload_n 2, 1) := by decide +kernel
theorem dc_Cl_literalAt_31 : decode bc_Cl_literalAt 31 = .ok (.iadd, 1) := by decide +kernel
theorem dc_Cl_literalAt_32 : decode bc_Cl_literalAt 32 = .ok (.iaload, 1) := by decide +kernel
theorem dc_Cl_literalAt_33 : decode bc_Cl_literalAt 33 = .ok (.goto (4), 3) := by decide +kernel
theorem dc_Cl_literalAt_36 : decode bc_Cl_literalAt 36 = .ok (.iconst 0, 1) := by decide +kernel
theorem dc_Cl_literalAt_37 : decode bc_Cl_literalAt 37 = .ok (.ireturn, 1) := by decide +kernel
theorem dc_Cl_keep_0 : decode bc_Cl_keep 0 = .ok (.aload_n 0, 1) := by decide +kernel
theorem dc_Cl_keep_1 : decode bc_Cl_keep 1 = .ok (.iload_n 1, 1) := by decide +kernel
theorem dc_Cl_keep_2 : decode bc_Cl_keep 2 = .ok (.putfield 21, 3) := by decide +kernel
theorem dc_Cl_keep_5 : decode bc_Cl_keep 5 = .ok (.return_, 1) := by decide +kernel
theorem dc_Cl_begin_0 : decode bc_Cl_begin 0 = .ok (.aload_n 0, 1) := by decide +kernel
theorem dc_Cl_begin_1 : decode bc_Cl_begin 1 = .ok (.getfield 21, 3) := by decide +kernel
theorem dc_Cl_begin_4 : decode bc_Cl_begin 4 = .ok (.iconst 1, 1) := by decide +kernel
theorem dc_Cl_begin_5 : decode bc_Cl_begin 5 = .ok (.iadd, 1) := by decide +kernel
theorem dc_Cl_begin_6 : decode bc_Cl_begin 6 = .ok (.aload_n 0, 1) := by decide +kernel
theorem dc_Cl_begin_7 : decode bc_Cl_begin 7 = .ok (.getfield 9, 3) := by decide +kernel
theorem dc_Cl_begin_10 : decode bc_Cl_begin 10 = .ok (.arraylength, 1) := by decide +kernel
theorem dc_Cl_begin_11 : decode bc_Cl_begin 11 = .ok (.if_icmp .lt (5), 3) := by decide +kernel
theorem dc_Cl_begin_14 : decode bc_Cl_begin 14 = .ok (.iconst 0, 1) := by decide +kernel
theorem dc_Cl_begin_15 : decode bc_Cl_begin 15 = .ok (.ireturn, 1) := by decide +kernel
theorem dc_Cl_begin_16 : decode bc_Cl_begin 16 = .ok (.aload_n 0, 1) := by decide +kernel
theorem dc_Cl_begin_17 : decode bc_Cl_begin 17 = .ok (.dup, 1) := by decide +kernel
theorem dc_Cl_begin_18 : decode bc_Cl_begin 18 = .ok (.getfield 21, 3) := by decide +kernel
theorem dc_Cl_begin_21 : decode bc_Cl_begin 21 = .ok (.iconst 1, 1) := by decide +kernel
theorem dc_Cl_begin_22 : decode bc_Cl_begin 22 = .ok (.iadd, 1) := by decide +kernel
theorem dc_Cl_begin_23 : decode bc_Cl_begin 23 = .ok (.putfield 21, 3) := by decide +kernel
theorem dc_Cl_begin_26 : decode bc_Cl_begin 26 = .ok (.aload_n 0, 1) := by decide +kernel
theorem dc_Cl_begin_27 : decode bc_Cl_begin 27 = .ok (.getfield 9, 3) := by decide +kernel
theorem dc_Cl_begin_30 : decode bc_Cl_begin 30 = .ok (.aload_n 0, 1) := by decide +kernel
theorem dc_Cl_begin_31 : decode bc_Cl_begin 31 = .ok (.getfield 21, 3) := by decide +kernel
theorem dc_Cl_begin_34 : decode bc_Cl_begin 34 = .ok (.iconst 0, 1) := by decide +kernel
theorem dc_Cl_begin_35 : decode bc_Cl_begin 35 = .ok (.iastore, 1) := by decide +kernel
theorem dc_Cl_begin_36 : decode bc_Cl_begin 36 = .ok (.aload_n 0, 1) := by decide +kernel
theorem dc_Cl_begin_37 : decode bc_Cl_begin 37 = .ok (.getfield 15, 3) := by decide +kernel
theorem dc_Cl_begin_40 : decode bc_Cl_begin 40 = .ok (.aload_n 0, 1) := by decide +kernel
theorem dc_Cl_begin_41 : decode bc_Cl_begin 41 = .ok (.getfield 21, 3) := by decide +kernel
theorem dc_Cl_begin_44 : decode bc_Cl_begin 44 = .ok (.iconst 0, 1) := by decide +kernel
theorem dc_Cl_begin_45 : decode bc_Cl_begin 45 = .ok (.iastore, 1) := by decide +kernel
theorem dc_Cl_begin_46 : decode bc_Cl_begin 46 = .ok (.iconst 1, 1) := by decide +kernel
theorem dc_Cl_begin_47 : decode bc_Cl_begin 47 = .ok (.ireturn, 1) := by decide +kernel
theorem dc_Cl_append_0 : decode bc_Cl_append 0 = .ok (.iload_n 1, 1) := by decide +kernel
theorem dc_Cl_append_1 : decode bc_Cl_append 1 = .ok (.invokestatic 29, 3) := by decide +kernel
theorem dc_Cl_append_4 : decode bc_Cl_append 4 = .ok (.istore_n 2, 1) := by decide +kernel
theorem dc_Cl_append_5 : decode bc_Cl_append 5 = .ok (.aload_n 0, 1) := by decide +kernel
theorem dc_Cl_append_6 : decode bc_Cl_append 6 = .ok (.getfield 21, 3) := by decide +kernel
theorem dc_Cl_append_9 : decode bc_Cl_append 9 = .ok (.iconst 1, 1) := by decide +kernel
theorem dc_Cl_append_10 : decode bc_Cl_append 10 = .ok (.if_icmp .lt (14), 3) := by decide +kernel
theorem dc_Cl_append_13 : decode bc_Cl_append 13 = .ok (.iload_n 2, 1) := by decide +kernel
theorem dc_Cl_append_14 : decode bc_Cl_append 14 = .ok (.iconst 1, 1) := by decide +kernel
theorem dc_Cl_append_15 : decode bc_Cl_append 15 = .ok (.if_icmp .lt (9), 3) := by decide +kernel
theorem dc_Cl_append_18 : decode bc_Cl_append 18 = .ok (.iload_n 2, 1) := by decide +kernel
theorem dc_Cl_append_19 : decode bc_Cl_append 19 = .ok (.bipush (8), 2) := by decide +kernel
theorem dc_Cl_append_21 : decode bc_Cl_append 21 = .ok (.if_icmp .le (5), 3) := by decide +kernel
theorem dc_Cl_append_24 : decode bc_Cl_append 24 = .ok (.iconst 0, 1) := by decide +kernel
theorem dc_Cl_append_25 : decode bc_Cl_append 25 = .ok (.ireturn, 1) := by decide +kernel
theorem dc_Cl_append_26 : decode bc_Cl_append 26 = .ok (.aload_n 0, 1) := by decide +kernel
theorem dc_Cl_append_27 : decode bc_Cl_append 27 = .ok (.getfield 15, 3) := by decide +kernel
theorem dc_Cl_append_30 : decode bc_Cl_append 30 = .ok (.aload_n 0, 1) := by decide +kernel
theorem dc_Cl_append_31 : decode bc_Cl_append 31 = .ok (.getfield 21, 3) := by decide +kernel
theorem dc_Cl_append_34 : decode bc_Cl_append 34 = .ok (.iaload, 1) := by decide +kernel
theorem dc_Cl_append_35 : decode bc_Cl_append 35 = .ok (.iload_n 2, 1) := by decide +kernel
theorem dc_Cl_append_36 : decode bc_Cl_append 36 = .ok (.invokestatic 35, 3) := by decide +kernel
theorem dc_Cl_append_39 : decode bc_Cl_append 39 = .ok (.iload_n 2, 1) := by decide +kernel
theorem dc_Cl_append_40 : decode bc_Cl_append 40 = .ok (.ineg, 1) := by decide +kernel
theorem dc_Cl_append_41 : decode bc_Cl_append 41 = .ok (.invokestatic 35, 3) := by decide +kernel
theorem dc_Cl_append_44 : decode bc_Cl_append 44 = .ok (.ior, 1) := by decide +kernel
theorem dc_Cl_append_45 : decode bc_Cl_append 45 = .ok (.iand, 1) := by decide +kernel
theorem dc_Cl_append_46 : decode bc_Cl_append 46 = .ok (.ifCond .eq (5), 3) := by decide +kernel
theorem dc_Cl_append_49 : decode bc_Cl_append 49 = .ok (.iconst 0, 1) := by decide +kernel
theorem dc_Cl_append_50 : decode bc_Cl_append 50 = .ok (.ireturn, 1) := by decide +kernel
theorem dc_Cl_append_51 : decode bc_Cl_append 51 = .ok (.aload_n 0, 1) := by decide +kernel
theorem dc_Cl_append_52 : decode bc_Cl_append 52 = .ok (.getfield 18, 3) := by decide +kernel
theorem dc_Cl_append_55 : decode bc_Cl_append 55 = .ok (.aload_n 0, 1) := by decide +kernel
theorem dc_Cl_append_56 : decode bc_Cl_append 56 = .ok (.getfield 21, 3) := by decide +kernel
theorem dc_Cl_append_59 : decode bc_Cl_append 59 = .ok (.bipush (8), 2) := by decide +kernel
theorem dc_Cl_append_61 : decode bc_Cl_append 61 = .ok (.imul, 1) := by decide +kernel
theorem dc_Cl_append_62 : decode bc_Cl_append 62 = .ok (.aload_n 0, 1) := by decide +kernel
theorem dc_Cl_append_63 : decode bc_Cl_append 63 = .ok (.getfield 9, 3) := by decide +kernel
theorem dc_Cl_append_66 : decode bc_Cl_append 66 = .ok (.aload_n 0, 1) := by decide +kernel
theorem dc_Cl_append_67 : decode bc_Cl_append 67 = .ok (.getfield 21, 3) := by decide +kernel
theorem dc_Cl_append_70 : decode bc_Cl_append 70 = .ok (.iaload, 1) := by decide +kernel
theorem dc_Cl_append_71 : decode bc_Cl_append 71 = .ok (.iadd, 1) := by decide +kernel
theorem dc_Cl_append_72 : decode bc_Cl_append 72 = .ok (.iload_n 1, 1) := by decide +kernel
theorem dc_Cl_append_73 : decode bc_Cl_append 73 = .ok (.iastore, 1) := by decide +kernel
theorem dc_Cl_append_74 : decode bc_Cl_append 74 = .ok (.aload_n 0, 1) := by decide +kernel
theorem dc_Cl_append_75 : decode bc_Cl_append 75 = .ok (.getfield 9, 3) := by decide +kernel
theorem dc_Cl_append_78 : decode bc_Cl_append 78 = .ok (.aload_n 0, 1) := by decide +kernel
theorem dc_Cl_append_79 : decode bc_Cl_append 79 = .ok (.getfield 21, 3) := by decide +kernel
theorem dc_Cl_append_82 : decode bc_Cl_append 82 = .ok (.dup2, 1) := by decide +kernel
theorem dc_Cl_append_83 : decode bc_Cl_append 83 = .ok (.iaload, 1) := by decide +kernel
theorem dc_Cl_append_84 : decode bc_Cl_append 84 = .ok (.iconst 1, 1) := by decide +kernel
theorem dc_Cl_append_85 : decode bc_Cl_append 85 = .ok (.iadd, 1) := by decide +kernel
theorem dc_Cl_append_86 : decode bc_Cl_append 86 = .ok (.iastore, 1) := by decide +kernel
theorem dc_Cl_append_87 : decode bc_Cl_append 87 = .ok (.aload_n 0, 1) := by decide +kernel
theorem dc_Cl_append_88 : decode bc_Cl_append 88 = .ok (.getfield 15, 3) := by decide +kernel
theorem dc_Cl_append_91 : decode bc_Cl_append 91 = .ok (.aload_n 0, 1) := by decide +kernel
theorem dc_Cl_append_92 : decode bc_Cl_append 92 = .ok (.getfield 21, 3) := by decide +kernel
theorem dc_Cl_append_95 : decode bc_Cl_append 95 = .ok (.dup2, 1) := by decide +kernel
theorem dc_Cl_append_96 : decode bc_Cl_append 96 = .ok (.iaload, 1) := by decide +kernel
theorem dc_Cl_append_97 : decode bc_Cl_append 97 = .ok (.iload_n 1, 1) := by decide +kernel
theorem dc_Cl_append_98 : decode bc_Cl_append 98 = .ok (.invokestatic 35, 3) := by decide +kernel
theorem dc_Cl_append_101 : decode bc_Cl_append 101 = .ok (.ior, 1) := by decide +kernel
theorem dc_Cl_append_102 : decode bc_Cl_append 102 = .ok (.iastore, 1) := by decide +kernel
theorem dc_Cl_append_103 : decode bc_Cl_append 103 = .ok (.iconst 1, 1) := by decide +kernel
theorem dc_Cl_append_104 : decode bc_Cl_append 104 = .ok (.ireturn, 1) := by decide +kernel
theorem dc_Cl_copy_0 : decode bc_Cl_copy 0 = .ok (.aload_n 1, 1) := by decide +kernel
theorem dc_Cl_copy_1 : decode bc_Cl_copy 1 = .ok (.iload_n 2, 1) := by decide +kernel
theorem dc_Cl_copy_2 : decode bc_Cl_copy 2 = .ok (.invokevirtual 25, 3) := by decide +kernel
theorem dc_Cl_copy_5 : decode bc_Cl_copy 5 = .ok (.ifCond .eq (10), 3) := by decide +kernel
theorem dc_Cl_copy_8 : decode bc_Cl_copy 8 = .ok (.aload_n 0, 1) := by decide +kernel
theorem dc_Cl_copy_9 : decode bc_Cl_copy 9 = .ok (.invokevirtual 38, 3) := by decide +kernel
theorem dc_Cl_copy_12 : decode bc_Cl_copy 12 = .ok (.ifCond .ne (4), 3) := by decide +kernel
theorem dc_Cl_copy_15 : decode bc_Cl_copy 15 = .ok (.return_, 1) := by decide +kernel
theorem dc_Cl_copy_16 : decode bc_Cl_copy 16 = .ok (.iconst 0, 1) := by decide +kernel
theorem dc_Cl_copy_17 : decode bc_Cl_copy 17 = .ok (.istore_n 3, 1) := by decide +kernel
theorem dc_Cl_copy_18 : decode bc_Cl_copy 18 = .ok (.iload_n 3, 1) := by decide +kernel
theorem dc_Cl_copy_19 : decode bc_Cl_copy 19 = .ok (.aload_n 1, 1) := by decide +kernel
theorem dc_Cl_copy_20 : decode bc_Cl_copy 20 = .ok (.getfield 9, 3) := by decide +kernel
theorem dc_Cl_copy_23 : decode bc_Cl_copy 23 = .ok (.iload_n 2, 1) := by decide +kernel
theorem dc_Cl_copy_24 : decode bc_Cl_copy 24 = .ok (.iaload, 1) := by decide +kernel
theorem dc_Cl_copy_25 : decode bc_Cl_copy 25 = .ok (.if_icmp .ge (20), 3) := by decide +kernel
theorem dc_Cl_copy_28 : decode bc_Cl_copy 28 = .ok (.aload_n 0, 1) := by decide +kernel
theorem dc_Cl_copy_29 : decode bc_Cl_copy 29 = .ok (.aload_n 1, 1) := by decide +kernel
theorem dc_Cl_copy_30 : decode bc_Cl_copy 30 = .ok (.iload_n 2, 1) := by decide +kernel
theorem dc_Cl_copy_31 : decode bc_Cl_copy 31 = .ok (.iload_n 3, 1) := by decide +kernel
theorem dc_Cl_copy_32 : decode bc_Cl_copy 32 = .ok (.invokevirtual 42, 3) := by decide +kernel
theorem dc_Cl_copy_35 : decode bc_Cl_copy 35 = .ok (.invokevirtual 46, 3) := by decide +kernel
theorem dc_Cl_copy_38 : decode bc_Cl_copy 38 = .ok (.pop, 1) := by decide +kernel
theorem dc_Cl_copy_39 : decode bc_Cl_copy 39 = .ok (.iinc 3 (1), 3) := by decide +kernel
theorem dc_Cl_copy_42 : decode bc_Cl_copy 42 = .ok (.goto (-24), 3) := by decide +kernel
theorem dc_Cl_copy_45 : decode bc_Cl_copy 45 = .ok (.return_, 1) := by decide +kernel
theorem dc_Cl_greatestAlike_0 : decode bc_Cl_greatestAlike 0 = .ok (.aload_n 0, 1) := by decide +kernel
theorem dc_Cl_greatestAlike_1 : decode bc_Cl_greatestAlike 1 = .ok (.getfield 21, 3) := by decide +kernel
theorem dc_Cl_greatestAlike_4 : decode bc_Cl_greatestAlike 4 = .ok (.istore 4, 2) := by decide +kernel
theorem dc_Cl_greatestAlike_6 : decode bc_Cl_greatestAlike 6 = .ok (.iload 4, 2) := by decide +kernel
theorem dc_Cl_greatestAlike_8 : decode bc_Cl_greatestAlike 8 = .ok (.iconst 1, 1) := by decide +kernel
theorem dc_Cl_greatestAlike_9 : decode bc_Cl_greatestAlike 9 = .ok (.if_icmp .lt (32), 3) := by decide +kernel
theorem dc_Cl_greatestAlike_12 : decode bc_Cl_greatestAlike 12 = .ok (.lload_n 1, 1) := by decide +kernel
theorem dc_Cl_greatestAlike_13 : decode bc_Cl_greatestAlike 13 = .ok (.iload 4, 2) := by decide +kernel
theorem dc_Cl_greatestAlike_15 : decode bc_Cl_greatestAlike 15 = .ok (.invokestatic 49, 3) := by decide +kernel
theorem dc_Cl_greatestAlike_18 : decode bc_Cl_greatestAlike 18 = .ok (.ifCond .eq (17), 3) := by decide +kernel
theorem dc_Cl_greatestAlike_21 : decode bc_Cl_greatestAlike 21 = .ok (.aload_n 0, 1) := by decide +kernel
theorem dc_Cl_greatestAlike_22 : decode bc_Cl_greatestAlike 22 = .ok (.getfield 15, 3) := by decide +kernel
theorem dc_Cl_greatestAlike_25 : decode bc_Cl_greatestAlike 25 = .ok (.iload 4, 2) := by decide +kernel
theorem dc_Cl_greatestAlike_27 : decode bc_Cl_greatestAlike 27 = .ok (.iaload, 1) := by decide +kernel
theorem dc_Cl_greatestAlike_28 : decode bc_Cl_greatestAlike 28 = .ok (.iload_n 3, 1) := by decide +kernel
theorem dc_Cl_greatestAlike_29 : decode bc_Cl_greatestAlike 29 = .ok (.if_icmp .ne (6), 3) := by decide +kernel
theorem dc_Cl_greatestAlike_32 : decode bc_Cl_greatestAlike 32 = .ok (.iload 4, 2) := by decide +kernel
theorem dc_Cl_greatestAlike_34 : decode bc_Cl_greatestAlike 34 = .ok (.ireturn, 1) := by decide +kernel
theorem dc_Cl_greatestAlike_35 : decode bc_Cl_greatestAlike 35 = .ok (.iinc 4 (-1), 3) := by decide +kernel
theorem dc_Cl_greatestAlike_38 : decode bc_Cl_greatestAlike 38 = .ok (.goto (-32), 3) := by decide +kernel
theorem dc_Cl_greatestAlike_41 : decode bc_Cl_greatestAlike 41 = .ok (.iconst 0, 1) := by decide +kernel
theorem dc_Cl_greatestAlike_42 : decode bc_Cl_greatestAlike 42 = .ok (.ireturn, 1) := by decide +kernel
set_option maxHeartbeats 4000000 in
set_option maxRecDepth 100000 in
theorem ct_Cl_has (l : Launch) (D : va_G) (cI cZ : ClassId) (sz : Nat) (o : Nat) (qa : Nat) (qb : Nat) (qd : Nat) (n : Nat) (j : Nat) (hn : n < 2 ^ 31) (hj : j < 2 ^ 31) : Met l yn_Cl_has (Cond.code yn_Cl_has bc_Cl_has 2 (some .boolean) :: kx_all) ({ frames := 0, cells := 0, slots := 0, locals := 0 } : Room) (kp [.ref o, .int (nI j)] D cI cZ [cl_c o qa qb qd n] sz) (kr_q (some (.int (kb_i (decide (1 ≤ j ∧ j ≤ n)))))) 0 0 (fun _ => False) := by
  refine kx_met (by decide) (Nat.le_of_ble_eq_true rfl) ?_
  intro p e s m below meth c ls hx hb hr hml hts hown hlocks hin hsz hP hK hD hN hl
  have hown : s.vm.findClass rn_Cl = some m.cls := hown
  have hl : lv_has ls 2 [(0, .ref o), (1, .int (nI j))] := hl
  refine lv_iload_n hx hb dc_Cl_has_0 rfl (lv_at hl 1 rfl) ?_
  refine lv_iconst (v := nI 1) hx hb dc_Cl_has_1 (by decide +kernel) ?_
  refine kn_icmp_lt hx hb (by omega) (by omega) dc_Cl_has_2 rfl (fun hc2 => ?_) (fun hc2 => ?_)
  · refine lv_iconst (v := nI 0) hx hb dc_Cl_has_17 (by decide +kernel) ?_
    refine kn_top (y := kb_i false) (by decide +kernel) ?_
    exact kr_zret hx hb hr hlocks dc_Cl_has_18 ((decide_eq_false (by omega)).symm)
  · refine lv_iload_n hx hb dc_Cl_has_5 rfl (lv_at hl 1 rfl) ?_
    refine lv_aload_n hx hb dc_Cl_has_6 rfl (lv_at hl 0 rfl) ?_
    refine va_get (ci := 2) (v := .int (nI n)) (C := rn_Cl) (T := fd_Cl) (N := 4) hx hb hts in_Cl hown hK hP 0 rfl rfl 3 (by decide) (hts _ wd_73) (fun _ h9 => h9) rfl dc_Cl_has_7 ?_
    refine kn_icmp_gt hx hb (by omega) (by omega) dc_Cl_has_10 rfl (fun hc10 => ?_) (fun hc10 => ?_)
    · refine lv_iconst (v := nI 0) hx hb dc_Cl_has_17 (by decide +kernel) ?_
      refine kn_top (y := kb_i false) (by decide +kernel) ?_
      exact kr_zret hx hb hr hlocks dc_Cl_has_18 ((decide_eq_false (by omega)).symm)
    · refine lv_iconst (v := nI 1) hx hb dc_Cl_has_13 (by decide +kernel) ?_
      refine lv_goto hx hb dc_Cl_has_14 rfl ?_
      refine kn_top (y := kb_i true) (by decide +kernel) ?_
      exact kr_zret hx hb hr hlocks dc_Cl_has_18 ((decide_eq_true (by omega)).symm)

set_option maxHeartbeats 4000000 in
set_option maxRecDepth 100000 in
theorem ct_Cl_has_neg (l : Launch) (D : va_G) (cI cZ : ClassId) (sz : Nat) (o : Nat) (qa : Nat) (qb : Nat) (qd : Nat) (n : Nat) (i : Int32) (hi : i < 0) : Met l yn_Cl_has (Cond.code yn_Cl_has bc_Cl_has 2 (some .boolean) :: kx_all) ({ frames := 0, cells := 0, slots := 0, locals := 0 } : Room) (kp [.ref o, .int i] D cI cZ [cl_c o qa qb qd n] sz) (kr_q (some (.int (kb_i false)))) 0 0 (fun _ => False) := by
  refine kx_met (by decide) (Nat.le_of_ble_eq_true rfl) ?_
  intro p e s m below meth c ls hx hb hr hml hts hown hlocks hin hsz hP hK hD hN hl
  have hown : s.vm.findClass rn_Cl = some m.cls := hown
  have hl : lv_has ls 2 [(0, .ref o), (1, .int i)] := hl
  refine lv_iload_n hx hb dc_Cl_has_0 rfl (lv_at hl 1 rfl) ?_
  refine lv_iconst (v := nI 1) hx hb dc_Cl_has_1 (by decide +kernel) ?_
  refine lv_icmp_lt hx hb dc_Cl_has_2 rfl (fun hc2 => ?_) (fun hc2 => ?_)
  · refine lv_iconst (v := nI 0) hx hb dc_Cl_has_17 (by decide +kernel) ?_
    refine kn_top (y := kb_i false) (by decide +kernel) ?_
    exact kr_zret hx hb hr hlocks dc_Cl_has_18 (rfl)
  · exact absurd (ni_lt1 hi 1 (by decide)) hc2

set_option maxHeartbeats 4000000 in
set_option maxRecDepth 100000 in
theorem ct_Cl_literalAt (l : Launch) (D : va_G) (cI cZ : ClassId) (sz : Nat) (o : Nat) (qa : Nat) (qb : Nat) (qd : Nat) (N : Nat) (n : Nat) (fz : Nat → Nat) (fs : Nat → Nat) (fl : Nat → Int32) (j : Nat) (k : Nat) (hNb : N < 2 ^ 20) (hnN : n < N) (hz : ∀ j, 1 ≤ j → j ≤ n → fz j ≤ 8) (hj : j < 2 ^ 31) (hk : k < 2 ^ 31) : Met l yn_Cl_literalAt (Cond.code yn_Cl_literalAt bc_Cl_literalAt 3 (some .int) :: kx_all) ({ frames := 1, cells := 0, slots := 0, locals := 21 } : Room) (kp [.ref o, .int (nI j), .int (nI k)] D cI cZ [cl_c o qa qb qd n, ar_n cI qa N fz, ar_n cI qb N fs, ar_i cI qd (N * 8) fl] sz) (kr_q (some (.int (if (1 ≤ j ∧ j ≤ n) ∧ k < fz j then fl (j * 8 + k) else 0)))) 0 0 (fun _ => False) := by
  refine kx_met (by decide) (Nat.le_of_ble_eq_true rfl) ?_
  intro p e s m below meth c ls hx hb hr hml hts hown hlocks hin hsz hP hK hD hN hl
  have hown : s.vm.findClass rn_Cl = some m.cls := hown
  have hl : lv_has ls 3 [(0, .ref o), (1, .int (nI j)), (2, .int (nI k))] := hl
  refine lv_aload_n hx hb dc_Cl_literalAt_0 rfl (lv_at hl 0 rfl) ?_
  refine lv_iload_n hx hb dc_Cl_literalAt_1 rfl (lv_at hl 1 rfl) ?_
  refine kr_call1 (va_runV (As := [.int (nI j)]) (rest := []) ⟨hx, hb, hml, hown, hts⟩ (ct_Cl_has l D cI cZ _ o qa qb qd n j (by omega) (by omega)) (cwV 1 hts (kx_gV wd_251 wd_240 wd_241 wd_4 wd_242) rfl rfl rfl ⟨rfl, yd_Cl_has⟩ ⟨Nat.le_of_ble_eq_true rfl, Nat.le_of_ble_eq_true rfl⟩) (kp_V (q0 := 0) (ci := 2) hP hD hK hN [0] rfl rfl rfl rfl rfl) rfl rfl hl.1 rfl (lv_room (Nat.le_of_ble_eq_true rfl)) dc_Cl_literalAt_2 ⟨Nat.le_of_ble_eq_true rfl, Nat.le_of_ble_eq_true rfl⟩) ?_
  refine kb_if_eq hx hb dc_Cl_literalAt_5 rfl (fun hc5 => ?_) (fun hc5 => ?_)
  · have hc5 := of_decide_eq_false hc5
    refine lv_iconst (v := nI 0) hx hb dc_Cl_literalAt_36 (by decide +kernel) ?_
    exact kr_iret hx hb hr hlocks dc_Cl_literalAt_37 ((if_neg (fun q => hc5 q.1)).symm)
  · have hc5 := of_decide_eq_true hc5
    refine lv_iload_n hx hb dc_Cl_literalAt_8 rfl (lv_at hl 2 rfl) ?_
    refine lv_if_lt hx hb dc_Cl_literalAt_9 rfl (fun hc9 => ?_) (fun hc9 => ?_)
    · exact absurd hc9 (nI_pos (by omega))
    · refine lv_iload_n hx hb dc_Cl_literalAt_12 rfl (lv_at hl 2 rfl) ?_
      refine lv_aload_n hx hb dc_Cl_literalAt_13 rfl (lv_at hl 0 rfl) ?_
      refine va_get (ci := 2) (v := .ref qa) (C := rn_Cl) (T := fd_Cl) (N := 4) hx hb hts in_Cl hown hK hP 0 rfl rfl 0 (by decide) (hts _ wd_63) (fun _ h9 => h9) rfl dc_Cl_literalAt_14 ?_
      refine lv_iload_n hx hb dc_Cl_literalAt_17 rfl (lv_at hl 1 rfl) ?_
      refine ka_nald (t := fz) hx hb hK hP 1 0 rfl rfl (j := j) (by omega) (by omega) dc_Cl_literalAt_18 ?_
      refine kn_icmp_ge hx hb (by omega) (Nat.lt_of_le_of_lt (hz j (by omega) (by omega)) (by decide)) dc_Cl_literalAt_19 rfl (fun hc19 => ?_) (fun hc19 => ?_)
      · refine lv_iconst (v := nI 0) hx hb dc_Cl_literalAt_36 (by decide +kernel) ?_
        exact kr_iret hx hb hr hlocks dc_Cl_literalAt_37 ((if_neg (fun q => by omega)).symm)
      · refine lv_aload_n hx hb dc_Cl_literalAt_22 rfl (lv_at hl 0 rfl) ?_
        refine va_get (ci := 2) (v := .ref qd) (C := rn_Cl) (T := fd_Cl) (N := 4) hx hb hts in_Cl hown hK hP 0 rfl rfl 2 (by decide) (hts _ wd_72) (fun _ h9 => h9) rfl dc_Cl_literalAt_23 ?_
        refine lv_iload_n hx hb dc_Cl_literalAt_26 rfl (lv_at hl 1 rfl) ?_
        refine lv_bipush (v := nI 8) hx hb dc_Cl_literalAt_27 (by decide +kernel) ?_
        refine kn_imul hx hb dc_Cl_literalAt_29 ?_
        refine lv_iload_n hx hb dc_Cl_literalAt_30 rfl (lv_at hl 2 rfl) ?_
        refine kn_iadd hx hb dc_Cl_literalAt_31 ?_
        refine ka_iald (f := fl) hx hb hK hP 3 0 rfl rfl (j := (j * 8) + k) (by have := hz j (by omega) (by omega); omega) (by omega) dc_Cl_literalAt_32 ?_
        refine lv_goto hx hb dc_Cl_literalAt_33 rfl ?_
        exact kr_iret hx hb hr hlocks dc_Cl_literalAt_37 ((if_pos ⟨hc5, hc19⟩).symm)

set_option maxHeartbeats 4000000 in
set_option maxRecDepth 100000 in
theorem ct_Cl_literalAt_neg (l : Launch) (D : va_G) (cI cZ : ClassId) (sz : Nat) (o : Nat) (qa : Nat) (qb : Nat) (qd : Nat) (n : Nat) (i : Int32) (y : Int32) (hi : i < 0) : Met l yn_Cl_literalAt (Cond.code yn_Cl_literalAt bc_Cl_literalAt 3 (some .int) :: kx_all) ({ frames := 1, cells := 0, slots := 0, locals := 21 } : Room) (kp [.ref o, .int i, .int y] D cI cZ [cl_c o qa qb qd n] sz) (kr_q (some (.int 0))) 0 0 (fun _ => False) := by
  refine kx_met (by decide) (Nat.le_of_ble_eq_true rfl) ?_
  intro p e s m below meth c ls hx hb hr hml hts hown hlocks hin hsz hP hK hD hN hl
  have hown : s.vm.findClass rn_Cl = some m.cls := hown
  have hl : lv_has ls 3 [(0, .ref o), (1, .int i), (2, .int y)] := hl
  refine lv_aload_n hx hb dc_Cl_literalAt_0 rfl (lv_at hl 0 rfl) ?_
  refine lv_iload_n hx hb dc_Cl_literalAt_1 rfl (lv_at hl 1 rfl) ?_
  refine kr_call1 (va_runV (As := [.int i]) (rest := []) ⟨hx, hb, hml, hown, hts⟩ (ct_Cl_has_neg l D cI cZ _ o qa qb qd n i (by omega)) (cwV 1 hts (kx_gV wd_251 wd_240 wd_241 wd_4 wd_242) rfl rfl rfl ⟨rfl, yd_Cl_has⟩ ⟨Nat.le_of_ble_eq_true rfl, Nat.le_of_ble_eq_true rfl⟩) (kp_V (q0 := 0) (ci := 2) hP hD hK hN [0] rfl rfl rfl rfl rfl) rfl rfl hl.1 rfl (lv_room (Nat.le_of_ble_eq_true rfl)) dc_Cl_literalAt_2 ⟨Nat.le_of_ble_eq_true rfl, Nat.le_of_ble_eq_true rfl⟩) ?_
  refine kb_if_eq hx hb dc_Cl_literalAt_5 rfl (fun hc5 => ?_) (fun hc5 => ?_)
  · refine lv_iconst (v := nI 0) hx hb dc_Cl_literalAt_36 (by decide +kernel) ?_
    exact kr_iret hx hb hr hlocks dc_Cl_literalAt_37 (rfl)
  · exact absurd hc5 (by decide)

set_option maxHeartbeats 4000000 in
set_option maxRecDepth 100000 in
theorem ct_Cl_literalAt_k (l : Launch) (D : va_G) (cI cZ : ClassId) (sz : Nat) (o : Nat) (qa : Nat) (qb : Nat) (qd : Nat) (n : Nat) (j : Nat) (i : Int32) (hn : n < 2 ^ 31) (hj : j < 2 ^ 31) (hi : i < 0) : Met l yn_Cl_literalAt (Cond.code yn_Cl_literalAt bc_Cl_literalAt 3 (some .int) :: kx_all) ({ frames := 1, cells := 0, slots := 0, locals := 21 } : Room) (kp [.ref o, .int (nI j), .int i] D cI cZ [cl_c o qa qb qd n] sz) (kr_q (some (.int 0))) 0 0 (fun _ => False) := by
  refine kx_met (by decide) (Nat.le_of_ble_eq_true rfl) ?_
  intro p e s m below meth c ls hx hb hr hml hts hown hlocks hin hsz hP hK hD hN hl
  have hown : s.vm.findClass rn_Cl = some m.cls := hown
  have hl : lv_has ls 3 [(0, .ref o), (1, .int (nI j)), (2, .int i)] := hl
  refine lv_aload_n hx hb dc_Cl_literalAt_0 rfl (lv_at hl 0 rfl) ?_
  refine lv_iload_n hx hb dc_Cl_literalAt_1 rfl (lv_at hl 1 rfl) ?_
  refine kr_call1 (va_runV (As := [.int (nI j)]) (rest := []) ⟨hx, hb, hml, hown, hts⟩ (ct_Cl_has l D cI cZ _ o qa qb qd n j (by omega) (by omega)) (cwV 1 hts (kx_gV wd_251 wd_240 wd_241 wd_4 wd_242) rfl rfl rfl ⟨rfl, yd_Cl_has⟩ ⟨Nat.le_of_ble_eq_true rfl, Nat.le_of_ble_eq_true rfl⟩) (kp_V (q0 := 0) (ci := 2) hP hD hK hN [0] rfl rfl rfl rfl rfl) rfl rfl hl.1 rfl (lv_room (Nat.le_of_ble_eq_true rfl)) dc_Cl_literalAt_2 ⟨Nat.le_of_ble_eq_true rfl, Nat.le_of_ble_eq_true rfl⟩) ?_
  refine kb_if_eq hx hb dc_Cl_literalAt_5 rfl (fun hc5 => ?_) (fun hc5 => ?_)
  · refine lv_iconst (v := nI 0) hx hb dc_Cl_literalAt_36 (by decide +kernel) ?_
    exact kr_iret hx hb hr hlocks dc_Cl_literalAt_37 (rfl)
  · refine lv_iload_n hx hb dc_Cl_literalAt_8 rfl (lv_at hl 2 rfl) ?_
    refine lv_if_lt hx hb dc_Cl_literalAt_9 rfl (fun hc9 => ?_) (fun hc9 => ?_)
    · refine lv_iconst (v := nI 0) hx hb dc_Cl_literalAt_36 (by decide +kernel) ?_
      exact kr_iret hx hb hr hlocks dc_Cl_literalAt_37 (rfl)
    · exact absurd hi hc9

set_option maxHeartbeats 4000000 in
set_option maxRecDepth 100000 in
theorem ct_Cl_keep (l : Launch) (D : va_G) (cI cZ : ClassId) (sz : Nat) (o : Nat) (qa : Nat) (qb : Nat) (qd : Nat) (n : Nat) (k : Nat)  : Met l yn_Cl_keep (Cond.code yn_Cl_keep bc_Cl_keep 2 none :: kx_all) ({ frames := 0, cells := 0, slots := 0, locals := 0 } : Room) (kp [.ref o, .int (nI k)] D cI cZ [cl_c o qa qb qd n] sz) (kw_q none D kc_l [cl_c o qa qb qd k] (va_A [cl_c o qa qb qd n] sz)) 0 0 (va_A [cl_c o qa qb qd n] sz) := by
  refine kx_metW (by decide) (Nat.le_of_ble_eq_true rfl) ?_
  intro p e s m below meth c ls A hx hb hr hml hts hown hlocks hin hA hP hK hD hN hl hS
  have hown : s.vm.findClass rn_Cl = some m.cls := hown
  have hl : lv_has ls 2 [(0, .ref o), (1, .int (nI k))] := hl
  refine lv_aload_n hx hb dc_Cl_keep_0 rfl (lv_at hl 0 rfl) ?_
  refine lv_iload_n hx hb dc_Cl_keep_1 rfl (lv_at hl 1 rfl) ?_
  refine va_put (ci := 2) (v := .int (nI k)) (ty := .int) (C := rn_Cl) (T := fd_Cl) (N := 4) hx hb hts in_Cl ty_Cl tk_Cl nm_Cl hown hK hP hD hS 0 rfl rfl 3 (by decide) (hts _ wd_73) (fun _ h9 => h9) rfl (by decide +kernel) rfl rfl (Nat.le_of_ble_eq_true rfl) dc_Cl_keep_2 (fun H locs hP hD hS => ?_)
  have hP : va_P D kc_l [cl_c o qa qb qd k] H := hP
  have hD : va_D A [cl_c o qa qb qd k] := hD
  exact kw_vret hx hb hr hlocks hP hD hS dc_Cl_keep_5 (rfl)

set_option maxHeartbeats 4000000 in
set_option maxRecDepth 100000 in
theorem ct_Cl_begin (l : Launch) (D : va_G) (cI cZ : ClassId) (sz : Nat) (o : Nat) (qa : Nat) (qb : Nat) (qd : Nat) (N : Nat) (n : Nat) (fz : Nat → Nat) (fs : Nat → Nat) (fl : Nat → Int32) (hNb : N < 2 ^ 20) (hnN : n + 1 < N) : Met l yn_Cl_begin (Cond.code yn_Cl_begin bc_Cl_begin 1 (some .boolean) :: kx_all) ({ frames := 0, cells := 0, slots := 0, locals := 0 } : Room) (kp [.ref o] D cI cZ [cl_c o qa qb qd n, ar_n cI qa N fz, ar_n cI qb N fs, ar_i cI qd (N * 8) fl] sz) (kw_q (some (.int (kb_i true))) D kc_l [cl_c o qa qb qd (n + 1), ar_n cI qa N (va_up fz (n + 1) 0), ar_n cI qb N (va_up fs (n + 1) 0), ar_i cI qd (N * 8) fl] (va_A [cl_c o qa qb qd n, ar_n cI qa N fz, ar_n cI qb N fs, ar_i cI qd (N * 8) fl] sz)) 0 0 (va_A [cl_c o qa qb qd n, ar_n cI qa N fz, ar_n cI qb N fs, ar_i cI qd (N * 8) fl] sz) := by
  refine kx_metW (by decide) (Nat.le_of_ble_eq_true rfl) ?_
  intro p e s m below meth c ls A hx hb hr hml hts hown hlocks hin hA hP hK hD hN hl hS
  have hown : s.vm.findClass rn_Cl = some m.cls := hown
  have hl : lv_has ls 1 [(0, .ref o)] := hl
  refine lv_aload_n hx hb dc_Cl_begin_0 rfl (lv_at hl 0 rfl) ?_
  refine va_get (ci := 2) (v := .int (nI n)) (C := rn_Cl) (T := fd_Cl) (N := 4) hx hb hts in_Cl hown hK hP 0 rfl rfl 3 (by decide) (hts _ wd_73) (fun _ h9 => h9) rfl dc_Cl_begin_1 ?_
  refine lv_iconst (v := nI 1) hx hb dc_Cl_begin_4 (by decide +kernel) ?_
  refine kn_iadd hx hb dc_Cl_begin_5 ?_
  refine lv_aload_n hx hb dc_Cl_begin_6 rfl (lv_at hl 0 rfl) ?_
  refine va_get (ci := 2) (v := .ref qa) (C := rn_Cl) (T := fd_Cl) (N := 4) hx hb hts in_Cl hown hK hP 0 rfl rfl 0 (by decide) (hts _ wd_63) (fun _ h9 => h9) rfl dc_Cl_begin_7 ?_
  refine va_alen (v := nI N) hx hb hK hP 1 0 rfl rfl rfl dc_Cl_begin_10 ?_
  refine kn_icmp_lt hx hb (by omega) (by omega) dc_Cl_begin_11 rfl (fun hc11 => ?_) (fun hc11 => ?_)
  · refine lv_aload_n hx hb dc_Cl_begin_16 rfl (lv_at hl 0 rfl) ?_
    refine lv_dup hx hb dc_Cl_begin_17 rfl ?_
    refine va_get (ci := 2) (v := .int (nI n)) (C := rn_Cl) (T := fd_Cl) (N := 4) hx hb hts in_Cl hown hK hP 0 rfl rfl 3 (by decide) (hts _ wd_73) (fun _ h9 => h9) rfl dc_Cl_begin_18 ?_
    refine lv_iconst (v := nI 1) hx hb dc_Cl_begin_21 (by decide +kernel) ?_
    refine kn_iadd hx hb dc_Cl_begin_22 ?_
    refine va_put (ci := 2) (v := .int (nI (n + 1))) (ty := .int) (C := rn_Cl) (T := fd_Cl) (N := 4) hx hb hts in_Cl ty_Cl tk_Cl nm_Cl hown hK hP hD hS 0 rfl rfl 3 (by decide) (hts _ wd_73) (fun _ h9 => h9) rfl (by decide +kernel) rfl rfl (Nat.le_of_ble_eq_true rfl) dc_Cl_begin_23 (fun H locs hP hD hS => ?_)
    have hP : va_P D kc_l [cl_c o qa qb qd (n + 1), ar_n cI qa N fz, ar_n cI qb N fs, ar_i cI qd (N * 8) fl] H := hP
    have hD : va_D A [cl_c o qa qb qd (n + 1), ar_n cI qa N fz, ar_n cI qb N fs, ar_i cI qd (N * 8) fl] := hD
    refine lv_aload_n hx hb dc_Cl_begin_26 rfl (lv_at hl 0 rfl) ?_
    refine va_get (ci := 2) (v := .ref qa) (C := rn_Cl) (T := fd_Cl) (N := 4) hx hb hts in_Cl hown hK hP 0 rfl rfl 0 (by decide) (hts _ wd_63) (fun _ h9 => h9) rfl dc_Cl_begin_27 ?_
    refine lv_aload_n hx hb dc_Cl_begin_30 rfl (lv_at hl 0 rfl) ?_
    refine va_get (ci := 2) (v := .int (nI (n + 1))) (C := rn_Cl) (T := fd_Cl) (N := 4) hx hb hts in_Cl hown hK hP 0 rfl rfl 3 (by decide) (hts _ wd_73) (fun _ h9 => h9) rfl dc_Cl_begin_31 ?_
    refine lv_iconst (v := nI 0) hx hb dc_Cl_begin_34 (by decide +kernel) ?_
    refine ka_nast (t := fz) hx hb hK hP hD hS 1 0 rfl rfl (j := n + 1) (by omega) (by omega) dc_Cl_begin_35 (ws' := [cl_c o qa qb qd (n + 1), ar_n cI qa N (va_up fz (n + 1) 0), ar_n cI qb N fs, ar_i cI qd (N * 8) fl]) rfl (fun H locs hP hD hS => ?_)
    refine lv_aload_n hx hb dc_Cl_begin_36 rfl (lv_at hl 0 rfl) ?_
    refine va_get (ci := 2) (v := .ref qb) (C := rn_Cl) (T := fd_Cl) (N := 4) hx hb hts in_Cl hown hK hP 0 rfl rfl 1 (by decide) (hts _ wd_68) (fun _ h9 => h9) rfl dc_Cl_begin_37 ?_
    refine lv_aload_n hx hb dc_Cl_begin_40 rfl (lv_at hl 0 rfl) ?_
    refine va_get (ci := 2) (v := .int (nI (n + 1))) (C := rn_Cl) (T := fd_Cl) (N := 4) hx hb hts in_Cl hown hK hP 0 rfl rfl 3 (by decide) (hts _ wd_73) (fun _ h9 => h9) rfl dc_Cl_begin_41 ?_
    refine lv_iconst (v := nI 0) hx hb dc_Cl_begin_44 (by decide +kernel) ?_
    refine ka_nast (t := fs) hx hb hK hP hD hS 2 0 rfl rfl (j := n + 1) (by omega) (by omega) dc_Cl_begin_45 (ws' := [cl_c o qa qb qd (n + 1), ar_n cI qa N (va_up fz (n + 1) 0), ar_n cI qb N (va_up fs (n + 1) 0), ar_i cI qd (N * 8) fl]) rfl (fun H locs hP hD hS => ?_)
    refine lv_iconst (v := nI 1) hx hb dc_Cl_begin_46 (by decide +kernel) ?_
    refine kn_top (y := kb_i true) (by decide +kernel) ?_
    exact kw_zret hx hb hr hlocks hP hD hS dc_Cl_begin_47 (rfl) (rfl)
  · exfalso; omega

set_option maxHeartbeats 4000000 in
set_option maxRecDepth 100000 in
theorem ct_Cl_append (l : Launch) (D : va_G) (cI cZ : ClassId) (sz : Nat) (o : Nat) (qa : Nat) (qb : Nat) (qd : Nat) (N : Nat) (n : Nat) (fz : Nat → Nat) (fs : Nat → Nat) (fl : Nat → Int32) (b : Nat) (hNb : N < 2 ^ 20) (hnN : n < N) (hb16 : b < 16) (hn1 : 1 ≤ n) (hs16 : fs n < 65536) (hfr : fs n &&& (2 ^ (b % 8) ||| 2 ^ (b % 8 + 8)) = 0) (h8 : fz n < 8) : Met l yn_Cl_append (Cond.code yn_Cl_append bc_Cl_append 3 (some .boolean) :: kx_all) ({ frames := 1, cells := 0, slots := 0, locals := 20 } : Room) (kp [.ref o, .int (pt_lit b)] D cI cZ [cl_c o qa qb qd n, ar_n cI qa N fz, ar_n cI qb N fs, ar_i cI qd (N * 8) fl] sz) (kw_q (some (.int (kb_i true))) D kc_l [cl_c o qa qb qd n, ar_n cI qa N (va_up fz n (fz n + 1)), ar_n cI qb N (va_up fs n (fs n ||| 2 ^ b)), ar_i cI qd (N * 8) (upd fl (n * 8 + fz n) (pt_lit b))] (va_A [cl_c o qa qb qd n, ar_n cI qa N fz, ar_n cI qb N fs, ar_i cI qd (N * 8) fl] sz)) 0 0 (va_A [cl_c o qa qb qd n, ar_n cI qa N fz, ar_n cI qb N fs, ar_i cI qd (N * 8) fl] sz) := by
  refine kx_metW (by decide) (Nat.le_of_ble_eq_true rfl) ?_
  intro p e s m below meth c ls A hx hb hr hml hts hown hlocks hin hA hP hK hD hN hl hS
  have hown : s.vm.findClass rn_Cl = some m.cls := hown
  have hl : lv_has ls 3 [(0, .ref o), (1, .int (pt_lit b))] := hl
  refine lv_iload_n hx hb dc_Cl_append_0 rfl (lv_at hl 1 rfl) ?_
  refine va_mabs hx hb (by rw [hml]; exact hl.1.symm) hown (hts _ wd_413) (hts _ wd_407) (hts _ wd_5) (hts _ wd_408) (Nat.le_of_ble_eq_true rfl) (Nat.le_of_ble_eq_true rfl) (Nat.le_of_ble_eq_true rfl) (Nat.le_of_ble_eq_true rfl) dc_Cl_append_1 ?_
  refine kn_top (y := nI (b % 8 + 1)) (pt_abs b hb16) ?_
  refine lv_istore_n (lv' := [(2, .int (nI (b % 8 + 1))), (0, .ref o), (1, .int (pt_lit b))]) hx hb dc_Cl_append_4 rfl hl (by decide) rfl (fun ls hl => ?_)
  refine lv_aload_n hx hb dc_Cl_append_5 rfl (lv_at hl 1 rfl) ?_
  refine va_get (ci := 2) (v := .int (nI n)) (C := rn_Cl) (T := fd_Cl) (N := 4) hx hb hts in_Cl hown hK hP 0 rfl rfl 3 (by decide) (hts _ wd_73) (fun _ h9 => h9) rfl dc_Cl_append_6 ?_
  refine lv_iconst (v := nI 1) hx hb dc_Cl_append_9 (by decide +kernel) ?_
  refine kn_icmp_lt hx hb (by omega) (by omega) dc_Cl_append_10 rfl (fun hc10 => ?_) (fun hc10 => ?_)
  · exfalso; omega
  · refine lv_iload_n hx hb dc_Cl_append_13 rfl (lv_at hl 0 rfl) ?_
    refine lv_iconst (v := nI 1) hx hb dc_Cl_append_14 (by decide +kernel) ?_
    refine kn_icmp_lt hx hb (by omega) (by omega) dc_Cl_append_15 rfl (fun hc15 => ?_) (fun hc15 => ?_)
    · exfalso; omega
    · refine lv_iload_n hx hb dc_Cl_append_18 rfl (lv_at hl 0 rfl) ?_
      refine lv_bipush (v := nI 8) hx hb dc_Cl_append_19 (by decide +kernel) ?_
      refine kn_icmp_le hx hb (by omega) (by omega) dc_Cl_append_21 rfl (fun hc21 => ?_) (fun hc21 => ?_)
      · refine lv_aload_n hx hb dc_Cl_append_26 rfl (lv_at hl 1 rfl) ?_
        refine va_get (ci := 2) (v := .ref qb) (C := rn_Cl) (T := fd_Cl) (N := 4) hx hb hts in_Cl hown hK hP 0 rfl rfl 1 (by decide) (hts _ wd_68) (fun _ h9 => h9) rfl dc_Cl_append_27 ?_
        refine lv_aload_n hx hb dc_Cl_append_30 rfl (lv_at hl 1 rfl) ?_
        refine va_get (ci := 2) (v := .int (nI n)) (C := rn_Cl) (T := fd_Cl) (N := 4) hx hb hts in_Cl hown hK hP 0 rfl rfl 3 (by decide) (hts _ wd_73) (fun _ h9 => h9) rfl dc_Cl_append_31 ?_
        refine ka_nald (t := fs) hx hb hK hP 2 0 rfl rfl (j := n) (by omega) (by omega) dc_Cl_append_34 ?_
        refine lv_iload_n hx hb dc_Cl_append_35 rfl (lv_at hl 0 rfl) ?_
        refine kn_top (y := pt_lit (b % 8)) (pt_var b hb16) ?_
        refine kr_call1 (va_runSN (As := [.int (pt_lit (b % 8))]) (rest := [.int (nI (fs n))]) ⟨hx, hb, hml, hown, hts⟩ (ct_Pt_only l D cI cZ _ (b % 8) (by omega)) ⟨va_cnB 1 hts (kx_gi wd_416) rfl rfl rfl (nw_414 hN) (hts _ wd_1) yd_Pt_only ⟨Nat.le_of_ble_eq_true rfl, Nat.le_of_ble_eq_true rfl⟩, hts _ wd_415, trivial⟩ (kp_S hP hD hK hN [] rfl rfl) rfl rfl hl.1 rfl (lv_room (Nat.le_of_ble_eq_true rfl)) dc_Cl_append_36 ⟨Nat.le_of_ble_eq_true rfl, Nat.le_of_ble_eq_true rfl⟩) ?_
        refine lv_iload_n hx hb dc_Cl_append_39 rfl (lv_at hl 0 rfl) ?_
        refine lv_ineg hx hb dc_Cl_append_40 ?_
        refine kn_top (y := pt_lit (b % 8 + 8)) (pt_vneg b hb16) ?_
        refine kr_call1 (va_runSN (As := [.int (pt_lit (b % 8 + 8))]) (rest := [.int (nI (2 ^ (b % 8))), .int (nI (fs n))]) ⟨hx, hb, hml, hown, hts⟩ (ct_Pt_only l D cI cZ _ (b % 8 + 8) (by omega)) ⟨va_cnB 1 hts (kx_gi wd_416) rfl rfl rfl (nw_414 hN) (hts _ wd_1) yd_Pt_only ⟨Nat.le_of_ble_eq_true rfl, Nat.le_of_ble_eq_true rfl⟩, hts _ wd_415, trivial⟩ (kp_S hP hD hK hN [] rfl rfl) rfl rfl hl.1 rfl (lv_room (Nat.le_of_ble_eq_true rfl)) dc_Cl_append_41 ⟨Nat.le_of_ble_eq_true rfl, Nat.le_of_ble_eq_true rfl⟩) ?_
        refine kn_ior hx hb dc_Cl_append_44 ?_
        refine kn_iand hx hb dc_Cl_append_45 ?_
        refine kn_if_eq hx hb (Nat.lt_of_le_of_lt Nat.and_le_left (Nat.lt_trans hs16 (by decide))) dc_Cl_append_46 rfl (fun hc46 => ?_) (fun hc46 => ?_)
        · refine lv_aload_n hx hb dc_Cl_append_51 rfl (lv_at hl 1 rfl) ?_
          refine va_get (ci := 2) (v := .ref qd) (C := rn_Cl) (T := fd_Cl) (N := 4) hx hb hts in_Cl hown hK hP 0 rfl rfl 2 (by decide) (hts _ wd_72) (fun _ h9 => h9) rfl dc_Cl_append_52 ?_
          refine lv_aload_n hx hb dc_Cl_append_55 rfl (lv_at hl 1 rfl) ?_
          refine va_get (ci := 2) (v := .int (nI n)) (C := rn_Cl) (T := fd_Cl) (N := 4) hx hb hts in_Cl hown hK hP 0 rfl rfl 3 (by decide) (hts _ wd_73) (fun _ h9 => h9) rfl dc_Cl_append_56 ?_
          refine lv_bipush (v := nI 8) hx hb dc_Cl_append_59 (by decide +kernel) ?_
          refine kn_imul hx hb dc_Cl_append_61 ?_
          refine lv_aload_n hx hb dc_Cl_append_62 rfl (lv_at hl 1 rfl) ?_
          refine va_get (ci := 2) (v := .ref qa) (C := rn_Cl) (T := fd_Cl) (N := 4) hx hb hts in_Cl hown hK hP 0 rfl rfl 0 (by decide) (hts _ wd_63) (fun _ h9 => h9) rfl dc_Cl_append_63 ?_
          refine lv_aload_n hx hb dc_Cl_append_66 rfl (lv_at hl 1 rfl) ?_
          refine va_get (ci := 2) (v := .int (nI n)) (C := rn_Cl) (T := fd_Cl) (N := 4) hx hb hts in_Cl hown hK hP 0 rfl rfl 3 (by decide) (hts _ wd_73) (fun _ h9 => h9) rfl dc_Cl_append_67 ?_
          refine ka_nald (t := fz) hx hb hK hP 1 0 rfl rfl (j := n) (by omega) (by omega) dc_Cl_append_70 ?_
          refine kn_iadd hx hb dc_Cl_append_71 ?_
          refine lv_iload_n hx hb dc_Cl_append_72 rfl (lv_at hl 2 rfl) ?_
          refine ka_iast (f := fl) hx hb hK hP hD hS 3 0 rfl rfl (j := (n * 8) + (fz n)) (by omega) (by omega) dc_Cl_append_73 (ws' := [cl_c o qa qb qd n, ar_n cI qa N fz, ar_n cI qb N fs, ar_i cI qd (N * 8) (upd fl ((n * 8) + (fz n)) (pt_lit b))]) rfl (fun H locs hP hD hS => ?_)
          refine lv_aload_n hx hb dc_Cl_append_74 rfl (lv_at hl 1 rfl) ?_
          refine va_get (ci := 2) (v := .ref qa) (C := rn_Cl) (T := fd_Cl) (N := 4) hx hb hts in_Cl hown hK hP 0 rfl rfl 0 (by decide) (hts _ wd_63) (fun _ h9 => h9) rfl dc_Cl_append_75 ?_
          refine lv_aload_n hx hb dc_Cl_append_78 rfl (lv_at hl 1 rfl) ?_
          refine va_get (ci := 2) (v := .int (nI n)) (C := rn_Cl) (T := fd_Cl) (N := 4) hx hb hts in_Cl hown hK hP 0 rfl rfl 3 (by decide) (hts _ wd_73) (fun _ h9 => h9) rfl dc_Cl_append_79 ?_
          refine lv_dup2_11 hx hb dc_Cl_append_82 rfl rfl ?_
          refine ka_nald (t := fz) hx hb hK hP 1 0 rfl rfl (j := n) (by omega) (by omega) dc_Cl_append_83 ?_
          refine lv_iconst (v := nI 1) hx hb dc_Cl_append_84 (by decide +kernel) ?_
          refine kn_iadd hx hb dc_Cl_append_85 ?_
          refine ka_nast (t := fz) hx hb hK hP hD hS 1 0 rfl rfl (j := n) (by omega) (by omega) dc_Cl_append_86 (ws' := [cl_c o qa qb qd n, ar_n cI qa N (va_up fz n ((fz n) + 1)), ar_n cI qb N fs, ar_i cI qd (N * 8) (upd fl ((n * 8) + (fz n)) (pt_lit b))]) rfl (fun H locs hP hD hS => ?_)
          refine lv_aload_n hx hb dc_Cl_append_87 rfl (lv_at hl 1 rfl) ?_
          refine va_get (ci := 2) (v := .ref qb) (C := rn_Cl) (T := fd_Cl) (N := 4) hx hb hts in_Cl hown hK hP 0 rfl rfl 1 (by decide) (hts _ wd_68) (fun _ h9 => h9) rfl dc_Cl_append_88 ?_
          refine lv_aload_n hx hb dc_Cl_append_91 rfl (lv_at hl 1 rfl) ?_
          refine va_get (ci := 2) (v := .int (nI n)) (C := rn_Cl) (T := fd_Cl) (N := 4) hx hb hts in_Cl hown hK hP 0 rfl rfl 3 (by decide) (hts _ wd_73) (fun _ h9 => h9) rfl dc_Cl_append_92 ?_
          refine lv_dup2_11 hx hb dc_Cl_append_95 rfl rfl ?_
          refine ka_nald (t := fs) hx hb hK hP 2 0 rfl rfl (j := n) (by omega) (by omega) dc_Cl_append_96 ?_
          refine lv_iload_n hx hb dc_Cl_append_97 rfl (lv_at hl 2 rfl) ?_
          refine kr_call1 (va_runSN (As := [.int (pt_lit b)]) (rest := [.int (nI (fs n)), .int (nI n), .ref qb]) ⟨hx, hb, hml, hown, hts⟩ (ct_Pt_only l D cI cZ _ b (hb16)) ⟨va_cnB 1 hts (kx_gi wd_416) rfl rfl rfl (nw_414 hN) (hts _ wd_1) yd_Pt_only ⟨Nat.le_of_ble_eq_true rfl, Nat.le_of_ble_eq_true rfl⟩, hts _ wd_415, trivial⟩ (kp_S hP hD hK hN [] rfl rfl) rfl rfl hl.1 rfl (lv_room (Nat.le_of_ble_eq_true rfl)) dc_Cl_append_98 ⟨Nat.le_of_ble_eq_true rfl, Nat.le_of_ble_eq_true rfl⟩) ?_
          refine kn_ior hx hb dc_Cl_append_101 ?_
          refine ka_nast (t := fs) hx hb hK hP hD hS 2 0 rfl rfl (j := n) (by omega) (by omega) dc_Cl_append_102 (ws' := [cl_c o qa qb qd n, ar_n cI qa N (va_up fz n ((fz n) + 1)), ar_n cI qb N (va_up fs n ((fs n) ||| (2 ^ b))), ar_i cI qd (N * 8) (upd fl ((n * 8) + (fz n)) (pt_lit b))]) rfl (fun H locs hP hD hS => ?_)
          refine lv_iconst (v := nI 1) hx hb dc_Cl_append_103 (by decide +kernel) ?_
          refine kn_top (y := kb_i true) (by decide +kernel) ?_
          exact kw_zret hx hb hr hlocks hP hD hS dc_Cl_append_104 (rfl) (rfl)
        · exact absurd hfr hc46
      · exfalso; omega

set_option maxHeartbeats 4000000 in
set_option maxRecDepth 100000 in
theorem ct_Cl_append_dup (l : Launch) (D : va_G) (cI cZ : ClassId) (sz : Nat) (o : Nat) (qa : Nat) (qb : Nat) (qd : Nat) (N : Nat) (n : Nat) (fz : Nat → Nat) (fs : Nat → Nat) (fl : Nat → Int32) (b : Nat) (hNb : N < 2 ^ 20) (hnN : n < N) (hb16 : b < 16) (hn1 : 1 ≤ n) (hs16 : fs n < 65536) (hfr : ¬ fs n &&& (2 ^ (b % 8) ||| 2 ^ (b % 8 + 8)) = 0) : Met l yn_Cl_append (Cond.code yn_Cl_append bc_Cl_append 3 (some .boolean) :: kx_all) ({ frames := 1, cells := 0, slots := 0, locals := 20 } : Room) (kp [.ref o, .int (pt_lit b)] D cI cZ [cl_c o qa qb qd n, ar_n cI qa N fz, ar_n cI qb N fs, ar_i cI qd (N * 8) fl] sz) (kr_q (some (.int (kb_i false)))) 0 0 (fun _ => False) := by
  refine kx_met (by decide) (Nat.le_of_ble_eq_true rfl) ?_
  intro p e s m below meth c ls hx hb hr hml hts hown hlocks hin hsz hP hK hD hN hl
  have hown : s.vm.findClass rn_Cl = some m.cls := hown
  have hl : lv_has ls 3 [(0, .ref o), (1, .int (pt_lit b))] := hl
  refine lv_iload_n hx hb dc_Cl_append_0 rfl (lv_at hl 1 rfl) ?_
  refine va_mabs hx hb (by rw [hml]; exact hl.1.symm) hown (hts _ wd_413) (hts _ wd_407) (hts _ wd_5) (hts _ wd_408) (Nat.le_of_ble_eq_true rfl) (Nat.le_of_ble_eq_true rfl) (Nat.le_of_ble_eq_true rfl) (Nat.le_of_ble_eq_true rfl) dc_Cl_append_1 ?_
  refine kn_top (y := nI (b % 8 + 1)) (pt_abs b hb16) ?_
  refine lv_istore_n (lv' := [(2, .int (nI (b % 8 + 1))), (0, .ref o), (1, .int (pt_lit b))]) hx hb dc_Cl_append_4 rfl hl (by decide) rfl (fun ls hl => ?_)
  refine lv_aload_n hx hb dc_Cl_append_5 rfl (lv_at hl 1 rfl) ?_
  refine va_get (ci := 2) (v := .int (nI n)) (C := rn_Cl) (T := fd_Cl) (N := 4) hx hb hts in_Cl hown hK hP 0 rfl rfl 3 (by decide) (hts _ wd_73) (fun _ h9 => h9) rfl dc_Cl_append_6 ?_
  refine lv_iconst (v := nI 1) hx hb dc_Cl_append_9 (by decide +kernel) ?_
  refine kn_icmp_lt hx hb (by omega) (by omega) dc_Cl_append_10 rfl (fun hc10 => ?_) (fun hc10 => ?_)
  · exfalso; omega
  · refine lv_iload_n hx hb dc_Cl_append_13 rfl (lv_at hl 0 rfl) ?_
    refine lv_iconst (v := nI 1) hx hb dc_Cl_append_14 (by decide +kernel) ?_
    refine kn_icmp_lt hx hb (by omega) (by omega) dc_Cl_append_15 rfl (fun hc15 => ?_) (fun hc15 => ?_)
    · exfalso; omega
    · refine lv_iload_n hx hb dc_Cl_append_18 rfl (lv_at hl 0 rfl) ?_
      refine lv_bipush (v := nI 8) hx hb dc_Cl_append_19 (by decide +kernel) ?_
      refine kn_icmp_le hx hb (by omega) (by omega) dc_Cl_append_21 rfl (fun hc21 => ?_) (fun hc21 => ?_)
      · refine lv_aload_n hx hb dc_Cl_append_26 rfl (lv_at hl 1 rfl) ?_
        refine va_get (ci := 2) (v := .ref qb) (C := rn_Cl) (T := fd_Cl) (N := 4) hx hb hts in_Cl hown hK hP 0 rfl rfl 1 (by decide) (hts _ wd_68) (fun _ h9 => h9) rfl dc_Cl_append_27 ?_
        refine lv_aload_n hx hb dc_Cl_append_30 rfl (lv_at hl 1 rfl) ?_
        refine va_get (ci := 2) (v := .int (nI n)) (C := rn_Cl) (T := fd_Cl) (N := 4) hx hb hts in_Cl hown hK hP 0 rfl rfl 3 (by decide) (hts _ wd_73) (fun _ h9 => h9) rfl dc_Cl_append_31 ?_
        refine ka_nald (t := fs) hx hb hK hP 2 0 rfl rfl (j := n) (by omega) (by omega) dc_Cl_append_34 ?_
        refine lv_iload_n hx hb dc_Cl_append_35 rfl (lv_at hl 0 rfl) ?_
        refine kn_top (y := pt_lit (b % 8)) (pt_var b hb16) ?_
        refine kr_call1 (va_runSN (As := [.int (pt_lit (b % 8))]) (rest := [.int (nI (fs n))]) ⟨hx, hb, hml, hown, hts⟩ (ct_Pt_only l D cI cZ _ (b % 8) (by omega)) ⟨va_cnB 1 hts (kx_gi wd_416) rfl rfl rfl (nw_414 hN) (hts _ wd_1) yd_Pt_only ⟨Nat.le_of_ble_eq_true rfl, Nat.le_of_ble_eq_true rfl⟩, hts _ wd_415, trivial⟩ (kp_S hP hD hK hN [] rfl rfl) rfl rfl hl.1 rfl (lv_room (Nat.le_of_ble_eq_true rfl)) dc_Cl_append_36 ⟨Nat.le_of_ble_eq_true rfl, Nat.le_of_ble_eq_true rfl⟩) ?_
        refine lv_iload_n hx hb dc_Cl_append_39 rfl (lv_at hl 0 rfl) ?_
        refine lv_ineg hx hb dc_Cl_append_40 ?_
        refine kn_top (y := pt_lit (b % 8 + 8)) (pt_vneg b hb16) ?_
        refine kr_call1 (va_runSN (As := [.int (pt_lit (b % 8 + 8))]) (rest := [.int (nI (2 ^ (b % 8))), .int (nI (fs n))]) ⟨hx, hb, hml, hown, hts⟩ (ct_Pt_only l D cI cZ _ (b % 8 + 8) (by omega)) ⟨va_cnB 1 hts (kx_gi wd_416) rfl rfl rfl (nw_414 hN) (hts _ wd_1) yd_Pt_only ⟨Nat.le_of_ble_eq_true rfl, Nat.le_of_ble_eq_true rfl⟩, hts _ wd_415, trivial⟩ (kp_S hP hD hK hN [] rfl rfl) rfl rfl hl.1 rfl (lv_room (Nat.le_of_ble_eq_true rfl)) dc_Cl_append_41 ⟨Nat.le_of_ble_eq_true rfl, Nat.le_of_ble_eq_true rfl⟩) ?_
        refine kn_ior hx hb dc_Cl_append_44 ?_
        refine kn_iand hx hb dc_Cl_append_45 ?_
        refine kn_if_eq hx hb (Nat.lt_of_le_of_lt Nat.and_le_left (Nat.lt_trans hs16 (by decide))) dc_Cl_append_46 rfl (fun hc46 => ?_) (fun hc46 => ?_)
        · exact absurd hc46 hfr
        · refine lv_iconst (v := nI 0) hx hb dc_Cl_append_49 (by decide +kernel) ?_
          refine kn_top (y := kb_i false) (by decide +kernel) ?_
          exact kr_zret hx hb hr hlocks dc_Cl_append_50 (rfl)
      · exfalso; omega

theorem nx_le {x y : Int32} (h : y < x) (h2 : x ≤ y) : False := by
  rw [Int32.lt_iff_toInt_lt] at h
  rw [Int32.le_iff_toInt_le] at h2
  omega

set_option maxHeartbeats 4000000 in
set_option maxRecDepth 100000 in
theorem ct_Cl_append_no (l : Launch) (D : va_G) (cI cZ : ClassId) (sz : Nat) (o : Nat) (qa : Nat) (qb : Nat) (qd : Nat) (n : Nat) (x : Int32) (hn : n < 2 ^ 31) (hn1 : 1 ≤ n) (hno : pt_no x) : Met l yn_Cl_append (Cond.code yn_Cl_append bc_Cl_append 3 (some .boolean) :: kx_all) ({ frames := 1, cells := 0, slots := 0, locals := 13 } : Room) (kp [.ref o, .int x] D cI cZ [cl_c o qa qb qd n] sz) (kr_q (some (.int (kb_i false)))) 0 0 (fun _ => False) := by
  refine kx_met (by decide) (Nat.le_of_ble_eq_true rfl) ?_
  intro p e s m below meth c ls hx hb hr hml hts hown hlocks hin hsz hP hK hD hN hl
  have hown : s.vm.findClass rn_Cl = some m.cls := hown
  have hl : lv_has ls 3 [(0, .ref o), (1, .int x)] := hl
  refine lv_iload_n hx hb dc_Cl_append_0 rfl (lv_at hl 1 rfl) ?_
  refine va_mabs hx hb (by rw [hml]; exact hl.1.symm) hown (hts _ wd_413) (hts _ wd_407) (hts _ wd_5) (hts _ wd_408) (Nat.le_of_ble_eq_true rfl) (Nat.le_of_ble_eq_true rfl) (Nat.le_of_ble_eq_true rfl) (Nat.le_of_ble_eq_true rfl) dc_Cl_append_1 ?_
  refine lv_istore_n (lv' := [(2, .int (if 0 ≤ x then x else 0 - x)), (0, .ref o), (1, .int x)]) hx hb dc_Cl_append_4 rfl hl (by decide) rfl (fun ls hl => ?_)
  refine lv_aload_n hx hb dc_Cl_append_5 rfl (lv_at hl 1 rfl) ?_
  refine va_get (ci := 2) (v := .int (nI n)) (C := rn_Cl) (T := fd_Cl) (N := 4) hx hb hts in_Cl hown hK hP 0 rfl rfl 3 (by decide) (hts _ wd_73) (fun _ h9 => h9) rfl dc_Cl_append_6 ?_
  refine lv_iconst (v := nI 1) hx hb dc_Cl_append_9 (by decide +kernel) ?_
  refine kn_icmp_lt hx hb (by omega) (by omega) dc_Cl_append_10 rfl (fun hc10 => ?_) (fun hc10 => ?_)
  · exfalso; omega
  · refine lv_iload_n hx hb dc_Cl_append_13 rfl (lv_at hl 0 rfl) ?_
    refine lv_iconst (v := nI 1) hx hb dc_Cl_append_14 (by decide +kernel) ?_
    refine lv_icmp_lt hx hb dc_Cl_append_15 rfl (fun hc15 => ?_) (fun hc15 => ?_)
    · refine lv_iconst (v := nI 0) hx hb dc_Cl_append_24 (by decide +kernel) ?_
      refine kn_top (y := kb_i false) (by decide +kernel) ?_
      exact kr_zret hx hb hr hlocks dc_Cl_append_25 (rfl)
    · refine lv_iload_n hx hb dc_Cl_append_18 rfl (lv_at hl 0 rfl) ?_
      refine lv_bipush (v := nI 8) hx hb dc_Cl_append_19 (by decide +kernel) ?_
      refine lv_icmp_le hx hb dc_Cl_append_21 rfl (fun hc21 => ?_) (fun hc21 => ?_)
      · exact absurd hc21 (fun h8 => hno.elim hc15 (fun h9 => nx_le h9 h8))
      · refine lv_iconst (v := nI 0) hx hb dc_Cl_append_24 (by decide +kernel) ?_
        refine kn_top (y := kb_i false) (by decide +kernel) ?_
        exact kr_zret hx hb hr hlocks dc_Cl_append_25 (rfl)

theorem pt_last_no {P : Nat → Bool} {k : Nat} (hk : 1 ≤ k) (h : P k = false) : pt_last P k = pt_last P (k - 1) := by
  obtain ⟨j, rfl⟩ : ∃ j, k = j + 1 := ⟨k - 1, by omega⟩
  rw [pt_last, if_neg (by rw [h]; decide)]
  rfl
theorem pt_last_yes {P : Nat → Bool} {k : Nat} (hk : 1 ≤ k) (h : P k = true) : pt_last P k = k := by
  obtain ⟨j, rfl⟩ : ∃ j, k = j + 1 := ⟨k - 1, by omega⟩
  rw [pt_last, if_pos h]

set_option maxHeartbeats 4000000 in
set_option maxRecDepth 100000 in
theorem ct_Cl_greatestAlike (l : Launch) (D : va_G) (cI cZ : ClassId) (sz : Nat) (o : Nat) (qa : Nat) (qb : Nat) (qd : Nat) (N : Nat) (n : Nat) (fz : Nat → Nat) (fs : Nat → Nat) (fl : Nat → Int32) (a : Nat) (x : Nat) (hNb : N < 2 ^ 20) (hnN : n < N) (hn62 : n < 62) (ha : a < 2 ^ 62) (h16 : ∀ j, fs j < 65536) (hx : x < 65536) : Met l yn_Cl_greatestAlike (Cond.code yn_Cl_greatestAlike bc_Cl_greatestAlike 5 (some .int) :: kx_all) ({ frames := 1, cells := 0, slots := 0, locals := 22 } : Room) (kp [.ref o, .long (lN a), .int (nI x)] D cI cZ [cl_c o qa qb qd n, ar_n cI qa N fz, ar_n cI qb N fs, ar_i cI qd (N * 8) fl] sz) (kr_q (some (.int (nI (pt_last (fun j => a.testBit j && decide (fs j = x)) n))))) 0 0 (fun _ => False) := by
  refine kx_met (by decide) (Nat.le_of_ble_eq_true rfl) ?_
  intro p e s m below meth c ls hx hb hr hml hts hown hlocks hin hsz hP hK hD hN hl
  have hown : s.vm.findClass rn_Cl = some m.cls := hown
  have hl : lv_has ls 5 [(0, .ref o), (1, .long (lN a)), (3, .int (nI x))] := hl
  refine lv_aload_n hx hb dc_Cl_greatestAlike_0 rfl (lv_at hl 0 rfl) ?_
  refine va_get (ci := 2) (v := .int (nI n)) (C := rn_Cl) (T := fd_Cl) (N := 4) hx hb hts in_Cl hown hK hP 0 rfl rfl 3 (by decide) (hts _ wd_73) (fun _ h9 => h9) rfl dc_Cl_greatestAlike_1 ?_
  refine lv_istore (lv' := [(4, .int (nI n)), (0, .ref o), (1, .long (lN a)), (3, .int (nI x))]) hx hb dc_Cl_greatestAlike_4 hl (by decide) rfl (fun ls hl => ?_)
  have lp_6 : ∀ (K : Nat) (k : Nat) (ls : Array Slot), k < K → lv_has ls 5 [(4, .int (nI k)), (0, .ref o), (1, .long (lN a)), (3, .int (nI x))] → (pt_last (fun j => a.testBit j && decide (fs j = x)) k = pt_last (fun j => a.testBit j && decide (fs j = x)) n) → (k ≤ n) → W p l e ({ frames := 1, cells := 0, slots := 0, locals := 22 } : Room) s m ([.ref o, .long (lN a), .int (nI x)] : List Value).toArray below meth c s.heap [] 0 0 (MQ below (kr_q (some (.int (nI (pt_last (fun j => a.testBit j && decide (fs j = x)) n))))) ([.ref o, .long (lN a), .int (nI x)] : List Value).toArray s 0 0 (fun _ => False)) (F0 m 6 ls []) := by
    intro K
    induction K with
    | zero =>
      intro k ls hk
      exact absurd hk (Nat.not_lt_zero _)
    | succ K ih =>
      intro k ls hk hl h1 h2
      refine lv_iload hx hb dc_Cl_greatestAlike_6 (lv_at hl 0 rfl) ?_
      refine lv_iconst (v := nI 1) hx hb dc_Cl_greatestAlike_8 (by decide +kernel) ?_
      refine kn_icmp_lt hx hb (by omega) (by omega) dc_Cl_greatestAlike_9 rfl (fun hc9 => ?_) (fun hc9 => ?_)
      · refine lv_iconst (v := nI 0) hx hb dc_Cl_greatestAlike_41 (by decide +kernel) ?_
        exact kr_iret hx hb hr hlocks dc_Cl_greatestAlike_42 (by rw [← h1, show k = 0 by omega]; rfl)
      · refine lv_lload_n hx hb dc_Cl_greatestAlike_12 rfl (lv_at hl 2 rfl) ?_
        refine lv_iload hx hb dc_Cl_greatestAlike_13 (lv_at hl 0 rfl) ?_
        refine kr_call1 (va_runSN (As := [.long (lN a), .int (nI k)]) (rest := []) ⟨hx, hb, hml, hown, hts⟩ (ct_Pt_contains l D cI cZ _ a k (ha) (by omega)) ⟨va_cnB 2 hts (kx_gi wd_262) rfl rfl rfl (nw_556 hN) (hts _ wd_1) yd_Pt_contains ⟨Nat.le_of_ble_eq_true rfl, Nat.le_of_ble_eq_true rfl⟩, hts _ wd_261, trivial⟩ (kp_S hP hD hK hN [] rfl rfl) rfl rfl hl.1 rfl (lv_room (Nat.le_of_ble_eq_true rfl)) dc_Cl_greatestAlike_15 ⟨Nat.le_of_ble_eq_true rfl, Nat.le_of_ble_eq_true rfl⟩) ?_
        refine kb_if_eq hx hb dc_Cl_greatestAlike_18 rfl (fun hc18 => ?_) (fun hc18 => ?_)
        · refine lv_iinc (k := 0) (v := nI (k - 1)) (lv' := [(4, .int (nI (k - 1))), (0, .ref o), (1, .long (lN a)), (3, .int (nI x))]) hx hb dc_Cl_greatestAlike_35 hl rfl (kn_dec (by omega)) (by decide) rfl (fun ls hl => ?_)
          refine lv_goto hx hb dc_Cl_greatestAlike_38 rfl ?_
          exact ih _ _ (by omega) hl (by rw [← h1]; exact (pt_last_no (by omega) (by simp [hc18])).symm) (by omega)
        · refine lv_aload_n hx hb dc_Cl_greatestAlike_21 rfl (lv_at hl 1 rfl) ?_
          refine va_get (ci := 2) (v := .ref qb) (C := rn_Cl) (T := fd_Cl) (N := 4) hx hb hts in_Cl hown hK hP 0 rfl rfl 1 (by decide) (hts _ wd_68) (fun _ h9 => h9) rfl dc_Cl_greatestAlike_22 ?_
          refine lv_iload hx hb dc_Cl_greatestAlike_25 (lv_at hl 0 rfl) ?_
          refine ka_nald (t := fs) hx hb hK hP 2 0 rfl rfl (j := k) (by omega) (by omega) dc_Cl_greatestAlike_27 ?_
          refine lv_iload_n hx hb dc_Cl_greatestAlike_28 rfl (lv_at hl 3 rfl) ?_
          refine kn_icmp_ne hx hb (Nat.lt_of_lt_of_le (h16 k) (by decide)) (by omega) dc_Cl_greatestAlike_29 rfl (fun hc29 => ?_) (fun hc29 => ?_)
          · refine lv_iinc (k := 0) (v := nI (k - 1)) (lv' := [(4, .int (nI (k - 1))), (0, .ref o), (1, .long (lN a)), (3, .int (nI x))]) hx hb dc_Cl_greatestAlike_35 hl rfl (kn_dec (by omega)) (by decide) rfl (fun ls hl => ?_)
            refine lv_goto hx hb dc_Cl_greatestAlike_38 rfl ?_
            exact ih _ _ (by omega) hl (by rw [← h1]; exact (pt_last_no (by omega) (by simp [hc29])).symm) (by omega)
          · refine lv_iload hx hb dc_Cl_greatestAlike_32 (lv_at hl 0 rfl) ?_
            exact kr_iret hx hb hr hlocks dc_Cl_greatestAlike_34 (by rw [← h1, pt_last_yes (by omega) (by simp [hc18, hc29])])
  exact lp_6 _ _ _ (Nat.lt_succ_self _) hl (rfl) (by omega)
end
section
/-! copying a clause; numbers that go down to -1 -/
def pt_dn (k : Nat) : Int32 := nI k - nI 1
theorem pt_dn_s (k : Nat) : pt_dn (k + 1) = nI k := nI_pred k
theorem pt_dn_0 : pt_dn 0 < 0 := by decide +kernel
theorem pt_dn_p {k : Nat} (h : k < 2 ^ 31) : pt_dn k < 0 ↔ k = 0 := by
  constructor
  · intro h1
    cases k with
    | zero => rfl
    | succ j => rw [pt_dn_s] at h1; exact absurd h1 (nI_pos (by omega))
  · intro h1; subst h1; exact pt_dn_0
theorem pt_dn_i (k : Nat) : nI k + Int32.ofInt (-1) = pt_dn k := by
  unfold pt_dn
  rw [Int32.sub_eq_add_neg]
  rfl
theorem cy_0 {f g : Nat → Int32} {a b : Nat} : va_cpy f g a b 0 = g := by
  funext i
  unfold va_cpy
  rw [if_neg (by omega)]
theorem cy_s {f g : Nat → Int32} {a b k : Nat} {x : Int32} (h : f (a + k) = x) : upd (va_cpy f g a b k) (b + k) x = va_cpy f g a b (k + 1) := by
  funext i
  unfold upd va_cpy
  by_cases h1 : i = b + k
  · subst h1
    rw [if_pos rfl, if_pos (by omega), show b + k - b = k by omega, h]
  · rw [if_neg h1]
    by_cases h2 : b ≤ i ∧ i < b + k
    · rw [if_pos h2, if_pos (by omega)]
    · rw [if_neg h2, if_neg (by omega)]
/-- a row of literals, its bits and the set that they make: each fits in behind those before -/
def pt_row (gl : Nat → Int32) (a w : Nat) (bb pm : Nat → Nat) (z : Nat) : Prop :=
  w ≤ 8 ∧ pm 0 = 0 ∧ pm w = z ∧ ∀ k, k < w → bb k < 16 ∧ gl (a + k) = pt_lit (bb k) ∧ pm k &&& (2 ^ (bb k % 8) ||| 2 ^ (bb k % 8 + 8)) = 0 ∧ pm (k + 1) = pm k ||| 2 ^ bb k ∧ pm k < 65536

set_option maxHeartbeats 4000000 in
set_option maxRecDepth 100000 in
theorem ct_Cl_copy (l : Launch) (D : va_G) (cI cZ : ClassId) (sz : Nat) (o : Nat) (qa : Nat) (qb : Nat) (qd : Nat) (N : Nat) (n : Nat) (fz : Nat → Nat) (fs : Nat → Nat) (fl : Nat → Int32) (o2 : Nat) (ra : Nat) (rb : Nat) (rd : Nat) (M : Nat) (k0 : Nat) (gz : Nat → Nat) (gs : Nat → Nat) (gl : Nat → Int32) (j : Nat) (bb : Nat → Nat) (pm : Nat → Nat) (hNb : N < 2 ^ 20) (hnN : n + 1 < N) (hM : M < 2 ^ 20) (hk0 : k0 < M) (hj1 : 1 ≤ j) (hj2 : j ≤ k0) (hz : ∀ i, 1 ≤ i → i ≤ k0 → gz i ≤ 8) (hrow : pt_row gl (j * 8) (gz j) bb pm (gs j)) : Met l yn_Cl_copy (Cond.code yn_Cl_copy bc_Cl_copy 4 none :: kx_all) ({ frames := 2, cells := 0, slots := 0, locals := 43 } : Room) (kp [.ref o, .ref o2, .int (nI j)] D cI cZ [cl_c o qa qb qd n, ar_n cI qa N fz, ar_n cI qb N fs, ar_i cI qd (N * 8) fl, cl_c o2 ra rb rd k0, ar_n cI ra M gz, ar_n cI rb M gs, ar_i cI rd (M * 8) gl] sz) (kw_q none D kc_l [cl_c o qa qb qd (n + 1), ar_n cI qa N (va_up fz (n + 1) (gz j)), ar_n cI qb N (va_up fs (n + 1) (gs j)), ar_i cI qd (N * 8) (va_cpy gl fl (j * 8) ((n + 1) * 8) (gz j)), cl_c o2 ra rb rd k0, ar_n cI ra M gz, ar_n cI rb M gs, ar_i cI rd (M * 8) gl] (va_A [cl_c o qa qb qd n, ar_n cI qa N fz, ar_n cI qb N fs, ar_i cI qd (N * 8) fl, cl_c o2 ra rb rd k0, ar_n cI ra M gz, ar_n cI rb M gs, ar_i cI rd (M * 8) gl] sz)) 0 0 (va_A [cl_c o qa qb qd n, ar_n cI qa N fz, ar_n cI qb N fs, ar_i cI qd (N * 8) fl, cl_c o2 ra rb rd k0, ar_n cI ra M gz, ar_n cI rb M gs, ar_i cI rd (M * 8) gl] sz) := by
  refine kx_metW (by decide) (Nat.le_of_ble_eq_true rfl) ?_
  intro p e s m below meth c ls A hx hb hr hml hts hown hlocks hin hA hP hK hD hN hl hS
  have hown : s.vm.findClass rn_Cl = some m.cls := hown
  have hl : lv_has ls 4 [(0, .ref o), (1, .ref o2), (2, .int (nI j))] := hl
  obtain ⟨h8, hpm0, hpe, hlit⟩ := hrow
  refine lv_aload_n hx hb dc_Cl_copy_0 rfl (lv_at hl 1 rfl) ?_
  refine lv_iload_n hx hb dc_Cl_copy_1 rfl (lv_at hl 2 rfl) ?_
  refine kr_call1 (va_runV (As := [.int (nI j)]) (rest := []) ⟨hx, hb, hml, hown, hts⟩ (ct_Cl_has l D cI cZ _ o2 ra rb rd k0 j (by omega) (by omega)) (cwV 1 hts (kx_gV wd_251 wd_240 wd_241 wd_4 wd_242) rfl rfl rfl ⟨rfl, yd_Cl_has⟩ ⟨Nat.le_of_ble_eq_true rfl, Nat.le_of_ble_eq_true rfl⟩) (kp_V (q0 := 4) (ci := 2) hP hD hK hN [4] rfl rfl rfl rfl rfl) rfl rfl hl.1 rfl (lv_room (Nat.le_of_ble_eq_true rfl)) dc_Cl_copy_2 ⟨Nat.le_of_ble_eq_true rfl, Nat.le_of_ble_eq_true rfl⟩) ?_
  refine kb_if_eq hx hb dc_Cl_copy_5 rfl (fun hc5 => ?_) (fun hc5 => ?_)
  · exact absurd hc5 (by rw [decide_eq_true ⟨hj1, hj2⟩]; decide)
  · refine lv_aload_n hx hb dc_Cl_copy_8 rfl (lv_at hl 0 rfl) ?_
    refine kw_call1 (wr := [cl_c o2 ra rb rd k0, ar_n cI ra M gz, ar_n cI rb M gs, ar_i cI rd (M * 8) gl]) (ws' := [cl_c o qa qb qd (n + 1), ar_n cI qa N (va_up fz (n + 1) 0), ar_n cI qb N (va_up fs (n + 1) 0), ar_i cI qd (N * 8) fl, cl_c o2 ra rb rd k0, ar_n cI ra M gz, ar_n cI rb M gs, ar_i cI rd (M * 8) gl]) (va_runV (As := []) (rest := []) ⟨hx, hb, hml, hown, hts⟩ (ct_Cl_begin l D cI cZ _ o qa qb qd N n fz fs fl (by omega) (by omega)) (cwV 0 hts (kx_gV wd_493 wd_403 wd_404 wd_4 wd_405) rfl rfl rfl ⟨rfl, yd_Cl_begin⟩ ⟨Nat.le_of_ble_eq_true rfl, Nat.le_of_ble_eq_true rfl⟩) (kp_V (q0 := 0) (ci := 2) hP hD hK hN [0, 1, 2, 3] rfl rfl rfl rfl rfl) rfl rfl hl.1 rfl (lv_room (Nat.le_of_ble_eq_true rfl)) dc_Cl_copy_9 ⟨Nat.le_of_ble_eq_true rfl, Nat.le_of_ble_eq_true rfl⟩) hP hD hS hA [0, 1, 2, 3] [4, 5, 6, 7] [4, 5, 6, 7, 0, 1, 2, 3] rfl rfl rfl (by decide) rfl rfl (fun H locs hP hD hS => ?_)
    refine kb_if_ne hx hb dc_Cl_copy_12 rfl (fun hc12 => ?_) (fun hc12 => ?_)
    · refine lv_iconst (v := nI 0) hx hb dc_Cl_copy_16 (by decide +kernel) ?_
      refine lv_istore_n (lv' := [(3, .int (nI 0)), (0, .ref o), (1, .ref o2), (2, .int (nI j))]) hx hb dc_Cl_copy_17 rfl hl (by decide) rfl (fun ls hl => ?_)
      have lp_18 : ∀ (K : Nat) (k : Nat) (zk : Nat → Nat) (sk : Nat → Nat) (lk : Nat → Int32) (H : Heap) (locs : List Loc) (ls : Array Slot), gz j - k < K → va_P D kc_l [cl_c o qa qb qd (n + 1), ar_n cI qa N zk, ar_n cI qb N sk, ar_i cI qd (N * 8) lk, cl_c o2 ra rb rd k0, ar_n cI ra M gz, ar_n cI rb M gs, ar_i cI rd (M * 8) gl] H → va_D A [cl_c o qa qb qd (n + 1), ar_n cI qa N zk, ar_n cI qb N sk, ar_i cI qd (N * 8) lk, cl_c o2 ra rb rd k0, ar_n cI ra M gz, ar_n cI rb M gs, ar_i cI rd (M * 8) gl] → va_S A s.heap H locs → lv_has ls 4 [(3, .int (nI k)), (0, .ref o), (1, .ref o2), (2, .int (nI j))] → (zk = va_up fz (n + 1) k) → (sk = va_up fs (n + 1) (pm k)) → (lk = va_cpy gl fl (j * 8) ((n + 1) * 8) k) → (k ≤ gz j) → W p l e ({ frames := 2, cells := 0, slots := 0, locals := 43 } : Room) s m ([.ref o, .ref o2, .int (nI j)] : List Value).toArray below meth c H locs 0 0 (MQ below (kw_q none D kc_l [cl_c o qa qb qd (n + 1), ar_n cI qa N (va_up fz (n + 1) (gz j)), ar_n cI qb N (va_up fs (n + 1) (gs j)), ar_i cI qd (N * 8) (va_cpy gl fl (j * 8) ((n + 1) * 8) (gz j)), cl_c o2 ra rb rd k0, ar_n cI ra M gz, ar_n cI rb M gs, ar_i cI rd (M * 8) gl] A) ([.ref o, .ref o2, .int (nI j)] : List Value).toArray s 0 0 A) (F0 m 18 ls []) := by
        intro K
        induction K with
        | zero =>
          intro k zk sk lk H locs ls hk
          exact absurd hk (Nat.not_lt_zero _)
        | succ K ih =>
          intro k zk sk lk H locs ls hk hP hD hS hl hzk hsk hlk hk2
          refine lv_iload_n hx hb dc_Cl_copy_18 rfl (lv_at hl 0 rfl) ?_
          refine lv_aload_n hx hb dc_Cl_copy_19 rfl (lv_at hl 2 rfl) ?_
          refine va_get (ci := 2) (v := .ref ra) (C := rn_Cl) (T := fd_Cl) (N := 4) hx hb hts in_Cl hown hK hP 4 rfl rfl 0 (by decide) (hts _ wd_63) (fun _ h9 => h9) rfl dc_Cl_copy_20 ?_
          refine lv_iload_n hx hb dc_Cl_copy_23 rfl (lv_at hl 3 rfl) ?_
          refine ka_nald (t := gz) hx hb hK hP 5 0 rfl rfl (j := j) (by omega) (by omega) dc_Cl_copy_24 ?_
          refine kn_icmp_ge hx hb (by omega) (by omega) dc_Cl_copy_25 rfl (fun hc25 => ?_) (fun hc25 => ?_)
          · exact kw_vret hx hb hr hlocks hP hD hS dc_Cl_copy_45 (by rw [hzk, hsk, hlk, show k = gz j by omega, hpe])
          · refine lv_aload_n hx hb dc_Cl_copy_28 rfl (lv_at hl 1 rfl) ?_
            refine lv_aload_n hx hb dc_Cl_copy_29 rfl (lv_at hl 2 rfl) ?_
            refine lv_iload_n hx hb dc_Cl_copy_30 rfl (lv_at hl 3 rfl) ?_
            refine lv_iload_n hx hb dc_Cl_copy_31 rfl (lv_at hl 0 rfl) ?_
            refine kr_call1 (va_runV (As := [.int (nI j), .int (nI k)]) (rest := [.ref o]) ⟨hx, hb, hml, hown, hts⟩ (ct_Cl_literalAt l D cI cZ _ o2 ra rb rd M k0 gz gs gl j k (by omega) (by omega) (hz) (by omega) (by omega)) (cwV 2 hts (kx_gV wd_494 wd_248 wd_249 wd_4 wd_250) rfl rfl rfl ⟨rfl, yd_Cl_literalAt⟩ ⟨Nat.le_of_ble_eq_true rfl, Nat.le_of_ble_eq_true rfl⟩) (kp_V (q0 := 4) (ci := 2) hP hD hK hN [4, 5, 6, 7] rfl rfl rfl rfl rfl) rfl rfl hl.1 rfl (lv_room (Nat.le_of_ble_eq_true rfl)) dc_Cl_copy_32 ⟨Nat.le_of_ble_eq_true rfl, Nat.le_of_ble_eq_true rfl⟩) ?_
            refine kn_top (y := pt_lit (bb k)) ((if_pos ⟨⟨hj1, hj2⟩, by omega⟩).trans (hlit k (by omega)).2.1) ?_
            refine kw_call1 (wr := [cl_c o2 ra rb rd k0, ar_n cI ra M gz, ar_n cI rb M gs, ar_i cI rd (M * 8) gl]) (ws' := [cl_c o qa qb qd (n + 1), ar_n cI qa N (va_up zk (n + 1) (zk (n + 1) + 1)), ar_n cI qb N (va_up sk (n + 1) (sk (n + 1) ||| 2 ^ (bb k))), ar_i cI qd (N * 8) (upd lk ((n + 1) * 8 + zk (n + 1)) (pt_lit (bb k))), cl_c o2 ra rb rd k0, ar_n cI ra M gz, ar_n cI rb M gs, ar_i cI rd (M * 8) gl]) (va_runV (As := [.int (pt_lit (bb k))]) (rest := []) ⟨hx, hb, hml, hown, hts⟩ (ct_Cl_append l D cI cZ _ o qa qb qd N (n + 1) zk sk lk (bb k) (by omega) (by omega) ((hlit k (by omega)).1) (by omega) (by rw [hsk, va_up_self]; exact (hlit k (by omega)).2.2.2.2) (by rw [hsk, va_up_self]; exact (hlit k (by omega)).2.2.1) (by rw [hzk, va_up_self]; omega)) (cwV 1 hts (kx_gV wd_495 wd_410 wd_411 wd_4 wd_412) rfl rfl rfl ⟨rfl, yd_Cl_append⟩ ⟨Nat.le_of_ble_eq_true rfl, Nat.le_of_ble_eq_true rfl⟩) (kp_V (q0 := 0) (ci := 2) hP hD hK hN [0, 1, 2, 3] rfl rfl rfl rfl rfl) rfl rfl hl.1 rfl (lv_room (Nat.le_of_ble_eq_true rfl)) dc_Cl_copy_35 ⟨Nat.le_of_ble_eq_true rfl, Nat.le_of_ble_eq_true rfl⟩) hP hD hS hA [0, 1, 2, 3] [4, 5, 6, 7] [4, 5, 6, 7, 0, 1, 2, 3] rfl rfl rfl (by decide) rfl rfl (fun H locs hP hD hS => ?_)
            refine lv_pop hx hb dc_Cl_copy_38 rfl ?_
            refine lv_iinc (k := 0) (v := nI (k + 1)) (lv' := [(3, .int (nI (k + 1))), (0, .ref o), (1, .ref o2), (2, .int (nI j))]) hx hb dc_Cl_copy_39 hl rfl (nI_1 _) (by decide) rfl (fun ls hl => ?_)
            refine lv_goto hx hb dc_Cl_copy_42 rfl ?_
            exact ih _ _ _ _ _ _ _ (by omega) hP hD hS hl (by rw [hzk, va_up_self, bx_uu]) (by rw [hsk, va_up_self, bx_uu, (hlit k (by omega)).2.2.2.1]) (by rw [hzk, va_up_self, hlk]; exact cy_s (hlit k (by omega)).2.1) (by omega)
      exact lp_18 _ _ _ _ _ _ _ _ (Nat.lt_succ_self _) hP hD hS hl (rfl) (by rw [hpm0]) (cy_0.symm) (by omega)
    · exact absurd hc12 (by decide)
end
section
/-! what a check leaves -/
def pt_zr (f : Nat → Nat) (k : Nat) : Nat → Nat := fun j => if j < k then 0 else f j
theorem zr_0 {f : Nat → Nat} : pt_zr f 0 = f := by
  funext i
  unfold pt_zr
  rw [if_neg (by omega)]
theorem zr_s {f : Nat → Nat} {k : Nat} : va_up (pt_zr f k) k 0 = pt_zr f (k + 1) := by
  funext i
  unfold va_up pt_zr
  by_cases h : i = k
  · rw [if_pos h, if_pos (by omega)]
  · rw [if_neg h]
    by_cases h2 : i < k
    · rw [if_pos h2, if_pos (by omega)]
    · rw [if_neg h2, if_neg (by omega)]
/-- how many hints a clause has; a hint -/
def pt_hc (fc : Nat → Nat) (j : Nat) : Nat := if 1 ≤ j ∧ j ≤ 32 then fc j else 0
def pt_hv (ft fc : Nat → Nat) (fr : Nat → Int32) (j k : Nat) : Int32 := if k < pt_hc fc j then fr (ft j + k) else 0
theorem hc_in {fc : Nat → Nat} {j k : Nat} (h : k < pt_hc fc j) : 1 ≤ j ∧ j ≤ 32 ∧ k < fc j := by
  unfold pt_hc at h
  split at h
  · exact ⟨by omega, by omega, h⟩
  · omega

theorem dc_Tr_forget_0 : decode bc_Tr_forget 0 = .ok (.aload_n 0, 1) := by decide +kernel
theorem dc_Tr_forget_1 : decode bc_Tr_forget 1 = .ok (.iconst 0, 1) := by decide +kernel
theorem dc_Tr_forget_2 : decode bc_Tr_forget 2 = .ok (.putfield 21, 3) := by decide +kernel
theorem dc_Tr_forget_5 : decode bc_Tr_forget 5 = .ok (.aload_n 0, 1) := by decide +kernel
theorem dc_Tr_forget_6 : decode bc_Tr_forget 6 = .ok (.lconst 0, 1) := by decide +kernel
theorem dc_Tr_forget_7 : decode bc_Tr_forget 7 = .ok (.putfield 25, 3) := by decide +kernel
theorem dc_Tr_forget_10 : decode bc_Tr_forget 10 = .ok (.aload_n 0, 1) := by decide +kernel
theorem dc_Tr_forget_11 : decode bc_Tr_forget 11 = .ok (.iconst 0, 1) := by decide +kernel
theorem dc_Tr_forget_12 : decode bc_Tr_forget 12 = .ok (.putfield 29, 3) := by decide +kernel
theorem dc_Tr_forget_15 : decode bc_Tr_forget 15 = .ok (.iconst 0, 1) := by decide +kernel
theorem dc_Tr_forget_16 : decode bc_Tr_forget 16 = .ok (.istore_n 1, 1) := by decide +kernel
theorem dc_Tr_forget_17 : decode bc_Tr_forget 17 = .ok (.iload_n 1, 1) := by decide +kernel
theorem dc_Tr_forget_18 : decode bc_Tr_forget 18 = .ok (.bipush (32), 2) := by decide +kernel
theorem dc_Tr_forget_20 : decode bc_Tr_forget 20 = .ok (.if_icmp .gt (16), 3) := by decide +kernel
theorem dc_Tr_forget_23 : decode bc_Tr_forget 23 = .ok (.aload_n 0, 1) := by decide +kernel
theorem dc_Tr_forget_24 : decode bc_Tr_forget 24 = .ok (.getfield 15, 3) := by decide +kernel
theorem dc_Tr_forget_27 : decode bc_Tr_forget 27 = .ok (.iload_n 1, 1) := by decide +kernel
theorem dc_Tr_forget_28 : decode bc_Tr_forget 28 = .ok (.iconst 0, 1) := by decide +kernel
theorem dc_Tr_forget_29 : decode bc_Tr_forget 29 = .ok (.iastore, 1) := by decide +kernel
theorem dc_Tr_forget_30 : decode bc_Tr_forget 30 = .ok (.iinc 1 (1), 3) := by decide +kernel
theorem dc_Tr_forget_33 : decode bc_Tr_forget 33 = .ok (.goto (-16), 3) := by decide +kernel
theorem dc_Tr_forget_36 : decode bc_Tr_forget 36 = .ok (.return_, 1) := by decide +kernel
theorem dc_Tr_begin_0 : decode bc_Tr_begin 0 = .ok (.aload_n 0, 1) := by decide +kernel
theorem dc_Tr_begin_1 : decode bc_Tr_begin 1 = .ok (.getfield 9, 3) := by decide +kernel
theorem dc_Tr_begin_4 : decode bc_Tr_begin 4 = .ok (.iload_n 1, 1) := by decide +kernel
theorem dc_Tr_begin_5 : decode bc_Tr_begin 5 = .ok (.aload_n 0, 1) := by decide +kernel
theorem dc_Tr_begin_6 : decode bc_Tr_begin 6 = .ok (.getfield 21, 3) := by decide +kernel
theorem dc_Tr_begin_9 : decode bc_Tr_begin 9 = .ok (.iastore, 1) := by decide +kernel
theorem dc_Tr_begin_10 : decode bc_Tr_begin 10 = .ok (.return_, 1) := by decide +kernel
theorem dc_Tr_append_0 : decode bc_Tr_append 0 = .ok (.aload_n 0, 1) := by decide +kernel
theorem dc_Tr_append_1 : decode bc_Tr_append 1 = .ok (.getfield 21, 3) := by decide +kernel
theorem dc_Tr_append_4 : decode bc_Tr_append 4 = .ok (.aload_n 0, 1) := by decide +kernel
theorem dc_Tr_append_5 : decode bc_Tr_append 5 = .ok (.getfield 18, 3) := by decide +kernel
theorem dc_Tr_append_8 : decode bc_Tr_append 8 = .ok (.arraylength, 1) := by decide +kernel
theorem dc_Tr_append_9 : decode bc_Tr_append 9 = .ok (.if_icmp .ge (33), 3) := by decide +kernel
theorem dc_Tr_append_12 : decode bc_Tr_append 12 = .ok (.aload_n 0, 1) := by decide +kernel
theorem dc_Tr_append_13 : decode bc_Tr_append 13 = .ok (.getfield 18, 3) := by decide +kernel
theorem dc_Tr_append_16 : decode bc_Tr_append 16 = .ok (.aload_n 0, 1) := by decide +kernel
theorem dc_Tr_append_17 : decode bc_Tr_append 17 = .ok (.getfield 21, 3) := by decide +kernel
theorem dc_Tr_append_20 : decode bc_Tr_append 20 = .ok (.iload_n 2, 1) := by decide +kernel
theorem dc_Tr_append_21 : decode bc_Tr_append 21 = .ok (.iastore, 1) := by decide +kernel
theorem dc_Tr_append_22 : decode bc_Tr_append 22 = .ok (.aload_n 0, 1) := by decide +kernel
theorem dc_Tr_append_23 : decode bc_Tr_append 23 = .ok (.dup, 1) := by decide +kernel
theorem dc_Tr_append_24 : decode bc_Tr_append 24 = .ok (.getfield 21, 3) := by decide +kernel
theorem dc_Tr_append_27 : decode bc_Tr_append 27 = .ok (.iconst 1, 1) := by decide +kernel
theorem dc_Tr_append_28 : decode bc_Tr_append 28 = .ok (.iadd, 1) := by decide +kernel
theorem dc_Tr_append_29 : decode bc_Tr_append 29 = .ok (.putfield 21, 3) := by decide +kernel
theorem dc_Tr_append_32 : decode bc_Tr_append 32 = .ok (.aload_n 0, 1) := by decide +kernel
theorem dc_Tr_append_33 : decode bc_Tr_append 33 = .ok (.getfield 15, 3) := by decide +kernel
theorem dc_Tr_append_36 : decode bc_Tr_append 36 = .ok (.iload_n 1, 1) := by decide +kernel
theorem dc_Tr_append_37 : decode bc_Tr_append 37 = .ok (.dup2, 1) := by decide +kernel
theorem dc_Tr_append_38 : decode bc_Tr_append 38 = .ok (.iaload, 1) := by decide +kernel
theorem dc_Tr_append_39 : decode bc_Tr_append 39 = .ok (.iconst 1, 1) := by decide +kernel
theorem dc_Tr_append_40 : decode bc_Tr_append 40 = .ok (.iadd, 1) := by decide +kernel
theorem dc_Tr_append_41 : decode bc_Tr_append 41 = .ok (.iastore, 1) := by decide +kernel
theorem dc_Tr_append_42 : decode bc_Tr_append 42 = .ok (.return_, 1) := by decide +kernel
theorem dc_Tr_countOf_0 : decode bc_Tr_countOf 0 = .ok (.iload_n 1, 1) := by decide +kernel
theorem dc_Tr_countOf_1 : decode bc_Tr_countOf 1 = .ok (.iconst 1, 1) := by decide +kernel
theorem dc_Tr_countOf_2 : decode bc_Tr_countOf 2 = .ok (.if_icmp .lt (18), 3) := by decide +kernel
theorem dc_Tr_countOf_5 : decode bc_Tr_countOf 5 = .ok (.iload_n 1, 1) := by decide +kernel
theorem dc_Tr_countOf_6 : decode bc_Tr_countOf 6 = .ok (.bipush (32), 2) := by decide +kernel
theorem dc_Tr_countOf_8 : decode bc_Tr_countOf 8 = .ok (.if_icmp .gt (12), 3) := by decide +kernel
theorem dc_Tr_countOf_11 : decode bc_Tr_countOf 11 = .ok (.aload_n 0, 1) := by decide +kernel
theorem dc_Tr_countOf_12 : decode bc_Tr_countOf 12 = .ok (.getfield 15, 3) := by decide +kernel
theorem dc_Tr_countOf_15 : decode bc_Tr_countOf 15 = .ok (.iload_n 1, 1) := by decide +kernel
theorem dc_Tr_countOf_16 : decode bc_Tr_countOf 16 = .ok (.iaload, 1) := by decide +kernel
theorem dc_Tr_countOf_17 : decode bc_Tr_countOf 17 = .ok (.goto (4), 3) := by decide +kernel
theorem dc_Tr_countOf_20 : decode bc_Tr_countOf 20 = .ok (.iconst 0, 1) := by decide +kernel
theorem dc_Tr_countOf_21 : decode bc_Tr_countOf 21 = .ok (.ireturn, 1) := by decide +kernel
theorem dc_Tr_hintAt_0 : decode bc_Tr_hintAt 0 = .ok (.iload_n 2, 1) := by decide +kernel
theorem dc_Tr_hintAt_1 : decode bc_Tr_hintAt 1 = .ok (.ifCond .lt (28), 3) := by decide +kernel
theorem dc_Tr_hintAt_4 : decode bc_Tr_hintAt 4 = .ok (.iload_n 2, 1) := by decide +kernel
theorem dc_Tr_hintAt_5 : decode bc_Tr_hintAt 5 = .ok (.aload_n 0, 1) := by decide +kernel
theorem dc_Tr_hintAt_6 : decode bc_Tr_hintAt 6 = .ok (.iload_n 1, 1) := by decide +kernel
theorem dc_Tr_hintAt_7 : decode bc_Tr_hintAt 7 = .ok (.invokevirtual 33, 3) := by decide +kernel
theorem dc_Tr_hintAt_10 : decode bc_Tr_hintAt 10 = .ok (.if_icmp .ge (19), 3) := by decide +kernel
theorem dc_Tr_hintAt_13 : decode bc_Tr_hintAt 13 = .ok (.aload_n 0, 1) := by decide +kernel
theorem dc_Tr_hintAt_14 : decode bc_Tr_hintAt 14 = .ok (.getfield 18, 3) := by decide +kernel
theorem dc_Tr_hintAt_17 : decode bc_Tr_hintAt 17 = .ok (.aload_n 0, 1) := by decide +kernel
theorem dc_Tr_hintAt_18 : decode bc_Tr_hintAt 18 = .ok (.getfield 9, 3) := by decide +kernel
theorem dc_Tr_hintAt_21 : decode bc_Tr_hintAt 21 = .ok (.iload_n 1, 1) := by decide +kernel
theorem dc_Tr_hintAt_22 : decode bc_Tr_hintAt 22 = .ok (.iaload, 1) := by decide +kernel
theorem dc_Tr_hintAt_23 : decode bc_Tr_hintAt 23 = .ok (.iload_n 2, 1) := by decide +kernel
theorem dc_Tr_hintAt_24 : decode bc_Tr_hintAt 24 = .ok (.iadd, 1) := by decide +kernel
theorem dc_Tr_hintAt_25 : decode bc_Tr_hintAt 25 = .ok (.iaload, 1) := by decide +kernel
theorem dc_Tr_hintAt_26 : decode bc_Tr_hintAt 26 = .ok (.goto (4), 3) := by decide +kernel
theorem dc_Tr_hintAt_29 : decode bc_Tr_hintAt 29 = .ok (.iconst 0, 1) := by decide +kernel
theorem dc_Tr_hintAt_30 : decode bc_Tr_hintAt 30 = .ok (.ireturn, 1) := by decide +kernel
theorem dc_Tr_replace_0 : decode bc_Tr_replace 0 = .ok (.iload_n 2, 1) := by decide +kernel
theorem dc_Tr_replace_1 : decode bc_Tr_replace 1 = .ok (.ifCond .lt (12), 3) := by decide +kernel
theorem dc_Tr_replace_4 : decode bc_Tr_replace 4 = .ok (.iload_n 2, 1) := by decide +kernel
theorem dc_Tr_replace_5 : decode bc_Tr_replace 5 = .ok (.aload_n 0, 1) := by decide +kernel
theorem dc_Tr_replace_6 : decode bc_Tr_replace 6 = .ok (.iload_n 1, 1) := by decide +kernel
theorem dc_Tr_replace_7 : decode bc_Tr_replace 7 = .ok (.invokevirtual 33, 3) := by decide +kernel
theorem dc_Tr_replace_10 : decode bc_Tr_replace 10 = .ok (.if_icmp .lt (5), 3) := by decide +kernel
theorem dc_Tr_replace_13 : decode bc_Tr_replace 13 = .ok (.iconst 0, 1) := by decide +kernel
theorem dc_Tr_replace_14 : decode bc_Tr_replace 14 = .ok (.ireturn, 1) := by decide +kernel
theorem dc_Tr_replace_15 : decode bc_Tr_replace 15 = .ok (.aload_n 0, 1) := by decide +kernel
theorem dc_Tr_replace_16 : decode bc_Tr_replace 16 = .ok (.getfield 18, 3) := by decide +kernel
theorem dc_Tr_replace_19 : decode bc_Tr_replace 19 = .ok (.aload_n 0, 1) := by decide +kernel
theorem dc_Tr_replace_20 : decode bc_Tr_replace 20 = .ok (.getfield 9, 3) := by decide +kernel
theorem dc_Tr_replace_23 : decode bc_Tr_replace 23 = .ok (.iload_n 1, 1) := by decide +kernel
theorem dc_Tr_replace_24 : decode bc_Tr_replace 24 = .ok (.iaload, 1) := by decide +kernel
theorem dc_Tr_replace_25 : decode bc_Tr_replace 25 = .ok (.iload_n 2, 1) := by decide +kernel
theorem dc_Tr_replace_26 : decode bc_Tr_replace 26 = .ok (.iadd, 1) := by decide +kernel
theorem dc_Tr_replace_27 : decode bc_Tr_replace 27 = .ok (.iload_n 3, 1) := by decide +kernel
theorem dc_Tr_replace_28 : decode bc_Tr_replace 28 = .ok (.iastore, 1) := by decide +kernel
theorem dc_Tr_replace_29 : decode bc_Tr_replace 29 = .ok (.iconst 1, 1) := by decide +kernel
theorem dc_Tr_replace_30 : decode bc_Tr_replace 30 = .ok (.ireturn, 1) := by decide +kernel
set_option maxHeartbeats 4000000 in
set_option maxRecDepth 100000 in
theorem ct_Tr_forget (l : Launch) (D : va_G) (cI cZ : ClassId) (sz : Nat) (o : Nat) (qa : Nat) (qb : Nat) (qd : Nat) (n : Nat) (mk : Nat) (ck : Bool) (ft : Nat → Nat) (fc : Nat → Nat) (fr : Nat → Int32)  : Met l yn_Tr_forget (Cond.code yn_Tr_forget bc_Tr_forget 2 none :: kx_all) ({ frames := 0, cells := 0, slots := 0, locals := 0 } : Room) (kp [.ref o] D cI cZ [tr_c o qa qb qd n mk ck, ar_n cI qa 33 ft, ar_n cI qb 33 fc, ar_i cI qd 2048 fr] sz) (kw_q none D kc_l [tr_c o qa qb qd 0 0 false, ar_n cI qa 33 ft, ar_n cI qb 33 (pt_zr fc 33), ar_i cI qd 2048 fr] (va_A [tr_c o qa qb qd n mk ck, ar_n cI qa 33 ft, ar_n cI qb 33 fc, ar_i cI qd 2048 fr] sz)) 0 0 (va_A [tr_c o qa qb qd n mk ck, ar_n cI qa 33 ft, ar_n cI qb 33 fc, ar_i cI qd 2048 fr] sz) := by
  refine kx_metW (by decide) (Nat.le_of_ble_eq_true rfl) ?_
  intro p e s m below meth c ls A hx hb hr hml hts hown hlocks hin hA hP hK hD hN hl hS
  have hown : s.vm.findClass rn_Tr = some m.cls := hown
  have hl : lv_has ls 2 [(0, .ref o)] := hl
  refine lv_aload_n hx hb dc_Tr_forget_0 rfl (lv_at hl 0 rfl) ?_
  refine lv_iconst (v := nI 0) hx hb dc_Tr_forget_1 (by decide +kernel) ?_
  refine va_put (ci := 5) (v := .int (nI 0)) (ty := .int) (C := rn_Tr) (T := fd_Tr) (N := 6) hx hb hts in_Tr ty_Tr tk_Tr nm_Tr hown hK hP hD hS 0 rfl rfl 3 (by decide) (hts _ wd_138) (fun _ h9 => h9) rfl (by decide +kernel) rfl rfl (Nat.le_of_ble_eq_true rfl) dc_Tr_forget_2 (fun H locs hP hD hS => ?_)
  have hP : va_P D kc_l [tr_c o qa qb qd 0 mk ck, ar_n cI qa 33 ft, ar_n cI qb 33 fc, ar_i cI qd 2048 fr] H := hP
  have hD : va_D A [tr_c o qa qb qd 0 mk ck, ar_n cI qa 33 ft, ar_n cI qb 33 fc, ar_i cI qd 2048 fr] := hD
  refine lv_aload_n hx hb dc_Tr_forget_5 rfl (lv_at hl 0 rfl) ?_
  refine lv_lconst (v := lN 0) hx hb dc_Tr_forget_6 (by decide +kernel) ?_
  refine va_put (ci := 5) (v := .long (lN 0)) (ty := .long) (C := rn_Tr) (T := fd_Tr) (N := 6) hx hb hts in_Tr ty_Tr tk_Tr nm_Tr hown hK hP hD hS 0 rfl rfl 4 (by decide) (hts _ wd_139) (fun _ h9 => h9) rfl (by decide +kernel) rfl rfl (Nat.le_of_ble_eq_true rfl) dc_Tr_forget_7 (fun H locs hP hD hS => ?_)
  have hP : va_P D kc_l [tr_c o qa qb qd 0 0 ck, ar_n cI qa 33 ft, ar_n cI qb 33 fc, ar_i cI qd 2048 fr] H := hP
  have hD : va_D A [tr_c o qa qb qd 0 0 ck, ar_n cI qa 33 ft, ar_n cI qb 33 fc, ar_i cI qd 2048 fr] := hD
  refine lv_aload_n hx hb dc_Tr_forget_10 rfl (lv_at hl 0 rfl) ?_
  refine lv_iconst (v := nI 0) hx hb dc_Tr_forget_11 (by decide +kernel) ?_
  refine kn_top (y := kb_i false) (by decide +kernel) ?_
  refine va_put (ci := 5) (v := .int (kb_i false)) (ty := .boolean) (C := rn_Tr) (T := fd_Tr) (N := 6) hx hb hts in_Tr ty_Tr tk_Tr nm_Tr hown hK hP hD hS 0 rfl rfl 5 (by decide) (hts _ wd_143) (fun _ h9 => h9) rfl (by decide +kernel) (kb_nar _) (kb_fit _) (Nat.le_of_ble_eq_true rfl) dc_Tr_forget_12 (fun H locs hP hD hS => ?_)
  have hP : va_P D kc_l [tr_c o qa qb qd 0 0 false, ar_n cI qa 33 ft, ar_n cI qb 33 fc, ar_i cI qd 2048 fr] H := hP
  have hD : va_D A [tr_c o qa qb qd 0 0 false, ar_n cI qa 33 ft, ar_n cI qb 33 fc, ar_i cI qd 2048 fr] := hD
  refine lv_iconst (v := nI 0) hx hb dc_Tr_forget_15 (by decide +kernel) ?_
  refine lv_istore_n (lv' := [(1, .int (nI 0)), (0, .ref o)]) hx hb dc_Tr_forget_16 rfl hl (by decide) rfl (fun ls hl => ?_)
  have lp_17 : ∀ (K : Nat) (k : Nat) (zc : Nat → Nat) (H : Heap) (locs : List Loc) (ls : Array Slot), 33 - k < K → va_P D kc_l [tr_c o qa qb qd 0 0 false, ar_n cI qa 33 ft, ar_n cI qb 33 zc, ar_i cI qd 2048 fr] H → va_D A [tr_c o qa qb qd 0 0 false, ar_n cI qa 33 ft, ar_n cI qb 33 zc, ar_i cI qd 2048 fr] → va_S A s.heap H locs → lv_has ls 2 [(1, .int (nI k)), (0, .ref o)] → (zc = pt_zr fc k) → (k ≤ 33) → W p l e ({ frames := 0, cells := 0, slots := 0, locals := 0 } : Room) s m ([.ref o] : List Value).toArray below meth c H locs 0 0 (MQ below (kw_q none D kc_l [tr_c o qa qb qd 0 0 false, ar_n cI qa 33 ft, ar_n cI qb 33 (pt_zr fc 33), ar_i cI qd 2048 fr] A) ([.ref o] : List Value).toArray s 0 0 A) (F0 m 17 ls []) := by
    intro K
    induction K with
    | zero =>
      intro k zc H locs ls hk
      exact absurd hk (Nat.not_lt_zero _)
    | succ K ih =>
      intro k zc H locs ls hk hP hD hS hl hzc hk2
      refine lv_iload_n hx hb dc_Tr_forget_17 rfl (lv_at hl 0 rfl) ?_
      refine lv_bipush (v := nI 32) hx hb dc_Tr_forget_18 (by decide +kernel) ?_
      refine kn_icmp_gt hx hb (by omega) (by omega) dc_Tr_forget_20 rfl (fun hc20 => ?_) (fun hc20 => ?_)
      · exact kw_vret hx hb hr hlocks hP hD hS dc_Tr_forget_36 (by rw [hzc, show k = 33 by omega])
      · refine lv_aload_n hx hb dc_Tr_forget_23 rfl (lv_at hl 1 rfl) ?_
        refine va_get (ci := 5) (v := .ref qb) (C := rn_Tr) (T := fd_Tr) (N := 6) hx hb hts in_Tr hown hK hP 0 rfl rfl 1 (by decide) (hts _ wd_136) (fun _ h9 => h9) rfl dc_Tr_forget_24 ?_
        refine lv_iload_n hx hb dc_Tr_forget_27 rfl (lv_at hl 0 rfl) ?_
        refine lv_iconst (v := nI 0) hx hb dc_Tr_forget_28 (by decide +kernel) ?_
        refine ka_nast (t := zc) hx hb hK hP hD hS 2 0 rfl rfl (j := k) (by omega) (by omega) dc_Tr_forget_29 (ws' := [tr_c o qa qb qd 0 0 false, ar_n cI qa 33 ft, ar_n cI qb 33 (va_up zc k 0), ar_i cI qd 2048 fr]) rfl (fun H locs hP hD hS => ?_)
        refine lv_iinc (k := 0) (v := nI (k + 1)) (lv' := [(1, .int (nI (k + 1))), (0, .ref o)]) hx hb dc_Tr_forget_30 hl rfl (nI_1 _) (by decide) rfl (fun ls hl => ?_)
        refine lv_goto hx hb dc_Tr_forget_33 rfl ?_
        exact ih _ _ _ _ _ (by omega) hP hD hS hl (by rw [hzc]; exact zr_s) (by omega)
  exact lp_17 _ _ _ _ _ _ (Nat.lt_succ_self _) hP hD hS hl (zr_0.symm) (by omega)

set_option maxHeartbeats 4000000 in
set_option maxRecDepth 100000 in
theorem ct_Tr_begin (l : Launch) (D : va_G) (cI cZ : ClassId) (sz : Nat) (o : Nat) (qa : Nat) (qb : Nat) (qd : Nat) (n : Nat) (mk : Nat) (ck : Bool) (ft : Nat → Nat) (fc : Nat → Nat) (fr : Nat → Int32) (j : Nat) (hj : j < 33) : Met l yn_Tr_begin (Cond.code yn_Tr_begin bc_Tr_begin 2 none :: kx_all) ({ frames := 0, cells := 0, slots := 0, locals := 0 } : Room) (kp [.ref o, .int (nI j)] D cI cZ [tr_c o qa qb qd n mk ck, ar_n cI qa 33 ft, ar_n cI qb 33 fc, ar_i cI qd 2048 fr] sz) (kw_q none D kc_l [tr_c o qa qb qd n mk ck, ar_n cI qa 33 (va_up ft j n), ar_n cI qb 33 fc, ar_i cI qd 2048 fr] (va_A [tr_c o qa qb qd n mk ck, ar_n cI qa 33 ft, ar_n cI qb 33 fc, ar_i cI qd 2048 fr] sz)) 0 0 (va_A [tr_c o qa qb qd n mk ck, ar_n cI qa 33 ft, ar_n cI qb 33 fc, ar_i cI qd 2048 fr] sz) := by
  refine kx_metW (by decide) (Nat.le_of_ble_eq_true rfl) ?_
  intro p e s m below meth c ls A hx hb hr hml hts hown hlocks hin hA hP hK hD hN hl hS
  have hown : s.vm.findClass rn_Tr = some m.cls := hown
  have hl : lv_has ls 2 [(0, .ref o), (1, .int (nI j))] := hl
  refine lv_aload_n hx hb dc_Tr_begin_0 rfl (lv_at hl 0 rfl) ?_
  refine va_get (ci := 5) (v := .ref qa) (C := rn_Tr) (T := fd_Tr) (N := 6) hx hb hts in_Tr hown hK hP 0 rfl rfl 0 (by decide) (hts _ wd_135) (fun _ h9 => h9) rfl dc_Tr_begin_1 ?_
  refine lv_iload_n hx hb dc_Tr_begin_4 rfl (lv_at hl 1 rfl) ?_
  refine lv_aload_n hx hb dc_Tr_begin_5 rfl (lv_at hl 0 rfl) ?_
  refine va_get (ci := 5) (v := .int (nI n)) (C := rn_Tr) (T := fd_Tr) (N := 6) hx hb hts in_Tr hown hK hP 0 rfl rfl 3 (by decide) (hts _ wd_138) (fun _ h9 => h9) rfl dc_Tr_begin_6 ?_
  refine ka_nast (t := ft) hx hb hK hP hD hS 1 0 rfl rfl (j := j) (by omega) (by omega) dc_Tr_begin_9 (ws' := [tr_c o qa qb qd n mk ck, ar_n cI qa 33 (va_up ft j n), ar_n cI qb 33 fc, ar_i cI qd 2048 fr]) rfl (fun H locs hP hD hS => ?_)
  exact kw_vret hx hb hr hlocks hP hD hS dc_Tr_begin_10 (rfl)

set_option maxHeartbeats 4000000 in
set_option maxRecDepth 100000 in
theorem ct_Tr_append (l : Launch) (D : va_G) (cI cZ : ClassId) (sz : Nat) (o : Nat) (qa : Nat) (qb : Nat) (qd : Nat) (n : Nat) (mk : Nat) (ck : Bool) (ft : Nat → Nat) (fc : Nat → Nat) (fr : Nat → Int32) (j : Nat) (x : Int32) (hj : j < 33) (hn : n < 2048) : Met l yn_Tr_append (Cond.code yn_Tr_append bc_Tr_append 3 none :: kx_all) ({ frames := 0, cells := 0, slots := 0, locals := 0 } : Room) (kp [.ref o, .int (nI j), .int x] D cI cZ [tr_c o qa qb qd n mk ck, ar_n cI qa 33 ft, ar_n cI qb 33 fc, ar_i cI qd 2048 fr] sz) (kw_q none D kc_l [tr_c o qa qb qd (n + 1) mk ck, ar_n cI qa 33 ft, ar_n cI qb 33 (va_up fc j (fc j + 1)), ar_i cI qd 2048 (upd fr n x)] (va_A [tr_c o qa qb qd n mk ck, ar_n cI qa 33 ft, ar_n cI qb 33 fc, ar_i cI qd 2048 fr] sz)) 0 0 (va_A [tr_c o qa qb qd n mk ck, ar_n cI qa 33 ft, ar_n cI qb 33 fc, ar_i cI qd 2048 fr] sz) := by
  refine kx_metW (by decide) (Nat.le_of_ble_eq_true rfl) ?_
  intro p e s m below meth c ls A hx hb hr hml hts hown hlocks hin hA hP hK hD hN hl hS
  have hown : s.vm.findClass rn_Tr = some m.cls := hown
  have hl : lv_has ls 3 [(0, .ref o), (1, .int (nI j)), (2, .int x)] := hl
  refine lv_aload_n hx hb dc_Tr_append_0 rfl (lv_at hl 0 rfl) ?_
  refine va_get (ci := 5) (v := .int (nI n)) (C := rn_Tr) (T := fd_Tr) (N := 6) hx hb hts in_Tr hown hK hP 0 rfl rfl 3 (by decide) (hts _ wd_138) (fun _ h9 => h9) rfl dc_Tr_append_1 ?_
  refine lv_aload_n hx hb dc_Tr_append_4 rfl (lv_at hl 0 rfl) ?_
  refine va_get (ci := 5) (v := .ref qd) (C := rn_Tr) (T := fd_Tr) (N := 6) hx hb hts in_Tr hown hK hP 0 rfl rfl 2 (by decide) (hts _ wd_137) (fun _ h9 => h9) rfl dc_Tr_append_5 ?_
  refine va_alen (v := nI 2048) hx hb hK hP 3 0 rfl rfl rfl dc_Tr_append_8 ?_
  refine kn_icmp_ge hx hb (by omega) (by omega) dc_Tr_append_9 rfl (fun hc9 => ?_) (fun hc9 => ?_)
  · exfalso; omega
  · refine lv_aload_n hx hb dc_Tr_append_12 rfl (lv_at hl 0 rfl) ?_
    refine va_get (ci := 5) (v := .ref qd) (C := rn_Tr) (T := fd_Tr) (N := 6) hx hb hts in_Tr hown hK hP 0 rfl rfl 2 (by decide) (hts _ wd_137) (fun _ h9 => h9) rfl dc_Tr_append_13 ?_
    refine lv_aload_n hx hb dc_Tr_append_16 rfl (lv_at hl 0 rfl) ?_
    refine va_get (ci := 5) (v := .int (nI n)) (C := rn_Tr) (T := fd_Tr) (N := 6) hx hb hts in_Tr hown hK hP 0 rfl rfl 3 (by decide) (hts _ wd_138) (fun _ h9 => h9) rfl dc_Tr_append_17 ?_
    refine lv_iload_n hx hb dc_Tr_append_20 rfl (lv_at hl 2 rfl) ?_
    refine ka_iast (f := fr) hx hb hK hP hD hS 3 0 rfl rfl (j := n) (by omega) (by omega) dc_Tr_append_21 (ws' := [tr_c o qa qb qd n mk ck, ar_n cI qa 33 ft, ar_n cI qb 33 fc, ar_i cI qd 2048 (upd fr n x)]) rfl (fun H locs hP hD hS => ?_)
    refine lv_aload_n hx hb dc_Tr_append_22 rfl (lv_at hl 0 rfl) ?_
    refine lv_dup hx hb dc_Tr_append_23 rfl ?_
    refine va_get (ci := 5) (v := .int (nI n)) (C := rn_Tr) (T := fd_Tr) (N := 6) hx hb hts in_Tr hown hK hP 0 rfl rfl 3 (by decide) (hts _ wd_138) (fun _ h9 => h9) rfl dc_Tr_append_24 ?_
    refine lv_iconst (v := nI 1) hx hb dc_Tr_append_27 (by decide +kernel) ?_
    refine kn_iadd hx hb dc_Tr_append_28 ?_
    refine va_put (ci := 5) (v := .int (nI (n + 1))) (ty := .int) (C := rn_Tr) (T := fd_Tr) (N := 6) hx hb hts in_Tr ty_Tr tk_Tr nm_Tr hown hK hP hD hS 0 rfl rfl 3 (by decide) (hts _ wd_138) (fun _ h9 => h9) rfl (by decide +kernel) rfl rfl (Nat.le_of_ble_eq_true rfl) dc_Tr_append_29 (fun H locs hP hD hS => ?_)
    have hP : va_P D kc_l [tr_c o qa qb qd (n + 1) mk ck, ar_n cI qa 33 ft, ar_n cI qb 33 fc, ar_i cI qd 2048 (upd fr n x)] H := hP
    have hD : va_D A [tr_c o qa qb qd (n + 1) mk ck, ar_n cI qa 33 ft, ar_n cI qb 33 fc, ar_i cI qd 2048 (upd fr n x)] := hD
    refine lv_aload_n hx hb dc_Tr_append_32 rfl (lv_at hl 0 rfl) ?_
    refine va_get (ci := 5) (v := .ref qb) (C := rn_Tr) (T := fd_Tr) (N := 6) hx hb hts in_Tr hown hK hP 0 rfl rfl 1 (by decide) (hts _ wd_136) (fun _ h9 => h9) rfl dc_Tr_append_33 ?_
    refine lv_iload_n hx hb dc_Tr_append_36 rfl (lv_at hl 1 rfl) ?_
    refine lv_dup2_11 hx hb dc_Tr_append_37 rfl rfl ?_
    refine ka_nald (t := fc) hx hb hK hP 2 0 rfl rfl (j := j) (by omega) (by omega) dc_Tr_append_38 ?_
    refine lv_iconst (v := nI 1) hx hb dc_Tr_append_39 (by decide +kernel) ?_
    refine kn_iadd hx hb dc_Tr_append_40 ?_
    refine ka_nast (t := fc) hx hb hK hP hD hS 2 0 rfl rfl (j := j) (by omega) (by omega) dc_Tr_append_41 (ws' := [tr_c o qa qb qd (n + 1) mk ck, ar_n cI qa 33 ft, ar_n cI qb 33 (va_up fc j ((fc j) + 1)), ar_i cI qd 2048 (upd fr n x)]) rfl (fun H locs hP hD hS => ?_)
    exact kw_vret hx hb hr hlocks hP hD hS dc_Tr_append_42 (rfl)

set_option maxHeartbeats 4000000 in
set_option maxRecDepth 100000 in
theorem ct_Tr_countOf (l : Launch) (D : va_G) (cI cZ : ClassId) (sz : Nat) (o : Nat) (qa : Nat) (qb : Nat) (qd : Nat) (n : Nat) (mk : Nat) (ck : Bool) (ft : Nat → Nat) (fc : Nat → Nat) (fr : Nat → Int32) (j : Nat) (hj : j < 2 ^ 31) : Met l yn_Tr_countOf (Cond.code yn_Tr_countOf bc_Tr_countOf 2 (some .int) :: kx_all) ({ frames := 0, cells := 0, slots := 0, locals := 0 } : Room) (kp [.ref o, .int (nI j)] D cI cZ [tr_c o qa qb qd n mk ck, ar_n cI qa 33 ft, ar_n cI qb 33 fc, ar_i cI qd 2048 fr] sz) (kr_q (some (.int (nI (pt_hc fc j))))) 0 0 (fun _ => False) := by
  refine kx_met (by decide) (Nat.le_of_ble_eq_true rfl) ?_
  intro p e s m below meth c ls hx hb hr hml hts hown hlocks hin hsz hP hK hD hN hl
  have hown : s.vm.findClass rn_Tr = some m.cls := hown
  have hl : lv_has ls 2 [(0, .ref o), (1, .int (nI j))] := hl
  refine lv_iload_n hx hb dc_Tr_countOf_0 rfl (lv_at hl 1 rfl) ?_
  refine lv_iconst (v := nI 1) hx hb dc_Tr_countOf_1 (by decide +kernel) ?_
  refine kn_icmp_lt hx hb (by omega) (by omega) dc_Tr_countOf_2 rfl (fun hc2 => ?_) (fun hc2 => ?_)
  · refine lv_iconst (v := nI 0) hx hb dc_Tr_countOf_20 (by decide +kernel) ?_
    exact kr_iret hx hb hr hlocks dc_Tr_countOf_21 (by rw [pt_hc, if_neg (by omega)])
  · refine lv_iload_n hx hb dc_Tr_countOf_5 rfl (lv_at hl 1 rfl) ?_
    refine lv_bipush (v := nI 32) hx hb dc_Tr_countOf_6 (by decide +kernel) ?_
    refine kn_icmp_gt hx hb (by omega) (by omega) dc_Tr_countOf_8 rfl (fun hc8 => ?_) (fun hc8 => ?_)
    · refine lv_iconst (v := nI 0) hx hb dc_Tr_countOf_20 (by decide +kernel) ?_
      exact kr_iret hx hb hr hlocks dc_Tr_countOf_21 (by rw [pt_hc, if_neg (by omega)])
    · refine lv_aload_n hx hb dc_Tr_countOf_11 rfl (lv_at hl 0 rfl) ?_
      refine va_get (ci := 5) (v := .ref qb) (C := rn_Tr) (T := fd_Tr) (N := 6) hx hb hts in_Tr hown hK hP 0 rfl rfl 1 (by decide) (hts _ wd_136) (fun _ h9 => h9) rfl dc_Tr_countOf_12 ?_
      refine lv_iload_n hx hb dc_Tr_countOf_15 rfl (lv_at hl 1 rfl) ?_
      refine ka_nald (t := fc) hx hb hK hP 2 0 rfl rfl (j := j) (by omega) (by omega) dc_Tr_countOf_16 ?_
      refine lv_goto hx hb dc_Tr_countOf_17 rfl ?_
      exact kr_iret hx hb hr hlocks dc_Tr_countOf_21 (by rw [pt_hc, if_pos ⟨by omega, by omega⟩])

set_option maxHeartbeats 4000000 in
set_option maxRecDepth 100000 in
theorem ct_Tr_countOf_neg (l : Launch) (D : va_G) (cI cZ : ClassId) (sz : Nat) (o : Nat) (qa : Nat) (qb : Nat) (qd : Nat) (n : Nat) (mk : Nat) (ck : Bool) (i : Int32) (hi : i < 0) : Met l yn_Tr_countOf (Cond.code yn_Tr_countOf bc_Tr_countOf 2 (some .int) :: kx_all) ({ frames := 0, cells := 0, slots := 0, locals := 0 } : Room) (kp [.ref o, .int i] D cI cZ [tr_c o qa qb qd n mk ck] sz) (kr_q (some (.int (nI 0)))) 0 0 (fun _ => False) := by
  refine kx_met (by decide) (Nat.le_of_ble_eq_true rfl) ?_
  intro p e s m below meth c ls hx hb hr hml hts hown hlocks hin hsz hP hK hD hN hl
  have hown : s.vm.findClass rn_Tr = some m.cls := hown
  have hl : lv_has ls 2 [(0, .ref o), (1, .int i)] := hl
  refine lv_iload_n hx hb dc_Tr_countOf_0 rfl (lv_at hl 1 rfl) ?_
  refine lv_iconst (v := nI 1) hx hb dc_Tr_countOf_1 (by decide +kernel) ?_
  refine lv_icmp_lt hx hb dc_Tr_countOf_2 rfl (fun hc2 => ?_) (fun hc2 => ?_)
  · refine lv_iconst (v := nI 0) hx hb dc_Tr_countOf_20 (by decide +kernel) ?_
    exact kr_iret hx hb hr hlocks dc_Tr_countOf_21 (rfl)
  · exact absurd (ni_lt1 hi 1 (by decide)) hc2

set_option maxHeartbeats 4000000 in
set_option maxRecDepth 100000 in
theorem ct_Tr_hintAt (l : Launch) (D : va_G) (cI cZ : ClassId) (sz : Nat) (o : Nat) (qa : Nat) (qb : Nat) (qd : Nat) (n : Nat) (mk : Nat) (ck : Bool) (ft : Nat → Nat) (fc : Nat → Nat) (fr : Nat → Int32) (j : Nat) (k : Nat) (hb0 : ∀ j, 1 ≤ j → j ≤ 32 → ft j + fc j ≤ 2048) (hj : j < 2 ^ 31) (hk : k < 2 ^ 31) : Met l yn_Tr_hintAt (Cond.code yn_Tr_hintAt bc_Tr_hintAt 3 (some .int) :: kx_all) ({ frames := 1, cells := 0, slots := 0, locals := 21 } : Room) (kp [.ref o, .int (nI j), .int (nI k)] D cI cZ [tr_c o qa qb qd n mk ck, ar_n cI qa 33 ft, ar_n cI qb 33 fc, ar_i cI qd 2048 fr] sz) (kr_q (some (.int (pt_hv ft fc fr j k)))) 0 0 (fun _ => False) := by
  refine kx_met (by decide) (Nat.le_of_ble_eq_true rfl) ?_
  intro p e s m below meth c ls hx hb hr hml hts hown hlocks hin hsz hP hK hD hN hl
  have hown : s.vm.findClass rn_Tr = some m.cls := hown
  have hl : lv_has ls 3 [(0, .ref o), (1, .int (nI j)), (2, .int (nI k))] := hl
  have hcb : pt_hc fc j < 2 ^ 31 := by
    unfold pt_hc
    split
    · have := hb0 j (by omega) (by omega); omega
    · decide
  refine lv_iload_n hx hb dc_Tr_hintAt_0 rfl (lv_at hl 2 rfl) ?_
  refine lv_if_lt hx hb dc_Tr_hintAt_1 rfl (fun hc1 => ?_) (fun hc1 => ?_)
  · exact absurd hc1 (nI_pos (by omega))
  · refine lv_iload_n hx hb dc_Tr_hintAt_4 rfl (lv_at hl 2 rfl) ?_
    refine lv_aload_n hx hb dc_Tr_hintAt_5 rfl (lv_at hl 0 rfl) ?_
    refine lv_iload_n hx hb dc_Tr_hintAt_6 rfl (lv_at hl 1 rfl) ?_
    refine kr_call1 (va_runV (As := [.int (nI j)]) (rest := [.int (nI k)]) ⟨hx, hb, hml, hown, hts⟩ (ct_Tr_countOf l D cI cZ _ o qa qb qd n mk ck ft fc fr j (by omega)) (cwV 1 hts (kx_gV wd_279 wd_268 wd_269 wd_7 wd_270) rfl rfl rfl ⟨rfl, yd_Tr_countOf⟩ ⟨Nat.le_of_ble_eq_true rfl, Nat.le_of_ble_eq_true rfl⟩) (kp_V (q0 := 0) (ci := 5) hP hD hK hN [0, 1, 2, 3] rfl rfl rfl rfl rfl) rfl rfl hl.1 rfl (lv_room (Nat.le_of_ble_eq_true rfl)) dc_Tr_hintAt_7 ⟨Nat.le_of_ble_eq_true rfl, Nat.le_of_ble_eq_true rfl⟩) ?_
    refine kn_icmp_ge hx hb (by omega) (hcb) dc_Tr_hintAt_10 rfl (fun hc10 => ?_) (fun hc10 => ?_)
    · refine lv_iconst (v := nI 0) hx hb dc_Tr_hintAt_29 (by decide +kernel) ?_
      exact kr_iret hx hb hr hlocks dc_Tr_hintAt_30 (by rw [pt_hv, if_neg (by omega)]; rfl)
    · obtain ⟨hj1, hj2, hk1⟩ := hc_in hc10
      have hbj := hb0 j hj1 hj2
      refine lv_aload_n hx hb dc_Tr_hintAt_13 rfl (lv_at hl 0 rfl) ?_
      refine va_get (ci := 5) (v := .ref qd) (C := rn_Tr) (T := fd_Tr) (N := 6) hx hb hts in_Tr hown hK hP 0 rfl rfl 2 (by decide) (hts _ wd_137) (fun _ h9 => h9) rfl dc_Tr_hintAt_14 ?_
      refine lv_aload_n hx hb dc_Tr_hintAt_17 rfl (lv_at hl 0 rfl) ?_
      refine va_get (ci := 5) (v := .ref qa) (C := rn_Tr) (T := fd_Tr) (N := 6) hx hb hts in_Tr hown hK hP 0 rfl rfl 0 (by decide) (hts _ wd_135) (fun _ h9 => h9) rfl dc_Tr_hintAt_18 ?_
      refine lv_iload_n hx hb dc_Tr_hintAt_21 rfl (lv_at hl 1 rfl) ?_
      refine ka_nald (t := ft) hx hb hK hP 1 0 rfl rfl (j := j) (by omega) (by omega) dc_Tr_hintAt_22 ?_
      refine lv_iload_n hx hb dc_Tr_hintAt_23 rfl (lv_at hl 2 rfl) ?_
      refine kn_iadd hx hb dc_Tr_hintAt_24 ?_
      refine ka_iald (f := fr) hx hb hK hP 3 0 rfl rfl (j := (ft j) + k) (by omega) (by omega) dc_Tr_hintAt_25 ?_
      refine lv_goto hx hb dc_Tr_hintAt_26 rfl ?_
      exact kr_iret hx hb hr hlocks dc_Tr_hintAt_30 (by rw [pt_hv, if_pos hc10])

set_option maxHeartbeats 4000000 in
set_option maxRecDepth 100000 in
theorem ct_Tr_hintAt_k (l : Launch) (D : va_G) (cI cZ : ClassId) (sz : Nat) (o : Nat) (qa : Nat) (qb : Nat) (qd : Nat) (n : Nat) (mk : Nat) (ck : Bool) (x : Int32) (i : Int32) (hi : i < 0) : Met l yn_Tr_hintAt (Cond.code yn_Tr_hintAt bc_Tr_hintAt 3 (some .int) :: kx_all) ({ frames := 0, cells := 0, slots := 0, locals := 0 } : Room) (kp [.ref o, .int x, .int i] D cI cZ [tr_c o qa qb qd n mk ck] sz) (kr_q (some (.int (nI 0)))) 0 0 (fun _ => False) := by
  refine kx_met (by decide) (Nat.le_of_ble_eq_true rfl) ?_
  intro p e s m below meth c ls hx hb hr hml hts hown hlocks hin hsz hP hK hD hN hl
  have hown : s.vm.findClass rn_Tr = some m.cls := hown
  have hl : lv_has ls 3 [(0, .ref o), (1, .int x), (2, .int i)] := hl
  refine lv_iload_n hx hb dc_Tr_hintAt_0 rfl (lv_at hl 2 rfl) ?_
  refine lv_if_lt hx hb dc_Tr_hintAt_1 rfl (fun hc1 => ?_) (fun hc1 => ?_)
  · refine lv_iconst (v := nI 0) hx hb dc_Tr_hintAt_29 (by decide +kernel) ?_
    exact kr_iret hx hb hr hlocks dc_Tr_hintAt_30 (rfl)
  · exact absurd hi hc1

set_option maxHeartbeats 4000000 in
set_option maxRecDepth 100000 in
theorem ct_Tr_hintAt_neg (l : Launch) (D : va_G) (cI cZ : ClassId) (sz : Nat) (o : Nat) (qa : Nat) (qb : Nat) (qd : Nat) (n : Nat) (mk : Nat) (ck : Bool) (i : Int32) (k : Nat) (hi : i < 0) (hk : k < 2 ^ 31) : Met l yn_Tr_hintAt (Cond.code yn_Tr_hintAt bc_Tr_hintAt 3 (some .int) :: kx_all) ({ frames := 1, cells := 0, slots := 0, locals := 21 } : Room) (kp [.ref o, .int i, .int (nI k)] D cI cZ [tr_c o qa qb qd n mk ck] sz) (kr_q (some (.int (nI 0)))) 0 0 (fun _ => False) := by
  refine kx_met (by decide) (Nat.le_of_ble_eq_true rfl) ?_
  intro p e s m below meth c ls hx hb hr hml hts hown hlocks hin hsz hP hK hD hN hl
  have hown : s.vm.findClass rn_Tr = some m.cls := hown
  have hl : lv_has ls 3 [(0, .ref o), (1, .int i), (2, .int (nI k))] := hl
  refine lv_iload_n hx hb dc_Tr_hintAt_0 rfl (lv_at hl 2 rfl) ?_
  refine lv_if_lt hx hb dc_Tr_hintAt_1 rfl (fun hc1 => ?_) (fun hc1 => ?_)
  · exact absurd hc1 (nI_pos (by omega))
  · refine lv_iload_n hx hb dc_Tr_hintAt_4 rfl (lv_at hl 2 rfl) ?_
    refine lv_aload_n hx hb dc_Tr_hintAt_5 rfl (lv_at hl 0 rfl) ?_
    refine lv_iload_n hx hb dc_Tr_hintAt_6 rfl (lv_at hl 1 rfl) ?_
    refine kr_call1 (va_runV (As := [.int i]) (rest := [.int (nI k)]) ⟨hx, hb, hml, hown, hts⟩ (ct_Tr_countOf_neg l D cI cZ _ o qa qb qd n mk ck i (by omega)) (cwV 1 hts (kx_gV wd_279 wd_268 wd_269 wd_7 wd_270) rfl rfl rfl ⟨rfl, yd_Tr_countOf⟩ ⟨Nat.le_of_ble_eq_true rfl, Nat.le_of_ble_eq_true rfl⟩) (kp_V (q0 := 0) (ci := 5) hP hD hK hN [0] rfl rfl rfl rfl rfl) rfl rfl hl.1 rfl (lv_room (Nat.le_of_ble_eq_true rfl)) dc_Tr_hintAt_7 ⟨Nat.le_of_ble_eq_true rfl, Nat.le_of_ble_eq_true rfl⟩) ?_
    refine kn_icmp_ge hx hb (by omega) (by omega) dc_Tr_hintAt_10 rfl (fun hc10 => ?_) (fun hc10 => ?_)
    · refine lv_iconst (v := nI 0) hx hb dc_Tr_hintAt_29 (by decide +kernel) ?_
      exact kr_iret hx hb hr hlocks dc_Tr_hintAt_30 (rfl)
    · exfalso; omega

set_option maxHeartbeats 4000000 in
set_option maxRecDepth 100000 in
theorem ct_Tr_replace (l : Launch) (D : va_G) (cI cZ : ClassId) (sz : Nat) (o : Nat) (qa : Nat) (qb : Nat) (qd : Nat) (n : Nat) (mk : Nat) (ck : Bool) (ft : Nat → Nat) (fc : Nat → Nat) (fr : Nat → Int32) (j : Nat) (k : Nat) (x : Int32) (hb0 : ∀ j, 1 ≤ j → j ≤ 32 → ft j + fc j ≤ 2048) (hj : j < 2 ^ 31) (hk : k < 2 ^ 31) (hin0 : k < pt_hc fc j) : Met l yn_Tr_replace (Cond.code yn_Tr_replace bc_Tr_replace 4 (some .boolean) :: kx_all) ({ frames := 1, cells := 0, slots := 0, locals := 21 } : Room) (kp [.ref o, .int (nI j), .int (nI k), .int x] D cI cZ [tr_c o qa qb qd n mk ck, ar_n cI qa 33 ft, ar_n cI qb 33 fc, ar_i cI qd 2048 fr] sz) (kw_q (some (.int (kb_i true))) D kc_l [tr_c o qa qb qd n mk ck, ar_n cI qa 33 ft, ar_n cI qb 33 fc, ar_i cI qd 2048 (upd fr (ft j + k) x)] (va_A [tr_c o qa qb qd n mk ck, ar_n cI qa 33 ft, ar_n cI qb 33 fc, ar_i cI qd 2048 fr] sz)) 0 0 (va_A [tr_c o qa qb qd n mk ck, ar_n cI qa 33 ft, ar_n cI qb 33 fc, ar_i cI qd 2048 fr] sz) := by
  refine kx_metW (by decide) (Nat.le_of_ble_eq_true rfl) ?_
  intro p e s m below meth c ls A hx hb hr hml hts hown hlocks hin hA hP hK hD hN hl hS
  have hown : s.vm.findClass rn_Tr = some m.cls := hown
  have hl : lv_has ls 4 [(0, .ref o), (1, .int (nI j)), (2, .int (nI k)), (3, .int x)] := hl
  have hcb : pt_hc fc j < 2 ^ 31 := by
    unfold pt_hc
    split
    · have := hb0 j (by omega) (by omega); omega
    · decide
  refine lv_iload_n hx hb dc_Tr_replace_0 rfl (lv_at hl 2 rfl) ?_
  refine lv_if_lt hx hb dc_Tr_replace_1 rfl (fun hc1 => ?_) (fun hc1 => ?_)
  · exact absurd hc1 (nI_pos (by omega))
  · refine lv_iload_n hx hb dc_Tr_replace_4 rfl (lv_at hl 2 rfl) ?_
    refine lv_aload_n hx hb dc_Tr_replace_5 rfl (lv_at hl 0 rfl) ?_
    refine lv_iload_n hx hb dc_Tr_replace_6 rfl (lv_at hl 1 rfl) ?_
    refine kr_call1 (va_runV (As := [.int (nI j)]) (rest := [.int (nI k)]) ⟨hx, hb, hml, hown, hts⟩ (ct_Tr_countOf l D cI cZ _ o qa qb qd n mk ck ft fc fr j (by omega)) (cwV 1 hts (kx_gV wd_279 wd_268 wd_269 wd_7 wd_270) rfl rfl rfl ⟨rfl, yd_Tr_countOf⟩ ⟨Nat.le_of_ble_eq_true rfl, Nat.le_of_ble_eq_true rfl⟩) (kp_V (q0 := 0) (ci := 5) hP hD hK hN [0, 1, 2, 3] rfl rfl rfl rfl rfl) rfl rfl hl.1 rfl (lv_room (Nat.le_of_ble_eq_true rfl)) dc_Tr_replace_7 ⟨Nat.le_of_ble_eq_true rfl, Nat.le_of_ble_eq_true rfl⟩) ?_
    refine kn_icmp_lt hx hb (by omega) (hcb) dc_Tr_replace_10 rfl (fun hc10 => ?_) (fun hc10 => ?_)
    · obtain ⟨hj1, hj2, hk1⟩ := hc_in hc10
      have hbj := hb0 j hj1 hj2
      refine lv_aload_n hx hb dc_Tr_replace_15 rfl (lv_at hl 0 rfl) ?_
      refine va_get (ci := 5) (v := .ref qd) (C := rn_Tr) (T := fd_Tr) (N := 6) hx hb hts in_Tr hown hK hP 0 rfl rfl 2 (by decide) (hts _ wd_137) (fun _ h9 => h9) rfl dc_Tr_replace_16 ?_
      refine lv_aload_n hx hb dc_Tr_replace_19 rfl (lv_at hl 0 rfl) ?_
      refine va_get (ci := 5) (v := .ref qa) (C := rn_Tr) (T := fd_Tr) (N := 6) hx hb hts in_Tr hown hK hP 0 rfl rfl 0 (by decide) (hts _ wd_135) (fun _ h9 => h9) rfl dc_Tr_replace_20 ?_
      refine lv_iload_n hx hb dc_Tr_replace_23 rfl (lv_at hl 1 rfl) ?_
      refine ka_nald (t := ft) hx hb hK hP 1 0 rfl rfl (j := j) (by omega) (by omega) dc_Tr_replace_24 ?_
      refine lv_iload_n hx hb dc_Tr_replace_25 rfl (lv_at hl 2 rfl) ?_
      refine kn_iadd hx hb dc_Tr_replace_26 ?_
      refine lv_iload_n hx hb dc_Tr_replace_27 rfl (lv_at hl 3 rfl) ?_
      refine ka_iast (f := fr) hx hb hK hP hD hS 3 0 rfl rfl (j := (ft j) + k) (by omega) (by omega) dc_Tr_replace_28 (ws' := [tr_c o qa qb qd n mk ck, ar_n cI qa 33 ft, ar_n cI qb 33 fc, ar_i cI qd 2048 (upd fr ((ft j) + k) x)]) rfl (fun H locs hP hD hS => ?_)
      refine lv_iconst (v := nI 1) hx hb dc_Tr_replace_29 (by decide +kernel) ?_
      refine kn_top (y := kb_i true) (by decide +kernel) ?_
      exact kw_zret hx hb hr hlocks hP hD hS dc_Tr_replace_30 (rfl) (rfl)
    · exfalso; omega

set_option maxHeartbeats 4000000 in
set_option maxRecDepth 100000 in
theorem ct_Tr_replace_no (l : Launch) (D : va_G) (cI cZ : ClassId) (sz : Nat) (o : Nat) (qa : Nat) (qb : Nat) (qd : Nat) (n : Nat) (mk : Nat) (ck : Bool) (ft : Nat → Nat) (fc : Nat → Nat) (fr : Nat → Int32) (j : Nat) (k : Nat) (x : Int32) (hb0 : ∀ j, 1 ≤ j → j ≤ 32 → ft j + fc j ≤ 2048) (hj : j < 2 ^ 31) (hk : k < 2 ^ 31) (hin0 : pt_hc fc j ≤ k) : Met l yn_Tr_replace (Cond.code yn_Tr_replace bc_Tr_replace 4 (some .boolean) :: kx_all) ({ frames := 1, cells := 0, slots := 0, locals := 21 } : Room) (kp [.ref o, .int (nI j), .int (nI k), .int x] D cI cZ [tr_c o qa qb qd n mk ck, ar_n cI qa 33 ft, ar_n cI qb 33 fc, ar_i cI qd 2048 fr] sz) (kr_q (some (.int (kb_i false)))) 0 0 (fun _ => False) := by
  refine kx_met (by decide) (Nat.le_of_ble_eq_true rfl) ?_
  intro p e s m below meth c ls hx hb hr hml hts hown hlocks hin hsz hP hK hD hN hl
  have hown : s.vm.findClass rn_Tr = some m.cls := hown
  have hl : lv_has ls 4 [(0, .ref o), (1, .int (nI j)), (2, .int (nI k)), (3, .int x)] := hl
  have hcb : pt_hc fc j < 2 ^ 31 := by
    unfold pt_hc
    split
    · have := hb0 j (by omega) (by omega); omega
    · decide
  refine lv_iload_n hx hb dc_Tr_replace_0 rfl (lv_at hl 2 rfl) ?_
  refine lv_if_lt hx hb dc_Tr_replace_1 rfl (fun hc1 => ?_) (fun hc1 => ?_)
  · exact absurd hc1 (nI_pos (by omega))
  · refine lv_iload_n hx hb dc_Tr_replace_4 rfl (lv_at hl 2 rfl) ?_
    refine lv_aload_n hx hb dc_Tr_replace_5 rfl (lv_at hl 0 rfl) ?_
    refine lv_iload_n hx hb dc_Tr_replace_6 rfl (lv_at hl 1 rfl) ?_
    refine kr_call1 (va_runV (As := [.int (nI j)]) (rest := [.int (nI k)]) ⟨hx, hb, hml, hown, hts⟩ (ct_Tr_countOf l D cI cZ _ o qa qb qd n mk ck ft fc fr j (by omega)) (cwV 1 hts (kx_gV wd_279 wd_268 wd_269 wd_7 wd_270) rfl rfl rfl ⟨rfl, yd_Tr_countOf⟩ ⟨Nat.le_of_ble_eq_true rfl, Nat.le_of_ble_eq_true rfl⟩) (kp_V (q0 := 0) (ci := 5) hP hD hK hN [0, 1, 2, 3] rfl rfl rfl rfl rfl) rfl rfl hl.1 rfl (lv_room (Nat.le_of_ble_eq_true rfl)) dc_Tr_replace_7 ⟨Nat.le_of_ble_eq_true rfl, Nat.le_of_ble_eq_true rfl⟩) ?_
    refine kn_icmp_lt hx hb (by omega) (hcb) dc_Tr_replace_10 rfl (fun hc10 => ?_) (fun hc10 => ?_)
    · exfalso; omega
    · refine lv_iconst (v := nI 0) hx hb dc_Tr_replace_13 (by decide +kernel) ?_
      refine kn_top (y := kb_i false) (by decide +kernel) ?_
      exact kr_zret hx hb hr hlocks dc_Tr_replace_14 (rfl)

set_option maxHeartbeats 4000000 in
set_option maxRecDepth 100000 in
theorem ct_Tr_replace_k (l : Launch) (D : va_G) (cI cZ : ClassId) (sz : Nat) (o : Nat) (qa : Nat) (qb : Nat) (qd : Nat) (n : Nat) (mk : Nat) (ck : Bool) (y : Int32) (i : Int32) (x : Int32) (hi : i < 0) : Met l yn_Tr_replace (Cond.code yn_Tr_replace bc_Tr_replace 4 (some .boolean) :: kx_all) ({ frames := 0, cells := 0, slots := 0, locals := 0 } : Room) (kp [.ref o, .int y, .int i, .int x] D cI cZ [tr_c o qa qb qd n mk ck] sz) (kr_q (some (.int (kb_i false)))) 0 0 (fun _ => False) := by
  refine kx_met (by decide) (Nat.le_of_ble_eq_true rfl) ?_
  intro p e s m below meth c ls hx hb hr hml hts hown hlocks hin hsz hP hK hD hN hl
  have hown : s.vm.findClass rn_Tr = some m.cls := hown
  have hl : lv_has ls 4 [(0, .ref o), (1, .int y), (2, .int i), (3, .int x)] := hl
  refine lv_iload_n hx hb dc_Tr_replace_0 rfl (lv_at hl 2 rfl) ?_
  refine lv_if_lt hx hb dc_Tr_replace_1 rfl (fun hc1 => ?_) (fun hc1 => ?_)
  · refine lv_iconst (v := nI 0) hx hb dc_Tr_replace_13 (by decide +kernel) ?_
    refine kn_top (y := kb_i false) (by decide +kernel) ?_
    exact kr_zret hx hb hr hlocks dc_Tr_replace_14 (rfl)
  · exact absurd hi hc1

set_option maxHeartbeats 4000000 in
set_option maxRecDepth 100000 in
theorem ct_Tr_replace_neg (l : Launch) (D : va_G) (cI cZ : ClassId) (sz : Nat) (o : Nat) (qa : Nat) (qb : Nat) (qd : Nat) (n : Nat) (mk : Nat) (ck : Bool) (i : Int32) (k : Nat) (x : Int32) (hi : i < 0) (hk : k < 2 ^ 31) : Met l yn_Tr_replace (Cond.code yn_Tr_replace bc_Tr_replace 4 (some .boolean) :: kx_all) ({ frames := 1, cells := 0, slots := 0, locals := 21 } : Room) (kp [.ref o, .int i, .int (nI k), .int x] D cI cZ [tr_c o qa qb qd n mk ck] sz) (kr_q (some (.int (kb_i false)))) 0 0 (fun _ => False) := by
  refine kx_met (by decide) (Nat.le_of_ble_eq_true rfl) ?_
  intro p e s m below meth c ls hx hb hr hml hts hown hlocks hin hsz hP hK hD hN hl
  have hown : s.vm.findClass rn_Tr = some m.cls := hown
  have hl : lv_has ls 4 [(0, .ref o), (1, .int i), (2, .int (nI k)), (3, .int x)] := hl
  refine lv_iload_n hx hb dc_Tr_replace_0 rfl (lv_at hl 2 rfl) ?_
  refine lv_if_lt hx hb dc_Tr_replace_1 rfl (fun hc1 => ?_) (fun hc1 => ?_)
  · exact absurd hc1 (nI_pos (by omega))
  · refine lv_iload_n hx hb dc_Tr_replace_4 rfl (lv_at hl 2 rfl) ?_
    refine lv_aload_n hx hb dc_Tr_replace_5 rfl (lv_at hl 0 rfl) ?_
    refine lv_iload_n hx hb dc_Tr_replace_6 rfl (lv_at hl 1 rfl) ?_
    refine kr_call1 (va_runV (As := [.int i]) (rest := [.int (nI k)]) ⟨hx, hb, hml, hown, hts⟩ (ct_Tr_countOf_neg l D cI cZ _ o qa qb qd n mk ck i (by omega)) (cwV 1 hts (kx_gV wd_279 wd_268 wd_269 wd_7 wd_270) rfl rfl rfl ⟨rfl, yd_Tr_countOf⟩ ⟨Nat.le_of_ble_eq_true rfl, Nat.le_of_ble_eq_true rfl⟩) (kp_V (q0 := 0) (ci := 5) hP hD hK hN [0] rfl rfl rfl rfl rfl) rfl rfl hl.1 rfl (lv_room (Nat.le_of_ble_eq_true rfl)) dc_Tr_replace_7 ⟨Nat.le_of_ble_eq_true rfl, Nat.le_of_ble_eq_true rfl⟩) ?_
    refine kn_icmp_lt hx hb (by omega) (by omega) dc_Tr_replace_10 rfl (fun hc10 => ?_) (fun hc10 => ?_)
    · exfalso; omega
    · refine lv_iconst (v := nI 0) hx hb dc_Tr_replace_13 (by decide +kernel) ?_
      refine kn_top (y := kb_i false) (by decide +kernel) ?_
      exact kr_zret hx hb hr hlocks dc_Tr_replace_14 (rfl)
end
section
/-! an assignment: what is true, what is false, the reasons -/
def pt_rdy (x t f : Nat) : Bool := decide (x &&& t = 0) && decide (nb_d x f &&& (nb_d x f - 1) = 0)
/-- the clauses used in a conflict, over k reasons yet, u found, lk looked at -/
def pt_used (fs rs im : Nat → Nat) : Nat → Nat → Nat → Nat
  | 0, u, _ => u
  | k + 1, u, lk => if lk &&& nb_op (im k) = 0 then pt_used fs rs im k u lk else pt_used fs rs im k (u ||| 2 ^ rs k) (lk ||| fs (rs k))
/-- the live clauses after k steps from step i on -/
def pt_live (dl : Nat → Bool) (nu : Nat → Nat) : Nat → Nat → Nat → Nat
  | 0, _, lv => lv
  | k + 1, i, lv => pt_live dl nu k (i + 1) (if dl i = true then nb_d lv (2 ^ nu i) else lv ||| 2 ^ nu i)
theorem live_st {dl : Nat → Bool} {nu : Nat → Nat} {n i lv : Nat} (h : i ≤ n) : pt_live dl nu (n + 1 - i) i lv = pt_live dl nu (n + 1 - (i + 1)) (i + 1) (if dl i = true then nb_d lv (2 ^ nu i) else lv ||| 2 ^ nu i) := by
  obtain ⟨k, hk⟩ : ∃ k, n + 1 - i = k + 1 := ⟨n - i, by omega⟩
  have hk2 : n + 1 - (i + 1) = k := by omega
  rw [hk, hk2, pt_live]
theorem live_d {dl : Nat → Bool} {nu : Nat → Nat} {n i lv : Nat} (h : i ≤ n) (hd : dl i = true) : pt_live dl nu (n + 1 - i) i lv = pt_live dl nu (n + 1 - (i + 1)) (i + 1) (nb_d lv (2 ^ nu i)) := by
  rw [live_st h, if_pos hd]
theorem live_a {dl : Nat → Bool} {nu : Nat → Nat} {n i lv : Nat} (h : i ≤ n) (hd : dl i = false) : pt_live dl nu (n + 1 - i) i lv = pt_live dl nu (n + 1 - (i + 1)) (i + 1) (lv ||| 2 ^ nu i) := by
  rw [live_st h, if_neg (by rw [hd]; decide)]
theorem live_en {dl : Nat → Bool} {nu : Nat → Nat} {n i lv : Nat} (h : n < i) : pt_live dl nu (n + 1 - i) i lv = lv := by
  rw [show n + 1 - i = 0 by omega, pt_live]

theorem dc_As_restart_0 : decode bc_As_restart 0 = .ok (.aload_n 0, 1) := by decide +kernel
theorem dc_As_restart_1 : decode bc_As_restart 1 = .ok (.iload_n 1, 1) := by decide +kernel
theorem dc_As_restart_2 : decode bc_As_restart 2 = .ok (.putfield 18, 3) := by decide +kernel
theorem dc_As_restart_5 : decode bc_As_restart 5 = .ok (.aload_n 0, 1) := by decide +kernel
theorem dc_As_restart_6 : decode bc_As_restart 6 = .ok (.iload_n 1, 1) := by decide +kernel
theorem dc_As_restart_7 : decode bc_As_restart 7 = .ok (.invokestatic 22, 3) := by decide +kernel
theorem dc_As_restart_10 : decode bc_As_restart 10 = .ok (.putfield 26, 3) := by decide +kernel
theorem dc_As_restart_13 : decode bc_As_restart 13 = .ok (.aload_n 0, 1) := by decide +kernel
theorem dc_As_restart_14 : decode bc_As_restart 14 = .ok (.iload_n 2, 1) := by decide +kernel
theorem dc_As_restart_15 : decode bc_As_restart 15 = .ok (.putfield 29, 3) := by decide +kernel
theorem dc_As_restart_18 : decode bc_As_restart 18 = .ok (.return_, 1) := by decide +kernel
theorem dc_As_isReady_0 : decode bc_As_isReady 0 = .ok (.iload_n 1, 1) := by decide +kernel
theorem dc_As_isReady_1 : decode bc_As_isReady 1 = .ok (.aload_n 0, 1) := by decide +kernel
theorem dc_As_isReady_2 : decode bc_As_isReady 2 = .ok (.getfield 26, 3) := by decide +kernel
theorem dc_As_isReady_5 : decode bc_As_isReady 5 = .ok (.iconst (-1), 1) := by decide +kernel
theorem dc_As_isReady_6 : decode bc_As_isReady 6 = .ok (.ixor, 1) := by decide +kernel
theorem dc_As_isReady_7 : decode bc_As_isReady 7 = .ok (.iand, 1) := by decide +kernel
theorem dc_As_isReady_8 : decode bc_As_isReady 8 = .ok (.istore_n 2, 1) := by decide +kernel
theorem dc_As_isReady_9 : decode bc_As_isReady 9 = .ok (.iload_n 1, 1) := by decide +kernel
theorem dc_As_isReady_10 : decode bc_As_isReady 10 = .ok (.aload_n 0, 1) := by decide +kernel
theorem dc_As_isReady_11 : decode bc_As_isReady 11 = .ok (.getfield 18, 3) := by decide +kernel
theorem dc_As_isReady_14 : decode bc_As_isReady 14 = .ok (.iand, 1) := by decide +kernel
theorem dc_As_isReady_15 : decode bc_As_isReady 15 = .ok (.ifCond .ne (15), 3) := by decide +kernel
theorem dc_As_isReady_18 : decode bc_As_isReady 18 = .ok (.iload_n 2, 1) := by decide +kernel
theorem dc_As_isReady_19 : decode bc_As_isReady 19 = .ok (.iload_n 2, 1) := by decide +kernel
theorem dc_As_isReady_20 : decode bc_As_isReady 20 = .ok (.iconst 1, 1) := by decide +kernel
theorem dc_As_isReady_21 : decode bc_As_isReady 21 = .ok (.isub, 1) := by decide +kernel
theorem dc_As_isReady_22 : decode bc_As_isReady 22 = .ok (.iand, 1) := by decide +kernel
theorem dc_As_isReady_23 : decode bc_As_isReady 23 = .ok (.ifCond .ne (7), 3) := by decide +kernel
theorem dc_As_isReady_26 : decode bc_As_isReady 26 = .ok (.iconst 1, 1) := by decide +kernel
theorem dc_As_isReady_27 : decode bc_As_isReady 27 = .ok (.goto (4), 3) := by decide +kernel
theorem dc_As_isReady_30 : decode bc_As_isReady 30 = .ok (.iconst 0, 1) := by decide +kernel
theorem dc_As_isReady_31 : decode bc_As_isReady 31 = .ok (.ireturn, 1) := by decide +kernel
theorem dc_As_follow_0 : decode bc_As_follow 0 = .ok (.iload_n 1, 1) := by decide +kernel
theorem dc_As_follow_1 : decode bc_As_follow 1 = .ok (.aload_n 0, 1) := by decide +kernel
theorem dc_As_follow_2 : decode bc_As_follow 2 = .ok (.getfield 26, 3) := by decide +kernel
theorem dc_As_follow_5 : decode bc_As_follow 5 = .ok (.iconst (-1), 1) := by decide +kernel
theorem dc_As_follow_6 : decode bc_As_follow 6 = .ok (.ixor, 1) := by decide +kernel
theorem dc_As_follow_7 : decode bc_As_follow 7 = .ok (.iand, 1) := by decide +kernel
theorem dc_As_follow_8 : decode bc_As_follow 8 = .ok (.istore_n 3, 1) := by decide +kernel
theorem dc_As_follow_9 : decode bc_As_follow 9 = .ok (.iload_n 3, 1) := by decide +kernel
theorem dc_As_follow_10 : decode bc_As_follow 10 = .ok (.ifCond .eq (12), 3) := by decide +kernel
theorem dc_As_follow_13 : decode bc_As_follow 13 = .ok (.aload_n 0, 1) := by decide +kernel
theorem dc_As_follow_14 : decode bc_As_follow 14 = .ok (.getfield 29, 3) := by decide +kernel
theorem dc_As_follow_17 : decode bc_As_follow 17 = .ok (.bipush (8), 2) := by decide +kernel
theorem dc_As_follow_19 : decode bc_As_follow 19 = .ok (.if_icmp .lt (5), 3) := by decide +kernel
theorem dc_As_follow_22 : decode bc_As_follow 22 = .ok (.iconst 0, 1) := by decide +kernel
theorem dc_As_follow_23 : decode bc_As_follow 23 = .ok (.ireturn, 1) := by decide +kernel
theorem dc_As_follow_24 : decode bc_As_follow 24 = .ok (.aload_n 0, 1) := by decide +kernel
theorem dc_As_follow_25 : decode bc_As_follow 25 = .ok (.dup, 1) := by decide +kernel
theorem dc_As_follow_26 : decode bc_As_follow 26 = .ok (.getfield 18, 3) := by decide +kernel
theorem dc_As_follow_29 : decode bc_As_follow 29 = .ok (.iload_n 3, 1) := by decide +kernel
theorem dc_As_follow_30 : decode bc_As_follow 30 = .ok (.ior, 1) := by decide +kernel
theorem dc_As_follow_31 : decode bc_As_follow 31 = .ok (.putfield 18, 3) := by decide +kernel
theorem dc_As_follow_34 : decode bc_As_follow 34 = .ok (.aload_n 0, 1) := by decide +kernel
theorem dc_As_follow_35 : decode bc_As_follow 35 = .ok (.dup, 1) := by decide +kernel
theorem dc_As_follow_36 : decode bc_As_follow 36 = .ok (.getfield 26, 3) := by decide +kernel
theorem dc_As_follow_39 : decode bc_As_follow 39 = .ok (.iload_n 3, 1) := by decide +kernel
theorem dc_As_follow_40 : decode bc_As_follow 40 = .ok (.invokestatic 22, 3) := by decide +kernel
theorem dc_As_follow_43 : decode bc_As_follow 43 = .ok (.ior, 1) := by decide +kernel
theorem dc_As_follow_44 : decode bc_As_follow 44 = .ok (.putfield 26, 3) := by decide +kernel
theorem dc_As_follow_47 : decode bc_As_follow 47 = .ok (.aload_n 0, 1) := by decide +kernel
theorem dc_As_follow_48 : decode bc_As_follow 48 = .ok (.getfield 9, 3) := by decide +kernel
theorem dc_As_follow_51 : decode bc_As_follow 51 = .ok (.aload_n 0, 1) := by decide +kernel
theorem dc_As_follow_52 : decode bc_As_follow 52 = .ok (.getfield 29, 3) := by decide +kernel
theorem dc_As_follow_55 : decode bc_As_follow 55 = .ok (.iload_n 2, 1) := by decide +kernel
theorem dc_As_follow_56 : decode bc_As_follow 56 = .ok (.iastore, 1) := by decide +kernel
theorem dc_As_follow_57 : decode bc_As_follow 57 = .ok (.aload_n 0, 1) := by decide +kernel
theorem dc_As_follow_58 : decode bc_As_follow 58 = .ok (.getfield 15, 3) := by decide +kernel
theorem dc_As_follow_61 : decode bc_As_follow 61 = .ok (.aload_n 0, 1) := by decide +kernel
theorem dc_As_follow_62 : decode bc_As_follow 62 = .ok (.getfield 29, 3) := by decide +kernel
theorem dc_As_follow_65 : decode bc_As_follow 65 = .ok (.iload_n 3, 1) := by decide +kernel
theorem dc_As_follow_66 : decode bc_As_follow 66 = .ok (.iastore, 1) := by decide +kernel
theorem dc_As_follow_67 : decode bc_As_follow 67 = .ok (.aload_n 0, 1) := by decide +kernel
theorem dc_As_follow_68 : decode bc_As_follow 68 = .ok (.dup, 1) := by decide +kernel
theorem dc_As_follow_69 : decode bc_As_follow 69 = .ok (.getfield 29, 3) := by decide +kernel
theorem dc_As_follow_72 : decode bc_As_follow 72 = .ok (.iconst 1, 1) := by decide +kernel
theorem dc_As_follow_73 : decode bc_As_follow 73 = .ok (.iadd, 1) := by decide +kernel
theorem dc_As_follow_74 : decode bc_As_follow 74 = .ok (.putfield 29, 3) := by decide +kernel
theorem dc_As_follow_77 : decode bc_As_follow 77 = .ok (.iconst 1, 1) := by decide +kernel
theorem dc_As_follow_78 : decode bc_As_follow 78 = .ok (.ireturn, 1) := by decide +kernel
theorem dc_As_usedFor_0 : decode bc_As_usedFor 0 = .ok (.iload_n 1, 1) := by decide +kernel
theorem dc_As_usedFor_1 : decode bc_As_usedFor 1 = .ok (.invokestatic 32, 3) := by decide +kernel
theorem dc_As_usedFor_4 : decode bc_As_usedFor 4 = .ok (.lstore_n 3, 1) := by decide +kernel
theorem dc_As_usedFor_5 : decode bc_As_usedFor 5 = .ok (.aload_n 2, 1) := by decide +kernel
theorem dc_As_usedFor_6 : decode bc_As_usedFor 6 = .ok (.iload_n 1, 1) := by decide +kernel
theorem dc_As_usedFor_7 : decode bc_As_usedFor 7 = .ok (.iaload, 1) := by decide +kernel
theorem dc_As_usedFor_8 : decode bc_As_usedFor 8 = .ok (.istore 5, 2) := by decide +kernel
theorem dc_As_usedFor_10 : decode bc_As_usedFor 10 = .ok (.aload_n 0, 1) := by decide +kernel
theorem dc_As_usedFor_11 : decode bc_As_usedFor 11 = .ok (.getfield 29, 3) := by decide +kernel
theorem dc_As_usedFor_14 : decode bc_As_usedFor 14 = .ok (.iconst 1, 1) := by decide +kernel
theorem dc_As_usedFor_15 : decode bc_As_usedFor 15 = .ok (.isub, 1) := by decide +kernel
theorem dc_As_usedFor_16 : decode bc_As_usedFor 16 = .ok (.istore 6, 2) := by decide +kernel
theorem dc_As_usedFor_18 : decode bc_As_usedFor 18 = .ok (.iload 6, 2) := by decide +kernel
theorem dc_As_usedFor_20 : decode bc_As_usedFor 20 = .ok (.ifCond .lt (52), 3) := by decide +kernel
theorem dc_As_usedFor_23 : decode bc_As_usedFor 23 = .ok (.iload 5, 2) := by decide +kernel
theorem dc_As_usedFor_25 : decode bc_As_usedFor 25 = .ok (.aload_n 0, 1) := by decide +kernel
theorem dc_As_usedFor_26 : decode bc_As_usedFor 26 = .ok (.getfield 15, 3) := by decide +kernel
theorem dc_As_usedFor_29 : decode bc_As_usedFor 29 = .ok (.iload 6, 2) := by decide +kernel
theorem dc_As_usedFor_31 : decode bc_As_usedFor 31 = .ok (.iaload, 1) := by decide +kernel
theorem dc_As_usedFor_32 : decode bc_As_usedFor 32 = .ok (.invokestatic 22, 3) := by decide +kernel
theorem dc_As_usedFor_35 : decode bc_As_usedFor 35 = .ok (.iand, 1) := by decide +kernel
theorem dc_As_usedFor_36 : decode bc_As_usedFor 36 = .ok (.ifCond .eq (30), 3) := by decide +kernel
theorem dc_As_usedFor_39 : decode bc_As_usedFor 39 = .ok (.lload_n 3, 1) := by decide +kernel
theorem dc_As_usedFor_40 : decode bc_As_usedFor 40 = .ok (.aload_n 0, 1) := by decide +kernel
theorem dc_As_usedFor_41 : decode bc_As_usedFor 41 = .ok (.getfield 9, 3) := by decide +kernel
theorem dc_As_usedFor_44 : decode bc_As_usedFor 44 = .ok (.iload 6, 2) := by decide +kernel
theorem dc_As_usedFor_46 : decode bc_As_usedFor 46 = .ok (.iaload, 1) := by decide +kernel
theorem dc_As_usedFor_47 : decode bc_As_usedFor 47 = .ok (.invokestatic 32, 3) := by decide +kernel
theorem dc_As_usedFor_50 : decode bc_As_usedFor 50 = .ok (.lor, 1) := by decide +kernel
theorem dc_As_usedFor_51 : decode bc_As_usedFor 51 = .ok (.lstore_n 3, 1) := by decide +kernel
theorem dc_As_usedFor_52 : decode bc_As_usedFor 52 = .ok (.iload 5, 2) := by decide +kernel
theorem dc_As_usedFor_54 : decode bc_As_usedFor 54 = .ok (.aload_n 2, 1) := by decide +kernel
theorem dc_As_usedFor_55 : decode bc_As_usedFor 55 = .ok (.aload_n 0, 1) := by decide +kernel
theorem dc_As_usedFor_56 : decode bc_As_usedFor 56 = .ok (.getfield 9, 3) := by decide +kernel
theorem dc_As_usedFor_59 : decode bc_As_usedFor 59 = .ok (.iload 6, 2) := by decide +kernel
theorem dc_As_usedFor_61 : decode bc_As_usedFor 61 = .ok (.iaload, 1) := by decide +kernel
theorem dc_As_usedFor_62 : decode bc_As_usedFor 62 = .ok (.iaload, 1) := by decide +kernel
theorem dc_As_usedFor_63 : decode bc_As_usedFor 63 = .ok (.ior, 1) := by decide +kernel
theorem dc_As_usedFor_64 : decode bc_As_usedFor 64 = .ok (.istore 5, 2) := by decide +kernel
theorem dc_As_usedFor_66 : decode bc_As_usedFor 66 = .ok (.iinc 6 (-1), 3) := by decide +kernel
theorem dc_As_usedFor_69 : decode bc_As_usedFor 69 = .ok (.goto (-51), 3) := by decide +kernel
theorem dc_As_usedFor_72 : decode bc_As_usedFor 72 = .ok (.lload_n 3, 1) := by decide +kernel
theorem dc_As_usedFor_73 : decode bc_As_usedFor 73 = .ok (.lreturn, 1) := by decide +kernel
theorem dc_Sp_forget_0 : decode bc_Sp_forget 0 = .ok (.aload_n 0, 1) := by decide +kernel
theorem dc_Sp_forget_1 : decode bc_Sp_forget 1 = .ok (.iconst 0, 1) := by decide +kernel
theorem dc_Sp_forget_2 : decode bc_Sp_forget 2 = .ok (.putfield 19, 3) := by decide +kernel
theorem dc_Sp_forget_5 : decode bc_Sp_forget 5 = .ok (.aload_n 0, 1) := by decide +kernel
theorem dc_Sp_forget_6 : decode bc_Sp_forget 6 = .ok (.iconst 1, 1) := by decide +kernel
theorem dc_Sp_forget_7 : decode bc_Sp_forget 7 = .ok (.putfield 23, 3) := by decide +kernel
theorem dc_Sp_forget_10 : decode bc_Sp_forget 10 = .ok (.return_, 1) := by decide +kernel
theorem dc_Sp_liveAfterAll_0 : decode bc_Sp_liveAfterAll 0 = .ok (.iload_n 1, 1) := by decide +kernel
theorem dc_Sp_liveAfterAll_1 : decode bc_Sp_liveAfterAll 1 = .ok (.invokestatic 33, 3) := by decide +kernel
theorem dc_Sp_liveAfterAll_4 : decode bc_Sp_liveAfterAll 4 = .ok (.lstore_n 2, 1) := by decide +kernel
theorem dc_Sp_liveAfterAll_5 : decode bc_Sp_liveAfterAll 5 = .ok (.iconst 1, 1) := by decide +kernel
theorem dc_Sp_liveAfterAll_6 : decode bc_Sp_liveAfterAll 6 = .ok (.istore 4, 2) := by decide +kernel
theorem dc_Sp_liveAfterAll_8 : decode bc_Sp_liveAfterAll 8 = .ok (.iload 4, 2) := by decide +kernel
theorem dc_Sp_liveAfterAll_10 : decode bc_Sp_liveAfterAll 10 = .ok (.aload_n 0, 1) := by decide +kernel
theorem dc_Sp_liveAfterAll_11 : decode bc_Sp_liveAfterAll 11 = .ok (.getfield 19, 3) := by decide +kernel
theorem dc_Sp_liveAfterAll_14 : decode bc_Sp_liveAfterAll 14 = .ok (.if_icmp .gt (51), 3) := by decide +kernel
theorem dc_Sp_liveAfterAll_17 : decode bc_Sp_liveAfterAll 17 = .ok (.aload_n 0, 1) := by decide +kernel
theorem dc_Sp_liveAfterAll_18 : decode bc_Sp_liveAfterAll 18 = .ok (.getfield 9, 3) := by decide +kernel
theorem dc_Sp_liveAfterAll_21 : decode bc_Sp_liveAfterAll 21 = .ok (.iload 4, 2) := by decide +kernel
theorem dc_Sp_liveAfterAll_23 : decode bc_Sp_liveAfterAll 23 = .ok (.baload, 1) := by decide +kernel
theorem dc_Sp_liveAfterAll_24 : decode bc_Sp_liveAfterAll 24 = .ok (.ifCond .eq (22), 3) := by decide +kernel
theorem dc_Sp_liveAfterAll_27 : decode bc_Sp_liveAfterAll 27 = .ok (.lload_n 2, 1) := by decide +kernel
theorem dc_Sp_liveAfterAll_28 : decode bc_Sp_liveAfterAll 28 = .ok (.aload_n 0, 1) := by decide +kernel
theorem dc_Sp_liveAfterAll_29 : decode bc_Sp_liveAfterAll 29 = .ok (.getfield 15, 3) := by decide +kernel
theorem dc_Sp_liveAfterAll_32 : decode bc_Sp_liveAfterAll 32 = .ok (.iload 4, 2) := by decide +kernel
theorem dc_Sp_liveAfterAll_34 : decode bc_Sp_liveAfterAll 34 = .ok (.iaload, 1) := by decide +kernel
theorem dc_Sp_liveAfterAll_35 : decode bc_Sp_liveAfterAll 35 = .ok (.invokestatic 51, 3) := by decide +kernel
theorem dc_Sp_liveAfterAll_38 : decode bc_Sp_liveAfterAll 38 = .ok (.ldc2_w 54, 3) := by decide +kernel
theorem dc_Sp_liveAfterAll_41 : decode bc_Sp_liveAfterAll 41 = .ok (.lxor, 1) := by decide +kernel
theorem dc_Sp_liveAfterAll_42 : decode bc_Sp_liveAfterAll 42 = .ok (.land, 1) := by decide +kernel
theorem dc_Sp_liveAfterAll_43 : decode bc_Sp_liveAfterAll 43 = .ok (.goto (15), 3) := by decide +kernel
theorem dc_Sp_liveAfterAll_46 : decode bc_Sp_liveAfterAll 46 = .ok (.lload_n 2, 1) := by decide +kernel
theorem dc_Sp_liveAfterAll_47 : decode bc_Sp_liveAfterAll 47 = .ok (.aload_n 0, 1) := by decide +kernel
theorem dc_Sp_liveAfterAll_48 : decode bc_Sp_liveAfterAll 48 = .ok (.getfield 15, 3) := by decide +kernel
theorem dc_Sp_liveAfterAll_51 : decode bc_Sp_liveAfterAll 51 = .ok (.iload 4, 2) := by decide +kernel
theorem dc_Sp_liveAfterAll_53 : decode bc_Sp_liveAfterAll 53 = .ok (.iaload, 1) := by decide +kernel
theorem dc_Sp_liveAfterAll_54 : decode bc_Sp_liveAfterAll 54 = .ok (.invokestatic 51, 3) := by decide +kernel
theorem dc_Sp_liveAfterAll_57 : decode bc_Sp_liveAfterAll 57 = .ok (.lor, 1) := by decide +kernel
theorem dc_Sp_liveAfterAll_58 : decode bc_Sp_liveAfterAll 58 = .ok (.lstore_n 2, 1) := by decide +kernel
theorem dc_Sp_liveAfterAll_59 : decode bc_Sp_liveAfterAll 59 = .ok (.iinc 4 (1), 3) := by decide +kernel
theorem dc_Sp_liveAfterAll_62 : decode bc_Sp_liveAfterAll 62 = .ok (.goto (-54), 3) := by decide +kernel
theorem dc_Sp_liveAfterAll_65 : decode bc_Sp_liveAfterAll 65 = .ok (.lload_n 2, 1) := by decide +kernel
theorem dc_Sp_liveAfterAll_66 : decode bc_Sp_liveAfterAll 66 = .ok (.lreturn, 1) := by decide +kernel
set_option maxHeartbeats 4000000 in
set_option maxRecDepth 100000 in
theorem ct_As_restart (l : Launch) (D : va_G) (cI cZ : ClassId) (sz : Nat) (o : Nat) (qa : Nat) (qb : Nat) (n : Nat) (t : Nat) (f : Nat) (x : Nat) (k : Nat) (hx16 : x < 65536) : Met l yn_As_restart (Cond.code yn_As_restart bc_As_restart 3 none :: kx_all) ({ frames := 1, cells := 0, slots := 0, locals := 20 } : Room) (kp [.ref o, .int (nI x), .int (nI k)] D cI cZ [as_c o qa qb n t f] sz) (kw_q none D kc_l [as_c o qa qb k x (nb_op x)] (va_A [as_c o qa qb n t f] sz)) 0 0 (va_A [as_c o qa qb n t f] sz) := by
  refine kx_metW (by decide) (Nat.le_of_ble_eq_true rfl) ?_
  intro p e s m below meth c ls A hx hb hr hml hts hown hlocks hin hA hP hK hD hN hl hS
  have hown : s.vm.findClass rn_As = some m.cls := hown
  have hl : lv_has ls 3 [(0, .ref o), (1, .int (nI x)), (2, .int (nI k))] := hl
  refine lv_aload_n hx hb dc_As_restart_0 rfl (lv_at hl 0 rfl) ?_
  refine lv_iload_n hx hb dc_As_restart_1 rfl (lv_at hl 1 rfl) ?_
  refine va_put (ci := 6) (v := .int (nI x)) (ty := .int) (C := rn_As) (T := fd_As) (N := 5) hx hb hts in_As ty_As tk_As nm_As hown hK hP hD hS 0 rfl rfl 3 (by decide) (hts _ wd_169) (fun _ h9 => h9) rfl (by decide +kernel) rfl rfl (Nat.le_of_ble_eq_true rfl) dc_As_restart_2 (fun H locs hP hD hS => ?_)
  have hP : va_P D kc_l [as_c o qa qb n x f] H := hP
  have hD : va_D A [as_c o qa qb n x f] := hD
  refine lv_aload_n hx hb dc_As_restart_5 rfl (lv_at hl 0 rfl) ?_
  refine lv_iload_n hx hb dc_As_restart_6 rfl (lv_at hl 1 rfl) ?_
  refine kr_call1 (va_runSN (As := [.int (nI x)]) (rest := [.ref o]) ⟨hx, hb, hml, hown, hts⟩ (ct_Pt_opposites l D cI cZ _ x (hx16)) ⟨va_cnB 1 hts (kx_gi wd_613) rfl rfl rfl (nw_619 hN) (hts _ wd_1) yd_Pt_opposites ⟨Nat.le_of_ble_eq_true rfl, Nat.le_of_ble_eq_true rfl⟩, hts _ wd_612, trivial⟩ (kp_S hP hD hK hN [] rfl rfl) rfl rfl hl.1 rfl (lv_room (Nat.le_of_ble_eq_true rfl)) dc_As_restart_7 ⟨Nat.le_of_ble_eq_true rfl, Nat.le_of_ble_eq_true rfl⟩) ?_
  refine va_put (ci := 6) (v := .int (nI (nb_op x))) (ty := .int) (C := rn_As) (T := fd_As) (N := 5) hx hb hts in_As ty_As tk_As nm_As hown hK hP hD hS 0 rfl rfl 4 (by decide) (hts _ wd_172) (fun _ h9 => h9) rfl (by decide +kernel) rfl rfl (Nat.le_of_ble_eq_true rfl) dc_As_restart_10 (fun H locs hP hD hS => ?_)
  have hP : va_P D kc_l [as_c o qa qb n x (nb_op x)] H := hP
  have hD : va_D A [as_c o qa qb n x (nb_op x)] := hD
  refine lv_aload_n hx hb dc_As_restart_13 rfl (lv_at hl 0 rfl) ?_
  refine lv_iload_n hx hb dc_As_restart_14 rfl (lv_at hl 2 rfl) ?_
  refine va_put (ci := 6) (v := .int (nI k)) (ty := .int) (C := rn_As) (T := fd_As) (N := 5) hx hb hts in_As ty_As tk_As nm_As hown hK hP hD hS 0 rfl rfl 2 (by decide) (hts _ wd_167) (fun _ h9 => h9) rfl (by decide +kernel) rfl rfl (Nat.le_of_ble_eq_true rfl) dc_As_restart_15 (fun H locs hP hD hS => ?_)
  have hP : va_P D kc_l [as_c o qa qb k x (nb_op x)] H := hP
  have hD : va_D A [as_c o qa qb k x (nb_op x)] := hD
  exact kw_vret hx hb hr hlocks hP hD hS dc_As_restart_18 (rfl)

set_option maxHeartbeats 4000000 in
set_option maxRecDepth 100000 in
theorem ct_As_isReady (l : Launch) (D : va_G) (cI cZ : ClassId) (sz : Nat) (o : Nat) (qa : Nat) (qb : Nat) (n : Nat) (t : Nat) (f : Nat) (x : Nat) (hx16 : x < 65536) : Met l yn_As_isReady (Cond.code yn_As_isReady bc_As_isReady 3 (some .boolean) :: kx_all) ({ frames := 0, cells := 0, slots := 0, locals := 0 } : Room) (kp [.ref o, .int (nI x)] D cI cZ [as_c o qa qb n t f] sz) (kr_q (some (.int (kb_i (pt_rdy x t f))))) 0 0 (fun _ => False) := by
  refine kx_met (by decide) (Nat.le_of_ble_eq_true rfl) ?_
  intro p e s m below meth c ls hx hb hr hml hts hown hlocks hin hsz hP hK hD hN hl
  have hown : s.vm.findClass rn_As = some m.cls := hown
  have hl : lv_has ls 3 [(0, .ref o), (1, .int (nI x))] := hl
  have hy16 : nb_d x f < 65536 := nb_d_lt (n := 16) hx16
  refine lv_iload_n hx hb dc_As_isReady_0 rfl (lv_at hl 1 rfl) ?_
  refine lv_aload_n hx hb dc_As_isReady_1 rfl (lv_at hl 0 rfl) ?_
  refine va_get (ci := 6) (v := .int (nI f)) (C := rn_As) (T := fd_As) (N := 5) hx hb hts in_As hown hK hP 0 rfl rfl 4 (by decide) (hts _ wd_172) (fun _ h9 => h9) rfl dc_As_isReady_2 ?_
  refine lv_iconst (v := (-1)) hx hb dc_As_isReady_5 (by decide +kernel) ?_
  refine lv_ixor hx hb dc_As_isReady_6 ?_
  refine kn_inot hx hb dc_As_isReady_7 ?_
  refine lv_istore_n (lv' := [(2, .int (nI (nb_d x f))), (0, .ref o), (1, .int (nI x))]) hx hb dc_As_isReady_8 rfl hl (by decide) rfl (fun ls hl => ?_)
  refine lv_iload_n hx hb dc_As_isReady_9 rfl (lv_at hl 2 rfl) ?_
  refine lv_aload_n hx hb dc_As_isReady_10 rfl (lv_at hl 1 rfl) ?_
  refine va_get (ci := 6) (v := .int (nI t)) (C := rn_As) (T := fd_As) (N := 5) hx hb hts in_As hown hK hP 0 rfl rfl 3 (by decide) (hts _ wd_169) (fun _ h9 => h9) rfl dc_As_isReady_11 ?_
  refine kn_iand hx hb dc_As_isReady_14 ?_
  refine kn_if_ne hx hb (Nat.lt_of_le_of_lt Nat.and_le_left (Nat.lt_trans hx16 (by decide))) dc_As_isReady_15 rfl (fun hc15 => ?_) (fun hc15 => ?_)
  · refine lv_iconst (v := nI 0) hx hb dc_As_isReady_30 (by decide +kernel) ?_
    refine kn_top (y := kb_i false) (by decide +kernel) ?_
    exact kr_zret hx hb hr hlocks dc_As_isReady_31 (by rw [pt_rdy, decide_eq_false hc15]; rfl)
  · refine lv_iload_n hx hb dc_As_isReady_18 rfl (lv_at hl 0 rfl) ?_
    refine lv_iload_n hx hb dc_As_isReady_19 rfl (lv_at hl 0 rfl) ?_
    refine lv_iconst (v := nI 1) hx hb dc_As_isReady_20 (by decide +kernel) ?_
    refine lv_isub hx hb dc_As_isReady_21 ?_
    refine lv_iand hx hb dc_As_isReady_22 ?_
    refine lv_if_ne hx hb dc_As_isReady_23 rfl (fun hc23 => ?_) (fun hc23 => ?_)
    · refine lv_iconst (v := nI 0) hx hb dc_As_isReady_30 (by decide +kernel) ?_
      refine kn_top (y := kb_i false) (by decide +kernel) ?_
      exact kr_zret hx hb hr hlocks dc_As_isReady_31 (by rw [pt_rdy, decide_eq_false (fun q => hc23 ((nb_one_i hy16).mpr q)), Bool.and_false])
    · refine lv_iconst (v := nI 1) hx hb dc_As_isReady_26 (by decide +kernel) ?_
      refine lv_goto hx hb dc_As_isReady_27 rfl ?_
      refine kn_top (y := kb_i true) (by decide +kernel) ?_
      exact kr_zret hx hb hr hlocks dc_As_isReady_31 (by rw [pt_rdy, decide_eq_true hc15, decide_eq_true ((nb_one_i hy16).mp hc23)]; rfl)

set_option maxHeartbeats 4000000 in
set_option maxRecDepth 100000 in
theorem ct_As_follow (l : Launch) (D : va_G) (cI cZ : ClassId) (sz : Nat) (o : Nat) (qa : Nat) (qb : Nat) (n : Nat) (t : Nat) (f : Nat) (rs : Nat → Nat) (im : Nat → Nat) (x : Nat) (r : Nat) (hx16 : x < 65536) (hy0 : ¬ nb_d x f = 0) (hn8 : n < 8) : Met l yn_As_follow (Cond.code yn_As_follow bc_As_follow 4 (some .boolean) :: kx_all) ({ frames := 1, cells := 0, slots := 0, locals := 20 } : Room) (kp [.ref o, .int (nI x), .int (nI r)] D cI cZ [as_c o qa qb n t f, ar_n cI qa 8 rs, ar_n cI qb 8 im] sz) (kw_q (some (.int (kb_i true))) D kc_l [as_c o qa qb (n + 1) (t ||| nb_d x f) (f ||| nb_op (nb_d x f)), ar_n cI qa 8 (va_up rs n r), ar_n cI qb 8 (va_up im n (nb_d x f))] (va_A [as_c o qa qb n t f, ar_n cI qa 8 rs, ar_n cI qb 8 im] sz)) 0 0 (va_A [as_c o qa qb n t f, ar_n cI qa 8 rs, ar_n cI qb 8 im] sz) := by
  refine kx_metW (by decide) (Nat.le_of_ble_eq_true rfl) ?_
  intro p e s m below meth c ls A hx hb hr hml hts hown hlocks hin hA hP hK hD hN hl hS
  have hown : s.vm.findClass rn_As = some m.cls := hown
  have hl : lv_has ls 4 [(0, .ref o), (1, .int (nI x)), (2, .int (nI r))] := hl
  have hy16 : nb_d x f < 65536 := nb_d_lt (n := 16) hx16
  refine lv_iload_n hx hb dc_As_follow_0 rfl (lv_at hl 1 rfl) ?_
  refine lv_aload_n hx hb dc_As_follow_1 rfl (lv_at hl 0 rfl) ?_
  refine va_get (ci := 6) (v := .int (nI f)) (C := rn_As) (T := fd_As) (N := 5) hx hb hts in_As hown hK hP 0 rfl rfl 4 (by decide) (hts _ wd_172) (fun _ h9 => h9) rfl dc_As_follow_2 ?_
  refine lv_iconst (v := (-1)) hx hb dc_As_follow_5 (by decide +kernel) ?_
  refine lv_ixor hx hb dc_As_follow_6 ?_
  refine kn_inot hx hb dc_As_follow_7 ?_
  refine lv_istore_n (lv' := [(3, .int (nI (nb_d x f))), (0, .ref o), (1, .int (nI x)), (2, .int (nI r))]) hx hb dc_As_follow_8 rfl hl (by decide) rfl (fun ls hl => ?_)
  refine lv_iload_n hx hb dc_As_follow_9 rfl (lv_at hl 0 rfl) ?_
  refine kn_if_eq hx hb (Nat.lt_trans hy16 (by decide)) dc_As_follow_10 rfl (fun hc10 => ?_) (fun hc10 => ?_)
  · exact absurd hc10 hy0
  · refine lv_aload_n hx hb dc_As_follow_13 rfl (lv_at hl 1 rfl) ?_
    refine va_get (ci := 6) (v := .int (nI n)) (C := rn_As) (T := fd_As) (N := 5) hx hb hts in_As hown hK hP 0 rfl rfl 2 (by decide) (hts _ wd_167) (fun _ h9 => h9) rfl dc_As_follow_14 ?_
    refine lv_bipush (v := nI 8) hx hb dc_As_follow_17 (by decide +kernel) ?_
    refine kn_icmp_lt hx hb (by omega) (by omega) dc_As_follow_19 rfl (fun hc19 => ?_) (fun hc19 => ?_)
    · refine lv_aload_n hx hb dc_As_follow_24 rfl (lv_at hl 1 rfl) ?_
      refine lv_dup hx hb dc_As_follow_25 rfl ?_
      refine va_get (ci := 6) (v := .int (nI t)) (C := rn_As) (T := fd_As) (N := 5) hx hb hts in_As hown hK hP 0 rfl rfl 3 (by decide) (hts _ wd_169) (fun _ h9 => h9) rfl dc_As_follow_26 ?_
      refine lv_iload_n hx hb dc_As_follow_29 rfl (lv_at hl 0 rfl) ?_
      refine kn_ior hx hb dc_As_follow_30 ?_
      refine va_put (ci := 6) (v := .int (nI (t ||| (nb_d x f)))) (ty := .int) (C := rn_As) (T := fd_As) (N := 5) hx hb hts in_As ty_As tk_As nm_As hown hK hP hD hS 0 rfl rfl 3 (by decide) (hts _ wd_169) (fun _ h9 => h9) rfl (by decide +kernel) rfl rfl (Nat.le_of_ble_eq_true rfl) dc_As_follow_31 (fun H locs hP hD hS => ?_)
      have hP : va_P D kc_l [as_c o qa qb n (t ||| (nb_d x f)) f, ar_n cI qa 8 rs, ar_n cI qb 8 im] H := hP
      have hD : va_D A [as_c o qa qb n (t ||| (nb_d x f)) f, ar_n cI qa 8 rs, ar_n cI qb 8 im] := hD
      refine lv_aload_n hx hb dc_As_follow_34 rfl (lv_at hl 1 rfl) ?_
      refine lv_dup hx hb dc_As_follow_35 rfl ?_
      refine va_get (ci := 6) (v := .int (nI f)) (C := rn_As) (T := fd_As) (N := 5) hx hb hts in_As hown hK hP 0 rfl rfl 4 (by decide) (hts _ wd_172) (fun _ h9 => h9) rfl dc_As_follow_36 ?_
      refine lv_iload_n hx hb dc_As_follow_39 rfl (lv_at hl 0 rfl) ?_
      refine kr_call1 (va_runSN (As := [.int (nI (nb_d x f))]) (rest := [.int (nI f), .ref o]) ⟨hx, hb, hml, hown, hts⟩ (ct_Pt_opposites l D cI cZ _ (nb_d x f) (hy16)) ⟨va_cnB 1 hts (kx_gi wd_613) rfl rfl rfl (nw_619 hN) (hts _ wd_1) yd_Pt_opposites ⟨Nat.le_of_ble_eq_true rfl, Nat.le_of_ble_eq_true rfl⟩, hts _ wd_612, trivial⟩ (kp_S hP hD hK hN [] rfl rfl) rfl rfl hl.1 rfl (lv_room (Nat.le_of_ble_eq_true rfl)) dc_As_follow_40 ⟨Nat.le_of_ble_eq_true rfl, Nat.le_of_ble_eq_true rfl⟩) ?_
      refine kn_ior hx hb dc_As_follow_43 ?_
      refine va_put (ci := 6) (v := .int (nI (f ||| (nb_op (nb_d x f))))) (ty := .int) (C := rn_As) (T := fd_As) (N := 5) hx hb hts in_As ty_As tk_As nm_As hown hK hP hD hS 0 rfl rfl 4 (by decide) (hts _ wd_172) (fun _ h9 => h9) rfl (by decide +kernel) rfl rfl (Nat.le_of_ble_eq_true rfl) dc_As_follow_44 (fun H locs hP hD hS => ?_)
      have hP : va_P D kc_l [as_c o qa qb n (t ||| (nb_d x f)) (f ||| (nb_op (nb_d x f))), ar_n cI qa 8 rs, ar_n cI qb 8 im] H := hP
      have hD : va_D A [as_c o qa qb n (t ||| (nb_d x f)) (f ||| (nb_op (nb_d x f))), ar_n cI qa 8 rs, ar_n cI qb 8 im] := hD
      refine lv_aload_n hx hb dc_As_follow_47 rfl (lv_at hl 1 rfl) ?_
      refine va_get (ci := 6) (v := .ref qa) (C := rn_As) (T := fd_As) (N := 5) hx hb hts in_As hown hK hP 0 rfl rfl 0 (by decide) (hts _ wd_164) (fun _ h9 => h9) rfl dc_As_follow_48 ?_
      refine lv_aload_n hx hb dc_As_follow_51 rfl (lv_at hl 1 rfl) ?_
      refine va_get (ci := 6) (v := .int (nI n)) (C := rn_As) (T := fd_As) (N := 5) hx hb hts in_As hown hK hP 0 rfl rfl 2 (by decide) (hts _ wd_167) (fun _ h9 => h9) rfl dc_As_follow_52 ?_
      refine lv_iload_n hx hb dc_As_follow_55 rfl (lv_at hl 3 rfl) ?_
      refine ka_nast (t := rs) hx hb hK hP hD hS 1 0 rfl rfl (j := n) (by omega) (by omega) dc_As_follow_56 (ws' := [as_c o qa qb n (t ||| (nb_d x f)) (f ||| (nb_op (nb_d x f))), ar_n cI qa 8 (va_up rs n r), ar_n cI qb 8 im]) rfl (fun H locs hP hD hS => ?_)
      refine lv_aload_n hx hb dc_As_follow_57 rfl (lv_at hl 1 rfl) ?_
      refine va_get (ci := 6) (v := .ref qb) (C := rn_As) (T := fd_As) (N := 5) hx hb hts in_As hown hK hP 0 rfl rfl 1 (by decide) (hts _ wd_166) (fun _ h9 => h9) rfl dc_As_follow_58 ?_
      refine lv_aload_n hx hb dc_As_follow_61 rfl (lv_at hl 1 rfl) ?_
      refine va_get (ci := 6) (v := .int (nI n)) (C := rn_As) (T := fd_As) (N := 5) hx hb hts in_As hown hK hP 0 rfl rfl 2 (by decide) (hts _ wd_167) (fun _ h9 => h9) rfl dc_As_follow_62 ?_
      refine lv_iload_n hx hb dc_As_follow_65 rfl (lv_at hl 0 rfl) ?_
      refine ka_nast (t := im) hx hb hK hP hD hS 2 0 rfl rfl (j := n) (by omega) (by omega) dc_As_follow_66 (ws' := [as_c o qa qb n (t ||| (nb_d x f)) (f ||| (nb_op (nb_d x f))), ar_n cI qa 8 (va_up rs n r), ar_n cI qb 8 (va_up im n (nb_d x f))]) rfl (fun H locs hP hD hS => ?_)
      refine lv_aload_n hx hb dc_As_follow_67 rfl (lv_at hl 1 rfl) ?_
      refine lv_dup hx hb dc_As_follow_68 rfl ?_
      refine va_get (ci := 6) (v := .int (nI n)) (C := rn_As) (T := fd_As) (N := 5) hx hb hts in_As hown hK hP 0 rfl rfl 2 (by decide) (hts _ wd_167) (fun _ h9 => h9) rfl dc_As_follow_69 ?_
      refine lv_iconst (v := nI 1) hx hb dc_As_follow_72 (by decide +kernel) ?_
      refine kn_iadd hx hb dc_As_follow_73 ?_
      refine va_put (ci := 6) (v := .int (nI (n + 1))) (ty := .int) (C := rn_As) (T := fd_As) (N := 5) hx hb hts in_As ty_As tk_As nm_As hown hK hP hD hS 0 rfl rfl 2 (by decide) (hts _ wd_167) (fun _ h9 => h9) rfl (by decide +kernel) rfl rfl (Nat.le_of_ble_eq_true rfl) dc_As_follow_74 (fun H locs hP hD hS => ?_)
      have hP : va_P D kc_l [as_c o qa qb (n + 1) (t ||| (nb_d x f)) (f ||| (nb_op (nb_d x f))), ar_n cI qa 8 (va_up rs n r), ar_n cI qb 8 (va_up im n (nb_d x f))] H := hP
      have hD : va_D A [as_c o qa qb (n + 1) (t ||| (nb_d x f)) (f ||| (nb_op (nb_d x f))), ar_n cI qa 8 (va_up rs n r), ar_n cI qb 8 (va_up im n (nb_d x f))] := hD
      refine lv_iconst (v := nI 1) hx hb dc_As_follow_77 (by decide +kernel) ?_
      refine kn_top (y := kb_i true) (by decide +kernel) ?_
      exact kw_zret hx hb hr hlocks hP hD hS dc_As_follow_78 (rfl) (rfl)
    · exfalso; omega

set_option maxHeartbeats 4000000 in
set_option maxRecDepth 100000 in
theorem ct_As_follow_no (l : Launch) (D : va_G) (cI cZ : ClassId) (sz : Nat) (o : Nat) (qa : Nat) (qb : Nat) (n : Nat) (t : Nat) (f : Nat) (x : Nat) (r : Nat) (hx16 : x < 65536) (hy0 : nb_d x f = 0) : Met l yn_As_follow (Cond.code yn_As_follow bc_As_follow 4 (some .boolean) :: kx_all) ({ frames := 0, cells := 0, slots := 0, locals := 0 } : Room) (kp [.ref o, .int (nI x), .int (nI r)] D cI cZ [as_c o qa qb n t f] sz) (kr_q (some (.int (kb_i false)))) 0 0 (fun _ => False) := by
  refine kx_met (by decide) (Nat.le_of_ble_eq_true rfl) ?_
  intro p e s m below meth c ls hx hb hr hml hts hown hlocks hin hsz hP hK hD hN hl
  have hown : s.vm.findClass rn_As = some m.cls := hown
  have hl : lv_has ls 4 [(0, .ref o), (1, .int (nI x)), (2, .int (nI r))] := hl
  have hy16 : nb_d x f < 65536 := nb_d_lt (n := 16) hx16
  refine lv_iload_n hx hb dc_As_follow_0 rfl (lv_at hl 1 rfl) ?_
  refine lv_aload_n hx hb dc_As_follow_1 rfl (lv_at hl 0 rfl) ?_
  refine va_get (ci := 6) (v := .int (nI f)) (C := rn_As) (T := fd_As) (N := 5) hx hb hts in_As hown hK hP 0 rfl rfl 4 (by decide) (hts _ wd_172) (fun _ h9 => h9) rfl dc_As_follow_2 ?_
  refine lv_iconst (v := (-1)) hx hb dc_As_follow_5 (by decide +kernel) ?_
  refine lv_ixor hx hb dc_As_follow_6 ?_
  refine kn_inot hx hb dc_As_follow_7 ?_
  refine lv_istore_n (lv' := [(3, .int (nI (nb_d x f))), (0, .ref o), (1, .int (nI x)), (2, .int (nI r))]) hx hb dc_As_follow_8 rfl hl (by decide) rfl (fun ls hl => ?_)
  refine lv_iload_n hx hb dc_As_follow_9 rfl (lv_at hl 0 rfl) ?_
  refine kn_if_eq hx hb (Nat.lt_trans hy16 (by decide)) dc_As_follow_10 rfl (fun hc10 => ?_) (fun hc10 => ?_)
  · refine lv_iconst (v := nI 0) hx hb dc_As_follow_22 (by decide +kernel) ?_
    refine kn_top (y := kb_i false) (by decide +kernel) ?_
    exact kr_zret hx hb hr hlocks dc_As_follow_23 (rfl)
  · exact absurd hy0 hc10

set_option maxHeartbeats 4000000 in
set_option maxRecDepth 100000 in
theorem ct_As_usedFor (l : Launch) (D : va_G) (cI cZ : ClassId) (sz : Nat) (o : Nat) (qa : Nat) (qb : Nat) (n : Nat) (t : Nat) (f : Nat) (rs : Nat → Nat) (im : Nat → Nat) (j : Nat) (qs : Nat) (N : Nat) (fs : Nat → Nat) (hjN : j < N) (hN33 : N ≤ 33) (hn8 : n ≤ 8) (hri : ∀ k, k < n → rs k < N ∧ im k < 65536) : Met l yn_As_usedFor (Cond.code yn_As_usedFor bc_As_usedFor 7 (some .long) :: kx_all) ({ frames := 1, cells := 0, slots := 0, locals := 20 } : Room) (kp [.ref o, .int (nI j), .ref qs] D cI cZ [as_c o qa qb n t f, ar_n cI qa 8 rs, ar_n cI qb 8 im, ar_n cI qs N fs] sz) (kr_q (some (.long (lN (pt_used fs rs im n (2 ^ j) (fs j)))))) 0 0 (fun _ => False) := by
  refine kx_met (by decide) (Nat.le_of_ble_eq_true rfl) ?_
  intro p e s m below meth c ls hx hb hr hml hts hown hlocks hin hsz hP hK hD hN hl
  have hown : s.vm.findClass rn_As = some m.cls := hown
  have hl : lv_has ls 7 [(0, .ref o), (1, .int (nI j)), (2, .ref qs)] := hl
  refine lv_iload_n hx hb dc_As_usedFor_0 rfl (lv_at hl 1 rfl) ?_
  refine kr_call1 (va_runSN (As := [.int (nI j)]) (rest := []) ⟨hx, hb, hml, hown, hts⟩ (ct_Pt_one l D cI cZ _ j (by omega)) ⟨va_cnB 1 hts (kx_gi wd_559) rfl rfl rfl (nw_644 hN) (hts _ wd_1) yd_Pt_one ⟨Nat.le_of_ble_eq_true rfl, Nat.le_of_ble_eq_true rfl⟩, hts _ wd_558, trivial⟩ (kp_S hP hD hK hN [] rfl rfl) rfl rfl hl.1 rfl (lv_room (Nat.le_of_ble_eq_true rfl)) dc_As_usedFor_1 ⟨Nat.le_of_ble_eq_true rfl, Nat.le_of_ble_eq_true rfl⟩) ?_
  refine lv_lstore_n (lv' := [(3, .long (lN (2 ^ j))), (0, .ref o), (1, .int (nI j)), (2, .ref qs)]) hx hb dc_As_usedFor_4 rfl hl (by decide) rfl (fun ls hl => ?_)
  refine lv_aload_n hx hb dc_As_usedFor_5 rfl (lv_at hl 3 rfl) ?_
  refine lv_iload_n hx hb dc_As_usedFor_6 rfl (lv_at hl 2 rfl) ?_
  refine ka_nald (t := fs) hx hb hK hP 3 0 rfl rfl (j := j) (by omega) (by omega) dc_As_usedFor_7 ?_
  refine lv_istore (lv' := [(5, .int (nI (fs j))), (3, .long (lN (2 ^ j))), (0, .ref o), (1, .int (nI j)), (2, .ref qs)]) hx hb dc_As_usedFor_8 hl (by decide) rfl (fun ls hl => ?_)
  refine lv_aload_n hx hb dc_As_usedFor_10 rfl (lv_at hl 2 rfl) ?_
  refine va_get (ci := 6) (v := .int (nI n)) (C := rn_As) (T := fd_As) (N := 5) hx hb hts in_As hown hK hP 0 rfl rfl 2 (by decide) (hts _ wd_167) (fun _ h9 => h9) rfl dc_As_usedFor_11 ?_
  refine lv_iconst (v := nI 1) hx hb dc_As_usedFor_14 (by decide +kernel) ?_
  refine lv_isub hx hb dc_As_usedFor_15 ?_
  refine kn_top (y := pt_dn n) rfl ?_
  refine lv_istore (lv' := [(6, .int (pt_dn n)), (5, .int (nI (fs j))), (3, .long (lN (2 ^ j))), (0, .ref o), (1, .int (nI j)), (2, .ref qs)]) hx hb dc_As_usedFor_16 hl (by decide) rfl (fun ls hl => ?_)
  have lp_18 : ∀ (K : Nat) (k : Nat) (u : Nat) (lk : Nat) (ls : Array Slot), k < K → lv_has ls 7 [(6, .int (pt_dn k)), (5, .int (nI lk)), (3, .long (lN u)), (0, .ref o), (1, .int (nI j)), (2, .ref qs)] → (pt_used fs rs im k u lk = pt_used fs rs im n (2 ^ j) (fs j)) → (k ≤ n) → W p l e ({ frames := 1, cells := 0, slots := 0, locals := 20 } : Room) s m ([.ref o, .int (nI j), .ref qs] : List Value).toArray below meth c s.heap [] 0 0 (MQ below (kr_q (some (.long (lN (pt_used fs rs im n (2 ^ j) (fs j)))))) ([.ref o, .int (nI j), .ref qs] : List Value).toArray s 0 0 (fun _ => False)) (F0 m 18 ls []) := by
    intro K
    induction K with
    | zero =>
      intro k u lk ls hk
      exact absurd hk (Nat.not_lt_zero _)
    | succ K ih =>
      intro k u lk ls hk hl h1 h2
      refine lv_iload hx hb dc_As_usedFor_18 (lv_at hl 0 rfl) ?_
      refine lv_if_lt hx hb dc_As_usedFor_20 rfl (fun hc20 => ?_) (fun hc20 => ?_)
      · refine lv_lload_n hx hb dc_As_usedFor_72 rfl (lv_at hl 2 rfl) ?_
        exact kr_lret hx hb hr hlocks dc_As_usedFor_73 (by rw [← h1, show k = 0 from (pt_dn_p (by omega)).mp hc20]; rfl)
      · obtain ⟨q, rfl⟩ : ∃ q, k = q + 1 := ⟨k - 1, by have h9 : ¬ k = 0 := fun h8 => hc20 ((pt_dn_p (k := k) (by omega)).mpr h8); omega⟩
        rw [pt_dn_s] at hl
        refine lv_iload hx hb dc_As_usedFor_23 (lv_at hl 1 rfl) ?_
        refine lv_aload_n hx hb dc_As_usedFor_25 rfl (lv_at hl 3 rfl) ?_
        refine va_get (ci := 6) (v := .ref qb) (C := rn_As) (T := fd_As) (N := 5) hx hb hts in_As hown hK hP 0 rfl rfl 1 (by decide) (hts _ wd_166) (fun _ h9 => h9) rfl dc_As_usedFor_26 ?_
        refine lv_iload hx hb dc_As_usedFor_29 (lv_at hl 0 rfl) ?_
        refine ka_nald (t := im) hx hb hK hP 2 0 rfl rfl (j := q) (by omega) (by omega) dc_As_usedFor_31 ?_
        refine kr_call1 (va_runSN (As := [.int (nI (im q))]) (rest := [.int (nI lk)]) ⟨hx, hb, hml, hown, hts⟩ (ct_Pt_opposites l D cI cZ _ (im q) ((hri q (by omega)).2)) ⟨va_cnB 1 hts (kx_gi wd_613) rfl rfl rfl (nw_619 hN) (hts _ wd_1) yd_Pt_opposites ⟨Nat.le_of_ble_eq_true rfl, Nat.le_of_ble_eq_true rfl⟩, hts _ wd_612, trivial⟩ (kp_S hP hD hK hN [] rfl rfl) rfl rfl hl.1 rfl (lv_room (Nat.le_of_ble_eq_true rfl)) dc_As_usedFor_32 ⟨Nat.le_of_ble_eq_true rfl, Nat.le_of_ble_eq_true rfl⟩) ?_
        refine kn_iand hx hb dc_As_usedFor_35 ?_
        refine kn_if_eq hx hb (Nat.lt_of_le_of_lt Nat.and_le_right (Nat.lt_trans (nb_op_lt (hri q (by omega)).2) (by decide))) dc_As_usedFor_36 rfl (fun hc36 => ?_) (fun hc36 => ?_)
        · refine lv_iinc (k := 0) (v := pt_dn q) (lv' := [(6, .int (pt_dn q)), (5, .int (nI lk)), (3, .long (lN u)), (0, .ref o), (1, .int (nI j)), (2, .ref qs)]) hx hb dc_As_usedFor_66 hl rfl (pt_dn_i _) (by decide) rfl (fun ls hl => ?_)
          refine lv_goto hx hb dc_As_usedFor_69 rfl ?_
          exact ih _ _ _ _ (by omega) hl (by rw [← h1, pt_used, if_pos hc36]) (by omega)
        · refine lv_lload_n hx hb dc_As_usedFor_39 rfl (lv_at hl 2 rfl) ?_
          refine lv_aload_n hx hb dc_As_usedFor_40 rfl (lv_at hl 3 rfl) ?_
          refine va_get (ci := 6) (v := .ref qa) (C := rn_As) (T := fd_As) (N := 5) hx hb hts in_As hown hK hP 0 rfl rfl 0 (by decide) (hts _ wd_164) (fun _ h9 => h9) rfl dc_As_usedFor_41 ?_
          refine lv_iload hx hb dc_As_usedFor_44 (lv_at hl 0 rfl) ?_
          refine ka_nald (t := rs) hx hb hK hP 1 0 rfl rfl (j := q) (by omega) (by omega) dc_As_usedFor_46 ?_
          refine kr_call1 (va_runSN (As := [.int (nI (rs q))]) (rest := [.long (lN u)]) ⟨hx, hb, hml, hown, hts⟩ (ct_Pt_one l D cI cZ _ (rs q) (by have := (hri q (by omega)).1; omega)) ⟨va_cnB 1 hts (kx_gi wd_559) rfl rfl rfl (nw_644 hN) (hts _ wd_1) yd_Pt_one ⟨Nat.le_of_ble_eq_true rfl, Nat.le_of_ble_eq_true rfl⟩, hts _ wd_558, trivial⟩ (kp_S hP hD hK hN [] rfl rfl) rfl rfl hl.1 rfl (lv_room (Nat.le_of_ble_eq_true rfl)) dc_As_usedFor_47 ⟨Nat.le_of_ble_eq_true rfl, Nat.le_of_ble_eq_true rfl⟩) ?_
          refine kl_lor hx hb dc_As_usedFor_50 ?_
          refine lv_lstore_n (lv' := [(3, .long (lN (u ||| (2 ^ (rs q))))), (6, .int (nI q)), (5, .int (nI lk)), (0, .ref o), (1, .int (nI j)), (2, .ref qs)]) hx hb dc_As_usedFor_51 rfl hl (by decide) rfl (fun ls hl => ?_)
          refine lv_iload hx hb dc_As_usedFor_52 (lv_at hl 2 rfl) ?_
          refine lv_aload_n hx hb dc_As_usedFor_54 rfl (lv_at hl 5 rfl) ?_
          refine lv_aload_n hx hb dc_As_usedFor_55 rfl (lv_at hl 3 rfl) ?_
          refine va_get (ci := 6) (v := .ref qa) (C := rn_As) (T := fd_As) (N := 5) hx hb hts in_As hown hK hP 0 rfl rfl 0 (by decide) (hts _ wd_164) (fun _ h9 => h9) rfl dc_As_usedFor_56 ?_
          refine lv_iload hx hb dc_As_usedFor_59 (lv_at hl 1 rfl) ?_
          refine ka_nald (t := rs) hx hb hK hP 1 0 rfl rfl (j := q) (by omega) (by omega) dc_As_usedFor_61 ?_
          refine ka_nald (t := fs) hx hb hK hP 3 0 rfl rfl (j := rs q) (by have := (hri q (by omega)).1; omega) (by omega) dc_As_usedFor_62 ?_
          refine kn_ior hx hb dc_As_usedFor_63 ?_
          refine lv_istore (lv' := [(5, .int (nI (lk ||| (fs (rs q))))), (3, .long (lN (u ||| (2 ^ (rs q))))), (6, .int (nI q)), (0, .ref o), (1, .int (nI j)), (2, .ref qs)]) hx hb dc_As_usedFor_64 hl (by decide) rfl (fun ls hl => ?_)
          refine lv_iinc (k := 2) (v := pt_dn q) (lv' := [(6, .int (pt_dn q)), (5, .int (nI (lk ||| (fs (rs q))))), (3, .long (lN (u ||| (2 ^ (rs q))))), (0, .ref o), (1, .int (nI j)), (2, .ref qs)]) hx hb dc_As_usedFor_66 hl rfl (pt_dn_i _) (by decide) rfl (fun ls hl => ?_)
          refine lv_goto hx hb dc_As_usedFor_69 rfl ?_
          exact ih _ _ _ _ (by omega) hl (by rw [← h1, pt_used, if_neg hc36]) (by omega)
  exact lp_18 _ _ _ _ _ (Nat.lt_succ_self _) hl (rfl) (by omega)

set_option maxHeartbeats 4000000 in
set_option maxRecDepth 100000 in
theorem ct_Sp_forget (l : Launch) (D : va_G) (cI cZ : ClassId) (sz : Nat) (o : Nat) (qa : Nat) (qb : Nat) (n : Nat) (op : Bool)  : Met l yn_Sp_forget (Cond.code yn_Sp_forget bc_Sp_forget 1 none :: kx_all) ({ frames := 0, cells := 0, slots := 0, locals := 0 } : Room) (kp [.ref o] D cI cZ [sp_c o qa qb n op] sz) (kw_q none D kc_l [sp_c o qa qb 0 true] (va_A [sp_c o qa qb n op] sz)) 0 0 (va_A [sp_c o qa qb n op] sz) := by
  refine kx_metW (by decide) (Nat.le_of_ble_eq_true rfl) ?_
  intro p e s m below meth c ls A hx hb hr hml hts hown hlocks hin hA hP hK hD hN hl hS
  have hown : s.vm.findClass rn_Sp = some m.cls := hown
  have hl : lv_has ls 1 [(0, .ref o)] := hl
  refine lv_aload_n hx hb dc_Sp_forget_0 rfl (lv_at hl 0 rfl) ?_
  refine lv_iconst (v := nI 0) hx hb dc_Sp_forget_1 (by decide +kernel) ?_
  refine va_put (ci := 4) (v := .int (nI 0)) (ty := .int) (C := rn_Sp) (T := fd_Sp) (N := 4) hx hb hts in_Sp ty_Sp tk_Sp nm_Sp hown hK hP hD hS 0 rfl rfl 2 (by decide) (hts _ wd_114) (fun _ h9 => h9) rfl (by decide +kernel) rfl rfl (Nat.le_of_ble_eq_true rfl) dc_Sp_forget_2 (fun H locs hP hD hS => ?_)
  have hP : va_P D kc_l [sp_c o qa qb 0 op] H := hP
  have hD : va_D A [sp_c o qa qb 0 op] := hD
  refine lv_aload_n hx hb dc_Sp_forget_5 rfl (lv_at hl 0 rfl) ?_
  refine lv_iconst (v := nI 1) hx hb dc_Sp_forget_6 (by decide +kernel) ?_
  refine kn_top (y := kb_i true) (by decide +kernel) ?_
  refine va_put (ci := 4) (v := .int (kb_i true)) (ty := .boolean) (C := rn_Sp) (T := fd_Sp) (N := 4) hx hb hts in_Sp ty_Sp tk_Sp nm_Sp hown hK hP hD hS 0 rfl rfl 3 (by decide) (hts _ wd_118) (fun _ h9 => h9) rfl (by decide +kernel) (kb_nar _) (kb_fit _) (Nat.le_of_ble_eq_true rfl) dc_Sp_forget_7 (fun H locs hP hD hS => ?_)
  have hP : va_P D kc_l [sp_c o qa qb 0 true] H := hP
  have hD : va_D A [sp_c o qa qb 0 true] := hD
  exact kw_vret hx hb hr hlocks hP hD hS dc_Sp_forget_10 (rfl)

set_option maxHeartbeats 4000000 in
set_option maxRecDepth 100000 in
theorem ct_Sp_liveAfterAll (l : Launch) (D : va_G) (cI cZ : ClassId) (sz : Nat) (o : Nat) (qa : Nat) (qb : Nat) (n : Nat) (op : Bool) (dl : Nat → Bool) (nu : Nat → Nat) (b : Nat) (hn : n ≤ 16) (hnu : ∀ i, nu i ≤ 32) (hb : b ≤ 32) : Met l yn_Sp_liveAfterAll (Cond.code yn_Sp_liveAfterAll bc_Sp_liveAfterAll 5 (some .long) :: kx_all) ({ frames := 1, cells := 0, slots := 0, locals := 20 } : Room) (kp [.ref o, .int (nI b)] D cI cZ [sp_c o qa qb n op, ar_b cZ qa 17 dl, ar_n cI qb 17 nu] sz) (kr_q (some (.long (lN (pt_live dl nu n 1 (2 ^ (b + 1) - 2)))))) 0 0 (fun _ => False) := by
  refine kx_met (by decide) (Nat.le_of_ble_eq_true rfl) ?_
  intro p e s m below meth c ls hx hb hr hml hts hown hlocks hin hsz hP hK hD hN hl
  have hown : s.vm.findClass rn_Sp = some m.cls := hown
  have hl : lv_has ls 5 [(0, .ref o), (1, .int (nI b))] := hl
  refine lv_iload_n hx hb dc_Sp_liveAfterAll_0 rfl (lv_at hl 1 rfl) ?_
  refine kr_call1 (va_runSN (As := [.int (nI b)]) (rest := []) ⟨hx, hb, hml, hown, hts⟩ (ct_Pt_firstOnes l D cI cZ _ b (by omega)) ⟨va_cnB 1 hts (kx_gi wd_550) rfl rfl rfl (nw_548 hN) (hts _ wd_1) yd_Pt_firstOnes ⟨Nat.le_of_ble_eq_true rfl, Nat.le_of_ble_eq_true rfl⟩, hts _ wd_549, trivial⟩ (kp_S hP hD hK hN [] rfl rfl) rfl rfl hl.1 rfl (lv_room (Nat.le_of_ble_eq_true rfl)) dc_Sp_liveAfterAll_1 ⟨Nat.le_of_ble_eq_true rfl, Nat.le_of_ble_eq_true rfl⟩) ?_
  refine lv_lstore_n (lv' := [(2, .long (lN (2 ^ (b + 1) - 2))), (0, .ref o), (1, .int (nI b))]) hx hb dc_Sp_liveAfterAll_4 rfl hl (by decide) rfl (fun ls hl => ?_)
  refine lv_iconst (v := nI 1) hx hb dc_Sp_liveAfterAll_5 (by decide +kernel) ?_
  refine lv_istore (lv' := [(4, .int (nI 1)), (2, .long (lN (2 ^ (b + 1) - 2))), (0, .ref o), (1, .int (nI b))]) hx hb dc_Sp_liveAfterAll_6 hl (by decide) rfl (fun ls hl => ?_)
  have lp_8 : ∀ (K : Nat) (i : Nat) (lv : Nat) (ls : Array Slot), n + 1 - i < K → lv_has ls 5 [(4, .int (nI i)), (2, .long (lN lv)), (0, .ref o), (1, .int (nI b))] → (pt_live dl nu (n + 1 - i) i lv = pt_live dl nu n 1 (2 ^ (b + 1) - 2)) → (1 ≤ i ∧ i ≤ n + 1) → W p l e ({ frames := 1, cells := 0, slots := 0, locals := 20 } : Room) s m ([.ref o, .int (nI b)] : List Value).toArray below meth c s.heap [] 0 0 (MQ below (kr_q (some (.long (lN (pt_live dl nu n 1 (2 ^ (b + 1) - 2)))))) ([.ref o, .int (nI b)] : List Value).toArray s 0 0 (fun _ => False)) (F0 m 8 ls []) := by
    intro K
    induction K with
    | zero =>
      intro i lv ls hk
      exact absurd hk (Nat.not_lt_zero _)
    | succ K ih =>
      intro i lv ls hk hl h1 h2
      refine lv_iload hx hb dc_Sp_liveAfterAll_8 (lv_at hl 0 rfl) ?_
      refine lv_aload_n hx hb dc_Sp_liveAfterAll_10 rfl (lv_at hl 2 rfl) ?_
      refine va_get (ci := 4) (v := .int (nI n)) (C := rn_Sp) (T := fd_Sp) (N := 4) hx hb hts in_Sp hown hK hP 0 rfl rfl 2 (by decide) (hts _ wd_114) (fun _ h9 => h9) rfl dc_Sp_liveAfterAll_11 ?_
      refine kn_icmp_gt hx hb (by omega) (by omega) dc_Sp_liveAfterAll_14 rfl (fun hc14 => ?_) (fun hc14 => ?_)
      · refine lv_lload_n hx hb dc_Sp_liveAfterAll_65 rfl (lv_at hl 1 rfl) ?_
        exact kr_lret hx hb hr hlocks dc_Sp_liveAfterAll_66 (by rw [← h1, live_en (by omega)])
      · refine lv_aload_n hx hb dc_Sp_liveAfterAll_17 rfl (lv_at hl 2 rfl) ?_
        refine va_get (ci := 4) (v := .ref qa) (C := rn_Sp) (T := fd_Sp) (N := 4) hx hb hts in_Sp hown hK hP 0 rfl rfl 0 (by decide) (hts _ wd_106) (fun _ h9 => h9) rfl dc_Sp_liveAfterAll_18 ?_
        refine lv_iload hx hb dc_Sp_liveAfterAll_21 (lv_at hl 0 rfl) ?_
        refine ka_bald (t := dl) hx hb hK hP 1 1 rfl rfl (j := i) (by omega) (by omega) dc_Sp_liveAfterAll_23 ?_
        refine kb_if_eq hx hb dc_Sp_liveAfterAll_24 rfl (fun hc24 => ?_) (fun hc24 => ?_)
        · refine lv_lload_n hx hb dc_Sp_liveAfterAll_46 rfl (lv_at hl 1 rfl) ?_
          refine lv_aload_n hx hb dc_Sp_liveAfterAll_47 rfl (lv_at hl 2 rfl) ?_
          refine va_get (ci := 4) (v := .ref qb) (C := rn_Sp) (T := fd_Sp) (N := 4) hx hb hts in_Sp hown hK hP 0 rfl rfl 1 (by decide) (hts _ wd_110) (fun _ h9 => h9) rfl dc_Sp_liveAfterAll_48 ?_
          refine lv_iload hx hb dc_Sp_liveAfterAll_51 (lv_at hl 0 rfl) ?_
          refine ka_nald (t := nu) hx hb hK hP 2 0 rfl rfl (j := i) (by omega) (by omega) dc_Sp_liveAfterAll_53 ?_
          refine kr_call1 (va_runSN (As := [.int (nI (nu i))]) (rest := [.long (lN lv)]) ⟨hx, hb, hml, hown, hts⟩ (ct_Pt_one l D cI cZ _ (nu i) (by have := hnu i; omega)) ⟨va_cnB 1 hts (kx_gi wd_559) rfl rfl rfl (nw_557 hN) (hts _ wd_1) yd_Pt_one ⟨Nat.le_of_ble_eq_true rfl, Nat.le_of_ble_eq_true rfl⟩, hts _ wd_558, trivial⟩ (kp_S hP hD hK hN [] rfl rfl) rfl rfl hl.1 rfl (lv_room (Nat.le_of_ble_eq_true rfl)) dc_Sp_liveAfterAll_54 ⟨Nat.le_of_ble_eq_true rfl, Nat.le_of_ble_eq_true rfl⟩) ?_
          refine kl_lor hx hb dc_Sp_liveAfterAll_57 ?_
          refine lv_lstore_n (lv' := [(2, .long (lN (lv ||| (2 ^ (nu i))))), (4, .int (nI i)), (0, .ref o), (1, .int (nI b))]) hx hb dc_Sp_liveAfterAll_58 rfl hl (by decide) rfl (fun ls hl => ?_)
          refine lv_iinc (k := 1) (v := nI (i + 1)) (lv' := [(4, .int (nI (i + 1))), (2, .long (lN (lv ||| (2 ^ (nu i))))), (0, .ref o), (1, .int (nI b))]) hx hb dc_Sp_liveAfterAll_59 hl rfl (nI_1 _) (by decide) rfl (fun ls hl => ?_)
          refine lv_goto hx hb dc_Sp_liveAfterAll_62 rfl ?_
          exact ih _ _ _ (by omega) hl (by rw [← h1]; exact (live_a (by omega) hc24).symm) (⟨by omega, by omega⟩)
        · refine lv_lload_n hx hb dc_Sp_liveAfterAll_27 rfl (lv_at hl 1 rfl) ?_
          refine lv_aload_n hx hb dc_Sp_liveAfterAll_28 rfl (lv_at hl 2 rfl) ?_
          refine va_get (ci := 4) (v := .ref qb) (C := rn_Sp) (T := fd_Sp) (N := 4) hx hb hts in_Sp hown hK hP 0 rfl rfl 1 (by decide) (hts _ wd_110) (fun _ h9 => h9) rfl dc_Sp_liveAfterAll_29 ?_
          refine lv_iload hx hb dc_Sp_liveAfterAll_32 (lv_at hl 0 rfl) ?_
          refine ka_nald (t := nu) hx hb hK hP 2 0 rfl rfl (j := i) (by omega) (by omega) dc_Sp_liveAfterAll_34 ?_
          refine kr_call1 (va_runSN (As := [.int (nI (nu i))]) (rest := [.long (lN lv)]) ⟨hx, hb, hml, hown, hts⟩ (ct_Pt_one l D cI cZ _ (nu i) (by have := hnu i; omega)) ⟨va_cnB 1 hts (kx_gi wd_559) rfl rfl rfl (nw_557 hN) (hts _ wd_1) yd_Pt_one ⟨Nat.le_of_ble_eq_true rfl, Nat.le_of_ble_eq_true rfl⟩, hts _ wd_558, trivial⟩ (kp_S hP hD hK hN [] rfl rfl) rfl rfl hl.1 rfl (lv_room (Nat.le_of_ble_eq_true rfl)) dc_Sp_liveAfterAll_35 ⟨Nat.le_of_ble_eq_true rfl, Nat.le_of_ble_eq_true rfl⟩) ?_
          refine kl_ldc2 (y := (-1)) hx hb hown (hts _ wd_560) dc_Sp_liveAfterAll_38 (by decide +kernel) ?_
          refine lv_lxor hx hb dc_Sp_liveAfterAll_41 ?_
          refine kl_lnot hx hb dc_Sp_liveAfterAll_42 ?_
          refine lv_goto hx hb dc_Sp_liveAfterAll_43 rfl ?_
          refine lv_lstore_n (lv' := [(2, .long (lN (nb_d lv (2 ^ (nu i))))), (4, .int (nI i)), (0, .ref o), (1, .int (nI b))]) hx hb dc_Sp_liveAfterAll_58 rfl hl (by decide) rfl (fun ls hl => ?_)
          refine lv_iinc (k := 1) (v := nI (i + 1)) (lv' := [(4, .int (nI (i + 1))), (2, .long (lN (nb_d lv (2 ^ (nu i))))), (0, .ref o), (1, .int (nI b))]) hx hb dc_Sp_liveAfterAll_59 hl rfl (nI_1 _) (by decide) rfl (fun ls hl => ?_)
          refine lv_goto hx hb dc_Sp_liveAfterAll_62 rfl ?_
          exact ih _ _ _ (by omega) hl (by rw [← h1]; exact (live_d (by omega) hc24).symm) (⟨by omega, by omega⟩)
  exact lp_8 _ _ _ _ (Nat.lt_succ_self _) hl (rfl) (⟨by omega, by omega⟩)
end
section
/-! going back: what is ready, what follows -/
/-- the first number from c on, k of them, with a property, or 0 -/
def pt_first (P : Nat → Bool) : Nat → Nat → Nat
  | 0, _ => 0
  | k + 1, c => if P c = true then c else pt_first P k (c + 1)
theorem first_no {P : Nat → Bool} {n c : Nat} (h : c ≤ n) (hp : P c = false) : pt_first P (n + 1 - c) c = pt_first P (n + 1 - (c + 1)) (c + 1) := by
  obtain ⟨k, hk⟩ : ∃ k, n + 1 - c = k + 1 := ⟨n - c, by omega⟩
  have hk2 : n + 1 - (c + 1) = k := by omega
  rw [hk, hk2, pt_first, if_neg (by rw [hp]; decide)]
theorem first_yes {P : Nat → Bool} {n c : Nat} (h : c ≤ n) (hp : P c = true) : pt_first P (n + 1 - c) c = c := by
  obtain ⟨k, hk⟩ : ∃ k, n + 1 - c = k + 1 := ⟨n - c, by omega⟩
  rw [hk, pt_first, if_pos hp]
theorem first_en {P : Nat → Bool} {n c : Nat} (h : n < c) : pt_first P (n + 1 - c) c = 0 := by
  rw [show n + 1 - c = 0 by omega, pt_first]
theorem first_in (P : Nat → Bool) : ∀ k c, pt_first P k c = 0 ∨ (c ≤ pt_first P k c ∧ pt_first P k c < c + k ∧ P (pt_first P k c) = true) := by
  intro k
  induction k with
  | zero => intro c; exact Or.inl rfl
  | succ k ih =>
    intro c
    rw [pt_first]
    split
    · rename_i h; exact Or.inr ⟨Nat.le_refl _, by omega, h⟩
    · rcases ih (c + 1) with h | ⟨h1, h2, h3⟩
      · exact Or.inl h
      · exact Or.inr ⟨by omega, by omega, h3⟩
/-- the first ready clause among those of a set -/
def pt_fr (fs : Nat → Nat) (t f a n : Nat) : Nat := pt_first (fun j => a.testBit j && pt_rdy (fs j) t f) n 1
/-- the clause that is taken next, or 0 -/
def pt_next (fs : Nat → Nat) (lv mk cn t f : Nat) : Nat := if pt_fr fs t f (lv &&& mk) cn = 0 then pt_fr fs t f (nb_d lv mk) cn else pt_fr fs t f (lv &&& mk) cn
theorem next_in (fs : Nat → Nat) (lv mk cn t f : Nat) : pt_next fs lv mk cn t f = 0 ∨ (1 ≤ pt_next fs lv mk cn t f ∧ pt_next fs lv mk cn t f ≤ cn ∧ lv.testBit (pt_next fs lv mk cn t f) = true ∧ pt_rdy (fs (pt_next fs lv mk cn t f)) t f = true) := by
  unfold pt_next
  have h1 := first_in (fun j => (lv &&& mk).testBit j && pt_rdy (fs j) t f) cn 1
  have h2 := first_in (fun j => (nb_d lv mk).testBit j && pt_rdy (fs j) t f) cn 1
  split
  · rcases h2 with h | ⟨a, b, d⟩
    · exact Or.inl h
    · rw [Bool.and_eq_true, nb_d_bit, Bool.and_eq_true] at d
      exact Or.inr ⟨a, by show pt_first _ _ _ ≤ _; omega, d.1.1, d.2⟩
  · rcases h1 with h | ⟨a, b, d⟩
    · exact Or.inl h
    · rw [Bool.and_eq_true, Nat.testBit_and, Bool.and_eq_true] at d
      exact Or.inr ⟨a, by show pt_first _ _ _ ≤ _; omega, d.1.1, d.2⟩
/-- how many variables have no value -/
def pt_free (t : Nat) : Nat := ((List.range 8).map (fun v => if t.testBit v = false ∧ t.testBit (v + 8) = false then 1 else 0)).sum
theorem free_or : ∀ (t b : Nat), b < 16 → t.testBit b = false → t.testBit ((b + 8) % 16) = false → pt_free (t ||| 2 ^ b) + 1 = pt_free t := by
  intro t b hb h1 h2
  unfold pt_free
  simp only [List.range, List.range.loop, List.map_cons, List.map_nil, List.sum_cons, List.sum_nil, Nat.testBit_or, Nat.testBit_two_pow]
  have hc : b = 0 ∨ b = 1 ∨ b = 2 ∨ b = 3 ∨ b = 4 ∨ b = 5 ∨ b = 6 ∨ b = 7 ∨ b = 8 ∨ b = 9 ∨ b = 10 ∨ b = 11 ∨ b = 12 ∨ b = 13 ∨ b = 14 ∨ b = 15 := by omega
  rcases hc with h | h | h | h | h | h | h | h | h | h | h | h | h | h | h | h <;> subst h <;> simp at h1 h2 ⊢ <;> simp [h1, h2] <;> omega
/-- at most one bit, and not none: a bit -/
theorem one_bit {x : Nat} (h0 : ¬ x = 0) (h1 : x &&& (x - 1) = 0) : ∃ b, x = 2 ^ b := by
  obtain ⟨b, hb⟩ := Nat.exists_testBit_of_ne_zero h0
  refine ⟨b, ?_⟩
  apply Nat.eq_of_testBit_eq
  intro i
  rw [Nat.testBit_two_pow]
  by_cases hi : b = i
  · subst hi; rw [hb]; simp
  · rw [decide_eq_false hi]
    cases hx : x.testBit i with
    | false => rfl
    | true =>
      exfalso
      -- the greater of the two stays in x - 1
      have key : ∀ p q, p < q → x.testBit p = true → x.testBit q = true → False := by
        intro p q hpq hp hq
        have hxp : 2 ^ p ≤ x % 2 ^ q := by
          have h3 : (x % 2 ^ q).testBit p = true := by rw [Nat.testBit_mod_two_pow, hp, decide_eq_true hpq]; rfl
          exact Nat.ge_two_pow_of_testBit h3
        have hp0 : 0 < 2 ^ p := Nat.two_pow_pos p
        have h4 : (x - 1).testBit q = true := by
          rw [Nat.testBit_eq_decide_div_mod_eq] at hq ⊢
          have h5 : (x - 1) / 2 ^ q = x / 2 ^ q := by
            have h6 := Nat.div_add_mod x (2 ^ q)
            apply Nat.div_eq_of_lt_le
            · have : x / 2 ^ q * 2 ^ q = 2 ^ q * (x / 2 ^ q) := Nat.mul_comm _ _
              omega
            · have h7 := Nat.mod_lt x (Nat.two_pow_pos q)
              have : (x / 2 ^ q + 1) * 2 ^ q = 2 ^ q * (x / 2 ^ q) + 2 ^ q := by rw [Nat.add_mul, Nat.one_mul, Nat.mul_comm]
              omega
          rw [h5]; exact hq
        have h8 : (x &&& (x - 1)).testBit q = true := by rw [Nat.testBit_and, hq, h4]; rfl
        rw [h1, Nat.zero_testBit] at h8
        exact absurd h8 (by decide)
      rcases Nat.lt_or_gt_of_ne hi with h | h
      · exact key b i h hb hx
      · exact key i b h hx hb
/-- the assignment is in order, and there is room for the reasons to come -/
def pt_cap (n t f : Nat) : Prop := t < 65536 ∧ f = nb_op t ∧ n + pt_free t ≤ 8
theorem op_or {x y : Nat} (hx : x < 65536) (hy : y < 65536) : nb_op (x ||| y) = nb_op x ||| nb_op y := by
  apply Nat.eq_of_testBit_eq
  intro i
  rw [nb_op_bit (Nat.or_lt_two_pow (n := 16) hx hy), Nat.testBit_or (x := nb_op x) (y := nb_op y), nb_op_bit hx, nb_op_bit hy]
  split
  · rw [Nat.testBit_or]
  · split
    · rw [Nat.testBit_or]
    · rfl
theorem cap_step {n t f x : Nat} (h : pt_cap n t f) (hx : x < 65536) (hr : pt_rdy x t f = true) (h0 : ¬ nb_d x f = 0) : n < 8 ∧ nb_d x f < 65536 ∧ pt_cap (n + 1) (t ||| nb_d x f) (f ||| nb_op (nb_d x f)) := by
  obtain ⟨ht, hf, hn⟩ := h
  unfold pt_rdy at hr
  rw [Bool.and_eq_true] at hr
  have hr1 := of_decide_eq_true hr.1
  have hr2 := of_decide_eq_true hr.2
  have hy16 : nb_d x f < 65536 := nb_d_lt (n := 16) hx
  obtain ⟨b, hb⟩ := one_bit h0 hr2
  have hb16 : b < 16 := by
    rw [hb] at hy16
    exact (Nat.pow_lt_pow_iff_right (by decide : 1 < 2)).mp (show 2 ^ b < 2 ^ 16 from hy16)
  have hbt : (nb_d x f).testBit b = true := by rw [hb]; exact Nat.testBit_two_pow_self
  rw [nb_d_bit, Bool.and_eq_true] at hbt
  have h1 : t.testBit b = false := by
    have h3 : (x &&& t).testBit b = false := by rw [hr1]; exact Nat.zero_testBit b
    rw [Nat.testBit_and, hbt.1, Bool.true_and] at h3
    exact h3
  have h2 : t.testBit ((b + 8) % 16) = false := by
    have h3 : f.testBit b = false := by
      have := hbt.2
      cases hfb : f.testBit b with
      | false => rfl
      | true => rw [hfb] at this; exact absurd this (by decide)
    rw [hf, nb_op_bit ht] at h3
    by_cases h8 : b < 8
    · rw [if_pos h8] at h3; rw [Nat.mod_eq_of_lt (by omega)]; exact h3
    · rw [if_neg h8, if_pos hb16] at h3; rw [show (b + 8) % 16 = b - 8 by omega]; exact h3
  have h4 := free_or t b hb16 h1 h2
  refine ⟨by omega, hy16, Nat.or_lt_two_pow (n := 16) ht hy16, ?_, ?_⟩
  · rw [op_or ht hy16, ← hf]
  · rw [hb]; omega
/-- propagating: the conflict or 0, and the assignment behind it -/
def pt_prop (fs : Nat → Nat) (lv mk cn : Nat) : Nat → Nat → Nat → Nat → (Nat → Nat) → (Nat → Nat) → Nat × Nat × Nat × Nat × (Nat → Nat) × (Nat → Nat)
  | 0, n, t, f, rs, im => (0, n, t, f, rs, im)
  | k + 1, n, t, f, rs, im =>
    if pt_next fs lv mk cn t f = 0 then (0, n, t, f, rs, im)
    else if nb_d (fs (pt_next fs lv mk cn t f)) f = 0 then (pt_next fs lv mk cn t f, n, t, f, rs, im)
    else pt_prop fs lv mk cn k (n + 1) (t ||| nb_d (fs (pt_next fs lv mk cn t f)) f) (f ||| nb_op (nb_d (fs (pt_next fs lv mk cn t f)) f)) (va_up rs n (pt_next fs lv mk cn t f)) (va_up im n (nb_d (fs (pt_next fs lv mk cn t f)) f))
/-- what is appended of the reasons from a on, k of them, that are used -/
def pt_exs (rs : Nat → Nat) (u a : Nat) : Nat → List Int32
  | 0 => []
  | k + 1 => pt_exs rs u a k ++ (if u.testBit (rs (a + k)) = true then [nI (rs (a + k))] else [])
/-- a row with a list written into it from place g on -/
def pt_put (fr : Nat → Int32) (g : Nat) (L : List Int32) : Nat → Int32 := fun j => if g ≤ j ∧ j < g + L.length then L.getD (j - g) 0 else fr j
theorem put_0 {fr : Nat → Int32} {g : Nat} : pt_put fr g [] = fr := by
  funext j
  unfold pt_put
  rw [if_neg (by simp)]
theorem put_s {fr : Nat → Int32} {g : Nat} {L : List Int32} {x : Int32} : upd (pt_put fr g L) (g + L.length) x = pt_put fr g (L ++ [x]) := by
  funext j
  unfold upd pt_put
  rw [List.length_append, List.length_singleton]
  by_cases h : j = g + L.length
  · subst h
    rw [if_pos rfl, if_pos (by omega), show g + L.length - g = L.length by omega]
    simp
  · rw [if_neg h]
    by_cases h2 : g ≤ j ∧ j < g + L.length
    · rw [if_pos h2, if_pos (by omega), List.getD_eq_getElem?_getD, List.getD_eq_getElem?_getD, List.getElem?_append_left (by omega)]
    · rw [if_neg h2, if_neg (by omega)]
theorem cnt_s {fc : Nat → Nat} {c : Nat} {L : List Int32} {x : Int32} : va_up (va_up fc c (fc c + L.length)) c (va_up fc c (fc c + L.length) c + 1) = va_up fc c (fc c + (L ++ [x]).length) := by
  rw [va_up_self, bx_uu, List.length_append, List.length_singleton]
  rfl
theorem cnt_0 {fc : Nat → Nat} {c : Nat} : va_up fc c (fc c + ([] : List Int32).length) = fc := by
  funext j
  unfold va_up
  split
  · rename_i h; rw [h]; rfl
  · rfl

theorem dc_Ck_firstReady_0 : decode bc_Ck_firstReady 0 = .ok (.iconst 1, 1) := by decide +kernel
theorem dc_Ck_firstReady_1 : decode bc_Ck_firstReady 1 = .ok (.istore_n 3, 1) := by decide +kernel
theorem dc_Ck_firstReady_2 : decode bc_Ck_firstReady 2 = .ok (.iload_n 3, 1) := by decide +kernel
theorem dc_Ck_firstReady_3 : decode bc_Ck_firstReady 3 = .ok (.aload_n 0, 1) := by decide +kernel
theorem dc_Ck_firstReady_4 : decode bc_Ck_firstReady 4 = .ok (.getfield 9, 3) := by decide +kernel
theorem dc_Ck_firstReady_7 : decode bc_Ck_firstReady 7 = .ok (.getfield 37, 3) := by decide +kernel
theorem dc_Ck_firstReady_10 : decode bc_Ck_firstReady 10 = .ok (.if_icmp .gt (38), 3) := by decide +kernel
theorem dc_Ck_firstReady_13 : decode bc_Ck_firstReady 13 = .ok (.lload_n 1, 1) := by decide +kernel
theorem dc_Ck_firstReady_14 : decode bc_Ck_firstReady 14 = .ok (.iload_n 3, 1) := by decide +kernel
theorem dc_Ck_firstReady_15 : decode bc_Ck_firstReady 15 = .ok (.invokestatic 62, 3) := by decide +kernel
theorem dc_Ck_firstReady_18 : decode bc_Ck_firstReady 18 = .ok (.ifCond .eq (24), 3) := by decide +kernel
theorem dc_Ck_firstReady_21 : decode bc_Ck_firstReady 21 = .ok (.aload_n 0, 1) := by decide +kernel
theorem dc_Ck_firstReady_22 : decode bc_Ck_firstReady 22 = .ok (.getfield 23, 3) := by decide +kernel
theorem dc_Ck_firstReady_25 : decode bc_Ck_firstReady 25 = .ok (.aload_n 0, 1) := by decide +kernel
theorem dc_Ck_firstReady_26 : decode bc_Ck_firstReady 26 = .ok (.getfield 9, 3) := by decide +kernel
theorem dc_Ck_firstReady_29 : decode bc_Ck_firstReady 29 = .ok (.getfield 74, 3) := by decide +kernel
theorem dc_Ck_firstReady_32 : decode bc_Ck_firstReady 32 = .ok (.iload_n 3, 1) := by decide +kernel
theorem dc_Ck_firstReady_33 : decode bc_Ck_firstReady 33 = .ok (.iaload, 1) := by decide +kernel
theorem dc_Ck_firstReady_34 : decode bc_Ck_firstReady 34 = .ok (.invokevirtual 130, 3) := by decide +kernel
theorem dc_Ck_firstReady_37 : decode bc_Ck_firstReady 37 = .ok (.ifCond .eq (5), 3) := by decide +kernel
theorem dc_Ck_firstReady_40 : decode bc_Ck_firstReady 40 = .ok (.iload_n 3, 1) := by decide +kernel
theorem dc_Ck_firstReady_41 : decode bc_Ck_firstReady 41 = .ok (.ireturn, 1) := by decide +kernel
theorem dc_Ck_firstReady_42 : decode bc_Ck_firstReady 42 = .ok (.iinc 3 (1), 3) := by decide +kernel
theorem dc_Ck_firstReady_45 : decode bc_Ck_firstReady 45 = .ok (.goto (-43), 3) := by decide +kernel
theorem dc_Ck_firstReady_48 : decode bc_Ck_firstReady 48 = .ok (.iconst 0, 1) := by decide +kernel
theorem dc_Ck_firstReady_49 : decode bc_Ck_firstReady 49 = .ok (.ireturn, 1) := by decide +kernel
theorem dc_Ck_propagate_0 : decode bc_Ck_propagate 0 = .ok (.iconst 0, 1) := by decide +kernel
theorem dc_Ck_propagate_1 : decode bc_Ck_propagate 1 = .ok (.istore_n 1, 1) := by decide +kernel
theorem dc_Ck_propagate_2 : decode bc_Ck_propagate 2 = .ok (.iload_n 1, 1) := by decide +kernel
theorem dc_Ck_propagate_3 : decode bc_Ck_propagate 3 = .ok (.bipush (8), 2) := by decide +kernel
theorem dc_Ck_propagate_5 : decode bc_Ck_propagate 5 = .ok (.if_icmp .gt (79), 3) := by decide +kernel
theorem dc_Ck_propagate_8 : decode bc_Ck_propagate 8 = .ok (.aload_n 0, 1) := by decide +kernel
theorem dc_Ck_propagate_9 : decode bc_Ck_propagate 9 = .ok (.aload_n 0, 1) := by decide +kernel
theorem dc_Ck_propagate_10 : decode bc_Ck_propagate 10 = .ok (.getfield 33, 3) := by decide +kernel
theorem dc_Ck_propagate_13 : decode bc_Ck_propagate 13 = .ok (.aload_n 0, 1) := by decide +kernel
theorem dc_Ck_propagate_14 : decode bc_Ck_propagate 14 = .ok (.getfield 19, 3) := by decide +kernel
theorem dc_Ck_propagate_17 : decode bc_Ck_propagate 17 = .ok (.getfield 46, 3) := by decide +kernel
theorem dc_Ck_propagate_20 : decode bc_Ck_propagate 20 = .ok (.land, 1) := by decide +kernel
theorem dc_Ck_propagate_21 : decode bc_Ck_propagate 21 = .ok (.invokevirtual 122, 3) := by decide +kernel
theorem dc_Ck_propagate_24 : decode bc_Ck_propagate 24 = .ok (.istore_n 2, 1) := by decide +kernel
theorem dc_Ck_propagate_25 : decode bc_Ck_propagate 25 = .ok (.iload_n 2, 1) := by decide +kernel
theorem dc_Ck_propagate_26 : decode bc_Ck_propagate 26 = .ok (.ifCond .ne (24), 3) := by decide +kernel
theorem dc_Ck_propagate_29 : decode bc_Ck_propagate 29 = .ok (.aload_n 0, 1) := by decide +kernel
theorem dc_Ck_propagate_30 : decode bc_Ck_propagate 30 = .ok (.aload_n 0, 1) := by decide +kernel
theorem dc_Ck_propagate_31 : decode bc_Ck_propagate 31 = .ok (.getfield 33, 3) := by decide +kernel
theorem dc_Ck_propagate_34 : decode bc_Ck_propagate 34 = .ok (.aload_n 0, 1) := by decide +kernel
theorem dc_Ck_propagate_35 : decode bc_Ck_propagate 35 = .ok (.getfield 19, 3) := by decide +kernel
theorem dc_Ck_propagate_38 : decode bc_Ck_propagate 38 = .ok (.getfield 46, 3) := by decide +kernel
theorem dc_Ck_propagate_41 : decode bc_Ck_propagate 41 = .ok (.ldc2_w 60, 3) := by decide +kernel
theorem dc_Ck_propagate_44 : decode bc_Ck_propagate 44 = .ok (.lxor, 1) := by decide +kernel
theorem dc_Ck_propagate_45 : decode bc_Ck_propagate 45 = .ok (.land, 1) := by decide +kernel
theorem dc_Ck_propagate_46 : decode bc_Ck_propagate 46 = .ok (.invokevirtual 122, 3) := by decide +kernel
theorem dc_Ck_propagate_49 : decode bc_Ck_propagate 49 = .ok (.istore_n 2, 1) := by decide +kernel
theorem dc_Ck_propagate_50 : decode bc_Ck_propagate 50 = .ok (.iload_n 2, 1) := by decide +kernel
theorem dc_Ck_propagate_51 : decode bc_Ck_propagate 51 = .ok (.ifCond .ne (5), 3) := by decide +kernel
theorem dc_Ck_propagate_54 : decode bc_Ck_propagate 54 = .ok (.iconst 0, 1) := by decide +kernel
theorem dc_Ck_propagate_55 : decode bc_Ck_propagate 55 = .ok (.ireturn, 1) := by decide +kernel
theorem dc_Ck_propagate_56 : decode bc_Ck_propagate 56 = .ok (.aload_n 0, 1) := by decide +kernel
theorem dc_Ck_propagate_57 : decode bc_Ck_propagate 57 = .ok (.getfield 23, 3) := by decide +kernel
theorem dc_Ck_propagate_60 : decode bc_Ck_propagate 60 = .ok (.aload_n 0, 1) := by decide +kernel
theorem dc_Ck_propagate_61 : decode bc_Ck_propagate 61 = .ok (.getfield 9, 3) := by decide +kernel
theorem dc_Ck_propagate_64 : decode bc_Ck_propagate 64 = .ok (.getfield 74, 3) := by decide +kernel
theorem dc_Ck_propagate_67 : decode bc_Ck_propagate 67 = .ok (.iload_n 2, 1) := by decide +kernel
theorem dc_Ck_propagate_68 : decode bc_Ck_propagate 68 = .ok (.iaload, 1) := by decide +kernel
theorem dc_Ck_propagate_69 : decode bc_Ck_propagate 69 = .ok (.iload_n 2, 1) := by decide +kernel
theorem dc_Ck_propagate_70 : decode bc_Ck_propagate 70 = .ok (.invokevirtual 126, 3) := by decide +kernel
theorem dc_Ck_propagate_73 : decode bc_Ck_propagate 73 = .ok (.ifCond .ne (5), 3) := by decide +kernel
theorem dc_Ck_propagate_76 : decode bc_Ck_propagate 76 = .ok (.iload_n 2, 1) := by decide +kernel
theorem dc_Ck_propagate_77 : decode bc_Ck_propagate 77 = .ok (.ireturn, 1) := by decide +kernel
theorem dc_Ck_propagate_78 : decode bc_Ck_propagate 78 = .ok (.iinc 1 (1), 3) := by decide +kernel
theorem dc_Ck_propagate_81 : decode bc_Ck_propagate 81 = .ok (.goto (-79), 3) := by decide +kernel
theorem dc_Ck_propagate_84 : decode bc_Ck_propagate 84 = .ok (.iconst 0, 1) := by decide +kernel
theorem dc_Ck_propagate_85 : decode bc_Ck_propagate 85 = .ok (.ireturn, 1) := by decide +kernel
theorem dc_Ck_explain_0 : decode bc_Ck_explain 0 = .ok (.aload_n 0, 1) := by decide +kernel
theorem dc_Ck_explain_1 : decode bc_Ck_explain 1 = .ok (.getfield 23, 3) := by decide +kernel
theorem dc_Ck_explain_4 : decode bc_Ck_explain 4 = .ok (.iload_n 3, 1) := by decide +kernel
theorem dc_Ck_explain_5 : decode bc_Ck_explain 5 = .ok (.aload_n 0, 1) := by decide +kernel
theorem dc_Ck_explain_6 : decode bc_Ck_explain 6 = .ok (.getfield 9, 3) := by decide +kernel
theorem dc_Ck_explain_9 : decode bc_Ck_explain 9 = .ok (.getfield 74, 3) := by decide +kernel
theorem dc_Ck_explain_12 : decode bc_Ck_explain 12 = .ok (.invokevirtual 118, 3) := by decide +kernel
theorem dc_Ck_explain_15 : decode bc_Ck_explain 15 = .ok (.lstore 4, 2) := by decide +kernel
theorem dc_Ck_explain_17 : decode bc_Ck_explain 17 = .ok (.iload_n 2, 1) := by decide +kernel
theorem dc_Ck_explain_18 : decode bc_Ck_explain 18 = .ok (.istore 6, 2) := by decide +kernel
theorem dc_Ck_explain_20 : decode bc_Ck_explain 20 = .ok (.iload 6, 2) := by decide +kernel
theorem dc_Ck_explain_22 : decode bc_Ck_explain 22 = .ok (.aload_n 0, 1) := by decide +kernel
theorem dc_Ck_explain_23 : decode bc_Ck_explain 23 = .ok (.getfield 23, 3) := by decide +kernel
theorem dc_Ck_explain_26 : decode bc_Ck_explain 26 = .ok (.getfield 104, 3) := by decide +kernel
theorem dc_Ck_explain_29 : decode bc_Ck_explain 29 = .ok (.if_icmp .ge (45), 3) := by decide +kernel
theorem dc_Ck_explain_32 : decode bc_Ck_explain 32 = .ok (.lload 4, 2) := by decide +kernel
theorem dc_Ck_explain_34 : decode bc_Ck_explain 34 = .ok (.aload_n 0, 1) := by decide +kernel
theorem dc_Ck_explain_35 : decode bc_Ck_explain 35 = .ok (.getfield 23, 3) := by decide +kernel
theorem dc_Ck_explain_38 : decode bc_Ck_explain 38 = .ok (.getfield 105, 3) := by decide +kernel
theorem dc_Ck_explain_41 : decode bc_Ck_explain 41 = .ok (.iload 6, 2) := by decide +kernel
theorem dc_Ck_explain_43 : decode bc_Ck_explain 43 = .ok (.iaload, 1) := by decide +kernel
theorem dc_Ck_explain_44 : decode bc_Ck_explain 44 = .ok (.invokestatic 62, 3) := by decide +kernel
theorem dc_Ck_explain_47 : decode bc_Ck_explain 47 = .ok (.ifCond .eq (21), 3) := by decide +kernel
theorem dc_Ck_explain_50 : decode bc_Ck_explain 50 = .ok (.aload_n 0, 1) := by decide +kernel
theorem dc_Ck_explain_51 : decode bc_Ck_explain 51 = .ok (.getfield 19, 3) := by decide +kernel
theorem dc_Ck_explain_54 : decode bc_Ck_explain 54 = .ok (.iload_n 1, 1) := by decide +kernel
theorem dc_Ck_explain_55 : decode bc_Ck_explain 55 = .ok (.aload_n 0, 1) := by decide +kernel
theorem dc_Ck_explain_56 : decode bc_Ck_explain 56 = .ok (.getfield 23, 3) := by decide +kernel
theorem dc_Ck_explain_59 : decode bc_Ck_explain 59 = .ok (.getfield 105, 3) := by decide +kernel
theorem dc_Ck_explain_62 : decode bc_Ck_explain 62 = .ok (.iload 6, 2) := by decide +kernel
theorem dc_Ck_explain_64 : decode bc_Ck_explain 64 = .ok (.iaload, 1) := by decide +kernel
theorem dc_Ck_explain_65 : decode bc_Ck_explain 65 = .ok (.invokevirtual 108, 3) := by decide +kernel
theorem dc_Ck_explain_68 : decode bc_Ck_explain 68 = .ok (.iinc 6 (1), 3) := by decide +kernel
theorem dc_Ck_explain_71 : decode bc_Ck_explain 71 = .ok (.goto (-51), 3) := by decide +kernel
theorem dc_Ck_explain_74 : decode bc_Ck_explain 74 = .ok (.aload_n 0, 1) := by decide +kernel
theorem dc_Ck_explain_75 : decode bc_Ck_explain 75 = .ok (.getfield 19, 3) := by decide +kernel
theorem dc_Ck_explain_78 : decode bc_Ck_explain 78 = .ok (.iload_n 1, 1) := by decide +kernel
theorem dc_Ck_explain_79 : decode bc_Ck_explain 79 = .ok (.iload_n 3, 1) := by decide +kernel
theorem dc_Ck_explain_80 : decode bc_Ck_explain 80 = .ok (.invokevirtual 108, 3) := by decide +kernel
theorem dc_Ck_explain_83 : decode bc_Ck_explain 83 = .ok (.lload 4, 2) := by decide +kernel
theorem dc_Ck_explain_85 : decode bc_Ck_explain 85 = .ok (.lreturn, 1) := by decide +kernel
set_option maxHeartbeats 4000000 in
set_option maxRecDepth 100000 in
theorem ct_Ck_firstReady (l : Launch) (D : va_G) (cI cZ : ClassId) (sz : Nat) (o : Nat) (xc : Nat) (xs : Nat) (xt : Nat) (xa : Nat) (lv : Nat) (ca : Nat) (cb : Nat) (cd : Nat) (cn : Nat) (fs : Nat → Nat) (aa : Nat) (ab : Nat) (n : Nat) (t : Nat) (f : Nat) (a : Nat) (hcn : cn ≤ 32) (h16 : ∀ j, fs j < 65536) (ha : a < 2 ^ 62) : Met l yn_Ck_firstReady (Cond.code yn_Ck_firstReady bc_Ck_firstReady 4 (some .int) :: kx_all) ({ frames := 1, cells := 0, slots := 0, locals := 22 } : Room) (kp [.ref o, .long (lN a)] D cI cZ [ck_c o xc xs xt xa lv, cl_c xc ca cb cd cn, ar_n cI cb 33 fs, as_c xa aa ab n t f] sz) (kr_q (some (.int (nI (pt_fr fs t f a cn))))) 0 0 (fun _ => False) := by
  refine kx_met (by decide) (Nat.le_of_ble_eq_true rfl) ?_
  intro p e s m below meth c ls hx hb hr hml hts hown hlocks hin hsz hP hK hD hN hl
  have hown : s.vm.findClass rn_Ck = some m.cls := hown
  have hl : lv_has ls 4 [(0, .ref o), (1, .long (lN a))] := hl
  refine lv_iconst (v := nI 1) hx hb dc_Ck_firstReady_0 (by decide +kernel) ?_
  refine lv_istore_n (lv' := [(3, .int (nI 1)), (0, .ref o), (1, .long (lN a))]) hx hb dc_Ck_firstReady_1 rfl hl (by decide) rfl (fun ls hl => ?_)
  have lp_2 : ∀ (K : Nat) (i : Nat) (ls : Array Slot), cn + 1 - i < K → lv_has ls 4 [(3, .int (nI i)), (0, .ref o), (1, .long (lN a))] → (pt_first (fun j => a.testBit j && pt_rdy (fs j) t f) (cn + 1 - i) i = pt_fr fs t f a cn) → (1 ≤ i ∧ i ≤ cn + 1) → W p l e ({ frames := 1, cells := 0, slots := 0, locals := 22 } : Room) s m ([.ref o, .long (lN a)] : List Value).toArray below meth c s.heap [] 0 0 (MQ below (kr_q (some (.int (nI (pt_fr fs t f a cn))))) ([.ref o, .long (lN a)] : List Value).toArray s 0 0 (fun _ => False)) (F0 m 2 ls []) := by
    intro K
    induction K with
    | zero =>
      intro i ls hk
      exact absurd hk (Nat.not_lt_zero _)
    | succ K ih =>
      intro i ls hk hl h1 h2
      refine lv_iload_n hx hb dc_Ck_firstReady_2 rfl (lv_at hl 0 rfl) ?_
      refine lv_aload_n hx hb dc_Ck_firstReady_3 rfl (lv_at hl 1 rfl) ?_
      refine va_get (ci := 7) (v := .ref xc) (C := rn_Ck) (T := fd_Ck) (N := 5) hx hb hts in_Ck hown hK hP 0 rfl rfl 0 (by decide) (hts _ wd_576) (fun _ h9 => h9) rfl dc_Ck_firstReady_4 ?_
      refine va_getN (ci := 2) (v := .int (nI cn)) (C := rn_Cl) (T := fd_Cl) (N := 4) hx hb hts in_Cl hown hK hP 1 rfl rfl 3 (by decide) (nf_74 hN) (fun _ h9 => h9) rfl dc_Ck_firstReady_7 ?_
      refine kn_icmp_gt hx hb (by omega) (by omega) dc_Ck_firstReady_10 rfl (fun hc10 => ?_) (fun hc10 => ?_)
      · refine lv_iconst (v := nI 0) hx hb dc_Ck_firstReady_48 (by decide +kernel) ?_
        exact kr_iret hx hb hr hlocks dc_Ck_firstReady_49 (by rw [← h1, first_en (by omega)])
      · refine lv_lload_n hx hb dc_Ck_firstReady_13 rfl (lv_at hl 2 rfl) ?_
        refine lv_iload_n hx hb dc_Ck_firstReady_14 rfl (lv_at hl 0 rfl) ?_
        refine kr_call1 (va_runSN (As := [.long (lN a), .int (nI i)]) (rest := []) ⟨hx, hb, hml, hown, hts⟩ (ct_Pt_contains l D cI cZ _ a i (ha) (by omega)) ⟨va_cnB 2 hts (kx_gi wd_262) rfl rfl rfl (nw_602 hN) (hts _ wd_1) yd_Pt_contains ⟨Nat.le_of_ble_eq_true rfl, Nat.le_of_ble_eq_true rfl⟩, hts _ wd_261, trivial⟩ (kp_S hP hD hK hN [] rfl rfl) rfl rfl hl.1 rfl (lv_room (Nat.le_of_ble_eq_true rfl)) dc_Ck_firstReady_15 ⟨Nat.le_of_ble_eq_true rfl, Nat.le_of_ble_eq_true rfl⟩) ?_
        refine kb_if_eq hx hb dc_Ck_firstReady_18 rfl (fun hc18 => ?_) (fun hc18 => ?_)
        · refine lv_iinc (k := 0) (v := nI (i + 1)) (lv' := [(3, .int (nI (i + 1))), (0, .ref o), (1, .long (lN a))]) hx hb dc_Ck_firstReady_42 hl rfl (nI_1 _) (by decide) rfl (fun ls hl => ?_)
          refine lv_goto hx hb dc_Ck_firstReady_45 rfl ?_
          exact ih _ _ (by omega) hl (by rw [← h1]; exact (first_no (by omega) (by simp [hc18])).symm) (⟨by omega, by omega⟩)
        · refine lv_aload_n hx hb dc_Ck_firstReady_21 rfl (lv_at hl 1 rfl) ?_
          refine va_get (ci := 7) (v := .ref xa) (C := rn_Ck) (T := fd_Ck) (N := 5) hx hb hts in_Ck hown hK hP 0 rfl rfl 3 (by decide) (hts _ wd_579) (fun _ h9 => h9) rfl dc_Ck_firstReady_22 ?_
          refine lv_aload_n hx hb dc_Ck_firstReady_25 rfl (lv_at hl 1 rfl) ?_
          refine va_get (ci := 7) (v := .ref xc) (C := rn_Ck) (T := fd_Ck) (N := 5) hx hb hts in_Ck hown hK hP 0 rfl rfl 0 (by decide) (hts _ wd_576) (fun _ h9 => h9) rfl dc_Ck_firstReady_26 ?_
          refine va_getN (ci := 2) (v := .ref cb) (C := rn_Cl) (T := fd_Cl) (N := 4) hx hb hts in_Cl hown hK hP 1 rfl rfl 1 (by decide) (nf_70 hN) (fun _ h9 => h9) rfl dc_Ck_firstReady_29 ?_
          refine lv_iload_n hx hb dc_Ck_firstReady_32 rfl (lv_at hl 0 rfl) ?_
          refine ka_nald (t := fs) hx hb hK hP 2 0 rfl rfl (j := i) (by omega) (by omega) dc_Ck_firstReady_33 ?_
          refine kr_call1 (va_runV (As := [.int (nI (fs i))]) (rest := []) ⟨hx, hb, hml, hown, hts⟩ (ct_As_isReady l D cI cZ _ xa aa ab n t f (fs i) (h16 _)) (cwV 1 hts (kx_gV wd_628 wd_629 wd_630 wd_8 wd_631) rfl rfl rfl ⟨rfl, yd_As_isReady⟩ ⟨Nat.le_of_ble_eq_true rfl, Nat.le_of_ble_eq_true rfl⟩) (kp_V (q0 := 3) (ci := 6) hP hD hK hN [3] rfl rfl rfl rfl rfl) rfl rfl hl.1 rfl (lv_room (Nat.le_of_ble_eq_true rfl)) dc_Ck_firstReady_34 ⟨Nat.le_of_ble_eq_true rfl, Nat.le_of_ble_eq_true rfl⟩) ?_
          refine kb_if_eq hx hb dc_Ck_firstReady_37 rfl (fun hc37 => ?_) (fun hc37 => ?_)
          · refine lv_iinc (k := 0) (v := nI (i + 1)) (lv' := [(3, .int (nI (i + 1))), (0, .ref o), (1, .long (lN a))]) hx hb dc_Ck_firstReady_42 hl rfl (nI_1 _) (by decide) rfl (fun ls hl => ?_)
            refine lv_goto hx hb dc_Ck_firstReady_45 rfl ?_
            exact ih _ _ (by omega) hl (by rw [← h1]; exact (first_no (by omega) (by simp [hc37])).symm) (⟨by omega, by omega⟩)
          · refine lv_iload_n hx hb dc_Ck_firstReady_40 rfl (lv_at hl 0 rfl) ?_
            exact kr_iret hx hb hr hlocks dc_Ck_firstReady_41 (by rw [← h1, first_yes (by omega) (by simp [hc18, hc37])])
  exact lp_2 _ _ _ (Nat.lt_succ_self _) hl (rfl) (⟨by omega, by omega⟩)

set_option maxHeartbeats 4000000 in
set_option maxRecDepth 100000 in
theorem ct_Ck_propagate (l : Launch) (D : va_G) (cI cZ : ClassId) (sz : Nat) (o : Nat) (xc : Nat) (xs : Nat) (xt : Nat) (xa : Nat) (lv : Nat) (ca : Nat) (cb : Nat) (cd : Nat) (cn : Nat) (fs : Nat → Nat) (aa : Nat) (ab : Nat) (n : Nat) (t : Nat) (f : Nat) (rs : Nat → Nat) (im : Nat → Nat) (ta : Nat) (tb : Nat) (td : Nat) (g : Nat) (mk : Nat) (ckd : Bool) (hcn : cn ≤ 32) (h16 : ∀ j, fs j < 65536) (hlv : lv < 2 ^ 62) (hcap : pt_cap n t f) : Met l yn_Ck_propagate (Cond.code yn_Ck_propagate bc_Ck_propagate 3 (some .int) :: kx_all) ({ frames := 2, cells := 0, slots := 0, locals := 45 } : Room) (kp [.ref o] D cI cZ [ck_c o xc xs xt xa lv, cl_c xc ca cb cd cn, ar_n cI cb 33 fs, as_c xa aa ab n t f, ar_n cI aa 8 rs, ar_n cI ab 8 im, tr_c xt ta tb td g mk ckd] sz) (kw_q (some (.int (nI ((pt_prop fs lv mk cn 9 n t f rs im).1)))) D kc_l [ck_c o xc xs xt xa lv, cl_c xc ca cb cd cn, ar_n cI cb 33 fs, as_c xa aa ab ((pt_prop fs lv mk cn 9 n t f rs im).2.1) ((pt_prop fs lv mk cn 9 n t f rs im).2.2.1) ((pt_prop fs lv mk cn 9 n t f rs im).2.2.2.1), ar_n cI aa 8 ((pt_prop fs lv mk cn 9 n t f rs im).2.2.2.2.1), ar_n cI ab 8 ((pt_prop fs lv mk cn 9 n t f rs im).2.2.2.2.2), tr_c xt ta tb td g mk ckd] (va_A [ck_c o xc xs xt xa lv, cl_c xc ca cb cd cn, ar_n cI cb 33 fs, as_c xa aa ab n t f, ar_n cI aa 8 rs, ar_n cI ab 8 im, tr_c xt ta tb td g mk ckd] sz)) 0 0 (va_A [ck_c o xc xs xt xa lv, cl_c xc ca cb cd cn, ar_n cI cb 33 fs, as_c xa aa ab n t f, ar_n cI aa 8 rs, ar_n cI ab 8 im, tr_c xt ta tb td g mk ckd] sz) := by
  refine kx_metW (by decide) (Nat.le_of_ble_eq_true rfl) ?_
  intro p e s m below meth c ls A hx hb hr hml hts hown hlocks hin hA hP hK hD hN hl hS
  have hown : s.vm.findClass rn_Ck = some m.cls := hown
  have hl : lv_has ls 3 [(0, .ref o)] := hl
  refine lv_iconst (v := nI 0) hx hb dc_Ck_propagate_0 (by decide +kernel) ?_
  refine lv_istore_n (lv' := [(1, .int (nI 0)), (0, .ref o)]) hx hb dc_Ck_propagate_1 rfl hl (by decide) rfl (fun ls hl => ?_)
  have lp_2 : ∀ (K : Nat) (k : Nat) (i : Nat) (u : Nat) (v : Nat) (rk : Nat → Nat) (ik : Nat → Nat) (H : Heap) (locs : List Loc) (ls : Array Slot), 9 - k < K → va_P D kc_l [ck_c o xc xs xt xa lv, cl_c xc ca cb cd cn, ar_n cI cb 33 fs, as_c xa aa ab i u v, ar_n cI aa 8 rk, ar_n cI ab 8 ik, tr_c xt ta tb td g mk ckd] H → va_D A [ck_c o xc xs xt xa lv, cl_c xc ca cb cd cn, ar_n cI cb 33 fs, as_c xa aa ab i u v, ar_n cI aa 8 rk, ar_n cI ab 8 ik, tr_c xt ta tb td g mk ckd] → va_S A s.heap H locs → lv_has ls 3 [(1, .int (nI k)), (0, .ref o)] → (pt_prop fs lv mk cn (9 - k) i u v rk ik = pt_prop fs lv mk cn 9 n t f rs im) → (k ≤ 9) → (pt_cap i u v) → W p l e ({ frames := 2, cells := 0, slots := 0, locals := 45 } : Room) s m ([.ref o] : List Value).toArray below meth c H locs 0 0 (MQ below (kw_q (some (.int (nI ((pt_prop fs lv mk cn 9 n t f rs im).1)))) D kc_l [ck_c o xc xs xt xa lv, cl_c xc ca cb cd cn, ar_n cI cb 33 fs, as_c xa aa ab ((pt_prop fs lv mk cn 9 n t f rs im).2.1) ((pt_prop fs lv mk cn 9 n t f rs im).2.2.1) ((pt_prop fs lv mk cn 9 n t f rs im).2.2.2.1), ar_n cI aa 8 ((pt_prop fs lv mk cn 9 n t f rs im).2.2.2.2.1), ar_n cI ab 8 ((pt_prop fs lv mk cn 9 n t f rs im).2.2.2.2.2), tr_c xt ta tb td g mk ckd] A) ([.ref o] : List Value).toArray s 0 0 A) (F0 m 2 ls []) := by
    intro K
    induction K with
    | zero =>
      intro k i u v rk ik H locs ls hk
      exact absurd hk (Nat.not_lt_zero _)
    | succ K ih =>
      intro k i u v rk ik H locs ls hk hP hD hS hl h1 h2 h3
      have hb1 : pt_fr fs u v (lv &&& mk) cn < 64 := by
        rcases first_in _ cn 1 with h9 | ⟨-, h9, -⟩
        · exact Nat.lt_of_le_of_lt (Nat.le_of_eq h9) (by decide)
        · exact Nat.lt_of_lt_of_le h9 (by omega)
      have hb2 : pt_fr fs u v (nb_d lv mk) cn < 64 := by
        rcases first_in _ cn 1 with h9 | ⟨-, h9, -⟩
        · exact Nat.lt_of_le_of_lt (Nat.le_of_eq h9) (by decide)
        · exact Nat.lt_of_lt_of_le h9 (by omega)
      refine lv_iload_n hx hb dc_Ck_propagate_2 rfl (lv_at hl 0 rfl) ?_
      refine lv_bipush (v := nI 8) hx hb dc_Ck_propagate_3 (by decide +kernel) ?_
      refine kn_icmp_gt hx hb (by omega) (by omega) dc_Ck_propagate_5 rfl (fun hc5 => ?_) (fun hc5 => ?_)
      · refine lv_iconst (v := nI 0) hx hb dc_Ck_propagate_84 (by decide +kernel) ?_
        exact kw_iret hx hb hr hlocks hP hD hS dc_Ck_propagate_85 (by rw [← h1, show 9 - k = 0 by omega, pt_prop]) (by rw [← h1, show 9 - k = 0 by omega, pt_prop])
      · refine lv_aload_n hx hb dc_Ck_propagate_8 rfl (lv_at hl 1 rfl) ?_
        refine lv_aload_n hx hb dc_Ck_propagate_9 rfl (lv_at hl 1 rfl) ?_
        refine va_get (ci := 7) (v := .long (lN lv)) (C := rn_Ck) (T := fd_Ck) (N := 5) hx hb hts in_Ck hown hK hP 0 rfl rfl 4 (by decide) (hts _ wd_580) (fun _ h9 => h9) rfl dc_Ck_propagate_10 ?_
        refine lv_aload_n hx hb dc_Ck_propagate_13 rfl (lv_at hl 1 rfl) ?_
        refine va_get (ci := 7) (v := .ref xt) (C := rn_Ck) (T := fd_Ck) (N := 5) hx hb hts in_Ck hown hK hP 0 rfl rfl 2 (by decide) (hts _ wd_578) (fun _ h9 => h9) rfl dc_Ck_propagate_14 ?_
        refine va_getN (ci := 5) (v := .long (lN mk)) (C := rn_Tr) (T := fd_Tr) (N := 6) hx hb hts in_Tr hown hK hP 6 rfl rfl 4 (by decide) (nf_140 hN) (fun _ h9 => h9) rfl dc_Ck_propagate_17 ?_
        refine kl_land hx hb dc_Ck_propagate_20 ?_
        refine kr_call1 (va_runV (As := [.long (lN (lv &&& mk))]) (rest := []) ⟨hx, hb, hml, hown, hts⟩ (ct_Ck_firstReady l D cI cZ _ o xc xs xt xa lv ca cb cd cn fs aa ab i u v (lv &&& mk) (by omega) (h16) (Nat.lt_of_le_of_lt Nat.and_le_left hlv)) (cwV 1 hts (kx_gV wd_624 wd_626 (kx_sel (q := (yn_Ck_firstReady, 5)) (List.mem_append_left _ (List.mem_of_getElem? (i := 5) rfl))) wd_20 wd_627) rfl rfl rfl ⟨rfl, yd_Ck_firstReady⟩ ⟨Nat.le_of_ble_eq_true rfl, Nat.le_of_ble_eq_true rfl⟩) (kp_V (q0 := 0) (ci := 7) hP hD hK hN [0, 1, 2, 3] rfl rfl rfl rfl rfl) rfl rfl hl.1 rfl (lv_room (Nat.le_of_ble_eq_true rfl)) dc_Ck_propagate_21 ⟨Nat.le_of_ble_eq_true rfl, Nat.le_of_ble_eq_true rfl⟩) ?_
        refine lv_istore_n (lv' := [(2, .int (nI (pt_fr fs u v (lv &&& mk) cn))), (1, .int (nI k)), (0, .ref o)]) hx hb dc_Ck_propagate_24 rfl hl (by decide) rfl (fun ls hl => ?_)
        refine lv_iload_n hx hb dc_Ck_propagate_25 rfl (lv_at hl 0 rfl) ?_
        refine kn_if_ne hx hb (Nat.lt_trans hb1 (by decide)) dc_Ck_propagate_26 rfl (fun hc26 => ?_) (fun hc26 => ?_)
        · have hnx : pt_next fs lv mk cn u v = pt_fr fs u v (lv &&& mk) cn := by rw [pt_next, if_neg hc26]
          rw [← hnx] at hl
          have hni := next_in fs lv mk cn u v
          generalize hce : pt_next fs lv mk cn u v = ce at hl hni
          refine lv_iload_n hx hb dc_Ck_propagate_50 rfl (lv_at hl 0 rfl) ?_
          refine kn_if_ne hx hb (by omega) dc_Ck_propagate_51 rfl (fun hc51 => ?_) (fun hc51 => ?_)
          · have hce0 : ¬ ce = 0 := hc51
            obtain ⟨hce1, hce2, hce3, hce4⟩ := hni.resolve_left hce0
            refine lv_aload_n hx hb dc_Ck_propagate_56 rfl (lv_at hl 2 rfl) ?_
            refine va_get (ci := 7) (v := .ref xa) (C := rn_Ck) (T := fd_Ck) (N := 5) hx hb hts in_Ck hown hK hP 0 rfl rfl 3 (by decide) (hts _ wd_579) (fun _ h9 => h9) rfl dc_Ck_propagate_57 ?_
            refine lv_aload_n hx hb dc_Ck_propagate_60 rfl (lv_at hl 2 rfl) ?_
            refine va_get (ci := 7) (v := .ref xc) (C := rn_Ck) (T := fd_Ck) (N := 5) hx hb hts in_Ck hown hK hP 0 rfl rfl 0 (by decide) (hts _ wd_576) (fun _ h9 => h9) rfl dc_Ck_propagate_61 ?_
            refine va_getN (ci := 2) (v := .ref cb) (C := rn_Cl) (T := fd_Cl) (N := 4) hx hb hts in_Cl hown hK hP 1 rfl rfl 1 (by decide) (nf_70 hN) (fun _ h9 => h9) rfl dc_Ck_propagate_64 ?_
            refine lv_iload_n hx hb dc_Ck_propagate_67 rfl (lv_at hl 0 rfl) ?_
            refine ka_nald (t := fs) hx hb hK hP 2 0 rfl rfl (j := ce) (by omega) (by omega) dc_Ck_propagate_68 ?_
            refine lv_iload_n hx hb dc_Ck_propagate_69 rfl (lv_at hl 0 rfl) ?_
            by_cases hy0 : nb_d (fs ce) v = 0
            · refine kr_call1 (va_runV (As := [.int (nI (fs ce)), .int (nI ce)]) (rest := []) ⟨hx, hb, hml, hown, hts⟩ (ct_As_follow_no l D cI cZ _ xa aa ab i u v (fs ce) ce (h16 _) (hy0)) (cwV 2 hts (kx_gV wd_632 wd_633 wd_634 wd_8 wd_635) rfl rfl rfl ⟨rfl, yd_As_follow⟩ ⟨Nat.le_of_ble_eq_true rfl, Nat.le_of_ble_eq_true rfl⟩) (kp_V (q0 := 3) (ci := 6) hP hD hK hN [3] rfl rfl rfl rfl rfl) rfl rfl hl.1 rfl (lv_room (Nat.le_of_ble_eq_true rfl)) dc_Ck_propagate_70 ⟨Nat.le_of_ble_eq_true rfl, Nat.le_of_ble_eq_true rfl⟩) ?_
              refine kb_if_ne hx hb dc_Ck_propagate_73 rfl (fun hc73 => ?_) (fun hc73 => ?_)
              · exact absurd hc73 (by decide)
              · refine lv_iload_n hx hb dc_Ck_propagate_76 rfl (lv_at hl 0 rfl) ?_
                exact kw_iret hx hb hr hlocks hP hD hS dc_Ck_propagate_77 (by rw [← h1, show 9 - k = (9 - (k + 1)) + 1 by omega, pt_prop, hce, if_neg hce0, if_pos hy0]) (by rw [← h1, show 9 - k = (9 - (k + 1)) + 1 by omega, pt_prop, hce, if_neg hce0, if_pos hy0])
            · obtain ⟨hn8, hy16, hcap2⟩ := cap_step h3 (h16 ce) hce4 hy0
              refine kw_call1 (wr := [ck_c o xc xs xt xa lv, cl_c xc ca cb cd cn, ar_n cI cb 33 fs, tr_c xt ta tb td g mk ckd]) (ws' := [ck_c o xc xs xt xa lv, cl_c xc ca cb cd cn, ar_n cI cb 33 fs, as_c xa aa ab (i + 1) (u ||| nb_d (fs ce) v) (v ||| nb_op (nb_d (fs ce) v)), ar_n cI aa 8 (va_up rk i ce), ar_n cI ab 8 (va_up ik i (nb_d (fs ce) v)), tr_c xt ta tb td g mk ckd]) (va_runV (As := [.int (nI (fs ce)), .int (nI ce)]) (rest := []) ⟨hx, hb, hml, hown, hts⟩ (ct_As_follow l D cI cZ _ xa aa ab i u v rk ik (fs ce) ce (h16 _) (hy0) (hn8)) (cwV 2 hts (kx_gV wd_632 wd_633 wd_634 wd_8 wd_635) rfl rfl rfl ⟨rfl, yd_As_follow⟩ ⟨Nat.le_of_ble_eq_true rfl, Nat.le_of_ble_eq_true rfl⟩) (kp_V (q0 := 3) (ci := 6) hP hD hK hN [3, 4, 5] rfl rfl rfl rfl rfl) rfl rfl hl.1 rfl (lv_room (Nat.le_of_ble_eq_true rfl)) dc_Ck_propagate_70 ⟨Nat.le_of_ble_eq_true rfl, Nat.le_of_ble_eq_true rfl⟩) hP hD hS hA [3, 4, 5] [0, 1, 2, 6] [0, 1, 2, 4, 5, 6, 3] rfl rfl rfl (by decide) rfl rfl (fun H locs hP hD hS => ?_)
              refine kb_if_ne hx hb dc_Ck_propagate_73 rfl (fun hc73 => ?_) (fun hc73 => ?_)
              · refine lv_iinc (k := 1) (v := nI (k + 1)) (lv' := [(1, .int (nI (k + 1))), (2, .int (nI ce)), (0, .ref o)]) hx hb dc_Ck_propagate_78 hl rfl (nI_1 _) (by decide) rfl (fun ls hl => ?_)
                refine lv_goto hx hb dc_Ck_propagate_81 rfl ?_
                have hl := lv_sub (l' := [(1, .int (nI (k + 1))), (0, .ref o)]) hl [0, 2] rfl
                exact ih _ _ _ _ _ _ _ _ _ (by omega) hP hD hS hl (by rw [← h1, show 9 - k = (9 - (k + 1)) + 1 by omega, pt_prop, hce, if_neg hce0, if_neg hy0]) (by omega) (hcap2)
              · exact absurd hc73 (by decide)
          · refine lv_iconst (v := nI 0) hx hb dc_Ck_propagate_54 (by decide +kernel) ?_
            exact kw_iret hx hb hr hlocks hP hD hS dc_Ck_propagate_55 (by rw [← h1, show 9 - k = (9 - (k + 1)) + 1 by omega, pt_prop, hce, if_pos hc51]) (by rw [← h1, show 9 - k = (9 - (k + 1)) + 1 by omega, pt_prop, hce, if_pos hc51])
        · refine lv_aload_n hx hb dc_Ck_propagate_29 rfl (lv_at hl 2 rfl) ?_
          refine lv_aload_n hx hb dc_Ck_propagate_30 rfl (lv_at hl 2 rfl) ?_
          refine va_get (ci := 7) (v := .long (lN lv)) (C := rn_Ck) (T := fd_Ck) (N := 5) hx hb hts in_Ck hown hK hP 0 rfl rfl 4 (by decide) (hts _ wd_580) (fun _ h9 => h9) rfl dc_Ck_propagate_31 ?_
          refine lv_aload_n hx hb dc_Ck_propagate_34 rfl (lv_at hl 2 rfl) ?_
          refine va_get (ci := 7) (v := .ref xt) (C := rn_Ck) (T := fd_Ck) (N := 5) hx hb hts in_Ck hown hK hP 0 rfl rfl 2 (by decide) (hts _ wd_578) (fun _ h9 => h9) rfl dc_Ck_propagate_35 ?_
          refine va_getN (ci := 5) (v := .long (lN mk)) (C := rn_Tr) (T := fd_Tr) (N := 6) hx hb hts in_Tr hown hK hP 6 rfl rfl 4 (by decide) (nf_140 hN) (fun _ h9 => h9) rfl dc_Ck_propagate_38 ?_
          refine kl_ldc2 (y := (-1)) hx hb hown (hts _ wd_601) dc_Ck_propagate_41 (by decide +kernel) ?_
          refine lv_lxor hx hb dc_Ck_propagate_44 ?_
          refine kl_lnot hx hb dc_Ck_propagate_45 ?_
          refine kr_call1 (va_runV (As := [.long (lN (nb_d lv mk))]) (rest := []) ⟨hx, hb, hml, hown, hts⟩ (ct_Ck_firstReady l D cI cZ _ o xc xs xt xa lv ca cb cd cn fs aa ab i u v (nb_d lv mk) (by omega) (h16) (nb_d_lt hlv)) (cwV 1 hts (kx_gV wd_624 wd_626 (kx_sel (q := (yn_Ck_firstReady, 5)) (List.mem_append_left _ (List.mem_of_getElem? (i := 5) rfl))) wd_20 wd_627) rfl rfl rfl ⟨rfl, yd_Ck_firstReady⟩ ⟨Nat.le_of_ble_eq_true rfl, Nat.le_of_ble_eq_true rfl⟩) (kp_V (q0 := 0) (ci := 7) hP hD hK hN [0, 1, 2, 3] rfl rfl rfl rfl rfl) rfl rfl hl.1 rfl (lv_room (Nat.le_of_ble_eq_true rfl)) dc_Ck_propagate_46 ⟨Nat.le_of_ble_eq_true rfl, Nat.le_of_ble_eq_true rfl⟩) ?_
          refine lv_istore_n (lv' := [(2, .int (nI (pt_fr fs u v (nb_d lv mk) cn))), (1, .int (nI k)), (0, .ref o)]) hx hb dc_Ck_propagate_49 rfl hl (by decide) rfl (fun ls hl => ?_)
          have hnx : pt_next fs lv mk cn u v = pt_fr fs u v (nb_d lv mk) cn := by rw [pt_next, if_pos hc26]
          rw [← hnx] at hl
          have hni := next_in fs lv mk cn u v
          generalize hce : pt_next fs lv mk cn u v = ce at hl hni
          refine lv_iload_n hx hb dc_Ck_propagate_50 rfl (lv_at hl 0 rfl) ?_
          refine kn_if_ne hx hb (by omega) dc_Ck_propagate_51 rfl (fun hc51 => ?_) (fun hc51 => ?_)
          · have hce0 : ¬ ce = 0 := hc51
            obtain ⟨hce1, hce2, hce3, hce4⟩ := hni.resolve_left hce0
            refine lv_aload_n hx hb dc_Ck_propagate_56 rfl (lv_at hl 2 rfl) ?_
            refine va_get (ci := 7) (v := .ref xa) (C := rn_Ck) (T := fd_Ck) (N := 5) hx hb hts in_Ck hown hK hP 0 rfl rfl 3 (by decide) (hts _ wd_579) (fun _ h9 => h9) rfl dc_Ck_propagate_57 ?_
            refine lv_aload_n hx hb dc_Ck_propagate_60 rfl (lv_at hl 2 rfl) ?_
            refine va_get (ci := 7) (v := .ref xc) (C := rn_Ck) (T := fd_Ck) (N := 5) hx hb hts in_Ck hown hK hP 0 rfl rfl 0 (by decide) (hts _ wd_576) (fun _ h9 => h9) rfl dc_Ck_propagate_61 ?_
            refine va_getN (ci := 2) (v := .ref cb) (C := rn_Cl) (T := fd_Cl) (N := 4) hx hb hts in_Cl hown hK hP 1 rfl rfl 1 (by decide) (nf_70 hN) (fun _ h9 => h9) rfl dc_Ck_propagate_64 ?_
            refine lv_iload_n hx hb dc_Ck_propagate_67 rfl (lv_at hl 0 rfl) ?_
            refine ka_nald (t := fs) hx hb hK hP 2 0 rfl rfl (j := ce) (by omega) (by omega) dc_Ck_propagate_68 ?_
            refine lv_iload_n hx hb dc_Ck_propagate_69 rfl (lv_at hl 0 rfl) ?_
            by_cases hy0 : nb_d (fs ce) v = 0
            · refine kr_call1 (va_runV (As := [.int (nI (fs ce)), .int (nI ce)]) (rest := []) ⟨hx, hb, hml, hown, hts⟩ (ct_As_follow_no l D cI cZ _ xa aa ab i u v (fs ce) ce (h16 _) (hy0)) (cwV 2 hts (kx_gV wd_632 wd_633 wd_634 wd_8 wd_635) rfl rfl rfl ⟨rfl, yd_As_follow⟩ ⟨Nat.le_of_ble_eq_true rfl, Nat.le_of_ble_eq_true rfl⟩) (kp_V (q0 := 3) (ci := 6) hP hD hK hN [3] rfl rfl rfl rfl rfl) rfl rfl hl.1 rfl (lv_room (Nat.le_of_ble_eq_true rfl)) dc_Ck_propagate_70 ⟨Nat.le_of_ble_eq_true rfl, Nat.le_of_ble_eq_true rfl⟩) ?_
              refine kb_if_ne hx hb dc_Ck_propagate_73 rfl (fun hc73 => ?_) (fun hc73 => ?_)
              · exact absurd hc73 (by decide)
              · refine lv_iload_n hx hb dc_Ck_propagate_76 rfl (lv_at hl 0 rfl) ?_
                exact kw_iret hx hb hr hlocks hP hD hS dc_Ck_propagate_77 (by rw [← h1, show 9 - k = (9 - (k + 1)) + 1 by omega, pt_prop, hce, if_neg hce0, if_pos hy0]) (by rw [← h1, show 9 - k = (9 - (k + 1)) + 1 by omega, pt_prop, hce, if_neg hce0, if_pos hy0])
            · obtain ⟨hn8, hy16, hcap2⟩ := cap_step h3 (h16 ce) hce4 hy0
              refine kw_call1 (wr := [ck_c o xc xs xt xa lv, cl_c xc ca cb cd cn, ar_n cI cb 33 fs, tr_c xt ta tb td g mk ckd]) (ws' := [ck_c o xc xs xt xa lv, cl_c xc ca cb cd cn, ar_n cI cb 33 fs, as_c xa aa ab (i + 1) (u ||| nb_d (fs ce) v) (v ||| nb_op (nb_d (fs ce) v)), ar_n cI aa 8 (va_up rk i ce), ar_n cI ab 8 (va_up ik i (nb_d (fs ce) v)), tr_c xt ta tb td g mk ckd]) (va_runV (As := [.int (nI (fs ce)), .int (nI ce)]) (rest := []) ⟨hx, hb, hml, hown, hts⟩ (ct_As_follow l D cI cZ _ xa aa ab i u v rk ik (fs ce) ce (h16 _) (hy0) (hn8)) (cwV 2 hts (kx_gV wd_632 wd_633 wd_634 wd_8 wd_635) rfl rfl rfl ⟨rfl, yd_As_follow⟩ ⟨Nat.le_of_ble_eq_true rfl, Nat.le_of_ble_eq_true rfl⟩) (kp_V (q0 := 3) (ci := 6) hP hD hK hN [3, 4, 5] rfl rfl rfl rfl rfl) rfl rfl hl.1 rfl (lv_room (Nat.le_of_ble_eq_true rfl)) dc_Ck_propagate_70 ⟨Nat.le_of_ble_eq_true rfl, Nat.le_of_ble_eq_true rfl⟩) hP hD hS hA [3, 4, 5] [0, 1, 2, 6] [0, 1, 2, 4, 5, 6, 3] rfl rfl rfl (by decide) rfl rfl (fun H locs hP hD hS => ?_)
              refine kb_if_ne hx hb dc_Ck_propagate_73 rfl (fun hc73 => ?_) (fun hc73 => ?_)
              · refine lv_iinc (k := 1) (v := nI (k + 1)) (lv' := [(1, .int (nI (k + 1))), (2, .int (nI ce)), (0, .ref o)]) hx hb dc_Ck_propagate_78 hl rfl (nI_1 _) (by decide) rfl (fun ls hl => ?_)
                refine lv_goto hx hb dc_Ck_propagate_81 rfl ?_
                have hl := lv_sub (l' := [(1, .int (nI (k + 1))), (0, .ref o)]) hl [0, 2] rfl
                exact ih _ _ _ _ _ _ _ _ _ (by omega) hP hD hS hl (by rw [← h1, show 9 - k = (9 - (k + 1)) + 1 by omega, pt_prop, hce, if_neg hce0, if_neg hy0]) (by omega) (hcap2)
              · exact absurd hc73 (by decide)
          · refine lv_iconst (v := nI 0) hx hb dc_Ck_propagate_54 (by decide +kernel) ?_
            exact kw_iret hx hb hr hlocks hP hD hS dc_Ck_propagate_55 (by rw [← h1, show 9 - k = (9 - (k + 1)) + 1 by omega, pt_prop, hce, if_pos hc51]) (by rw [← h1, show 9 - k = (9 - (k + 1)) + 1 by omega, pt_prop, hce, if_pos hc51])
  exact lp_2 _ _ _ _ _ _ _ _ _ _ (Nat.lt_succ_self _) hP hD hS hl (rfl) (by omega) (hcap)

theorem ex_st {rs : Nat → Nat} {u a i : Nat} (h : a ≤ i) : pt_exs rs u a (i + 1 - a) = pt_exs rs u a (i - a) ++ (if u.testBit (rs i) = true then [nI (rs i)] else []) := by
  rw [show i + 1 - a = (i - a) + 1 by omega, pt_exs, show a + (i - a) = i by omega]

theorem exs_le (rs : Nat → Nat) (u a : Nat) : ∀ k d, (pt_exs rs u a k).length ≤ (pt_exs rs u a (k + d)).length := by
  intro k d
  induction d with
  | zero => exact Nat.le_refl _
  | succ d ih =>
    rw [← Nat.add_assoc, pt_exs, List.length_append]
    omega
theorem exs_mono {rs : Nat → Nat} {u a i n : Nat} (h : i ≤ n) : (pt_exs rs u a (i - a)).length ≤ (pt_exs rs u a (n - a)).length := by
  have h1 := exs_le rs u a (i - a) (n - a - (i - a))
  rw [show i - a + (n - a - (i - a)) = n - a by omega] at h1
  exact h1
theorem exs_len (rs : Nat → Nat) (u a : Nat) : ∀ k, (pt_exs rs u a k).length ≤ k := by
  intro k
  induction k with
  | zero => exact Nat.le_refl _
  | succ k ih =>
    rw [pt_exs, List.length_append]
    split <;> simp <;> omega

set_option maxHeartbeats 4000000 in
set_option maxRecDepth 100000 in
theorem ct_Ck_explain (l : Launch) (D : va_G) (cI cZ : ClassId) (sz : Nat) (o : Nat) (xc : Nat) (xs : Nat) (xt : Nat) (xa : Nat) (lv : Nat) (ca : Nat) (cb : Nat) (cd : Nat) (cn : Nat) (fs : Nat → Nat) (aa : Nat) (ab : Nat) (n : Nat) (t : Nat) (f : Nat) (rs : Nat → Nat) (im : Nat → Nat) (ta : Nat) (tb : Nat) (td : Nat) (g : Nat) (mk : Nat) (ckd : Bool) (ft : Nat → Nat) (fc : Nat → Nat) (fr : Nat → Int32) (j : Nat) (a : Nat) (cf : Nat) (hcn : cn ≤ 32) (hn8 : n ≤ 8) (hri : ∀ k, k < n → rs k ≤ 32 ∧ im k < 65536) (hcf : cf ≤ 32) (hj : j < 33) (han : a ≤ n) (hu0 : pt_used fs rs im n (2 ^ cf) (fs cf) < 2 ^ 62) (hfit : g + (pt_exs rs (pt_used fs rs im n (2 ^ cf) (fs cf)) a (n - a) ++ [nI cf]).length ≤ 2048) : Met l yn_Ck_explain (Cond.code yn_Ck_explain bc_Ck_explain 7 (some .long) :: kx_all) ({ frames := 2, cells := 0, slots := 0, locals := 46 } : Room) (kp [.ref o, .int (nI j), .int (nI a), .int (nI cf)] D cI cZ [ck_c o xc xs xt xa lv, cl_c xc ca cb cd cn, ar_n cI cb 33 fs, as_c xa aa ab n t f, ar_n cI aa 8 rs, ar_n cI ab 8 im, tr_c xt ta tb td g mk ckd, ar_n cI ta 33 ft, ar_n cI tb 33 fc, ar_i cI td 2048 fr] sz) (kw_q (some (.long (lN (pt_used fs rs im n (2 ^ cf) (fs cf))))) D kc_l [ck_c o xc xs xt xa lv, cl_c xc ca cb cd cn, ar_n cI cb 33 fs, as_c xa aa ab n t f, ar_n cI aa 8 rs, ar_n cI ab 8 im, tr_c xt ta tb td (g + (pt_exs rs (pt_used fs rs im n (2 ^ cf) (fs cf)) a (n - a) ++ [nI cf]).length) mk ckd, ar_n cI ta 33 ft, ar_n cI tb 33 (va_up fc j (fc j + (pt_exs rs (pt_used fs rs im n (2 ^ cf) (fs cf)) a (n - a) ++ [nI cf]).length)), ar_i cI td 2048 (pt_put fr g (pt_exs rs (pt_used fs rs im n (2 ^ cf) (fs cf)) a (n - a) ++ [nI cf]))] (va_A [ck_c o xc xs xt xa lv, cl_c xc ca cb cd cn, ar_n cI cb 33 fs, as_c xa aa ab n t f, ar_n cI aa 8 rs, ar_n cI ab 8 im, tr_c xt ta tb td g mk ckd, ar_n cI ta 33 ft, ar_n cI tb 33 fc, ar_i cI td 2048 fr] sz)) 0 0 (va_A [ck_c o xc xs xt xa lv, cl_c xc ca cb cd cn, ar_n cI cb 33 fs, as_c xa aa ab n t f, ar_n cI aa 8 rs, ar_n cI ab 8 im, tr_c xt ta tb td g mk ckd, ar_n cI ta 33 ft, ar_n cI tb 33 fc, ar_i cI td 2048 fr] sz) := by
  refine kx_metW (by decide) (Nat.le_of_ble_eq_true rfl) ?_
  intro p e s m below meth c ls A hx hb hr hml hts hown hlocks hin hA hP hK hD hN hl hS
  have hown : s.vm.findClass rn_Ck = some m.cls := hown
  have hl : lv_has ls 7 [(0, .ref o), (1, .int (nI j)), (2, .int (nI a)), (3, .int (nI cf))] := hl
  have hu : pt_used fs rs im n (2 ^ cf) (fs cf) < 2 ^ 62 := hu0
  refine lv_aload_n hx hb dc_Ck_explain_0 rfl (lv_at hl 0 rfl) ?_
  refine va_get (ci := 7) (v := .ref xa) (C := rn_Ck) (T := fd_Ck) (N := 5) hx hb hts in_Ck hown hK hP 0 rfl rfl 3 (by decide) (hts _ wd_579) (fun _ h9 => h9) rfl dc_Ck_explain_1 ?_
  refine lv_iload_n hx hb dc_Ck_explain_4 rfl (lv_at hl 3 rfl) ?_
  refine lv_aload_n hx hb dc_Ck_explain_5 rfl (lv_at hl 0 rfl) ?_
  refine va_get (ci := 7) (v := .ref xc) (C := rn_Ck) (T := fd_Ck) (N := 5) hx hb hts in_Ck hown hK hP 0 rfl rfl 0 (by decide) (hts _ wd_576) (fun _ h9 => h9) rfl dc_Ck_explain_6 ?_
  refine va_getN (ci := 2) (v := .ref cb) (C := rn_Cl) (T := fd_Cl) (N := 4) hx hb hts in_Cl hown hK hP 1 rfl rfl 1 (by decide) (nf_70 hN) (fun _ h9 => h9) rfl dc_Ck_explain_9 ?_
  refine kr_call1 (va_runV (As := [.int (nI cf), .ref cb]) (rest := []) ⟨hx, hb, hml, hown, hts⟩ (ct_As_usedFor l D cI cZ _ xa aa ab n t f rs im cf cb 33 fs (by omega) (by omega) (by omega) (fun k hk => ⟨by have := (hri k hk).1; omega, (hri k hk).2⟩)) (cwV 2 hts (kx_gV wd_640 wd_641 wd_642 wd_8 wd_643) rfl rfl rfl ⟨rfl, yd_As_usedFor⟩ ⟨Nat.le_of_ble_eq_true rfl, Nat.le_of_ble_eq_true rfl⟩) (kp_V (q0 := 3) (ci := 6) hP hD hK hN [3, 4, 5, 2] rfl rfl rfl rfl rfl) rfl rfl hl.1 rfl (lv_room (Nat.le_of_ble_eq_true rfl)) dc_Ck_explain_12 ⟨Nat.le_of_ble_eq_true rfl, Nat.le_of_ble_eq_true rfl⟩) ?_
  refine lv_lstore (lv' := [(4, .long (lN (pt_used fs rs im n (2 ^ cf) (fs cf)))), (0, .ref o), (1, .int (nI j)), (2, .int (nI a)), (3, .int (nI cf))]) hx hb dc_Ck_explain_15 hl (by decide) rfl (fun ls hl => ?_)
  refine lv_iload_n hx hb dc_Ck_explain_17 rfl (lv_at hl 3 rfl) ?_
  refine lv_istore (lv' := [(6, .int (nI a)), (4, .long (lN (pt_used fs rs im n (2 ^ cf) (fs cf)))), (0, .ref o), (1, .int (nI j)), (2, .int (nI a)), (3, .int (nI cf))]) hx hb dc_Ck_explain_18 hl (by decide) rfl (fun ls hl => ?_)
  have lp_20 : ∀ (K : Nat) (i : Nat) (gk : Nat) (ck1 : Nat → Nat) (rk : Nat → Int32) (H : Heap) (locs : List Loc) (ls : Array Slot), n - i < K → va_P D kc_l [ck_c o xc xs xt xa lv, cl_c xc ca cb cd cn, ar_n cI cb 33 fs, as_c xa aa ab n t f, ar_n cI aa 8 rs, ar_n cI ab 8 im, tr_c xt ta tb td gk mk ckd, ar_n cI ta 33 ft, ar_n cI tb 33 ck1, ar_i cI td 2048 rk] H → va_D A [ck_c o xc xs xt xa lv, cl_c xc ca cb cd cn, ar_n cI cb 33 fs, as_c xa aa ab n t f, ar_n cI aa 8 rs, ar_n cI ab 8 im, tr_c xt ta tb td gk mk ckd, ar_n cI ta 33 ft, ar_n cI tb 33 ck1, ar_i cI td 2048 rk] → va_S A s.heap H locs → lv_has ls 7 [(6, .int (nI i)), (4, .long (lN (pt_used fs rs im n (2 ^ cf) (fs cf)))), (0, .ref o), (1, .int (nI j)), (2, .int (nI a)), (3, .int (nI cf))] → (gk = g + (pt_exs rs (pt_used fs rs im n (2 ^ cf) (fs cf)) a (i - a)).length) → (ck1 = va_up fc j (fc j + (pt_exs rs (pt_used fs rs im n (2 ^ cf) (fs cf)) a (i - a)).length)) → (rk = pt_put fr g (pt_exs rs (pt_used fs rs im n (2 ^ cf) (fs cf)) a (i - a))) → (a ≤ i ∧ i ≤ n) → W p l e ({ frames := 2, cells := 0, slots := 0, locals := 46 } : Room) s m ([.ref o, .int (nI j), .int (nI a), .int (nI cf)] : List Value).toArray below meth c H locs 0 0 (MQ below (kw_q (some (.long (lN (pt_used fs rs im n (2 ^ cf) (fs cf))))) D kc_l [ck_c o xc xs xt xa lv, cl_c xc ca cb cd cn, ar_n cI cb 33 fs, as_c xa aa ab n t f, ar_n cI aa 8 rs, ar_n cI ab 8 im, tr_c xt ta tb td (g + (pt_exs rs (pt_used fs rs im n (2 ^ cf) (fs cf)) a (n - a) ++ [nI cf]).length) mk ckd, ar_n cI ta 33 ft, ar_n cI tb 33 (va_up fc j (fc j + (pt_exs rs (pt_used fs rs im n (2 ^ cf) (fs cf)) a (n - a) ++ [nI cf]).length)), ar_i cI td 2048 (pt_put fr g (pt_exs rs (pt_used fs rs im n (2 ^ cf) (fs cf)) a (n - a) ++ [nI cf]))] A) ([.ref o, .int (nI j), .int (nI a), .int (nI cf)] : List Value).toArray s 0 0 A) (F0 m 20 ls []) := by
    intro K
    induction K with
    | zero =>
      intro i gk ck1 rk H locs ls hk
      exact absurd hk (Nat.not_lt_zero _)
    | succ K ih =>
      intro i gk ck1 rk H locs ls hk hP hD hS hl hgk hck hrk h2
      refine lv_iload hx hb dc_Ck_explain_20 (lv_at hl 0 rfl) ?_
      refine lv_aload_n hx hb dc_Ck_explain_22 rfl (lv_at hl 2 rfl) ?_
      refine va_get (ci := 7) (v := .ref xa) (C := rn_Ck) (T := fd_Ck) (N := 5) hx hb hts in_Ck hown hK hP 0 rfl rfl 3 (by decide) (hts _ wd_579) (fun _ h9 => h9) rfl dc_Ck_explain_23 ?_
      refine va_getN (ci := 6) (v := .int (nI n)) (C := rn_As) (T := fd_As) (N := 5) hx hb hts in_As hown hK hP 3 rfl rfl 2 (by decide) (nf_168 hN) (fun _ h9 => h9) rfl dc_Ck_explain_26 ?_
      refine kn_icmp_ge hx hb (by omega) (by omega) dc_Ck_explain_29 rfl (fun hc29 => ?_) (fun hc29 => ?_)
      · refine lv_aload_n hx hb dc_Ck_explain_74 rfl (lv_at hl 2 rfl) ?_
        refine va_get (ci := 7) (v := .ref xt) (C := rn_Ck) (T := fd_Ck) (N := 5) hx hb hts in_Ck hown hK hP 0 rfl rfl 2 (by decide) (hts _ wd_578) (fun _ h9 => h9) rfl dc_Ck_explain_75 ?_
        refine lv_iload_n hx hb dc_Ck_explain_78 rfl (lv_at hl 3 rfl) ?_
        refine lv_iload_n hx hb dc_Ck_explain_79 rfl (lv_at hl 5 rfl) ?_
        refine kw_call0 (wr := [ck_c o xc xs xt xa lv, cl_c xc ca cb cd cn, ar_n cI cb 33 fs, as_c xa aa ab n t f, ar_n cI aa 8 rs, ar_n cI ab 8 im]) (ws' := [ck_c o xc xs xt xa lv, cl_c xc ca cb cd cn, ar_n cI cb 33 fs, as_c xa aa ab n t f, ar_n cI aa 8 rs, ar_n cI ab 8 im, tr_c xt ta tb td (gk + 1) mk ckd, ar_n cI ta 33 ft, ar_n cI tb 33 (va_up ck1 j (ck1 j + 1)), ar_i cI td 2048 (upd rk gk (nI cf))]) (va_runV (As := [.int (nI j), .int (nI cf)]) (rest := []) ⟨hx, hb, hml, hown, hts⟩ (ct_Tr_append l D cI cZ _ xt ta tb td gk mk ckd ft ck1 rk j (nI cf) (by omega) (by rw [List.length_append] at hfit; simp only [List.length_singleton] at hfit; rw [hgk, show i = n by omega]; omega)) (cwV 2 hts (kx_gV wd_645 wd_646 wd_647 wd_7 wd_648) rfl rfl rfl ⟨rfl, yd_Tr_append⟩ ⟨Nat.le_of_ble_eq_true rfl, Nat.le_of_ble_eq_true rfl⟩) (kp_V (q0 := 6) (ci := 5) hP hD hK hN [6, 7, 8, 9] rfl rfl rfl rfl rfl) rfl rfl hl.1 rfl (lv_room (Nat.le_of_ble_eq_true rfl)) dc_Ck_explain_80 ⟨Nat.le_of_ble_eq_true rfl, Nat.le_of_ble_eq_true rfl⟩) hP hD hS hA [6, 7, 8, 9] [0, 1, 2, 3, 4, 5] [0, 1, 2, 3, 4, 5, 6, 7, 8, 9] rfl rfl rfl (by decide) rfl rfl (fun H locs hP hD hS => ?_)
        refine lv_lload hx hb dc_Ck_explain_83 (lv_at hl 1 rfl) ?_
        exact kw_lret hx hb hr hlocks hP hD hS dc_Ck_explain_85 (rfl) (by rw [hrk, hck, hgk, show i = n by omega, put_s, cnt_s, List.length_append]; rfl)
      · refine lv_lload hx hb dc_Ck_explain_32 (lv_at hl 1 rfl) ?_
        refine lv_aload_n hx hb dc_Ck_explain_34 rfl (lv_at hl 2 rfl) ?_
        refine va_get (ci := 7) (v := .ref xa) (C := rn_Ck) (T := fd_Ck) (N := 5) hx hb hts in_Ck hown hK hP 0 rfl rfl 3 (by decide) (hts _ wd_579) (fun _ h9 => h9) rfl dc_Ck_explain_35 ?_
        refine va_getN (ci := 6) (v := .ref aa) (C := rn_As) (T := fd_As) (N := 5) hx hb hts in_As hown hK hP 3 rfl rfl 0 (by decide) (nf_165 hN) (fun _ h9 => h9) rfl dc_Ck_explain_38 ?_
        refine lv_iload hx hb dc_Ck_explain_41 (lv_at hl 0 rfl) ?_
        refine ka_nald (t := rs) hx hb hK hP 4 0 rfl rfl (j := i) (by omega) (by omega) dc_Ck_explain_43 ?_
        refine kr_call1 (va_runSN (As := [.long (lN (pt_used fs rs im n (2 ^ cf) (fs cf))), .int (nI (rs i))]) (rest := []) ⟨hx, hb, hml, hown, hts⟩ (ct_Pt_contains l D cI cZ _ (pt_used fs rs im n (2 ^ cf) (fs cf)) (rs i) (hu) (by have := (hri i (by omega)).1; omega)) ⟨va_cnB 2 hts (kx_gi wd_262) rfl rfl rfl (nw_602 hN) (hts _ wd_1) yd_Pt_contains ⟨Nat.le_of_ble_eq_true rfl, Nat.le_of_ble_eq_true rfl⟩, hts _ wd_261, trivial⟩ (kp_S hP hD hK hN [] rfl rfl) rfl rfl hl.1 rfl (lv_room (Nat.le_of_ble_eq_true rfl)) dc_Ck_explain_44 ⟨Nat.le_of_ble_eq_true rfl, Nat.le_of_ble_eq_true rfl⟩) ?_
        refine kb_if_eq hx hb dc_Ck_explain_47 rfl (fun hc47 => ?_) (fun hc47 => ?_)
        · refine lv_iinc (k := 0) (v := nI (i + 1)) (lv' := [(6, .int (nI (i + 1))), (4, .long (lN (pt_used fs rs im n (2 ^ cf) (fs cf)))), (0, .ref o), (1, .int (nI j)), (2, .int (nI a)), (3, .int (nI cf))]) hx hb dc_Ck_explain_68 hl rfl (nI_1 _) (by decide) rfl (fun ls hl => ?_)
          refine lv_goto hx hb dc_Ck_explain_71 rfl ?_
          exact ih _ _ _ _ _ _ _ (by omega) hP hD hS hl (by rw [hgk, ex_st (rs := rs) (u := pt_used fs rs im n (2 ^ cf) (fs cf)) (a := a) (i := i) h2.1, if_neg (by rw [hc47]; decide), List.append_nil]) (by rw [hck, ex_st (rs := rs) (u := pt_used fs rs im n (2 ^ cf) (fs cf)) (a := a) (i := i) h2.1, if_neg (by rw [hc47]; decide), List.append_nil]) (by rw [hrk, ex_st (rs := rs) (u := pt_used fs rs im n (2 ^ cf) (fs cf)) (a := a) (i := i) h2.1, if_neg (by rw [hc47]; decide), List.append_nil]) (⟨by omega, by omega⟩)
        · have h9 := exs_mono (rs := rs) (u := pt_used fs rs im n (2 ^ cf) (fs cf)) (a := a) (i := i + 1) (n := n) (by omega)
          rw [ex_st h2.1, if_pos hc47, List.length_append] at h9
          rw [List.length_append] at hfit
          simp only [List.length_singleton] at hfit h9
          refine lv_aload_n hx hb dc_Ck_explain_50 rfl (lv_at hl 2 rfl) ?_
          refine va_get (ci := 7) (v := .ref xt) (C := rn_Ck) (T := fd_Ck) (N := 5) hx hb hts in_Ck hown hK hP 0 rfl rfl 2 (by decide) (hts _ wd_578) (fun _ h9 => h9) rfl dc_Ck_explain_51 ?_
          refine lv_iload_n hx hb dc_Ck_explain_54 rfl (lv_at hl 3 rfl) ?_
          refine lv_aload_n hx hb dc_Ck_explain_55 rfl (lv_at hl 2 rfl) ?_
          refine va_get (ci := 7) (v := .ref xa) (C := rn_Ck) (T := fd_Ck) (N := 5) hx hb hts in_Ck hown hK hP 0 rfl rfl 3 (by decide) (hts _ wd_579) (fun _ h9 => h9) rfl dc_Ck_explain_56 ?_
          refine va_getN (ci := 6) (v := .ref aa) (C := rn_As) (T := fd_As) (N := 5) hx hb hts in_As hown hK hP 3 rfl rfl 0 (by decide) (nf_165 hN) (fun _ h9 => h9) rfl dc_Ck_explain_59 ?_
          refine lv_iload hx hb dc_Ck_explain_62 (lv_at hl 0 rfl) ?_
          refine ka_nald (t := rs) hx hb hK hP 4 0 rfl rfl (j := i) (by omega) (by omega) dc_Ck_explain_64 ?_
          refine kw_call0 (wr := [ck_c o xc xs xt xa lv, cl_c xc ca cb cd cn, ar_n cI cb 33 fs, as_c xa aa ab n t f, ar_n cI aa 8 rs, ar_n cI ab 8 im]) (ws' := [ck_c o xc xs xt xa lv, cl_c xc ca cb cd cn, ar_n cI cb 33 fs, as_c xa aa ab n t f, ar_n cI aa 8 rs, ar_n cI ab 8 im, tr_c xt ta tb td (gk + 1) mk ckd, ar_n cI ta 33 ft, ar_n cI tb 33 (va_up ck1 j (ck1 j + 1)), ar_i cI td 2048 (upd rk gk (nI (rs i)))]) (va_runV (As := [.int (nI j), .int (nI (rs i))]) (rest := []) ⟨hx, hb, hml, hown, hts⟩ (ct_Tr_append l D cI cZ _ xt ta tb td gk mk ckd ft ck1 rk j (nI (rs i)) (by omega) (by omega)) (cwV 2 hts (kx_gV wd_645 wd_646 wd_647 wd_7 wd_648) rfl rfl rfl ⟨rfl, yd_Tr_append⟩ ⟨Nat.le_of_ble_eq_true rfl, Nat.le_of_ble_eq_true rfl⟩) (kp_V (q0 := 6) (ci := 5) hP hD hK hN [6, 7, 8, 9] rfl rfl rfl rfl rfl) rfl rfl hl.1 rfl (lv_room (Nat.le_of_ble_eq_true rfl)) dc_Ck_explain_65 ⟨Nat.le_of_ble_eq_true rfl, Nat.le_of_ble_eq_true rfl⟩) hP hD hS hA [6, 7, 8, 9] [0, 1, 2, 3, 4, 5] [0, 1, 2, 3, 4, 5, 6, 7, 8, 9] rfl rfl rfl (by decide) rfl rfl (fun H locs hP hD hS => ?_)
          refine lv_iinc (k := 0) (v := nI (i + 1)) (lv' := [(6, .int (nI (i + 1))), (4, .long (lN (pt_used fs rs im n (2 ^ cf) (fs cf)))), (0, .ref o), (1, .int (nI j)), (2, .int (nI a)), (3, .int (nI cf))]) hx hb dc_Ck_explain_68 hl rfl (nI_1 _) (by decide) rfl (fun ls hl => ?_)
          refine lv_goto hx hb dc_Ck_explain_71 rfl ?_
          exact ih _ _ _ _ _ _ _ (by omega) hP hD hS hl (by rw [hgk, ex_st (rs := rs) (u := pt_used fs rs im n (2 ^ cf) (fs cf)) (a := a) (i := i) h2.1, if_pos hc47, List.length_append]; rfl) (by rw [hck, ex_st (rs := rs) (u := pt_used fs rs im n (2 ^ cf) (fs cf)) (a := a) (i := i) h2.1, if_pos hc47]; exact cnt_s) (by rw [hrk, hgk, ex_st (rs := rs) (u := pt_used fs rs im n (2 ^ cf) (fs cf)) (a := a) (i := i) h2.1, if_pos hc47]; exact put_s) (⟨by omega, by omega⟩)
  exact lp_20 _ _ _ _ _ _ _ _ (Nat.lt_succ_self _) hP hD hS hl (by rw [Nat.sub_self]; rfl) (by rw [Nat.sub_self]; exact cnt_0.symm) (by rw [Nat.sub_self]; exact put_0.symm) (⟨by omega, by omega⟩)
end
section
/-! the tries of a clause -/
theorem used_lt {fs rs im : Nat → Nat} : ∀ (k u lk : Nat), u < 2 ^ 33 → (∀ i, i < k → rs i ≤ 32) → pt_used fs rs im k u lk < 2 ^ 33 := by
  intro k
  induction k with
  | zero => intro u lk h _; exact h
  | succ k ih =>
    intro u lk h hr
    rw [pt_used]
    split
    · exact ih u lk h (fun i hi => hr i (by omega))
    · refine ih _ _ (Nat.or_lt_two_pow h (Nat.pow_lt_pow_right (by decide) ?_)) (fun i hi => hr i (by omega))
      have := hr k (by omega); omega
/-- an assignment that may be gone on with: room, and reasons and bits as they should be -/
def pt_aok (cn n t f : Nat) (rs im : Nat → Nat) : Prop := pt_cap n t f ∧ ∀ k, k < n → (1 ≤ rs k ∧ rs k ≤ cn) ∧ im k < 65536
theorem aok_n {cn n t f : Nat} {rs im : Nat → Nat} (h : pt_aok cn n t f rs im) : n ≤ 8 := by
  have := h.1.2.2; omega
theorem prop_ok {fs : Nat → Nat} {lv mk cn : Nat} (h16 : ∀ j, fs j < 65536) : ∀ (k n t f : Nat) (rs im : Nat → Nat), pt_aok cn n t f rs im →
    (pt_prop fs lv mk cn k n t f rs im).1 ≤ cn ∧ n ≤ (pt_prop fs lv mk cn k n t f rs im).2.1 ∧ pt_aok cn (pt_prop fs lv mk cn k n t f rs im).2.1 (pt_prop fs lv mk cn k n t f rs im).2.2.1 (pt_prop fs lv mk cn k n t f rs im).2.2.2.1 (pt_prop fs lv mk cn k n t f rs im).2.2.2.2.1 (pt_prop fs lv mk cn k n t f rs im).2.2.2.2.2 := by
  intro k
  induction k with
  | zero => intro n t f rs im h; exact ⟨Nat.zero_le _, Nat.le_refl _, h⟩
  | succ k ih =>
    intro n t f rs im h
    have hni := next_in fs lv mk cn t f
    rw [pt_prop]
    generalize pt_next fs lv mk cn t f = ce at hni ⊢
    by_cases h0 : ce = 0
    · rw [if_pos h0]; exact ⟨Nat.zero_le _, Nat.le_refl _, h⟩
    · obtain ⟨h1, h2, h3, h4⟩ := hni.resolve_left h0
      rw [if_neg h0]
      by_cases hy : nb_d (fs ce) f = 0
      · rw [if_pos hy]; exact ⟨h2, Nat.le_refl _, h⟩
      · rw [if_neg hy]
        obtain ⟨hn8, hy16, hcap2⟩ := cap_step h.1 (h16 ce) h4 hy
        obtain ⟨g1, g2, g3⟩ := ih (n + 1) (t ||| nb_d (fs ce) f) (f ||| nb_op (nb_d (fs ce) f)) (va_up rs n ce) (va_up im n (nb_d (fs ce) f)) ⟨hcap2, fun i hi => by
          by_cases hin : i = n
          · subst hin; rw [va_up_self, va_up_self]; exact ⟨⟨h1, h2⟩, hy16⟩
          · rw [va_up_ne _ _ hin, va_up_ne _ _ hin]; exact h.2 i (by omega)⟩
        exact ⟨g1, by omega, g3⟩
/-- the reasons so far, as hints and as a set -/
def pt_rl (rs : Nat → Nat) : Nat → List Int32
  | 0 => []
  | k + 1 => pt_rl rs k ++ [nI (rs k)]
def pt_ru (rs : Nat → Nat) : Nat → Nat
  | 0 => 0
  | k + 1 => pt_ru rs k ||| 2 ^ rs k
theorem ru_lt {rs : Nat → Nat} : ∀ k, (∀ i, i < k → rs i ≤ 32) → pt_ru rs k < 2 ^ 33 := by
  intro k
  induction k with
  | zero => intro _; show 0 < 2 ^ 33; decide
  | succ k ih =>
    intro h
    rw [pt_ru]
    refine Nat.or_lt_two_pow (ih (fun i hi => h i (by omega))) (Nat.pow_lt_pow_right (by decide) ?_)
    have := h k (by omega); omega
/-- the tries for the partners from p on: settled or not, the used ones, the hints, the assignment -/
def pt_sp (fs : Nat → Nat) (lv mk cn pv rc n0 : Nat) : Nat → Nat → Nat → List Int32 → Nat → Nat → Nat → (Nat → Nat) → (Nat → Nat) → Bool × Nat × List Int32 × Nat × Nat × Nat × (Nat → Nat) × (Nat → Nat)
  | 0, _, u, L, n, t, f, rs, im => (true, u, L, n, t, f, rs, im)
  | k + 1, p, u, L, n, t, f, rs, im =>
    if lv.testBit p = false ∨ fs p &&& pv = 0 then pt_sp fs lv mk cn pv rc n0 k (p + 1) u L n t f rs im
    else if ¬ nb_d (fs p) pv &&& rc = 0 then pt_sp fs lv mk cn pv rc n0 k (p + 1) (u ||| 2 ^ p) (L ++ [-nI p]) n t f rs im
    else
      let R := pt_prop fs lv mk cn 9 n0 (rc ||| nb_op (nb_d (fs p) pv)) (nb_op (rc ||| nb_op (nb_d (fs p) pv))) rs im
      if R.1 = 0 then (false, u ||| 2 ^ p, L ++ [-nI p], R.2)
      else pt_sp fs lv mk cn pv rc n0 k (p + 1) (u ||| 2 ^ p ||| pt_used fs R.2.2.2.2.1 R.2.2.2.2.2 R.2.1 (2 ^ R.1) (fs R.1)) (L ++ [-nI p] ++ (pt_exs R.2.2.2.2.1 (pt_used fs R.2.2.2.2.1 R.2.2.2.2.2 R.2.1 (2 ^ R.1) (fs R.1)) n0 (R.2.1 - n0) ++ [nI R.1])) R.2.1 R.2.2.1 R.2.2.2.1 R.2.2.2.2.1 R.2.2.2.2.2
theorem sp_len {fs : Nat → Nat} {lv mk cn pv rc n0 : Nat} : ∀ (k p u : Nat) (L : List Int32) (n t f : Nat) (rs im : Nat → Nat), L.length ≤ (pt_sp fs lv mk cn pv rc n0 k p u L n t f rs im).2.2.1.length := by
  intro k
  induction k with
  | zero => intro p u L n t f rs im; exact Nat.le_refl _
  | succ k ih =>
    intro p u L n t f rs im
    rw [pt_sp]
    split
    · exact ih _ _ _ _ _ _ _ _
    · split
      · exact Nat.le_trans (by simp) (ih _ _ _ _ _ _ _ _)
      · dsimp only
        split
        · simp
        · exact Nat.le_trans (by simp only [List.length_append]; omega) (ih _ _ _ _ _ _ _ _)
theorem sp_no {fs : Nat → Nat} {lv mk cn pv rc n0 p u : Nat} {L : List Int32} {n t f : Nat} {rs im : Nat → Nat} (h : p ≤ cn) (hp : lv.testBit p = false ∨ fs p &&& pv = 0) : pt_sp fs lv mk cn pv rc n0 (cn + 1 - p) p u L n t f rs im = pt_sp fs lv mk cn pv rc n0 (cn + 1 - (p + 1)) (p + 1) u L n t f rs im := by
  rw [show cn + 1 - p = (cn + 1 - (p + 1)) + 1 by omega, pt_sp, if_pos hp]
theorem sp_true {fs : Nat → Nat} {lv mk cn pv rc n0 p u : Nat} {L : List Int32} {n t f : Nat} {rs im : Nat → Nat} (h : p ≤ cn) (hp : ¬ (lv.testBit p = false ∨ fs p &&& pv = 0)) (ho : ¬ nb_d (fs p) pv &&& rc = 0) : pt_sp fs lv mk cn pv rc n0 (cn + 1 - p) p u L n t f rs im = pt_sp fs lv mk cn pv rc n0 (cn + 1 - (p + 1)) (p + 1) (u ||| 2 ^ p) (L ++ [-nI p]) n t f rs im := by
  rw [show cn + 1 - p = (cn + 1 - (p + 1)) + 1 by omega, pt_sp, if_neg hp, if_pos ho]
theorem sp_bad {fs : Nat → Nat} {lv mk cn pv rc n0 p u : Nat} {L : List Int32} {n t f : Nat} {rs im : Nat → Nat} (h : p ≤ cn) (hp : ¬ (lv.testBit p = false ∨ fs p &&& pv = 0)) (ho : nb_d (fs p) pv &&& rc = 0) (hR : (pt_prop fs lv mk cn 9 n0 (rc ||| nb_op (nb_d (fs p) pv)) (nb_op (rc ||| nb_op (nb_d (fs p) pv))) rs im).1 = 0) : pt_sp fs lv mk cn pv rc n0 (cn + 1 - p) p u L n t f rs im = (false, u ||| 2 ^ p, L ++ [-nI p], (pt_prop fs lv mk cn 9 n0 (rc ||| nb_op (nb_d (fs p) pv)) (nb_op (rc ||| nb_op (nb_d (fs p) pv))) rs im).2) := by
  rw [show cn + 1 - p = (cn + 1 - (p + 1)) + 1 by omega, pt_sp, if_neg hp, if_neg (fun q => q ho)]
  dsimp only
  rw [if_pos hR]
theorem sp_go {fs : Nat → Nat} {lv mk cn pv rc n0 p u : Nat} {L : List Int32} {n t f : Nat} {rs im : Nat → Nat} (h : p ≤ cn) (hp : ¬ (lv.testBit p = false ∨ fs p &&& pv = 0)) (ho : nb_d (fs p) pv &&& rc = 0) {R : Nat × Nat × Nat × Nat × (Nat → Nat) × (Nat → Nat)} (hRe : pt_prop fs lv mk cn 9 n0 (rc ||| nb_op (nb_d (fs p) pv)) (nb_op (rc ||| nb_op (nb_d (fs p) pv))) rs im = R) (hR : ¬ R.1 = 0) : pt_sp fs lv mk cn pv rc n0 (cn + 1 - p) p u L n t f rs im = pt_sp fs lv mk cn pv rc n0 (cn + 1 - (p + 1)) (p + 1) (u ||| 2 ^ p ||| pt_used fs R.2.2.2.2.1 R.2.2.2.2.2 R.2.1 (2 ^ R.1) (fs R.1)) (L ++ [-nI p] ++ (pt_exs R.2.2.2.2.1 (pt_used fs R.2.2.2.2.1 R.2.2.2.2.2 R.2.1 (2 ^ R.1) (fs R.1)) n0 (R.2.1 - n0) ++ [nI R.1])) R.2.1 R.2.2.1 R.2.2.2.1 R.2.2.2.2.1 R.2.2.2.2.2 := by
  subst hRe
  rw [show cn + 1 - p = (cn + 1 - (p + 1)) + 1 by omega, pt_sp, if_neg hp, if_neg (fun q => q ho)]
  dsimp only
  rw [if_neg hR]
theorem sp_en {fs : Nat → Nat} {lv mk cn pv rc n0 p u : Nat} {L : List Int32} {n t f : Nat} {rs im : Nat → Nat} (h : cn < p) : pt_sp fs lv mk cn pv rc n0 (cn + 1 - p) p u L n t f rs im = (true, u, L, n, t, f, rs, im) := by
  rw [show cn + 1 - p = 0 by omega, pt_sp]
theorem put_app {fr : Nat → Int32} {g : Nat} {L M : List Int32} : pt_put (pt_put fr g L) (g + L.length) M = pt_put fr g (L ++ M) := by
  funext j
  unfold pt_put
  rw [List.length_append]
  by_cases h : g + L.length ≤ j ∧ j < g + L.length + M.length
  · rw [if_pos h, if_pos (by omega), List.getD_eq_getElem?_getD, List.getD_eq_getElem?_getD, List.getElem?_append_right (by omega), show j - g - L.length = j - (g + L.length) by omega]
  · rw [if_neg h]
    by_cases h2 : g ≤ j ∧ j < g + L.length
    · rw [if_pos h2, if_pos (by omega), List.getD_eq_getElem?_getD, List.getD_eq_getElem?_getD, List.getElem?_append_left (by omega)]
    · rw [if_neg h2, if_neg (by omega)]
theorem cnt_app {fc : Nat → Nat} {c : Nat} {L M : List Int32} : va_up (va_up fc c (fc c + L.length)) c (va_up fc c (fc c + L.length) c + M.length) = va_up fc c (fc c + (L ++ M).length) := by
  rw [va_up_self, bx_uu, List.length_append, Nat.add_assoc]
theorem len_app {g : Nat} {L M : List Int32} : g + (L ++ M).length = g + L.length + M.length := by
  rw [List.length_append, Nat.add_assoc]
theorem len_s {g : Nat} {L : List Int32} {x : Int32} : g + (L ++ [x]).length = g + L.length + 1 := by
  rw [List.length_append]; rfl
theorem free_mono : ∀ (t x : Nat), pt_free (t ||| x) ≤ pt_free t := by
  intro t x
  unfold pt_free
  simp only [List.range, List.range.loop, List.map_cons, List.map_nil, List.sum_cons, List.sum_nil, Nat.testBit_or]
  have key : ∀ v, (if (t.testBit v || x.testBit v) = false ∧ (t.testBit (v + 8) || x.testBit (v + 8)) = false then 1 else 0) ≤ (if t.testBit v = false ∧ t.testBit (v + 8) = false then 1 else 0) := by
    intro v
    cases t.testBit v <;> cases t.testBit (v + 8) <;> cases x.testBit v <;> cases x.testBit (v + 8) <;> decide
  have h0 := key 0
  have h1 := key 1
  have h2 := key 2
  have h3 := key 3
  have h4 := key 4
  have h5 := key 5
  have h6 := key 6
  have h7 := key 7
  omega

theorem dc_Ck_settlesPartners_0 : decode bc_Ck_settlesPartners 0 = .ok (.aload_n 0, 1) := by decide +kernel
theorem dc_Ck_settlesPartners_1 : decode bc_Ck_settlesPartners 1 = .ok (.getfield 23, 3) := by decide +kernel
theorem dc_Ck_settlesPartners_4 : decode bc_Ck_settlesPartners 4 = .ok (.getfield 101, 3) := by decide +kernel
theorem dc_Ck_settlesPartners_7 : decode bc_Ck_settlesPartners 7 = .ok (.istore_n 2, 1) := by decide +kernel
theorem dc_Ck_settlesPartners_8 : decode bc_Ck_settlesPartners 8 = .ok (.aload_n 0, 1) := by decide +kernel
theorem dc_Ck_settlesPartners_9 : decode bc_Ck_settlesPartners 9 = .ok (.getfield 23, 3) := by decide +kernel
theorem dc_Ck_settlesPartners_12 : decode bc_Ck_settlesPartners 12 = .ok (.getfield 104, 3) := by decide +kernel
theorem dc_Ck_settlesPartners_15 : decode bc_Ck_settlesPartners 15 = .ok (.istore_n 3, 1) := by decide +kernel
theorem dc_Ck_settlesPartners_16 : decode bc_Ck_settlesPartners 16 = .ok (.lconst 0, 1) := by decide +kernel
theorem dc_Ck_settlesPartners_17 : decode bc_Ck_settlesPartners 17 = .ok (.lstore 4, 2) := by decide +kernel
theorem dc_Ck_settlesPartners_19 : decode bc_Ck_settlesPartners 19 = .ok (.iconst 0, 1) := by decide +kernel
theorem dc_Ck_settlesPartners_20 : decode bc_Ck_settlesPartners 20 = .ok (.istore 6, 2) := by decide +kernel
theorem dc_Ck_settlesPartners_22 : decode bc_Ck_settlesPartners 22 = .ok (.iload 6, 2) := by decide +kernel
theorem dc_Ck_settlesPartners_24 : decode bc_Ck_settlesPartners 24 = .ok (.iload_n 3, 1) := by decide +kernel
theorem dc_Ck_settlesPartners_25 : decode bc_Ck_settlesPartners 25 = .ok (.if_icmp .ge (45), 3) := by decide +kernel
theorem dc_Ck_settlesPartners_28 : decode bc_Ck_settlesPartners 28 = .ok (.aload_n 0, 1) := by decide +kernel
theorem dc_Ck_settlesPartners_29 : decode bc_Ck_settlesPartners 29 = .ok (.getfield 19, 3) := by decide +kernel
theorem dc_Ck_settlesPartners_32 : decode bc_Ck_settlesPartners 32 = .ok (.iload_n 1, 1) := by decide +kernel
theorem dc_Ck_settlesPartners_33 : decode bc_Ck_settlesPartners 33 = .ok (.aload_n 0, 1) := by decide +kernel
theorem dc_Ck_settlesPartners_34 : decode bc_Ck_settlesPartners 34 = .ok (.getfield 23, 3) := by decide +kernel
theorem dc_Ck_settlesPartners_37 : decode bc_Ck_settlesPartners 37 = .ok (.getfield 105, 3) := by decide +kernel
theorem dc_Ck_settlesPartners_40 : decode bc_Ck_settlesPartners 40 = .ok (.iload 6, 2) := by decide +kernel
theorem dc_Ck_settlesPartners_42 : decode bc_Ck_settlesPartners 42 = .ok (.iaload, 1) := by decide +kernel
theorem dc_Ck_settlesPartners_43 : decode bc_Ck_settlesPartners 43 = .ok (.invokevirtual 108, 3) := by decide +kernel
theorem dc_Ck_settlesPartners_46 : decode bc_Ck_settlesPartners 46 = .ok (.lload 4, 2) := by decide +kernel
theorem dc_Ck_settlesPartners_48 : decode bc_Ck_settlesPartners 48 = .ok (.aload_n 0, 1) := by decide +kernel
theorem dc_Ck_settlesPartners_49 : decode bc_Ck_settlesPartners 49 = .ok (.getfield 23, 3) := by decide +kernel
theorem dc_Ck_settlesPartners_52 : decode bc_Ck_settlesPartners 52 = .ok (.getfield 105, 3) := by decide +kernel
theorem dc_Ck_settlesPartners_55 : decode bc_Ck_settlesPartners 55 = .ok (.iload 6, 2) := by decide +kernel
theorem dc_Ck_settlesPartners_57 : decode bc_Ck_settlesPartners 57 = .ok (.iaload, 1) := by decide +kernel
theorem dc_Ck_settlesPartners_58 : decode bc_Ck_settlesPartners 58 = .ok (.invokestatic 43, 3) := by decide +kernel
theorem dc_Ck_settlesPartners_61 : decode bc_Ck_settlesPartners 61 = .ok (.lor, 1) := by decide +kernel
theorem dc_Ck_settlesPartners_62 : decode bc_Ck_settlesPartners 62 = .ok (.lstore 4, 2) := by decide +kernel
theorem dc_Ck_settlesPartners_64 : decode bc_Ck_settlesPartners 64 = .ok (.iinc 6 (1), 3) := by decide +kernel
theorem dc_Ck_settlesPartners_67 : decode bc_Ck_settlesPartners 67 = .ok (.goto (-45), 3) := by decide +kernel
theorem dc_Ck_settlesPartners_70 : decode bc_Ck_settlesPartners 70 = .ok (.aload_n 0, 1) := by decide +kernel
theorem dc_Ck_settlesPartners_71 : decode bc_Ck_settlesPartners 71 = .ok (.getfield 9, 3) := by decide +kernel
theorem dc_Ck_settlesPartners_74 : decode bc_Ck_settlesPartners 74 = .ok (.iload_n 1, 1) := by decide +kernel
theorem dc_Ck_settlesPartners_75 : decode bc_Ck_settlesPartners 75 = .ok (.iconst 0, 1) := by decide +kernel
theorem dc_Ck_settlesPartners_76 : decode bc_Ck_settlesPartners 76 = .ok (.invokevirtual 111, 3) := by decide +kernel
theorem dc_Ck_settlesPartners_79 : decode bc_Ck_settlesPartners 79 = .ok (.ineg, 1) := by decide +kernel
theorem dc_Ck_settlesPartners_80 : decode bc_Ck_settlesPartners 80 = .ok (.invokestatic 115, 3) := by decide +kernel
theorem dc_Ck_settlesPartners_83 : decode bc_Ck_settlesPartners 83 = .ok (.istore 6, 2) := by decide +kernel
theorem dc_Ck_settlesPartners_85 : decode bc_Ck_settlesPartners 85 = .ok (.iconst 1, 1) := by decide +kernel
theorem dc_Ck_settlesPartners_86 : decode bc_Ck_settlesPartners 86 = .ok (.istore 7, 2) := by decide +kernel
theorem dc_Ck_settlesPartners_88 : decode bc_Ck_settlesPartners 88 = .ok (.iload 7, 2) := by decide +kernel
theorem dc_Ck_settlesPartners_90 : decode bc_Ck_settlesPartners 90 = .ok (.aload_n 0, 1) := by decide +kernel
theorem dc_Ck_settlesPartners_91 : decode bc_Ck_settlesPartners 91 = .ok (.getfield 9, 3) := by decide +kernel
theorem dc_Ck_settlesPartners_94 : decode bc_Ck_settlesPartners 94 = .ok (.getfield 37, 3) := by decide +kernel
theorem dc_Ck_settlesPartners_97 : decode bc_Ck_settlesPartners 97 = .ok (.if_icmp .gt (129), 3) := by decide +kernel
theorem dc_Ck_settlesPartners_100 : decode bc_Ck_settlesPartners 100 = .ok (.aload_n 0, 1) := by decide +kernel
theorem dc_Ck_settlesPartners_101 : decode bc_Ck_settlesPartners 101 = .ok (.getfield 33, 3) := by decide +kernel
theorem dc_Ck_settlesPartners_104 : decode bc_Ck_settlesPartners 104 = .ok (.iload 7, 2) := by decide +kernel
theorem dc_Ck_settlesPartners_106 : decode bc_Ck_settlesPartners 106 = .ok (.invokestatic 62, 3) := by decide +kernel
theorem dc_Ck_settlesPartners_109 : decode bc_Ck_settlesPartners 109 = .ok (.ifCond .eq (111), 3) := by decide +kernel
theorem dc_Ck_settlesPartners_112 : decode bc_Ck_settlesPartners 112 = .ok (.aload_n 0, 1) := by decide +kernel
theorem dc_Ck_settlesPartners_113 : decode bc_Ck_settlesPartners 113 = .ok (.getfield 9, 3) := by decide +kernel
theorem dc_Ck_settlesPartners_116 : decode bc_Ck_settlesPartners 116 = .ok (.getfield 74, 3) := by decide +kernel
theorem dc_Ck_settlesPartners_119 : decode bc_Ck_settlesPartners 119 = .ok (.iload 7, 2) := by decide +kernel
theorem dc_Ck_settlesPartners_121 : decode bc_Ck_settlesPartners 121 = .ok (.iaload, 1) := by decide +kernel
theorem dc_Ck_settlesPartners_122 : decode bc_Ck_settlesPartners 122 = .ok (.iload 6, 2) := by decide +kernel
theorem dc_Ck_settlesPartners_124 : decode bc_Ck_settlesPartners 124 = .ok (.iand, 1) := by decide +kernel
theorem dc_Ck_settlesPartners_125 : decode bc_Ck_settlesPartners 125 = .ok (.ifCond .ne (6), 3) := by decide +kernel
theorem dc_Ck_settlesPartners_128 : decode bc_Ck_settlesPartners 128 = .ok (.goto (92), 3) := by decide +kernel
theorem dc_Ck_settlesPartners_131 : decode bc_Ck_settlesPartners 131 = .ok (.aload_n 0, 1) := by decide +kernel
theorem dc_Ck_settlesPartners_132 : decode bc_Ck_settlesPartners 132 = .ok (.getfield 19, 3) := by decide +kernel
theorem dc_Ck_settlesPartners_135 : decode bc_Ck_settlesPartners 135 = .ok (.iload_n 1, 1) := by decide +kernel
theorem dc_Ck_settlesPartners_136 : decode bc_Ck_settlesPartners 136 = .ok (.iload 7, 2) := by decide +kernel
theorem dc_Ck_settlesPartners_138 : decode bc_Ck_settlesPartners 138 = .ok (.ineg, 1) := by decide +kernel
theorem dc_Ck_settlesPartners_139 : decode bc_Ck_settlesPartners 139 = .ok (.invokevirtual 108, 3) := by decide +kernel
theorem dc_Ck_settlesPartners_142 : decode bc_Ck_settlesPartners 142 = .ok (.lload 4, 2) := by decide +kernel
theorem dc_Ck_settlesPartners_144 : decode bc_Ck_settlesPartners 144 = .ok (.iload 7, 2) := by decide +kernel
theorem dc_Ck_settlesPartners_146 : decode bc_Ck_settlesPartners 146 = .ok (.invokestatic 43, 3) := by decide +kernel
theorem dc_Ck_settlesPartners_149 : decode bc_Ck_settlesPartners 149 = .ok (.lor, 1) := by decide +kernel
theorem dc_Ck_settlesPartners_150 : decode bc_Ck_settlesPartners 150 = .ok (.lstore 4, 2) := by decide +kernel
theorem dc_Ck_settlesPartners_152 : decode bc_Ck_settlesPartners 152 = .ok (.aload_n 0, 1) := by decide +kernel
theorem dc_Ck_settlesPartners_153 : decode bc_Ck_settlesPartners 153 = .ok (.getfield 9, 3) := by decide +kernel
theorem dc_Ck_settlesPartners_156 : decode bc_Ck_settlesPartners 156 = .ok (.getfield 74, 3) := by decide +kernel
theorem dc_Ck_settlesPartners_159 : decode bc_Ck_settlesPartners 159 = .ok (.iload 7, 2) := by decide +kernel
theorem dc_Ck_settlesPartners_161 : decode bc_Ck_settlesPartners 161 = .ok (.iaload, 1) := by decide +kernel
theorem dc_Ck_settlesPartners_162 : decode bc_Ck_settlesPartners 162 = .ok (.iload 6, 2) := by decide +kernel
theorem dc_Ck_settlesPartners_164 : decode bc_Ck_settlesPartners 164 = .ok (.iconst (-1), 1) := by decide +kernel
theorem dc_Ck_settlesPartners_165 : decode bc_Ck_settlesPartners 165 = .ok (.ixor, 1) := by decide +kernel
theorem dc_Ck_settlesPartners_166 : decode bc_Ck_settlesPartners 166 = .ok (.iand, 1) := by decide +kernel
theorem dc_Ck_settlesPartners_167 : decode bc_Ck_settlesPartners 167 = .ok (.istore 8, 2) := by decide +kernel
theorem dc_Ck_settlesPartners_169 : decode bc_Ck_settlesPartners 169 = .ok (.iload 8, 2) := by decide +kernel
theorem dc_Ck_settlesPartners_171 : decode bc_Ck_settlesPartners 171 = .ok (.iload_n 2, 1) := by decide +kernel
theorem dc_Ck_settlesPartners_172 : decode bc_Ck_settlesPartners 172 = .ok (.iand, 1) := by decide +kernel
theorem dc_Ck_settlesPartners_173 : decode bc_Ck_settlesPartners 173 = .ok (.ifCond .eq (6), 3) := by decide +kernel
theorem dc_Ck_settlesPartners_176 : decode bc_Ck_settlesPartners 176 = .ok (.goto (44), 3) := by decide +kernel
theorem dc_Ck_settlesPartners_179 : decode bc_Ck_settlesPartners 179 = .ok (.aload_n 0, 1) := by decide +kernel
theorem dc_Ck_settlesPartners_180 : decode bc_Ck_settlesPartners 180 = .ok (.getfield 23, 3) := by decide +kernel
theorem dc_Ck_settlesPartners_183 : decode bc_Ck_settlesPartners 183 = .ok (.iload_n 2, 1) := by decide +kernel
theorem dc_Ck_settlesPartners_184 : decode bc_Ck_settlesPartners 184 = .ok (.iload 8, 2) := by decide +kernel
theorem dc_Ck_settlesPartners_186 : decode bc_Ck_settlesPartners 186 = .ok (.invokestatic 77, 3) := by decide +kernel
theorem dc_Ck_settlesPartners_189 : decode bc_Ck_settlesPartners 189 = .ok (.ior, 1) := by decide +kernel
theorem dc_Ck_settlesPartners_190 : decode bc_Ck_settlesPartners 190 = .ok (.iload_n 3, 1) := by decide +kernel
theorem dc_Ck_settlesPartners_191 : decode bc_Ck_settlesPartners 191 = .ok (.invokevirtual 81, 3) := by decide +kernel
theorem dc_Ck_settlesPartners_194 : decode bc_Ck_settlesPartners 194 = .ok (.aload_n 0, 1) := by decide +kernel
theorem dc_Ck_settlesPartners_195 : decode bc_Ck_settlesPartners 195 = .ok (.invokevirtual 87, 3) := by decide +kernel
theorem dc_Ck_settlesPartners_198 : decode bc_Ck_settlesPartners 198 = .ok (.istore 9, 2) := by decide +kernel
theorem dc_Ck_settlesPartners_200 : decode bc_Ck_settlesPartners 200 = .ok (.iload 9, 2) := by decide +kernel
theorem dc_Ck_settlesPartners_202 : decode bc_Ck_settlesPartners 202 = .ok (.ifCond .ne (5), 3) := by decide +kernel
theorem dc_Ck_settlesPartners_205 : decode bc_Ck_settlesPartners 205 = .ok (.iconst 0, 1) := by decide +kernel
theorem dc_Ck_settlesPartners_206 : decode bc_Ck_settlesPartners 206 = .ok (.ireturn, 1) := by decide +kernel
theorem dc_Ck_settlesPartners_207 : decode bc_Ck_settlesPartners 207 = .ok (.lload 4, 2) := by decide +kernel
theorem dc_Ck_settlesPartners_209 : decode bc_Ck_settlesPartners 209 = .ok (.aload_n 0, 1) := by decide +kernel
theorem dc_Ck_settlesPartners_210 : decode bc_Ck_settlesPartners 210 = .ok (.iload_n 1, 1) := by decide +kernel
theorem dc_Ck_settlesPartners_211 : decode bc_Ck_settlesPartners 211 = .ok (.iload_n 3, 1) := by decide +kernel
theorem dc_Ck_settlesPartners_212 : decode bc_Ck_settlesPartners 212 = .ok (.iload 9, 2) := by decide +kernel
theorem dc_Ck_settlesPartners_214 : decode bc_Ck_settlesPartners 214 = .ok (.invokevirtual 91, 3) := by decide +kernel
theorem dc_Ck_settlesPartners_217 : decode bc_Ck_settlesPartners 217 = .ok (.lor, 1) := by decide +kernel
theorem dc_Ck_settlesPartners_218 : decode bc_Ck_settlesPartners 218 = .ok (.lstore 4, 2) := by decide +kernel
theorem dc_Ck_settlesPartners_220 : decode bc_Ck_settlesPartners 220 = .ok (.iinc 7 (1), 3) := by decide +kernel
theorem dc_Ck_settlesPartners_223 : decode bc_Ck_settlesPartners 223 = .ok (.goto (-135), 3) := by decide +kernel
theorem dc_Ck_settlesPartners_226 : decode bc_Ck_settlesPartners 226 = .ok (.aload_n 0, 1) := by decide +kernel
theorem dc_Ck_settlesPartners_227 : decode bc_Ck_settlesPartners 227 = .ok (.getfield 19, 3) := by decide +kernel
theorem dc_Ck_settlesPartners_230 : decode bc_Ck_settlesPartners 230 = .ok (.dup, 1) := by decide +kernel
theorem dc_Ck_settlesPartners_231 : decode bc_Ck_settlesPartners 231 = .ok (.getfield 46, 3) := by decide +kernel
theorem dc_Ck_settlesPartners_234 : decode bc_Ck_settlesPartners 234 = .ok (.lload 4, 2) := by decide +kernel
theorem dc_Ck_settlesPartners_236 : decode bc_Ck_settlesPartners 236 = .ok (.lor, 1) := by decide +kernel
theorem dc_Ck_settlesPartners_237 : decode bc_Ck_settlesPartners 237 = .ok (.putfield 46, 3) := by decide +kernel
theorem dc_Ck_settlesPartners_240 : decode bc_Ck_settlesPartners 240 = .ok (.iconst 1, 1) := by decide +kernel
theorem dc_Ck_settlesPartners_241 : decode bc_Ck_settlesPartners 241 = .ok (.ireturn, 1) := by decide +kernel
theorem rl_len (rs : Nat → Nat) : ∀ k, (pt_rl rs k).length = k := by
  intro k
  induction k with
  | zero => rfl
  | succ k ih => rw [pt_rl, List.length_append, ih]; rfl
theorem sp_len1 {fs : Nat → Nat} {lv mk cn pv rc n0 p u : Nat} {L : List Int32} {n t f : Nat} {rs im : Nat → Nat} (h : p ≤ cn) (hp : ¬ (lv.testBit p = false ∨ fs p &&& pv = 0)) : (L ++ [-nI p]).length ≤ (pt_sp fs lv mk cn pv rc n0 (cn + 1 - p) p u L n t f rs im).2.2.1.length := by
  by_cases ho : nb_d (fs p) pv &&& rc = 0
  · by_cases hR : (pt_prop fs lv mk cn 9 n0 (rc ||| nb_op (nb_d (fs p) pv)) (nb_op (rc ||| nb_op (nb_d (fs p) pv))) rs im).1 = 0
    · rw [sp_bad h hp ho hR]; exact Nat.le_refl _
    · rw [sp_go h hp ho rfl hR]
      exact Nat.le_trans (by simp only [List.length_append]; omega) (sp_len _ _ _ _ _ _ _ _ _)
  · rw [sp_true h hp ho]; exact sp_len _ _ _ _ _ _ _ _ _

set_option maxHeartbeats 4000000 in
set_option maxRecDepth 100000 in
theorem ct_Ck_settlesPartners (l : Launch) (D : va_G) (cI cZ : ClassId) (sz : Nat) (o : Nat) (xc : Nat) (xs : Nat) (xt : Nat) (xa : Nat) (lv : Nat) (ca : Nat) (cb : Nat) (cd : Nat) (cn : Nat) (fz : Nat → Nat) (fs : Nat → Nat) (fl : Nat → Int32) (aa : Nat) (ab : Nat) (n : Nat) (t : Nat) (f : Nat) (rs : Nat → Nat) (im : Nat → Nat) (ta : Nat) (tb : Nat) (td : Nat) (g : Nat) (mk : Nat) (ckd : Bool) (ft : Nat → Nat) (fc : Nat → Nat) (fr : Nat → Int32) (j : Nat) (qb : Nat) (pb : Nat) (hcn : cn ≤ 32) (h16 : ∀ j, fs j < 65536) (hlv : lv < 2 ^ 62) (hz : ∀ i, 1 ≤ i → i ≤ cn → fz i ≤ 8) (hok : pt_aok cn n t f rs im) (hj1 : 1 ≤ j) (hj2 : j ≤ cn) (hz1 : 1 ≤ fz j) (hqb : qb < 16) (hlit : fl (j * 8) = pt_lit qb) (hpb : (qb + 8) % 16 = pb) (hfit : g + (pt_sp fs lv mk cn (2 ^ pb) t n cn 1 (pt_ru rs n) (pt_rl rs n) n t f rs im).2.2.1.length ≤ 2048) : Met l yn_Ck_settlesPartners (Cond.code yn_Ck_settlesPartners bc_Ck_settlesPartners 10 (some .boolean) :: kx_all) ({ frames := 3, cells := 0, slots := 0, locals := 72 } : Room) (kp [.ref o, .int (nI j)] D cI cZ [ck_c o xc xs xt xa lv, cl_c xc ca cb cd cn, ar_n cI ca 33 fz, ar_n cI cb 33 fs, ar_i cI cd (33 * 8) fl, as_c xa aa ab n t f, ar_n cI aa 8 rs, ar_n cI ab 8 im, tr_c xt ta tb td g mk ckd, ar_n cI ta 33 ft, ar_n cI tb 33 fc, ar_i cI td 2048 fr] sz) (kw_q (some (.int (kb_i ((pt_sp fs lv mk cn (2 ^ pb) t n cn 1 (pt_ru rs n) (pt_rl rs n) n t f rs im).1)))) D kc_l [ck_c o xc xs xt xa lv, cl_c xc ca cb cd cn, ar_n cI ca 33 fz, ar_n cI cb 33 fs, ar_i cI cd (33 * 8) fl, as_c xa aa ab ((pt_sp fs lv mk cn (2 ^ pb) t n cn 1 (pt_ru rs n) (pt_rl rs n) n t f rs im).2.2.2.1) ((pt_sp fs lv mk cn (2 ^ pb) t n cn 1 (pt_ru rs n) (pt_rl rs n) n t f rs im).2.2.2.2.1) ((pt_sp fs lv mk cn (2 ^ pb) t n cn 1 (pt_ru rs n) (pt_rl rs n) n t f rs im).2.2.2.2.2.1), ar_n cI aa 8 ((pt_sp fs lv mk cn (2 ^ pb) t n cn 1 (pt_ru rs n) (pt_rl rs n) n t f rs im).2.2.2.2.2.2.1), ar_n cI ab 8 ((pt_sp fs lv mk cn (2 ^ pb) t n cn 1 (pt_ru rs n) (pt_rl rs n) n t f rs im).2.2.2.2.2.2.2), tr_c xt ta tb td (g + (pt_sp fs lv mk cn (2 ^ pb) t n cn 1 (pt_ru rs n) (pt_rl rs n) n t f rs im).2.2.1.length) (if (pt_sp fs lv mk cn (2 ^ pb) t n cn 1 (pt_ru rs n) (pt_rl rs n) n t f rs im).1 = true then mk ||| (pt_sp fs lv mk cn (2 ^ pb) t n cn 1 (pt_ru rs n) (pt_rl rs n) n t f rs im).2.1 else mk) ckd, ar_n cI ta 33 ft, ar_n cI tb 33 (va_up fc j (fc j + (pt_sp fs lv mk cn (2 ^ pb) t n cn 1 (pt_ru rs n) (pt_rl rs n) n t f rs im).2.2.1.length)), ar_i cI td 2048 (pt_put fr g (pt_sp fs lv mk cn (2 ^ pb) t n cn 1 (pt_ru rs n) (pt_rl rs n) n t f rs im).2.2.1)] (va_A [ck_c o xc xs xt xa lv, cl_c xc ca cb cd cn, ar_n cI ca 33 fz, ar_n cI cb 33 fs, ar_i cI cd (33 * 8) fl, as_c xa aa ab n t f, ar_n cI aa 8 rs, ar_n cI ab 8 im, tr_c xt ta tb td g mk ckd, ar_n cI ta 33 ft, ar_n cI tb 33 fc, ar_i cI td 2048 fr] sz)) 0 0 (va_A [ck_c o xc xs xt xa lv, cl_c xc ca cb cd cn, ar_n cI ca 33 fz, ar_n cI cb 33 fs, ar_i cI cd (33 * 8) fl, as_c xa aa ab n t f, ar_n cI aa 8 rs, ar_n cI ab 8 im, tr_c xt ta tb td g mk ckd, ar_n cI ta 33 ft, ar_n cI tb 33 fc, ar_i cI td 2048 fr] sz) := by
  refine kx_metW (by decide) (Nat.le_of_ble_eq_true rfl) ?_
  intro p e s m below meth c ls A hx hb hr hml hts hown hlocks hin hA hP hK hD hN hl hS
  have hown : s.vm.findClass rn_Ck = some m.cls := hown
  have hl : lv_has ls 10 [(0, .ref o), (1, .int (nI j))] := hl
  have hn8 := aok_n hok
  have hfit0 : g + n ≤ 2048 := by
    have h9 := sp_len (fs := fs) (lv := lv) (mk := mk) (cn := cn) (pv := 2 ^ pb) (rc := t) (n0 := n) cn 1 (pt_ru rs n) (pt_rl rs n) n t f rs im
    rw [rl_len] at h9
    omega
  refine lv_aload_n hx hb dc_Ck_settlesPartners_0 rfl (lv_at hl 0 rfl) ?_
  refine va_get (ci := 7) (v := .ref xa) (C := rn_Ck) (T := fd_Ck) (N := 5) hx hb hts in_Ck hown hK hP 0 rfl rfl 3 (by decide) (hts _ wd_579) (fun _ h9 => h9) rfl dc_Ck_settlesPartners_1 ?_
  refine va_getN (ci := 6) (v := .int (nI t)) (C := rn_As) (T := fd_As) (N := 5) hx hb hts in_As hown hK hP 5 rfl rfl 3 (by decide) (nf_170 hN) (fun _ h9 => h9) rfl dc_Ck_settlesPartners_4 ?_
  refine lv_istore_n (lv' := [(2, .int (nI t)), (0, .ref o), (1, .int (nI j))]) hx hb dc_Ck_settlesPartners_7 rfl hl (by decide) rfl (fun ls hl => ?_)
  refine lv_aload_n hx hb dc_Ck_settlesPartners_8 rfl (lv_at hl 1 rfl) ?_
  refine va_get (ci := 7) (v := .ref xa) (C := rn_Ck) (T := fd_Ck) (N := 5) hx hb hts in_Ck hown hK hP 0 rfl rfl 3 (by decide) (hts _ wd_579) (fun _ h9 => h9) rfl dc_Ck_settlesPartners_9 ?_
  refine va_getN (ci := 6) (v := .int (nI n)) (C := rn_As) (T := fd_As) (N := 5) hx hb hts in_As hown hK hP 5 rfl rfl 2 (by decide) (nf_168 hN) (fun _ h9 => h9) rfl dc_Ck_settlesPartners_12 ?_
  refine lv_istore_n (lv' := [(3, .int (nI n)), (2, .int (nI t)), (0, .ref o), (1, .int (nI j))]) hx hb dc_Ck_settlesPartners_15 rfl hl (by decide) rfl (fun ls hl => ?_)
  refine lv_lconst (v := lN 0) hx hb dc_Ck_settlesPartners_16 (by decide +kernel) ?_
  refine lv_lstore (lv' := [(4, .long (lN 0)), (3, .int (nI n)), (2, .int (nI t)), (0, .ref o), (1, .int (nI j))]) hx hb dc_Ck_settlesPartners_17 hl (by decide) rfl (fun ls hl => ?_)
  refine lv_iconst (v := nI 0) hx hb dc_Ck_settlesPartners_19 (by decide +kernel) ?_
  refine lv_istore (lv' := [(6, .int (nI 0)), (4, .long (lN 0)), (3, .int (nI n)), (2, .int (nI t)), (0, .ref o), (1, .int (nI j))]) hx hb dc_Ck_settlesPartners_20 hl (by decide) rfl (fun ls hl => ?_)
  have hP : va_P D kc_l [ck_c o xc xs xt xa lv, cl_c xc ca cb cd cn, ar_n cI ca 33 fz, ar_n cI cb 33 fs, ar_i cI cd (33 * 8) fl, as_c xa aa ab n t f, ar_n cI aa 8 rs, ar_n cI ab 8 im, tr_c xt ta tb td (g + (pt_rl rs 0).length) mk ckd, ar_n cI ta 33 ft, ar_n cI tb 33 (va_up fc j (fc j + (pt_rl rs 0).length)), ar_i cI td 2048 (pt_put fr g (pt_rl rs 0))] s.heap := by rw [show pt_rl rs 0 = [] from rfl, put_0, cnt_0]; exact hP
  have hD : va_D A [ck_c o xc xs xt xa lv, cl_c xc ca cb cd cn, ar_n cI ca 33 fz, ar_n cI cb 33 fs, ar_i cI cd (33 * 8) fl, as_c xa aa ab n t f, ar_n cI aa 8 rs, ar_n cI ab 8 im, tr_c xt ta tb td (g + (pt_rl rs 0).length) mk ckd, ar_n cI ta 33 ft, ar_n cI tb 33 (va_up fc j (fc j + (pt_rl rs 0).length)), ar_i cI td 2048 (pt_put fr g (pt_rl rs 0))] := by rw [show pt_rl rs 0 = [] from rfl, put_0, cnt_0]; exact hD
  have lp_22 : ∀ (K : Nat) (i : Nat) (H : Heap) (locs : List Loc) (ls : Array Slot), n - i < K → va_P D kc_l [ck_c o xc xs xt xa lv, cl_c xc ca cb cd cn, ar_n cI ca 33 fz, ar_n cI cb 33 fs, ar_i cI cd (33 * 8) fl, as_c xa aa ab n t f, ar_n cI aa 8 rs, ar_n cI ab 8 im, tr_c xt ta tb td (g + (pt_rl rs i).length) mk ckd, ar_n cI ta 33 ft, ar_n cI tb 33 (va_up fc j (fc j + (pt_rl rs i).length)), ar_i cI td 2048 (pt_put fr g (pt_rl rs i))] H → va_D A [ck_c o xc xs xt xa lv, cl_c xc ca cb cd cn, ar_n cI ca 33 fz, ar_n cI cb 33 fs, ar_i cI cd (33 * 8) fl, as_c xa aa ab n t f, ar_n cI aa 8 rs, ar_n cI ab 8 im, tr_c xt ta tb td (g + (pt_rl rs i).length) mk ckd, ar_n cI ta 33 ft, ar_n cI tb 33 (va_up fc j (fc j + (pt_rl rs i).length)), ar_i cI td 2048 (pt_put fr g (pt_rl rs i))] → va_S A s.heap H locs → lv_has ls 10 [(6, .int (nI i)), (4, .long (lN (pt_ru rs i))), (3, .int (nI n)), (2, .int (nI t)), (0, .ref o), (1, .int (nI j))] → (i ≤ n) → W p l e ({ frames := 3, cells := 0, slots := 0, locals := 72 } : Room) s m ([.ref o, .int (nI j)] : List Value).toArray below meth c H locs 0 0 (MQ below (kw_q (some (.int (kb_i ((pt_sp fs lv mk cn (2 ^ pb) t n cn 1 (pt_ru rs n) (pt_rl rs n) n t f rs im).1)))) D kc_l [ck_c o xc xs xt xa lv, cl_c xc ca cb cd cn, ar_n cI ca 33 fz, ar_n cI cb 33 fs, ar_i cI cd (33 * 8) fl, as_c xa aa ab ((pt_sp fs lv mk cn (2 ^ pb) t n cn 1 (pt_ru rs n) (pt_rl rs n) n t f rs im).2.2.2.1) ((pt_sp fs lv mk cn (2 ^ pb) t n cn 1 (pt_ru rs n) (pt_rl rs n) n t f rs im).2.2.2.2.1) ((pt_sp fs lv mk cn (2 ^ pb) t n cn 1 (pt_ru rs n) (pt_rl rs n) n t f rs im).2.2.2.2.2.1), ar_n cI aa 8 ((pt_sp fs lv mk cn (2 ^ pb) t n cn 1 (pt_ru rs n) (pt_rl rs n) n t f rs im).2.2.2.2.2.2.1), ar_n cI ab 8 ((pt_sp fs lv mk cn (2 ^ pb) t n cn 1 (pt_ru rs n) (pt_rl rs n) n t f rs im).2.2.2.2.2.2.2), tr_c xt ta tb td (g + (pt_sp fs lv mk cn (2 ^ pb) t n cn 1 (pt_ru rs n) (pt_rl rs n) n t f rs im).2.2.1.length) (if (pt_sp fs lv mk cn (2 ^ pb) t n cn 1 (pt_ru rs n) (pt_rl rs n) n t f rs im).1 = true then mk ||| (pt_sp fs lv mk cn (2 ^ pb) t n cn 1 (pt_ru rs n) (pt_rl rs n) n t f rs im).2.1 else mk) ckd, ar_n cI ta 33 ft, ar_n cI tb 33 (va_up fc j (fc j + (pt_sp fs lv mk cn (2 ^ pb) t n cn 1 (pt_ru rs n) (pt_rl rs n) n t f rs im).2.2.1.length)), ar_i cI td 2048 (pt_put fr g (pt_sp fs lv mk cn (2 ^ pb) t n cn 1 (pt_ru rs n) (pt_rl rs n) n t f rs im).2.2.1)] A) ([.ref o, .int (nI j)] : List Value).toArray s 0 0 A) (F0 m 22 ls []) := by
    intro K
    induction K with
    | zero =>
      intro i H locs ls hk
      exact absurd hk (Nat.not_lt_zero _)
    | succ K ih =>
      intro i H locs ls hk hP hD hS hl h2
      refine lv_iload hx hb dc_Ck_settlesPartners_22 (lv_at hl 0 rfl) ?_
      refine lv_iload_n hx hb dc_Ck_settlesPartners_24 rfl (lv_at hl 2 rfl) ?_
      refine kn_icmp_ge hx hb (by omega) (by omega) dc_Ck_settlesPartners_25 rfl (fun hc25 => ?_) (fun hc25 => ?_)
      · have hin9 : i = n := by omega
        rw [hin9] at hl hP hD
        refine lv_aload_n hx hb dc_Ck_settlesPartners_70 rfl (lv_at hl 4 rfl) ?_
        refine va_get (ci := 7) (v := .ref xc) (C := rn_Ck) (T := fd_Ck) (N := 5) hx hb hts in_Ck hown hK hP 0 rfl rfl 0 (by decide) (hts _ wd_576) (fun _ h9 => h9) rfl dc_Ck_settlesPartners_71 ?_
        refine lv_iload_n hx hb dc_Ck_settlesPartners_74 rfl (lv_at hl 5 rfl) ?_
        refine lv_iconst (v := nI 0) hx hb dc_Ck_settlesPartners_75 (by decide +kernel) ?_
        refine kr_call1 (va_runV (As := [.int (nI j), .int (nI 0)]) (rest := []) ⟨hx, hb, hml, hown, hts⟩ (ct_Cl_literalAt l D cI cZ _ xc ca cb cd 33 cn fz fs fl j 0 (by omega) (by omega) (hz) (by omega) (by omega)) (cwV 2 hts (kx_gV wd_653 wd_248 wd_249 wd_4 wd_250) rfl rfl rfl ⟨rfl, yd_Cl_literalAt⟩ ⟨Nat.le_of_ble_eq_true rfl, Nat.le_of_ble_eq_true rfl⟩) (kp_V (q0 := 1) (ci := 2) hP hD hK hN [1, 2, 3, 4] rfl rfl rfl rfl rfl) rfl rfl hl.1 rfl (lv_room (Nat.le_of_ble_eq_true rfl)) dc_Ck_settlesPartners_76 ⟨Nat.le_of_ble_eq_true rfl, Nat.le_of_ble_eq_true rfl⟩) ?_
        refine kn_top (y := pt_lit qb) ((if_pos ⟨⟨by omega, by omega⟩, by omega⟩).trans (by rw [Nat.add_zero]; exact hlit)) ?_
        refine lv_ineg hx hb dc_Ck_settlesPartners_79 ?_
        refine kn_top (y := pt_lit pb) ((pt_lit_op qb hqb).trans (by rw [hpb])) ?_
        refine kr_call1 (va_runSN (As := [.int (pt_lit pb)]) (rest := []) ⟨hx, hb, hml, hown, hts⟩ (ct_Pt_only l D cI cZ _ pb (by omega)) ⟨va_cnB 1 hts (kx_gi wd_416) rfl rfl rfl (nw_654 hN) (hts _ wd_1) yd_Pt_only ⟨Nat.le_of_ble_eq_true rfl, Nat.le_of_ble_eq_true rfl⟩, hts _ wd_415, trivial⟩ (kp_S hP hD hK hN [] rfl rfl) rfl rfl hl.1 rfl (lv_room (Nat.le_of_ble_eq_true rfl)) dc_Ck_settlesPartners_80 ⟨Nat.le_of_ble_eq_true rfl, Nat.le_of_ble_eq_true rfl⟩) ?_
        refine lv_istore (lv' := [(6, .int (nI (2 ^ pb))), (4, .long (lN (pt_ru rs n))), (3, .int (nI n)), (2, .int (nI t)), (0, .ref o), (1, .int (nI j))]) hx hb dc_Ck_settlesPartners_83 hl (by decide) rfl (fun ls hl => ?_)
        refine lv_iconst (v := nI 1) hx hb dc_Ck_settlesPartners_85 (by decide +kernel) ?_
        refine lv_istore (lv' := [(7, .int (nI 1)), (6, .int (nI (2 ^ pb))), (4, .long (lN (pt_ru rs n))), (3, .int (nI n)), (2, .int (nI t)), (0, .ref o), (1, .int (nI j))]) hx hb dc_Ck_settlesPartners_86 hl (by decide) rfl (fun ls hl => ?_)
        have lp_88 : ∀ (K : Nat) (p0 : Nat) (u : Nat) (L : List Int32) (i : Nat) (v : Nat) (w : Nat) (rk : Nat → Nat) (ik : Nat → Nat) (H : Heap) (locs : List Loc) (ls : Array Slot), cn + 1 - p0 < K → va_P D kc_l [ck_c o xc xs xt xa lv, cl_c xc ca cb cd cn, ar_n cI ca 33 fz, ar_n cI cb 33 fs, ar_i cI cd (33 * 8) fl, as_c xa aa ab i v w, ar_n cI aa 8 rk, ar_n cI ab 8 ik, tr_c xt ta tb td (g + (L).length) mk ckd, ar_n cI ta 33 ft, ar_n cI tb 33 (va_up fc j (fc j + (L).length)), ar_i cI td 2048 (pt_put fr g (L))] H → va_D A [ck_c o xc xs xt xa lv, cl_c xc ca cb cd cn, ar_n cI ca 33 fz, ar_n cI cb 33 fs, ar_i cI cd (33 * 8) fl, as_c xa aa ab i v w, ar_n cI aa 8 rk, ar_n cI ab 8 ik, tr_c xt ta tb td (g + (L).length) mk ckd, ar_n cI ta 33 ft, ar_n cI tb 33 (va_up fc j (fc j + (L).length)), ar_i cI td 2048 (pt_put fr g (L))] → va_S A s.heap H locs → lv_has ls 10 [(7, .int (nI p0)), (6, .int (nI (2 ^ pb))), (4, .long (lN u)), (3, .int (nI n)), (2, .int (nI t)), (0, .ref o), (1, .int (nI j))] → (pt_sp fs lv mk cn (2 ^ pb) t n (cn + 1 - p0) p0 u L i v w rk ik = pt_sp fs lv mk cn (2 ^ pb) t n cn 1 (pt_ru rs n) (pt_rl rs n) n t f rs im) → (1 ≤ p0 ∧ p0 ≤ cn + 1) → (u < 2 ^ 62) → (∀ k, k < n → (1 ≤ rk k ∧ rk k ≤ cn) ∧ ik k < 65536) → W p l e ({ frames := 3, cells := 0, slots := 0, locals := 72 } : Room) s m ([.ref o, .int (nI j)] : List Value).toArray below meth c H locs 0 0 (MQ below (kw_q (some (.int (kb_i ((pt_sp fs lv mk cn (2 ^ pb) t n cn 1 (pt_ru rs n) (pt_rl rs n) n t f rs im).1)))) D kc_l [ck_c o xc xs xt xa lv, cl_c xc ca cb cd cn, ar_n cI ca 33 fz, ar_n cI cb 33 fs, ar_i cI cd (33 * 8) fl, as_c xa aa ab ((pt_sp fs lv mk cn (2 ^ pb) t n cn 1 (pt_ru rs n) (pt_rl rs n) n t f rs im).2.2.2.1) ((pt_sp fs lv mk cn (2 ^ pb) t n cn 1 (pt_ru rs n) (pt_rl rs n) n t f rs im).2.2.2.2.1) ((pt_sp fs lv mk cn (2 ^ pb) t n cn 1 (pt_ru rs n) (pt_rl rs n) n t f rs im).2.2.2.2.2.1), ar_n cI aa 8 ((pt_sp fs lv mk cn (2 ^ pb) t n cn 1 (pt_ru rs n) (pt_rl rs n) n t f rs im).2.2.2.2.2.2.1), ar_n cI ab 8 ((pt_sp fs lv mk cn (2 ^ pb) t n cn 1 (pt_ru rs n) (pt_rl rs n) n t f rs im).2.2.2.2.2.2.2), tr_c xt ta tb td (g + (pt_sp fs lv mk cn (2 ^ pb) t n cn 1 (pt_ru rs n) (pt_rl rs n) n t f rs im).2.2.1.length) (if (pt_sp fs lv mk cn (2 ^ pb) t n cn 1 (pt_ru rs n) (pt_rl rs n) n t f rs im).1 = true then mk ||| (pt_sp fs lv mk cn (2 ^ pb) t n cn 1 (pt_ru rs n) (pt_rl rs n) n t f rs im).2.1 else mk) ckd, ar_n cI ta 33 ft, ar_n cI tb 33 (va_up fc j (fc j + (pt_sp fs lv mk cn (2 ^ pb) t n cn 1 (pt_ru rs n) (pt_rl rs n) n t f rs im).2.2.1.length)), ar_i cI td 2048 (pt_put fr g (pt_sp fs lv mk cn (2 ^ pb) t n cn 1 (pt_ru rs n) (pt_rl rs n) n t f rs im).2.2.1)] A) ([.ref o, .int (nI j)] : List Value).toArray s 0 0 A) (F0 m 88 ls []) := by
          intro K
          induction K with
          | zero =>
            intro p0 u L i v w rk ik H locs ls hk
            exact absurd hk (Nat.not_lt_zero _)
          | succ K ih =>
            intro p0 u L i v w rk ik H locs ls hk hP hD hS hl h1 h2 h3 h4
            refine lv_iload hx hb dc_Ck_settlesPartners_88 (lv_at hl 0 rfl) ?_
            refine lv_aload_n hx hb dc_Ck_settlesPartners_90 rfl (lv_at hl 5 rfl) ?_
            refine va_get (ci := 7) (v := .ref xc) (C := rn_Ck) (T := fd_Ck) (N := 5) hx hb hts in_Ck hown hK hP 0 rfl rfl 0 (by decide) (hts _ wd_576) (fun _ h9 => h9) rfl dc_Ck_settlesPartners_91 ?_
            refine va_getN (ci := 2) (v := .int (nI cn)) (C := rn_Cl) (T := fd_Cl) (N := 4) hx hb hts in_Cl hown hK hP 1 rfl rfl 3 (by decide) (nf_74 hN) (fun _ h9 => h9) rfl dc_Ck_settlesPartners_94 ?_
            refine kn_icmp_gt hx hb (by omega) (by omega) dc_Ck_settlesPartners_97 rfl (fun hc97 => ?_) (fun hc97 => ?_)
            · refine lv_aload_n hx hb dc_Ck_settlesPartners_226 rfl (lv_at hl 5 rfl) ?_
              refine va_get (ci := 7) (v := .ref xt) (C := rn_Ck) (T := fd_Ck) (N := 5) hx hb hts in_Ck hown hK hP 0 rfl rfl 2 (by decide) (hts _ wd_578) (fun _ h9 => h9) rfl dc_Ck_settlesPartners_227 ?_
              refine lv_dup hx hb dc_Ck_settlesPartners_230 rfl ?_
              refine va_getN (ci := 5) (v := .long (lN mk)) (C := rn_Tr) (T := fd_Tr) (N := 6) hx hb hts in_Tr hown hK hP 8 rfl rfl 4 (by decide) (nf_140 hN) (fun _ h9 => h9) rfl dc_Ck_settlesPartners_231 ?_
              refine lv_lload hx hb dc_Ck_settlesPartners_234 (lv_at hl 2 rfl) ?_
              refine kl_lor hx hb dc_Ck_settlesPartners_236 ?_
              refine va_putN (ci := 5) (v := .long (lN (mk ||| u))) (ty := .long) (C := rn_Tr) (T := fd_Tr) (N := 6) hx hb hts in_Tr ty_Tr tk_Tr nm_Tr hown hK hP hD hS 8 rfl rfl 4 (by decide) (nf_140 hN) (fun _ h9 => h9) rfl (by decide +kernel) rfl rfl (Nat.le_of_ble_eq_true rfl) dc_Ck_settlesPartners_237 (fun H locs hP hD hS => ?_)
              have hP : va_P D kc_l [ck_c o xc xs xt xa lv, cl_c xc ca cb cd cn, ar_n cI ca 33 fz, ar_n cI cb 33 fs, ar_i cI cd (33 * 8) fl, as_c xa aa ab i v w, ar_n cI aa 8 rk, ar_n cI ab 8 ik, tr_c xt ta tb td (g + (L).length) (mk ||| u) ckd, ar_n cI ta 33 ft, ar_n cI tb 33 (va_up fc j (fc j + (L).length)), ar_i cI td 2048 (pt_put fr g (L))] H := hP
              have hD : va_D A [ck_c o xc xs xt xa lv, cl_c xc ca cb cd cn, ar_n cI ca 33 fz, ar_n cI cb 33 fs, ar_i cI cd (33 * 8) fl, as_c xa aa ab i v w, ar_n cI aa 8 rk, ar_n cI ab 8 ik, tr_c xt ta tb td (g + (L).length) (mk ||| u) ckd, ar_n cI ta 33 ft, ar_n cI tb 33 (va_up fc j (fc j + (L).length)), ar_i cI td 2048 (pt_put fr g (L))] := hD
              refine lv_iconst (v := nI 1) hx hb dc_Ck_settlesPartners_240 (by decide +kernel) ?_
              refine kn_top (y := kb_i true) (by decide +kernel) ?_
              exact kw_zret hx hb hr hlocks hP hD hS dc_Ck_settlesPartners_241 (by rw [← h1, sp_en (by omega)]) (by rw [← h1, sp_en (by omega)]; rfl)
            · refine lv_aload_n hx hb dc_Ck_settlesPartners_100 rfl (lv_at hl 5 rfl) ?_
              refine va_get (ci := 7) (v := .long (lN lv)) (C := rn_Ck) (T := fd_Ck) (N := 5) hx hb hts in_Ck hown hK hP 0 rfl rfl 4 (by decide) (hts _ wd_580) (fun _ h9 => h9) rfl dc_Ck_settlesPartners_101 ?_
              refine lv_iload hx hb dc_Ck_settlesPartners_104 (lv_at hl 0 rfl) ?_
              refine kr_call1 (va_runSN (As := [.long (lN lv), .int (nI p0)]) (rest := []) ⟨hx, hb, hml, hown, hts⟩ (ct_Pt_contains l D cI cZ _ lv p0 (hlv) (by omega)) ⟨va_cnB 2 hts (kx_gi wd_262) rfl rfl rfl (nw_602 hN) (hts _ wd_1) yd_Pt_contains ⟨Nat.le_of_ble_eq_true rfl, Nat.le_of_ble_eq_true rfl⟩, hts _ wd_261, trivial⟩ (kp_S hP hD hK hN [] rfl rfl) rfl rfl hl.1 rfl (lv_room (Nat.le_of_ble_eq_true rfl)) dc_Ck_settlesPartners_106 ⟨Nat.le_of_ble_eq_true rfl, Nat.le_of_ble_eq_true rfl⟩) ?_
              refine kb_if_eq hx hb dc_Ck_settlesPartners_109 rfl (fun hc109 => ?_) (fun hc109 => ?_)
              · refine lv_iinc (k := 0) (v := nI (p0 + 1)) (lv' := [(7, .int (nI (p0 + 1))), (6, .int (nI (2 ^ pb))), (4, .long (lN u)), (3, .int (nI n)), (2, .int (nI t)), (0, .ref o), (1, .int (nI j))]) hx hb dc_Ck_settlesPartners_220 hl rfl (nI_1 _) (by decide) rfl (fun ls hl => ?_)
                refine lv_goto hx hb dc_Ck_settlesPartners_223 rfl ?_
                exact ih _ _ _ _ _ _ _ _ _ _ _ (by omega) hP hD hS hl (by rw [← h1]; exact (sp_no (by omega) (Or.inl hc109)).symm) (⟨by omega, by omega⟩) (h3) (h4)
              · refine lv_aload_n hx hb dc_Ck_settlesPartners_112 rfl (lv_at hl 5 rfl) ?_
                refine va_get (ci := 7) (v := .ref xc) (C := rn_Ck) (T := fd_Ck) (N := 5) hx hb hts in_Ck hown hK hP 0 rfl rfl 0 (by decide) (hts _ wd_576) (fun _ h9 => h9) rfl dc_Ck_settlesPartners_113 ?_
                refine va_getN (ci := 2) (v := .ref cb) (C := rn_Cl) (T := fd_Cl) (N := 4) hx hb hts in_Cl hown hK hP 1 rfl rfl 1 (by decide) (nf_70 hN) (fun _ h9 => h9) rfl dc_Ck_settlesPartners_116 ?_
                refine lv_iload hx hb dc_Ck_settlesPartners_119 (lv_at hl 0 rfl) ?_
                refine ka_nald (t := fs) hx hb hK hP 3 0 rfl rfl (j := p0) (by omega) (by omega) dc_Ck_settlesPartners_121 ?_
                refine lv_iload hx hb dc_Ck_settlesPartners_122 (lv_at hl 1 rfl) ?_
                refine kn_iand hx hb dc_Ck_settlesPartners_124 ?_
                refine kn_if_ne hx hb (Nat.lt_of_le_of_lt Nat.and_le_left (Nat.lt_trans (h16 p0) (by decide))) dc_Ck_settlesPartners_125 rfl (fun hc125 => ?_) (fun hc125 => ?_)
                · have hpn : ¬ (lv.testBit p0 = false ∨ fs p0 &&& 2 ^ pb = 0) := fun q => q.elim (fun q1 => by rw [hc109] at q1; exact absurd q1 (by decide)) hc125
                  have hfit1 : g + (L ++ [-nI p0]).length ≤ 2048 := by
                    have h9 : (L ++ [-nI p0]).length ≤ (pt_sp fs lv mk cn (2 ^ pb) t n (cn + 1 - p0) p0 u L i v w rk ik).2.2.1.length := sp_len1 (by omega) hpn
                    rw [h1] at h9
                    omega
                  have hfit2 : g + L.length + 1 ≤ 2048 := by rw [← len_s]; exact hfit1
                  refine lv_aload_n hx hb dc_Ck_settlesPartners_131 rfl (lv_at hl 5 rfl) ?_
                  refine va_get (ci := 7) (v := .ref xt) (C := rn_Ck) (T := fd_Ck) (N := 5) hx hb hts in_Ck hown hK hP 0 rfl rfl 2 (by decide) (hts _ wd_578) (fun _ h9 => h9) rfl dc_Ck_settlesPartners_132 ?_
                  refine lv_iload_n hx hb dc_Ck_settlesPartners_135 rfl (lv_at hl 6 rfl) ?_
                  refine lv_iload hx hb dc_Ck_settlesPartners_136 (lv_at hl 0 rfl) ?_
                  refine lv_ineg hx hb dc_Ck_settlesPartners_138 ?_
                  refine kw_call0 (wr := [ck_c o xc xs xt xa lv, cl_c xc ca cb cd cn, ar_n cI ca 33 fz, ar_n cI cb 33 fs, ar_i cI cd (33 * 8) fl, as_c xa aa ab i v w, ar_n cI aa 8 rk, ar_n cI ab 8 ik]) (ws' := [ck_c o xc xs xt xa lv, cl_c xc ca cb cd cn, ar_n cI ca 33 fz, ar_n cI cb 33 fs, ar_i cI cd (33 * 8) fl, as_c xa aa ab i v w, ar_n cI aa 8 rk, ar_n cI ab 8 ik, tr_c xt ta tb td ((g + (L).length) + 1) mk ckd, ar_n cI ta 33 ft, ar_n cI tb 33 (va_up (va_up fc j (fc j + (L).length)) j ((va_up fc j (fc j + (L).length)) j + 1)), ar_i cI td 2048 (upd (pt_put fr g (L)) (g + (L).length) (-(nI p0)))]) (va_runV (As := [.int (nI j), .int (-(nI p0))]) (rest := []) ⟨hx, hb, hml, hown, hts⟩ (ct_Tr_append l D cI cZ _ xt ta tb td (g + (L).length) mk ckd ft (va_up fc j (fc j + (L).length)) (pt_put fr g (L)) j (-(nI p0)) (by omega) (by omega)) (cwV 2 hts (kx_gV wd_645 wd_646 wd_647 wd_7 wd_648) rfl rfl rfl ⟨rfl, yd_Tr_append⟩ ⟨Nat.le_of_ble_eq_true rfl, Nat.le_of_ble_eq_true rfl⟩) (kp_V (q0 := 8) (ci := 5) hP hD hK hN [8, 9, 10, 11] rfl rfl rfl rfl rfl) rfl rfl hl.1 rfl (lv_room (Nat.le_of_ble_eq_true rfl)) dc_Ck_settlesPartners_139 ⟨Nat.le_of_ble_eq_true rfl, Nat.le_of_ble_eq_true rfl⟩) hP hD hS hA [8, 9, 10, 11] [0, 1, 2, 3, 4, 5, 6, 7] [0, 1, 2, 3, 4, 5, 6, 7, 8, 9, 10, 11] rfl rfl rfl (by decide) rfl rfl (fun H locs hP hD hS => ?_)
                  have hP : va_P D kc_l [ck_c o xc xs xt xa lv, cl_c xc ca cb cd cn, ar_n cI ca 33 fz, ar_n cI cb 33 fs, ar_i cI cd (33 * 8) fl, as_c xa aa ab i v w, ar_n cI aa 8 rk, ar_n cI ab 8 ik, tr_c xt ta tb td (g + (L ++ [-nI p0]).length) mk ckd, ar_n cI ta 33 ft, ar_n cI tb 33 (va_up fc j (fc j + (L ++ [-nI p0]).length)), ar_i cI td 2048 (pt_put fr g (L ++ [-nI p0]))] H := by rw [len_s, ← put_s, ← cnt_s]; exact hP
                  have hD : va_D A [ck_c o xc xs xt xa lv, cl_c xc ca cb cd cn, ar_n cI ca 33 fz, ar_n cI cb 33 fs, ar_i cI cd (33 * 8) fl, as_c xa aa ab i v w, ar_n cI aa 8 rk, ar_n cI ab 8 ik, tr_c xt ta tb td (g + (L ++ [-nI p0]).length) mk ckd, ar_n cI ta 33 ft, ar_n cI tb 33 (va_up fc j (fc j + (L ++ [-nI p0]).length)), ar_i cI td 2048 (pt_put fr g (L ++ [-nI p0]))] := by rw [len_s, ← put_s, ← cnt_s]; exact hD
                  refine lv_lload hx hb dc_Ck_settlesPartners_142 (lv_at hl 2 rfl) ?_
                  refine lv_iload hx hb dc_Ck_settlesPartners_144 (lv_at hl 0 rfl) ?_
                  refine kr_call1 (va_runSN (As := [.int (nI p0)]) (rest := [.long (lN u)]) ⟨hx, hb, hml, hown, hts⟩ (ct_Pt_one l D cI cZ _ p0 (by omega)) ⟨va_cnB 1 hts (kx_gi wd_559) rfl rfl rfl (nw_600 hN) (hts _ wd_1) yd_Pt_one ⟨Nat.le_of_ble_eq_true rfl, Nat.le_of_ble_eq_true rfl⟩, hts _ wd_558, trivial⟩ (kp_S hP hD hK hN [] rfl rfl) rfl rfl hl.1 rfl (lv_room (Nat.le_of_ble_eq_true rfl)) dc_Ck_settlesPartners_146 ⟨Nat.le_of_ble_eq_true rfl, Nat.le_of_ble_eq_true rfl⟩) ?_
                  refine kl_lor hx hb dc_Ck_settlesPartners_149 ?_
                  refine lv_lstore (lv' := [(4, .long (lN (u ||| (2 ^ p0)))), (7, .int (nI p0)), (6, .int (nI (2 ^ pb))), (3, .int (nI n)), (2, .int (nI t)), (0, .ref o), (1, .int (nI j))]) hx hb dc_Ck_settlesPartners_150 hl (by decide) rfl (fun ls hl => ?_)
                  refine lv_aload_n hx hb dc_Ck_settlesPartners_152 rfl (lv_at hl 5 rfl) ?_
                  refine va_get (ci := 7) (v := .ref xc) (C := rn_Ck) (T := fd_Ck) (N := 5) hx hb hts in_Ck hown hK hP 0 rfl rfl 0 (by decide) (hts _ wd_576) (fun _ h9 => h9) rfl dc_Ck_settlesPartners_153 ?_
                  refine va_getN (ci := 2) (v := .ref cb) (C := rn_Cl) (T := fd_Cl) (N := 4) hx hb hts in_Cl hown hK hP 1 rfl rfl 1 (by decide) (nf_70 hN) (fun _ h9 => h9) rfl dc_Ck_settlesPartners_156 ?_
                  refine lv_iload hx hb dc_Ck_settlesPartners_159 (lv_at hl 1 rfl) ?_
                  refine ka_nald (t := fs) hx hb hK hP 3 0 rfl rfl (j := p0) (by omega) (by omega) dc_Ck_settlesPartners_161 ?_
                  refine lv_iload hx hb dc_Ck_settlesPartners_162 (lv_at hl 2 rfl) ?_
                  refine lv_iconst (v := (-1)) hx hb dc_Ck_settlesPartners_164 (by decide +kernel) ?_
                  refine lv_ixor hx hb dc_Ck_settlesPartners_165 ?_
                  refine kn_inot hx hb dc_Ck_settlesPartners_166 ?_
                  refine lv_istore (lv' := [(8, .int (nI (nb_d (fs p0) (2 ^ pb)))), (4, .long (lN (u ||| (2 ^ p0)))), (7, .int (nI p0)), (6, .int (nI (2 ^ pb))), (3, .int (nI n)), (2, .int (nI t)), (0, .ref o), (1, .int (nI j))]) hx hb dc_Ck_settlesPartners_167 hl (by decide) rfl (fun ls hl => ?_)
                  refine lv_iload hx hb dc_Ck_settlesPartners_169 (lv_at hl 0 rfl) ?_
                  refine lv_iload_n hx hb dc_Ck_settlesPartners_171 rfl (lv_at hl 5 rfl) ?_
                  refine kn_iand hx hb dc_Ck_settlesPartners_172 ?_
                  refine kn_if_eq hx hb (Nat.lt_of_le_of_lt Nat.and_le_left (Nat.lt_trans (nb_d_lt (n := 16) (h16 p0)) (by decide))) dc_Ck_settlesPartners_173 rfl (fun hc173 => ?_) (fun hc173 => ?_)
                  · have hc173 : nb_d (fs p0) (2 ^ pb) &&& t = 0 := hc173
                    have ho16 : nb_d (fs p0) (2 ^ pb) < 65536 := nb_d_lt (n := 16) (h16 p0)
                    have hnt : t ||| nb_op (nb_d (fs p0) (2 ^ pb)) < 65536 := Nat.or_lt_two_pow (n := 16) hok.1.1 (nb_op_lt ho16)
                    have hcap9 : pt_cap n (t ||| nb_op (nb_d (fs p0) (2 ^ pb))) (nb_op (t ||| nb_op (nb_d (fs p0) (2 ^ pb)))) := ⟨hnt, rfl, by have := free_mono t (nb_op (nb_d (fs p0) (2 ^ pb))); have := hok.1.2.2; omega⟩
                    refine lv_aload_n hx hb dc_Ck_settlesPartners_179 rfl (lv_at hl 6 rfl) ?_
                    refine va_get (ci := 7) (v := .ref xa) (C := rn_Ck) (T := fd_Ck) (N := 5) hx hb hts in_Ck hown hK hP 0 rfl rfl 3 (by decide) (hts _ wd_579) (fun _ h9 => h9) rfl dc_Ck_settlesPartners_180 ?_
                    refine lv_iload_n hx hb dc_Ck_settlesPartners_183 rfl (lv_at hl 5 rfl) ?_
                    refine lv_iload hx hb dc_Ck_settlesPartners_184 (lv_at hl 0 rfl) ?_
                    refine kr_call1 (va_runSN (As := [.int (nI (nb_d (fs p0) (2 ^ pb)))]) (rest := [.int (nI t), .ref xa]) ⟨hx, hb, hml, hown, hts⟩ (ct_Pt_opposites l D cI cZ _ (nb_d (fs p0) (2 ^ pb)) (nb_d_lt (n := 16) (h16 p0))) ⟨va_cnB 1 hts (kx_gi wd_613) rfl rfl rfl (nw_611 hN) (hts _ wd_1) yd_Pt_opposites ⟨Nat.le_of_ble_eq_true rfl, Nat.le_of_ble_eq_true rfl⟩, hts _ wd_612, trivial⟩ (kp_S hP hD hK hN [] rfl rfl) rfl rfl hl.1 rfl (lv_room (Nat.le_of_ble_eq_true rfl)) dc_Ck_settlesPartners_186 ⟨Nat.le_of_ble_eq_true rfl, Nat.le_of_ble_eq_true rfl⟩) ?_
                    refine kn_ior hx hb dc_Ck_settlesPartners_189 ?_
                    refine lv_iload_n hx hb dc_Ck_settlesPartners_190 rfl (lv_at hl 4 rfl) ?_
                    refine kw_call0 (wr := [ck_c o xc xs xt xa lv, cl_c xc ca cb cd cn, ar_n cI ca 33 fz, ar_n cI cb 33 fs, ar_i cI cd (33 * 8) fl, ar_n cI aa 8 rk, ar_n cI ab 8 ik, tr_c xt ta tb td (g + (L ++ [-nI p0]).length) mk ckd, ar_n cI ta 33 ft, ar_n cI tb 33 (va_up fc j (fc j + (L ++ [-nI p0]).length)), ar_i cI td 2048 (pt_put fr g (L ++ [-nI p0]))]) (ws' := [ck_c o xc xs xt xa lv, cl_c xc ca cb cd cn, ar_n cI ca 33 fz, ar_n cI cb 33 fs, ar_i cI cd (33 * 8) fl, as_c xa aa ab n (t ||| (nb_op (nb_d (fs p0) (2 ^ pb)))) (nb_op (t ||| (nb_op (nb_d (fs p0) (2 ^ pb))))), ar_n cI aa 8 rk, ar_n cI ab 8 ik, tr_c xt ta tb td (g + (L ++ [-nI p0]).length) mk ckd, ar_n cI ta 33 ft, ar_n cI tb 33 (va_up fc j (fc j + (L ++ [-nI p0]).length)), ar_i cI td 2048 (pt_put fr g (L ++ [-nI p0]))]) (va_runV (As := [.int (nI (t ||| (nb_op (nb_d (fs p0) (2 ^ pb))))), .int (nI n)]) (rest := []) ⟨hx, hb, hml, hown, hts⟩ (ct_As_restart l D cI cZ _ xa aa ab i v w (t ||| (nb_op (nb_d (fs p0) (2 ^ pb)))) n (hnt)) (cwV 2 hts (kx_gV wd_615 wd_616 wd_617 wd_8 wd_618) rfl rfl rfl ⟨rfl, yd_As_restart⟩ ⟨Nat.le_of_ble_eq_true rfl, Nat.le_of_ble_eq_true rfl⟩) (kp_V (q0 := 5) (ci := 6) hP hD hK hN [5] rfl rfl rfl rfl rfl) rfl rfl hl.1 rfl (lv_room (Nat.le_of_ble_eq_true rfl)) dc_Ck_settlesPartners_191 ⟨Nat.le_of_ble_eq_true rfl, Nat.le_of_ble_eq_true rfl⟩) hP hD hS hA [5] [0, 1, 2, 3, 4, 6, 7, 8, 9, 10, 11] [0, 1, 2, 3, 4, 11, 5, 6, 7, 8, 9, 10] rfl rfl rfl (by decide) rfl rfl (fun H locs hP hD hS => ?_)
                    refine lv_aload_n hx hb dc_Ck_settlesPartners_194 rfl (lv_at hl 6 rfl) ?_
                    refine kw_call1 (wr := [ar_n cI ca 33 fz, ar_i cI cd (33 * 8) fl, ar_n cI ta 33 ft, ar_n cI tb 33 (va_up fc j (fc j + (L ++ [-nI p0]).length)), ar_i cI td 2048 (pt_put fr g (L ++ [-nI p0]))]) (ws' := [ck_c o xc xs xt xa lv, cl_c xc ca cb cd cn, ar_n cI ca 33 fz, ar_n cI cb 33 fs, ar_i cI cd (33 * 8) fl, as_c xa aa ab ((pt_prop fs lv mk cn 9 n (t ||| (nb_op (nb_d (fs p0) (2 ^ pb)))) (nb_op (t ||| (nb_op (nb_d (fs p0) (2 ^ pb))))) rk ik).2.1) ((pt_prop fs lv mk cn 9 n (t ||| (nb_op (nb_d (fs p0) (2 ^ pb)))) (nb_op (t ||| (nb_op (nb_d (fs p0) (2 ^ pb))))) rk ik).2.2.1) ((pt_prop fs lv mk cn 9 n (t ||| (nb_op (nb_d (fs p0) (2 ^ pb)))) (nb_op (t ||| (nb_op (nb_d (fs p0) (2 ^ pb))))) rk ik).2.2.2.1), ar_n cI aa 8 ((pt_prop fs lv mk cn 9 n (t ||| (nb_op (nb_d (fs p0) (2 ^ pb)))) (nb_op (t ||| (nb_op (nb_d (fs p0) (2 ^ pb))))) rk ik).2.2.2.2.1), ar_n cI ab 8 ((pt_prop fs lv mk cn 9 n (t ||| (nb_op (nb_d (fs p0) (2 ^ pb)))) (nb_op (t ||| (nb_op (nb_d (fs p0) (2 ^ pb))))) rk ik).2.2.2.2.2), tr_c xt ta tb td (g + (L ++ [-nI p0]).length) mk ckd, ar_n cI ta 33 ft, ar_n cI tb 33 (va_up fc j (fc j + (L ++ [-nI p0]).length)), ar_i cI td 2048 (pt_put fr g (L ++ [-nI p0]))]) (va_runV (As := []) (rest := []) ⟨hx, hb, hml, hown, hts⟩ (ct_Ck_propagate l D cI cZ _ o xc xs xt xa lv ca cb cd cn fs aa ab n (t ||| (nb_op (nb_d (fs p0) (2 ^ pb)))) (nb_op (t ||| (nb_op (nb_d (fs p0) (2 ^ pb))))) rk ik ta tb td (g + (L ++ [-nI p0]).length) mk ckd (by omega) (h16) (hlv) (hcap9)) (cwV 0 hts (kx_gV wd_620 wd_622 (kx_sel (q := (yn_Ck_propagate, 5)) (List.mem_append_left _ (List.mem_of_getElem? (i := 4) rfl))) wd_20 wd_623) rfl rfl rfl ⟨rfl, yd_Ck_propagate⟩ ⟨Nat.le_of_ble_eq_true rfl, Nat.le_of_ble_eq_true rfl⟩) (kp_V (q0 := 0) (ci := 7) hP hD hK hN [0, 1, 3, 5, 6, 7, 8] rfl rfl rfl rfl rfl) rfl rfl hl.1 rfl (lv_room (Nat.le_of_ble_eq_true rfl)) dc_Ck_settlesPartners_195 ⟨Nat.le_of_ble_eq_true rfl, Nat.le_of_ble_eq_true rfl⟩) hP hD hS hA [0, 1, 3, 5, 6, 7, 8] [2, 4, 9, 10, 11] [5, 6, 0, 7, 1, 8, 9, 10, 11, 2, 3, 4] rfl rfl rfl (by decide) rfl rfl (fun H locs hP hD hS => ?_)
                    have hpo := prop_ok (lv := lv) (mk := mk) (cn := cn) h16 9 n (t ||| nb_op (nb_d (fs p0) (2 ^ pb))) (nb_op (t ||| nb_op (nb_d (fs p0) (2 ^ pb)))) rk ik ⟨hcap9, h4⟩
                    generalize hRe : pt_prop fs lv mk cn 9 n (t ||| nb_op (nb_d (fs p0) (2 ^ pb))) (nb_op (t ||| nb_op (nb_d (fs p0) (2 ^ pb)))) rk ik = RR at hpo hP hD ⊢
                    refine lv_istore (lv' := [(9, .int (nI RR.1)), (8, .int (nI (nb_d (fs p0) (2 ^ pb)))), (4, .long (lN (u ||| (2 ^ p0)))), (7, .int (nI p0)), (6, .int (nI (2 ^ pb))), (3, .int (nI n)), (2, .int (nI t)), (0, .ref o), (1, .int (nI j))]) hx hb dc_Ck_settlesPartners_198 hl (by decide) rfl (fun ls hl => ?_)
                    refine lv_iload hx hb dc_Ck_settlesPartners_200 (lv_at hl 0 rfl) ?_
                    refine kn_if_ne hx hb (by have := hpo.1; omega) dc_Ck_settlesPartners_202 rfl (fun hc202 => ?_) (fun hc202 => ?_)
                    · have hu33 : pt_used fs RR.2.2.2.2.1 RR.2.2.2.2.2 RR.2.1 (2 ^ RR.1) (fs RR.1) < 2 ^ 33 := used_lt _ _ _ (Nat.pow_lt_pow_right (by decide) (by have := hpo.1; omega)) (fun k hk => by have := (hpo.2.2.2 k hk).1; omega)
                      have hrn8 := aok_n hpo.2.2
                      have hgo := sp_go (u := u) (L := L) (n := i) (t := v) (f := w) (by omega) hpn hc173 hRe hc202
                      have hfit3 : g + (L ++ [-nI p0]).length + (pt_exs RR.2.2.2.2.1 (pt_used fs RR.2.2.2.2.1 RR.2.2.2.2.2 RR.2.1 (2 ^ RR.1) (fs RR.1)) n (RR.2.1 - n) ++ [nI RR.1]).length ≤ 2048 := by
                        have h9 := sp_len (fs := fs) (lv := lv) (mk := mk) (cn := cn) (pv := 2 ^ pb) (rc := t) (n0 := n) (cn + 1 - (p0 + 1)) (p0 + 1) (u ||| 2 ^ p0 ||| pt_used fs RR.2.2.2.2.1 RR.2.2.2.2.2 RR.2.1 (2 ^ RR.1) (fs RR.1)) (L ++ [-nI p0] ++ (pt_exs RR.2.2.2.2.1 (pt_used fs RR.2.2.2.2.1 RR.2.2.2.2.2 RR.2.1 (2 ^ RR.1) (fs RR.1)) n (RR.2.1 - n) ++ [nI RR.1])) RR.2.1 RR.2.2.1 RR.2.2.2.1 RR.2.2.2.2.1 RR.2.2.2.2.2
                        rw [← hgo, h1] at h9
                        rw [← len_app]
                        omega
                      refine lv_lload hx hb dc_Ck_settlesPartners_207 (lv_at hl 2 rfl) ?_
                      refine lv_aload_n hx hb dc_Ck_settlesPartners_209 rfl (lv_at hl 7 rfl) ?_
                      refine lv_iload_n hx hb dc_Ck_settlesPartners_210 rfl (lv_at hl 8 rfl) ?_
                      refine lv_iload_n hx hb dc_Ck_settlesPartners_211 rfl (lv_at hl 5 rfl) ?_
                      refine lv_iload hx hb dc_Ck_settlesPartners_212 (lv_at hl 0 rfl) ?_
                      refine kw_call1 (wr := [ar_n cI ca 33 fz, ar_i cI cd (33 * 8) fl]) (ws' := [ck_c o xc xs xt xa lv, cl_c xc ca cb cd cn, ar_n cI ca 33 fz, ar_n cI cb 33 fs, ar_i cI cd (33 * 8) fl, as_c xa aa ab RR.2.1 RR.2.2.1 RR.2.2.2.1, ar_n cI aa 8 RR.2.2.2.2.1, ar_n cI ab 8 RR.2.2.2.2.2, tr_c xt ta tb td ((g + (L ++ [-nI p0]).length) + (pt_exs RR.2.2.2.2.1 (pt_used fs RR.2.2.2.2.1 RR.2.2.2.2.2 RR.2.1 (2 ^ RR.1) (fs RR.1)) n (RR.2.1 - n) ++ [nI RR.1]).length) mk ckd, ar_n cI ta 33 ft, ar_n cI tb 33 (va_up (va_up fc j (fc j + (L ++ [-nI p0]).length)) j ((va_up fc j (fc j + (L ++ [-nI p0]).length)) j + (pt_exs RR.2.2.2.2.1 (pt_used fs RR.2.2.2.2.1 RR.2.2.2.2.2 RR.2.1 (2 ^ RR.1) (fs RR.1)) n (RR.2.1 - n) ++ [nI RR.1]).length)), ar_i cI td 2048 (pt_put (pt_put fr g (L ++ [-nI p0])) (g + (L ++ [-nI p0]).length) (pt_exs RR.2.2.2.2.1 (pt_used fs RR.2.2.2.2.1 RR.2.2.2.2.2 RR.2.1 (2 ^ RR.1) (fs RR.1)) n (RR.2.1 - n) ++ [nI RR.1]))]) (va_runV (As := [.int (nI j), .int (nI n), .int (nI RR.1)]) (rest := [.long (lN (u ||| (2 ^ p0)))]) ⟨hx, hb, hml, hown, hts⟩ (ct_Ck_explain l D cI cZ _ o xc xs xt xa lv ca cb cd cn fs aa ab RR.2.1 RR.2.2.1 RR.2.2.2.1 RR.2.2.2.2.1 RR.2.2.2.2.2 ta tb td (g + (L ++ [-nI p0]).length) mk ckd ft (va_up fc j (fc j + (L ++ [-nI p0]).length)) (pt_put fr g (L ++ [-nI p0])) j n RR.1 (hcn) (hrn8) (fun k hk => ⟨by have := (hpo.2.2.2 k hk).1; omega, (hpo.2.2.2 k hk).2⟩) (by have := hpo.1; omega) (by omega) (hpo.2.1) (Nat.lt_trans hu33 (by decide)) (hfit3)) (cwV 3 hts (kx_gV wd_636 wd_638 (kx_sel (q := (yn_Ck_explain, 5)) (List.mem_append_left _ (List.mem_of_getElem? (i := 6) rfl))) wd_20 wd_639) rfl rfl rfl ⟨rfl, yd_Ck_explain⟩ ⟨Nat.le_of_ble_eq_true rfl, Nat.le_of_ble_eq_true rfl⟩) (kp_V (q0 := 0) (ci := 7) hP hD hK hN [0, 1, 3, 5, 6, 7, 8, 9, 10, 11] rfl rfl rfl rfl rfl) rfl rfl hl.1 rfl (lv_room (Nat.le_of_ble_eq_true rfl)) dc_Ck_settlesPartners_214 ⟨Nat.le_of_ble_eq_true rfl, Nat.le_of_ble_eq_true rfl⟩) hP hD hS hA [0, 1, 3, 5, 6, 7, 8, 9, 10, 11] [2, 4] [2, 3, 0, 4, 1, 5, 6, 7, 8, 9, 10, 11] rfl rfl rfl (by decide) rfl rfl (fun H locs hP hD hS => ?_)
                      have hP : va_P D kc_l [ck_c o xc xs xt xa lv, cl_c xc ca cb cd cn, ar_n cI ca 33 fz, ar_n cI cb 33 fs, ar_i cI cd (33 * 8) fl, as_c xa aa ab RR.2.1 RR.2.2.1 RR.2.2.2.1, ar_n cI aa 8 RR.2.2.2.2.1, ar_n cI ab 8 RR.2.2.2.2.2, tr_c xt ta tb td (g + (L ++ [-nI p0] ++ (pt_exs RR.2.2.2.2.1 (pt_used fs RR.2.2.2.2.1 RR.2.2.2.2.2 RR.2.1 (2 ^ RR.1) (fs RR.1)) n (RR.2.1 - n) ++ [nI RR.1])).length) mk ckd, ar_n cI ta 33 ft, ar_n cI tb 33 (va_up fc j (fc j + (L ++ [-nI p0] ++ (pt_exs RR.2.2.2.2.1 (pt_used fs RR.2.2.2.2.1 RR.2.2.2.2.2 RR.2.1 (2 ^ RR.1) (fs RR.1)) n (RR.2.1 - n) ++ [nI RR.1])).length)), ar_i cI td 2048 (pt_put fr g (L ++ [-nI p0] ++ (pt_exs RR.2.2.2.2.1 (pt_used fs RR.2.2.2.2.1 RR.2.2.2.2.2 RR.2.1 (2 ^ RR.1) (fs RR.1)) n (RR.2.1 - n) ++ [nI RR.1])))] H := by rw [len_app, ← put_app, ← cnt_app]; exact hP
                      have hD : va_D A [ck_c o xc xs xt xa lv, cl_c xc ca cb cd cn, ar_n cI ca 33 fz, ar_n cI cb 33 fs, ar_i cI cd (33 * 8) fl, as_c xa aa ab RR.2.1 RR.2.2.1 RR.2.2.2.1, ar_n cI aa 8 RR.2.2.2.2.1, ar_n cI ab 8 RR.2.2.2.2.2, tr_c xt ta tb td (g + (L ++ [-nI p0] ++ (pt_exs RR.2.2.2.2.1 (pt_used fs RR.2.2.2.2.1 RR.2.2.2.2.2 RR.2.1 (2 ^ RR.1) (fs RR.1)) n (RR.2.1 - n) ++ [nI RR.1])).length) mk ckd, ar_n cI ta 33 ft, ar_n cI tb 33 (va_up fc j (fc j + (L ++ [-nI p0] ++ (pt_exs RR.2.2.2.2.1 (pt_used fs RR.2.2.2.2.1 RR.2.2.2.2.2 RR.2.1 (2 ^ RR.1) (fs RR.1)) n (RR.2.1 - n) ++ [nI RR.1])).length)), ar_i cI td 2048 (pt_put fr g (L ++ [-nI p0] ++ (pt_exs RR.2.2.2.2.1 (pt_used fs RR.2.2.2.2.1 RR.2.2.2.2.2 RR.2.1 (2 ^ RR.1) (fs RR.1)) n (RR.2.1 - n) ++ [nI RR.1])))] := by rw [len_app, ← put_app, ← cnt_app]; exact hD
                      refine kl_lor hx hb dc_Ck_settlesPartners_217 ?_
                      refine lv_lstore (lv' := [(4, .long (lN ((u ||| (2 ^ p0)) ||| (pt_used fs RR.2.2.2.2.1 RR.2.2.2.2.2 RR.2.1 (2 ^ RR.1) (fs RR.1))))), (9, .int (nI RR.1)), (8, .int (nI (nb_d (fs p0) (2 ^ pb)))), (7, .int (nI p0)), (6, .int (nI (2 ^ pb))), (3, .int (nI n)), (2, .int (nI t)), (0, .ref o), (1, .int (nI j))]) hx hb dc_Ck_settlesPartners_218 hl (by decide) rfl (fun ls hl => ?_)
                      refine lv_iinc (k := 3) (v := nI (p0 + 1)) (lv' := [(7, .int (nI (p0 + 1))), (4, .long (lN ((u ||| (2 ^ p0)) ||| (pt_used fs RR.2.2.2.2.1 RR.2.2.2.2.2 RR.2.1 (2 ^ RR.1) (fs RR.1))))), (9, .int (nI RR.1)), (8, .int (nI (nb_d (fs p0) (2 ^ pb)))), (6, .int (nI (2 ^ pb))), (3, .int (nI n)), (2, .int (nI t)), (0, .ref o), (1, .int (nI j))]) hx hb dc_Ck_settlesPartners_220 hl rfl (nI_1 _) (by decide) rfl (fun ls hl => ?_)
                      refine lv_goto hx hb dc_Ck_settlesPartners_223 rfl ?_
                      have hl := lv_sub (l' := [(7, .int (nI (p0 + 1))), (6, .int (nI (2 ^ pb))), (4, .long (lN ((u ||| (2 ^ p0)) ||| (pt_used fs RR.2.2.2.2.1 RR.2.2.2.2.2 RR.2.1 (2 ^ RR.1) (fs RR.1))))), (3, .int (nI n)), (2, .int (nI t)), (0, .ref o), (1, .int (nI j))]) hl [0, 4, 1, 5, 6, 7, 8] rfl
                      exact ih _ _ _ _ _ _ _ _ _ _ _ (by omega) hP hD hS hl (by rw [← h1]; exact hgo.symm) (⟨by omega, by omega⟩) (Nat.or_lt_two_pow (Nat.or_lt_two_pow h3 (Nat.pow_lt_pow_right (by decide) (by omega))) (Nat.lt_trans hu33 (by decide))) (fun k hk => hpo.2.2.2 k (by have := hpo.2.1; omega))
                    · refine lv_iconst (v := nI 0) hx hb dc_Ck_settlesPartners_205 (by decide +kernel) ?_
                      refine kn_top (y := kb_i false) (by decide +kernel) ?_
                      exact kw_zret hx hb hr hlocks hP hD hS dc_Ck_settlesPartners_206 (by rw [← h1, sp_bad (by omega) hpn hc173 (by rw [hRe]; exact hc202)]) (by rw [← h1, sp_bad (by omega) hpn hc173 (by rw [hRe]; exact hc202), hRe]; rfl)
                  · refine lv_goto hx hb dc_Ck_settlesPartners_176 rfl ?_
                    refine lv_iinc (k := 2) (v := nI (p0 + 1)) (lv' := [(7, .int (nI (p0 + 1))), (8, .int (nI (nb_d (fs p0) (2 ^ pb)))), (4, .long (lN (u ||| (2 ^ p0)))), (6, .int (nI (2 ^ pb))), (3, .int (nI n)), (2, .int (nI t)), (0, .ref o), (1, .int (nI j))]) hx hb dc_Ck_settlesPartners_220 hl rfl (nI_1 _) (by decide) rfl (fun ls hl => ?_)
                    refine lv_goto hx hb dc_Ck_settlesPartners_223 rfl ?_
                    have hl := lv_sub (l' := [(7, .int (nI (p0 + 1))), (6, .int (nI (2 ^ pb))), (4, .long (lN (u ||| (2 ^ p0)))), (3, .int (nI n)), (2, .int (nI t)), (0, .ref o), (1, .int (nI j))]) hl [0, 3, 2, 4, 5, 6, 7] rfl
                    exact ih _ _ _ _ _ _ _ _ _ _ _ (by omega) hP hD hS hl (by rw [← h1]; exact (sp_true (by omega) hpn hc173).symm) (⟨by omega, by omega⟩) (Nat.or_lt_two_pow h3 (Nat.pow_lt_pow_right (by decide) (by omega))) (h4)
                · refine lv_goto hx hb dc_Ck_settlesPartners_128 rfl ?_
                  refine lv_iinc (k := 0) (v := nI (p0 + 1)) (lv' := [(7, .int (nI (p0 + 1))), (6, .int (nI (2 ^ pb))), (4, .long (lN u)), (3, .int (nI n)), (2, .int (nI t)), (0, .ref o), (1, .int (nI j))]) hx hb dc_Ck_settlesPartners_220 hl rfl (nI_1 _) (by decide) rfl (fun ls hl => ?_)
                  refine lv_goto hx hb dc_Ck_settlesPartners_223 rfl ?_
                  exact ih _ _ _ _ _ _ _ _ _ _ _ (by omega) hP hD hS hl (by rw [← h1]; exact (sp_no (by omega) (Or.inr hc125)).symm) (⟨by omega, by omega⟩) (h3) (h4)
        exact lp_88 _ _ _ _ _ _ _ _ _ _ _ _ (Nat.lt_succ_self _) hP hD hS hl (rfl) (⟨by omega, by omega⟩) (Nat.lt_trans (ru_lt n (fun k hk => by have := (hok.2 k hk).1; omega)) (by decide)) (hok.2)
      · refine lv_aload_n hx hb dc_Ck_settlesPartners_28 rfl (lv_at hl 4 rfl) ?_
        refine va_get (ci := 7) (v := .ref xt) (C := rn_Ck) (T := fd_Ck) (N := 5) hx hb hts in_Ck hown hK hP 0 rfl rfl 2 (by decide) (hts _ wd_578) (fun _ h9 => h9) rfl dc_Ck_settlesPartners_29 ?_
        refine lv_iload_n hx hb dc_Ck_settlesPartners_32 rfl (lv_at hl 5 rfl) ?_
        refine lv_aload_n hx hb dc_Ck_settlesPartners_33 rfl (lv_at hl 4 rfl) ?_
        refine va_get (ci := 7) (v := .ref xa) (C := rn_Ck) (T := fd_Ck) (N := 5) hx hb hts in_Ck hown hK hP 0 rfl rfl 3 (by decide) (hts _ wd_579) (fun _ h9 => h9) rfl dc_Ck_settlesPartners_34 ?_
        refine va_getN (ci := 6) (v := .ref aa) (C := rn_As) (T := fd_As) (N := 5) hx hb hts in_As hown hK hP 5 rfl rfl 0 (by decide) (nf_165 hN) (fun _ h9 => h9) rfl dc_Ck_settlesPartners_37 ?_
        refine lv_iload hx hb dc_Ck_settlesPartners_40 (lv_at hl 0 rfl) ?_
        refine ka_nald (t := rs) hx hb hK hP 6 0 rfl rfl (j := i) (by omega) (by omega) dc_Ck_settlesPartners_42 ?_
        refine kw_call0 (wr := [ck_c o xc xs xt xa lv, cl_c xc ca cb cd cn, ar_n cI ca 33 fz, ar_n cI cb 33 fs, ar_i cI cd (33 * 8) fl, as_c xa aa ab n t f, ar_n cI aa 8 rs, ar_n cI ab 8 im]) (ws' := [ck_c o xc xs xt xa lv, cl_c xc ca cb cd cn, ar_n cI ca 33 fz, ar_n cI cb 33 fs, ar_i cI cd (33 * 8) fl, as_c xa aa ab n t f, ar_n cI aa 8 rs, ar_n cI ab 8 im, tr_c xt ta tb td ((g + (pt_rl rs i).length) + 1) mk ckd, ar_n cI ta 33 ft, ar_n cI tb 33 (va_up (va_up fc j (fc j + (pt_rl rs i).length)) j ((va_up fc j (fc j + (pt_rl rs i).length)) j + 1)), ar_i cI td 2048 (upd (pt_put fr g (pt_rl rs i)) (g + (pt_rl rs i).length) (nI (rs i)))]) (va_runV (As := [.int (nI j), .int (nI (rs i))]) (rest := []) ⟨hx, hb, hml, hown, hts⟩ (ct_Tr_append l D cI cZ _ xt ta tb td (g + (pt_rl rs i).length) mk ckd ft (va_up fc j (fc j + (pt_rl rs i).length)) (pt_put fr g (pt_rl rs i)) j (nI (rs i)) (by omega) (by have h9 := rl_len rs i; have h8 := hfit0; omega)) (cwV 2 hts (kx_gV wd_645 wd_646 wd_647 wd_7 wd_648) rfl rfl rfl ⟨rfl, yd_Tr_append⟩ ⟨Nat.le_of_ble_eq_true rfl, Nat.le_of_ble_eq_true rfl⟩) (kp_V (q0 := 8) (ci := 5) hP hD hK hN [8, 9, 10, 11] rfl rfl rfl rfl rfl) rfl rfl hl.1 rfl (lv_room (Nat.le_of_ble_eq_true rfl)) dc_Ck_settlesPartners_43 ⟨Nat.le_of_ble_eq_true rfl, Nat.le_of_ble_eq_true rfl⟩) hP hD hS hA [8, 9, 10, 11] [0, 1, 2, 3, 4, 5, 6, 7] [0, 1, 2, 3, 4, 5, 6, 7, 8, 9, 10, 11] rfl rfl rfl (by decide) rfl rfl (fun H locs hP hD hS => ?_)
        have hP : va_P D kc_l [ck_c o xc xs xt xa lv, cl_c xc ca cb cd cn, ar_n cI ca 33 fz, ar_n cI cb 33 fs, ar_i cI cd (33 * 8) fl, as_c xa aa ab n t f, ar_n cI aa 8 rs, ar_n cI ab 8 im, tr_c xt ta tb td (g + (pt_rl rs (i + 1)).length) mk ckd, ar_n cI ta 33 ft, ar_n cI tb 33 (va_up fc j (fc j + (pt_rl rs (i + 1)).length)), ar_i cI td 2048 (pt_put fr g (pt_rl rs (i + 1)))] H := by rw [show pt_rl rs (i + 1) = pt_rl rs i ++ [nI (rs i)] from rfl, len_s, ← put_s, ← cnt_s]; exact hP
        have hD : va_D A [ck_c o xc xs xt xa lv, cl_c xc ca cb cd cn, ar_n cI ca 33 fz, ar_n cI cb 33 fs, ar_i cI cd (33 * 8) fl, as_c xa aa ab n t f, ar_n cI aa 8 rs, ar_n cI ab 8 im, tr_c xt ta tb td (g + (pt_rl rs (i + 1)).length) mk ckd, ar_n cI ta 33 ft, ar_n cI tb 33 (va_up fc j (fc j + (pt_rl rs (i + 1)).length)), ar_i cI td 2048 (pt_put fr g (pt_rl rs (i + 1)))] := by rw [show pt_rl rs (i + 1) = pt_rl rs i ++ [nI (rs i)] from rfl, len_s, ← put_s, ← cnt_s]; exact hD
        refine lv_lload hx hb dc_Ck_settlesPartners_46 (lv_at hl 1 rfl) ?_
        refine lv_aload_n hx hb dc_Ck_settlesPartners_48 rfl (lv_at hl 4 rfl) ?_
        refine va_get (ci := 7) (v := .ref xa) (C := rn_Ck) (T := fd_Ck) (N := 5) hx hb hts in_Ck hown hK hP 0 rfl rfl 3 (by decide) (hts _ wd_579) (fun _ h9 => h9) rfl dc_Ck_settlesPartners_49 ?_
        refine va_getN (ci := 6) (v := .ref aa) (C := rn_As) (T := fd_As) (N := 5) hx hb hts in_As hown hK hP 5 rfl rfl 0 (by decide) (nf_165 hN) (fun _ h9 => h9) rfl dc_Ck_settlesPartners_52 ?_
        refine lv_iload hx hb dc_Ck_settlesPartners_55 (lv_at hl 0 rfl) ?_
        refine ka_nald (t := rs) hx hb hK hP 6 0 rfl rfl (j := i) (by omega) (by omega) dc_Ck_settlesPartners_57 ?_
        refine kr_call1 (va_runSN (As := [.int (nI (rs i))]) (rest := [.long (lN (pt_ru rs i))]) ⟨hx, hb, hml, hown, hts⟩ (ct_Pt_one l D cI cZ _ (rs i) (by have := (hok.2 i (by omega)).1; omega)) ⟨va_cnB 1 hts (kx_gi wd_559) rfl rfl rfl (nw_600 hN) (hts _ wd_1) yd_Pt_one ⟨Nat.le_of_ble_eq_true rfl, Nat.le_of_ble_eq_true rfl⟩, hts _ wd_558, trivial⟩ (kp_S hP hD hK hN [] rfl rfl) rfl rfl hl.1 rfl (lv_room (Nat.le_of_ble_eq_true rfl)) dc_Ck_settlesPartners_58 ⟨Nat.le_of_ble_eq_true rfl, Nat.le_of_ble_eq_true rfl⟩) ?_
        refine kl_lor hx hb dc_Ck_settlesPartners_61 ?_
        refine lv_lstore (lv' := [(4, .long (lN ((pt_ru rs i) ||| (2 ^ (rs i))))), (6, .int (nI i)), (3, .int (nI n)), (2, .int (nI t)), (0, .ref o), (1, .int (nI j))]) hx hb dc_Ck_settlesPartners_62 hl (by decide) rfl (fun ls hl => ?_)
        refine lv_iinc (k := 1) (v := nI (i + 1)) (lv' := [(6, .int (nI (i + 1))), (4, .long (lN ((pt_ru rs i) ||| (2 ^ (rs i))))), (3, .int (nI n)), (2, .int (nI t)), (0, .ref o), (1, .int (nI j))]) hx hb dc_Ck_settlesPartners_64 hl rfl (nI_1 _) (by decide) rfl (fun ls hl => ?_)
        refine lv_goto hx hb dc_Ck_settlesPartners_67 rfl ?_
        exact ih _ _ _ _ (by omega) hP hD hS hl (by omega)
  exact lp_22 _ _ _ _ _ (Nat.lt_succ_self _) hP hD hS hl (by omega)
end
section
/-! a clause is tried; all are, from the last to the first -/
theorem op_op {x : Nat} (h : x < 65536) : nb_op (nb_op x) = x := by
  apply Nat.eq_of_testBit_eq
  intro i
  rw [nb_op_bit (nb_op_lt h)]
  by_cases h8 : i < 8
  · rw [if_pos h8, nb_op_bit h, if_neg (by omega), if_pos (by omega), show i + 8 - 8 = i by omega]
  · rw [if_neg h8]
    by_cases h16 : i < 16
    · rw [if_pos h16, nb_op_bit h, if_pos (by omega), show i - 8 + 8 = i by omega]
    · rw [if_neg h16]
      exact (Nat.testBit_lt_two_pow (Nat.lt_of_lt_of_le (show x < 2 ^ 16 from h) (Nat.pow_le_pow_right (show 0 < 2 by decide) (by omega)))).symm
theorem free_le (t : Nat) : pt_free t ≤ 8 := by
  have h := free_mono 0 t
  rw [Nat.zero_or] at h
  exact h
/-- a try: right or not, the marks, the hints, the assignment -/
def pt_right (fs : Nat → Nat) (lv mk cn w pb x : Nat) (rs im : Nat → Nat) : Bool × Nat × List Int32 × Nat × Nat × Nat × (Nat → Nat) × (Nat → Nat) :=
  let R := pt_prop fs lv mk cn 9 0 (nb_op x) (nb_op (nb_op x)) rs im
  if R.1 = 0 then
    if w = 0 then (false, mk, [], R.2)
    else
      let Z := pt_sp fs lv mk cn (2 ^ pb) R.2.2.1 R.2.1 cn 1 (pt_ru R.2.2.2.2.1 R.2.1) (pt_rl R.2.2.2.2.1 R.2.1) R.2.1 R.2.2.1 R.2.2.2.1 R.2.2.2.2.1 R.2.2.2.2.2
      (Z.1, if Z.1 = true then mk ||| Z.2.1 else mk, Z.2.2)
  else (true, mk ||| pt_used fs R.2.2.2.2.1 R.2.2.2.2.2 R.2.1 (2 ^ R.1) (fs R.1), pt_exs R.2.2.2.2.1 (pt_used fs R.2.2.2.2.1 R.2.2.2.2.2 R.2.1 (2 ^ R.1) (fs R.1)) 0 (R.2.1 - 0) ++ [nI R.1], R.2)
abbrev pt_S : Type := Nat × Nat × Nat × (Nat → Nat) × (Nat → Nat) × (Nat → Int32) × Nat × Nat × Nat × (Nat → Nat) × (Nat → Nat)
/-- going back over k steps: the wrong step or 0; live, marks, how many hints in all, starts, counts, hints, the assignment -/
def pt_gb (fs fz pb : Nat → Nat) (cn : Nat) (dl : Nat → Bool) (nu : Nat → Nat) : Nat → Nat → Nat → Nat → (Nat → Nat) → (Nat → Nat) → (Nat → Int32) → Nat → Nat → Nat → (Nat → Nat) → (Nat → Nat) → Nat × pt_S
  | 0, lv, ma, g, ft, fc, fr, n, t, f, rs, im => (0, lv, ma, g, ft, fc, fr, n, t, f, rs, im)
  | k + 1, lv, ma, g, ft, fc, fr, n, t, f, rs, im =>
    if dl (k + 1) = true then pt_gb fs fz pb cn dl nu k (lv ||| 2 ^ nu (k + 1)) ma g ft fc fr n t f rs im
    else if ma.testBit (nu (k + 1)) = false then pt_gb fs fz pb cn dl nu k (nb_d lv (2 ^ nu (k + 1))) ma g ft fc fr n t f rs im
    else
      let Z := pt_right fs (nb_d lv (2 ^ nu (k + 1))) ma cn (fz (nu (k + 1))) (pb (nu (k + 1))) (fs (nu (k + 1))) rs im
      if Z.1 = true then pt_gb fs fz pb cn dl nu k (nb_d lv (2 ^ nu (k + 1))) Z.2.1 (g + Z.2.2.1.length) (va_up ft (nu (k + 1)) g) (va_up fc (nu (k + 1)) (fc (nu (k + 1)) + Z.2.2.1.length)) (pt_put fr g Z.2.2.1) Z.2.2.2.1 Z.2.2.2.2.1 Z.2.2.2.2.2.1 Z.2.2.2.2.2.2.1 Z.2.2.2.2.2.2.2
      else (k + 1, nb_d lv (2 ^ nu (k + 1)), Z.2.1, g + Z.2.2.1.length, va_up ft (nu (k + 1)) g, va_up fc (nu (k + 1)) (fc (nu (k + 1)) + Z.2.2.1.length), pt_put fr g Z.2.2.1, Z.2.2.2.1, Z.2.2.2.2.1, Z.2.2.2.2.2.1, Z.2.2.2.2.2.2.1, Z.2.2.2.2.2.2.2)
theorem gb_len {fs fz pb : Nat → Nat} {cn : Nat} {dl : Nat → Bool} {nu : Nat → Nat} : ∀ (k lv mk g : Nat) (ft fc : Nat → Nat) (fr : Nat → Int32) (n t f : Nat) (rs im : Nat → Nat), g ≤ (pt_gb fs fz pb cn dl nu k lv mk g ft fc fr n t f rs im).2.2.2.1 := by
  intro k
  induction k with
  | zero => intro lv mk g ft fc fr n t f rs im; exact Nat.le_refl _
  | succ k ih =>
    intro lv mk g ft fc fr n t f rs im
    rw [pt_gb]
    split
    · exact ih _ _ _ _ _ _ _ _ _ _ _
    · split
      · exact ih _ _ _ _ _ _ _ _ _ _ _
      · dsimp only
        split
        · exact Nat.le_trans (Nat.le_add_right _ _) (ih _ _ _ _ _ _ _ _ _ _ _)
        · exact Nat.le_add_right _ _
theorem live_lt {dl : Nat → Bool} {nu : Nat → Nat} (h : ∀ i, nu i ≤ 32) : ∀ (k i lv : Nat), lv < 2 ^ 33 → pt_live dl nu k i lv < 2 ^ 33 := by
  intro k
  induction k with
  | zero => intro i lv hl; exact hl
  | succ k ih =>
    intro i lv hl
    rw [pt_live]
    refine ih _ _ ?_
    split
    · exact nb_d_lt hl
    · exact Nat.or_lt_two_pow hl (Nat.pow_lt_pow_right (by decide) (by have := h i; omega))

theorem dc_Ck_isRight_0 : decode bc_Ck_isRight 0 = .ok (.aload_n 0, 1) := by decide +kernel
theorem dc_Ck_isRight_1 : decode bc_Ck_isRight 1 = .ok (.getfield 19, 3) := by decide +kernel
theorem dc_Ck_isRight_4 : decode bc_Ck_isRight 4 = .ok (.iload_n 1, 1) := by decide +kernel
theorem dc_Ck_isRight_5 : decode bc_Ck_isRight 5 = .ok (.invokevirtual 70, 3) := by decide +kernel
theorem dc_Ck_isRight_8 : decode bc_Ck_isRight 8 = .ok (.aload_n 0, 1) := by decide +kernel
theorem dc_Ck_isRight_9 : decode bc_Ck_isRight 9 = .ok (.getfield 23, 3) := by decide +kernel
theorem dc_Ck_isRight_12 : decode bc_Ck_isRight 12 = .ok (.aload_n 0, 1) := by decide +kernel
theorem dc_Ck_isRight_13 : decode bc_Ck_isRight 13 = .ok (.getfield 9, 3) := by decide +kernel
theorem dc_Ck_isRight_16 : decode bc_Ck_isRight 16 = .ok (.getfield 74, 3) := by decide +kernel
theorem dc_Ck_isRight_19 : decode bc_Ck_isRight 19 = .ok (.iload_n 1, 1) := by decide +kernel
theorem dc_Ck_isRight_20 : decode bc_Ck_isRight 20 = .ok (.iaload, 1) := by decide +kernel
theorem dc_Ck_isRight_21 : decode bc_Ck_isRight 21 = .ok (.invokestatic 77, 3) := by decide +kernel
theorem dc_Ck_isRight_24 : decode bc_Ck_isRight 24 = .ok (.iconst 0, 1) := by decide +kernel
theorem dc_Ck_isRight_25 : decode bc_Ck_isRight 25 = .ok (.invokevirtual 81, 3) := by decide +kernel
theorem dc_Ck_isRight_28 : decode bc_Ck_isRight 28 = .ok (.aload_n 0, 1) := by decide +kernel
theorem dc_Ck_isRight_29 : decode bc_Ck_isRight 29 = .ok (.invokevirtual 87, 3) := by decide +kernel
theorem dc_Ck_isRight_32 : decode bc_Ck_isRight 32 = .ok (.istore_n 2, 1) := by decide +kernel
theorem dc_Ck_isRight_33 : decode bc_Ck_isRight 33 = .ok (.iload_n 2, 1) := by decide +kernel
theorem dc_Ck_isRight_34 : decode bc_Ck_isRight 34 = .ok (.ifCond .eq (24), 3) := by decide +kernel
theorem dc_Ck_isRight_37 : decode bc_Ck_isRight 37 = .ok (.aload_n 0, 1) := by decide +kernel
theorem dc_Ck_isRight_38 : decode bc_Ck_isRight 38 = .ok (.getfield 19, 3) := by decide +kernel
theorem dc_Ck_isRight_41 : decode bc_Ck_isRight 41 = .ok (.dup, 1) := by decide +kernel
theorem dc_Ck_isRight_42 : decode bc_Ck_isRight 42 = .ok (.getfield 46, 3) := by decide +kernel
theorem dc_Ck_isRight_45 : decode bc_Ck_isRight 45 = .ok (.aload_n 0, 1) := by decide +kernel
theorem dc_Ck_isRight_46 : decode bc_Ck_isRight 46 = .ok (.iload_n 1, 1) := by decide +kernel
theorem dc_Ck_isRight_47 : decode bc_Ck_isRight 47 = .ok (.iconst 0, 1) := by decide +kernel
theorem dc_Ck_isRight_48 : decode bc_Ck_isRight 48 = .ok (.iload_n 2, 1) := by decide +kernel
theorem dc_Ck_isRight_49 : decode bc_Ck_isRight 49 = .ok (.invokevirtual 91, 3) := by decide +kernel
theorem dc_Ck_isRight_52 : decode bc_Ck_isRight 52 = .ok (.lor, 1) := by decide +kernel
theorem dc_Ck_isRight_53 : decode bc_Ck_isRight 53 = .ok (.putfield 46, 3) := by decide +kernel
theorem dc_Ck_isRight_56 : decode bc_Ck_isRight 56 = .ok (.iconst 1, 1) := by decide +kernel
theorem dc_Ck_isRight_57 : decode bc_Ck_isRight 57 = .ok (.ireturn, 1) := by decide +kernel
theorem dc_Ck_isRight_58 : decode bc_Ck_isRight 58 = .ok (.aload_n 0, 1) := by decide +kernel
theorem dc_Ck_isRight_59 : decode bc_Ck_isRight 59 = .ok (.getfield 9, 3) := by decide +kernel
theorem dc_Ck_isRight_62 : decode bc_Ck_isRight 62 = .ok (.getfield 95, 3) := by decide +kernel
theorem dc_Ck_isRight_65 : decode bc_Ck_isRight 65 = .ok (.iload_n 1, 1) := by decide +kernel
theorem dc_Ck_isRight_66 : decode bc_Ck_isRight 66 = .ok (.iaload, 1) := by decide +kernel
theorem dc_Ck_isRight_67 : decode bc_Ck_isRight 67 = .ok (.ifCond .eq (15), 3) := by decide +kernel
theorem dc_Ck_isRight_70 : decode bc_Ck_isRight 70 = .ok (.aload_n 0, 1) := by decide +kernel
theorem dc_Ck_isRight_71 : decode bc_Ck_isRight 71 = .ok (.iload_n 1, 1) := by decide +kernel
theorem dc_Ck_isRight_72 : decode bc_Ck_isRight 72 = .ok (.invokevirtual 98, 3) := by decide +kernel
theorem dc_Ck_isRight_75 : decode bc_Ck_isRight 75 = .ok (.ifCond .eq (7), 3) := by decide +kernel
theorem dc_Ck_isRight_78 : decode bc_Ck_isRight 78 = .ok (.iconst 1, 1) := by decide +kernel
theorem dc_Ck_isRight_79 : decode bc_Ck_isRight 79 = .ok (.goto (4), 3) := by decide +kernel
theorem dc_Ck_isRight_82 : decode bc_Ck_isRight 82 = .ok (.iconst 0, 1) := by decide +kernel
theorem dc_Ck_isRight_83 : decode bc_Ck_isRight 83 = .ok (.ireturn, 1) := by decide +kernel
theorem dc_Ck_goBack_0 : decode bc_Ck_goBack 0 = .ok (.aload_n 0, 1) := by decide +kernel
theorem dc_Ck_goBack_1 : decode bc_Ck_goBack 1 = .ok (.aload_n 0, 1) := by decide +kernel
theorem dc_Ck_goBack_2 : decode bc_Ck_goBack 2 = .ok (.getfield 15, 3) := by decide +kernel
theorem dc_Ck_goBack_5 : decode bc_Ck_goBack 5 = .ok (.iload_n 1, 1) := by decide +kernel
theorem dc_Ck_goBack_6 : decode bc_Ck_goBack 6 = .ok (.invokevirtual 27, 3) := by decide +kernel
theorem dc_Ck_goBack_9 : decode bc_Ck_goBack 9 = .ok (.putfield 33, 3) := by decide +kernel
theorem dc_Ck_goBack_12 : decode bc_Ck_goBack 12 = .ok (.aload_n 0, 1) := by decide +kernel
theorem dc_Ck_goBack_13 : decode bc_Ck_goBack 13 = .ok (.getfield 19, 3) := by decide +kernel
theorem dc_Ck_goBack_16 : decode bc_Ck_goBack 16 = .ok (.aload_n 0, 1) := by decide +kernel
theorem dc_Ck_goBack_17 : decode bc_Ck_goBack 17 = .ok (.getfield 9, 3) := by decide +kernel
theorem dc_Ck_goBack_20 : decode bc_Ck_goBack 20 = .ok (.getfield 37, 3) := by decide +kernel
theorem dc_Ck_goBack_23 : decode bc_Ck_goBack 23 = .ok (.invokestatic 43, 3) := by decide +kernel
theorem dc_Ck_goBack_26 : decode bc_Ck_goBack 26 = .ok (.putfield 46, 3) := by decide +kernel
theorem dc_Ck_goBack_29 : decode bc_Ck_goBack 29 = .ok (.aload_n 0, 1) := by decide +kernel
theorem dc_Ck_goBack_30 : decode bc_Ck_goBack 30 = .ok (.getfield 15, 3) := by decide +kernel
theorem dc_Ck_goBack_33 : decode bc_Ck_goBack 33 = .ok (.getfield 51, 3) := by decide +kernel
theorem dc_Ck_goBack_36 : decode bc_Ck_goBack 36 = .ok (.istore_n 2, 1) := by decide +kernel
theorem dc_Ck_goBack_37 : decode bc_Ck_goBack 37 = .ok (.iload_n 2, 1) := by decide +kernel
theorem dc_Ck_goBack_38 : decode bc_Ck_goBack 38 = .ok (.iconst 1, 1) := by decide +kernel
theorem dc_Ck_goBack_39 : decode bc_Ck_goBack 39 = .ok (.if_icmp .lt (88), 3) := by decide +kernel
theorem dc_Ck_goBack_42 : decode bc_Ck_goBack 42 = .ok (.aload_n 0, 1) := by decide +kernel
theorem dc_Ck_goBack_43 : decode bc_Ck_goBack 43 = .ok (.getfield 15, 3) := by decide +kernel
theorem dc_Ck_goBack_46 : decode bc_Ck_goBack 46 = .ok (.getfield 52, 3) := by decide +kernel
theorem dc_Ck_goBack_49 : decode bc_Ck_goBack 49 = .ok (.iload_n 2, 1) := by decide +kernel
theorem dc_Ck_goBack_50 : decode bc_Ck_goBack 50 = .ok (.iaload, 1) := by decide +kernel
theorem dc_Ck_goBack_51 : decode bc_Ck_goBack 51 = .ok (.istore_n 3, 1) := by decide +kernel
theorem dc_Ck_goBack_52 : decode bc_Ck_goBack 52 = .ok (.aload_n 0, 1) := by decide +kernel
theorem dc_Ck_goBack_53 : decode bc_Ck_goBack 53 = .ok (.getfield 15, 3) := by decide +kernel
theorem dc_Ck_goBack_56 : decode bc_Ck_goBack 56 = .ok (.getfield 56, 3) := by decide +kernel
theorem dc_Ck_goBack_59 : decode bc_Ck_goBack 59 = .ok (.iload_n 2, 1) := by decide +kernel
theorem dc_Ck_goBack_60 : decode bc_Ck_goBack 60 = .ok (.baload, 1) := by decide +kernel
theorem dc_Ck_goBack_61 : decode bc_Ck_goBack 61 = .ok (.ifCond .eq (19), 3) := by decide +kernel
theorem dc_Ck_goBack_64 : decode bc_Ck_goBack 64 = .ok (.aload_n 0, 1) := by decide +kernel
theorem dc_Ck_goBack_65 : decode bc_Ck_goBack 65 = .ok (.dup, 1) := by decide +kernel
theorem dc_Ck_goBack_66 : decode bc_Ck_goBack 66 = .ok (.getfield 33, 3) := by decide +kernel
theorem dc_Ck_goBack_69 : decode bc_Ck_goBack 69 = .ok (.iload_n 3, 1) := by decide +kernel
theorem dc_Ck_goBack_70 : decode bc_Ck_goBack 70 = .ok (.invokestatic 43, 3) := by decide +kernel
theorem dc_Ck_goBack_73 : decode bc_Ck_goBack 73 = .ok (.lor, 1) := by decide +kernel
theorem dc_Ck_goBack_74 : decode bc_Ck_goBack 74 = .ok (.putfield 33, 3) := by decide +kernel
theorem dc_Ck_goBack_77 : decode bc_Ck_goBack 77 = .ok (.goto (44), 3) := by decide +kernel
theorem dc_Ck_goBack_80 : decode bc_Ck_goBack 80 = .ok (.aload_n 0, 1) := by decide +kernel
theorem dc_Ck_goBack_81 : decode bc_Ck_goBack 81 = .ok (.dup, 1) := by decide +kernel
theorem dc_Ck_goBack_82 : decode bc_Ck_goBack 82 = .ok (.getfield 33, 3) := by decide +kernel
theorem dc_Ck_goBack_85 : decode bc_Ck_goBack 85 = .ok (.iload_n 3, 1) := by decide +kernel
theorem dc_Ck_goBack_86 : decode bc_Ck_goBack 86 = .ok (.invokestatic 43, 3) := by decide +kernel
theorem dc_Ck_goBack_89 : decode bc_Ck_goBack 89 = .ok (.ldc2_w 60, 3) := by decide +kernel
theorem dc_Ck_goBack_92 : decode bc_Ck_goBack 92 = .ok (.lxor, 1) := by decide +kernel
theorem dc_Ck_goBack_93 : decode bc_Ck_goBack 93 = .ok (.land, 1) := by decide +kernel
theorem dc_Ck_goBack_94 : decode bc_Ck_goBack 94 = .ok (.putfield 33, 3) := by decide +kernel
theorem dc_Ck_goBack_97 : decode bc_Ck_goBack 97 = .ok (.aload_n 0, 1) := by decide +kernel
theorem dc_Ck_goBack_98 : decode bc_Ck_goBack 98 = .ok (.getfield 19, 3) := by decide +kernel
theorem dc_Ck_goBack_101 : decode bc_Ck_goBack 101 = .ok (.getfield 46, 3) := by decide +kernel
theorem dc_Ck_goBack_104 : decode bc_Ck_goBack 104 = .ok (.iload_n 3, 1) := by decide +kernel
theorem dc_Ck_goBack_105 : decode bc_Ck_goBack 105 = .ok (.invokestatic 62, 3) := by decide +kernel
theorem dc_Ck_goBack_108 : decode bc_Ck_goBack 108 = .ok (.ifCond .eq (13), 3) := by decide +kernel
theorem dc_Ck_goBack_111 : decode bc_Ck_goBack 111 = .ok (.aload_n 0, 1) := by decide +kernel
theorem dc_Ck_goBack_112 : decode bc_Ck_goBack 112 = .ok (.iload_n 3, 1) := by decide +kernel
theorem dc_Ck_goBack_113 : decode bc_Ck_goBack 113 = .ok (.invokevirtual 66, 3) := by decide +kernel
theorem dc_Ck_goBack_116 : decode bc_Ck_goBack 116 = .ok (.ifCond .ne (5), 3) := by decide +kernel
theorem dc_Ck_goBack_119 : decode bc_Ck_goBack 119 = .ok (.iload_n 2, 1) := by decide +kernel
theorem dc_Ck_goBack_120 : decode bc_Ck_goBack 120 = .ok (.ireturn, 1) := by decide +kernel
theorem dc_Ck_goBack_121 : decode bc_Ck_goBack 121 = .ok (.iinc 2 (-1), 3) := by decide +kernel
theorem dc_Ck_goBack_124 : decode bc_Ck_goBack 124 = .ok (.goto (-87), 3) := by decide +kernel
theorem dc_Ck_goBack_127 : decode bc_Ck_goBack 127 = .ok (.iconst 0, 1) := by decide +kernel
theorem dc_Ck_goBack_128 : decode bc_Ck_goBack 128 = .ok (.ireturn, 1) := by decide +kernel
theorem dc_Ck_init_0 : decode bc_Ck_init 0 = .ok (.aload_n 0, 1) := by decide +kernel
theorem dc_Ck_init_1 : decode bc_Ck_init 1 = .ok (.invokespecial 3, 3) := by decide +kernel
theorem dc_Ck_init_4 : decode bc_Ck_init 4 = .ok (.aload_n 0, 1) := by decide +kernel
theorem dc_Ck_init_5 : decode bc_Ck_init 5 = .ok (.aload_n 1, 1) := by decide +kernel
theorem dc_Ck_init_6 : decode bc_Ck_init 6 = .ok (.putfield 9, 3) := by decide +kernel
theorem dc_Ck_init_9 : decode bc_Ck_init 9 = .ok (.aload_n 0, 1) := by decide +kernel
theorem dc_Ck_init_10 : decode bc_Ck_init 10 = .ok (.aload_n 2, 1) := by decide +kernel
theorem dc_Ck_init_11 : decode bc_Ck_init 11 = .ok (.putfield 15, 3) := by decide +kernel
theorem dc_Ck_init_14 : decode bc_Ck_init 14 = .ok (.aload_n 0, 1) := by decide +kernel
theorem dc_Ck_init_15 : decode bc_Ck_init 15 = .ok (.aload_n 3, 1) := by decide +kernel
theorem dc_Ck_init_16 : decode bc_Ck_init 16 = .ok (.putfield 19, 3) := by decide +kernel
theorem dc_Ck_init_19 : decode bc_Ck_init 19 = .ok (.aload_n 0, 1) := by decide +kernel
theorem dc_Ck_init_20 : decode bc_Ck_init 20 = .ok (.aload 4, 2) := by decide +kernel
theorem dc_Ck_init_22 : decode bc_Ck_init 22 = .ok (.putfield 23, 3) := by decide +kernel
theorem dc_Ck_init_25 : decode bc_Ck_init 25 = .ok (.return_, 1) := by decide +kernel
set_option maxHeartbeats 4000000 in
set_option maxRecDepth 100000 in
theorem ct_Ck_isRight (l : Launch) (D : va_G) (cI cZ : ClassId) (sz : Nat) (o : Nat) (xc : Nat) (xs : Nat) (xt : Nat) (xa : Nat) (lv : Nat) (ca : Nat) (cb : Nat) (cd : Nat) (cn : Nat) (fz : Nat → Nat) (fs : Nat → Nat) (fl : Nat → Int32) (aa : Nat) (ab : Nat) (n : Nat) (t : Nat) (f : Nat) (rs : Nat → Nat) (im : Nat → Nat) (ta : Nat) (tb : Nat) (td : Nat) (g : Nat) (mk : Nat) (ckd : Bool) (ft : Nat → Nat) (fc : Nat → Nat) (fr : Nat → Int32) (j : Nat) (qb : Nat) (pb : Nat) (hcn : cn ≤ 32) (h16 : ∀ j, fs j < 65536) (hlv : lv < 2 ^ 62) (hz : ∀ i, 1 ≤ i → i ≤ cn → fz i ≤ 8) (hj1 : 1 ≤ j) (hj2 : j ≤ cn) (hlit : 1 ≤ fz j → qb < 16 ∧ fl (j * 8) = pt_lit qb ∧ (qb + 8) % 16 = pb) (hfit : g + (pt_right fs lv mk cn (fz j) pb (fs j) rs im).2.2.1.length ≤ 2048) : Met l yn_Ck_isRight (Cond.code yn_Ck_isRight bc_Ck_isRight 3 (some .boolean) :: kx_all) ({ frames := 4, cells := 0, slots := 0, locals := 101 } : Room) (kp [.ref o, .int (nI j)] D cI cZ [ck_c o xc xs xt xa lv, cl_c xc ca cb cd cn, ar_n cI ca 33 fz, ar_n cI cb 33 fs, ar_i cI cd (33 * 8) fl, as_c xa aa ab n t f, ar_n cI aa 8 rs, ar_n cI ab 8 im, tr_c xt ta tb td g mk ckd, ar_n cI ta 33 ft, ar_n cI tb 33 fc, ar_i cI td 2048 fr] sz) (kw_q (some (.int (kb_i ((pt_right fs lv mk cn (fz j) pb (fs j) rs im).1)))) D kc_l [ck_c o xc xs xt xa lv, cl_c xc ca cb cd cn, ar_n cI ca 33 fz, ar_n cI cb 33 fs, ar_i cI cd (33 * 8) fl, as_c xa aa ab ((pt_right fs lv mk cn (fz j) pb (fs j) rs im).2.2.2.1) ((pt_right fs lv mk cn (fz j) pb (fs j) rs im).2.2.2.2.1) ((pt_right fs lv mk cn (fz j) pb (fs j) rs im).2.2.2.2.2.1), ar_n cI aa 8 ((pt_right fs lv mk cn (fz j) pb (fs j) rs im).2.2.2.2.2.2.1), ar_n cI ab 8 ((pt_right fs lv mk cn (fz j) pb (fs j) rs im).2.2.2.2.2.2.2), tr_c xt ta tb td (g + (pt_right fs lv mk cn (fz j) pb (fs j) rs im).2.2.1.length) ((pt_right fs lv mk cn (fz j) pb (fs j) rs im).2.1) ckd, ar_n cI ta 33 (va_up ft j g), ar_n cI tb 33 (va_up fc j (fc j + (pt_right fs lv mk cn (fz j) pb (fs j) rs im).2.2.1.length)), ar_i cI td 2048 (pt_put fr g (pt_right fs lv mk cn (fz j) pb (fs j) rs im).2.2.1)] (va_A [ck_c o xc xs xt xa lv, cl_c xc ca cb cd cn, ar_n cI ca 33 fz, ar_n cI cb 33 fs, ar_i cI cd (33 * 8) fl, as_c xa aa ab n t f, ar_n cI aa 8 rs, ar_n cI ab 8 im, tr_c xt ta tb td g mk ckd, ar_n cI ta 33 ft, ar_n cI tb 33 fc, ar_i cI td 2048 fr] sz)) 0 0 (va_A [ck_c o xc xs xt xa lv, cl_c xc ca cb cd cn, ar_n cI ca 33 fz, ar_n cI cb 33 fs, ar_i cI cd (33 * 8) fl, as_c xa aa ab n t f, ar_n cI aa 8 rs, ar_n cI ab 8 im, tr_c xt ta tb td g mk ckd, ar_n cI ta 33 ft, ar_n cI tb 33 fc, ar_i cI td 2048 fr] sz) := by
  refine kx_metW (by decide) (Nat.le_of_ble_eq_true rfl) ?_
  intro p e s m below meth c ls A hx hb hr hml hts hown hlocks hin hA hP hK hD hN hl hS
  have hown : s.vm.findClass rn_Ck = some m.cls := hown
  have hl : lv_has ls 3 [(0, .ref o), (1, .int (nI j))] := hl
  have hx16 := nb_op_lt (h16 j)
  have hcap0 : pt_cap 0 (nb_op (fs j)) (nb_op (nb_op (fs j))) := ⟨hx16, rfl, by have := free_le (nb_op (fs j)); omega⟩
  refine lv_aload_n hx hb dc_Ck_isRight_0 rfl (lv_at hl 0 rfl) ?_
  refine va_get (ci := 7) (v := .ref xt) (C := rn_Ck) (T := fd_Ck) (N := 5) hx hb hts in_Ck hown hK hP 0 rfl rfl 2 (by decide) (hts _ wd_578) (fun _ h9 => h9) rfl dc_Ck_isRight_1 ?_
  refine lv_iload_n hx hb dc_Ck_isRight_4 rfl (lv_at hl 1 rfl) ?_
  refine kw_call0 (wr := [ck_c o xc xs xt xa lv, cl_c xc ca cb cd cn, ar_n cI ca 33 fz, ar_n cI cb 33 fs, ar_i cI cd (33 * 8) fl, as_c xa aa ab n t f, ar_n cI aa 8 rs, ar_n cI ab 8 im]) (ws' := [ck_c o xc xs xt xa lv, cl_c xc ca cb cd cn, ar_n cI ca 33 fz, ar_n cI cb 33 fs, ar_i cI cd (33 * 8) fl, as_c xa aa ab n t f, ar_n cI aa 8 rs, ar_n cI ab 8 im, tr_c xt ta tb td g mk ckd, ar_n cI ta 33 (va_up ft j g), ar_n cI tb 33 fc, ar_i cI td 2048 fr]) (va_runV (As := [.int (nI j)]) (rest := []) ⟨hx, hb, hml, hown, hts⟩ (ct_Tr_begin l D cI cZ _ xt ta tb td g mk ckd ft fc fr j (by omega)) (cwV 1 hts (kx_gV wd_607 wd_608 wd_609 wd_7 wd_610) rfl rfl rfl ⟨rfl, yd_Tr_begin⟩ ⟨Nat.le_of_ble_eq_true rfl, Nat.le_of_ble_eq_true rfl⟩) (kp_V (q0 := 8) (ci := 5) hP hD hK hN [8, 9, 10, 11] rfl rfl rfl rfl rfl) rfl rfl hl.1 rfl (lv_room (Nat.le_of_ble_eq_true rfl)) dc_Ck_isRight_5 ⟨Nat.le_of_ble_eq_true rfl, Nat.le_of_ble_eq_true rfl⟩) hP hD hS hA [8, 9, 10, 11] [0, 1, 2, 3, 4, 5, 6, 7] [0, 1, 2, 3, 4, 5, 6, 7, 8, 9, 10, 11] rfl rfl rfl (by decide) rfl rfl (fun H locs hP hD hS => ?_)
  refine lv_aload_n hx hb dc_Ck_isRight_8 rfl (lv_at hl 0 rfl) ?_
  refine va_get (ci := 7) (v := .ref xa) (C := rn_Ck) (T := fd_Ck) (N := 5) hx hb hts in_Ck hown hK hP 0 rfl rfl 3 (by decide) (hts _ wd_579) (fun _ h9 => h9) rfl dc_Ck_isRight_9 ?_
  refine lv_aload_n hx hb dc_Ck_isRight_12 rfl (lv_at hl 0 rfl) ?_
  refine va_get (ci := 7) (v := .ref xc) (C := rn_Ck) (T := fd_Ck) (N := 5) hx hb hts in_Ck hown hK hP 0 rfl rfl 0 (by decide) (hts _ wd_576) (fun _ h9 => h9) rfl dc_Ck_isRight_13 ?_
  refine va_getN (ci := 2) (v := .ref cb) (C := rn_Cl) (T := fd_Cl) (N := 4) hx hb hts in_Cl hown hK hP 1 rfl rfl 1 (by decide) (nf_70 hN) (fun _ h9 => h9) rfl dc_Ck_isRight_16 ?_
  refine lv_iload_n hx hb dc_Ck_isRight_19 rfl (lv_at hl 1 rfl) ?_
  refine ka_nald (t := fs) hx hb hK hP 3 0 rfl rfl (j := j) (by omega) (by omega) dc_Ck_isRight_20 ?_
  refine kr_call1 (va_runSN (As := [.int (nI (fs j))]) (rest := [.ref xa]) ⟨hx, hb, hml, hown, hts⟩ (ct_Pt_opposites l D cI cZ _ (fs j) (h16 j)) ⟨va_cnB 1 hts (kx_gi wd_613) rfl rfl rfl (nw_611 hN) (hts _ wd_1) yd_Pt_opposites ⟨Nat.le_of_ble_eq_true rfl, Nat.le_of_ble_eq_true rfl⟩, hts _ wd_612, trivial⟩ (kp_S hP hD hK hN [] rfl rfl) rfl rfl hl.1 rfl (lv_room (Nat.le_of_ble_eq_true rfl)) dc_Ck_isRight_21 ⟨Nat.le_of_ble_eq_true rfl, Nat.le_of_ble_eq_true rfl⟩) ?_
  refine lv_iconst (v := nI 0) hx hb dc_Ck_isRight_24 (by decide +kernel) ?_
  refine kw_call0 (wr := [ck_c o xc xs xt xa lv, cl_c xc ca cb cd cn, ar_n cI ca 33 fz, ar_n cI cb 33 fs, ar_i cI cd (33 * 8) fl, ar_n cI aa 8 rs, ar_n cI ab 8 im, tr_c xt ta tb td g mk ckd, ar_n cI ta 33 (va_up ft j g), ar_n cI tb 33 fc, ar_i cI td 2048 fr]) (ws' := [ck_c o xc xs xt xa lv, cl_c xc ca cb cd cn, ar_n cI ca 33 fz, ar_n cI cb 33 fs, ar_i cI cd (33 * 8) fl, as_c xa aa ab 0 (nb_op (fs j)) (nb_op (nb_op (fs j))), ar_n cI aa 8 rs, ar_n cI ab 8 im, tr_c xt ta tb td g mk ckd, ar_n cI ta 33 (va_up ft j g), ar_n cI tb 33 fc, ar_i cI td 2048 fr]) (va_runV (As := [.int (nI (nb_op (fs j))), .int (nI 0)]) (rest := []) ⟨hx, hb, hml, hown, hts⟩ (ct_As_restart l D cI cZ _ xa aa ab n t f (nb_op (fs j)) 0 (hx16)) (cwV 2 hts (kx_gV wd_615 wd_616 wd_617 wd_8 wd_618) rfl rfl rfl ⟨rfl, yd_As_restart⟩ ⟨Nat.le_of_ble_eq_true rfl, Nat.le_of_ble_eq_true rfl⟩) (kp_V (q0 := 5) (ci := 6) hP hD hK hN [5] rfl rfl rfl rfl rfl) rfl rfl hl.1 rfl (lv_room (Nat.le_of_ble_eq_true rfl)) dc_Ck_isRight_25 ⟨Nat.le_of_ble_eq_true rfl, Nat.le_of_ble_eq_true rfl⟩) hP hD hS hA [5] [0, 1, 2, 3, 4, 6, 7, 8, 9, 10, 11] [0, 1, 2, 3, 4, 11, 5, 6, 7, 8, 9, 10] rfl rfl rfl (by decide) rfl rfl (fun H locs hP hD hS => ?_)
  refine lv_aload_n hx hb dc_Ck_isRight_28 rfl (lv_at hl 0 rfl) ?_
  refine kw_call1 (wr := [ar_n cI ca 33 fz, ar_i cI cd (33 * 8) fl, ar_n cI ta 33 (va_up ft j g), ar_n cI tb 33 fc, ar_i cI td 2048 fr]) (ws' := [ck_c o xc xs xt xa lv, cl_c xc ca cb cd cn, ar_n cI ca 33 fz, ar_n cI cb 33 fs, ar_i cI cd (33 * 8) fl, as_c xa aa ab ((pt_prop fs lv mk cn 9 0 (nb_op (fs j)) (nb_op (nb_op (fs j))) rs im).2.1) ((pt_prop fs lv mk cn 9 0 (nb_op (fs j)) (nb_op (nb_op (fs j))) rs im).2.2.1) ((pt_prop fs lv mk cn 9 0 (nb_op (fs j)) (nb_op (nb_op (fs j))) rs im).2.2.2.1), ar_n cI aa 8 ((pt_prop fs lv mk cn 9 0 (nb_op (fs j)) (nb_op (nb_op (fs j))) rs im).2.2.2.2.1), ar_n cI ab 8 ((pt_prop fs lv mk cn 9 0 (nb_op (fs j)) (nb_op (nb_op (fs j))) rs im).2.2.2.2.2), tr_c xt ta tb td g mk ckd, ar_n cI ta 33 (va_up ft j g), ar_n cI tb 33 fc, ar_i cI td 2048 fr]) (va_runV (As := []) (rest := []) ⟨hx, hb, hml, hown, hts⟩ (ct_Ck_propagate l D cI cZ _ o xc xs xt xa lv ca cb cd cn fs aa ab 0 (nb_op (fs j)) (nb_op (nb_op (fs j))) rs im ta tb td g mk ckd (by omega) (h16) (hlv) (hcap0)) (cwV 0 hts (kx_gV wd_620 wd_622 (kx_sel (q := (yn_Ck_propagate, 5)) (List.mem_append_left _ (List.mem_of_getElem? (i := 4) rfl))) wd_20 wd_623) rfl rfl rfl ⟨rfl, yd_Ck_propagate⟩ ⟨Nat.le_of_ble_eq_true rfl, Nat.le_of_ble_eq_true rfl⟩) (kp_V (q0 := 0) (ci := 7) hP hD hK hN [0, 1, 3, 5, 6, 7, 8] rfl rfl rfl rfl rfl) rfl rfl hl.1 rfl (lv_room (Nat.le_of_ble_eq_true rfl)) dc_Ck_isRight_29 ⟨Nat.le_of_ble_eq_true rfl, Nat.le_of_ble_eq_true rfl⟩) hP hD hS hA [0, 1, 3, 5, 6, 7, 8] [2, 4, 9, 10, 11] [5, 6, 0, 7, 1, 8, 9, 10, 11, 2, 3, 4] rfl rfl rfl (by decide) rfl rfl (fun H locs hP hD hS => ?_)
  have hpo := prop_ok (lv := lv) (mk := mk) (cn := cn) h16 9 0 (nb_op (fs j)) (nb_op (nb_op (fs j))) rs im ⟨hcap0, fun k hk => absurd hk (Nat.not_lt_zero k)⟩
  generalize hRe : pt_prop fs lv mk cn 9 0 (nb_op (fs j)) (nb_op (nb_op (fs j))) rs im = RR at hpo hP hD ⊢
  have hrn8 := aok_n hpo.2.2
  refine lv_istore_n (lv' := [(2, .int (nI RR.1)), (0, .ref o), (1, .int (nI j))]) hx hb dc_Ck_isRight_32 rfl hl (by decide) rfl (fun ls hl => ?_)
  refine lv_iload_n hx hb dc_Ck_isRight_33 rfl (lv_at hl 0 rfl) ?_
  refine kn_if_eq hx hb (by have := hpo.1; omega) dc_Ck_isRight_34 rfl (fun hc34 => ?_) (fun hc34 => ?_)
  · refine lv_aload_n hx hb dc_Ck_isRight_58 rfl (lv_at hl 1 rfl) ?_
    refine va_get (ci := 7) (v := .ref xc) (C := rn_Ck) (T := fd_Ck) (N := 5) hx hb hts in_Ck hown hK hP 0 rfl rfl 0 (by decide) (hts _ wd_576) (fun _ h9 => h9) rfl dc_Ck_isRight_59 ?_
    refine va_getN (ci := 2) (v := .ref ca) (C := rn_Cl) (T := fd_Cl) (N := 4) hx hb hts in_Cl hown hK hP 1 rfl rfl 0 (by decide) (nf_65 hN) (fun _ h9 => h9) rfl dc_Ck_isRight_62 ?_
    refine lv_iload_n hx hb dc_Ck_isRight_65 rfl (lv_at hl 2 rfl) ?_
    refine ka_nald (t := fz) hx hb hK hP 2 0 rfl rfl (j := j) (by omega) (by omega) dc_Ck_isRight_66 ?_
    refine kn_if_eq hx hb (Nat.lt_of_le_of_lt (hz j hj1 hj2) (by decide)) dc_Ck_isRight_67 rfl (fun hc67 => ?_) (fun hc67 => ?_)
    · have hZ : pt_right fs lv mk cn (fz j) pb (fs j) rs im = (false, mk, [], RR.2) := by
        rw [pt_right, hRe]; dsimp only; rw [if_pos hc34, if_pos hc67]
      refine lv_iconst (v := nI 0) hx hb dc_Ck_isRight_82 (by decide +kernel) ?_
      refine kn_top (y := kb_i false) (by decide +kernel) ?_
      exact kw_zret hx hb hr hlocks hP hD hS dc_Ck_isRight_83 (by rw [hZ]) (by rw [hZ]; dsimp only; rw [put_0, cnt_0]; rfl)
    · have hZ : pt_right fs lv mk cn (fz j) pb (fs j) rs im = ((pt_sp fs lv mk cn (2 ^ pb) RR.2.2.1 RR.2.1 cn 1 (pt_ru RR.2.2.2.2.1 RR.2.1) (pt_rl RR.2.2.2.2.1 RR.2.1) RR.2.1 RR.2.2.1 RR.2.2.2.1 RR.2.2.2.2.1 RR.2.2.2.2.2).1, if (pt_sp fs lv mk cn (2 ^ pb) RR.2.2.1 RR.2.1 cn 1 (pt_ru RR.2.2.2.2.1 RR.2.1) (pt_rl RR.2.2.2.2.1 RR.2.1) RR.2.1 RR.2.2.1 RR.2.2.2.1 RR.2.2.2.2.1 RR.2.2.2.2.2).1 = true then mk ||| (pt_sp fs lv mk cn (2 ^ pb) RR.2.2.1 RR.2.1 cn 1 (pt_ru RR.2.2.2.2.1 RR.2.1) (pt_rl RR.2.2.2.2.1 RR.2.1) RR.2.1 RR.2.2.1 RR.2.2.2.1 RR.2.2.2.2.1 RR.2.2.2.2.2).2.1 else mk, (pt_sp fs lv mk cn (2 ^ pb) RR.2.2.1 RR.2.1 cn 1 (pt_ru RR.2.2.2.2.1 RR.2.1) (pt_rl RR.2.2.2.2.1 RR.2.1) RR.2.1 RR.2.2.1 RR.2.2.2.1 RR.2.2.2.2.1 RR.2.2.2.2.2).2.2) := by
        rw [pt_right, hRe]; dsimp only; rw [if_pos hc34, if_neg hc67]
      refine lv_aload_n hx hb dc_Ck_isRight_70 rfl (lv_at hl 1 rfl) ?_
      refine lv_iload_n hx hb dc_Ck_isRight_71 rfl (lv_at hl 2 rfl) ?_
      refine kw_call1 (wr := []) (ws' := [ck_c o xc xs xt xa lv, cl_c xc ca cb cd cn, ar_n cI ca 33 fz, ar_n cI cb 33 fs, ar_i cI cd (33 * 8) fl, as_c xa aa ab ((pt_sp fs lv mk cn (2 ^ pb) RR.2.2.1 RR.2.1 cn 1 (pt_ru RR.2.2.2.2.1 RR.2.1) (pt_rl RR.2.2.2.2.1 RR.2.1) RR.2.1 RR.2.2.1 RR.2.2.2.1 RR.2.2.2.2.1 RR.2.2.2.2.2).2.2.2.1) ((pt_sp fs lv mk cn (2 ^ pb) RR.2.2.1 RR.2.1 cn 1 (pt_ru RR.2.2.2.2.1 RR.2.1) (pt_rl RR.2.2.2.2.1 RR.2.1) RR.2.1 RR.2.2.1 RR.2.2.2.1 RR.2.2.2.2.1 RR.2.2.2.2.2).2.2.2.2.1) ((pt_sp fs lv mk cn (2 ^ pb) RR.2.2.1 RR.2.1 cn 1 (pt_ru RR.2.2.2.2.1 RR.2.1) (pt_rl RR.2.2.2.2.1 RR.2.1) RR.2.1 RR.2.2.1 RR.2.2.2.1 RR.2.2.2.2.1 RR.2.2.2.2.2).2.2.2.2.2.1), ar_n cI aa 8 ((pt_sp fs lv mk cn (2 ^ pb) RR.2.2.1 RR.2.1 cn 1 (pt_ru RR.2.2.2.2.1 RR.2.1) (pt_rl RR.2.2.2.2.1 RR.2.1) RR.2.1 RR.2.2.1 RR.2.2.2.1 RR.2.2.2.2.1 RR.2.2.2.2.2).2.2.2.2.2.2.1), ar_n cI ab 8 ((pt_sp fs lv mk cn (2 ^ pb) RR.2.2.1 RR.2.1 cn 1 (pt_ru RR.2.2.2.2.1 RR.2.1) (pt_rl RR.2.2.2.2.1 RR.2.1) RR.2.1 RR.2.2.1 RR.2.2.2.1 RR.2.2.2.2.1 RR.2.2.2.2.2).2.2.2.2.2.2.2), tr_c xt ta tb td (g + (pt_sp fs lv mk cn (2 ^ pb) RR.2.2.1 RR.2.1 cn 1 (pt_ru RR.2.2.2.2.1 RR.2.1) (pt_rl RR.2.2.2.2.1 RR.2.1) RR.2.1 RR.2.2.1 RR.2.2.2.1 RR.2.2.2.2.1 RR.2.2.2.2.2).2.2.1.length) (if (pt_sp fs lv mk cn (2 ^ pb) RR.2.2.1 RR.2.1 cn 1 (pt_ru RR.2.2.2.2.1 RR.2.1) (pt_rl RR.2.2.2.2.1 RR.2.1) RR.2.1 RR.2.2.1 RR.2.2.2.1 RR.2.2.2.2.1 RR.2.2.2.2.2).1 = true then mk ||| (pt_sp fs lv mk cn (2 ^ pb) RR.2.2.1 RR.2.1 cn 1 (pt_ru RR.2.2.2.2.1 RR.2.1) (pt_rl RR.2.2.2.2.1 RR.2.1) RR.2.1 RR.2.2.1 RR.2.2.2.1 RR.2.2.2.2.1 RR.2.2.2.2.2).2.1 else mk) ckd, ar_n cI ta 33 (va_up ft j g), ar_n cI tb 33 (va_up fc j (fc j + (pt_sp fs lv mk cn (2 ^ pb) RR.2.2.1 RR.2.1 cn 1 (pt_ru RR.2.2.2.2.1 RR.2.1) (pt_rl RR.2.2.2.2.1 RR.2.1) RR.2.1 RR.2.2.1 RR.2.2.2.1 RR.2.2.2.2.1 RR.2.2.2.2.2).2.2.1.length)), ar_i cI td 2048 (pt_put fr g (pt_sp fs lv mk cn (2 ^ pb) RR.2.2.1 RR.2.1 cn 1 (pt_ru RR.2.2.2.2.1 RR.2.1) (pt_rl RR.2.2.2.2.1 RR.2.1) RR.2.1 RR.2.2.1 RR.2.2.2.1 RR.2.2.2.2.1 RR.2.2.2.2.2).2.2.1)]) (va_runV (As := [.int (nI j)]) (rest := []) ⟨hx, hb, hml, hown, hts⟩ (ct_Ck_settlesPartners l D cI cZ _ o xc xs xt xa lv ca cb cd cn fz fs fl aa ab RR.2.1 RR.2.2.1 RR.2.2.2.1 RR.2.2.2.2.1 RR.2.2.2.2.2 ta tb td g mk ckd (va_up ft j g) fc fr j qb pb (by omega) (h16) (hlv) (hz) (hpo.2.2) (by omega) (by omega) (by omega) ((hlit (by omega)).1) ((hlit (by omega)).2.1) ((hlit (by omega)).2.2) (by rw [hZ] at hfit; exact hfit)) (cwV 1 hts (kx_gV wd_649 wd_651 (kx_sel (q := (yn_Ck_settlesPartners, 5)) (List.mem_append_left _ (List.mem_of_getElem? (i := 7) rfl))) wd_20 wd_652) rfl rfl rfl ⟨rfl, yd_Ck_settlesPartners⟩ ⟨Nat.le_of_ble_eq_true rfl, Nat.le_of_ble_eq_true rfl⟩) (kp_V (q0 := 0) (ci := 7) hP hD hK hN [0, 1, 2, 3, 4, 5, 6, 7, 8, 9, 10, 11] rfl rfl rfl rfl rfl) rfl rfl hl.1 rfl (lv_room (Nat.le_of_ble_eq_true rfl)) dc_Ck_isRight_72 ⟨Nat.le_of_ble_eq_true rfl, Nat.le_of_ble_eq_true rfl⟩) hP hD hS hA [0, 1, 2, 3, 4, 5, 6, 7, 8, 9, 10, 11] [] [0, 1, 2, 3, 4, 5, 6, 7, 8, 9, 10, 11] rfl rfl rfl (by decide) rfl rfl (fun H locs hP hD hS => ?_)
      generalize hSe : pt_sp fs lv mk cn (2 ^ pb) RR.2.2.1 RR.2.1 cn 1 (pt_ru RR.2.2.2.2.1 RR.2.1) (pt_rl RR.2.2.2.2.1 RR.2.1) RR.2.1 RR.2.2.1 RR.2.2.2.1 RR.2.2.2.2.1 RR.2.2.2.2.2 = SS at hP hD hZ ⊢
      refine kb_if_eq hx hb dc_Ck_isRight_75 rfl (fun hc75 => ?_) (fun hc75 => ?_)
      · refine lv_iconst (v := nI 0) hx hb dc_Ck_isRight_82 (by decide +kernel) ?_
        refine kn_top (y := kb_i false) (by decide +kernel) ?_
        exact kw_zret hx hb hr hlocks hP hD hS dc_Ck_isRight_83 (by rw [hZ]; exact hc75.symm) (by rw [hZ])
      · refine lv_iconst (v := nI 1) hx hb dc_Ck_isRight_78 (by decide +kernel) ?_
        refine lv_goto hx hb dc_Ck_isRight_79 rfl ?_
        refine kn_top (y := kb_i true) (by decide +kernel) ?_
        exact kw_zret hx hb hr hlocks hP hD hS dc_Ck_isRight_83 (by rw [hZ]; exact hc75.symm) (by rw [hZ])
  · have hu33 : pt_used fs RR.2.2.2.2.1 RR.2.2.2.2.2 RR.2.1 (2 ^ RR.1) (fs RR.1) < 2 ^ 33 := used_lt _ _ _ (Nat.pow_lt_pow_right (by decide) (by have := hpo.1; omega)) (fun k hk => by have := (hpo.2.2.2 k hk).1; omega)
    have hZ : pt_right fs lv mk cn (fz j) pb (fs j) rs im = (true, mk ||| pt_used fs RR.2.2.2.2.1 RR.2.2.2.2.2 RR.2.1 (2 ^ RR.1) (fs RR.1), pt_exs RR.2.2.2.2.1 (pt_used fs RR.2.2.2.2.1 RR.2.2.2.2.2 RR.2.1 (2 ^ RR.1) (fs RR.1)) 0 (RR.2.1 - 0) ++ [nI RR.1], RR.2) := by
      rw [pt_right, hRe]; dsimp only; rw [if_neg hc34]
    refine lv_aload_n hx hb dc_Ck_isRight_37 rfl (lv_at hl 1 rfl) ?_
    refine va_get (ci := 7) (v := .ref xt) (C := rn_Ck) (T := fd_Ck) (N := 5) hx hb hts in_Ck hown hK hP 0 rfl rfl 2 (by decide) (hts _ wd_578) (fun _ h9 => h9) rfl dc_Ck_isRight_38 ?_
    refine lv_dup hx hb dc_Ck_isRight_41 rfl ?_
    refine va_getN (ci := 5) (v := .long (lN mk)) (C := rn_Tr) (T := fd_Tr) (N := 6) hx hb hts in_Tr hown hK hP 8 rfl rfl 4 (by decide) (nf_140 hN) (fun _ h9 => h9) rfl dc_Ck_isRight_42 ?_
    refine lv_aload_n hx hb dc_Ck_isRight_45 rfl (lv_at hl 1 rfl) ?_
    refine lv_iload_n hx hb dc_Ck_isRight_46 rfl (lv_at hl 2 rfl) ?_
    refine lv_iconst (v := nI 0) hx hb dc_Ck_isRight_47 (by decide +kernel) ?_
    refine lv_iload_n hx hb dc_Ck_isRight_48 rfl (lv_at hl 0 rfl) ?_
    refine kw_call1 (wr := [ar_n cI ca 33 fz, ar_i cI cd (33 * 8) fl]) (ws' := [ck_c o xc xs xt xa lv, cl_c xc ca cb cd cn, ar_n cI ca 33 fz, ar_n cI cb 33 fs, ar_i cI cd (33 * 8) fl, as_c xa aa ab RR.2.1 RR.2.2.1 RR.2.2.2.1, ar_n cI aa 8 RR.2.2.2.2.1, ar_n cI ab 8 RR.2.2.2.2.2, tr_c xt ta tb td (g + (pt_exs RR.2.2.2.2.1 (pt_used fs RR.2.2.2.2.1 RR.2.2.2.2.2 RR.2.1 (2 ^ RR.1) (fs RR.1)) 0 (RR.2.1 - 0) ++ [nI RR.1]).length) mk ckd, ar_n cI ta 33 (va_up ft j g), ar_n cI tb 33 (va_up fc j (fc j + (pt_exs RR.2.2.2.2.1 (pt_used fs RR.2.2.2.2.1 RR.2.2.2.2.2 RR.2.1 (2 ^ RR.1) (fs RR.1)) 0 (RR.2.1 - 0) ++ [nI RR.1]).length)), ar_i cI td 2048 (pt_put fr g (pt_exs RR.2.2.2.2.1 (pt_used fs RR.2.2.2.2.1 RR.2.2.2.2.2 RR.2.1 (2 ^ RR.1) (fs RR.1)) 0 (RR.2.1 - 0) ++ [nI RR.1]))]) (va_runV (As := [.int (nI j), .int (nI 0), .int (nI RR.1)]) (rest := [.long (lN mk), .ref xt]) ⟨hx, hb, hml, hown, hts⟩ (ct_Ck_explain l D cI cZ _ o xc xs xt xa lv ca cb cd cn fs aa ab RR.2.1 RR.2.2.1 RR.2.2.2.1 RR.2.2.2.2.1 RR.2.2.2.2.2 ta tb td g mk ckd (va_up ft j g) fc fr j 0 RR.1 (hcn) (hrn8) (fun k hk => ⟨by have := (hpo.2.2.2 k hk).1; omega, (hpo.2.2.2 k hk).2⟩) (by have := hpo.1; omega) (by omega) (by omega) (Nat.lt_trans hu33 (by decide)) (by rw [hZ] at hfit; exact hfit)) (cwV 3 hts (kx_gV wd_636 wd_638 (kx_sel (q := (yn_Ck_explain, 5)) (List.mem_append_left _ (List.mem_of_getElem? (i := 6) rfl))) wd_20 wd_639) rfl rfl rfl ⟨rfl, yd_Ck_explain⟩ ⟨Nat.le_of_ble_eq_true rfl, Nat.le_of_ble_eq_true rfl⟩) (kp_V (q0 := 0) (ci := 7) hP hD hK hN [0, 1, 3, 5, 6, 7, 8, 9, 10, 11] rfl rfl rfl rfl rfl) rfl rfl hl.1 rfl (lv_room (Nat.le_of_ble_eq_true rfl)) dc_Ck_isRight_49 ⟨Nat.le_of_ble_eq_true rfl, Nat.le_of_ble_eq_true rfl⟩) hP hD hS hA [0, 1, 3, 5, 6, 7, 8, 9, 10, 11] [2, 4] [2, 3, 0, 4, 1, 5, 6, 7, 8, 9, 10, 11] rfl rfl rfl (by decide) rfl rfl (fun H locs hP hD hS => ?_)
    refine kl_lor hx hb dc_Ck_isRight_52 ?_
    refine va_putN (ci := 5) (v := .long (lN (mk ||| (pt_used fs RR.2.2.2.2.1 RR.2.2.2.2.2 RR.2.1 (2 ^ RR.1) (fs RR.1))))) (ty := .long) (C := rn_Tr) (T := fd_Tr) (N := 6) hx hb hts in_Tr ty_Tr tk_Tr nm_Tr hown hK hP hD hS 8 rfl rfl 4 (by decide) (nf_140 hN) (fun _ h9 => h9) rfl (by decide +kernel) rfl rfl (Nat.le_of_ble_eq_true rfl) dc_Ck_isRight_53 (fun H locs hP hD hS => ?_)
    have hP : va_P D kc_l [ck_c o xc xs xt xa lv, cl_c xc ca cb cd cn, ar_n cI ca 33 fz, ar_n cI cb 33 fs, ar_i cI cd (33 * 8) fl, as_c xa aa ab RR.2.1 RR.2.2.1 RR.2.2.2.1, ar_n cI aa 8 RR.2.2.2.2.1, ar_n cI ab 8 RR.2.2.2.2.2, tr_c xt ta tb td (g + (pt_exs RR.2.2.2.2.1 (pt_used fs RR.2.2.2.2.1 RR.2.2.2.2.2 RR.2.1 (2 ^ RR.1) (fs RR.1)) 0 (RR.2.1 - 0) ++ [nI RR.1]).length) (mk ||| (pt_used fs RR.2.2.2.2.1 RR.2.2.2.2.2 RR.2.1 (2 ^ RR.1) (fs RR.1))) ckd, ar_n cI ta 33 (va_up ft j g), ar_n cI tb 33 (va_up fc j (fc j + (pt_exs RR.2.2.2.2.1 (pt_used fs RR.2.2.2.2.1 RR.2.2.2.2.2 RR.2.1 (2 ^ RR.1) (fs RR.1)) 0 (RR.2.1 - 0) ++ [nI RR.1]).length)), ar_i cI td 2048 (pt_put fr g (pt_exs RR.2.2.2.2.1 (pt_used fs RR.2.2.2.2.1 RR.2.2.2.2.2 RR.2.1 (2 ^ RR.1) (fs RR.1)) 0 (RR.2.1 - 0) ++ [nI RR.1]))] H := hP
    have hD : va_D A [ck_c o xc xs xt xa lv, cl_c xc ca cb cd cn, ar_n cI ca 33 fz, ar_n cI cb 33 fs, ar_i cI cd (33 * 8) fl, as_c xa aa ab RR.2.1 RR.2.2.1 RR.2.2.2.1, ar_n cI aa 8 RR.2.2.2.2.1, ar_n cI ab 8 RR.2.2.2.2.2, tr_c xt ta tb td (g + (pt_exs RR.2.2.2.2.1 (pt_used fs RR.2.2.2.2.1 RR.2.2.2.2.2 RR.2.1 (2 ^ RR.1) (fs RR.1)) 0 (RR.2.1 - 0) ++ [nI RR.1]).length) (mk ||| (pt_used fs RR.2.2.2.2.1 RR.2.2.2.2.2 RR.2.1 (2 ^ RR.1) (fs RR.1))) ckd, ar_n cI ta 33 (va_up ft j g), ar_n cI tb 33 (va_up fc j (fc j + (pt_exs RR.2.2.2.2.1 (pt_used fs RR.2.2.2.2.1 RR.2.2.2.2.2 RR.2.1 (2 ^ RR.1) (fs RR.1)) 0 (RR.2.1 - 0) ++ [nI RR.1]).length)), ar_i cI td 2048 (pt_put fr g (pt_exs RR.2.2.2.2.1 (pt_used fs RR.2.2.2.2.1 RR.2.2.2.2.2 RR.2.1 (2 ^ RR.1) (fs RR.1)) 0 (RR.2.1 - 0) ++ [nI RR.1]))] := hD
    refine lv_iconst (v := nI 1) hx hb dc_Ck_isRight_56 (by decide +kernel) ?_
    refine kn_top (y := kb_i true) (by decide +kernel) ?_
    exact kw_zret hx hb hr hlocks hP hD hS dc_Ck_isRight_57 (by rw [hZ]) (by rw [hZ])

theorem sp_lt {fs : Nat → Nat} {lv mk cn pv rc n0 : Nat} (h16 : ∀ j, fs j < 65536) (hcn : cn ≤ 32) (hrc : rc < 65536) (hc0 : n0 + pt_free rc ≤ 8) : ∀ (k p u : Nat) (L : List Int32) (n t f : Nat) (rs im : Nat → Nat), p + k ≤ 33 → u < 2 ^ 33 → (∀ k, k < n0 → (1 ≤ rs k ∧ rs k ≤ cn) ∧ im k < 65536) → (pt_sp fs lv mk cn pv rc n0 k p u L n t f rs im).2.1 < 2 ^ 33 := by
  intro k
  induction k with
  | zero => intro p u L n t f rs im _ hu _; exact hu
  | succ k ih =>
    intro p u L n t f rs im hp hu hr
    have hp2 : u ||| 2 ^ p < 2 ^ 33 := Nat.or_lt_two_pow hu (Nat.pow_lt_pow_right (by decide) (by omega))
    rw [pt_sp]
    split
    · exact ih _ _ _ _ _ _ _ _ (by omega) hu hr
    · split
      · exact ih _ _ _ _ _ _ _ _ (by omega) hp2 hr
      · dsimp only
        have ho16 : nb_d (fs p) pv < 65536 := nb_d_lt (n := 16) (h16 p)
        have hnt : rc ||| nb_op (nb_d (fs p) pv) < 65536 := Nat.or_lt_two_pow (n := 16) hrc (nb_op_lt ho16)
        have hpo := prop_ok (lv := lv) (mk := mk) (cn := cn) h16 9 n0 (rc ||| nb_op (nb_d (fs p) pv)) (nb_op (rc ||| nb_op (nb_d (fs p) pv))) rs im ⟨⟨hnt, rfl, by have := free_mono rc (nb_op (nb_d (fs p) pv)); omega⟩, hr⟩
        generalize pt_prop fs lv mk cn 9 n0 (rc ||| nb_op (nb_d (fs p) pv)) (nb_op (rc ||| nb_op (nb_d (fs p) pv))) rs im = R at hpo ⊢
        split
        · exact hp2
        · refine ih _ _ _ _ _ _ _ _ (by omega) (Nat.or_lt_two_pow hp2 (used_lt _ _ _ (Nat.pow_lt_pow_right (by decide) (by have := hpo.1; omega)) (fun i hi => by have := (hpo.2.2.2 i hi).1; omega))) (fun i hi => hpo.2.2.2 i (by have := hpo.2.1; omega))
theorem right_mk {fs : Nat → Nat} {lv mk cn w pb x : Nat} {rs im : Nat → Nat} (h16 : ∀ j, fs j < 65536) (hx : x < 65536) (hcn : cn ≤ 32) (_h : True ∨ w = w) (hm : mk < 2 ^ 62) : (pt_right fs lv mk cn w pb x rs im).2.1 < 2 ^ 62 := by
  have hpo := prop_ok (lv := lv) (mk := mk) (cn := cn) h16 9 0 (nb_op x) (nb_op (nb_op x)) rs im ⟨⟨nb_op_lt hx, rfl, by have := free_le (nb_op x); omega⟩, fun k hk => absurd hk (Nat.not_lt_zero k)⟩
  rw [pt_right]
  dsimp only
  generalize pt_prop fs lv mk cn 9 0 (nb_op x) (nb_op (nb_op x)) rs im = R at hpo ⊢
  split
  · split
    · exact hm
    · dsimp only
      split
      · exact Nat.or_lt_two_pow hm (Nat.lt_trans (sp_lt h16 hcn hpo.2.2.1.1 hpo.2.2.1.2.2 _ _ _ _ _ _ _ _ _ (by omega) (ru_lt _ (fun i hi => by have := (hpo.2.2.2 i hi).1; omega)) hpo.2.2.2) (by decide))
      · exact hm
  · exact Nat.or_lt_two_pow hm (Nat.lt_trans (used_lt _ _ _ (Nat.pow_lt_pow_right (by decide) (by have := hpo.1; omega)) (fun i hi => by have := (hpo.2.2.2 i hi).1; omega)) (by decide))

set_option maxHeartbeats 4000000 in
set_option maxRecDepth 100000 in
theorem ct_Ck_goBack (l : Launch) (D : va_G) (cI cZ : ClassId) (sz : Nat) (o : Nat) (xc : Nat) (xs : Nat) (xt : Nat) (xa : Nat) (lv : Nat) (ca : Nat) (cb : Nat) (cd : Nat) (cn : Nat) (fz : Nat → Nat) (fs : Nat → Nat) (fl : Nat → Int32) (aa : Nat) (ab : Nat) (n : Nat) (t : Nat) (f : Nat) (rs : Nat → Nat) (im : Nat → Nat) (ta : Nat) (tb : Nat) (td : Nat) (g : Nat) (mk : Nat) (ckd : Bool) (ft : Nat → Nat) (fc : Nat → Nat) (fr : Nat → Int32) (sa : Nat) (sb : Nat) (sn : Nat) (sop : Bool) (dl : Nat → Bool) (nu : Nat → Nat) (b : Nat) (qb : Nat → Nat) (pb : Nat → Nat) (hcn : cn ≤ 32) (h16 : ∀ j, fs j < 65536) (hz : ∀ i, 1 ≤ i → i ≤ cn → fz i ≤ 8) (hsn : sn ≤ 16) (hnu : ∀ i, nu i ≤ cn) (hadd : ∀ i, 1 ≤ i → i ≤ sn → dl i = false → 1 ≤ nu i) (hb16 : b ≤ 16) (hlit : ∀ j, 1 ≤ j → j ≤ cn → 1 ≤ fz j → qb j < 16 ∧ fl (j * 8) = pt_lit (qb j) ∧ (qb j + 8) % 16 = pb j) (hfit : (pt_gb fs fz pb cn dl nu sn (pt_live dl nu sn 1 (2 ^ (b + 1) - 2)) (2 ^ cn) g ft fc fr n t f rs im).2.2.2.1 ≤ 2048) : Met l yn_Ck_goBack (Cond.code yn_Ck_goBack bc_Ck_goBack 4 (some .int) :: kx_all) ({ frames := 5, cells := 0, slots := 0, locals := 123 } : Room) (kp [.ref o, .int (nI b)] D cI cZ [ck_c o xc xs xt xa lv, cl_c xc ca cb cd cn, ar_n cI ca 33 fz, ar_n cI cb 33 fs, ar_i cI cd (33 * 8) fl, as_c xa aa ab n t f, ar_n cI aa 8 rs, ar_n cI ab 8 im, tr_c xt ta tb td g mk ckd, ar_n cI ta 33 ft, ar_n cI tb 33 fc, ar_i cI td 2048 fr, sp_c xs sa sb sn sop, ar_b cZ sa 17 dl, ar_n cI sb 17 nu] sz) (kw_q (some (.int (nI ((pt_gb fs fz pb cn dl nu sn (pt_live dl nu sn 1 (2 ^ (b + 1) - 2)) (2 ^ cn) g ft fc fr n t f rs im).1)))) D kc_l [ck_c o xc xs xt xa ((pt_gb fs fz pb cn dl nu sn (pt_live dl nu sn 1 (2 ^ (b + 1) - 2)) (2 ^ cn) g ft fc fr n t f rs im).2.1), cl_c xc ca cb cd cn, ar_n cI ca 33 fz, ar_n cI cb 33 fs, ar_i cI cd (33 * 8) fl, as_c xa aa ab ((pt_gb fs fz pb cn dl nu sn (pt_live dl nu sn 1 (2 ^ (b + 1) - 2)) (2 ^ cn) g ft fc fr n t f rs im).2.2.2.2.2.2.2.1) ((pt_gb fs fz pb cn dl nu sn (pt_live dl nu sn 1 (2 ^ (b + 1) - 2)) (2 ^ cn) g ft fc fr n t f rs im).2.2.2.2.2.2.2.2.1) ((pt_gb fs fz pb cn dl nu sn (pt_live dl nu sn 1 (2 ^ (b + 1) - 2)) (2 ^ cn) g ft fc fr n t f rs im).2.2.2.2.2.2.2.2.2.1), ar_n cI aa 8 ((pt_gb fs fz pb cn dl nu sn (pt_live dl nu sn 1 (2 ^ (b + 1) - 2)) (2 ^ cn) g ft fc fr n t f rs im).2.2.2.2.2.2.2.2.2.2.1), ar_n cI ab 8 ((pt_gb fs fz pb cn dl nu sn (pt_live dl nu sn 1 (2 ^ (b + 1) - 2)) (2 ^ cn) g ft fc fr n t f rs im).2.2.2.2.2.2.2.2.2.2.2), tr_c xt ta tb td ((pt_gb fs fz pb cn dl nu sn (pt_live dl nu sn 1 (2 ^ (b + 1) - 2)) (2 ^ cn) g ft fc fr n t f rs im).2.2.2.1) ((pt_gb fs fz pb cn dl nu sn (pt_live dl nu sn 1 (2 ^ (b + 1) - 2)) (2 ^ cn) g ft fc fr n t f rs im).2.2.1) ckd, ar_n cI ta 33 ((pt_gb fs fz pb cn dl nu sn (pt_live dl nu sn 1 (2 ^ (b + 1) - 2)) (2 ^ cn) g ft fc fr n t f rs im).2.2.2.2.1), ar_n cI tb 33 ((pt_gb fs fz pb cn dl nu sn (pt_live dl nu sn 1 (2 ^ (b + 1) - 2)) (2 ^ cn) g ft fc fr n t f rs im).2.2.2.2.2.1), ar_i cI td 2048 ((pt_gb fs fz pb cn dl nu sn (pt_live dl nu sn 1 (2 ^ (b + 1) - 2)) (2 ^ cn) g ft fc fr n t f rs im).2.2.2.2.2.2.1), sp_c xs sa sb sn sop, ar_b cZ sa 17 dl, ar_n cI sb 17 nu] (va_A [ck_c o xc xs xt xa lv, cl_c xc ca cb cd cn, ar_n cI ca 33 fz, ar_n cI cb 33 fs, ar_i cI cd (33 * 8) fl, as_c xa aa ab n t f, ar_n cI aa 8 rs, ar_n cI ab 8 im, tr_c xt ta tb td g mk ckd, ar_n cI ta 33 ft, ar_n cI tb 33 fc, ar_i cI td 2048 fr, sp_c xs sa sb sn sop, ar_b cZ sa 17 dl, ar_n cI sb 17 nu] sz)) 0 0 (va_A [ck_c o xc xs xt xa lv, cl_c xc ca cb cd cn, ar_n cI ca 33 fz, ar_n cI cb 33 fs, ar_i cI cd (33 * 8) fl, as_c xa aa ab n t f, ar_n cI aa 8 rs, ar_n cI ab 8 im, tr_c xt ta tb td g mk ckd, ar_n cI ta 33 ft, ar_n cI tb 33 fc, ar_i cI td 2048 fr, sp_c xs sa sb sn sop, ar_b cZ sa 17 dl, ar_n cI sb 17 nu] sz) := by
  refine kx_metW (by decide) (Nat.le_of_ble_eq_true rfl) ?_
  intro p e s m below meth c ls A hx hb hr hml hts hown hlocks hin hA hP hK hD hN hl hS
  have hown : s.vm.findClass rn_Ck = some m.cls := hown
  have hl : lv_has ls 4 [(0, .ref o), (1, .int (nI b))] := hl
  have hl0 : pt_live dl nu sn 1 (2 ^ (b + 1) - 2) < 2 ^ 33 := live_lt (fun i => by have := hnu i; omega) _ _ _ (Nat.lt_of_le_of_lt (Nat.sub_le _ _) (Nat.pow_lt_pow_right (by decide) (by omega)))
  refine lv_aload_n hx hb dc_Ck_goBack_0 rfl (lv_at hl 0 rfl) ?_
  refine lv_aload_n hx hb dc_Ck_goBack_1 rfl (lv_at hl 0 rfl) ?_
  refine va_get (ci := 7) (v := .ref xs) (C := rn_Ck) (T := fd_Ck) (N := 5) hx hb hts in_Ck hown hK hP 0 rfl rfl 1 (by decide) (hts _ wd_577) (fun _ h9 => h9) rfl dc_Ck_goBack_2 ?_
  refine lv_iload_n hx hb dc_Ck_goBack_5 rfl (lv_at hl 1 rfl) ?_
  refine kr_call1 (va_runV (As := [.int (nI b)]) (rest := [.ref o]) ⟨hx, hb, hml, hown, hts⟩ (ct_Sp_liveAfterAll l D cI cZ _ xs sa sb sn sop dl nu b (hsn) (fun i => by have := hnu i; omega) (by omega)) (cwV 1 hts (kx_gV wd_596 wd_597 wd_598 wd_6 wd_599) rfl rfl rfl ⟨rfl, yd_Sp_liveAfterAll⟩ ⟨Nat.le_of_ble_eq_true rfl, Nat.le_of_ble_eq_true rfl⟩) (kp_V (q0 := 12) (ci := 4) hP hD hK hN [12, 13, 14] rfl rfl rfl rfl rfl) rfl rfl hl.1 rfl (lv_room (Nat.le_of_ble_eq_true rfl)) dc_Ck_goBack_6 ⟨Nat.le_of_ble_eq_true rfl, Nat.le_of_ble_eq_true rfl⟩) ?_
  refine va_put (ci := 7) (v := .long (lN (pt_live dl nu sn 1 (2 ^ (b + 1) - 2)))) (ty := .long) (C := rn_Ck) (T := fd_Ck) (N := 5) hx hb hts in_Ck ty_Ck tk_Ck nm_Ck hown hK hP hD hS 0 rfl rfl 4 (by decide) (hts _ wd_580) (fun _ h9 => h9) rfl (by decide +kernel) rfl rfl (Nat.le_of_ble_eq_true rfl) dc_Ck_goBack_9 (fun H locs hP hD hS => ?_)
  have hP : va_P D kc_l [ck_c o xc xs xt xa (pt_live dl nu sn 1 (2 ^ (b + 1) - 2)), cl_c xc ca cb cd cn, ar_n cI ca 33 fz, ar_n cI cb 33 fs, ar_i cI cd (33 * 8) fl, as_c xa aa ab n t f, ar_n cI aa 8 rs, ar_n cI ab 8 im, tr_c xt ta tb td g mk ckd, ar_n cI ta 33 ft, ar_n cI tb 33 fc, ar_i cI td 2048 fr, sp_c xs sa sb sn sop, ar_b cZ sa 17 dl, ar_n cI sb 17 nu] H := hP
  have hD : va_D A [ck_c o xc xs xt xa (pt_live dl nu sn 1 (2 ^ (b + 1) - 2)), cl_c xc ca cb cd cn, ar_n cI ca 33 fz, ar_n cI cb 33 fs, ar_i cI cd (33 * 8) fl, as_c xa aa ab n t f, ar_n cI aa 8 rs, ar_n cI ab 8 im, tr_c xt ta tb td g mk ckd, ar_n cI ta 33 ft, ar_n cI tb 33 fc, ar_i cI td 2048 fr, sp_c xs sa sb sn sop, ar_b cZ sa 17 dl, ar_n cI sb 17 nu] := hD
  refine lv_aload_n hx hb dc_Ck_goBack_12 rfl (lv_at hl 0 rfl) ?_
  refine va_get (ci := 7) (v := .ref xt) (C := rn_Ck) (T := fd_Ck) (N := 5) hx hb hts in_Ck hown hK hP 0 rfl rfl 2 (by decide) (hts _ wd_578) (fun _ h9 => h9) rfl dc_Ck_goBack_13 ?_
  refine lv_aload_n hx hb dc_Ck_goBack_16 rfl (lv_at hl 0 rfl) ?_
  refine va_get (ci := 7) (v := .ref xc) (C := rn_Ck) (T := fd_Ck) (N := 5) hx hb hts in_Ck hown hK hP 0 rfl rfl 0 (by decide) (hts _ wd_576) (fun _ h9 => h9) rfl dc_Ck_goBack_17 ?_
  refine va_getN (ci := 2) (v := .int (nI cn)) (C := rn_Cl) (T := fd_Cl) (N := 4) hx hb hts in_Cl hown hK hP 1 rfl rfl 3 (by decide) (nf_74 hN) (fun _ h9 => h9) rfl dc_Ck_goBack_20 ?_
  refine kr_call1 (va_runSN (As := [.int (nI cn)]) (rest := [.ref xt]) ⟨hx, hb, hml, hown, hts⟩ (ct_Pt_one l D cI cZ _ cn (by omega)) ⟨va_cnB 1 hts (kx_gi wd_559) rfl rfl rfl (nw_600 hN) (hts _ wd_1) yd_Pt_one ⟨Nat.le_of_ble_eq_true rfl, Nat.le_of_ble_eq_true rfl⟩, hts _ wd_558, trivial⟩ (kp_S hP hD hK hN [] rfl rfl) rfl rfl hl.1 rfl (lv_room (Nat.le_of_ble_eq_true rfl)) dc_Ck_goBack_23 ⟨Nat.le_of_ble_eq_true rfl, Nat.le_of_ble_eq_true rfl⟩) ?_
  refine va_putN (ci := 5) (v := .long (lN (2 ^ cn))) (ty := .long) (C := rn_Tr) (T := fd_Tr) (N := 6) hx hb hts in_Tr ty_Tr tk_Tr nm_Tr hown hK hP hD hS 8 rfl rfl 4 (by decide) (nf_140 hN) (fun _ h9 => h9) rfl (by decide +kernel) rfl rfl (Nat.le_of_ble_eq_true rfl) dc_Ck_goBack_26 (fun H locs hP hD hS => ?_)
  have hP : va_P D kc_l [ck_c o xc xs xt xa (pt_live dl nu sn 1 (2 ^ (b + 1) - 2)), cl_c xc ca cb cd cn, ar_n cI ca 33 fz, ar_n cI cb 33 fs, ar_i cI cd (33 * 8) fl, as_c xa aa ab n t f, ar_n cI aa 8 rs, ar_n cI ab 8 im, tr_c xt ta tb td g (2 ^ cn) ckd, ar_n cI ta 33 ft, ar_n cI tb 33 fc, ar_i cI td 2048 fr, sp_c xs sa sb sn sop, ar_b cZ sa 17 dl, ar_n cI sb 17 nu] H := hP
  have hD : va_D A [ck_c o xc xs xt xa (pt_live dl nu sn 1 (2 ^ (b + 1) - 2)), cl_c xc ca cb cd cn, ar_n cI ca 33 fz, ar_n cI cb 33 fs, ar_i cI cd (33 * 8) fl, as_c xa aa ab n t f, ar_n cI aa 8 rs, ar_n cI ab 8 im, tr_c xt ta tb td g (2 ^ cn) ckd, ar_n cI ta 33 ft, ar_n cI tb 33 fc, ar_i cI td 2048 fr, sp_c xs sa sb sn sop, ar_b cZ sa 17 dl, ar_n cI sb 17 nu] := hD
  refine lv_aload_n hx hb dc_Ck_goBack_29 rfl (lv_at hl 0 rfl) ?_
  refine va_get (ci := 7) (v := .ref xs) (C := rn_Ck) (T := fd_Ck) (N := 5) hx hb hts in_Ck hown hK hP 0 rfl rfl 1 (by decide) (hts _ wd_577) (fun _ h9 => h9) rfl dc_Ck_goBack_30 ?_
  refine va_getN (ci := 4) (v := .int (nI sn)) (C := rn_Sp) (T := fd_Sp) (N := 4) hx hb hts in_Sp hown hK hP 12 rfl rfl 2 (by decide) (nf_116 hN) (fun _ h9 => h9) rfl dc_Ck_goBack_33 ?_
  refine lv_istore_n (lv' := [(2, .int (nI sn)), (0, .ref o), (1, .int (nI b))]) hx hb dc_Ck_goBack_36 rfl hl (by decide) rfl (fun ls hl => ?_)
  have lp_37 : ∀ (K : Nat) (k : Nat) (lk : Nat) (mk1 : Nat) (g1 : Nat) (ft1 : Nat → Nat) (fc1 : Nat → Nat) (fr1 : Nat → Int32) (n1 : Nat) (t1 : Nat) (f1 : Nat) (rs1 : Nat → Nat) (im1 : Nat → Nat) (H : Heap) (locs : List Loc) (ls : Array Slot), k < K → va_P D kc_l [ck_c o xc xs xt xa lk, cl_c xc ca cb cd cn, ar_n cI ca 33 fz, ar_n cI cb 33 fs, ar_i cI cd (33 * 8) fl, as_c xa aa ab n1 t1 f1, ar_n cI aa 8 rs1, ar_n cI ab 8 im1, tr_c xt ta tb td g1 mk1 ckd, ar_n cI ta 33 ft1, ar_n cI tb 33 fc1, ar_i cI td 2048 fr1, sp_c xs sa sb sn sop, ar_b cZ sa 17 dl, ar_n cI sb 17 nu] H → va_D A [ck_c o xc xs xt xa lk, cl_c xc ca cb cd cn, ar_n cI ca 33 fz, ar_n cI cb 33 fs, ar_i cI cd (33 * 8) fl, as_c xa aa ab n1 t1 f1, ar_n cI aa 8 rs1, ar_n cI ab 8 im1, tr_c xt ta tb td g1 mk1 ckd, ar_n cI ta 33 ft1, ar_n cI tb 33 fc1, ar_i cI td 2048 fr1, sp_c xs sa sb sn sop, ar_b cZ sa 17 dl, ar_n cI sb 17 nu] → va_S A s.heap H locs → lv_has ls 4 [(2, .int (nI k)), (0, .ref o), (1, .int (nI b))] → (pt_gb fs fz pb cn dl nu k lk mk1 g1 ft1 fc1 fr1 n1 t1 f1 rs1 im1 = pt_gb fs fz pb cn dl nu sn (pt_live dl nu sn 1 (2 ^ (b + 1) - 2)) (2 ^ cn) g ft fc fr n t f rs im) → (k ≤ sn) → (lk < 2 ^ 62) → (mk1 < 2 ^ 62) → W p l e ({ frames := 5, cells := 0, slots := 0, locals := 123 } : Room) s m ([.ref o, .int (nI b)] : List Value).toArray below meth c H locs 0 0 (MQ below (kw_q (some (.int (nI ((pt_gb fs fz pb cn dl nu sn (pt_live dl nu sn 1 (2 ^ (b + 1) - 2)) (2 ^ cn) g ft fc fr n t f rs im).1)))) D kc_l [ck_c o xc xs xt xa ((pt_gb fs fz pb cn dl nu sn (pt_live dl nu sn 1 (2 ^ (b + 1) - 2)) (2 ^ cn) g ft fc fr n t f rs im).2.1), cl_c xc ca cb cd cn, ar_n cI ca 33 fz, ar_n cI cb 33 fs, ar_i cI cd (33 * 8) fl, as_c xa aa ab ((pt_gb fs fz pb cn dl nu sn (pt_live dl nu sn 1 (2 ^ (b + 1) - 2)) (2 ^ cn) g ft fc fr n t f rs im).2.2.2.2.2.2.2.1) ((pt_gb fs fz pb cn dl nu sn (pt_live dl nu sn 1 (2 ^ (b + 1) - 2)) (2 ^ cn) g ft fc fr n t f rs im).2.2.2.2.2.2.2.2.1) ((pt_gb fs fz pb cn dl nu sn (pt_live dl nu sn 1 (2 ^ (b + 1) - 2)) (2 ^ cn) g ft fc fr n t f rs im).2.2.2.2.2.2.2.2.2.1), ar_n cI aa 8 ((pt_gb fs fz pb cn dl nu sn (pt_live dl nu sn 1 (2 ^ (b + 1) - 2)) (2 ^ cn) g ft fc fr n t f rs im).2.2.2.2.2.2.2.2.2.2.1), ar_n cI ab 8 ((pt_gb fs fz pb cn dl nu sn (pt_live dl nu sn 1 (2 ^ (b + 1) - 2)) (2 ^ cn) g ft fc fr n t f rs im).2.2.2.2.2.2.2.2.2.2.2), tr_c xt ta tb td ((pt_gb fs fz pb cn dl nu sn (pt_live dl nu sn 1 (2 ^ (b + 1) - 2)) (2 ^ cn) g ft fc fr n t f rs im).2.2.2.1) ((pt_gb fs fz pb cn dl nu sn (pt_live dl nu sn 1 (2 ^ (b + 1) - 2)) (2 ^ cn) g ft fc fr n t f rs im).2.2.1) ckd, ar_n cI ta 33 ((pt_gb fs fz pb cn dl nu sn (pt_live dl nu sn 1 (2 ^ (b + 1) - 2)) (2 ^ cn) g ft fc fr n t f rs im).2.2.2.2.1), ar_n cI tb 33 ((pt_gb fs fz pb cn dl nu sn (pt_live dl nu sn 1 (2 ^ (b + 1) - 2)) (2 ^ cn) g ft fc fr n t f rs im).2.2.2.2.2.1), ar_i cI td 2048 ((pt_gb fs fz pb cn dl nu sn (pt_live dl nu sn 1 (2 ^ (b + 1) - 2)) (2 ^ cn) g ft fc fr n t f rs im).2.2.2.2.2.2.1), sp_c xs sa sb sn sop, ar_b cZ sa 17 dl, ar_n cI sb 17 nu] A) ([.ref o, .int (nI b)] : List Value).toArray s 0 0 A) (F0 m 37 ls []) := by
    intro K
    induction K with
    | zero =>
      intro k lk mk1 g1 ft1 fc1 fr1 n1 t1 f1 rs1 im1 H locs ls hk
      exact absurd hk (Nat.not_lt_zero _)
    | succ K ih =>
      intro k lk mk1 g1 ft1 fc1 fr1 n1 t1 f1 rs1 im1 H locs ls hk hP hD hS hl h1 h2 hl62 hm62
      refine lv_iload_n hx hb dc_Ck_goBack_37 rfl (lv_at hl 0 rfl) ?_
      refine lv_iconst (v := nI 1) hx hb dc_Ck_goBack_38 (by decide +kernel) ?_
      refine kn_icmp_lt hx hb (by omega) (by omega) dc_Ck_goBack_39 rfl (fun hc39 => ?_) (fun hc39 => ?_)
      · refine lv_iconst (v := nI 0) hx hb dc_Ck_goBack_127 (by decide +kernel) ?_
        exact kw_iret hx hb hr hlocks hP hD hS dc_Ck_goBack_128 (by rw [← h1, show k = 0 by omega]; rfl) (by rw [← h1, show k = 0 by omega]; rfl)
      · obtain ⟨q, hq⟩ : ∃ q, k = q + 1 := ⟨k - 1, by omega⟩
        refine lv_aload_n hx hb dc_Ck_goBack_42 rfl (lv_at hl 1 rfl) ?_
        refine va_get (ci := 7) (v := .ref xs) (C := rn_Ck) (T := fd_Ck) (N := 5) hx hb hts in_Ck hown hK hP 0 rfl rfl 1 (by decide) (hts _ wd_577) (fun _ h9 => h9) rfl dc_Ck_goBack_43 ?_
        refine va_getN (ci := 4) (v := .ref sb) (C := rn_Sp) (T := fd_Sp) (N := 4) hx hb hts in_Sp hown hK hP 12 rfl rfl 1 (by decide) (nf_112 hN) (fun _ h9 => h9) rfl dc_Ck_goBack_46 ?_
        refine lv_iload_n hx hb dc_Ck_goBack_49 rfl (lv_at hl 0 rfl) ?_
        refine ka_nald (t := nu) hx hb hK hP 14 0 rfl rfl (j := k) (by omega) (by omega) dc_Ck_goBack_50 ?_
        refine lv_istore_n (lv' := [(3, .int (nI (nu k))), (2, .int (nI k)), (0, .ref o), (1, .int (nI b))]) hx hb dc_Ck_goBack_51 rfl hl (by decide) rfl (fun ls hl => ?_)
        refine lv_aload_n hx hb dc_Ck_goBack_52 rfl (lv_at hl 2 rfl) ?_
        refine va_get (ci := 7) (v := .ref xs) (C := rn_Ck) (T := fd_Ck) (N := 5) hx hb hts in_Ck hown hK hP 0 rfl rfl 1 (by decide) (hts _ wd_577) (fun _ h9 => h9) rfl dc_Ck_goBack_53 ?_
        refine va_getN (ci := 4) (v := .ref sa) (C := rn_Sp) (T := fd_Sp) (N := 4) hx hb hts in_Sp hown hK hP 12 rfl rfl 0 (by decide) (nf_108 hN) (fun _ h9 => h9) rfl dc_Ck_goBack_56 ?_
        refine lv_iload_n hx hb dc_Ck_goBack_59 rfl (lv_at hl 1 rfl) ?_
        refine ka_bald (t := dl) hx hb hK hP 13 1 rfl rfl (j := k) (by omega) (by omega) dc_Ck_goBack_60 ?_
        refine kb_if_eq hx hb dc_Ck_goBack_61 rfl (fun hc61 => ?_) (fun hc61 => ?_)
        · have hc61 : dl k = false := hc61
          refine lv_aload_n hx hb dc_Ck_goBack_80 rfl (lv_at hl 2 rfl) ?_
          refine lv_dup hx hb dc_Ck_goBack_81 rfl ?_
          refine va_get (ci := 7) (v := .long (lN lk)) (C := rn_Ck) (T := fd_Ck) (N := 5) hx hb hts in_Ck hown hK hP 0 rfl rfl 4 (by decide) (hts _ wd_580) (fun _ h9 => h9) rfl dc_Ck_goBack_82 ?_
          refine lv_iload_n hx hb dc_Ck_goBack_85 rfl (lv_at hl 0 rfl) ?_
          refine kr_call1 (va_runSN (As := [.int (nI (nu k))]) (rest := [.long (lN lk), .ref o]) ⟨hx, hb, hml, hown, hts⟩ (ct_Pt_one l D cI cZ _ (nu k) (by have := hnu k; omega)) ⟨va_cnB 1 hts (kx_gi wd_559) rfl rfl rfl (nw_600 hN) (hts _ wd_1) yd_Pt_one ⟨Nat.le_of_ble_eq_true rfl, Nat.le_of_ble_eq_true rfl⟩, hts _ wd_558, trivial⟩ (kp_S hP hD hK hN [] rfl rfl) rfl rfl hl.1 rfl (lv_room (Nat.le_of_ble_eq_true rfl)) dc_Ck_goBack_86 ⟨Nat.le_of_ble_eq_true rfl, Nat.le_of_ble_eq_true rfl⟩) ?_
          refine kl_ldc2 (y := (-1)) hx hb hown (hts _ wd_601) dc_Ck_goBack_89 (by decide +kernel) ?_
          refine lv_lxor hx hb dc_Ck_goBack_92 ?_
          refine kl_lnot hx hb dc_Ck_goBack_93 ?_
          refine va_put (ci := 7) (v := .long (lN (nb_d lk (2 ^ (nu k))))) (ty := .long) (C := rn_Ck) (T := fd_Ck) (N := 5) hx hb hts in_Ck ty_Ck tk_Ck nm_Ck hown hK hP hD hS 0 rfl rfl 4 (by decide) (hts _ wd_580) (fun _ h9 => h9) rfl (by decide +kernel) rfl rfl (Nat.le_of_ble_eq_true rfl) dc_Ck_goBack_94 (fun H locs hP hD hS => ?_)
          have hP : va_P D kc_l [ck_c o xc xs xt xa (nb_d lk (2 ^ (nu k))), cl_c xc ca cb cd cn, ar_n cI ca 33 fz, ar_n cI cb 33 fs, ar_i cI cd (33 * 8) fl, as_c xa aa ab n1 t1 f1, ar_n cI aa 8 rs1, ar_n cI ab 8 im1, tr_c xt ta tb td g1 mk1 ckd, ar_n cI ta 33 ft1, ar_n cI tb 33 fc1, ar_i cI td 2048 fr1, sp_c xs sa sb sn sop, ar_b cZ sa 17 dl, ar_n cI sb 17 nu] H := hP
          have hD : va_D A [ck_c o xc xs xt xa (nb_d lk (2 ^ (nu k))), cl_c xc ca cb cd cn, ar_n cI ca 33 fz, ar_n cI cb 33 fs, ar_i cI cd (33 * 8) fl, as_c xa aa ab n1 t1 f1, ar_n cI aa 8 rs1, ar_n cI ab 8 im1, tr_c xt ta tb td g1 mk1 ckd, ar_n cI ta 33 ft1, ar_n cI tb 33 fc1, ar_i cI td 2048 fr1, sp_c xs sa sb sn sop, ar_b cZ sa 17 dl, ar_n cI sb 17 nu] := hD
          refine lv_aload_n hx hb dc_Ck_goBack_97 rfl (lv_at hl 2 rfl) ?_
          refine va_get (ci := 7) (v := .ref xt) (C := rn_Ck) (T := fd_Ck) (N := 5) hx hb hts in_Ck hown hK hP 0 rfl rfl 2 (by decide) (hts _ wd_578) (fun _ h9 => h9) rfl dc_Ck_goBack_98 ?_
          refine va_getN (ci := 5) (v := .long (lN mk1)) (C := rn_Tr) (T := fd_Tr) (N := 6) hx hb hts in_Tr hown hK hP 8 rfl rfl 4 (by decide) (nf_140 hN) (fun _ h9 => h9) rfl dc_Ck_goBack_101 ?_
          refine lv_iload_n hx hb dc_Ck_goBack_104 rfl (lv_at hl 0 rfl) ?_
          refine kr_call1 (va_runSN (As := [.long (lN mk1), .int (nI (nu k))]) (rest := []) ⟨hx, hb, hml, hown, hts⟩ (ct_Pt_contains l D cI cZ _ mk1 (nu k) (hm62) (by have := hnu k; omega)) ⟨va_cnB 2 hts (kx_gi wd_262) rfl rfl rfl (nw_602 hN) (hts _ wd_1) yd_Pt_contains ⟨Nat.le_of_ble_eq_true rfl, Nat.le_of_ble_eq_true rfl⟩, hts _ wd_261, trivial⟩ (kp_S hP hD hK hN [] rfl rfl) rfl rfl hl.1 rfl (lv_room (Nat.le_of_ble_eq_true rfl)) dc_Ck_goBack_105 ⟨Nat.le_of_ble_eq_true rfl, Nat.le_of_ble_eq_true rfl⟩) ?_
          refine kb_if_eq hx hb dc_Ck_goBack_108 rfl (fun hc108 => ?_) (fun hc108 => ?_)
          · refine lv_iinc (k := 1) (v := nI (k - 1)) (lv' := [(2, .int (nI (k - 1))), (3, .int (nI (nu k))), (0, .ref o), (1, .int (nI b))]) hx hb dc_Ck_goBack_121 hl rfl (kn_dec (by omega)) (by decide) rfl (fun ls hl => ?_)
            refine lv_goto hx hb dc_Ck_goBack_124 rfl ?_
            have hl := lv_sub (l' := [(2, .int (nI (k - 1))), (0, .ref o), (1, .int (nI b))]) hl [0, 2, 3] rfl
            exact ih _ _ _ _ _ _ _ _ _ _ _ _ _ _ _ (by omega) hP hD hS hl (by rw [← h1, show k - 1 = q by omega]; conv => rhs; rw [hq, pt_gb, ← hq, if_neg (by rw [hc61]; decide), if_pos hc108]) (by omega) (nb_d_lt hl62) (hm62)
          · have hgr : pt_gb fs fz pb cn dl nu k lk mk1 g1 ft1 fc1 fr1 n1 t1 f1 rs1 im1 = (if (pt_right fs (nb_d lk (2 ^ (nu k))) mk1 cn (fz (nu k)) (pb (nu k)) (fs (nu k)) rs1 im1).1 = true then pt_gb fs fz pb cn dl nu q (nb_d lk (2 ^ nu k)) (pt_right fs (nb_d lk (2 ^ (nu k))) mk1 cn (fz (nu k)) (pb (nu k)) (fs (nu k)) rs1 im1).2.1 (g1 + (pt_right fs (nb_d lk (2 ^ (nu k))) mk1 cn (fz (nu k)) (pb (nu k)) (fs (nu k)) rs1 im1).2.2.1.length) (va_up ft1 (nu k) g1) (va_up fc1 (nu k) (fc1 (nu k) + (pt_right fs (nb_d lk (2 ^ (nu k))) mk1 cn (fz (nu k)) (pb (nu k)) (fs (nu k)) rs1 im1).2.2.1.length)) (pt_put fr1 g1 (pt_right fs (nb_d lk (2 ^ (nu k))) mk1 cn (fz (nu k)) (pb (nu k)) (fs (nu k)) rs1 im1).2.2.1) (pt_right fs (nb_d lk (2 ^ (nu k))) mk1 cn (fz (nu k)) (pb (nu k)) (fs (nu k)) rs1 im1).2.2.2.1 (pt_right fs (nb_d lk (2 ^ (nu k))) mk1 cn (fz (nu k)) (pb (nu k)) (fs (nu k)) rs1 im1).2.2.2.2.1 (pt_right fs (nb_d lk (2 ^ (nu k))) mk1 cn (fz (nu k)) (pb (nu k)) (fs (nu k)) rs1 im1).2.2.2.2.2.1 (pt_right fs (nb_d lk (2 ^ (nu k))) mk1 cn (fz (nu k)) (pb (nu k)) (fs (nu k)) rs1 im1).2.2.2.2.2.2.1 (pt_right fs (nb_d lk (2 ^ (nu k))) mk1 cn (fz (nu k)) (pb (nu k)) (fs (nu k)) rs1 im1).2.2.2.2.2.2.2 else (k, nb_d lk (2 ^ nu k), (pt_right fs (nb_d lk (2 ^ (nu k))) mk1 cn (fz (nu k)) (pb (nu k)) (fs (nu k)) rs1 im1).2.1, g1 + (pt_right fs (nb_d lk (2 ^ (nu k))) mk1 cn (fz (nu k)) (pb (nu k)) (fs (nu k)) rs1 im1).2.2.1.length, va_up ft1 (nu k) g1, va_up fc1 (nu k) (fc1 (nu k) + (pt_right fs (nb_d lk (2 ^ (nu k))) mk1 cn (fz (nu k)) (pb (nu k)) (fs (nu k)) rs1 im1).2.2.1.length), pt_put fr1 g1 (pt_right fs (nb_d lk (2 ^ (nu k))) mk1 cn (fz (nu k)) (pb (nu k)) (fs (nu k)) rs1 im1).2.2.1, (pt_right fs (nb_d lk (2 ^ (nu k))) mk1 cn (fz (nu k)) (pb (nu k)) (fs (nu k)) rs1 im1).2.2.2.1, (pt_right fs (nb_d lk (2 ^ (nu k))) mk1 cn (fz (nu k)) (pb (nu k)) (fs (nu k)) rs1 im1).2.2.2.2.1, (pt_right fs (nb_d lk (2 ^ (nu k))) mk1 cn (fz (nu k)) (pb (nu k)) (fs (nu k)) rs1 im1).2.2.2.2.2.1, (pt_right fs (nb_d lk (2 ^ (nu k))) mk1 cn (fz (nu k)) (pb (nu k)) (fs (nu k)) rs1 im1).2.2.2.2.2.2.1, (pt_right fs (nb_d lk (2 ^ (nu k))) mk1 cn (fz (nu k)) (pb (nu k)) (fs (nu k)) rs1 im1).2.2.2.2.2.2.2)) := by
              rw [hq, pt_gb, ← hq, if_neg (by rw [hc61]; decide), if_neg (by rw [hc108]; decide)]
            have hfz : g1 + (pt_right fs (nb_d lk (2 ^ (nu k))) mk1 cn (fz (nu k)) (pb (nu k)) (fs (nu k)) rs1 im1).2.2.1.length ≤ 2048 := by
              refine Nat.le_trans ?_ hfit
              rw [← h1, hgr]
              split
              · exact gb_len _ _ _ _ _ _ _ _ _ _ _ _
              · exact Nat.le_refl _
            refine lv_aload_n hx hb dc_Ck_goBack_111 rfl (lv_at hl 2 rfl) ?_
            refine lv_iload_n hx hb dc_Ck_goBack_112 rfl (lv_at hl 0 rfl) ?_
            refine kw_call1 (wr := [sp_c xs sa sb sn sop, ar_b cZ sa 17 dl, ar_n cI sb 17 nu]) (ws' := [ck_c o xc xs xt xa (nb_d lk (2 ^ (nu k))), cl_c xc ca cb cd cn, ar_n cI ca 33 fz, ar_n cI cb 33 fs, ar_i cI cd (33 * 8) fl, as_c xa aa ab ((pt_right fs (nb_d lk (2 ^ (nu k))) mk1 cn (fz (nu k)) (pb (nu k)) (fs (nu k)) rs1 im1).2.2.2.1) ((pt_right fs (nb_d lk (2 ^ (nu k))) mk1 cn (fz (nu k)) (pb (nu k)) (fs (nu k)) rs1 im1).2.2.2.2.1) ((pt_right fs (nb_d lk (2 ^ (nu k))) mk1 cn (fz (nu k)) (pb (nu k)) (fs (nu k)) rs1 im1).2.2.2.2.2.1), ar_n cI aa 8 ((pt_right fs (nb_d lk (2 ^ (nu k))) mk1 cn (fz (nu k)) (pb (nu k)) (fs (nu k)) rs1 im1).2.2.2.2.2.2.1), ar_n cI ab 8 ((pt_right fs (nb_d lk (2 ^ (nu k))) mk1 cn (fz (nu k)) (pb (nu k)) (fs (nu k)) rs1 im1).2.2.2.2.2.2.2), tr_c xt ta tb td (g1 + (pt_right fs (nb_d lk (2 ^ (nu k))) mk1 cn (fz (nu k)) (pb (nu k)) (fs (nu k)) rs1 im1).2.2.1.length) ((pt_right fs (nb_d lk (2 ^ (nu k))) mk1 cn (fz (nu k)) (pb (nu k)) (fs (nu k)) rs1 im1).2.1) ckd, ar_n cI ta 33 (va_up ft1 (nu k) g1), ar_n cI tb 33 (va_up fc1 (nu k) (fc1 (nu k) + (pt_right fs (nb_d lk (2 ^ (nu k))) mk1 cn (fz (nu k)) (pb (nu k)) (fs (nu k)) rs1 im1).2.2.1.length)), ar_i cI td 2048 (pt_put fr1 g1 (pt_right fs (nb_d lk (2 ^ (nu k))) mk1 cn (fz (nu k)) (pb (nu k)) (fs (nu k)) rs1 im1).2.2.1), sp_c xs sa sb sn sop, ar_b cZ sa 17 dl, ar_n cI sb 17 nu]) (va_runV (As := [.int (nI (nu k))]) (rest := []) ⟨hx, hb, hml, hown, hts⟩ (ct_Ck_isRight l D cI cZ _ o xc xs xt xa (nb_d lk (2 ^ (nu k))) ca cb cd cn fz fs fl aa ab n1 t1 f1 rs1 im1 ta tb td g1 mk1 ckd ft1 fc1 fr1 (nu k) (qb (nu k)) (pb (nu k)) (hcn) (h16) (nb_d_lt hl62) (hz) (hadd k (by omega) (by omega) hc61) (hnu k) (hlit (nu k) (hadd k (by omega) (by omega) hc61) (hnu k)) (hfz)) (cwV 1 hts (kx_gV wd_603 wd_605 (kx_sel (q := (yn_Ck_isRight, 5)) (List.mem_append_left _ (List.mem_of_getElem? (i := 3) rfl))) wd_20 wd_606) rfl rfl rfl ⟨rfl, yd_Ck_isRight⟩ ⟨Nat.le_of_ble_eq_true rfl, Nat.le_of_ble_eq_true rfl⟩) (kp_V (q0 := 0) (ci := 7) hP hD hK hN [0, 1, 2, 3, 4, 5, 6, 7, 8, 9, 10, 11] rfl rfl rfl rfl rfl) rfl rfl hl.1 rfl (lv_room (Nat.le_of_ble_eq_true rfl)) dc_Ck_goBack_113 ⟨Nat.le_of_ble_eq_true rfl, Nat.le_of_ble_eq_true rfl⟩) hP hD hS hA [0, 1, 2, 3, 4, 5, 6, 7, 8, 9, 10, 11] [12, 13, 14] [3, 4, 5, 6, 7, 8, 9, 10, 11, 12, 13, 14, 0, 1, 2] rfl rfl rfl (by decide) rfl rfl (fun H locs hP hD hS => ?_)
            have hmk := right_mk (fs := fs) (lv := nb_d lk (2 ^ nu k)) (mk := mk1) (cn := cn) (w := fz (nu k)) (pb := pb (nu k)) (x := fs (nu k)) (rs := rs1) (im := im1) h16 (h16 _) hcn (Or.inr rfl) hm62
            generalize hRz : pt_right fs (nb_d lk (2 ^ (nu k))) mk1 cn (fz (nu k)) (pb (nu k)) (fs (nu k)) rs1 im1 = ZZ at hP hD hgr hfz hmk ⊢
            refine kb_if_ne hx hb dc_Ck_goBack_116 rfl (fun hc116 => ?_) (fun hc116 => ?_)
            · refine lv_iinc (k := 1) (v := nI (k - 1)) (lv' := [(2, .int (nI (k - 1))), (3, .int (nI (nu k))), (0, .ref o), (1, .int (nI b))]) hx hb dc_Ck_goBack_121 hl rfl (kn_dec (by omega)) (by decide) rfl (fun ls hl => ?_)
              refine lv_goto hx hb dc_Ck_goBack_124 rfl ?_
              have hl := lv_sub (l' := [(2, .int (nI (k - 1))), (0, .ref o), (1, .int (nI b))]) hl [0, 2, 3] rfl
              exact ih _ _ _ _ _ _ _ _ _ _ _ _ _ _ _ (by omega) hP hD hS hl (by rw [← h1, show k - 1 = q by omega, hgr, if_pos hc116]) (by omega) (nb_d_lt hl62) (hmk)
            · refine lv_iload_n hx hb dc_Ck_goBack_119 rfl (lv_at hl 1 rfl) ?_
              exact kw_iret hx hb hr hlocks hP hD hS dc_Ck_goBack_120 (by rw [← h1, hgr, if_neg (by rw [hc116]; decide)]) (by rw [← h1, hgr, if_neg (by rw [hc116]; decide)])
        · have hc61 : dl k = true := hc61
          refine lv_aload_n hx hb dc_Ck_goBack_64 rfl (lv_at hl 2 rfl) ?_
          refine lv_dup hx hb dc_Ck_goBack_65 rfl ?_
          refine va_get (ci := 7) (v := .long (lN lk)) (C := rn_Ck) (T := fd_Ck) (N := 5) hx hb hts in_Ck hown hK hP 0 rfl rfl 4 (by decide) (hts _ wd_580) (fun _ h9 => h9) rfl dc_Ck_goBack_66 ?_
          refine lv_iload_n hx hb dc_Ck_goBack_69 rfl (lv_at hl 0 rfl) ?_
          refine kr_call1 (va_runSN (As := [.int (nI (nu k))]) (rest := [.long (lN lk), .ref o]) ⟨hx, hb, hml, hown, hts⟩ (ct_Pt_one l D cI cZ _ (nu k) (by have := hnu k; omega)) ⟨va_cnB 1 hts (kx_gi wd_559) rfl rfl rfl (nw_600 hN) (hts _ wd_1) yd_Pt_one ⟨Nat.le_of_ble_eq_true rfl, Nat.le_of_ble_eq_true rfl⟩, hts _ wd_558, trivial⟩ (kp_S hP hD hK hN [] rfl rfl) rfl rfl hl.1 rfl (lv_room (Nat.le_of_ble_eq_true rfl)) dc_Ck_goBack_70 ⟨Nat.le_of_ble_eq_true rfl, Nat.le_of_ble_eq_true rfl⟩) ?_
          refine kl_lor hx hb dc_Ck_goBack_73 ?_
          refine va_put (ci := 7) (v := .long (lN (lk ||| (2 ^ (nu k))))) (ty := .long) (C := rn_Ck) (T := fd_Ck) (N := 5) hx hb hts in_Ck ty_Ck tk_Ck nm_Ck hown hK hP hD hS 0 rfl rfl 4 (by decide) (hts _ wd_580) (fun _ h9 => h9) rfl (by decide +kernel) rfl rfl (Nat.le_of_ble_eq_true rfl) dc_Ck_goBack_74 (fun H locs hP hD hS => ?_)
          have hP : va_P D kc_l [ck_c o xc xs xt xa (lk ||| (2 ^ (nu k))), cl_c xc ca cb cd cn, ar_n cI ca 33 fz, ar_n cI cb 33 fs, ar_i cI cd (33 * 8) fl, as_c xa aa ab n1 t1 f1, ar_n cI aa 8 rs1, ar_n cI ab 8 im1, tr_c xt ta tb td g1 mk1 ckd, ar_n cI ta 33 ft1, ar_n cI tb 33 fc1, ar_i cI td 2048 fr1, sp_c xs sa sb sn sop, ar_b cZ sa 17 dl, ar_n cI sb 17 nu] H := hP
          have hD : va_D A [ck_c o xc xs xt xa (lk ||| (2 ^ (nu k))), cl_c xc ca cb cd cn, ar_n cI ca 33 fz, ar_n cI cb 33 fs, ar_i cI cd (33 * 8) fl, as_c xa aa ab n1 t1 f1, ar_n cI aa 8 rs1, ar_n cI ab 8 im1, tr_c xt ta tb td g1 mk1 ckd, ar_n cI ta 33 ft1, ar_n cI tb 33 fc1, ar_i cI td 2048 fr1, sp_c xs sa sb sn sop, ar_b cZ sa 17 dl, ar_n cI sb 17 nu] := hD
          refine lv_goto hx hb dc_Ck_goBack_77 rfl ?_
          refine lv_iinc (k := 1) (v := nI (k - 1)) (lv' := [(2, .int (nI (k - 1))), (3, .int (nI (nu k))), (0, .ref o), (1, .int (nI b))]) hx hb dc_Ck_goBack_121 hl rfl (kn_dec (by omega)) (by decide) rfl (fun ls hl => ?_)
          refine lv_goto hx hb dc_Ck_goBack_124 rfl ?_
          have hl := lv_sub (l' := [(2, .int (nI (k - 1))), (0, .ref o), (1, .int (nI b))]) hl [0, 2, 3] rfl
          exact ih _ _ _ _ _ _ _ _ _ _ _ _ _ _ _ (by omega) hP hD hS hl (by rw [← h1, show k - 1 = q by omega]; conv => rhs; rw [hq, pt_gb, ← hq, if_pos hc61]) (by omega) (Nat.or_lt_two_pow hl62 (Nat.pow_lt_pow_right (by decide) (by have := hnu k; omega))) (hm62)
  exact lp_37 _ _ _ _ _ _ _ _ _ _ _ _ _ _ _ _ (Nat.lt_succ_self _) hP hD hS hl (rfl) (by omega) (Nat.lt_trans hl0 (by decide)) (Nat.pow_lt_pow_right (by decide) (by omega))

set_option maxHeartbeats 4000000 in
set_option maxRecDepth 100000 in
theorem ct_Ck_init (l : Launch) (D : va_G) (cI cZ : ClassId) (sz : Nat) (o : Nat) (xc : Nat) (xs : Nat) (xt : Nat) (xa : Nat)  : Met l yn_Ck_init (Cond.code yn_Ck_init bc_Ck_init 5 none :: kx_all) ({ frames := 1, cells := 0, slots := 0, locals := 12 } : Room) (kp [.ref o, .ref xc, .ref xs, .ref xt, .ref xa] D cI cZ [(o, .inr (7, [.null, .null, .null, .null, .long 0]))] sz) (kw_q none D kc_l [ck_c o xc xs xt xa 0] (va_A [(o, .inr (7, [.null, .null, .null, .null, .long 0]))] sz)) 0 0 (va_A [(o, .inr (7, [.null, .null, .null, .null, .long 0]))] sz) := by
  refine kx_metW (by decide) (Nat.le_of_ble_eq_true rfl) ?_
  intro p e s m below meth c ls A hx hb hr hml hts hown hlocks hin hA hP hK hD hN hl hS
  have hown : s.vm.findClass rn_Ck = some m.cls := hown
  have hl : lv_has ls 5 [(0, .ref o), (1, .ref xc), (2, .ref xs), (3, .ref xt), (4, .ref xa)] := hl
  refine lv_aload_n hx hb dc_Ck_init_0 rfl (lv_at hl 0 rfl) ?_
  refine W.objInit hx hb hown (hts _ wd_575) (hts _ wd_29) (hts _ wd_30) rfl (by rw [hml]; exact hl.1) rfl dc_Ck_init_1 (Nat.le_of_ble_eq_true rfl) (Nat.le_of_ble_eq_true rfl) ?_
  refine W.eq (g2 := F0 m 4 ls []) rfl ?_
  refine lv_aload_n hx hb dc_Ck_init_4 rfl (lv_at hl 0 rfl) ?_
  refine lv_aload_n hx hb dc_Ck_init_5 rfl (lv_at hl 1 rfl) ?_
  refine va_putF (ci := 7) (v := .ref xc) (ty := .object "ProofTrimmer$Clauses") (C := rn_Ck) (T := fd_Ck) (N := 5) hx hb hts in_Ck ty_Ck tk_Ck nm_Ck hown hK hP hD hS 0 rfl rfl 0 (by decide) (hts _ wd_576) (fun _ h9 => h9) rfl hin rfl (by decide +kernel) rfl rfl (Nat.le_of_ble_eq_true rfl) dc_Ck_init_6 (fun H locs hP hD hS => ?_)
  have hP : va_P D kc_l [(o, .inr (7, [.ref xc, .null, .null, .null, .long 0]))] H := hP
  have hD : va_D A [(o, .inr (7, [.ref xc, .null, .null, .null, .long 0]))] := hD
  refine lv_aload_n hx hb dc_Ck_init_9 rfl (lv_at hl 0 rfl) ?_
  refine lv_aload_n hx hb dc_Ck_init_10 rfl (lv_at hl 2 rfl) ?_
  refine va_putF (ci := 7) (v := .ref xs) (ty := .object "ProofTrimmer$Steps") (C := rn_Ck) (T := fd_Ck) (N := 5) hx hb hts in_Ck ty_Ck tk_Ck nm_Ck hown hK hP hD hS 0 rfl rfl 1 (by decide) (hts _ wd_577) (fun _ h9 => h9) rfl hin rfl (by decide +kernel) rfl rfl (Nat.le_of_ble_eq_true rfl) dc_Ck_init_11 (fun H locs hP hD hS => ?_)
  have hP : va_P D kc_l [(o, .inr (7, [.ref xc, .ref xs, .null, .null, .long 0]))] H := hP
  have hD : va_D A [(o, .inr (7, [.ref xc, .ref xs, .null, .null, .long 0]))] := hD
  refine lv_aload_n hx hb dc_Ck_init_14 rfl (lv_at hl 0 rfl) ?_
  refine lv_aload_n hx hb dc_Ck_init_15 rfl (lv_at hl 3 rfl) ?_
  refine va_putF (ci := 7) (v := .ref xt) (ty := .object "ProofTrimmer$Trace") (C := rn_Ck) (T := fd_Ck) (N := 5) hx hb hts in_Ck ty_Ck tk_Ck nm_Ck hown hK hP hD hS 0 rfl rfl 2 (by decide) (hts _ wd_578) (fun _ h9 => h9) rfl hin rfl (by decide +kernel) rfl rfl (Nat.le_of_ble_eq_true rfl) dc_Ck_init_16 (fun H locs hP hD hS => ?_)
  have hP : va_P D kc_l [(o, .inr (7, [.ref xc, .ref xs, .ref xt, .null, .long 0]))] H := hP
  have hD : va_D A [(o, .inr (7, [.ref xc, .ref xs, .ref xt, .null, .long 0]))] := hD
  refine lv_aload_n hx hb dc_Ck_init_19 rfl (lv_at hl 0 rfl) ?_
  refine lv_aload hx hb dc_Ck_init_20 (lv_at hl 4 rfl) ?_
  refine va_putF (ci := 7) (v := .ref xa) (ty := .object "ProofTrimmer$Assignment") (C := rn_Ck) (T := fd_Ck) (N := 5) hx hb hts in_Ck ty_Ck tk_Ck nm_Ck hown hK hP hD hS 0 rfl rfl 3 (by decide) (hts _ wd_579) (fun _ h9 => h9) rfl hin rfl (by decide +kernel) rfl rfl (Nat.le_of_ble_eq_true rfl) dc_Ck_init_22 (fun H locs hP hD hS => ?_)
  have hP : va_P D kc_l [(o, .inr (7, [.ref xc, .ref xs, .ref xt, .ref xa, .long 0]))] H := hP
  have hD : va_D A [(o, .inr (7, [.ref xc, .ref xs, .ref xt, .ref xa, .long 0]))] := hD
  exact kw_vret hx hb hr hlocks hP hD hS dc_Ck_init_25 (rfl)
end
section
/-! the other way: by the hints alone -/
abbrev pt_V : Type := Bool × Nat × Bool × Nat × Nat × Nat × (Nat → Nat) × (Nat → Nat)
/-- the positive hints are followed: in order or not; the next one, whether a conflict came, the assignment -/
def pt_fp (fs : Nat → Nat) (lv cn : Nat) (hv : Nat → Int32) : Nat → Nat → Bool → Nat → Nat → Nat → (Nat → Nat) → (Nat → Nat) → pt_V
  | 0, nx, cf, n, t, f, rs, im => (true, nx, cf, n, t, f, rs, im)
  | k + 1, nx, cf, n, t, f, rs, im =>
    if hv nx ≤ 0 then (true, nx, cf, n, t, f, rs, im)
    else if cf = true ∨ ¬ (hv nx).toNatClampNeg ≤ cn ∨ lv.testBit (hv nx).toNatClampNeg = false ∨ pt_rdy (fs (hv nx).toNatClampNeg) t f = false then (false, nx, cf, n, t, f, rs, im)
    else if nb_d (fs (hv nx).toNatClampNeg) f = 0 then pt_fp fs lv cn hv k (nx + 1) true n t f rs im
    else pt_fp fs lv cn hv k (nx + 1) false (n + 1) (t ||| nb_d (fs (hv nx).toNatClampNeg) f) (f ||| nb_op (nb_d (fs (hv nx).toNatClampNeg) f)) (va_up rs n (hv nx).toNatClampNeg) (va_up im n (nb_d (fs (hv nx).toNatClampNeg) f))
theorem fp_neg {fs : Nat → Nat} {lv cn hc : Nat} {hv : Nat → Int32} {nx : Nat} {cf : Bool} {n t f : Nat} {rs im : Nat → Nat} (hx : nx < hc) (h : hv nx ≤ 0) : pt_fp fs lv cn hv (hc - nx) nx cf n t f rs im = (true, nx, cf, n, t, f, rs, im) := by
  rw [show hc - nx = (hc - (nx + 1)) + 1 by omega, pt_fp, if_pos h]
theorem fp_bad {fs : Nat → Nat} {lv cn hc : Nat} {hv : Nat → Int32} {nx : Nat} {cf : Bool} {n t f h : Nat} {rs im : Nat → Nat} (hx : nx < hc) (h0 : ¬ hv nx ≤ 0) (hh : (hv nx).toNatClampNeg = h) (hb : cf = true ∨ ¬ h ≤ cn ∨ lv.testBit h = false ∨ pt_rdy (fs h) t f = false) : pt_fp fs lv cn hv (hc - nx) nx cf n t f rs im = (false, nx, cf, n, t, f, rs, im) := by
  rw [show hc - nx = (hc - (nx + 1)) + 1 by omega, pt_fp, if_neg h0, hh, if_pos hb]
theorem fp_cf {fs : Nat → Nat} {lv cn hc : Nat} {hv : Nat → Int32} {nx : Nat} {cf : Bool} {n t f h : Nat} {rs im : Nat → Nat} (hx : nx < hc) (h0 : ¬ hv nx ≤ 0) (hh : (hv nx).toNatClampNeg = h) (hb : ¬ (cf = true ∨ ¬ h ≤ cn ∨ lv.testBit h = false ∨ pt_rdy (fs h) t f = false)) (hy : nb_d (fs h) f = 0) : pt_fp fs lv cn hv (hc - nx) nx cf n t f rs im = pt_fp fs lv cn hv (hc - (nx + 1)) (nx + 1) true n t f rs im := by
  rw [show hc - nx = (hc - (nx + 1)) + 1 by omega, pt_fp, if_neg h0, hh, if_neg hb, if_pos hy]
theorem fp_go {fs : Nat → Nat} {lv cn hc : Nat} {hv : Nat → Int32} {nx : Nat} {cf : Bool} {n t f h : Nat} {rs im : Nat → Nat} (hx : nx < hc) (h0 : ¬ hv nx ≤ 0) (hh : (hv nx).toNatClampNeg = h) (hb : ¬ (cf = true ∨ ¬ h ≤ cn ∨ lv.testBit h = false ∨ pt_rdy (fs h) t f = false)) (hy : ¬ nb_d (fs h) f = 0) : pt_fp fs lv cn hv (hc - nx) nx cf n t f rs im = pt_fp fs lv cn hv (hc - (nx + 1)) (nx + 1) false (n + 1) (t ||| nb_d (fs h) f) (f ||| nb_op (nb_d (fs h) f)) (va_up rs n h) (va_up im n (nb_d (fs h) f)) := by
  rw [show hc - nx = (hc - (nx + 1)) + 1 by omega, pt_fp, if_neg h0, hh, if_neg hb, if_neg hy]
theorem fp_en {fs : Nat → Nat} {lv cn hc : Nat} {hv : Nat → Int32} {nx : Nat} {cf : Bool} {n t f : Nat} {rs im : Nat → Nat} (hx : hc ≤ nx) : pt_fp fs lv cn hv (hc - nx) nx cf n t f rs im = (true, nx, cf, n, t, f, rs, im) := by
  rw [show hc - nx = 0 by omega, pt_fp]
theorem fp_nx (fs : Nat → Nat) (lv cn : Nat) (hv : Nat → Int32) : ∀ (k nx : Nat) (cf : Bool) (n t f : Nat) (rs im : Nat → Nat), nx ≤ (pt_fp fs lv cn hv k nx cf n t f rs im).2.1 ∧ (pt_fp fs lv cn hv k nx cf n t f rs im).2.1 ≤ nx + k := by
  intro k
  induction k with
  | zero => intro nx cf n t f rs im; exact ⟨Nat.le_refl _, Nat.le_refl _⟩
  | succ k ih =>
    intro nx cf n t f rs im
    rw [pt_fp]
    split
    · exact ⟨Nat.le_refl _, Nat.le_add_right _ _⟩
    · split
      · exact ⟨Nat.le_refl _, Nat.le_add_right _ _⟩
      · split
        · have h := ih (nx + 1) true n t f rs im; exact ⟨by omega, by omega⟩
        · have h := ih (nx + 1) false (n + 1) (t ||| nb_d (fs (hv nx).toNatClampNeg) f) (f ||| nb_op (nb_d (fs (hv nx).toNatClampNeg) f)) (va_up rs n (hv nx).toNatClampNeg) (va_up im n (nb_d (fs (hv nx).toNatClampNeg) f)); exact ⟨by omega, by omega⟩
/-- the partners are followed, from p on -/
def pt_vp (fs : Nat → Nat) (lv cn pv rc : Nat) (hv : Nat → Int32) (hc : Nat) : Nat → Nat → Nat → Bool → Nat → Nat → Nat → (Nat → Nat) → (Nat → Nat) → pt_V
  | 0, _, nx, cf, n, t, f, rs, im => (true, nx, cf, n, t, f, rs, im)
  | k + 1, p, nx, cf, n, t, f, rs, im =>
    if lv.testBit p = false ∨ fs p &&& pv = 0 then pt_vp fs lv cn pv rc hv hc k (p + 1) nx cf n t f rs im
    else if ¬ hv nx = -nI p then (false, nx, cf, n, t, f, rs, im)
    else if ¬ nb_d (fs p) pv &&& rc = 0 then pt_vp fs lv cn pv rc hv hc k (p + 1) (nx + 1) cf n t f rs im
    else
      let Z := pt_fp fs lv cn hv (hc - (nx + 1)) (nx + 1) false 0 (rc ||| nb_op (nb_d (fs p) pv)) (nb_op (rc ||| nb_op (nb_d (fs p) pv))) rs im
      if Z.1 = true ∧ Z.2.2.1 = true then pt_vp fs lv cn pv rc hv hc k (p + 1) Z.2.1 Z.2.2.1 Z.2.2.2.1 Z.2.2.2.2.1 Z.2.2.2.2.2.1 Z.2.2.2.2.2.2.1 Z.2.2.2.2.2.2.2
      else (false, Z.2)
/-- a clause is good or not -/
def pt_good (fs : Nat → Nat) (lv cn w pb x : Nat) (hv : Nat → Int32) (hc : Nat) (rs im : Nat → Nat) : pt_V :=
  let Z := pt_fp fs lv cn hv (hc - 0) 0 false 0 (nb_op x) (nb_op (nb_op x)) rs im
  if Z.1 = false then (false, Z.2)
  else if Z.2.2.1 = true then (decide (Z.2.1 = hc), Z.2)
  else if w = 0 then (false, Z.2)
  else
    let Y := pt_vp fs lv cn (2 ^ pb) Z.2.2.2.2.1 hv hc cn 1 Z.2.1 Z.2.2.1 Z.2.2.2.1 Z.2.2.2.2.1 Z.2.2.2.2.2.1 Z.2.2.2.2.2.2.1 Z.2.2.2.2.2.2.2
    if Y.1 = false then (false, Y.2) else (decide (Y.2.1 = hc), Y.2)

theorem dc_Vf_followsPositives_0 : decode bc_Vf_followsPositives 0 = .ok (.aload_n 0, 1) := by decide +kernel
theorem dc_Vf_followsPositives_1 : decode bc_Vf_followsPositives 1 = .ok (.iconst 0, 1) := by decide +kernel
theorem dc_Vf_followsPositives_2 : decode bc_Vf_followsPositives 2 = .ok (.putfield 88, 3) := by decide +kernel
theorem dc_Vf_followsPositives_5 : decode bc_Vf_followsPositives 5 = .ok (.aload_n 0, 1) := by decide +kernel
theorem dc_Vf_followsPositives_6 : decode bc_Vf_followsPositives 6 = .ok (.getfield 67, 3) := by decide +kernel
theorem dc_Vf_followsPositives_9 : decode bc_Vf_followsPositives 9 = .ok (.aload_n 0, 1) := by decide +kernel
theorem dc_Vf_followsPositives_10 : decode bc_Vf_followsPositives 10 = .ok (.getfield 17, 3) := by decide +kernel
theorem dc_Vf_followsPositives_13 : decode bc_Vf_followsPositives 13 = .ok (.iload_n 1, 1) := by decide +kernel
theorem dc_Vf_followsPositives_14 : decode bc_Vf_followsPositives 14 = .ok (.invokevirtual 98, 3) := by decide +kernel
theorem dc_Vf_followsPositives_17 : decode bc_Vf_followsPositives 17 = .ok (.if_icmp .ge (123), 3) := by decide +kernel
theorem dc_Vf_followsPositives_20 : decode bc_Vf_followsPositives 20 = .ok (.aload_n 0, 1) := by decide +kernel
theorem dc_Vf_followsPositives_21 : decode bc_Vf_followsPositives 21 = .ok (.getfield 17, 3) := by decide +kernel
theorem dc_Vf_followsPositives_24 : decode bc_Vf_followsPositives 24 = .ok (.iload_n 1, 1) := by decide +kernel
theorem dc_Vf_followsPositives_25 : decode bc_Vf_followsPositives 25 = .ok (.aload_n 0, 1) := by decide +kernel
theorem dc_Vf_followsPositives_26 : decode bc_Vf_followsPositives 26 = .ok (.getfield 67, 3) := by decide +kernel
theorem dc_Vf_followsPositives_29 : decode bc_Vf_followsPositives 29 = .ok (.invokevirtual 112, 3) := by decide +kernel
theorem dc_Vf_followsPositives_32 : decode bc_Vf_followsPositives 32 = .ok (.ifCond .le (108), 3) := by decide +kernel
theorem dc_Vf_followsPositives_35 : decode bc_Vf_followsPositives 35 = .ok (.aload_n 0, 1) := by decide +kernel
theorem dc_Vf_followsPositives_36 : decode bc_Vf_followsPositives 36 = .ok (.getfield 17, 3) := by decide +kernel
theorem dc_Vf_followsPositives_39 : decode bc_Vf_followsPositives 39 = .ok (.iload_n 1, 1) := by decide +kernel
theorem dc_Vf_followsPositives_40 : decode bc_Vf_followsPositives 40 = .ok (.aload_n 0, 1) := by decide +kernel
theorem dc_Vf_followsPositives_41 : decode bc_Vf_followsPositives 41 = .ok (.getfield 67, 3) := by decide +kernel
theorem dc_Vf_followsPositives_44 : decode bc_Vf_followsPositives 44 = .ok (.invokevirtual 112, 3) := by decide +kernel
theorem dc_Vf_followsPositives_47 : decode bc_Vf_followsPositives 47 = .ok (.istore_n 2, 1) := by decide +kernel
theorem dc_Vf_followsPositives_48 : decode bc_Vf_followsPositives 48 = .ok (.aload_n 0, 1) := by decide +kernel
theorem dc_Vf_followsPositives_49 : decode bc_Vf_followsPositives 49 = .ok (.getfield 88, 3) := by decide +kernel
theorem dc_Vf_followsPositives_52 : decode bc_Vf_followsPositives 52 = .ok (.ifCond .ne (44), 3) := by decide +kernel
theorem dc_Vf_followsPositives_55 : decode bc_Vf_followsPositives 55 = .ok (.aload_n 0, 1) := by decide +kernel
theorem dc_Vf_followsPositives_56 : decode bc_Vf_followsPositives 56 = .ok (.getfield 7, 3) := by decide +kernel
theorem dc_Vf_followsPositives_59 : decode bc_Vf_followsPositives 59 = .ok (.iload_n 2, 1) := by decide +kernel
theorem dc_Vf_followsPositives_60 : decode bc_Vf_followsPositives 60 = .ok (.invokevirtual 115, 3) := by decide +kernel
theorem dc_Vf_followsPositives_63 : decode bc_Vf_followsPositives 63 = .ok (.ifCond .eq (33), 3) := by decide +kernel
theorem dc_Vf_followsPositives_66 : decode bc_Vf_followsPositives 66 = .ok (.aload_n 0, 1) := by decide +kernel
theorem dc_Vf_followsPositives_67 : decode bc_Vf_followsPositives 67 = .ok (.getfield 31, 3) := by decide +kernel
theorem dc_Vf_followsPositives_70 : decode bc_Vf_followsPositives 70 = .ok (.iload_n 2, 1) := by decide +kernel
theorem dc_Vf_followsPositives_71 : decode bc_Vf_followsPositives 71 = .ok (.invokestatic 59, 3) := by decide +kernel
theorem dc_Vf_followsPositives_74 : decode bc_Vf_followsPositives 74 = .ok (.ifCond .eq (22), 3) := by decide +kernel
theorem dc_Vf_followsPositives_77 : decode bc_Vf_followsPositives 77 = .ok (.aload_n 0, 1) := by decide +kernel
theorem dc_Vf_followsPositives_78 : decode bc_Vf_followsPositives 78 = .ok (.getfield 21, 3) := by decide +kernel
theorem dc_Vf_followsPositives_81 : decode bc_Vf_followsPositives 81 = .ok (.aload_n 0, 1) := by decide +kernel
theorem dc_Vf_followsPositives_82 : decode bc_Vf_followsPositives 82 = .ok (.getfield 7, 3) := by decide +kernel
theorem dc_Vf_followsPositives_85 : decode bc_Vf_followsPositives 85 = .ok (.getfield 70, 3) := by decide +kernel
theorem dc_Vf_followsPositives_88 : decode bc_Vf_followsPositives 88 = .ok (.iload_n 2, 1) := by decide +kernel
theorem dc_Vf_followsPositives_89 : decode bc_Vf_followsPositives 89 = .ok (.iaload, 1) := by decide +kernel
theorem dc_Vf_followsPositives_90 : decode bc_Vf_followsPositives 90 = .ok (.invokevirtual 118, 3) := by decide +kernel
theorem dc_Vf_followsPositives_93 : decode bc_Vf_followsPositives 93 = .ok (.ifCond .ne (5), 3) := by decide +kernel
theorem dc_Vf_followsPositives_96 : decode bc_Vf_followsPositives 96 = .ok (.iconst 0, 1) := by decide +kernel
theorem dc_Vf_followsPositives_97 : decode bc_Vf_followsPositives 97 = .ok (.ireturn, 1) := by decide +kernel
theorem dc_Vf_followsPositives_98 : decode bc_Vf_followsPositives 98 = .ok (.aload_n 0, 1) := by decide +kernel
theorem dc_Vf_followsPositives_99 : decode bc_Vf_followsPositives 99 = .ok (.aload_n 0, 1) := by decide +kernel
theorem dc_Vf_followsPositives_100 : decode bc_Vf_followsPositives 100 = .ok (.getfield 21, 3) := by decide +kernel
theorem dc_Vf_followsPositives_103 : decode bc_Vf_followsPositives 103 = .ok (.aload_n 0, 1) := by decide +kernel
theorem dc_Vf_followsPositives_104 : decode bc_Vf_followsPositives 104 = .ok (.getfield 7, 3) := by decide +kernel
theorem dc_Vf_followsPositives_107 : decode bc_Vf_followsPositives 107 = .ok (.getfield 70, 3) := by decide +kernel
theorem dc_Vf_followsPositives_110 : decode bc_Vf_followsPositives 110 = .ok (.iload_n 2, 1) := by decide +kernel
theorem dc_Vf_followsPositives_111 : decode bc_Vf_followsPositives 111 = .ok (.iaload, 1) := by decide +kernel
theorem dc_Vf_followsPositives_112 : decode bc_Vf_followsPositives 112 = .ok (.iload_n 2, 1) := by decide +kernel
theorem dc_Vf_followsPositives_113 : decode bc_Vf_followsPositives 113 = .ok (.invokevirtual 121, 3) := by decide +kernel
theorem dc_Vf_followsPositives_116 : decode bc_Vf_followsPositives 116 = .ok (.ifCond .ne (7), 3) := by decide +kernel
theorem dc_Vf_followsPositives_119 : decode bc_Vf_followsPositives 119 = .ok (.iconst 1, 1) := by decide +kernel
theorem dc_Vf_followsPositives_120 : decode bc_Vf_followsPositives 120 = .ok (.goto (4), 3) := by decide +kernel
theorem dc_Vf_followsPositives_123 : decode bc_Vf_followsPositives 123 = .ok (.iconst 0, 1) := by decide +kernel
theorem dc_Vf_followsPositives_124 : decode bc_Vf_followsPositives 124 = .ok (.putfield 88, 3) := by decide +kernel
theorem dc_Vf_followsPositives_127 : decode bc_Vf_followsPositives 127 = .ok (.aload_n 0, 1) := by decide +kernel
theorem dc_Vf_followsPositives_128 : decode bc_Vf_followsPositives 128 = .ok (.dup, 1) := by decide +kernel
theorem dc_Vf_followsPositives_129 : decode bc_Vf_followsPositives 129 = .ok (.getfield 67, 3) := by decide +kernel
theorem dc_Vf_followsPositives_132 : decode bc_Vf_followsPositives 132 = .ok (.iconst 1, 1) := by decide +kernel
theorem dc_Vf_followsPositives_133 : decode bc_Vf_followsPositives 133 = .ok (.iadd, 1) := by decide +kernel
theorem dc_Vf_followsPositives_134 : decode bc_Vf_followsPositives 134 = .ok (.putfield 67, 3) := by decide +kernel
theorem dc_Vf_followsPositives_137 : decode bc_Vf_followsPositives 137 = .ok (.goto (-132), 3) := by decide +kernel
theorem dc_Vf_followsPositives_140 : decode bc_Vf_followsPositives 140 = .ok (.iconst 1, 1) := by decide +kernel
theorem dc_Vf_followsPositives_141 : decode bc_Vf_followsPositives 141 = .ok (.ireturn, 1) := by decide +kernel
set_option maxHeartbeats 4000000 in
set_option maxRecDepth 100000 in
theorem ct_Vf_followsPositives (l : Launch) (D : va_G) (cI cZ : ClassId) (sz : Nat) (o : Nat) (xc : Nat) (xs : Nat) (xt : Nat) (xa : Nat) (lv : Nat) (nx : Nat) (cf : Bool) (ca : Nat) (cb : Nat) (cd : Nat) (cn : Nat) (fz : Nat → Nat) (fs : Nat → Nat) (fl : Nat → Int32) (aa : Nat) (ab : Nat) (n : Nat) (t : Nat) (f : Nat) (rs : Nat → Nat) (im : Nat → Nat) (ta : Nat) (tb : Nat) (td : Nat) (g : Nat) (mk : Nat) (ckd : Bool) (ft : Nat → Nat) (fc : Nat → Nat) (fr : Nat → Int32) (j : Nat) (hcn : cn ≤ 32) (h16 : ∀ j, fs j < 65536) (hlv : lv < 2 ^ 62) (hb0 : ∀ j, 1 ≤ j → j ≤ 32 → ft j + fc j ≤ 2048) (hj32 : j ≤ 32) (hcap : pt_cap n t f) (hnx : nx ≤ 2048) : Met l yn_Vf_followsPositives (Cond.code yn_Vf_followsPositives bc_Vf_followsPositives 3 (some .boolean) :: kx_all) ({ frames := 2, cells := 0, slots := 0, locals := 43 } : Room) (kp [.ref o, .int (nI j)] D cI cZ [vf_c o xc xs xt xa lv nx cf, cl_c xc ca cb cd cn, ar_n cI ca 33 fz, ar_n cI cb 33 fs, ar_i cI cd (33 * 8) fl, as_c xa aa ab n t f, ar_n cI aa 8 rs, ar_n cI ab 8 im, tr_c xt ta tb td g mk ckd, ar_n cI ta 33 ft, ar_n cI tb 33 fc, ar_i cI td 2048 fr] sz) (kw_q (some (.int (kb_i ((pt_fp fs lv cn (fun k => pt_hv ft fc fr j k) (pt_hc fc j - nx) nx false n t f rs im).1)))) D kc_l [vf_c o xc xs xt xa lv ((pt_fp fs lv cn (fun k => pt_hv ft fc fr j k) (pt_hc fc j - nx) nx false n t f rs im).2.1) ((pt_fp fs lv cn (fun k => pt_hv ft fc fr j k) (pt_hc fc j - nx) nx false n t f rs im).2.2.1), cl_c xc ca cb cd cn, ar_n cI ca 33 fz, ar_n cI cb 33 fs, ar_i cI cd (33 * 8) fl, as_c xa aa ab ((pt_fp fs lv cn (fun k => pt_hv ft fc fr j k) (pt_hc fc j - nx) nx false n t f rs im).2.2.2.1) ((pt_fp fs lv cn (fun k => pt_hv ft fc fr j k) (pt_hc fc j - nx) nx false n t f rs im).2.2.2.2.1) ((pt_fp fs lv cn (fun k => pt_hv ft fc fr j k) (pt_hc fc j - nx) nx false n t f rs im).2.2.2.2.2.1), ar_n cI aa 8 ((pt_fp fs lv cn (fun k => pt_hv ft fc fr j k) (pt_hc fc j - nx) nx false n t f rs im).2.2.2.2.2.2.1), ar_n cI ab 8 ((pt_fp fs lv cn (fun k => pt_hv ft fc fr j k) (pt_hc fc j - nx) nx false n t f rs im).2.2.2.2.2.2.2), tr_c xt ta tb td g mk ckd, ar_n cI ta 33 ft, ar_n cI tb 33 fc, ar_i cI td 2048 fr] (va_A [vf_c o xc xs xt xa lv nx cf, cl_c xc ca cb cd cn, ar_n cI ca 33 fz, ar_n cI cb 33 fs, ar_i cI cd (33 * 8) fl, as_c xa aa ab n t f, ar_n cI aa 8 rs, ar_n cI ab 8 im, tr_c xt ta tb td g mk ckd, ar_n cI ta 33 ft, ar_n cI tb 33 fc, ar_i cI td 2048 fr] sz)) 0 0 (va_A [vf_c o xc xs xt xa lv nx cf, cl_c xc ca cb cd cn, ar_n cI ca 33 fz, ar_n cI cb 33 fs, ar_i cI cd (33 * 8) fl, as_c xa aa ab n t f, ar_n cI aa 8 rs, ar_n cI ab 8 im, tr_c xt ta tb td g mk ckd, ar_n cI ta 33 ft, ar_n cI tb 33 fc, ar_i cI td 2048 fr] sz) := by
  refine kx_metW (by decide) (Nat.le_of_ble_eq_true rfl) ?_
  intro p e s m below meth c ls A hx hb hr hml hts hown hlocks hin hA hP hK hD hN hl hS
  have hown : s.vm.findClass rn_Vf = some m.cls := hown
  have hl : lv_has ls 3 [(0, .ref o), (1, .int (nI j))] := hl
  have hcb : pt_hc fc j ≤ 2048 := by
    unfold pt_hc
    split
    · have := hb0 j (by omega) (by omega); omega
    · decide
  refine lv_aload_n hx hb dc_Vf_followsPositives_0 rfl (lv_at hl 0 rfl) ?_
  refine lv_iconst (v := nI 0) hx hb dc_Vf_followsPositives_1 (by decide +kernel) ?_
  refine kn_top (y := kb_i false) (by decide +kernel) ?_
  refine va_put (ci := 8) (v := .int (kb_i false)) (ty := .boolean) (C := rn_Vf) (T := fd_Vf) (N := 7) hx hb hts in_Vf ty_Vf tk_Vf nm_Vf hown hK hP hD hS 0 rfl rfl 6 (by decide) (hts _ wd_683) (fun _ h9 => h9) rfl (by decide +kernel) (kb_nar _) (kb_fit _) (Nat.le_of_ble_eq_true rfl) dc_Vf_followsPositives_2 (fun H locs hP hD hS => ?_)
  have hP : va_P D kc_l [vf_c o xc xs xt xa lv nx false, cl_c xc ca cb cd cn, ar_n cI ca 33 fz, ar_n cI cb 33 fs, ar_i cI cd (33 * 8) fl, as_c xa aa ab n t f, ar_n cI aa 8 rs, ar_n cI ab 8 im, tr_c xt ta tb td g mk ckd, ar_n cI ta 33 ft, ar_n cI tb 33 fc, ar_i cI td 2048 fr] H := hP
  have hD : va_D A [vf_c o xc xs xt xa lv nx false, cl_c xc ca cb cd cn, ar_n cI ca 33 fz, ar_n cI cb 33 fs, ar_i cI cd (33 * 8) fl, as_c xa aa ab n t f, ar_n cI aa 8 rs, ar_n cI ab 8 im, tr_c xt ta tb td g mk ckd, ar_n cI ta 33 ft, ar_n cI tb 33 fc, ar_i cI td 2048 fr] := hD
  have lp_5 : ∀ (K : Nat) (nk : Nat) (ck1 : Bool) (n1 : Nat) (t1 : Nat) (f1 : Nat) (rs1 : Nat → Nat) (im1 : Nat → Nat) (H : Heap) (locs : List Loc) (ls : Array Slot), pt_hc fc j - nk < K → va_P D kc_l [vf_c o xc xs xt xa lv nk ck1, cl_c xc ca cb cd cn, ar_n cI ca 33 fz, ar_n cI cb 33 fs, ar_i cI cd (33 * 8) fl, as_c xa aa ab n1 t1 f1, ar_n cI aa 8 rs1, ar_n cI ab 8 im1, tr_c xt ta tb td g mk ckd, ar_n cI ta 33 ft, ar_n cI tb 33 fc, ar_i cI td 2048 fr] H → va_D A [vf_c o xc xs xt xa lv nk ck1, cl_c xc ca cb cd cn, ar_n cI ca 33 fz, ar_n cI cb 33 fs, ar_i cI cd (33 * 8) fl, as_c xa aa ab n1 t1 f1, ar_n cI aa 8 rs1, ar_n cI ab 8 im1, tr_c xt ta tb td g mk ckd, ar_n cI ta 33 ft, ar_n cI tb 33 fc, ar_i cI td 2048 fr] → va_S A s.heap H locs → lv_has ls 3 [(0, .ref o), (1, .int (nI j))] → (pt_fp fs lv cn (fun k => pt_hv ft fc fr j k) (pt_hc fc j - nk) nk ck1 n1 t1 f1 rs1 im1 = pt_fp fs lv cn (fun k => pt_hv ft fc fr j k) (pt_hc fc j - nx) nx false n t f rs im) → (nx ≤ nk ∧ nk ≤ 2048) → (pt_cap n1 t1 f1) → W p l e ({ frames := 2, cells := 0, slots := 0, locals := 43 } : Room) s m ([.ref o, .int (nI j)] : List Value).toArray below meth c H locs 0 0 (MQ below (kw_q (some (.int (kb_i ((pt_fp fs lv cn (fun k => pt_hv ft fc fr j k) (pt_hc fc j - nx) nx false n t f rs im).1)))) D kc_l [vf_c o xc xs xt xa lv ((pt_fp fs lv cn (fun k => pt_hv ft fc fr j k) (pt_hc fc j - nx) nx false n t f rs im).2.1) ((pt_fp fs lv cn (fun k => pt_hv ft fc fr j k) (pt_hc fc j - nx) nx false n t f rs im).2.2.1), cl_c xc ca cb cd cn, ar_n cI ca 33 fz, ar_n cI cb 33 fs, ar_i cI cd (33 * 8) fl, as_c xa aa ab ((pt_fp fs lv cn (fun k => pt_hv ft fc fr j k) (pt_hc fc j - nx) nx false n t f rs im).2.2.2.1) ((pt_fp fs lv cn (fun k => pt_hv ft fc fr j k) (pt_hc fc j - nx) nx false n t f rs im).2.2.2.2.1) ((pt_fp fs lv cn (fun k => pt_hv ft fc fr j k) (pt_hc fc j - nx) nx false n t f rs im).2.2.2.2.2.1), ar_n cI aa 8 ((pt_fp fs lv cn (fun k => pt_hv ft fc fr j k) (pt_hc fc j - nx) nx false n t f rs im).2.2.2.2.2.2.1), ar_n cI ab 8 ((pt_fp fs lv cn (fun k => pt_hv ft fc fr j k) (pt_hc fc j - nx) nx false n t f rs im).2.2.2.2.2.2.2), tr_c xt ta tb td g mk ckd, ar_n cI ta 33 ft, ar_n cI tb 33 fc, ar_i cI td 2048 fr] A) ([.ref o, .int (nI j)] : List Value).toArray s 0 0 A) (F0 m 5 ls []) := by
    intro K
    induction K with
    | zero =>
      intro nk ck1 n1 t1 f1 rs1 im1 H locs ls hk
      exact absurd hk (Nat.not_lt_zero _)
    | succ K ih =>
      intro nk ck1 n1 t1 f1 rs1 im1 H locs ls hk hP hD hS hl h1 h2 h3
      refine lv_aload_n hx hb dc_Vf_followsPositives_5 rfl (lv_at hl 0 rfl) ?_
      refine va_get (ci := 8) (v := .int (nI nk)) (C := rn_Vf) (T := fd_Vf) (N := 7) hx hb hts in_Vf hown hK hP 0 rfl rfl 5 (by decide) (hts _ wd_682) (fun _ h9 => h9) rfl dc_Vf_followsPositives_6 ?_
      refine lv_aload_n hx hb dc_Vf_followsPositives_9 rfl (lv_at hl 0 rfl) ?_
      refine va_get (ci := 8) (v := .ref xt) (C := rn_Vf) (T := fd_Vf) (N := 7) hx hb hts in_Vf hown hK hP 0 rfl rfl 2 (by decide) (hts _ wd_679) (fun _ h9 => h9) rfl dc_Vf_followsPositives_10 ?_
      refine lv_iload_n hx hb dc_Vf_followsPositives_13 rfl (lv_at hl 1 rfl) ?_
      refine kr_call1 (va_runV (As := [.int (nI j)]) (rest := [.int (nI nk)]) ⟨hx, hb, hml, hown, hts⟩ (ct_Tr_countOf l D cI cZ _ xt ta tb td g mk ckd ft fc fr j (by omega)) (cwV 1 hts (kx_gV wd_717 wd_268 wd_269 wd_7 wd_270) rfl rfl rfl ⟨rfl, yd_Tr_countOf⟩ ⟨Nat.le_of_ble_eq_true rfl, Nat.le_of_ble_eq_true rfl⟩) (kp_V (q0 := 8) (ci := 5) hP hD hK hN [8, 9, 10, 11] rfl rfl rfl rfl rfl) rfl rfl hl.1 rfl (lv_room (Nat.le_of_ble_eq_true rfl)) dc_Vf_followsPositives_14 ⟨Nat.le_of_ble_eq_true rfl, Nat.le_of_ble_eq_true rfl⟩) ?_
      refine kn_icmp_ge hx hb (by omega) (by omega) dc_Vf_followsPositives_17 rfl (fun hc17 => ?_) (fun hc17 => ?_)
      · refine lv_iconst (v := nI 1) hx hb dc_Vf_followsPositives_140 (by decide +kernel) ?_
        refine kn_top (y := kb_i true) (by decide +kernel) ?_
        exact kw_zret hx hb hr hlocks hP hD hS dc_Vf_followsPositives_141 (by rw [← h1, fp_en (by omega)]) (by rw [← h1, fp_en (by omega)])
      · refine lv_aload_n hx hb dc_Vf_followsPositives_20 rfl (lv_at hl 0 rfl) ?_
        refine va_get (ci := 8) (v := .ref xt) (C := rn_Vf) (T := fd_Vf) (N := 7) hx hb hts in_Vf hown hK hP 0 rfl rfl 2 (by decide) (hts _ wd_679) (fun _ h9 => h9) rfl dc_Vf_followsPositives_21 ?_
        refine lv_iload_n hx hb dc_Vf_followsPositives_24 rfl (lv_at hl 1 rfl) ?_
        refine lv_aload_n hx hb dc_Vf_followsPositives_25 rfl (lv_at hl 0 rfl) ?_
        refine va_get (ci := 8) (v := .int (nI nk)) (C := rn_Vf) (T := fd_Vf) (N := 7) hx hb hts in_Vf hown hK hP 0 rfl rfl 5 (by decide) (hts _ wd_682) (fun _ h9 => h9) rfl dc_Vf_followsPositives_26 ?_
        refine kr_call1 (va_runV (As := [.int (nI j), .int (nI nk)]) (rest := []) ⟨hx, hb, hml, hown, hts⟩ (ct_Tr_hintAt l D cI cZ _ xt ta tb td g mk ckd ft fc fr j nk (hb0) (by omega) (by omega)) (cwV 2 hts (kx_gV wd_718 wd_276 wd_277 wd_7 wd_278) rfl rfl rfl ⟨rfl, yd_Tr_hintAt⟩ ⟨Nat.le_of_ble_eq_true rfl, Nat.le_of_ble_eq_true rfl⟩) (kp_V (q0 := 8) (ci := 5) hP hD hK hN [8, 9, 10, 11] rfl rfl rfl rfl rfl) rfl rfl hl.1 rfl (lv_room (Nat.le_of_ble_eq_true rfl)) dc_Vf_followsPositives_29 ⟨Nat.le_of_ble_eq_true rfl, Nat.le_of_ble_eq_true rfl⟩) ?_
        refine lv_if_le hx hb dc_Vf_followsPositives_32 rfl (fun hc32 => ?_) (fun hc32 => ?_)
        · refine lv_iconst (v := nI 1) hx hb dc_Vf_followsPositives_140 (by decide +kernel) ?_
          refine kn_top (y := kb_i true) (by decide +kernel) ?_
          exact kw_zret hx hb hr hlocks hP hD hS dc_Vf_followsPositives_141 (by rw [← h1, fp_neg (by omega) hc32]) (by rw [← h1, fp_neg (by omega) hc32])
        · obtain ⟨h, hh31, hhe⟩ := nI_of (x := pt_hv ft fc fr j nk) (fun q => hc32 (Int32.le_of_lt q))
          have hcl : (pt_hv ft fc fr j nk).toNatClampNeg = h := by rw [hhe, nI_clamp hh31]
          have hh1 : 1 ≤ h := by
            rcases Nat.eq_zero_or_pos h with q | q
            · exfalso; rw [hhe, q] at hc32; exact hc32 (by decide +kernel)
            · exact q
          refine lv_aload_n hx hb dc_Vf_followsPositives_35 rfl (lv_at hl 0 rfl) ?_
          refine va_get (ci := 8) (v := .ref xt) (C := rn_Vf) (T := fd_Vf) (N := 7) hx hb hts in_Vf hown hK hP 0 rfl rfl 2 (by decide) (hts _ wd_679) (fun _ h9 => h9) rfl dc_Vf_followsPositives_36 ?_
          refine lv_iload_n hx hb dc_Vf_followsPositives_39 rfl (lv_at hl 1 rfl) ?_
          refine lv_aload_n hx hb dc_Vf_followsPositives_40 rfl (lv_at hl 0 rfl) ?_
          refine va_get (ci := 8) (v := .int (nI nk)) (C := rn_Vf) (T := fd_Vf) (N := 7) hx hb hts in_Vf hown hK hP 0 rfl rfl 5 (by decide) (hts _ wd_682) (fun _ h9 => h9) rfl dc_Vf_followsPositives_41 ?_
          refine kr_call1 (va_runV (As := [.int (nI j), .int (nI nk)]) (rest := []) ⟨hx, hb, hml, hown, hts⟩ (ct_Tr_hintAt l D cI cZ _ xt ta tb td g mk ckd ft fc fr j nk (hb0) (by omega) (by omega)) (cwV 2 hts (kx_gV wd_718 wd_276 wd_277 wd_7 wd_278) rfl rfl rfl ⟨rfl, yd_Tr_hintAt⟩ ⟨Nat.le_of_ble_eq_true rfl, Nat.le_of_ble_eq_true rfl⟩) (kp_V (q0 := 8) (ci := 5) hP hD hK hN [8, 9, 10, 11] rfl rfl rfl rfl rfl) rfl rfl hl.1 rfl (lv_room (Nat.le_of_ble_eq_true rfl)) dc_Vf_followsPositives_44 ⟨Nat.le_of_ble_eq_true rfl, Nat.le_of_ble_eq_true rfl⟩) ?_
          refine kn_top (y := nI h) hhe ?_
          refine lv_istore_n (lv' := [(2, .int (nI h)), (0, .ref o), (1, .int (nI j))]) hx hb dc_Vf_followsPositives_47 rfl hl (by decide) rfl (fun ls hl => ?_)
          refine lv_aload_n hx hb dc_Vf_followsPositives_48 rfl (lv_at hl 1 rfl) ?_
          refine va_get (ci := 8) (v := .int (kb_i ck1)) (C := rn_Vf) (T := fd_Vf) (N := 7) hx hb hts in_Vf hown hK hP 0 rfl rfl 6 (by decide) (hts _ wd_683) (fun _ h9 => h9) rfl dc_Vf_followsPositives_49 ?_
          refine kb_if_ne hx hb dc_Vf_followsPositives_52 rfl (fun hc52 => ?_) (fun hc52 => ?_)
          · refine lv_iconst (v := nI 0) hx hb dc_Vf_followsPositives_96 (by decide +kernel) ?_
            refine kn_top (y := kb_i false) (by decide +kernel) ?_
            exact kw_zret hx hb hr hlocks hP hD hS dc_Vf_followsPositives_97 (by rw [← h1, fp_bad (by omega) hc32 hcl (Or.inl hc52)]) (by rw [← h1, fp_bad (by omega) hc32 hcl (Or.inl hc52)])
          · refine lv_aload_n hx hb dc_Vf_followsPositives_55 rfl (lv_at hl 1 rfl) ?_
            refine va_get (ci := 8) (v := .ref xc) (C := rn_Vf) (T := fd_Vf) (N := 7) hx hb hts in_Vf hown hK hP 0 rfl rfl 0 (by decide) (hts _ wd_677) (fun _ h9 => h9) rfl dc_Vf_followsPositives_56 ?_
            refine lv_iload_n hx hb dc_Vf_followsPositives_59 rfl (lv_at hl 0 rfl) ?_
            refine kr_call1 (va_runV (As := [.int (nI h)]) (rest := []) ⟨hx, hb, hml, hown, hts⟩ (ct_Cl_has l D cI cZ _ xc ca cb cd cn h (by omega) (hh31)) (cwV 1 hts (kx_gV wd_719 wd_240 wd_241 wd_4 wd_242) rfl rfl rfl ⟨rfl, yd_Cl_has⟩ ⟨Nat.le_of_ble_eq_true rfl, Nat.le_of_ble_eq_true rfl⟩) (kp_V (q0 := 1) (ci := 2) hP hD hK hN [1] rfl rfl rfl rfl rfl) rfl rfl hl.1 rfl (lv_room (Nat.le_of_ble_eq_true rfl)) dc_Vf_followsPositives_60 ⟨Nat.le_of_ble_eq_true rfl, Nat.le_of_ble_eq_true rfl⟩) ?_
            refine kb_if_eq hx hb dc_Vf_followsPositives_63 rfl (fun hc63 => ?_) (fun hc63 => ?_)
            · have hc63 := of_decide_eq_false hc63
              refine lv_iconst (v := nI 0) hx hb dc_Vf_followsPositives_96 (by decide +kernel) ?_
              refine kn_top (y := kb_i false) (by decide +kernel) ?_
              exact kw_zret hx hb hr hlocks hP hD hS dc_Vf_followsPositives_97 (by rw [← h1, fp_bad (by omega) hc32 hcl (Or.inr (Or.inl (by omega)))]) (by rw [← h1, fp_bad (by omega) hc32 hcl (Or.inr (Or.inl (by omega)))])
            · have hc63 := of_decide_eq_true hc63
              refine lv_aload_n hx hb dc_Vf_followsPositives_66 rfl (lv_at hl 1 rfl) ?_
              refine va_get (ci := 8) (v := .long (lN lv)) (C := rn_Vf) (T := fd_Vf) (N := 7) hx hb hts in_Vf hown hK hP 0 rfl rfl 4 (by decide) (hts _ wd_681) (fun _ h9 => h9) rfl dc_Vf_followsPositives_67 ?_
              refine lv_iload_n hx hb dc_Vf_followsPositives_70 rfl (lv_at hl 0 rfl) ?_
              refine kr_call1 (va_runSN (As := [.long (lN lv), .int (nI h)]) (rest := []) ⟨hx, hb, hml, hown, hts⟩ (ct_Pt_contains l D cI cZ _ lv h (hlv) (by omega)) ⟨va_cnB 2 hts (kx_gi wd_262) rfl rfl rfl (nw_706 hN) (hts _ wd_1) yd_Pt_contains ⟨Nat.le_of_ble_eq_true rfl, Nat.le_of_ble_eq_true rfl⟩, hts _ wd_261, trivial⟩ (kp_S hP hD hK hN [] rfl rfl) rfl rfl hl.1 rfl (lv_room (Nat.le_of_ble_eq_true rfl)) dc_Vf_followsPositives_71 ⟨Nat.le_of_ble_eq_true rfl, Nat.le_of_ble_eq_true rfl⟩) ?_
              refine kb_if_eq hx hb dc_Vf_followsPositives_74 rfl (fun hc74 => ?_) (fun hc74 => ?_)
              · refine lv_iconst (v := nI 0) hx hb dc_Vf_followsPositives_96 (by decide +kernel) ?_
                refine kn_top (y := kb_i false) (by decide +kernel) ?_
                exact kw_zret hx hb hr hlocks hP hD hS dc_Vf_followsPositives_97 (by rw [← h1, fp_bad (by omega) hc32 hcl (Or.inr (Or.inr (Or.inl hc74)))]) (by rw [← h1, fp_bad (by omega) hc32 hcl (Or.inr (Or.inr (Or.inl hc74)))])
              · refine lv_aload_n hx hb dc_Vf_followsPositives_77 rfl (lv_at hl 1 rfl) ?_
                refine va_get (ci := 8) (v := .ref xa) (C := rn_Vf) (T := fd_Vf) (N := 7) hx hb hts in_Vf hown hK hP 0 rfl rfl 3 (by decide) (hts _ wd_680) (fun _ h9 => h9) rfl dc_Vf_followsPositives_78 ?_
                refine lv_aload_n hx hb dc_Vf_followsPositives_81 rfl (lv_at hl 1 rfl) ?_
                refine va_get (ci := 8) (v := .ref xc) (C := rn_Vf) (T := fd_Vf) (N := 7) hx hb hts in_Vf hown hK hP 0 rfl rfl 0 (by decide) (hts _ wd_677) (fun _ h9 => h9) rfl dc_Vf_followsPositives_82 ?_
                refine va_getN (ci := 2) (v := .ref cb) (C := rn_Cl) (T := fd_Cl) (N := 4) hx hb hts in_Cl hown hK hP 1 rfl rfl 1 (by decide) (nf_69 hN) (fun _ h9 => h9) rfl dc_Vf_followsPositives_85 ?_
                refine lv_iload_n hx hb dc_Vf_followsPositives_88 rfl (lv_at hl 0 rfl) ?_
                refine ka_nald (t := fs) hx hb hK hP 3 0 rfl rfl (j := h) (by omega) (by omega) dc_Vf_followsPositives_89 ?_
                refine kr_call1 (va_runV (As := [.int (nI (fs h))]) (rest := []) ⟨hx, hb, hml, hown, hts⟩ (ct_As_isReady l D cI cZ _ xa aa ab n1 t1 f1 (fs h) (h16 _)) (cwV 1 hts (kx_gV wd_720 wd_629 wd_630 wd_8 wd_631) rfl rfl rfl ⟨rfl, yd_As_isReady⟩ ⟨Nat.le_of_ble_eq_true rfl, Nat.le_of_ble_eq_true rfl⟩) (kp_V (q0 := 5) (ci := 6) hP hD hK hN [5] rfl rfl rfl rfl rfl) rfl rfl hl.1 rfl (lv_room (Nat.le_of_ble_eq_true rfl)) dc_Vf_followsPositives_90 ⟨Nat.le_of_ble_eq_true rfl, Nat.le_of_ble_eq_true rfl⟩) ?_
                refine kb_if_ne hx hb dc_Vf_followsPositives_93 rfl (fun hc93 => ?_) (fun hc93 => ?_)
                · have hnb : ¬ (ck1 = true ∨ ¬ h ≤ cn ∨ lv.testBit h = false ∨ pt_rdy (fs h) t1 f1 = false) := fun q => by
                    rcases q with q | q | q | q
                    · rw [hc52] at q; exact absurd q (by decide)
                    · omega
                    · rw [hc74] at q; exact absurd q (by decide)
                    · rw [hc93] at q; exact absurd q (by decide)
                  refine lv_aload_n hx hb dc_Vf_followsPositives_98 rfl (lv_at hl 1 rfl) ?_
                  refine lv_aload_n hx hb dc_Vf_followsPositives_99 rfl (lv_at hl 1 rfl) ?_
                  refine va_get (ci := 8) (v := .ref xa) (C := rn_Vf) (T := fd_Vf) (N := 7) hx hb hts in_Vf hown hK hP 0 rfl rfl 3 (by decide) (hts _ wd_680) (fun _ h9 => h9) rfl dc_Vf_followsPositives_100 ?_
                  refine lv_aload_n hx hb dc_Vf_followsPositives_103 rfl (lv_at hl 1 rfl) ?_
                  refine va_get (ci := 8) (v := .ref xc) (C := rn_Vf) (T := fd_Vf) (N := 7) hx hb hts in_Vf hown hK hP 0 rfl rfl 0 (by decide) (hts _ wd_677) (fun _ h9 => h9) rfl dc_Vf_followsPositives_104 ?_
                  refine va_getN (ci := 2) (v := .ref cb) (C := rn_Cl) (T := fd_Cl) (N := 4) hx hb hts in_Cl hown hK hP 1 rfl rfl 1 (by decide) (nf_69 hN) (fun _ h9 => h9) rfl dc_Vf_followsPositives_107 ?_
                  refine lv_iload_n hx hb dc_Vf_followsPositives_110 rfl (lv_at hl 0 rfl) ?_
                  refine ka_nald (t := fs) hx hb hK hP 3 0 rfl rfl (j := h) (by omega) (by omega) dc_Vf_followsPositives_111 ?_
                  refine lv_iload_n hx hb dc_Vf_followsPositives_112 rfl (lv_at hl 0 rfl) ?_
                  by_cases hy0 : nb_d (fs h) f1 = 0
                  · refine kr_call1 (va_runV (As := [.int (nI (fs h)), .int (nI h)]) (rest := [.ref o]) ⟨hx, hb, hml, hown, hts⟩ (ct_As_follow_no l D cI cZ _ xa aa ab n1 t1 f1 (fs h) h (h16 _) (hy0)) (cwV 2 hts (kx_gV wd_721 wd_633 wd_634 wd_8 wd_635) rfl rfl rfl ⟨rfl, yd_As_follow⟩ ⟨Nat.le_of_ble_eq_true rfl, Nat.le_of_ble_eq_true rfl⟩) (kp_V (q0 := 5) (ci := 6) hP hD hK hN [5] rfl rfl rfl rfl rfl) rfl rfl hl.1 rfl (lv_room (Nat.le_of_ble_eq_true rfl)) dc_Vf_followsPositives_113 ⟨Nat.le_of_ble_eq_true rfl, Nat.le_of_ble_eq_true rfl⟩) ?_
                    refine kb_if_ne hx hb dc_Vf_followsPositives_116 rfl (fun hc116 => ?_) (fun hc116 => ?_)
                    · exact absurd hc116 (by decide)
                    · refine lv_iconst (v := nI 1) hx hb dc_Vf_followsPositives_119 (by decide +kernel) ?_
                      refine lv_goto hx hb dc_Vf_followsPositives_120 rfl ?_
                      refine kn_top (y := kb_i true) (by decide +kernel) ?_
                      refine va_put (ci := 8) (v := .int (kb_i true)) (ty := .boolean) (C := rn_Vf) (T := fd_Vf) (N := 7) hx hb hts in_Vf ty_Vf tk_Vf nm_Vf hown hK hP hD hS 0 rfl rfl 6 (by decide) (hts _ wd_683) (fun _ h9 => h9) rfl (by decide +kernel) (kb_nar _) (kb_fit _) (Nat.le_of_ble_eq_true rfl) dc_Vf_followsPositives_124 (fun H locs hP hD hS => ?_)
                      have hP : va_P D kc_l [vf_c o xc xs xt xa lv nk true, cl_c xc ca cb cd cn, ar_n cI ca 33 fz, ar_n cI cb 33 fs, ar_i cI cd (33 * 8) fl, as_c xa aa ab n1 t1 f1, ar_n cI aa 8 rs1, ar_n cI ab 8 im1, tr_c xt ta tb td g mk ckd, ar_n cI ta 33 ft, ar_n cI tb 33 fc, ar_i cI td 2048 fr] H := hP
                      have hD : va_D A [vf_c o xc xs xt xa lv nk true, cl_c xc ca cb cd cn, ar_n cI ca 33 fz, ar_n cI cb 33 fs, ar_i cI cd (33 * 8) fl, as_c xa aa ab n1 t1 f1, ar_n cI aa 8 rs1, ar_n cI ab 8 im1, tr_c xt ta tb td g mk ckd, ar_n cI ta 33 ft, ar_n cI tb 33 fc, ar_i cI td 2048 fr] := hD
                      refine lv_aload_n hx hb dc_Vf_followsPositives_127 rfl (lv_at hl 1 rfl) ?_
                      refine lv_dup hx hb dc_Vf_followsPositives_128 rfl ?_
                      refine va_get (ci := 8) (v := .int (nI nk)) (C := rn_Vf) (T := fd_Vf) (N := 7) hx hb hts in_Vf hown hK hP 0 rfl rfl 5 (by decide) (hts _ wd_682) (fun _ h9 => h9) rfl dc_Vf_followsPositives_129 ?_
                      refine lv_iconst (v := nI 1) hx hb dc_Vf_followsPositives_132 (by decide +kernel) ?_
                      refine kn_iadd hx hb dc_Vf_followsPositives_133 ?_
                      refine va_put (ci := 8) (v := .int (nI (nk + 1))) (ty := .int) (C := rn_Vf) (T := fd_Vf) (N := 7) hx hb hts in_Vf ty_Vf tk_Vf nm_Vf hown hK hP hD hS 0 rfl rfl 5 (by decide) (hts _ wd_682) (fun _ h9 => h9) rfl (by decide +kernel) rfl rfl (Nat.le_of_ble_eq_true rfl) dc_Vf_followsPositives_134 (fun H locs hP hD hS => ?_)
                      have hP : va_P D kc_l [vf_c o xc xs xt xa lv (nk + 1) true, cl_c xc ca cb cd cn, ar_n cI ca 33 fz, ar_n cI cb 33 fs, ar_i cI cd (33 * 8) fl, as_c xa aa ab n1 t1 f1, ar_n cI aa 8 rs1, ar_n cI ab 8 im1, tr_c xt ta tb td g mk ckd, ar_n cI ta 33 ft, ar_n cI tb 33 fc, ar_i cI td 2048 fr] H := hP
                      have hD : va_D A [vf_c o xc xs xt xa lv (nk + 1) true, cl_c xc ca cb cd cn, ar_n cI ca 33 fz, ar_n cI cb 33 fs, ar_i cI cd (33 * 8) fl, as_c xa aa ab n1 t1 f1, ar_n cI aa 8 rs1, ar_n cI ab 8 im1, tr_c xt ta tb td g mk ckd, ar_n cI ta 33 ft, ar_n cI tb 33 fc, ar_i cI td 2048 fr] := hD
                      refine lv_goto hx hb dc_Vf_followsPositives_137 rfl ?_
                      have hl := lv_sub (l' := [(0, .ref o), (1, .int (nI j))]) hl [1, 2] rfl
                      exact ih _ _ _ _ _ _ _ _ _ _ (by omega) hP hD hS hl (by rw [← h1]; exact (fp_cf (by omega) hc32 hcl hnb hy0).symm) (⟨by omega, by omega⟩) (h3)
                  · obtain ⟨hn8, hy16, hcap2⟩ := cap_step h3 (h16 h) hc93 hy0
                    refine kw_call1 (wr := [vf_c o xc xs xt xa lv nk ck1, cl_c xc ca cb cd cn, ar_n cI ca 33 fz, ar_n cI cb 33 fs, ar_i cI cd (33 * 8) fl, tr_c xt ta tb td g mk ckd, ar_n cI ta 33 ft, ar_n cI tb 33 fc, ar_i cI td 2048 fr]) (ws' := [vf_c o xc xs xt xa lv nk ck1, cl_c xc ca cb cd cn, ar_n cI ca 33 fz, ar_n cI cb 33 fs, ar_i cI cd (33 * 8) fl, as_c xa aa ab (n1 + 1) (t1 ||| nb_d (fs h) f1) (f1 ||| nb_op (nb_d (fs h) f1)), ar_n cI aa 8 (va_up rs1 n1 h), ar_n cI ab 8 (va_up im1 n1 (nb_d (fs h) f1)), tr_c xt ta tb td g mk ckd, ar_n cI ta 33 ft, ar_n cI tb 33 fc, ar_i cI td 2048 fr]) (va_runV (As := [.int (nI (fs h)), .int (nI h)]) (rest := [.ref o]) ⟨hx, hb, hml, hown, hts⟩ (ct_As_follow l D cI cZ _ xa aa ab n1 t1 f1 rs1 im1 (fs h) h (h16 _) (hy0) (hn8)) (cwV 2 hts (kx_gV wd_721 wd_633 wd_634 wd_8 wd_635) rfl rfl rfl ⟨rfl, yd_As_follow⟩ ⟨Nat.le_of_ble_eq_true rfl, Nat.le_of_ble_eq_true rfl⟩) (kp_V (q0 := 5) (ci := 6) hP hD hK hN [5, 6, 7] rfl rfl rfl rfl rfl) rfl rfl hl.1 rfl (lv_room (Nat.le_of_ble_eq_true rfl)) dc_Vf_followsPositives_113 ⟨Nat.le_of_ble_eq_true rfl, Nat.le_of_ble_eq_true rfl⟩) hP hD hS hA [5, 6, 7] [0, 1, 2, 3, 4, 8, 9, 10, 11] [0, 1, 2, 3, 4, 9, 10, 11, 5, 6, 7, 8] rfl rfl rfl (by decide) rfl rfl (fun H locs hP hD hS => ?_)
                    refine kb_if_ne hx hb dc_Vf_followsPositives_116 rfl (fun hc116 => ?_) (fun hc116 => ?_)
                    · refine lv_iconst (v := nI 0) hx hb dc_Vf_followsPositives_123 (by decide +kernel) ?_
                      refine kn_top (y := kb_i false) (by decide +kernel) ?_
                      refine va_put (ci := 8) (v := .int (kb_i false)) (ty := .boolean) (C := rn_Vf) (T := fd_Vf) (N := 7) hx hb hts in_Vf ty_Vf tk_Vf nm_Vf hown hK hP hD hS 0 rfl rfl 6 (by decide) (hts _ wd_683) (fun _ h9 => h9) rfl (by decide +kernel) (kb_nar _) (kb_fit _) (Nat.le_of_ble_eq_true rfl) dc_Vf_followsPositives_124 (fun H locs hP hD hS => ?_)
                      have hP : va_P D kc_l [vf_c o xc xs xt xa lv nk false, cl_c xc ca cb cd cn, ar_n cI ca 33 fz, ar_n cI cb 33 fs, ar_i cI cd (33 * 8) fl, as_c xa aa ab (n1 + 1) (t1 ||| nb_d (fs h) f1) (f1 ||| nb_op (nb_d (fs h) f1)), ar_n cI aa 8 (va_up rs1 n1 h), ar_n cI ab 8 (va_up im1 n1 (nb_d (fs h) f1)), tr_c xt ta tb td g mk ckd, ar_n cI ta 33 ft, ar_n cI tb 33 fc, ar_i cI td 2048 fr] H := hP
                      have hD : va_D A [vf_c o xc xs xt xa lv nk false, cl_c xc ca cb cd cn, ar_n cI ca 33 fz, ar_n cI cb 33 fs, ar_i cI cd (33 * 8) fl, as_c xa aa ab (n1 + 1) (t1 ||| nb_d (fs h) f1) (f1 ||| nb_op (nb_d (fs h) f1)), ar_n cI aa 8 (va_up rs1 n1 h), ar_n cI ab 8 (va_up im1 n1 (nb_d (fs h) f1)), tr_c xt ta tb td g mk ckd, ar_n cI ta 33 ft, ar_n cI tb 33 fc, ar_i cI td 2048 fr] := hD
                      refine lv_aload_n hx hb dc_Vf_followsPositives_127 rfl (lv_at hl 1 rfl) ?_
                      refine lv_dup hx hb dc_Vf_followsPositives_128 rfl ?_
                      refine va_get (ci := 8) (v := .int (nI nk)) (C := rn_Vf) (T := fd_Vf) (N := 7) hx hb hts in_Vf hown hK hP 0 rfl rfl 5 (by decide) (hts _ wd_682) (fun _ h9 => h9) rfl dc_Vf_followsPositives_129 ?_
                      refine lv_iconst (v := nI 1) hx hb dc_Vf_followsPositives_132 (by decide +kernel) ?_
                      refine kn_iadd hx hb dc_Vf_followsPositives_133 ?_
                      refine va_put (ci := 8) (v := .int (nI (nk + 1))) (ty := .int) (C := rn_Vf) (T := fd_Vf) (N := 7) hx hb hts in_Vf ty_Vf tk_Vf nm_Vf hown hK hP hD hS 0 rfl rfl 5 (by decide) (hts _ wd_682) (fun _ h9 => h9) rfl (by decide +kernel) rfl rfl (Nat.le_of_ble_eq_true rfl) dc_Vf_followsPositives_134 (fun H locs hP hD hS => ?_)
                      have hP : va_P D kc_l [vf_c o xc xs xt xa lv (nk + 1) false, cl_c xc ca cb cd cn, ar_n cI ca 33 fz, ar_n cI cb 33 fs, ar_i cI cd (33 * 8) fl, as_c xa aa ab (n1 + 1) (t1 ||| nb_d (fs h) f1) (f1 ||| nb_op (nb_d (fs h) f1)), ar_n cI aa 8 (va_up rs1 n1 h), ar_n cI ab 8 (va_up im1 n1 (nb_d (fs h) f1)), tr_c xt ta tb td g mk ckd, ar_n cI ta 33 ft, ar_n cI tb 33 fc, ar_i cI td 2048 fr] H := hP
                      have hD : va_D A [vf_c o xc xs xt xa lv (nk + 1) false, cl_c xc ca cb cd cn, ar_n cI ca 33 fz, ar_n cI cb 33 fs, ar_i cI cd (33 * 8) fl, as_c xa aa ab (n1 + 1) (t1 ||| nb_d (fs h) f1) (f1 ||| nb_op (nb_d (fs h) f1)), ar_n cI aa 8 (va_up rs1 n1 h), ar_n cI ab 8 (va_up im1 n1 (nb_d (fs h) f1)), tr_c xt ta tb td g mk ckd, ar_n cI ta 33 ft, ar_n cI tb 33 fc, ar_i cI td 2048 fr] := hD
                      refine lv_goto hx hb dc_Vf_followsPositives_137 rfl ?_
                      have hl := lv_sub (l' := [(0, .ref o), (1, .int (nI j))]) hl [1, 2] rfl
                      exact ih _ _ _ _ _ _ _ _ _ _ (by omega) hP hD hS hl (by rw [← h1]; exact (fp_go (by omega) hc32 hcl hnb hy0).symm) (⟨by omega, by omega⟩) (hcap2)
                    · exact absurd hc116 (by decide)
                · refine lv_iconst (v := nI 0) hx hb dc_Vf_followsPositives_96 (by decide +kernel) ?_
                  refine kn_top (y := kb_i false) (by decide +kernel) ?_
                  exact kw_zret hx hb hr hlocks hP hD hS dc_Vf_followsPositives_97 (by rw [← h1, fp_bad (by omega) hc32 hcl (Or.inr (Or.inr (Or.inr hc93)))]) (by rw [← h1, fp_bad (by omega) hc32 hcl (Or.inr (Or.inr (Or.inr hc93)))])
  exact lp_5 _ _ _ _ _ _ _ _ _ _ _ (Nat.lt_succ_self _) hP hD hS hl (rfl) (⟨by omega, by omega⟩) (hcap)
end
section
/-! the other way: partners, a clause, all of them -/
theorem hv_lt {ft fc : Nat → Nat} {fr : Nat → Int32} {j k : Nat} (h : ¬ pt_hv ft fc fr j k = 0) : k < pt_hc fc j := by
  unfold pt_hv at h
  by_cases hk : k < pt_hc fc j
  · exact hk
  · rw [if_neg hk] at h; exact absurd rfl h
theorem neg_n0 : ∀ p, p < 33 → 1 ≤ p → ¬ -nI p = 0 := by decide +kernel
section VP
variable {fs : Nat → Nat} {lv cn pv rc : Nat} {hv : Nat → Int32} {hc p nx : Nat} {cf : Bool} {n t f : Nat} {rs im : Nat → Nat}
theorem vp_no (h : p ≤ cn) (hp : lv.testBit p = false ∨ fs p &&& pv = 0) : pt_vp fs lv cn pv rc hv hc (cn + 1 - p) p nx cf n t f rs im = pt_vp fs lv cn pv rc hv hc (cn + 1 - (p + 1)) (p + 1) nx cf n t f rs im := by
  rw [show cn + 1 - p = (cn + 1 - (p + 1)) + 1 by omega, pt_vp, if_pos hp]
theorem vp_hint (h : p ≤ cn) (hp : ¬ (lv.testBit p = false ∨ fs p &&& pv = 0)) (hh : ¬ hv nx = -nI p) : pt_vp fs lv cn pv rc hv hc (cn + 1 - p) p nx cf n t f rs im = (false, nx, cf, n, t, f, rs, im) := by
  rw [show cn + 1 - p = (cn + 1 - (p + 1)) + 1 by omega, pt_vp, if_neg hp, if_pos hh]
theorem vp_true (h : p ≤ cn) (hp : ¬ (lv.testBit p = false ∨ fs p &&& pv = 0)) (hh : hv nx = -nI p) (ho : ¬ nb_d (fs p) pv &&& rc = 0) : pt_vp fs lv cn pv rc hv hc (cn + 1 - p) p nx cf n t f rs im = pt_vp fs lv cn pv rc hv hc (cn + 1 - (p + 1)) (p + 1) (nx + 1) cf n t f rs im := by
  rw [show cn + 1 - p = (cn + 1 - (p + 1)) + 1 by omega, pt_vp, if_neg hp, if_neg (fun q => q hh), if_pos ho]
theorem vp_go (h : p ≤ cn) (hp : ¬ (lv.testBit p = false ∨ fs p &&& pv = 0)) (hh : hv nx = -nI p) (ho : nb_d (fs p) pv &&& rc = 0) {Z : pt_V} (hZ : pt_fp fs lv cn hv (hc - (nx + 1)) (nx + 1) false 0 (rc ||| nb_op (nb_d (fs p) pv)) (nb_op (rc ||| nb_op (nb_d (fs p) pv))) rs im = Z) (h1 : Z.1 = true ∧ Z.2.2.1 = true) : pt_vp fs lv cn pv rc hv hc (cn + 1 - p) p nx cf n t f rs im = pt_vp fs lv cn pv rc hv hc (cn + 1 - (p + 1)) (p + 1) Z.2.1 Z.2.2.1 Z.2.2.2.1 Z.2.2.2.2.1 Z.2.2.2.2.2.1 Z.2.2.2.2.2.2.1 Z.2.2.2.2.2.2.2 := by
  subst hZ
  rw [show cn + 1 - p = (cn + 1 - (p + 1)) + 1 by omega, pt_vp, if_neg hp, if_neg (fun q => q hh), if_neg (fun q => q ho)]
  dsimp only
  rw [if_pos h1]
theorem vp_bad (h : p ≤ cn) (hp : ¬ (lv.testBit p = false ∨ fs p &&& pv = 0)) (hh : hv nx = -nI p) (ho : nb_d (fs p) pv &&& rc = 0) {Z : pt_V} (hZ : pt_fp fs lv cn hv (hc - (nx + 1)) (nx + 1) false 0 (rc ||| nb_op (nb_d (fs p) pv)) (nb_op (rc ||| nb_op (nb_d (fs p) pv))) rs im = Z) (h1 : ¬ (Z.1 = true ∧ Z.2.2.1 = true)) : pt_vp fs lv cn pv rc hv hc (cn + 1 - p) p nx cf n t f rs im = (false, Z.2) := by
  subst hZ
  rw [show cn + 1 - p = (cn + 1 - (p + 1)) + 1 by omega, pt_vp, if_neg hp, if_neg (fun q => q hh), if_neg (fun q => q ho)]
  dsimp only
  rw [if_neg h1]
theorem vp_en (h : cn < p) : pt_vp fs lv cn pv rc hv hc (cn + 1 - p) p nx cf n t f rs im = (true, nx, cf, n, t, f, rs, im) := by
  rw [show cn + 1 - p = 0 by omega, pt_vp]
end VP
abbrev pt_U : Type := Nat × Nat × Nat × Bool × Nat × Nat × Nat × (Nat → Nat) × (Nat → Nat)
/-- all steps, k of them from step i on: the first bad clause or 0 -/
def pt_fb (fs fz pb : Nat → Nat) (cn : Nat) (dl : Nat → Bool) (nu : Nat → Nat) (ma : Nat) (ft fc : Nat → Nat) (fr : Nat → Int32) : Nat → Nat → Nat → Nat → Bool → Nat → Nat → Nat → (Nat → Nat) → (Nat → Nat) → pt_U
  | 0, _, lv, nx, cf, n, t, f, rs, im => (0, lv, nx, cf, n, t, f, rs, im)
  | k + 1, i, lv, nx, cf, n, t, f, rs, im =>
    if dl i = true then pt_fb fs fz pb cn dl nu ma ft fc fr k (i + 1) (nb_d lv (2 ^ nu i)) nx cf n t f rs im
    else if ma.testBit (nu i) = false then pt_fb fs fz pb cn dl nu ma ft fc fr k (i + 1) lv nx cf n t f rs im
    else
      let Y := pt_good fs lv cn (fz (nu i)) (pb (nu i)) (fs (nu i)) (fun k => pt_hv ft fc fr (nu i) k) (pt_hc fc (nu i)) rs im
      if Y.1 = true then pt_fb fs fz pb cn dl nu ma ft fc fr k (i + 1) (lv ||| 2 ^ nu i) Y.2.1 Y.2.2.1 Y.2.2.2.1 Y.2.2.2.2.1 Y.2.2.2.2.2.1 Y.2.2.2.2.2.2.1 Y.2.2.2.2.2.2.2
      else (nu i, lv, Y.2)

theorem dc_Vf_followsPartners_0 : decode bc_Vf_followsPartners 0 = .ok (.aload_n 0, 1) := by decide +kernel
theorem dc_Vf_followsPartners_1 : decode bc_Vf_followsPartners 1 = .ok (.getfield 21, 3) := by decide +kernel
theorem dc_Vf_followsPartners_4 : decode bc_Vf_followsPartners 4 = .ok (.getfield 101, 3) := by decide +kernel
theorem dc_Vf_followsPartners_7 : decode bc_Vf_followsPartners 7 = .ok (.istore_n 2, 1) := by decide +kernel
theorem dc_Vf_followsPartners_8 : decode bc_Vf_followsPartners 8 = .ok (.aload_n 0, 1) := by decide +kernel
theorem dc_Vf_followsPartners_9 : decode bc_Vf_followsPartners 9 = .ok (.getfield 7, 3) := by decide +kernel
theorem dc_Vf_followsPartners_12 : decode bc_Vf_followsPartners 12 = .ok (.iload_n 1, 1) := by decide +kernel
theorem dc_Vf_followsPartners_13 : decode bc_Vf_followsPartners 13 = .ok (.iconst 0, 1) := by decide +kernel
theorem dc_Vf_followsPartners_14 : decode bc_Vf_followsPartners 14 = .ok (.invokevirtual 104, 3) := by decide +kernel
theorem dc_Vf_followsPartners_17 : decode bc_Vf_followsPartners 17 = .ok (.ineg, 1) := by decide +kernel
theorem dc_Vf_followsPartners_18 : decode bc_Vf_followsPartners 18 = .ok (.invokestatic 108, 3) := by decide +kernel
theorem dc_Vf_followsPartners_21 : decode bc_Vf_followsPartners 21 = .ok (.istore_n 3, 1) := by decide +kernel
theorem dc_Vf_followsPartners_22 : decode bc_Vf_followsPartners 22 = .ok (.iconst 1, 1) := by decide +kernel
theorem dc_Vf_followsPartners_23 : decode bc_Vf_followsPartners 23 = .ok (.istore 4, 2) := by decide +kernel
theorem dc_Vf_followsPartners_25 : decode bc_Vf_followsPartners 25 = .ok (.iload 4, 2) := by decide +kernel
theorem dc_Vf_followsPartners_27 : decode bc_Vf_followsPartners 27 = .ok (.aload_n 0, 1) := by decide +kernel
theorem dc_Vf_followsPartners_28 : decode bc_Vf_followsPartners 28 = .ok (.getfield 7, 3) := by decide +kernel
theorem dc_Vf_followsPartners_31 : decode bc_Vf_followsPartners 31 = .ok (.getfield 111, 3) := by decide +kernel
theorem dc_Vf_followsPartners_34 : decode bc_Vf_followsPartners 34 = .ok (.if_icmp .gt (127), 3) := by decide +kernel
theorem dc_Vf_followsPartners_37 : decode bc_Vf_followsPartners 37 = .ok (.aload_n 0, 1) := by decide +kernel
theorem dc_Vf_followsPartners_38 : decode bc_Vf_followsPartners 38 = .ok (.getfield 31, 3) := by decide +kernel
theorem dc_Vf_followsPartners_41 : decode bc_Vf_followsPartners 41 = .ok (.iload 4, 2) := by decide +kernel
theorem dc_Vf_followsPartners_43 : decode bc_Vf_followsPartners 43 = .ok (.invokestatic 59, 3) := by decide +kernel
theorem dc_Vf_followsPartners_46 : decode bc_Vf_followsPartners 46 = .ok (.ifCond .eq (109), 3) := by decide +kernel
theorem dc_Vf_followsPartners_49 : decode bc_Vf_followsPartners 49 = .ok (.aload_n 0, 1) := by decide +kernel
theorem dc_Vf_followsPartners_50 : decode bc_Vf_followsPartners 50 = .ok (.getfield 7, 3) := by decide +kernel
theorem dc_Vf_followsPartners_53 : decode bc_Vf_followsPartners 53 = .ok (.getfield 70, 3) := by decide +kernel
theorem dc_Vf_followsPartners_56 : decode bc_Vf_followsPartners 56 = .ok (.iload 4, 2) := by decide +kernel
theorem dc_Vf_followsPartners_58 : decode bc_Vf_followsPartners 58 = .ok (.iaload, 1) := by decide +kernel
theorem dc_Vf_followsPartners_59 : decode bc_Vf_followsPartners 59 = .ok (.iload_n 3, 1) := by decide +kernel
theorem dc_Vf_followsPartners_60 : decode bc_Vf_followsPartners 60 = .ok (.iand, 1) := by decide +kernel
theorem dc_Vf_followsPartners_61 : decode bc_Vf_followsPartners 61 = .ok (.ifCond .ne (6), 3) := by decide +kernel
theorem dc_Vf_followsPartners_64 : decode bc_Vf_followsPartners 64 = .ok (.goto (91), 3) := by decide +kernel
theorem dc_Vf_followsPartners_67 : decode bc_Vf_followsPartners 67 = .ok (.aload_n 0, 1) := by decide +kernel
theorem dc_Vf_followsPartners_68 : decode bc_Vf_followsPartners 68 = .ok (.getfield 17, 3) := by decide +kernel
theorem dc_Vf_followsPartners_71 : decode bc_Vf_followsPartners 71 = .ok (.iload_n 1, 1) := by decide +kernel
theorem dc_Vf_followsPartners_72 : decode bc_Vf_followsPartners 72 = .ok (.aload_n 0, 1) := by decide +kernel
theorem dc_Vf_followsPartners_73 : decode bc_Vf_followsPartners 73 = .ok (.getfield 67, 3) := by decide +kernel
theorem dc_Vf_followsPartners_76 : decode bc_Vf_followsPartners 76 = .ok (.invokevirtual 112, 3) := by decide +kernel
theorem dc_Vf_followsPartners_79 : decode bc_Vf_followsPartners 79 = .ok (.iload 4, 2) := by decide +kernel
theorem dc_Vf_followsPartners_81 : decode bc_Vf_followsPartners 81 = .ok (.ineg, 1) := by decide +kernel
theorem dc_Vf_followsPartners_82 : decode bc_Vf_followsPartners 82 = .ok (.if_icmp .eq (5), 3) := by decide +kernel
theorem dc_Vf_followsPartners_85 : decode bc_Vf_followsPartners 85 = .ok (.iconst 0, 1) := by decide +kernel
theorem dc_Vf_followsPartners_86 : decode bc_Vf_followsPartners 86 = .ok (.ireturn, 1) := by decide +kernel
theorem dc_Vf_followsPartners_87 : decode bc_Vf_followsPartners 87 = .ok (.aload_n 0, 1) := by decide +kernel
theorem dc_Vf_followsPartners_88 : decode bc_Vf_followsPartners 88 = .ok (.dup, 1) := by decide +kernel
theorem dc_Vf_followsPartners_89 : decode bc_Vf_followsPartners 89 = .ok (.getfield 67, 3) := by decide +kernel
theorem dc_Vf_followsPartners_92 : decode bc_Vf_followsPartners 92 = .ok (.iconst 1, 1) := by decide +kernel
theorem dc_Vf_followsPartners_93 : decode bc_Vf_followsPartners 93 = .ok (.iadd, 1) := by decide +kernel
theorem dc_Vf_followsPartners_94 : decode bc_Vf_followsPartners 94 = .ok (.putfield 67, 3) := by decide +kernel
theorem dc_Vf_followsPartners_97 : decode bc_Vf_followsPartners 97 = .ok (.aload_n 0, 1) := by decide +kernel
theorem dc_Vf_followsPartners_98 : decode bc_Vf_followsPartners 98 = .ok (.getfield 7, 3) := by decide +kernel
theorem dc_Vf_followsPartners_101 : decode bc_Vf_followsPartners 101 = .ok (.getfield 70, 3) := by decide +kernel
theorem dc_Vf_followsPartners_104 : decode bc_Vf_followsPartners 104 = .ok (.iload 4, 2) := by decide +kernel
theorem dc_Vf_followsPartners_106 : decode bc_Vf_followsPartners 106 = .ok (.iaload, 1) := by decide +kernel
theorem dc_Vf_followsPartners_107 : decode bc_Vf_followsPartners 107 = .ok (.iload_n 3, 1) := by decide +kernel
theorem dc_Vf_followsPartners_108 : decode bc_Vf_followsPartners 108 = .ok (.iconst (-1), 1) := by decide +kernel
theorem dc_Vf_followsPartners_109 : decode bc_Vf_followsPartners 109 = .ok (.ixor, 1) := by decide +kernel
theorem dc_Vf_followsPartners_110 : decode bc_Vf_followsPartners 110 = .ok (.iand, 1) := by decide +kernel
theorem dc_Vf_followsPartners_111 : decode bc_Vf_followsPartners 111 = .ok (.istore 5, 2) := by decide +kernel
theorem dc_Vf_followsPartners_113 : decode bc_Vf_followsPartners 113 = .ok (.iload 5, 2) := by decide +kernel
theorem dc_Vf_followsPartners_115 : decode bc_Vf_followsPartners 115 = .ok (.iload_n 2, 1) := by decide +kernel
theorem dc_Vf_followsPartners_116 : decode bc_Vf_followsPartners 116 = .ok (.iand, 1) := by decide +kernel
theorem dc_Vf_followsPartners_117 : decode bc_Vf_followsPartners 117 = .ok (.ifCond .eq (6), 3) := by decide +kernel
theorem dc_Vf_followsPartners_120 : decode bc_Vf_followsPartners 120 = .ok (.goto (35), 3) := by decide +kernel
theorem dc_Vf_followsPartners_123 : decode bc_Vf_followsPartners 123 = .ok (.aload_n 0, 1) := by decide +kernel
theorem dc_Vf_followsPartners_124 : decode bc_Vf_followsPartners 124 = .ok (.getfield 21, 3) := by decide +kernel
theorem dc_Vf_followsPartners_127 : decode bc_Vf_followsPartners 127 = .ok (.iload_n 2, 1) := by decide +kernel
theorem dc_Vf_followsPartners_128 : decode bc_Vf_followsPartners 128 = .ok (.iload 5, 2) := by decide +kernel
theorem dc_Vf_followsPartners_130 : decode bc_Vf_followsPartners 130 = .ok (.invokestatic 75, 3) := by decide +kernel
theorem dc_Vf_followsPartners_133 : decode bc_Vf_followsPartners 133 = .ok (.ior, 1) := by decide +kernel
theorem dc_Vf_followsPartners_134 : decode bc_Vf_followsPartners 134 = .ok (.iconst 0, 1) := by decide +kernel
theorem dc_Vf_followsPartners_135 : decode bc_Vf_followsPartners 135 = .ok (.invokevirtual 79, 3) := by decide +kernel
theorem dc_Vf_followsPartners_138 : decode bc_Vf_followsPartners 138 = .ok (.aload_n 0, 1) := by decide +kernel
theorem dc_Vf_followsPartners_139 : decode bc_Vf_followsPartners 139 = .ok (.iload_n 1, 1) := by decide +kernel
theorem dc_Vf_followsPartners_140 : decode bc_Vf_followsPartners 140 = .ok (.invokevirtual 85, 3) := by decide +kernel
theorem dc_Vf_followsPartners_143 : decode bc_Vf_followsPartners 143 = .ok (.ifCond .eq (10), 3) := by decide +kernel
theorem dc_Vf_followsPartners_146 : decode bc_Vf_followsPartners 146 = .ok (.aload_n 0, 1) := by decide +kernel
theorem dc_Vf_followsPartners_147 : decode bc_Vf_followsPartners 147 = .ok (.getfield 88, 3) := by decide +kernel
theorem dc_Vf_followsPartners_150 : decode bc_Vf_followsPartners 150 = .ok (.ifCond .ne (5), 3) := by decide +kernel
theorem dc_Vf_followsPartners_153 : decode bc_Vf_followsPartners 153 = .ok (.iconst 0, 1) := by decide +kernel
theorem dc_Vf_followsPartners_154 : decode bc_Vf_followsPartners 154 = .ok (.ireturn, 1) := by decide +kernel
theorem dc_Vf_followsPartners_155 : decode bc_Vf_followsPartners 155 = .ok (.iinc 4 (1), 3) := by decide +kernel
theorem dc_Vf_followsPartners_158 : decode bc_Vf_followsPartners 158 = .ok (.goto (-133), 3) := by decide +kernel
theorem dc_Vf_followsPartners_161 : decode bc_Vf_followsPartners 161 = .ok (.iconst 1, 1) := by decide +kernel
theorem dc_Vf_followsPartners_162 : decode bc_Vf_followsPartners 162 = .ok (.ireturn, 1) := by decide +kernel
theorem dc_Vf_isGood_0 : decode bc_Vf_isGood 0 = .ok (.aload_n 0, 1) := by decide +kernel
theorem dc_Vf_isGood_1 : decode bc_Vf_isGood 1 = .ok (.iconst 0, 1) := by decide +kernel
theorem dc_Vf_isGood_2 : decode bc_Vf_isGood 2 = .ok (.putfield 67, 3) := by decide +kernel
theorem dc_Vf_isGood_5 : decode bc_Vf_isGood 5 = .ok (.aload_n 0, 1) := by decide +kernel
theorem dc_Vf_isGood_6 : decode bc_Vf_isGood 6 = .ok (.getfield 21, 3) := by decide +kernel
theorem dc_Vf_isGood_9 : decode bc_Vf_isGood 9 = .ok (.aload_n 0, 1) := by decide +kernel
theorem dc_Vf_isGood_10 : decode bc_Vf_isGood 10 = .ok (.getfield 7, 3) := by decide +kernel
theorem dc_Vf_isGood_13 : decode bc_Vf_isGood 13 = .ok (.getfield 70, 3) := by decide +kernel
theorem dc_Vf_isGood_16 : decode bc_Vf_isGood 16 = .ok (.iload_n 1, 1) := by decide +kernel
theorem dc_Vf_isGood_17 : decode bc_Vf_isGood 17 = .ok (.iaload, 1) := by decide +kernel
theorem dc_Vf_isGood_18 : decode bc_Vf_isGood 18 = .ok (.invokestatic 75, 3) := by decide +kernel
theorem dc_Vf_isGood_21 : decode bc_Vf_isGood 21 = .ok (.iconst 0, 1) := by decide +kernel
theorem dc_Vf_isGood_22 : decode bc_Vf_isGood 22 = .ok (.invokevirtual 79, 3) := by decide +kernel
theorem dc_Vf_isGood_25 : decode bc_Vf_isGood 25 = .ok (.aload_n 0, 1) := by decide +kernel
theorem dc_Vf_isGood_26 : decode bc_Vf_isGood 26 = .ok (.iload_n 1, 1) := by decide +kernel
theorem dc_Vf_isGood_27 : decode bc_Vf_isGood 27 = .ok (.invokevirtual 85, 3) := by decide +kernel
theorem dc_Vf_isGood_30 : decode bc_Vf_isGood 30 = .ok (.ifCond .ne (5), 3) := by decide +kernel
theorem dc_Vf_isGood_33 : decode bc_Vf_isGood 33 = .ok (.iconst 0, 1) := by decide +kernel
theorem dc_Vf_isGood_34 : decode bc_Vf_isGood 34 = .ok (.ireturn, 1) := by decide +kernel
theorem dc_Vf_isGood_35 : decode bc_Vf_isGood 35 = .ok (.aload_n 0, 1) := by decide +kernel
theorem dc_Vf_isGood_36 : decode bc_Vf_isGood 36 = .ok (.getfield 88, 3) := by decide +kernel
theorem dc_Vf_isGood_39 : decode bc_Vf_isGood 39 = .ok (.ifCond .ne (25), 3) := by decide +kernel
theorem dc_Vf_isGood_42 : decode bc_Vf_isGood 42 = .ok (.aload_n 0, 1) := by decide +kernel
theorem dc_Vf_isGood_43 : decode bc_Vf_isGood 43 = .ok (.getfield 7, 3) := by decide +kernel
theorem dc_Vf_isGood_46 : decode bc_Vf_isGood 46 = .ok (.getfield 92, 3) := by decide +kernel
theorem dc_Vf_isGood_49 : decode bc_Vf_isGood 49 = .ok (.iload_n 1, 1) := by decide +kernel
theorem dc_Vf_isGood_50 : decode bc_Vf_isGood 50 = .ok (.iaload, 1) := by decide +kernel
theorem dc_Vf_isGood_51 : decode bc_Vf_isGood 51 = .ok (.ifCond .eq (11), 3) := by decide +kernel
theorem dc_Vf_isGood_54 : decode bc_Vf_isGood 54 = .ok (.aload_n 0, 1) := by decide +kernel
theorem dc_Vf_isGood_55 : decode bc_Vf_isGood 55 = .ok (.iload_n 1, 1) := by decide +kernel
theorem dc_Vf_isGood_56 : decode bc_Vf_isGood 56 = .ok (.invokevirtual 95, 3) := by decide +kernel
theorem dc_Vf_isGood_59 : decode bc_Vf_isGood 59 = .ok (.ifCond .ne (5), 3) := by decide +kernel
theorem dc_Vf_isGood_62 : decode bc_Vf_isGood 62 = .ok (.iconst 0, 1) := by decide +kernel
theorem dc_Vf_isGood_63 : decode bc_Vf_isGood 63 = .ok (.ireturn, 1) := by decide +kernel
theorem dc_Vf_isGood_64 : decode bc_Vf_isGood 64 = .ok (.aload_n 0, 1) := by decide +kernel
theorem dc_Vf_isGood_65 : decode bc_Vf_isGood 65 = .ok (.getfield 67, 3) := by decide +kernel
theorem dc_Vf_isGood_68 : decode bc_Vf_isGood 68 = .ok (.aload_n 0, 1) := by decide +kernel
theorem dc_Vf_isGood_69 : decode bc_Vf_isGood 69 = .ok (.getfield 17, 3) := by decide +kernel
theorem dc_Vf_isGood_72 : decode bc_Vf_isGood 72 = .ok (.iload_n 1, 1) := by decide +kernel
theorem dc_Vf_isGood_73 : decode bc_Vf_isGood 73 = .ok (.invokevirtual 98, 3) := by decide +kernel
theorem dc_Vf_isGood_76 : decode bc_Vf_isGood 76 = .ok (.if_icmp .ne (7), 3) := by decide +kernel
theorem dc_Vf_isGood_79 : decode bc_Vf_isGood 79 = .ok (.iconst 1, 1) := by decide +kernel
theorem dc_Vf_isGood_80 : decode bc_Vf_isGood 80 = .ok (.goto (4), 3) := by decide +kernel
theorem dc_Vf_isGood_83 : decode bc_Vf_isGood 83 = .ok (.iconst 0, 1) := by decide +kernel
theorem dc_Vf_isGood_84 : decode bc_Vf_isGood 84 = .ok (.ireturn, 1) := by decide +kernel
theorem dc_Vf_firstBad_0 : decode bc_Vf_firstBad 0 = .ok (.aload_n 0, 1) := by decide +kernel
theorem dc_Vf_firstBad_1 : decode bc_Vf_firstBad 1 = .ok (.iload_n 1, 1) := by decide +kernel
theorem dc_Vf_firstBad_2 : decode bc_Vf_firstBad 2 = .ok (.invokestatic 25, 3) := by decide +kernel
theorem dc_Vf_firstBad_5 : decode bc_Vf_firstBad 5 = .ok (.putfield 31, 3) := by decide +kernel
theorem dc_Vf_firstBad_8 : decode bc_Vf_firstBad 8 = .ok (.iconst 1, 1) := by decide +kernel
theorem dc_Vf_firstBad_9 : decode bc_Vf_firstBad 9 = .ok (.istore_n 2, 1) := by decide +kernel
theorem dc_Vf_firstBad_10 : decode bc_Vf_firstBad 10 = .ok (.iload_n 2, 1) := by decide +kernel
theorem dc_Vf_firstBad_11 : decode bc_Vf_firstBad 11 = .ok (.aload_n 0, 1) := by decide +kernel
theorem dc_Vf_firstBad_12 : decode bc_Vf_firstBad 12 = .ok (.getfield 13, 3) := by decide +kernel
theorem dc_Vf_firstBad_15 : decode bc_Vf_firstBad 15 = .ok (.getfield 35, 3) := by decide +kernel
theorem dc_Vf_firstBad_18 : decode bc_Vf_firstBad 18 = .ok (.if_icmp .gt (88), 3) := by decide +kernel
theorem dc_Vf_firstBad_21 : decode bc_Vf_firstBad 21 = .ok (.aload_n 0, 1) := by decide +kernel
theorem dc_Vf_firstBad_22 : decode bc_Vf_firstBad 22 = .ok (.getfield 13, 3) := by decide +kernel
theorem dc_Vf_firstBad_25 : decode bc_Vf_firstBad 25 = .ok (.getfield 41, 3) := by decide +kernel
theorem dc_Vf_firstBad_28 : decode bc_Vf_firstBad 28 = .ok (.iload_n 2, 1) := by decide +kernel
theorem dc_Vf_firstBad_29 : decode bc_Vf_firstBad 29 = .ok (.iaload, 1) := by decide +kernel
theorem dc_Vf_firstBad_30 : decode bc_Vf_firstBad 30 = .ok (.istore_n 3, 1) := by decide +kernel
theorem dc_Vf_firstBad_31 : decode bc_Vf_firstBad 31 = .ok (.aload_n 0, 1) := by decide +kernel
theorem dc_Vf_firstBad_32 : decode bc_Vf_firstBad 32 = .ok (.getfield 13, 3) := by decide +kernel
theorem dc_Vf_firstBad_35 : decode bc_Vf_firstBad 35 = .ok (.getfield 45, 3) := by decide +kernel
theorem dc_Vf_firstBad_38 : decode bc_Vf_firstBad 38 = .ok (.iload_n 2, 1) := by decide +kernel
theorem dc_Vf_firstBad_39 : decode bc_Vf_firstBad 39 = .ok (.baload, 1) := by decide +kernel
theorem dc_Vf_firstBad_40 : decode bc_Vf_firstBad 40 = .ok (.ifCond .eq (23), 3) := by decide +kernel
theorem dc_Vf_firstBad_43 : decode bc_Vf_firstBad 43 = .ok (.aload_n 0, 1) := by decide +kernel
theorem dc_Vf_firstBad_44 : decode bc_Vf_firstBad 44 = .ok (.dup, 1) := by decide +kernel
theorem dc_Vf_firstBad_45 : decode bc_Vf_firstBad 45 = .ok (.getfield 31, 3) := by decide +kernel
theorem dc_Vf_firstBad_48 : decode bc_Vf_firstBad 48 = .ok (.iload_n 3, 1) := by decide +kernel
theorem dc_Vf_firstBad_49 : decode bc_Vf_firstBad 49 = .ok (.invokestatic 49, 3) := by decide +kernel
theorem dc_Vf_firstBad_52 : decode bc_Vf_firstBad 52 = .ok (.ldc2_w 52, 3) := by decide +kernel
theorem dc_Vf_firstBad_55 : decode bc_Vf_firstBad 55 = .ok (.lxor, 1) := by decide +kernel
theorem dc_Vf_firstBad_56 : decode bc_Vf_firstBad 56 = .ok (.land, 1) := by decide +kernel
theorem dc_Vf_firstBad_57 : decode bc_Vf_firstBad 57 = .ok (.putfield 31, 3) := by decide +kernel
theorem dc_Vf_firstBad_60 : decode bc_Vf_firstBad 60 = .ok (.goto (40), 3) := by decide +kernel
theorem dc_Vf_firstBad_63 : decode bc_Vf_firstBad 63 = .ok (.aload_n 0, 1) := by decide +kernel
theorem dc_Vf_firstBad_64 : decode bc_Vf_firstBad 64 = .ok (.getfield 17, 3) := by decide +kernel
theorem dc_Vf_firstBad_67 : decode bc_Vf_firstBad 67 = .ok (.getfield 54, 3) := by decide +kernel
theorem dc_Vf_firstBad_70 : decode bc_Vf_firstBad 70 = .ok (.iload_n 3, 1) := by decide +kernel
theorem dc_Vf_firstBad_71 : decode bc_Vf_firstBad 71 = .ok (.invokestatic 59, 3) := by decide +kernel
theorem dc_Vf_firstBad_74 : decode bc_Vf_firstBad 74 = .ok (.ifCond .eq (26), 3) := by decide +kernel
theorem dc_Vf_firstBad_77 : decode bc_Vf_firstBad 77 = .ok (.aload_n 0, 1) := by decide +kernel
theorem dc_Vf_firstBad_78 : decode bc_Vf_firstBad 78 = .ok (.iload_n 3, 1) := by decide +kernel
theorem dc_Vf_firstBad_79 : decode bc_Vf_firstBad 79 = .ok (.invokevirtual 63, 3) := by decide +kernel
theorem dc_Vf_firstBad_82 : decode bc_Vf_firstBad 82 = .ok (.ifCond .ne (5), 3) := by decide +kernel
theorem dc_Vf_firstBad_85 : decode bc_Vf_firstBad 85 = .ok (.iload_n 3, 1) := by decide +kernel
theorem dc_Vf_firstBad_86 : decode bc_Vf_firstBad 86 = .ok (.ireturn, 1) := by decide +kernel
theorem dc_Vf_firstBad_87 : decode bc_Vf_firstBad 87 = .ok (.aload_n 0, 1) := by decide +kernel
theorem dc_Vf_firstBad_88 : decode bc_Vf_firstBad 88 = .ok (.dup, 1) := by decide +kernel
theorem dc_Vf_firstBad_89 : decode bc_Vf_firstBad 89 = .ok (.getfield 31, 3) := by decide +kernel
theorem dc_Vf_firstBad_92 : decode bc_Vf_firstBad 92 = .ok (.iload_n 3, 1) := by decide +kernel
theorem dc_Vf_firstBad_93 : decode bc_Vf_firstBad 93 = .ok (.invokestatic 49, 3) := by decide +kernel
theorem dc_Vf_firstBad_96 : decode bc_Vf_firstBad 96 = .ok (.lor, 1) := by decide +kernel
theorem dc_Vf_firstBad_97 : decode bc_Vf_firstBad 97 = .ok (.putfield 31, 3) := by decide +kernel
theorem dc_Vf_firstBad_100 : decode bc_Vf_firstBad 100 = .ok (.iinc 2 (1), 3) := by decide +kernel
theorem dc_Vf_firstBad_103 : decode bc_Vf_firstBad 103 = .ok (.goto (-93), 3) := by decide +kernel
theorem dc_Vf_firstBad_106 : decode bc_Vf_firstBad 106 = .ok (.iconst 0, 1) := by decide +kernel
theorem dc_Vf_firstBad_107 : decode bc_Vf_firstBad 107 = .ok (.ireturn, 1) := by decide +kernel
theorem dc_Vf_init_0 : decode bc_Vf_init 0 = .ok (.aload_n 0, 1) := by decide +kernel
theorem dc_Vf_init_1 : decode bc_Vf_init 1 = .ok (.invokespecial 1, 3) := by decide +kernel
theorem dc_Vf_init_4 : decode bc_Vf_init 4 = .ok (.aload_n 0, 1) := by decide +kernel
theorem dc_Vf_init_5 : decode bc_Vf_init 5 = .ok (.aload_n 1, 1) := by decide +kernel
theorem dc_Vf_init_6 : decode bc_Vf_init 6 = .ok (.putfield 7, 3) := by decide +kernel
theorem dc_Vf_init_9 : decode bc_Vf_init 9 = .ok (.aload_n 0, 1) := by decide +kernel
theorem dc_Vf_init_10 : decode bc_Vf_init 10 = .ok (.aload_n 2, 1) := by decide +kernel
theorem dc_Vf_init_11 : decode bc_Vf_init 11 = .ok (.putfield 13, 3) := by decide +kernel
theorem dc_Vf_init_14 : decode bc_Vf_init 14 = .ok (.aload_n 0, 1) := by decide +kernel
theorem dc_Vf_init_15 : decode bc_Vf_init 15 = .ok (.aload_n 3, 1) := by decide +kernel
theorem dc_Vf_init_16 : decode bc_Vf_init 16 = .ok (.putfield 17, 3) := by decide +kernel
theorem dc_Vf_init_19 : decode bc_Vf_init 19 = .ok (.aload_n 0, 1) := by decide +kernel
theorem dc_Vf_init_20 : decode bc_Vf_init 20 = .ok (.aload 4, 2) := by decide +kernel
theorem dc_Vf_init_22 : decode bc_Vf_init 22 = .ok (.putfield 21, 3) := by decide +kernel
theorem dc_Vf_init_25 : decode bc_Vf_init 25 = .ok (.return_, 1) := by decide +kernel
set_option maxHeartbeats 4000000 in
set_option maxRecDepth 100000 in
theorem ct_Vf_followsPartners (l : Launch) (D : va_G) (cI cZ : ClassId) (sz : Nat) (o : Nat) (xc : Nat) (xs : Nat) (xt : Nat) (xa : Nat) (lv : Nat) (nx : Nat) (cf : Bool) (ca : Nat) (cb : Nat) (cd : Nat) (cn : Nat) (fz : Nat → Nat) (fs : Nat → Nat) (fl : Nat → Int32) (aa : Nat) (ab : Nat) (n : Nat) (t : Nat) (f : Nat) (rs : Nat → Nat) (im : Nat → Nat) (ta : Nat) (tb : Nat) (td : Nat) (g : Nat) (mk : Nat) (ckd : Bool) (ft : Nat → Nat) (fc : Nat → Nat) (fr : Nat → Int32) (j : Nat) (qb : Nat) (pb : Nat) (hcn : cn ≤ 32) (h16 : ∀ j, fs j < 65536) (hlv : lv < 2 ^ 62) (hb0 : ∀ j, 1 ≤ j → j ≤ 32 → ft j + fc j ≤ 2048) (hz : ∀ i, 1 ≤ i → i ≤ cn → fz i ≤ 8) (hj1 : 1 ≤ j) (hj2 : j ≤ cn) (ht16 : t < 65536) (hnx : nx ≤ 2048) (hz1 : 1 ≤ fz j) (hqb : qb < 16) (hlit : fl (j * 8) = pt_lit qb) (hpb : (qb + 8) % 16 = pb) : Met l yn_Vf_followsPartners (Cond.code yn_Vf_followsPartners bc_Vf_followsPartners 6 (some .boolean) :: kx_all) ({ frames := 3, cells := 0, slots := 0, locals := 65 } : Room) (kp [.ref o, .int (nI j)] D cI cZ [vf_c o xc xs xt xa lv nx cf, cl_c xc ca cb cd cn, ar_n cI ca 33 fz, ar_n cI cb 33 fs, ar_i cI cd (33 * 8) fl, as_c xa aa ab n t f, ar_n cI aa 8 rs, ar_n cI ab 8 im, tr_c xt ta tb td g mk ckd, ar_n cI ta 33 ft, ar_n cI tb 33 fc, ar_i cI td 2048 fr] sz) (kw_q (some (.int (kb_i ((pt_vp fs lv cn (2 ^ pb) t (fun k => pt_hv ft fc fr j k) (pt_hc fc j) cn 1 nx cf n t f rs im).1)))) D kc_l [vf_c o xc xs xt xa lv ((pt_vp fs lv cn (2 ^ pb) t (fun k => pt_hv ft fc fr j k) (pt_hc fc j) cn 1 nx cf n t f rs im).2.1) ((pt_vp fs lv cn (2 ^ pb) t (fun k => pt_hv ft fc fr j k) (pt_hc fc j) cn 1 nx cf n t f rs im).2.2.1), cl_c xc ca cb cd cn, ar_n cI ca 33 fz, ar_n cI cb 33 fs, ar_i cI cd (33 * 8) fl, as_c xa aa ab ((pt_vp fs lv cn (2 ^ pb) t (fun k => pt_hv ft fc fr j k) (pt_hc fc j) cn 1 nx cf n t f rs im).2.2.2.1) ((pt_vp fs lv cn (2 ^ pb) t (fun k => pt_hv ft fc fr j k) (pt_hc fc j) cn 1 nx cf n t f rs im).2.2.2.2.1) ((pt_vp fs lv cn (2 ^ pb) t (fun k => pt_hv ft fc fr j k) (pt_hc fc j) cn 1 nx cf n t f rs im).2.2.2.2.2.1), ar_n cI aa 8 ((pt_vp fs lv cn (2 ^ pb) t (fun k => pt_hv ft fc fr j k) (pt_hc fc j) cn 1 nx cf n t f rs im).2.2.2.2.2.2.1), ar_n cI ab 8 ((pt_vp fs lv cn (2 ^ pb) t (fun k => pt_hv ft fc fr j k) (pt_hc fc j) cn 1 nx cf n t f rs im).2.2.2.2.2.2.2), tr_c xt ta tb td g mk ckd, ar_n cI ta 33 ft, ar_n cI tb 33 fc, ar_i cI td 2048 fr] (va_A [vf_c o xc xs xt xa lv nx cf, cl_c xc ca cb cd cn, ar_n cI ca 33 fz, ar_n cI cb 33 fs, ar_i cI cd (33 * 8) fl, as_c xa aa ab n t f, ar_n cI aa 8 rs, ar_n cI ab 8 im, tr_c xt ta tb td g mk ckd, ar_n cI ta 33 ft, ar_n cI tb 33 fc, ar_i cI td 2048 fr] sz)) 0 0 (va_A [vf_c o xc xs xt xa lv nx cf, cl_c xc ca cb cd cn, ar_n cI ca 33 fz, ar_n cI cb 33 fs, ar_i cI cd (33 * 8) fl, as_c xa aa ab n t f, ar_n cI aa 8 rs, ar_n cI ab 8 im, tr_c xt ta tb td g mk ckd, ar_n cI ta 33 ft, ar_n cI tb 33 fc, ar_i cI td 2048 fr] sz) := by
  refine kx_metW (by decide) (Nat.le_of_ble_eq_true rfl) ?_
  intro p e s m below meth c ls A hx hb hr hml hts hown hlocks hin hA hP hK hD hN hl hS
  have hown : s.vm.findClass rn_Vf = some m.cls := hown
  have hl : lv_has ls 6 [(0, .ref o), (1, .int (nI j))] := hl
  have hcb : pt_hc fc j ≤ 2048 := by
    unfold pt_hc
    split
    · have := hb0 j (by omega) (by omega); omega
    · decide
  refine lv_aload_n hx hb dc_Vf_followsPartners_0 rfl (lv_at hl 0 rfl) ?_
  refine va_get (ci := 8) (v := .ref xa) (C := rn_Vf) (T := fd_Vf) (N := 7) hx hb hts in_Vf hown hK hP 0 rfl rfl 3 (by decide) (hts _ wd_680) (fun _ h9 => h9) rfl dc_Vf_followsPartners_1 ?_
  refine va_getN (ci := 6) (v := .int (nI t)) (C := rn_As) (T := fd_As) (N := 5) hx hb hts in_As hown hK hP 5 rfl rfl 3 (by decide) (nf_171 hN) (fun _ h9 => h9) rfl dc_Vf_followsPartners_4 ?_
  refine lv_istore_n (lv' := [(2, .int (nI t)), (0, .ref o), (1, .int (nI j))]) hx hb dc_Vf_followsPartners_7 rfl hl (by decide) rfl (fun ls hl => ?_)
  refine lv_aload_n hx hb dc_Vf_followsPartners_8 rfl (lv_at hl 1 rfl) ?_
  refine va_get (ci := 8) (v := .ref xc) (C := rn_Vf) (T := fd_Vf) (N := 7) hx hb hts in_Vf hown hK hP 0 rfl rfl 0 (by decide) (hts _ wd_677) (fun _ h9 => h9) rfl dc_Vf_followsPartners_9 ?_
  refine lv_iload_n hx hb dc_Vf_followsPartners_12 rfl (lv_at hl 2 rfl) ?_
  refine lv_iconst (v := nI 0) hx hb dc_Vf_followsPartners_13 (by decide +kernel) ?_
  refine kr_call1 (va_runV (As := [.int (nI j), .int (nI 0)]) (rest := []) ⟨hx, hb, hml, hown, hts⟩ (ct_Cl_literalAt l D cI cZ _ xc ca cb cd 33 cn fz fs fl j 0 (by omega) (by omega) (hz) (by omega) (by omega)) (cwV 2 hts (kx_gV wd_726 wd_248 wd_249 wd_4 wd_250) rfl rfl rfl ⟨rfl, yd_Cl_literalAt⟩ ⟨Nat.le_of_ble_eq_true rfl, Nat.le_of_ble_eq_true rfl⟩) (kp_V (q0 := 1) (ci := 2) hP hD hK hN [1, 2, 3, 4] rfl rfl rfl rfl rfl) rfl rfl hl.1 rfl (lv_room (Nat.le_of_ble_eq_true rfl)) dc_Vf_followsPartners_14 ⟨Nat.le_of_ble_eq_true rfl, Nat.le_of_ble_eq_true rfl⟩) ?_
  refine kn_top (y := pt_lit qb) ((if_pos ⟨⟨by omega, by omega⟩, by omega⟩).trans (by rw [Nat.add_zero]; exact hlit)) ?_
  refine lv_ineg hx hb dc_Vf_followsPartners_17 ?_
  refine kn_top (y := pt_lit pb) ((pt_lit_op qb hqb).trans (by rw [hpb])) ?_
  refine kr_call1 (va_runSN (As := [.int (pt_lit pb)]) (rest := []) ⟨hx, hb, hml, hown, hts⟩ (ct_Pt_only l D cI cZ _ pb (by omega)) ⟨va_cnB 1 hts (kx_gi wd_416) rfl rfl rfl (nw_727 hN) (hts _ wd_1) yd_Pt_only ⟨Nat.le_of_ble_eq_true rfl, Nat.le_of_ble_eq_true rfl⟩, hts _ wd_415, trivial⟩ (kp_S hP hD hK hN [] rfl rfl) rfl rfl hl.1 rfl (lv_room (Nat.le_of_ble_eq_true rfl)) dc_Vf_followsPartners_18 ⟨Nat.le_of_ble_eq_true rfl, Nat.le_of_ble_eq_true rfl⟩) ?_
  refine lv_istore_n (lv' := [(3, .int (nI (2 ^ pb))), (2, .int (nI t)), (0, .ref o), (1, .int (nI j))]) hx hb dc_Vf_followsPartners_21 rfl hl (by decide) rfl (fun ls hl => ?_)
  refine lv_iconst (v := nI 1) hx hb dc_Vf_followsPartners_22 (by decide +kernel) ?_
  refine lv_istore (lv' := [(4, .int (nI 1)), (3, .int (nI (2 ^ pb))), (2, .int (nI t)), (0, .ref o), (1, .int (nI j))]) hx hb dc_Vf_followsPartners_23 hl (by decide) rfl (fun ls hl => ?_)
  have lp_25 : ∀ (K : Nat) (p0 : Nat) (nk : Nat) (ck1 : Bool) (n1 : Nat) (t1 : Nat) (f1 : Nat) (rs1 : Nat → Nat) (im1 : Nat → Nat) (H : Heap) (locs : List Loc) (ls : Array Slot), cn + 1 - p0 < K → va_P D kc_l [vf_c o xc xs xt xa lv nk ck1, cl_c xc ca cb cd cn, ar_n cI ca 33 fz, ar_n cI cb 33 fs, ar_i cI cd (33 * 8) fl, as_c xa aa ab n1 t1 f1, ar_n cI aa 8 rs1, ar_n cI ab 8 im1, tr_c xt ta tb td g mk ckd, ar_n cI ta 33 ft, ar_n cI tb 33 fc, ar_i cI td 2048 fr] H → va_D A [vf_c o xc xs xt xa lv nk ck1, cl_c xc ca cb cd cn, ar_n cI ca 33 fz, ar_n cI cb 33 fs, ar_i cI cd (33 * 8) fl, as_c xa aa ab n1 t1 f1, ar_n cI aa 8 rs1, ar_n cI ab 8 im1, tr_c xt ta tb td g mk ckd, ar_n cI ta 33 ft, ar_n cI tb 33 fc, ar_i cI td 2048 fr] → va_S A s.heap H locs → lv_has ls 6 [(4, .int (nI p0)), (3, .int (nI (2 ^ pb))), (2, .int (nI t)), (0, .ref o), (1, .int (nI j))] → (pt_vp fs lv cn (2 ^ pb) t (fun k => pt_hv ft fc fr j k) (pt_hc fc j) (cn + 1 - p0) p0 nk ck1 n1 t1 f1 rs1 im1 = pt_vp fs lv cn (2 ^ pb) t (fun k => pt_hv ft fc fr j k) (pt_hc fc j) cn 1 nx cf n t f rs im) → (1 ≤ p0 ∧ p0 ≤ cn + 1) → (nk ≤ 2048) → W p l e ({ frames := 3, cells := 0, slots := 0, locals := 65 } : Room) s m ([.ref o, .int (nI j)] : List Value).toArray below meth c H locs 0 0 (MQ below (kw_q (some (.int (kb_i ((pt_vp fs lv cn (2 ^ pb) t (fun k => pt_hv ft fc fr j k) (pt_hc fc j) cn 1 nx cf n t f rs im).1)))) D kc_l [vf_c o xc xs xt xa lv ((pt_vp fs lv cn (2 ^ pb) t (fun k => pt_hv ft fc fr j k) (pt_hc fc j) cn 1 nx cf n t f rs im).2.1) ((pt_vp fs lv cn (2 ^ pb) t (fun k => pt_hv ft fc fr j k) (pt_hc fc j) cn 1 nx cf n t f rs im).2.2.1), cl_c xc ca cb cd cn, ar_n cI ca 33 fz, ar_n cI cb 33 fs, ar_i cI cd (33 * 8) fl, as_c xa aa ab ((pt_vp fs lv cn (2 ^ pb) t (fun k => pt_hv ft fc fr j k) (pt_hc fc j) cn 1 nx cf n t f rs im).2.2.2.1) ((pt_vp fs lv cn (2 ^ pb) t (fun k => pt_hv ft fc fr j k) (pt_hc fc j) cn 1 nx cf n t f rs im).2.2.2.2.1) ((pt_vp fs lv cn (2 ^ pb) t (fun k => pt_hv ft fc fr j k) (pt_hc fc j) cn 1 nx cf n t f rs im).2.2.2.2.2.1), ar_n cI aa 8 ((pt_vp fs lv cn (2 ^ pb) t (fun k => pt_hv ft fc fr j k) (pt_hc fc j) cn 1 nx cf n t f rs im).2.2.2.2.2.2.1), ar_n cI ab 8 ((pt_vp fs lv cn (2 ^ pb) t (fun k => pt_hv ft fc fr j k) (pt_hc fc j) cn 1 nx cf n t f rs im).2.2.2.2.2.2.2), tr_c xt ta tb td g mk ckd, ar_n cI ta 33 ft, ar_n cI tb 33 fc, ar_i cI td 2048 fr] A) ([.ref o, .int (nI j)] : List Value).toArray s 0 0 A) (F0 m 25 ls []) := by
    intro K
    induction K with
    | zero =>
      intro p0 nk ck1 n1 t1 f1 rs1 im1 H locs ls hk
      exact absurd hk (Nat.not_lt_zero _)
    | succ K ih =>
      intro p0 nk ck1 n1 t1 f1 rs1 im1 H locs ls hk hP hD hS hl h1 h2 h3
      refine lv_iload hx hb dc_Vf_followsPartners_25 (lv_at hl 0 rfl) ?_
      refine lv_aload_n hx hb dc_Vf_followsPartners_27 rfl (lv_at hl 3 rfl) ?_
      refine va_get (ci := 8) (v := .ref xc) (C := rn_Vf) (T := fd_Vf) (N := 7) hx hb hts in_Vf hown hK hP 0 rfl rfl 0 (by decide) (hts _ wd_677) (fun _ h9 => h9) rfl dc_Vf_followsPartners_28 ?_
      refine va_getN (ci := 2) (v := .int (nI cn)) (C := rn_Cl) (T := fd_Cl) (N := 4) hx hb hts in_Cl hown hK hP 1 rfl rfl 3 (by decide) (nf_76 hN) (fun _ h9 => h9) rfl dc_Vf_followsPartners_31 ?_
      refine kn_icmp_gt hx hb (by omega) (by omega) dc_Vf_followsPartners_34 rfl (fun hc34 => ?_) (fun hc34 => ?_)
      · refine lv_iconst (v := nI 1) hx hb dc_Vf_followsPartners_161 (by decide +kernel) ?_
        refine kn_top (y := kb_i true) (by decide +kernel) ?_
        exact kw_zret hx hb hr hlocks hP hD hS dc_Vf_followsPartners_162 (by rw [← h1, vp_en (by omega)]) (by rw [← h1, vp_en (by omega)])
      · refine lv_aload_n hx hb dc_Vf_followsPartners_37 rfl (lv_at hl 3 rfl) ?_
        refine va_get (ci := 8) (v := .long (lN lv)) (C := rn_Vf) (T := fd_Vf) (N := 7) hx hb hts in_Vf hown hK hP 0 rfl rfl 4 (by decide) (hts _ wd_681) (fun _ h9 => h9) rfl dc_Vf_followsPartners_38 ?_
        refine lv_iload hx hb dc_Vf_followsPartners_41 (lv_at hl 0 rfl) ?_
        refine kr_call1 (va_runSN (As := [.long (lN lv), .int (nI p0)]) (rest := []) ⟨hx, hb, hml, hown, hts⟩ (ct_Pt_contains l D cI cZ _ lv p0 (hlv) (by omega)) ⟨va_cnB 2 hts (kx_gi wd_262) rfl rfl rfl (nw_706 hN) (hts _ wd_1) yd_Pt_contains ⟨Nat.le_of_ble_eq_true rfl, Nat.le_of_ble_eq_true rfl⟩, hts _ wd_261, trivial⟩ (kp_S hP hD hK hN [] rfl rfl) rfl rfl hl.1 rfl (lv_room (Nat.le_of_ble_eq_true rfl)) dc_Vf_followsPartners_43 ⟨Nat.le_of_ble_eq_true rfl, Nat.le_of_ble_eq_true rfl⟩) ?_
        refine kb_if_eq hx hb dc_Vf_followsPartners_46 rfl (fun hc46 => ?_) (fun hc46 => ?_)
        · refine lv_iinc (k := 0) (v := nI (p0 + 1)) (lv' := [(4, .int (nI (p0 + 1))), (3, .int (nI (2 ^ pb))), (2, .int (nI t)), (0, .ref o), (1, .int (nI j))]) hx hb dc_Vf_followsPartners_155 hl rfl (nI_1 _) (by decide) rfl (fun ls hl => ?_)
          refine lv_goto hx hb dc_Vf_followsPartners_158 rfl ?_
          exact ih _ _ _ _ _ _ _ _ _ _ _ (by omega) hP hD hS hl (by rw [← h1]; exact (vp_no (by omega) (Or.inl hc46)).symm) (⟨by omega, by omega⟩) (by omega)
        · refine lv_aload_n hx hb dc_Vf_followsPartners_49 rfl (lv_at hl 3 rfl) ?_
          refine va_get (ci := 8) (v := .ref xc) (C := rn_Vf) (T := fd_Vf) (N := 7) hx hb hts in_Vf hown hK hP 0 rfl rfl 0 (by decide) (hts _ wd_677) (fun _ h9 => h9) rfl dc_Vf_followsPartners_50 ?_
          refine va_getN (ci := 2) (v := .ref cb) (C := rn_Cl) (T := fd_Cl) (N := 4) hx hb hts in_Cl hown hK hP 1 rfl rfl 1 (by decide) (nf_69 hN) (fun _ h9 => h9) rfl dc_Vf_followsPartners_53 ?_
          refine lv_iload hx hb dc_Vf_followsPartners_56 (lv_at hl 0 rfl) ?_
          refine ka_nald (t := fs) hx hb hK hP 3 0 rfl rfl (j := p0) (by omega) (by omega) dc_Vf_followsPartners_58 ?_
          refine lv_iload_n hx hb dc_Vf_followsPartners_59 rfl (lv_at hl 1 rfl) ?_
          refine kn_iand hx hb dc_Vf_followsPartners_60 ?_
          refine kn_if_ne hx hb (Nat.lt_of_le_of_lt Nat.and_le_left (Nat.lt_trans (h16 p0) (by decide))) dc_Vf_followsPartners_61 rfl (fun hc61 => ?_) (fun hc61 => ?_)
          · have hpn : ¬ (lv.testBit p0 = false ∨ fs p0 &&& 2 ^ pb = 0) := fun q => q.elim (fun q1 => by rw [hc46] at q1; exact absurd q1 (by decide)) hc61
            refine lv_aload_n hx hb dc_Vf_followsPartners_67 rfl (lv_at hl 3 rfl) ?_
            refine va_get (ci := 8) (v := .ref xt) (C := rn_Vf) (T := fd_Vf) (N := 7) hx hb hts in_Vf hown hK hP 0 rfl rfl 2 (by decide) (hts _ wd_679) (fun _ h9 => h9) rfl dc_Vf_followsPartners_68 ?_
            refine lv_iload_n hx hb dc_Vf_followsPartners_71 rfl (lv_at hl 4 rfl) ?_
            refine lv_aload_n hx hb dc_Vf_followsPartners_72 rfl (lv_at hl 3 rfl) ?_
            refine va_get (ci := 8) (v := .int (nI nk)) (C := rn_Vf) (T := fd_Vf) (N := 7) hx hb hts in_Vf hown hK hP 0 rfl rfl 5 (by decide) (hts _ wd_682) (fun _ h9 => h9) rfl dc_Vf_followsPartners_73 ?_
            refine kr_call1 (va_runV (As := [.int (nI j), .int (nI nk)]) (rest := []) ⟨hx, hb, hml, hown, hts⟩ (ct_Tr_hintAt l D cI cZ _ xt ta tb td g mk ckd ft fc fr j nk (hb0) (by omega) (by omega)) (cwV 2 hts (kx_gV wd_718 wd_276 wd_277 wd_7 wd_278) rfl rfl rfl ⟨rfl, yd_Tr_hintAt⟩ ⟨Nat.le_of_ble_eq_true rfl, Nat.le_of_ble_eq_true rfl⟩) (kp_V (q0 := 8) (ci := 5) hP hD hK hN [8, 9, 10, 11] rfl rfl rfl rfl rfl) rfl rfl hl.1 rfl (lv_room (Nat.le_of_ble_eq_true rfl)) dc_Vf_followsPartners_76 ⟨Nat.le_of_ble_eq_true rfl, Nat.le_of_ble_eq_true rfl⟩) ?_
            refine lv_iload hx hb dc_Vf_followsPartners_79 (lv_at hl 0 rfl) ?_
            refine lv_ineg hx hb dc_Vf_followsPartners_81 ?_
            refine lv_icmp_eq hx hb dc_Vf_followsPartners_82 rfl (fun hc82 => ?_) (fun hc82 => ?_)
            · have hnk : nk < pt_hc fc j := hv_lt (fun q => neg_n0 p0 (by omega) (by omega) (hc82.symm.trans q))
              refine lv_aload_n hx hb dc_Vf_followsPartners_87 rfl (lv_at hl 3 rfl) ?_
              refine lv_dup hx hb dc_Vf_followsPartners_88 rfl ?_
              refine va_get (ci := 8) (v := .int (nI nk)) (C := rn_Vf) (T := fd_Vf) (N := 7) hx hb hts in_Vf hown hK hP 0 rfl rfl 5 (by decide) (hts _ wd_682) (fun _ h9 => h9) rfl dc_Vf_followsPartners_89 ?_
              refine lv_iconst (v := nI 1) hx hb dc_Vf_followsPartners_92 (by decide +kernel) ?_
              refine kn_iadd hx hb dc_Vf_followsPartners_93 ?_
              refine va_put (ci := 8) (v := .int (nI (nk + 1))) (ty := .int) (C := rn_Vf) (T := fd_Vf) (N := 7) hx hb hts in_Vf ty_Vf tk_Vf nm_Vf hown hK hP hD hS 0 rfl rfl 5 (by decide) (hts _ wd_682) (fun _ h9 => h9) rfl (by decide +kernel) rfl rfl (Nat.le_of_ble_eq_true rfl) dc_Vf_followsPartners_94 (fun H locs hP hD hS => ?_)
              have hP : va_P D kc_l [vf_c o xc xs xt xa lv (nk + 1) ck1, cl_c xc ca cb cd cn, ar_n cI ca 33 fz, ar_n cI cb 33 fs, ar_i cI cd (33 * 8) fl, as_c xa aa ab n1 t1 f1, ar_n cI aa 8 rs1, ar_n cI ab 8 im1, tr_c xt ta tb td g mk ckd, ar_n cI ta 33 ft, ar_n cI tb 33 fc, ar_i cI td 2048 fr] H := hP
              have hD : va_D A [vf_c o xc xs xt xa lv (nk + 1) ck1, cl_c xc ca cb cd cn, ar_n cI ca 33 fz, ar_n cI cb 33 fs, ar_i cI cd (33 * 8) fl, as_c xa aa ab n1 t1 f1, ar_n cI aa 8 rs1, ar_n cI ab 8 im1, tr_c xt ta tb td g mk ckd, ar_n cI ta 33 ft, ar_n cI tb 33 fc, ar_i cI td 2048 fr] := hD
              refine lv_aload_n hx hb dc_Vf_followsPartners_97 rfl (lv_at hl 3 rfl) ?_
              refine va_get (ci := 8) (v := .ref xc) (C := rn_Vf) (T := fd_Vf) (N := 7) hx hb hts in_Vf hown hK hP 0 rfl rfl 0 (by decide) (hts _ wd_677) (fun _ h9 => h9) rfl dc_Vf_followsPartners_98 ?_
              refine va_getN (ci := 2) (v := .ref cb) (C := rn_Cl) (T := fd_Cl) (N := 4) hx hb hts in_Cl hown hK hP 1 rfl rfl 1 (by decide) (nf_69 hN) (fun _ h9 => h9) rfl dc_Vf_followsPartners_101 ?_
              refine lv_iload hx hb dc_Vf_followsPartners_104 (lv_at hl 0 rfl) ?_
              refine ka_nald (t := fs) hx hb hK hP 3 0 rfl rfl (j := p0) (by omega) (by omega) dc_Vf_followsPartners_106 ?_
              refine lv_iload_n hx hb dc_Vf_followsPartners_107 rfl (lv_at hl 1 rfl) ?_
              refine lv_iconst (v := (-1)) hx hb dc_Vf_followsPartners_108 (by decide +kernel) ?_
              refine lv_ixor hx hb dc_Vf_followsPartners_109 ?_
              refine kn_inot hx hb dc_Vf_followsPartners_110 ?_
              refine lv_istore (lv' := [(5, .int (nI (nb_d (fs p0) (2 ^ pb)))), (4, .int (nI p0)), (3, .int (nI (2 ^ pb))), (2, .int (nI t)), (0, .ref o), (1, .int (nI j))]) hx hb dc_Vf_followsPartners_111 hl (by decide) rfl (fun ls hl => ?_)
              refine lv_iload hx hb dc_Vf_followsPartners_113 (lv_at hl 0 rfl) ?_
              refine lv_iload_n hx hb dc_Vf_followsPartners_115 rfl (lv_at hl 3 rfl) ?_
              refine kn_iand hx hb dc_Vf_followsPartners_116 ?_
              refine kn_if_eq hx hb (Nat.lt_of_le_of_lt Nat.and_le_left (Nat.lt_trans (nb_d_lt (n := 16) (h16 p0)) (by decide))) dc_Vf_followsPartners_117 rfl (fun hc117 => ?_) (fun hc117 => ?_)
              · have ho16 : nb_d (fs p0) (2 ^ pb) < 65536 := nb_d_lt (n := 16) (h16 p0)
                have hnt : (t ||| nb_op (nb_d (fs p0) (2 ^ pb))) < 65536 := Nat.or_lt_two_pow (n := 16) ht16 (nb_op_lt ho16)
                have hcap9 : pt_cap 0 (t ||| nb_op (nb_d (fs p0) (2 ^ pb))) (nb_op (t ||| nb_op (nb_d (fs p0) (2 ^ pb)))) := ⟨hnt, rfl, by have := free_le (t ||| nb_op (nb_d (fs p0) (2 ^ pb))); omega⟩
                refine lv_aload_n hx hb dc_Vf_followsPartners_123 rfl (lv_at hl 4 rfl) ?_
                refine va_get (ci := 8) (v := .ref xa) (C := rn_Vf) (T := fd_Vf) (N := 7) hx hb hts in_Vf hown hK hP 0 rfl rfl 3 (by decide) (hts _ wd_680) (fun _ h9 => h9) rfl dc_Vf_followsPartners_124 ?_
                refine lv_iload_n hx hb dc_Vf_followsPartners_127 rfl (lv_at hl 3 rfl) ?_
                refine lv_iload hx hb dc_Vf_followsPartners_128 (lv_at hl 0 rfl) ?_
                refine kr_call1 (va_runSN (As := [.int (nI (nb_d (fs p0) (2 ^ pb)))]) (rest := [.int (nI t), .ref xa]) ⟨hx, hb, hml, hown, hts⟩ (ct_Pt_opposites l D cI cZ _ (nb_d (fs p0) (2 ^ pb)) (ho16)) ⟨va_cnB 1 hts (kx_gi wd_613) rfl rfl rfl (nw_711 hN) (hts _ wd_1) yd_Pt_opposites ⟨Nat.le_of_ble_eq_true rfl, Nat.le_of_ble_eq_true rfl⟩, hts _ wd_612, trivial⟩ (kp_S hP hD hK hN [] rfl rfl) rfl rfl hl.1 rfl (lv_room (Nat.le_of_ble_eq_true rfl)) dc_Vf_followsPartners_130 ⟨Nat.le_of_ble_eq_true rfl, Nat.le_of_ble_eq_true rfl⟩) ?_
                refine kn_ior hx hb dc_Vf_followsPartners_133 ?_
                refine lv_iconst (v := nI 0) hx hb dc_Vf_followsPartners_134 (by decide +kernel) ?_
                refine kw_call0 (wr := [vf_c o xc xs xt xa lv (nk + 1) ck1, cl_c xc ca cb cd cn, ar_n cI ca 33 fz, ar_n cI cb 33 fs, ar_i cI cd (33 * 8) fl, ar_n cI aa 8 rs1, ar_n cI ab 8 im1, tr_c xt ta tb td g mk ckd, ar_n cI ta 33 ft, ar_n cI tb 33 fc, ar_i cI td 2048 fr]) (ws' := [vf_c o xc xs xt xa lv (nk + 1) ck1, cl_c xc ca cb cd cn, ar_n cI ca 33 fz, ar_n cI cb 33 fs, ar_i cI cd (33 * 8) fl, as_c xa aa ab 0 (t ||| (nb_op (nb_d (fs p0) (2 ^ pb)))) (nb_op (t ||| (nb_op (nb_d (fs p0) (2 ^ pb))))), ar_n cI aa 8 rs1, ar_n cI ab 8 im1, tr_c xt ta tb td g mk ckd, ar_n cI ta 33 ft, ar_n cI tb 33 fc, ar_i cI td 2048 fr]) (va_runV (As := [.int (nI (t ||| (nb_op (nb_d (fs p0) (2 ^ pb))))), .int (nI 0)]) (rest := []) ⟨hx, hb, hml, hown, hts⟩ (ct_As_restart l D cI cZ _ xa aa ab n1 t1 f1 (t ||| (nb_op (nb_d (fs p0) (2 ^ pb)))) 0 (hnt)) (cwV 2 hts (kx_gV wd_712 wd_616 wd_617 wd_8 wd_618) rfl rfl rfl ⟨rfl, yd_As_restart⟩ ⟨Nat.le_of_ble_eq_true rfl, Nat.le_of_ble_eq_true rfl⟩) (kp_V (q0 := 5) (ci := 6) hP hD hK hN [5] rfl rfl rfl rfl rfl) rfl rfl hl.1 rfl (lv_room (Nat.le_of_ble_eq_true rfl)) dc_Vf_followsPartners_135 ⟨Nat.le_of_ble_eq_true rfl, Nat.le_of_ble_eq_true rfl⟩) hP hD hS hA [5] [0, 1, 2, 3, 4, 6, 7, 8, 9, 10, 11] [0, 1, 2, 3, 4, 11, 5, 6, 7, 8, 9, 10] rfl rfl rfl (by decide) rfl rfl (fun H locs hP hD hS => ?_)
                refine lv_aload_n hx hb dc_Vf_followsPartners_138 rfl (lv_at hl 4 rfl) ?_
                refine lv_iload_n hx hb dc_Vf_followsPartners_139 rfl (lv_at hl 5 rfl) ?_
                refine kw_call1 (wr := []) (ws' := [vf_c o xc xs xt xa lv ((pt_fp fs lv cn (fun k => pt_hv ft fc fr j k) (pt_hc fc j - (nk + 1)) (nk + 1) false 0 (t ||| (nb_op (nb_d (fs p0) (2 ^ pb)))) (nb_op (t ||| (nb_op (nb_d (fs p0) (2 ^ pb))))) rs1 im1).2.1) ((pt_fp fs lv cn (fun k => pt_hv ft fc fr j k) (pt_hc fc j - (nk + 1)) (nk + 1) false 0 (t ||| (nb_op (nb_d (fs p0) (2 ^ pb)))) (nb_op (t ||| (nb_op (nb_d (fs p0) (2 ^ pb))))) rs1 im1).2.2.1), cl_c xc ca cb cd cn, ar_n cI ca 33 fz, ar_n cI cb 33 fs, ar_i cI cd (33 * 8) fl, as_c xa aa ab ((pt_fp fs lv cn (fun k => pt_hv ft fc fr j k) (pt_hc fc j - (nk + 1)) (nk + 1) false 0 (t ||| (nb_op (nb_d (fs p0) (2 ^ pb)))) (nb_op (t ||| (nb_op (nb_d (fs p0) (2 ^ pb))))) rs1 im1).2.2.2.1) ((pt_fp fs lv cn (fun k => pt_hv ft fc fr j k) (pt_hc fc j - (nk + 1)) (nk + 1) false 0 (t ||| (nb_op (nb_d (fs p0) (2 ^ pb)))) (nb_op (t ||| (nb_op (nb_d (fs p0) (2 ^ pb))))) rs1 im1).2.2.2.2.1) ((pt_fp fs lv cn (fun k => pt_hv ft fc fr j k) (pt_hc fc j - (nk + 1)) (nk + 1) false 0 (t ||| (nb_op (nb_d (fs p0) (2 ^ pb)))) (nb_op (t ||| (nb_op (nb_d (fs p0) (2 ^ pb))))) rs1 im1).2.2.2.2.2.1), ar_n cI aa 8 ((pt_fp fs lv cn (fun k => pt_hv ft fc fr j k) (pt_hc fc j - (nk + 1)) (nk + 1) false 0 (t ||| (nb_op (nb_d (fs p0) (2 ^ pb)))) (nb_op (t ||| (nb_op (nb_d (fs p0) (2 ^ pb))))) rs1 im1).2.2.2.2.2.2.1), ar_n cI ab 8 ((pt_fp fs lv cn (fun k => pt_hv ft fc fr j k) (pt_hc fc j - (nk + 1)) (nk + 1) false 0 (t ||| (nb_op (nb_d (fs p0) (2 ^ pb)))) (nb_op (t ||| (nb_op (nb_d (fs p0) (2 ^ pb))))) rs1 im1).2.2.2.2.2.2.2), tr_c xt ta tb td g mk ckd, ar_n cI ta 33 ft, ar_n cI tb 33 fc, ar_i cI td 2048 fr]) (va_runV (As := [.int (nI j)]) (rest := []) ⟨hx, hb, hml, hown, hts⟩ (ct_Vf_followsPositives l D cI cZ _ o xc xs xt xa lv (nk + 1) ck1 ca cb cd cn fz fs fl aa ab 0 (t ||| (nb_op (nb_d (fs p0) (2 ^ pb)))) (nb_op (t ||| (nb_op (nb_d (fs p0) (2 ^ pb))))) rs1 im1 ta tb td g mk ckd ft fc fr j (hcn) (h16) (hlv) (hb0) (by omega) (hcap9) (by omega)) (cwV 1 hts (kx_gV wd_713 wd_715 (kx_sel (q := (yn_Vf_followsPositives, 7)) (List.mem_append_left _ (List.mem_of_getElem? (i := 9) rfl))) wd_22 wd_716) rfl rfl rfl ⟨rfl, yd_Vf_followsPositives⟩ ⟨Nat.le_of_ble_eq_true rfl, Nat.le_of_ble_eq_true rfl⟩) (kp_V (q0 := 0) (ci := 8) hP hD hK hN [0, 1, 2, 3, 4, 5, 6, 7, 8, 9, 10, 11] rfl rfl rfl rfl rfl) rfl rfl hl.1 rfl (lv_room (Nat.le_of_ble_eq_true rfl)) dc_Vf_followsPartners_140 ⟨Nat.le_of_ble_eq_true rfl, Nat.le_of_ble_eq_true rfl⟩) hP hD hS hA [0, 1, 2, 3, 4, 5, 6, 7, 8, 9, 10, 11] [] [0, 1, 2, 3, 4, 5, 6, 7, 8, 9, 10, 11] rfl rfl rfl (by decide) rfl rfl (fun H locs hP hD hS => ?_)
                have hfx := fp_nx fs lv cn (fun k => pt_hv ft fc fr j k) (pt_hc fc j - (nk + 1)) (nk + 1) false 0 (t ||| nb_op (nb_d (fs p0) (2 ^ pb))) (nb_op (t ||| nb_op (nb_d (fs p0) (2 ^ pb)))) rs1 im1
                generalize hZe : pt_fp fs lv cn (fun k => pt_hv ft fc fr j k) (pt_hc fc j - (nk + 1)) (nk + 1) false 0 (t ||| nb_op (nb_d (fs p0) (2 ^ pb))) (nb_op (t ||| nb_op (nb_d (fs p0) (2 ^ pb)))) rs1 im1 = ZZ at hP hD hfx ⊢
                refine kb_if_eq hx hb dc_Vf_followsPartners_143 rfl (fun hc143 => ?_) (fun hc143 => ?_)
                · refine lv_iconst (v := nI 0) hx hb dc_Vf_followsPartners_153 (by decide +kernel) ?_
                  refine kn_top (y := kb_i false) (by decide +kernel) ?_
                  exact kw_zret hx hb hr hlocks hP hD hS dc_Vf_followsPartners_154 (by rw [← h1, vp_bad (by omega) hpn hc82 hc117 hZe (fun q => by rw [hc143] at q; exact absurd q.1 (by decide))]) (by rw [← h1, vp_bad (by omega) hpn hc82 hc117 hZe (fun q => by rw [hc143] at q; exact absurd q.1 (by decide))])
                · refine lv_aload_n hx hb dc_Vf_followsPartners_146 rfl (lv_at hl 4 rfl) ?_
                  refine va_get (ci := 8) (v := .int (kb_i ZZ.2.2.1)) (C := rn_Vf) (T := fd_Vf) (N := 7) hx hb hts in_Vf hown hK hP 0 rfl rfl 6 (by decide) (hts _ wd_683) (fun _ h9 => h9) rfl dc_Vf_followsPartners_147 ?_
                  refine kb_if_ne hx hb dc_Vf_followsPartners_150 rfl (fun hc150 => ?_) (fun hc150 => ?_)
                  · refine lv_iinc (k := 1) (v := nI (p0 + 1)) (lv' := [(4, .int (nI (p0 + 1))), (5, .int (nI (nb_d (fs p0) (2 ^ pb)))), (3, .int (nI (2 ^ pb))), (2, .int (nI t)), (0, .ref o), (1, .int (nI j))]) hx hb dc_Vf_followsPartners_155 hl rfl (nI_1 _) (by decide) rfl (fun ls hl => ?_)
                    refine lv_goto hx hb dc_Vf_followsPartners_158 rfl ?_
                    have hl := lv_sub (l' := [(4, .int (nI (p0 + 1))), (3, .int (nI (2 ^ pb))), (2, .int (nI t)), (0, .ref o), (1, .int (nI j))]) hl [0, 2, 3, 4, 5] rfl
                    exact ih _ _ _ _ _ _ _ _ _ _ _ (by omega) hP hD hS hl (by rw [← h1]; exact (vp_go (by omega) hpn hc82 hc117 hZe ⟨hc143, hc150⟩).symm) (⟨by omega, by omega⟩) (by omega)
                  · refine lv_iconst (v := nI 0) hx hb dc_Vf_followsPartners_153 (by decide +kernel) ?_
                    refine kn_top (y := kb_i false) (by decide +kernel) ?_
                    exact kw_zret hx hb hr hlocks hP hD hS dc_Vf_followsPartners_154 (by rw [← h1, vp_bad (by omega) hpn hc82 hc117 hZe (fun q => by rw [hc150] at q; exact absurd q.2 (by decide))]) (by rw [← h1, vp_bad (by omega) hpn hc82 hc117 hZe (fun q => by rw [hc150] at q; exact absurd q.2 (by decide))])
              · refine lv_goto hx hb dc_Vf_followsPartners_120 rfl ?_
                refine lv_iinc (k := 1) (v := nI (p0 + 1)) (lv' := [(4, .int (nI (p0 + 1))), (5, .int (nI (nb_d (fs p0) (2 ^ pb)))), (3, .int (nI (2 ^ pb))), (2, .int (nI t)), (0, .ref o), (1, .int (nI j))]) hx hb dc_Vf_followsPartners_155 hl rfl (nI_1 _) (by decide) rfl (fun ls hl => ?_)
                refine lv_goto hx hb dc_Vf_followsPartners_158 rfl ?_
                have hl := lv_sub (l' := [(4, .int (nI (p0 + 1))), (3, .int (nI (2 ^ pb))), (2, .int (nI t)), (0, .ref o), (1, .int (nI j))]) hl [0, 2, 3, 4, 5] rfl
                exact ih _ _ _ _ _ _ _ _ _ _ _ (by omega) hP hD hS hl (by rw [← h1]; exact (vp_true (by omega) hpn hc82 hc117).symm) (⟨by omega, by omega⟩) (by omega)
            · refine lv_iconst (v := nI 0) hx hb dc_Vf_followsPartners_85 (by decide +kernel) ?_
              refine kn_top (y := kb_i false) (by decide +kernel) ?_
              exact kw_zret hx hb hr hlocks hP hD hS dc_Vf_followsPartners_86 (by rw [← h1, vp_hint (by omega) hpn hc82]) (by rw [← h1, vp_hint (by omega) hpn hc82])
          · refine lv_goto hx hb dc_Vf_followsPartners_64 rfl ?_
            refine lv_iinc (k := 0) (v := nI (p0 + 1)) (lv' := [(4, .int (nI (p0 + 1))), (3, .int (nI (2 ^ pb))), (2, .int (nI t)), (0, .ref o), (1, .int (nI j))]) hx hb dc_Vf_followsPartners_155 hl rfl (nI_1 _) (by decide) rfl (fun ls hl => ?_)
            refine lv_goto hx hb dc_Vf_followsPartners_158 rfl ?_
            exact ih _ _ _ _ _ _ _ _ _ _ _ (by omega) hP hD hS hl (by rw [← h1]; exact (vp_no (by omega) (Or.inr hc61)).symm) (⟨by omega, by omega⟩) (by omega)
  exact lp_25 _ _ _ _ _ _ _ _ _ _ _ _ (Nat.lt_succ_self _) hP hD hS hl (rfl) (⟨by omega, by omega⟩) (hnx)

theorem fp_t {fs : Nat → Nat} {lv cn : Nat} {hv : Nat → Int32} (h16 : ∀ j, fs j < 65536) : ∀ (k nx : Nat) (cf : Bool) (n t f : Nat) (rs im : Nat → Nat), t < 65536 → (pt_fp fs lv cn hv k nx cf n t f rs im).2.2.2.2.1 < 65536 := by
  intro k
  induction k with
  | zero => intro nx cf n t f rs im h; exact h
  | succ k ih =>
    intro nx cf n t f rs im h
    rw [pt_fp]
    split
    · exact h
    · split
      · exact h
      · split
        · exact ih _ _ _ _ _ _ _ h
        · exact ih _ _ _ _ _ _ _ (Nat.or_lt_two_pow (n := 16) h (nb_d_lt (n := 16) (h16 _)))
theorem vp_nx (fs : Nat → Nat) (lv cn pv rc : Nat) (ft fc : Nat → Nat) (fr : Nat → Int32) (j : Nat) (hcn : cn ≤ 32) : ∀ (k p nx : Nat) (cf : Bool) (n t f : Nat) (rs im : Nat → Nat), 1 ≤ p → p + k ≤ 33 → nx ≤ pt_hc fc j → (pt_vp fs lv cn pv rc (fun k => pt_hv ft fc fr j k) (pt_hc fc j) k p nx cf n t f rs im).2.1 ≤ pt_hc fc j := by
  intro k
  induction k with
  | zero => intro p nx cf n t f rs im _ _ h; exact h
  | succ k ih =>
    intro p nx cf n t f rs im hp hpk h
    rw [pt_vp]
    split
    · exact ih _ _ _ _ _ _ _ _ (by omega) (by omega) h
    · split
      · exact h
      · rename_i hh
        have hh := Classical.not_not.mp hh
        have hk : nx < pt_hc fc j := hv_lt (fun q => neg_n0 p (by omega) hp (hh.symm.trans q))
        split
        · exact ih _ _ _ _ _ _ _ _ (by omega) (by omega) (by omega)
        · dsimp only
          have hfx := fp_nx fs lv cn (fun k => pt_hv ft fc fr j k) (pt_hc fc j - (nx + 1)) (nx + 1) false 0 (rc ||| nb_op (nb_d (fs p) pv)) (nb_op (rc ||| nb_op (nb_d (fs p) pv))) rs im
          split
          · exact ih _ _ _ _ _ _ _ _ (by omega) (by omega) (by omega)
          · show (pt_fp _ _ _ _ _ _ _ _ _ _ _ _).2.1 ≤ _
            omega

set_option maxHeartbeats 4000000 in
set_option maxRecDepth 100000 in
theorem ct_Vf_isGood (l : Launch) (D : va_G) (cI cZ : ClassId) (sz : Nat) (o : Nat) (xc : Nat) (xs : Nat) (xt : Nat) (xa : Nat) (lv : Nat) (nx : Nat) (cf : Bool) (ca : Nat) (cb : Nat) (cd : Nat) (cn : Nat) (fz : Nat → Nat) (fs : Nat → Nat) (fl : Nat → Int32) (aa : Nat) (ab : Nat) (n : Nat) (t : Nat) (f : Nat) (rs : Nat → Nat) (im : Nat → Nat) (ta : Nat) (tb : Nat) (td : Nat) (g : Nat) (mk : Nat) (ckd : Bool) (ft : Nat → Nat) (fc : Nat → Nat) (fr : Nat → Int32) (j : Nat) (qb : Nat) (pb : Nat) (hcn : cn ≤ 32) (h16 : ∀ j, fs j < 65536) (hlv : lv < 2 ^ 62) (hb0 : ∀ j, 1 ≤ j → j ≤ 32 → ft j + fc j ≤ 2048) (hz : ∀ i, 1 ≤ i → i ≤ cn → fz i ≤ 8) (hj1 : 1 ≤ j) (hj2 : j ≤ cn) (hlit : 1 ≤ fz j → qb < 16 ∧ fl (j * 8) = pt_lit qb ∧ (qb + 8) % 16 = pb) : Met l yn_Vf_isGood (Cond.code yn_Vf_isGood bc_Vf_isGood 2 (some .boolean) :: kx_all) ({ frames := 4, cells := 0, slots := 0, locals := 90 } : Room) (kp [.ref o, .int (nI j)] D cI cZ [vf_c o xc xs xt xa lv nx cf, cl_c xc ca cb cd cn, ar_n cI ca 33 fz, ar_n cI cb 33 fs, ar_i cI cd (33 * 8) fl, as_c xa aa ab n t f, ar_n cI aa 8 rs, ar_n cI ab 8 im, tr_c xt ta tb td g mk ckd, ar_n cI ta 33 ft, ar_n cI tb 33 fc, ar_i cI td 2048 fr] sz) (kw_q (some (.int (kb_i ((pt_good fs lv cn (fz j) pb (fs j) (fun k => pt_hv ft fc fr j k) (pt_hc fc j) rs im).1)))) D kc_l [vf_c o xc xs xt xa lv ((pt_good fs lv cn (fz j) pb (fs j) (fun k => pt_hv ft fc fr j k) (pt_hc fc j) rs im).2.1) ((pt_good fs lv cn (fz j) pb (fs j) (fun k => pt_hv ft fc fr j k) (pt_hc fc j) rs im).2.2.1), cl_c xc ca cb cd cn, ar_n cI ca 33 fz, ar_n cI cb 33 fs, ar_i cI cd (33 * 8) fl, as_c xa aa ab ((pt_good fs lv cn (fz j) pb (fs j) (fun k => pt_hv ft fc fr j k) (pt_hc fc j) rs im).2.2.2.1) ((pt_good fs lv cn (fz j) pb (fs j) (fun k => pt_hv ft fc fr j k) (pt_hc fc j) rs im).2.2.2.2.1) ((pt_good fs lv cn (fz j) pb (fs j) (fun k => pt_hv ft fc fr j k) (pt_hc fc j) rs im).2.2.2.2.2.1), ar_n cI aa 8 ((pt_good fs lv cn (fz j) pb (fs j) (fun k => pt_hv ft fc fr j k) (pt_hc fc j) rs im).2.2.2.2.2.2.1), ar_n cI ab 8 ((pt_good fs lv cn (fz j) pb (fs j) (fun k => pt_hv ft fc fr j k) (pt_hc fc j) rs im).2.2.2.2.2.2.2), tr_c xt ta tb td g mk ckd, ar_n cI ta 33 ft, ar_n cI tb 33 fc, ar_i cI td 2048 fr] (va_A [vf_c o xc xs xt xa lv nx cf, cl_c xc ca cb cd cn, ar_n cI ca 33 fz, ar_n cI cb 33 fs, ar_i cI cd (33 * 8) fl, as_c xa aa ab n t f, ar_n cI aa 8 rs, ar_n cI ab 8 im, tr_c xt ta tb td g mk ckd, ar_n cI ta 33 ft, ar_n cI tb 33 fc, ar_i cI td 2048 fr] sz)) 0 0 (va_A [vf_c o xc xs xt xa lv nx cf, cl_c xc ca cb cd cn, ar_n cI ca 33 fz, ar_n cI cb 33 fs, ar_i cI cd (33 * 8) fl, as_c xa aa ab n t f, ar_n cI aa 8 rs, ar_n cI ab 8 im, tr_c xt ta tb td g mk ckd, ar_n cI ta 33 ft, ar_n cI tb 33 fc, ar_i cI td 2048 fr] sz) := by
  refine kx_metW (by decide) (Nat.le_of_ble_eq_true rfl) ?_
  intro p e s m below meth c ls A hx hb hr hml hts hown hlocks hin hA hP hK hD hN hl hS
  have hown : s.vm.findClass rn_Vf = some m.cls := hown
  have hl : lv_has ls 2 [(0, .ref o), (1, .int (nI j))] := hl
  have hcb : pt_hc fc j ≤ 2048 := by
    unfold pt_hc
    split
    · have := hb0 j (by omega) (by omega); omega
    · decide
  have hx16 := nb_op_lt (h16 j)
  have hcap0 : pt_cap 0 (nb_op (fs j)) (nb_op (nb_op (fs j))) := ⟨hx16, rfl, by have := free_le (nb_op (fs j)); omega⟩
  refine lv_aload_n hx hb dc_Vf_isGood_0 rfl (lv_at hl 0 rfl) ?_
  refine lv_iconst (v := nI 0) hx hb dc_Vf_isGood_1 (by decide +kernel) ?_
  refine va_put (ci := 8) (v := .int (nI 0)) (ty := .int) (C := rn_Vf) (T := fd_Vf) (N := 7) hx hb hts in_Vf ty_Vf tk_Vf nm_Vf hown hK hP hD hS 0 rfl rfl 5 (by decide) (hts _ wd_682) (fun _ h9 => h9) rfl (by decide +kernel) rfl rfl (Nat.le_of_ble_eq_true rfl) dc_Vf_isGood_2 (fun H locs hP hD hS => ?_)
  have hP : va_P D kc_l [vf_c o xc xs xt xa lv 0 cf, cl_c xc ca cb cd cn, ar_n cI ca 33 fz, ar_n cI cb 33 fs, ar_i cI cd (33 * 8) fl, as_c xa aa ab n t f, ar_n cI aa 8 rs, ar_n cI ab 8 im, tr_c xt ta tb td g mk ckd, ar_n cI ta 33 ft, ar_n cI tb 33 fc, ar_i cI td 2048 fr] H := hP
  have hD : va_D A [vf_c o xc xs xt xa lv 0 cf, cl_c xc ca cb cd cn, ar_n cI ca 33 fz, ar_n cI cb 33 fs, ar_i cI cd (33 * 8) fl, as_c xa aa ab n t f, ar_n cI aa 8 rs, ar_n cI ab 8 im, tr_c xt ta tb td g mk ckd, ar_n cI ta 33 ft, ar_n cI tb 33 fc, ar_i cI td 2048 fr] := hD
  refine lv_aload_n hx hb dc_Vf_isGood_5 rfl (lv_at hl 0 rfl) ?_
  refine va_get (ci := 8) (v := .ref xa) (C := rn_Vf) (T := fd_Vf) (N := 7) hx hb hts in_Vf hown hK hP 0 rfl rfl 3 (by decide) (hts _ wd_680) (fun _ h9 => h9) rfl dc_Vf_isGood_6 ?_
  refine lv_aload_n hx hb dc_Vf_isGood_9 rfl (lv_at hl 0 rfl) ?_
  refine va_get (ci := 8) (v := .ref xc) (C := rn_Vf) (T := fd_Vf) (N := 7) hx hb hts in_Vf hown hK hP 0 rfl rfl 0 (by decide) (hts _ wd_677) (fun _ h9 => h9) rfl dc_Vf_isGood_10 ?_
  refine va_getN (ci := 2) (v := .ref cb) (C := rn_Cl) (T := fd_Cl) (N := 4) hx hb hts in_Cl hown hK hP 1 rfl rfl 1 (by decide) (nf_69 hN) (fun _ h9 => h9) rfl dc_Vf_isGood_13 ?_
  refine lv_iload_n hx hb dc_Vf_isGood_16 rfl (lv_at hl 1 rfl) ?_
  refine ka_nald (t := fs) hx hb hK hP 3 0 rfl rfl (j := j) (by omega) (by omega) dc_Vf_isGood_17 ?_
  refine kr_call1 (va_runSN (As := [.int (nI (fs j))]) (rest := [.ref xa]) ⟨hx, hb, hml, hown, hts⟩ (ct_Pt_opposites l D cI cZ _ (fs j) (h16 j)) ⟨va_cnB 1 hts (kx_gi wd_613) rfl rfl rfl (nw_711 hN) (hts _ wd_1) yd_Pt_opposites ⟨Nat.le_of_ble_eq_true rfl, Nat.le_of_ble_eq_true rfl⟩, hts _ wd_612, trivial⟩ (kp_S hP hD hK hN [] rfl rfl) rfl rfl hl.1 rfl (lv_room (Nat.le_of_ble_eq_true rfl)) dc_Vf_isGood_18 ⟨Nat.le_of_ble_eq_true rfl, Nat.le_of_ble_eq_true rfl⟩) ?_
  refine lv_iconst (v := nI 0) hx hb dc_Vf_isGood_21 (by decide +kernel) ?_
  refine kw_call0 (wr := [vf_c o xc xs xt xa lv 0 cf, cl_c xc ca cb cd cn, ar_n cI ca 33 fz, ar_n cI cb 33 fs, ar_i cI cd (33 * 8) fl, ar_n cI aa 8 rs, ar_n cI ab 8 im, tr_c xt ta tb td g mk ckd, ar_n cI ta 33 ft, ar_n cI tb 33 fc, ar_i cI td 2048 fr]) (ws' := [vf_c o xc xs xt xa lv 0 cf, cl_c xc ca cb cd cn, ar_n cI ca 33 fz, ar_n cI cb 33 fs, ar_i cI cd (33 * 8) fl, as_c xa aa ab 0 (nb_op (fs j)) (nb_op (nb_op (fs j))), ar_n cI aa 8 rs, ar_n cI ab 8 im, tr_c xt ta tb td g mk ckd, ar_n cI ta 33 ft, ar_n cI tb 33 fc, ar_i cI td 2048 fr]) (va_runV (As := [.int (nI (nb_op (fs j))), .int (nI 0)]) (rest := []) ⟨hx, hb, hml, hown, hts⟩ (ct_As_restart l D cI cZ _ xa aa ab n t f (nb_op (fs j)) 0 (hx16)) (cwV 2 hts (kx_gV wd_712 wd_616 wd_617 wd_8 wd_618) rfl rfl rfl ⟨rfl, yd_As_restart⟩ ⟨Nat.le_of_ble_eq_true rfl, Nat.le_of_ble_eq_true rfl⟩) (kp_V (q0 := 5) (ci := 6) hP hD hK hN [5] rfl rfl rfl rfl rfl) rfl rfl hl.1 rfl (lv_room (Nat.le_of_ble_eq_true rfl)) dc_Vf_isGood_22 ⟨Nat.le_of_ble_eq_true rfl, Nat.le_of_ble_eq_true rfl⟩) hP hD hS hA [5] [0, 1, 2, 3, 4, 6, 7, 8, 9, 10, 11] [0, 1, 2, 3, 4, 11, 5, 6, 7, 8, 9, 10] rfl rfl rfl (by decide) rfl rfl (fun H locs hP hD hS => ?_)
  refine lv_aload_n hx hb dc_Vf_isGood_25 rfl (lv_at hl 0 rfl) ?_
  refine lv_iload_n hx hb dc_Vf_isGood_26 rfl (lv_at hl 1 rfl) ?_
  refine kw_call1 (wr := []) (ws' := [vf_c o xc xs xt xa lv ((pt_fp fs lv cn (fun k => pt_hv ft fc fr j k) (pt_hc fc j - 0) 0 false 0 (nb_op (fs j)) (nb_op (nb_op (fs j))) rs im).2.1) ((pt_fp fs lv cn (fun k => pt_hv ft fc fr j k) (pt_hc fc j - 0) 0 false 0 (nb_op (fs j)) (nb_op (nb_op (fs j))) rs im).2.2.1), cl_c xc ca cb cd cn, ar_n cI ca 33 fz, ar_n cI cb 33 fs, ar_i cI cd (33 * 8) fl, as_c xa aa ab ((pt_fp fs lv cn (fun k => pt_hv ft fc fr j k) (pt_hc fc j - 0) 0 false 0 (nb_op (fs j)) (nb_op (nb_op (fs j))) rs im).2.2.2.1) ((pt_fp fs lv cn (fun k => pt_hv ft fc fr j k) (pt_hc fc j - 0) 0 false 0 (nb_op (fs j)) (nb_op (nb_op (fs j))) rs im).2.2.2.2.1) ((pt_fp fs lv cn (fun k => pt_hv ft fc fr j k) (pt_hc fc j - 0) 0 false 0 (nb_op (fs j)) (nb_op (nb_op (fs j))) rs im).2.2.2.2.2.1), ar_n cI aa 8 ((pt_fp fs lv cn (fun k => pt_hv ft fc fr j k) (pt_hc fc j - 0) 0 false 0 (nb_op (fs j)) (nb_op (nb_op (fs j))) rs im).2.2.2.2.2.2.1), ar_n cI ab 8 ((pt_fp fs lv cn (fun k => pt_hv ft fc fr j k) (pt_hc fc j - 0) 0 false 0 (nb_op (fs j)) (nb_op (nb_op (fs j))) rs im).2.2.2.2.2.2.2), tr_c xt ta tb td g mk ckd, ar_n cI ta 33 ft, ar_n cI tb 33 fc, ar_i cI td 2048 fr]) (va_runV (As := [.int (nI j)]) (rest := []) ⟨hx, hb, hml, hown, hts⟩ (ct_Vf_followsPositives l D cI cZ _ o xc xs xt xa lv 0 cf ca cb cd cn fz fs fl aa ab 0 (nb_op (fs j)) (nb_op (nb_op (fs j))) rs im ta tb td g mk ckd ft fc fr j (hcn) (h16) (hlv) (hb0) (by omega) (hcap0) (by omega)) (cwV 1 hts (kx_gV wd_713 wd_715 (kx_sel (q := (yn_Vf_followsPositives, 7)) (List.mem_append_left _ (List.mem_of_getElem? (i := 9) rfl))) wd_22 wd_716) rfl rfl rfl ⟨rfl, yd_Vf_followsPositives⟩ ⟨Nat.le_of_ble_eq_true rfl, Nat.le_of_ble_eq_true rfl⟩) (kp_V (q0 := 0) (ci := 8) hP hD hK hN [0, 1, 2, 3, 4, 5, 6, 7, 8, 9, 10, 11] rfl rfl rfl rfl rfl) rfl rfl hl.1 rfl (lv_room (Nat.le_of_ble_eq_true rfl)) dc_Vf_isGood_27 ⟨Nat.le_of_ble_eq_true rfl, Nat.le_of_ble_eq_true rfl⟩) hP hD hS hA [0, 1, 2, 3, 4, 5, 6, 7, 8, 9, 10, 11] [] [0, 1, 2, 3, 4, 5, 6, 7, 8, 9, 10, 11] rfl rfl rfl (by decide) rfl rfl (fun H locs hP hD hS => ?_)
  have hfx := fp_nx fs lv cn (fun k => pt_hv ft fc fr j k) (pt_hc fc j - 0) 0 false 0 (nb_op (fs j)) (nb_op (nb_op (fs j))) rs im
  have hft := fp_t (lv := lv) (cn := cn) (hv := (fun k => pt_hv ft fc fr j k)) h16 (pt_hc fc j - 0) 0 false 0 (nb_op (fs j)) (nb_op (nb_op (fs j))) rs im hcap0.1
  generalize hZe : pt_fp fs lv cn (fun k => pt_hv ft fc fr j k) (pt_hc fc j - 0) 0 false 0 (nb_op (fs j)) (nb_op (nb_op (fs j))) rs im = ZZ at hP hD hfx hft ⊢
  refine kb_if_ne hx hb dc_Vf_isGood_30 rfl (fun hc30 => ?_) (fun hc30 => ?_)
  · refine lv_aload_n hx hb dc_Vf_isGood_35 rfl (lv_at hl 0 rfl) ?_
    refine va_get (ci := 8) (v := .int (kb_i ZZ.2.2.1)) (C := rn_Vf) (T := fd_Vf) (N := 7) hx hb hts in_Vf hown hK hP 0 rfl rfl 6 (by decide) (hts _ wd_683) (fun _ h9 => h9) rfl dc_Vf_isGood_36 ?_
    refine kb_if_ne hx hb dc_Vf_isGood_39 rfl (fun hc39 => ?_) (fun hc39 => ?_)
    · have hG : pt_good fs lv cn (fz j) pb (fs j) (fun k => pt_hv ft fc fr j k) (pt_hc fc j) rs im = (decide (ZZ.2.1 = pt_hc fc j), ZZ.2) := by
        rw [pt_good, hZe]; dsimp only; rw [if_neg (by rw [hc30]; decide), if_pos hc39]
      refine lv_aload_n hx hb dc_Vf_isGood_64 rfl (lv_at hl 0 rfl) ?_
      refine va_get (ci := 8) (v := .int (nI ZZ.2.1)) (C := rn_Vf) (T := fd_Vf) (N := 7) hx hb hts in_Vf hown hK hP 0 rfl rfl 5 (by decide) (hts _ wd_682) (fun _ h9 => h9) rfl dc_Vf_isGood_65 ?_
      refine lv_aload_n hx hb dc_Vf_isGood_68 rfl (lv_at hl 0 rfl) ?_
      refine va_get (ci := 8) (v := .ref xt) (C := rn_Vf) (T := fd_Vf) (N := 7) hx hb hts in_Vf hown hK hP 0 rfl rfl 2 (by decide) (hts _ wd_679) (fun _ h9 => h9) rfl dc_Vf_isGood_69 ?_
      refine lv_iload_n hx hb dc_Vf_isGood_72 rfl (lv_at hl 1 rfl) ?_
      refine kr_call1 (va_runV (As := [.int (nI j)]) (rest := [.int (nI ZZ.2.1)]) ⟨hx, hb, hml, hown, hts⟩ (ct_Tr_countOf l D cI cZ _ xt ta tb td g mk ckd ft fc fr j (by omega)) (cwV 1 hts (kx_gV wd_717 wd_268 wd_269 wd_7 wd_270) rfl rfl rfl ⟨rfl, yd_Tr_countOf⟩ ⟨Nat.le_of_ble_eq_true rfl, Nat.le_of_ble_eq_true rfl⟩) (kp_V (q0 := 8) (ci := 5) hP hD hK hN [8, 9, 10, 11] rfl rfl rfl rfl rfl) rfl rfl hl.1 rfl (lv_room (Nat.le_of_ble_eq_true rfl)) dc_Vf_isGood_73 ⟨Nat.le_of_ble_eq_true rfl, Nat.le_of_ble_eq_true rfl⟩) ?_
      refine kn_icmp_ne hx hb (by omega) (by omega) dc_Vf_isGood_76 rfl (fun hc76 => ?_) (fun hc76 => ?_)
      · refine lv_iconst (v := nI 0) hx hb dc_Vf_isGood_83 (by decide +kernel) ?_
        refine kn_top (y := kb_i false) (by decide +kernel) ?_
        exact kw_zret hx hb hr hlocks hP hD hS dc_Vf_isGood_84 (by rw [hG]; exact (decide_eq_false hc76).symm) (by rw [hG])
      · refine lv_iconst (v := nI 1) hx hb dc_Vf_isGood_79 (by decide +kernel) ?_
        refine lv_goto hx hb dc_Vf_isGood_80 rfl ?_
        refine kn_top (y := kb_i true) (by decide +kernel) ?_
        exact kw_zret hx hb hr hlocks hP hD hS dc_Vf_isGood_84 (by rw [hG]; exact (decide_eq_true hc76).symm) (by rw [hG])
    · refine lv_aload_n hx hb dc_Vf_isGood_42 rfl (lv_at hl 0 rfl) ?_
      refine va_get (ci := 8) (v := .ref xc) (C := rn_Vf) (T := fd_Vf) (N := 7) hx hb hts in_Vf hown hK hP 0 rfl rfl 0 (by decide) (hts _ wd_677) (fun _ h9 => h9) rfl dc_Vf_isGood_43 ?_
      refine va_getN (ci := 2) (v := .ref ca) (C := rn_Cl) (T := fd_Cl) (N := 4) hx hb hts in_Cl hown hK hP 1 rfl rfl 0 (by decide) (nf_64 hN) (fun _ h9 => h9) rfl dc_Vf_isGood_46 ?_
      refine lv_iload_n hx hb dc_Vf_isGood_49 rfl (lv_at hl 1 rfl) ?_
      refine ka_nald (t := fz) hx hb hK hP 2 0 rfl rfl (j := j) (by omega) (by omega) dc_Vf_isGood_50 ?_
      refine kn_if_eq hx hb (Nat.lt_of_le_of_lt (hz j hj1 hj2) (by decide)) dc_Vf_isGood_51 rfl (fun hc51 => ?_) (fun hc51 => ?_)
      · have hG : pt_good fs lv cn (fz j) pb (fs j) (fun k => pt_hv ft fc fr j k) (pt_hc fc j) rs im = (false, ZZ.2) := by
          rw [pt_good, hZe]; dsimp only; rw [if_neg (by rw [hc30]; decide), if_neg (by rw [hc39]; decide), if_pos hc51]
        refine lv_iconst (v := nI 0) hx hb dc_Vf_isGood_62 (by decide +kernel) ?_
        refine kn_top (y := kb_i false) (by decide +kernel) ?_
        exact kw_zret hx hb hr hlocks hP hD hS dc_Vf_isGood_63 (by rw [hG]) (by rw [hG])
      · refine lv_aload_n hx hb dc_Vf_isGood_54 rfl (lv_at hl 0 rfl) ?_
        refine lv_iload_n hx hb dc_Vf_isGood_55 rfl (lv_at hl 1 rfl) ?_
        refine kw_call1 (wr := []) (ws' := [vf_c o xc xs xt xa lv ((pt_vp fs lv cn (2 ^ pb) ZZ.2.2.2.2.1 (fun k => pt_hv ft fc fr j k) (pt_hc fc j) cn 1 ZZ.2.1 ZZ.2.2.1 ZZ.2.2.2.1 ZZ.2.2.2.2.1 ZZ.2.2.2.2.2.1 ZZ.2.2.2.2.2.2.1 ZZ.2.2.2.2.2.2.2).2.1) ((pt_vp fs lv cn (2 ^ pb) ZZ.2.2.2.2.1 (fun k => pt_hv ft fc fr j k) (pt_hc fc j) cn 1 ZZ.2.1 ZZ.2.2.1 ZZ.2.2.2.1 ZZ.2.2.2.2.1 ZZ.2.2.2.2.2.1 ZZ.2.2.2.2.2.2.1 ZZ.2.2.2.2.2.2.2).2.2.1), cl_c xc ca cb cd cn, ar_n cI ca 33 fz, ar_n cI cb 33 fs, ar_i cI cd (33 * 8) fl, as_c xa aa ab ((pt_vp fs lv cn (2 ^ pb) ZZ.2.2.2.2.1 (fun k => pt_hv ft fc fr j k) (pt_hc fc j) cn 1 ZZ.2.1 ZZ.2.2.1 ZZ.2.2.2.1 ZZ.2.2.2.2.1 ZZ.2.2.2.2.2.1 ZZ.2.2.2.2.2.2.1 ZZ.2.2.2.2.2.2.2).2.2.2.1) ((pt_vp fs lv cn (2 ^ pb) ZZ.2.2.2.2.1 (fun k => pt_hv ft fc fr j k) (pt_hc fc j) cn 1 ZZ.2.1 ZZ.2.2.1 ZZ.2.2.2.1 ZZ.2.2.2.2.1 ZZ.2.2.2.2.2.1 ZZ.2.2.2.2.2.2.1 ZZ.2.2.2.2.2.2.2).2.2.2.2.1) ((pt_vp fs lv cn (2 ^ pb) ZZ.2.2.2.2.1 (fun k => pt_hv ft fc fr j k) (pt_hc fc j) cn 1 ZZ.2.1 ZZ.2.2.1 ZZ.2.2.2.1 ZZ.2.2.2.2.1 ZZ.2.2.2.2.2.1 ZZ.2.2.2.2.2.2.1 ZZ.2.2.2.2.2.2.2).2.2.2.2.2.1), ar_n cI aa 8 ((pt_vp fs lv cn (2 ^ pb) ZZ.2.2.2.2.1 (fun k => pt_hv ft fc fr j k) (pt_hc fc j) cn 1 ZZ.2.1 ZZ.2.2.1 ZZ.2.2.2.1 ZZ.2.2.2.2.1 ZZ.2.2.2.2.2.1 ZZ.2.2.2.2.2.2.1 ZZ.2.2.2.2.2.2.2).2.2.2.2.2.2.1), ar_n cI ab 8 ((pt_vp fs lv cn (2 ^ pb) ZZ.2.2.2.2.1 (fun k => pt_hv ft fc fr j k) (pt_hc fc j) cn 1 ZZ.2.1 ZZ.2.2.1 ZZ.2.2.2.1 ZZ.2.2.2.2.1 ZZ.2.2.2.2.2.1 ZZ.2.2.2.2.2.2.1 ZZ.2.2.2.2.2.2.2).2.2.2.2.2.2.2), tr_c xt ta tb td g mk ckd, ar_n cI ta 33 ft, ar_n cI tb 33 fc, ar_i cI td 2048 fr]) (va_runV (As := [.int (nI j)]) (rest := []) ⟨hx, hb, hml, hown, hts⟩ (ct_Vf_followsPartners l D cI cZ _ o xc xs xt xa lv ZZ.2.1 ZZ.2.2.1 ca cb cd cn fz fs fl aa ab ZZ.2.2.2.1 ZZ.2.2.2.2.1 ZZ.2.2.2.2.2.1 ZZ.2.2.2.2.2.2.1 ZZ.2.2.2.2.2.2.2 ta tb td g mk ckd ft fc fr j qb pb (hcn) (h16) (hlv) (hb0) (hz) (hj1) (hj2) (hft) (by omega) (by omega) ((hlit (by omega)).1) ((hlit (by omega)).2.1) ((hlit (by omega)).2.2)) (cwV 1 hts (kx_gV wd_722 wd_724 (kx_sel (q := (yn_Vf_followsPartners, 7)) (List.mem_append_left _ (List.mem_of_getElem? (i := 10) rfl))) wd_22 wd_725) rfl rfl rfl ⟨rfl, yd_Vf_followsPartners⟩ ⟨Nat.le_of_ble_eq_true rfl, Nat.le_of_ble_eq_true rfl⟩) (kp_V (q0 := 0) (ci := 8) hP hD hK hN [0, 1, 2, 3, 4, 5, 6, 7, 8, 9, 10, 11] rfl rfl rfl rfl rfl) rfl rfl hl.1 rfl (lv_room (Nat.le_of_ble_eq_true rfl)) dc_Vf_isGood_56 ⟨Nat.le_of_ble_eq_true rfl, Nat.le_of_ble_eq_true rfl⟩) hP hD hS hA [0, 1, 2, 3, 4, 5, 6, 7, 8, 9, 10, 11] [] [0, 1, 2, 3, 4, 5, 6, 7, 8, 9, 10, 11] rfl rfl rfl (by decide) rfl rfl (fun H locs hP hD hS => ?_)
        have hvx := vp_nx fs lv cn (2 ^ pb) ZZ.2.2.2.2.1 ft fc fr j hcn cn 1 ZZ.2.1 ZZ.2.2.1 ZZ.2.2.2.1 ZZ.2.2.2.2.1 ZZ.2.2.2.2.2.1 ZZ.2.2.2.2.2.2.1 ZZ.2.2.2.2.2.2.2 (by omega) (by omega) (by omega)
        generalize hYe : pt_vp fs lv cn (2 ^ pb) ZZ.2.2.2.2.1 (fun k => pt_hv ft fc fr j k) (pt_hc fc j) cn 1 ZZ.2.1 ZZ.2.2.1 ZZ.2.2.2.1 ZZ.2.2.2.2.1 ZZ.2.2.2.2.2.1 ZZ.2.2.2.2.2.2.1 ZZ.2.2.2.2.2.2.2 = YY at hP hD hvx ⊢
        refine kb_if_ne hx hb dc_Vf_isGood_59 rfl (fun hc59 => ?_) (fun hc59 => ?_)
        · have hG : pt_good fs lv cn (fz j) pb (fs j) (fun k => pt_hv ft fc fr j k) (pt_hc fc j) rs im = (decide (YY.2.1 = pt_hc fc j), YY.2) := by
            rw [pt_good, hZe]; dsimp only; rw [if_neg (by rw [hc30]; decide), if_neg (by rw [hc39]; decide), if_neg hc51, hYe, if_neg (by rw [hc59]; decide)]
          refine lv_aload_n hx hb dc_Vf_isGood_64 rfl (lv_at hl 0 rfl) ?_
          refine va_get (ci := 8) (v := .int (nI YY.2.1)) (C := rn_Vf) (T := fd_Vf) (N := 7) hx hb hts in_Vf hown hK hP 0 rfl rfl 5 (by decide) (hts _ wd_682) (fun _ h9 => h9) rfl dc_Vf_isGood_65 ?_
          refine lv_aload_n hx hb dc_Vf_isGood_68 rfl (lv_at hl 0 rfl) ?_
          refine va_get (ci := 8) (v := .ref xt) (C := rn_Vf) (T := fd_Vf) (N := 7) hx hb hts in_Vf hown hK hP 0 rfl rfl 2 (by decide) (hts _ wd_679) (fun _ h9 => h9) rfl dc_Vf_isGood_69 ?_
          refine lv_iload_n hx hb dc_Vf_isGood_72 rfl (lv_at hl 1 rfl) ?_
          refine kr_call1 (va_runV (As := [.int (nI j)]) (rest := [.int (nI YY.2.1)]) ⟨hx, hb, hml, hown, hts⟩ (ct_Tr_countOf l D cI cZ _ xt ta tb td g mk ckd ft fc fr j (by omega)) (cwV 1 hts (kx_gV wd_717 wd_268 wd_269 wd_7 wd_270) rfl rfl rfl ⟨rfl, yd_Tr_countOf⟩ ⟨Nat.le_of_ble_eq_true rfl, Nat.le_of_ble_eq_true rfl⟩) (kp_V (q0 := 8) (ci := 5) hP hD hK hN [8, 9, 10, 11] rfl rfl rfl rfl rfl) rfl rfl hl.1 rfl (lv_room (Nat.le_of_ble_eq_true rfl)) dc_Vf_isGood_73 ⟨Nat.le_of_ble_eq_true rfl, Nat.le_of_ble_eq_true rfl⟩) ?_
          refine kn_icmp_ne hx hb (by omega) (by omega) dc_Vf_isGood_76 rfl (fun hc76 => ?_) (fun hc76 => ?_)
          · refine lv_iconst (v := nI 0) hx hb dc_Vf_isGood_83 (by decide +kernel) ?_
            refine kn_top (y := kb_i false) (by decide +kernel) ?_
            exact kw_zret hx hb hr hlocks hP hD hS dc_Vf_isGood_84 (by rw [hG]; exact (decide_eq_false hc76).symm) (by rw [hG])
          · refine lv_iconst (v := nI 1) hx hb dc_Vf_isGood_79 (by decide +kernel) ?_
            refine lv_goto hx hb dc_Vf_isGood_80 rfl ?_
            refine kn_top (y := kb_i true) (by decide +kernel) ?_
            exact kw_zret hx hb hr hlocks hP hD hS dc_Vf_isGood_84 (by rw [hG]; exact (decide_eq_true hc76).symm) (by rw [hG])
        · have hG : pt_good fs lv cn (fz j) pb (fs j) (fun k => pt_hv ft fc fr j k) (pt_hc fc j) rs im = (false, YY.2) := by
            rw [pt_good, hZe]; dsimp only; rw [if_neg (by rw [hc30]; decide), if_neg (by rw [hc39]; decide), if_neg hc51, hYe, if_pos hc59]
          refine lv_iconst (v := nI 0) hx hb dc_Vf_isGood_62 (by decide +kernel) ?_
          refine kn_top (y := kb_i false) (by decide +kernel) ?_
          exact kw_zret hx hb hr hlocks hP hD hS dc_Vf_isGood_63 (by rw [hG]) (by rw [hG])
  · have hG : pt_good fs lv cn (fz j) pb (fs j) (fun k => pt_hv ft fc fr j k) (pt_hc fc j) rs im = (false, ZZ.2) := by
      rw [pt_good, hZe]; dsimp only; rw [if_pos hc30]
    refine lv_iconst (v := nI 0) hx hb dc_Vf_isGood_33 (by decide +kernel) ?_
    refine kn_top (y := kb_i false) (by decide +kernel) ?_
    exact kw_zret hx hb hr hlocks hP hD hS dc_Vf_isGood_34 (by rw [hG]) (by rw [hG])

set_option maxHeartbeats 4000000 in
set_option maxRecDepth 100000 in
theorem ct_Vf_firstBad (l : Launch) (D : va_G) (cI cZ : ClassId) (sz : Nat) (o : Nat) (xc : Nat) (xs : Nat) (xt : Nat) (xa : Nat) (lv : Nat) (nx : Nat) (cf : Bool) (ca : Nat) (cb : Nat) (cd : Nat) (cn : Nat) (fz : Nat → Nat) (fs : Nat → Nat) (fl : Nat → Int32) (aa : Nat) (ab : Nat) (n : Nat) (t : Nat) (f : Nat) (rs : Nat → Nat) (im : Nat → Nat) (ta : Nat) (tb : Nat) (td : Nat) (g : Nat) (mk : Nat) (ckd : Bool) (ft : Nat → Nat) (fc : Nat → Nat) (fr : Nat → Int32) (sa : Nat) (sb : Nat) (sn : Nat) (sop : Bool) (dl : Nat → Bool) (nu : Nat → Nat) (b : Nat) (qb : Nat → Nat) (pb : Nat → Nat) (hcn : cn ≤ 32) (h16 : ∀ j, fs j < 65536) (hb0 : ∀ j, 1 ≤ j → j ≤ 32 → ft j + fc j ≤ 2048) (hz : ∀ i, 1 ≤ i → i ≤ cn → fz i ≤ 8) (hsn : sn ≤ 16) (hnu : ∀ i, nu i ≤ cn) (hadd : ∀ i, 1 ≤ i → i ≤ sn → dl i = false → 1 ≤ nu i) (hb16 : b ≤ 16) (hm62 : mk < 2 ^ 62) (hlit : ∀ j, 1 ≤ j → j ≤ cn → 1 ≤ fz j → qb j < 16 ∧ fl (j * 8) = pt_lit (qb j) ∧ (qb j + 8) % 16 = pb j) : Met l yn_Vf_firstBad (Cond.code yn_Vf_firstBad bc_Vf_firstBad 4 (some .int) :: kx_all) ({ frames := 5, cells := 0, slots := 0, locals := 111 } : Room) (kp [.ref o, .int (nI b)] D cI cZ [vf_c o xc xs xt xa lv nx cf, cl_c xc ca cb cd cn, ar_n cI ca 33 fz, ar_n cI cb 33 fs, ar_i cI cd (33 * 8) fl, as_c xa aa ab n t f, ar_n cI aa 8 rs, ar_n cI ab 8 im, tr_c xt ta tb td g mk ckd, ar_n cI ta 33 ft, ar_n cI tb 33 fc, ar_i cI td 2048 fr, sp_c xs sa sb sn sop, ar_b cZ sa 17 dl, ar_n cI sb 17 nu] sz) (kw_q (some (.int (nI ((pt_fb fs fz pb cn dl nu mk ft fc fr sn 1 (2 ^ (b + 1) - 2) nx cf n t f rs im).1)))) D kc_l [vf_c o xc xs xt xa ((pt_fb fs fz pb cn dl nu mk ft fc fr sn 1 (2 ^ (b + 1) - 2) nx cf n t f rs im).2.1) ((pt_fb fs fz pb cn dl nu mk ft fc fr sn 1 (2 ^ (b + 1) - 2) nx cf n t f rs im).2.2.1) ((pt_fb fs fz pb cn dl nu mk ft fc fr sn 1 (2 ^ (b + 1) - 2) nx cf n t f rs im).2.2.2.1), cl_c xc ca cb cd cn, ar_n cI ca 33 fz, ar_n cI cb 33 fs, ar_i cI cd (33 * 8) fl, as_c xa aa ab ((pt_fb fs fz pb cn dl nu mk ft fc fr sn 1 (2 ^ (b + 1) - 2) nx cf n t f rs im).2.2.2.2.1) ((pt_fb fs fz pb cn dl nu mk ft fc fr sn 1 (2 ^ (b + 1) - 2) nx cf n t f rs im).2.2.2.2.2.1) ((pt_fb fs fz pb cn dl nu mk ft fc fr sn 1 (2 ^ (b + 1) - 2) nx cf n t f rs im).2.2.2.2.2.2.1), ar_n cI aa 8 ((pt_fb fs fz pb cn dl nu mk ft fc fr sn 1 (2 ^ (b + 1) - 2) nx cf n t f rs im).2.2.2.2.2.2.2.1), ar_n cI ab 8 ((pt_fb fs fz pb cn dl nu mk ft fc fr sn 1 (2 ^ (b + 1) - 2) nx cf n t f rs im).2.2.2.2.2.2.2.2), tr_c xt ta tb td g mk ckd, ar_n cI ta 33 ft, ar_n cI tb 33 fc, ar_i cI td 2048 fr, sp_c xs sa sb sn sop, ar_b cZ sa 17 dl, ar_n cI sb 17 nu] (va_A [vf_c o xc xs xt xa lv nx cf, cl_c xc ca cb cd cn, ar_n cI ca 33 fz, ar_n cI cb 33 fs, ar_i cI cd (33 * 8) fl, as_c xa aa ab n t f, ar_n cI aa 8 rs, ar_n cI ab 8 im, tr_c xt ta tb td g mk ckd, ar_n cI ta 33 ft, ar_n cI tb 33 fc, ar_i cI td 2048 fr, sp_c xs sa sb sn sop, ar_b cZ sa 17 dl, ar_n cI sb 17 nu] sz)) 0 0 (va_A [vf_c o xc xs xt xa lv nx cf, cl_c xc ca cb cd cn, ar_n cI ca 33 fz, ar_n cI cb 33 fs, ar_i cI cd (33 * 8) fl, as_c xa aa ab n t f, ar_n cI aa 8 rs, ar_n cI ab 8 im, tr_c xt ta tb td g mk ckd, ar_n cI ta 33 ft, ar_n cI tb 33 fc, ar_i cI td 2048 fr, sp_c xs sa sb sn sop, ar_b cZ sa 17 dl, ar_n cI sb 17 nu] sz) := by
  refine kx_metW (by decide) (Nat.le_of_ble_eq_true rfl) ?_
  intro p e s m below meth c ls A hx hb hr hml hts hown hlocks hin hA hP hK hD hN hl hS
  have hown : s.vm.findClass rn_Vf = some m.cls := hown
  have hl : lv_has ls 4 [(0, .ref o), (1, .int (nI b))] := hl
  refine lv_aload_n hx hb dc_Vf_firstBad_0 rfl (lv_at hl 0 rfl) ?_
  refine lv_iload_n hx hb dc_Vf_firstBad_1 rfl (lv_at hl 1 rfl) ?_
  refine kr_call1 (va_runSN (As := [.int (nI b)]) (rest := [.ref o]) ⟨hx, hb, hml, hown, hts⟩ (ct_Pt_firstOnes l D cI cZ _ b (by omega)) ⟨va_cnB 1 hts (kx_gi wd_550) rfl rfl rfl (nw_703 hN) (hts _ wd_1) yd_Pt_firstOnes ⟨Nat.le_of_ble_eq_true rfl, Nat.le_of_ble_eq_true rfl⟩, hts _ wd_549, trivial⟩ (kp_S hP hD hK hN [] rfl rfl) rfl rfl hl.1 rfl (lv_room (Nat.le_of_ble_eq_true rfl)) dc_Vf_firstBad_2 ⟨Nat.le_of_ble_eq_true rfl, Nat.le_of_ble_eq_true rfl⟩) ?_
  refine va_put (ci := 8) (v := .long (lN (2 ^ (b + 1) - 2))) (ty := .long) (C := rn_Vf) (T := fd_Vf) (N := 7) hx hb hts in_Vf ty_Vf tk_Vf nm_Vf hown hK hP hD hS 0 rfl rfl 4 (by decide) (hts _ wd_681) (fun _ h9 => h9) rfl (by decide +kernel) rfl rfl (Nat.le_of_ble_eq_true rfl) dc_Vf_firstBad_5 (fun H locs hP hD hS => ?_)
  have hP : va_P D kc_l [vf_c o xc xs xt xa (2 ^ (b + 1) - 2) nx cf, cl_c xc ca cb cd cn, ar_n cI ca 33 fz, ar_n cI cb 33 fs, ar_i cI cd (33 * 8) fl, as_c xa aa ab n t f, ar_n cI aa 8 rs, ar_n cI ab 8 im, tr_c xt ta tb td g mk ckd, ar_n cI ta 33 ft, ar_n cI tb 33 fc, ar_i cI td 2048 fr, sp_c xs sa sb sn sop, ar_b cZ sa 17 dl, ar_n cI sb 17 nu] H := hP
  have hD : va_D A [vf_c o xc xs xt xa (2 ^ (b + 1) - 2) nx cf, cl_c xc ca cb cd cn, ar_n cI ca 33 fz, ar_n cI cb 33 fs, ar_i cI cd (33 * 8) fl, as_c xa aa ab n t f, ar_n cI aa 8 rs, ar_n cI ab 8 im, tr_c xt ta tb td g mk ckd, ar_n cI ta 33 ft, ar_n cI tb 33 fc, ar_i cI td 2048 fr, sp_c xs sa sb sn sop, ar_b cZ sa 17 dl, ar_n cI sb 17 nu] := hD
  refine lv_iconst (v := nI 1) hx hb dc_Vf_firstBad_8 (by decide +kernel) ?_
  refine lv_istore_n (lv' := [(2, .int (nI 1)), (0, .ref o), (1, .int (nI b))]) hx hb dc_Vf_firstBad_9 rfl hl (by decide) rfl (fun ls hl => ?_)
  have lp_10 : ∀ (K : Nat) (i : Nat) (lk : Nat) (nk : Nat) (ck1 : Bool) (n1 : Nat) (t1 : Nat) (f1 : Nat) (rs1 : Nat → Nat) (im1 : Nat → Nat) (H : Heap) (locs : List Loc) (ls : Array Slot), sn + 1 - i < K → va_P D kc_l [vf_c o xc xs xt xa lk nk ck1, cl_c xc ca cb cd cn, ar_n cI ca 33 fz, ar_n cI cb 33 fs, ar_i cI cd (33 * 8) fl, as_c xa aa ab n1 t1 f1, ar_n cI aa 8 rs1, ar_n cI ab 8 im1, tr_c xt ta tb td g mk ckd, ar_n cI ta 33 ft, ar_n cI tb 33 fc, ar_i cI td 2048 fr, sp_c xs sa sb sn sop, ar_b cZ sa 17 dl, ar_n cI sb 17 nu] H → va_D A [vf_c o xc xs xt xa lk nk ck1, cl_c xc ca cb cd cn, ar_n cI ca 33 fz, ar_n cI cb 33 fs, ar_i cI cd (33 * 8) fl, as_c xa aa ab n1 t1 f1, ar_n cI aa 8 rs1, ar_n cI ab 8 im1, tr_c xt ta tb td g mk ckd, ar_n cI ta 33 ft, ar_n cI tb 33 fc, ar_i cI td 2048 fr, sp_c xs sa sb sn sop, ar_b cZ sa 17 dl, ar_n cI sb 17 nu] → va_S A s.heap H locs → lv_has ls 4 [(2, .int (nI i)), (0, .ref o), (1, .int (nI b))] → (pt_fb fs fz pb cn dl nu mk ft fc fr (sn + 1 - i) i lk nk ck1 n1 t1 f1 rs1 im1 = pt_fb fs fz pb cn dl nu mk ft fc fr sn 1 (2 ^ (b + 1) - 2) nx cf n t f rs im) → (1 ≤ i ∧ i ≤ sn + 1) → (lk < 2 ^ 62) → W p l e ({ frames := 5, cells := 0, slots := 0, locals := 111 } : Room) s m ([.ref o, .int (nI b)] : List Value).toArray below meth c H locs 0 0 (MQ below (kw_q (some (.int (nI ((pt_fb fs fz pb cn dl nu mk ft fc fr sn 1 (2 ^ (b + 1) - 2) nx cf n t f rs im).1)))) D kc_l [vf_c o xc xs xt xa ((pt_fb fs fz pb cn dl nu mk ft fc fr sn 1 (2 ^ (b + 1) - 2) nx cf n t f rs im).2.1) ((pt_fb fs fz pb cn dl nu mk ft fc fr sn 1 (2 ^ (b + 1) - 2) nx cf n t f rs im).2.2.1) ((pt_fb fs fz pb cn dl nu mk ft fc fr sn 1 (2 ^ (b + 1) - 2) nx cf n t f rs im).2.2.2.1), cl_c xc ca cb cd cn, ar_n cI ca 33 fz, ar_n cI cb 33 fs, ar_i cI cd (33 * 8) fl, as_c xa aa ab ((pt_fb fs fz pb cn dl nu mk ft fc fr sn 1 (2 ^ (b + 1) - 2) nx cf n t f rs im).2.2.2.2.1) ((pt_fb fs fz pb cn dl nu mk ft fc fr sn 1 (2 ^ (b + 1) - 2) nx cf n t f rs im).2.2.2.2.2.1) ((pt_fb fs fz pb cn dl nu mk ft fc fr sn 1 (2 ^ (b + 1) - 2) nx cf n t f rs im).2.2.2.2.2.2.1), ar_n cI aa 8 ((pt_fb fs fz pb cn dl nu mk ft fc fr sn 1 (2 ^ (b + 1) - 2) nx cf n t f rs im).2.2.2.2.2.2.2.1), ar_n cI ab 8 ((pt_fb fs fz pb cn dl nu mk ft fc fr sn 1 (2 ^ (b + 1) - 2) nx cf n t f rs im).2.2.2.2.2.2.2.2), tr_c xt ta tb td g mk ckd, ar_n cI ta 33 ft, ar_n cI tb 33 fc, ar_i cI td 2048 fr, sp_c xs sa sb sn sop, ar_b cZ sa 17 dl, ar_n cI sb 17 nu] A) ([.ref o, .int (nI b)] : List Value).toArray s 0 0 A) (F0 m 10 ls []) := by
    intro K
    induction K with
    | zero =>
      intro i lk nk ck1 n1 t1 f1 rs1 im1 H locs ls hk
      exact absurd hk (Nat.not_lt_zero _)
    | succ K ih =>
      intro i lk nk ck1 n1 t1 f1 rs1 im1 H locs ls hk hP hD hS hl h1 h2 hl62
      refine lv_iload_n hx hb dc_Vf_firstBad_10 rfl (lv_at hl 0 rfl) ?_
      refine lv_aload_n hx hb dc_Vf_firstBad_11 rfl (lv_at hl 1 rfl) ?_
      refine va_get (ci := 8) (v := .ref xs) (C := rn_Vf) (T := fd_Vf) (N := 7) hx hb hts in_Vf hown hK hP 0 rfl rfl 1 (by decide) (hts _ wd_678) (fun _ h9 => h9) rfl dc_Vf_firstBad_12 ?_
      refine va_getN (ci := 4) (v := .int (nI sn)) (C := rn_Sp) (T := fd_Sp) (N := 4) hx hb hts in_Sp hown hK hP 12 rfl rfl 2 (by decide) (nf_115 hN) (fun _ h9 => h9) rfl dc_Vf_firstBad_15 ?_
      refine kn_icmp_gt hx hb (by omega) (by omega) dc_Vf_firstBad_18 rfl (fun hc18 => ?_) (fun hc18 => ?_)
      · refine lv_iconst (v := nI 0) hx hb dc_Vf_firstBad_106 (by decide +kernel) ?_
        exact kw_iret hx hb hr hlocks hP hD hS dc_Vf_firstBad_107 (by rw [← h1, show sn + 1 - i = 0 by omega, pt_fb]) (by rw [← h1, show sn + 1 - i = 0 by omega, pt_fb])
      · refine lv_aload_n hx hb dc_Vf_firstBad_21 rfl (lv_at hl 1 rfl) ?_
        refine va_get (ci := 8) (v := .ref xs) (C := rn_Vf) (T := fd_Vf) (N := 7) hx hb hts in_Vf hown hK hP 0 rfl rfl 1 (by decide) (hts _ wd_678) (fun _ h9 => h9) rfl dc_Vf_firstBad_22 ?_
        refine va_getN (ci := 4) (v := .ref sb) (C := rn_Sp) (T := fd_Sp) (N := 4) hx hb hts in_Sp hown hK hP 12 rfl rfl 1 (by decide) (nf_111 hN) (fun _ h9 => h9) rfl dc_Vf_firstBad_25 ?_
        refine lv_iload_n hx hb dc_Vf_firstBad_28 rfl (lv_at hl 0 rfl) ?_
        refine ka_nald (t := nu) hx hb hK hP 14 0 rfl rfl (j := i) (by omega) (by omega) dc_Vf_firstBad_29 ?_
        refine lv_istore_n (lv' := [(3, .int (nI (nu i))), (2, .int (nI i)), (0, .ref o), (1, .int (nI b))]) hx hb dc_Vf_firstBad_30 rfl hl (by decide) rfl (fun ls hl => ?_)
        refine lv_aload_n hx hb dc_Vf_firstBad_31 rfl (lv_at hl 2 rfl) ?_
        refine va_get (ci := 8) (v := .ref xs) (C := rn_Vf) (T := fd_Vf) (N := 7) hx hb hts in_Vf hown hK hP 0 rfl rfl 1 (by decide) (hts _ wd_678) (fun _ h9 => h9) rfl dc_Vf_firstBad_32 ?_
        refine va_getN (ci := 4) (v := .ref sa) (C := rn_Sp) (T := fd_Sp) (N := 4) hx hb hts in_Sp hown hK hP 12 rfl rfl 0 (by decide) (nf_107 hN) (fun _ h9 => h9) rfl dc_Vf_firstBad_35 ?_
        refine lv_iload_n hx hb dc_Vf_firstBad_38 rfl (lv_at hl 1 rfl) ?_
        refine ka_bald (t := dl) hx hb hK hP 13 1 rfl rfl (j := i) (by omega) (by omega) dc_Vf_firstBad_39 ?_
        refine kb_if_eq hx hb dc_Vf_firstBad_40 rfl (fun hc40 => ?_) (fun hc40 => ?_)
        · refine lv_aload_n hx hb dc_Vf_firstBad_63 rfl (lv_at hl 2 rfl) ?_
          refine va_get (ci := 8) (v := .ref xt) (C := rn_Vf) (T := fd_Vf) (N := 7) hx hb hts in_Vf hown hK hP 0 rfl rfl 2 (by decide) (hts _ wd_679) (fun _ h9 => h9) rfl dc_Vf_firstBad_64 ?_
          refine va_getN (ci := 5) (v := .long (lN mk)) (C := rn_Tr) (T := fd_Tr) (N := 6) hx hb hts in_Tr hown hK hP 8 rfl rfl 4 (by decide) (nf_141 hN) (fun _ h9 => h9) rfl dc_Vf_firstBad_67 ?_
          refine lv_iload_n hx hb dc_Vf_firstBad_70 rfl (lv_at hl 0 rfl) ?_
          refine kr_call1 (va_runSN (As := [.long (lN mk), .int (nI (nu i))]) (rest := []) ⟨hx, hb, hml, hown, hts⟩ (ct_Pt_contains l D cI cZ _ mk (nu i) (hm62) (by have := hnu i; omega)) ⟨va_cnB 2 hts (kx_gi wd_262) rfl rfl rfl (nw_706 hN) (hts _ wd_1) yd_Pt_contains ⟨Nat.le_of_ble_eq_true rfl, Nat.le_of_ble_eq_true rfl⟩, hts _ wd_261, trivial⟩ (kp_S hP hD hK hN [] rfl rfl) rfl rfl hl.1 rfl (lv_room (Nat.le_of_ble_eq_true rfl)) dc_Vf_firstBad_71 ⟨Nat.le_of_ble_eq_true rfl, Nat.le_of_ble_eq_true rfl⟩) ?_
          refine kb_if_eq hx hb dc_Vf_firstBad_74 rfl (fun hc74 => ?_) (fun hc74 => ?_)
          · have hst : pt_fb fs fz pb cn dl nu mk ft fc fr (sn + 1 - i) i lk nk ck1 n1 t1 f1 rs1 im1 = pt_fb fs fz pb cn dl nu mk ft fc fr (sn + 1 - (i + 1)) (i + 1) lk nk ck1 n1 t1 f1 rs1 im1 := by
              rw [show sn + 1 - i = (sn + 1 - (i + 1)) + 1 by omega, pt_fb, if_neg (by rw [hc40]; decide), if_pos hc74]
            refine lv_iinc (k := 1) (v := nI (i + 1)) (lv' := [(2, .int (nI (i + 1))), (3, .int (nI (nu i))), (0, .ref o), (1, .int (nI b))]) hx hb dc_Vf_firstBad_100 hl rfl (nI_1 _) (by decide) rfl (fun ls hl => ?_)
            refine lv_goto hx hb dc_Vf_firstBad_103 rfl ?_
            have hl := lv_sub (l' := [(2, .int (nI (i + 1))), (0, .ref o), (1, .int (nI b))]) hl [0, 2, 3] rfl
            exact ih _ _ _ _ _ _ _ _ _ _ _ _ (by omega) hP hD hS hl (by rw [← h1, hst]) (⟨by omega, by omega⟩) (hl62)
          · have hst : pt_fb fs fz pb cn dl nu mk ft fc fr (sn + 1 - i) i lk nk ck1 n1 t1 f1 rs1 im1 = (if (pt_good fs lk cn (fz (nu i)) (pb (nu i)) (fs (nu i)) (fun k => pt_hv ft fc fr (nu i) k) (pt_hc fc (nu i)) rs1 im1).1 = true then pt_fb fs fz pb cn dl nu mk ft fc fr (sn + 1 - (i + 1)) (i + 1) (lk ||| 2 ^ nu i) (pt_good fs lk cn (fz (nu i)) (pb (nu i)) (fs (nu i)) (fun k => pt_hv ft fc fr (nu i) k) (pt_hc fc (nu i)) rs1 im1).2.1 (pt_good fs lk cn (fz (nu i)) (pb (nu i)) (fs (nu i)) (fun k => pt_hv ft fc fr (nu i) k) (pt_hc fc (nu i)) rs1 im1).2.2.1 (pt_good fs lk cn (fz (nu i)) (pb (nu i)) (fs (nu i)) (fun k => pt_hv ft fc fr (nu i) k) (pt_hc fc (nu i)) rs1 im1).2.2.2.1 (pt_good fs lk cn (fz (nu i)) (pb (nu i)) (fs (nu i)) (fun k => pt_hv ft fc fr (nu i) k) (pt_hc fc (nu i)) rs1 im1).2.2.2.2.1 (pt_good fs lk cn (fz (nu i)) (pb (nu i)) (fs (nu i)) (fun k => pt_hv ft fc fr (nu i) k) (pt_hc fc (nu i)) rs1 im1).2.2.2.2.2.1 (pt_good fs lk cn (fz (nu i)) (pb (nu i)) (fs (nu i)) (fun k => pt_hv ft fc fr (nu i) k) (pt_hc fc (nu i)) rs1 im1).2.2.2.2.2.2.1 (pt_good fs lk cn (fz (nu i)) (pb (nu i)) (fs (nu i)) (fun k => pt_hv ft fc fr (nu i) k) (pt_hc fc (nu i)) rs1 im1).2.2.2.2.2.2.2 else (nu i, lk, (pt_good fs lk cn (fz (nu i)) (pb (nu i)) (fs (nu i)) (fun k => pt_hv ft fc fr (nu i) k) (pt_hc fc (nu i)) rs1 im1).2)) := by
              rw [show sn + 1 - i = (sn + 1 - (i + 1)) + 1 by omega, pt_fb, if_neg (by rw [hc40]; decide), if_neg (by rw [hc74]; decide)]
            refine lv_aload_n hx hb dc_Vf_firstBad_77 rfl (lv_at hl 2 rfl) ?_
            refine lv_iload_n hx hb dc_Vf_firstBad_78 rfl (lv_at hl 0 rfl) ?_
            refine kw_call1 (wr := [sp_c xs sa sb sn sop, ar_b cZ sa 17 dl, ar_n cI sb 17 nu]) (ws' := [vf_c o xc xs xt xa lk ((pt_good fs lk cn (fz (nu i)) (pb (nu i)) (fs (nu i)) (fun k => pt_hv ft fc fr (nu i) k) (pt_hc fc (nu i)) rs1 im1).2.1) ((pt_good fs lk cn (fz (nu i)) (pb (nu i)) (fs (nu i)) (fun k => pt_hv ft fc fr (nu i) k) (pt_hc fc (nu i)) rs1 im1).2.2.1), cl_c xc ca cb cd cn, ar_n cI ca 33 fz, ar_n cI cb 33 fs, ar_i cI cd (33 * 8) fl, as_c xa aa ab ((pt_good fs lk cn (fz (nu i)) (pb (nu i)) (fs (nu i)) (fun k => pt_hv ft fc fr (nu i) k) (pt_hc fc (nu i)) rs1 im1).2.2.2.1) ((pt_good fs lk cn (fz (nu i)) (pb (nu i)) (fs (nu i)) (fun k => pt_hv ft fc fr (nu i) k) (pt_hc fc (nu i)) rs1 im1).2.2.2.2.1) ((pt_good fs lk cn (fz (nu i)) (pb (nu i)) (fs (nu i)) (fun k => pt_hv ft fc fr (nu i) k) (pt_hc fc (nu i)) rs1 im1).2.2.2.2.2.1), ar_n cI aa 8 ((pt_good fs lk cn (fz (nu i)) (pb (nu i)) (fs (nu i)) (fun k => pt_hv ft fc fr (nu i) k) (pt_hc fc (nu i)) rs1 im1).2.2.2.2.2.2.1), ar_n cI ab 8 ((pt_good fs lk cn (fz (nu i)) (pb (nu i)) (fs (nu i)) (fun k => pt_hv ft fc fr (nu i) k) (pt_hc fc (nu i)) rs1 im1).2.2.2.2.2.2.2), tr_c xt ta tb td g mk ckd, ar_n cI ta 33 ft, ar_n cI tb 33 fc, ar_i cI td 2048 fr, sp_c xs sa sb sn sop, ar_b cZ sa 17 dl, ar_n cI sb 17 nu]) (va_runV (As := [.int (nI (nu i))]) (rest := []) ⟨hx, hb, hml, hown, hts⟩ (ct_Vf_isGood l D cI cZ _ o xc xs xt xa lk nk ck1 ca cb cd cn fz fs fl aa ab n1 t1 f1 rs1 im1 ta tb td g mk ckd ft fc fr (nu i) (qb (nu i)) (pb (nu i)) (hcn) (h16) (hl62) (hb0) (hz) (hadd i (by omega) (by omega) hc40) (hnu i) (hlit (nu i) (hadd i (by omega) (by omega) hc40) (hnu i))) (cwV 1 hts (kx_gV wd_707 wd_709 (kx_sel (q := (yn_Vf_isGood, 7)) (List.mem_append_left _ (List.mem_of_getElem? (i := 8) rfl))) wd_22 wd_710) rfl rfl rfl ⟨rfl, yd_Vf_isGood⟩ ⟨Nat.le_of_ble_eq_true rfl, Nat.le_of_ble_eq_true rfl⟩) (kp_V (q0 := 0) (ci := 8) hP hD hK hN [0, 1, 2, 3, 4, 5, 6, 7, 8, 9, 10, 11] rfl rfl rfl rfl rfl) rfl rfl hl.1 rfl (lv_room (Nat.le_of_ble_eq_true rfl)) dc_Vf_firstBad_79 ⟨Nat.le_of_ble_eq_true rfl, Nat.le_of_ble_eq_true rfl⟩) hP hD hS hA [0, 1, 2, 3, 4, 5, 6, 7, 8, 9, 10, 11] [12, 13, 14] [3, 4, 5, 6, 7, 8, 9, 10, 11, 12, 13, 14, 0, 1, 2] rfl rfl rfl (by decide) rfl rfl (fun H locs hP hD hS => ?_)
            generalize hGe : pt_good fs lk cn (fz (nu i)) (pb (nu i)) (fs (nu i)) (fun k => pt_hv ft fc fr (nu i) k) (pt_hc fc (nu i)) rs1 im1 = GG at hP hD hst ⊢
            refine kb_if_ne hx hb dc_Vf_firstBad_82 rfl (fun hc82 => ?_) (fun hc82 => ?_)
            · refine lv_aload_n hx hb dc_Vf_firstBad_87 rfl (lv_at hl 2 rfl) ?_
              refine lv_dup hx hb dc_Vf_firstBad_88 rfl ?_
              refine va_get (ci := 8) (v := .long (lN lk)) (C := rn_Vf) (T := fd_Vf) (N := 7) hx hb hts in_Vf hown hK hP 0 rfl rfl 4 (by decide) (hts _ wd_681) (fun _ h9 => h9) rfl dc_Vf_firstBad_89 ?_
              refine lv_iload_n hx hb dc_Vf_firstBad_92 rfl (lv_at hl 0 rfl) ?_
              refine kr_call1 (va_runSN (As := [.int (nI (nu i))]) (rest := [.long (lN lk), .ref o]) ⟨hx, hb, hml, hown, hts⟩ (ct_Pt_one l D cI cZ _ (nu i) (by have := hnu i; omega)) ⟨va_cnB 1 hts (kx_gi wd_559) rfl rfl rfl (nw_704 hN) (hts _ wd_1) yd_Pt_one ⟨Nat.le_of_ble_eq_true rfl, Nat.le_of_ble_eq_true rfl⟩, hts _ wd_558, trivial⟩ (kp_S hP hD hK hN [] rfl rfl) rfl rfl hl.1 rfl (lv_room (Nat.le_of_ble_eq_true rfl)) dc_Vf_firstBad_93 ⟨Nat.le_of_ble_eq_true rfl, Nat.le_of_ble_eq_true rfl⟩) ?_
              refine kl_lor hx hb dc_Vf_firstBad_96 ?_
              refine va_put (ci := 8) (v := .long (lN (lk ||| (2 ^ (nu i))))) (ty := .long) (C := rn_Vf) (T := fd_Vf) (N := 7) hx hb hts in_Vf ty_Vf tk_Vf nm_Vf hown hK hP hD hS 0 rfl rfl 4 (by decide) (hts _ wd_681) (fun _ h9 => h9) rfl (by decide +kernel) rfl rfl (Nat.le_of_ble_eq_true rfl) dc_Vf_firstBad_97 (fun H locs hP hD hS => ?_)
              have hP : va_P D kc_l [vf_c o xc xs xt xa (lk ||| (2 ^ (nu i))) GG.2.1 GG.2.2.1, cl_c xc ca cb cd cn, ar_n cI ca 33 fz, ar_n cI cb 33 fs, ar_i cI cd (33 * 8) fl, as_c xa aa ab GG.2.2.2.1 GG.2.2.2.2.1 GG.2.2.2.2.2.1, ar_n cI aa 8 GG.2.2.2.2.2.2.1, ar_n cI ab 8 GG.2.2.2.2.2.2.2, tr_c xt ta tb td g mk ckd, ar_n cI ta 33 ft, ar_n cI tb 33 fc, ar_i cI td 2048 fr, sp_c xs sa sb sn sop, ar_b cZ sa 17 dl, ar_n cI sb 17 nu] H := hP
              have hD : va_D A [vf_c o xc xs xt xa (lk ||| (2 ^ (nu i))) GG.2.1 GG.2.2.1, cl_c xc ca cb cd cn, ar_n cI ca 33 fz, ar_n cI cb 33 fs, ar_i cI cd (33 * 8) fl, as_c xa aa ab GG.2.2.2.1 GG.2.2.2.2.1 GG.2.2.2.2.2.1, ar_n cI aa 8 GG.2.2.2.2.2.2.1, ar_n cI ab 8 GG.2.2.2.2.2.2.2, tr_c xt ta tb td g mk ckd, ar_n cI ta 33 ft, ar_n cI tb 33 fc, ar_i cI td 2048 fr, sp_c xs sa sb sn sop, ar_b cZ sa 17 dl, ar_n cI sb 17 nu] := hD
              refine lv_iinc (k := 1) (v := nI (i + 1)) (lv' := [(2, .int (nI (i + 1))), (3, .int (nI (nu i))), (0, .ref o), (1, .int (nI b))]) hx hb dc_Vf_firstBad_100 hl rfl (nI_1 _) (by decide) rfl (fun ls hl => ?_)
              refine lv_goto hx hb dc_Vf_firstBad_103 rfl ?_
              have hl := lv_sub (l' := [(2, .int (nI (i + 1))), (0, .ref o), (1, .int (nI b))]) hl [0, 2, 3] rfl
              exact ih _ _ _ _ _ _ _ _ _ _ _ _ (by omega) hP hD hS hl (by rw [← h1, hst, if_pos hc82]) (⟨by omega, by omega⟩) (Nat.or_lt_two_pow hl62 (Nat.pow_lt_pow_right (by decide) (by have := hnu i; omega)))
            · refine lv_iload_n hx hb dc_Vf_firstBad_85 rfl (lv_at hl 0 rfl) ?_
              exact kw_iret hx hb hr hlocks hP hD hS dc_Vf_firstBad_86 (by rw [← h1, hst, if_neg (by rw [hc82]; decide)]) (by rw [← h1, hst, if_neg (by rw [hc82]; decide)])
        · have hst : pt_fb fs fz pb cn dl nu mk ft fc fr (sn + 1 - i) i lk nk ck1 n1 t1 f1 rs1 im1 = pt_fb fs fz pb cn dl nu mk ft fc fr (sn + 1 - (i + 1)) (i + 1) (nb_d lk (2 ^ nu i)) nk ck1 n1 t1 f1 rs1 im1 := by
            rw [show sn + 1 - i = (sn + 1 - (i + 1)) + 1 by omega, pt_fb, if_pos hc40]
          refine lv_aload_n hx hb dc_Vf_firstBad_43 rfl (lv_at hl 2 rfl) ?_
          refine lv_dup hx hb dc_Vf_firstBad_44 rfl ?_
          refine va_get (ci := 8) (v := .long (lN lk)) (C := rn_Vf) (T := fd_Vf) (N := 7) hx hb hts in_Vf hown hK hP 0 rfl rfl 4 (by decide) (hts _ wd_681) (fun _ h9 => h9) rfl dc_Vf_firstBad_45 ?_
          refine lv_iload_n hx hb dc_Vf_firstBad_48 rfl (lv_at hl 0 rfl) ?_
          refine kr_call1 (va_runSN (As := [.int (nI (nu i))]) (rest := [.long (lN lk), .ref o]) ⟨hx, hb, hml, hown, hts⟩ (ct_Pt_one l D cI cZ _ (nu i) (by have := hnu i; omega)) ⟨va_cnB 1 hts (kx_gi wd_559) rfl rfl rfl (nw_704 hN) (hts _ wd_1) yd_Pt_one ⟨Nat.le_of_ble_eq_true rfl, Nat.le_of_ble_eq_true rfl⟩, hts _ wd_558, trivial⟩ (kp_S hP hD hK hN [] rfl rfl) rfl rfl hl.1 rfl (lv_room (Nat.le_of_ble_eq_true rfl)) dc_Vf_firstBad_49 ⟨Nat.le_of_ble_eq_true rfl, Nat.le_of_ble_eq_true rfl⟩) ?_
          refine kl_ldc2 (y := (-1)) hx hb hown (hts _ wd_705) dc_Vf_firstBad_52 (by decide +kernel) ?_
          refine lv_lxor hx hb dc_Vf_firstBad_55 ?_
          refine kl_lnot hx hb dc_Vf_firstBad_56 ?_
          refine va_put (ci := 8) (v := .long (lN (nb_d lk (2 ^ (nu i))))) (ty := .long) (C := rn_Vf) (T := fd_Vf) (N := 7) hx hb hts in_Vf ty_Vf tk_Vf nm_Vf hown hK hP hD hS 0 rfl rfl 4 (by decide) (hts _ wd_681) (fun _ h9 => h9) rfl (by decide +kernel) rfl rfl (Nat.le_of_ble_eq_true rfl) dc_Vf_firstBad_57 (fun H locs hP hD hS => ?_)
          have hP : va_P D kc_l [vf_c o xc xs xt xa (nb_d lk (2 ^ (nu i))) nk ck1, cl_c xc ca cb cd cn, ar_n cI ca 33 fz, ar_n cI cb 33 fs, ar_i cI cd (33 * 8) fl, as_c xa aa ab n1 t1 f1, ar_n cI aa 8 rs1, ar_n cI ab 8 im1, tr_c xt ta tb td g mk ckd, ar_n cI ta 33 ft, ar_n cI tb 33 fc, ar_i cI td 2048 fr, sp_c xs sa sb sn sop, ar_b cZ sa 17 dl, ar_n cI sb 17 nu] H := hP
          have hD : va_D A [vf_c o xc xs xt xa (nb_d lk (2 ^ (nu i))) nk ck1, cl_c xc ca cb cd cn, ar_n cI ca 33 fz, ar_n cI cb 33 fs, ar_i cI cd (33 * 8) fl, as_c xa aa ab n1 t1 f1, ar_n cI aa 8 rs1, ar_n cI ab 8 im1, tr_c xt ta tb td g mk ckd, ar_n cI ta 33 ft, ar_n cI tb 33 fc, ar_i cI td 2048 fr, sp_c xs sa sb sn sop, ar_b cZ sa 17 dl, ar_n cI sb 17 nu] := hD
          refine lv_goto hx hb dc_Vf_firstBad_60 rfl ?_
          refine lv_iinc (k := 1) (v := nI (i + 1)) (lv' := [(2, .int (nI (i + 1))), (3, .int (nI (nu i))), (0, .ref o), (1, .int (nI b))]) hx hb dc_Vf_firstBad_100 hl rfl (nI_1 _) (by decide) rfl (fun ls hl => ?_)
          refine lv_goto hx hb dc_Vf_firstBad_103 rfl ?_
          have hl := lv_sub (l' := [(2, .int (nI (i + 1))), (0, .ref o), (1, .int (nI b))]) hl [0, 2, 3] rfl
          exact ih _ _ _ _ _ _ _ _ _ _ _ _ (by omega) hP hD hS hl (by rw [← h1, hst]) (⟨by omega, by omega⟩) (nb_d_lt hl62)
  exact lp_10 _ _ _ _ _ _ _ _ _ _ _ _ _ (Nat.lt_succ_self _) hP hD hS hl (rfl) (⟨by omega, by omega⟩) (Nat.lt_of_le_of_lt (Nat.sub_le _ _) (Nat.pow_lt_pow_right (by decide) (by omega)))

set_option maxHeartbeats 4000000 in
set_option maxRecDepth 100000 in
theorem ct_Vf_init (l : Launch) (D : va_G) (cI cZ : ClassId) (sz : Nat) (o : Nat) (xc : Nat) (xs : Nat) (xt : Nat) (xa : Nat)  : Met l yn_Vf_init (Cond.code yn_Vf_init bc_Vf_init 5 none :: kx_all) ({ frames := 1, cells := 0, slots := 0, locals := 12 } : Room) (kp [.ref o, .ref xc, .ref xs, .ref xt, .ref xa] D cI cZ [(o, .inr (8, [.null, .null, .null, .null, .long 0, .int 0, .int 0]))] sz) (kw_q none D kc_l [vf_c o xc xs xt xa 0 0 false] (va_A [(o, .inr (8, [.null, .null, .null, .null, .long 0, .int 0, .int 0]))] sz)) 0 0 (va_A [(o, .inr (8, [.null, .null, .null, .null, .long 0, .int 0, .int 0]))] sz) := by
  refine kx_metW (by decide) (Nat.le_of_ble_eq_true rfl) ?_
  intro p e s m below meth c ls A hx hb hr hml hts hown hlocks hin hA hP hK hD hN hl hS
  have hown : s.vm.findClass rn_Vf = some m.cls := hown
  have hl : lv_has ls 5 [(0, .ref o), (1, .ref xc), (2, .ref xs), (3, .ref xt), (4, .ref xa)] := hl
  refine lv_aload_n hx hb dc_Vf_init_0 rfl (lv_at hl 0 rfl) ?_
  refine W.objInit hx hb hown (hts _ wd_676) (hts _ wd_29) (hts _ wd_30) rfl (by rw [hml]; exact hl.1) rfl dc_Vf_init_1 (Nat.le_of_ble_eq_true rfl) (Nat.le_of_ble_eq_true rfl) ?_
  refine W.eq (g2 := F0 m 4 ls []) rfl ?_
  refine lv_aload_n hx hb dc_Vf_init_4 rfl (lv_at hl 0 rfl) ?_
  refine lv_aload_n hx hb dc_Vf_init_5 rfl (lv_at hl 1 rfl) ?_
  refine va_putF (ci := 8) (v := .ref xc) (ty := .object "ProofTrimmer$Clauses") (C := rn_Vf) (T := fd_Vf) (N := 7) hx hb hts in_Vf ty_Vf tk_Vf nm_Vf hown hK hP hD hS 0 rfl rfl 0 (by decide) (hts _ wd_677) (fun _ h9 => h9) rfl hin rfl (by decide +kernel) rfl rfl (Nat.le_of_ble_eq_true rfl) dc_Vf_init_6 (fun H locs hP hD hS => ?_)
  have hP : va_P D kc_l [(o, .inr (8, [.ref xc, .null, .null, .null, .long 0, .int 0, .int 0]))] H := hP
  have hD : va_D A [(o, .inr (8, [.ref xc, .null, .null, .null, .long 0, .int 0, .int 0]))] := hD
  refine lv_aload_n hx hb dc_Vf_init_9 rfl (lv_at hl 0 rfl) ?_
  refine lv_aload_n hx hb dc_Vf_init_10 rfl (lv_at hl 2 rfl) ?_
  refine va_putF (ci := 8) (v := .ref xs) (ty := .object "ProofTrimmer$Steps") (C := rn_Vf) (T := fd_Vf) (N := 7) hx hb hts in_Vf ty_Vf tk_Vf nm_Vf hown hK hP hD hS 0 rfl rfl 1 (by decide) (hts _ wd_678) (fun _ h9 => h9) rfl hin rfl (by decide +kernel) rfl rfl (Nat.le_of_ble_eq_true rfl) dc_Vf_init_11 (fun H locs hP hD hS => ?_)
  have hP : va_P D kc_l [(o, .inr (8, [.ref xc, .ref xs, .null, .null, .long 0, .int 0, .int 0]))] H := hP
  have hD : va_D A [(o, .inr (8, [.ref xc, .ref xs, .null, .null, .long 0, .int 0, .int 0]))] := hD
  refine lv_aload_n hx hb dc_Vf_init_14 rfl (lv_at hl 0 rfl) ?_
  refine lv_aload_n hx hb dc_Vf_init_15 rfl (lv_at hl 3 rfl) ?_
  refine va_putF (ci := 8) (v := .ref xt) (ty := .object "ProofTrimmer$Trace") (C := rn_Vf) (T := fd_Vf) (N := 7) hx hb hts in_Vf ty_Vf tk_Vf nm_Vf hown hK hP hD hS 0 rfl rfl 2 (by decide) (hts _ wd_679) (fun _ h9 => h9) rfl hin rfl (by decide +kernel) rfl rfl (Nat.le_of_ble_eq_true rfl) dc_Vf_init_16 (fun H locs hP hD hS => ?_)
  have hP : va_P D kc_l [(o, .inr (8, [.ref xc, .ref xs, .ref xt, .null, .long 0, .int 0, .int 0]))] H := hP
  have hD : va_D A [(o, .inr (8, [.ref xc, .ref xs, .ref xt, .null, .long 0, .int 0, .int 0]))] := hD
  refine lv_aload_n hx hb dc_Vf_init_19 rfl (lv_at hl 0 rfl) ?_
  refine lv_aload hx hb dc_Vf_init_20 (lv_at hl 4 rfl) ?_
  refine va_putF (ci := 8) (v := .ref xa) (ty := .object "ProofTrimmer$Assignment") (C := rn_Vf) (T := fd_Vf) (N := 7) hx hb hts in_Vf ty_Vf tk_Vf nm_Vf hown hK hP hD hS 0 rfl rfl 3 (by decide) (hts _ wd_680) (fun _ h9 => h9) rfl hin rfl (by decide +kernel) rfl rfl (Nat.le_of_ble_eq_true rfl) dc_Vf_init_22 (fun H locs hP hD hS => ?_)
  have hP : va_P D kc_l [(o, .inr (8, [.ref xc, .ref xs, .ref xt, .ref xa, .long 0, .int 0, .int 0]))] H := hP
  have hD : va_D A [(o, .inr (8, [.ref xc, .ref xs, .ref xt, .ref xa, .long 0, .int 0, .int 0]))] := hD
  exact kw_vret hx hb hr hlocks hP hD hS dc_Vf_init_25 (rfl)
end
section
/-! the steps are taken over -/
abbrev pt_T : Type := Nat × (Nat → Nat) × (Nat → Nat) × (Nat → Int32) × Nat × Bool × (Nat → Bool) × (Nat → Nat)
/-- from step i on, k of them: the clauses (how many, sizes, sets, literals), the steps (how many, open, what they do, their numbers) -/
def pt_set (gz gs : Nat → Nat) (gl : Nat → Int32) (dd : Nat → Bool) : Nat → Nat → Nat → Nat → (Nat → Nat) → (Nat → Nat) → (Nat → Int32) → Nat → Bool → (Nat → Bool) → (Nat → Nat) → pt_T
  | 0, _, _, n, fz, fs, fl, k, op, dl, nu => (n, fz, fs, fl, k, op, dl, nu)
  | r + 1, i, lv, n, fz, fs, fl, k, op, dl, nu =>
    if op = false then (n, fz, fs, fl, k, op, dl, nu)
    else if dd i = true then
      pt_set gz gs gl dd r (i + 1) (nb_d lv (2 ^ pt_last (fun j => lv.testBit j && decide (fs j = gs i)) n)) n fz fs fl i op (va_up dl i (dd i)) (va_up nu i (pt_last (fun j => lv.testBit j && decide (fs j = gs i)) n))
    else pt_set gz gs gl dd r (i + 1) (lv ||| 2 ^ (n + 1)) (n + 1) (va_up fz (n + 1) (gz i)) (va_up fs (n + 1) (gs i)) (va_cpy gl fl (i * 8) ((n + 1) * 8) (gz i)) i (!decide (gz i = 0)) (va_up dl i (dd i)) (va_up nu i (n + 1))

theorem dc_Sp_settle_0 : decode bc_Sp_settle 0 = .ok (.aload_n 0, 1) := by decide +kernel
theorem dc_Sp_settle_1 : decode bc_Sp_settle 1 = .ok (.invokevirtual 27, 3) := by decide +kernel
theorem dc_Sp_settle_4 : decode bc_Sp_settle 4 = .ok (.aload_n 2, 1) := by decide +kernel
theorem dc_Sp_settle_5 : decode bc_Sp_settle 5 = .ok (.getfield 30, 3) := by decide +kernel
theorem dc_Sp_settle_8 : decode bc_Sp_settle 8 = .ok (.invokestatic 33, 3) := by decide +kernel
theorem dc_Sp_settle_11 : decode bc_Sp_settle 11 = .ok (.lstore_n 3, 1) := by decide +kernel
theorem dc_Sp_settle_12 : decode bc_Sp_settle 12 = .ok (.iconst 1, 1) := by decide +kernel
theorem dc_Sp_settle_13 : decode bc_Sp_settle 13 = .ok (.istore 5, 2) := by decide +kernel
theorem dc_Sp_settle_15 : decode bc_Sp_settle 15 = .ok (.iload 5, 2) := by decide +kernel
theorem dc_Sp_settle_17 : decode bc_Sp_settle 17 = .ok (.aload_n 1, 1) := by decide +kernel
theorem dc_Sp_settle_18 : decode bc_Sp_settle 18 = .ok (.getfield 37, 3) := by decide +kernel
theorem dc_Sp_settle_21 : decode bc_Sp_settle 21 = .ok (.getfield 30, 3) := by decide +kernel
theorem dc_Sp_settle_24 : decode bc_Sp_settle 24 = .ok (.if_icmp .gt (151), 3) := by decide +kernel
theorem dc_Sp_settle_27 : decode bc_Sp_settle 27 = .ok (.iload 5, 2) := by decide +kernel
theorem dc_Sp_settle_29 : decode bc_Sp_settle 29 = .ok (.bipush (16), 2) := by decide +kernel
theorem dc_Sp_settle_31 : decode bc_Sp_settle 31 = .ok (.if_icmp .gt (144), 3) := by decide +kernel
theorem dc_Sp_settle_34 : decode bc_Sp_settle 34 = .ok (.aload_n 0, 1) := by decide +kernel
theorem dc_Sp_settle_35 : decode bc_Sp_settle 35 = .ok (.getfield 23, 3) := by decide +kernel
theorem dc_Sp_settle_38 : decode bc_Sp_settle 38 = .ok (.ifCond .eq (137), 3) := by decide +kernel
theorem dc_Sp_settle_41 : decode bc_Sp_settle 41 = .ok (.aload_n 0, 1) := by decide +kernel
theorem dc_Sp_settle_42 : decode bc_Sp_settle 42 = .ok (.getfield 9, 3) := by decide +kernel
theorem dc_Sp_settle_45 : decode bc_Sp_settle 45 = .ok (.iload 5, 2) := by decide +kernel
theorem dc_Sp_settle_47 : decode bc_Sp_settle 47 = .ok (.aload_n 1, 1) := by decide +kernel
theorem dc_Sp_settle_48 : decode bc_Sp_settle 48 = .ok (.getfield 43, 3) := by decide +kernel
theorem dc_Sp_settle_51 : decode bc_Sp_settle 51 = .ok (.iload 5, 2) := by decide +kernel
theorem dc_Sp_settle_53 : decode bc_Sp_settle 53 = .ok (.baload, 1) := by decide +kernel
theorem dc_Sp_settle_54 : decode bc_Sp_settle 54 = .ok (.bastore, 1) := by decide +kernel
theorem dc_Sp_settle_55 : decode bc_Sp_settle 55 = .ok (.aload_n 0, 1) := by decide +kernel
theorem dc_Sp_settle_56 : decode bc_Sp_settle 56 = .ok (.getfield 9, 3) := by decide +kernel
theorem dc_Sp_settle_59 : decode bc_Sp_settle 59 = .ok (.iload 5, 2) := by decide +kernel
theorem dc_Sp_settle_61 : decode bc_Sp_settle 61 = .ok (.baload, 1) := by decide +kernel
theorem dc_Sp_settle_62 : decode bc_Sp_settle 62 = .ok (.ifCond .eq (45), 3) := by decide +kernel
theorem dc_Sp_settle_65 : decode bc_Sp_settle 65 = .ok (.aload_n 0, 1) := by decide +kernel
theorem dc_Sp_settle_66 : decode bc_Sp_settle 66 = .ok (.getfield 15, 3) := by decide +kernel
theorem dc_Sp_settle_69 : decode bc_Sp_settle 69 = .ok (.iload 5, 2) := by decide +kernel
theorem dc_Sp_settle_71 : decode bc_Sp_settle 71 = .ok (.aload_n 2, 1) := by decide +kernel
theorem dc_Sp_settle_72 : decode bc_Sp_settle 72 = .ok (.lload_n 3, 1) := by decide +kernel
theorem dc_Sp_settle_73 : decode bc_Sp_settle 73 = .ok (.aload_n 1, 1) := by decide +kernel
theorem dc_Sp_settle_74 : decode bc_Sp_settle 74 = .ok (.getfield 37, 3) := by decide +kernel
theorem dc_Sp_settle_77 : decode bc_Sp_settle 77 = .ok (.getfield 44, 3) := by decide +kernel
theorem dc_Sp_settle_80 : decode bc_Sp_settle 80 = .ok (.iload 5, 2) := by decide +kernel
theorem dc_Sp_settle_82 : decode bc_Sp_settle 82 = .ok (.iaload, 1) := by decide +kernel
theorem dc_Sp_settle_83 : decode bc_Sp_settle 83 = .ok (.invokevirtual 47, 3) := by decide +kernel
theorem dc_Sp_settle_86 : decode bc_Sp_settle 86 = .ok (.iastore, 1) := by decide +kernel
theorem dc_Sp_settle_87 : decode bc_Sp_settle 87 = .ok (.lload_n 3, 1) := by decide +kernel
theorem dc_Sp_settle_88 : decode bc_Sp_settle 88 = .ok (.aload_n 0, 1) := by decide +kernel
theorem dc_Sp_settle_89 : decode bc_Sp_settle 89 = .ok (.getfield 15, 3) := by decide +kernel
theorem dc_Sp_settle_92 : decode bc_Sp_settle 92 = .ok (.iload 5, 2) := by decide +kernel
theorem dc_Sp_settle_94 : decode bc_Sp_settle 94 = .ok (.iaload, 1) := by decide +kernel
theorem dc_Sp_settle_95 : decode bc_Sp_settle 95 = .ok (.invokestatic 51, 3) := by decide +kernel
theorem dc_Sp_settle_98 : decode bc_Sp_settle 98 = .ok (.ldc2_w 54, 3) := by decide +kernel
theorem dc_Sp_settle_101 : decode bc_Sp_settle 101 = .ok (.lxor, 1) := by decide +kernel
theorem dc_Sp_settle_102 : decode bc_Sp_settle 102 = .ok (.land, 1) := by decide +kernel
theorem dc_Sp_settle_103 : decode bc_Sp_settle 103 = .ok (.lstore_n 3, 1) := by decide +kernel
theorem dc_Sp_settle_104 : decode bc_Sp_settle 104 = .ok (.goto (59), 3) := by decide +kernel
theorem dc_Sp_settle_107 : decode bc_Sp_settle 107 = .ok (.aload_n 2, 1) := by decide +kernel
theorem dc_Sp_settle_108 : decode bc_Sp_settle 108 = .ok (.aload_n 1, 1) := by decide +kernel
theorem dc_Sp_settle_109 : decode bc_Sp_settle 109 = .ok (.getfield 37, 3) := by decide +kernel
theorem dc_Sp_settle_112 : decode bc_Sp_settle 112 = .ok (.iload 5, 2) := by decide +kernel
theorem dc_Sp_settle_114 : decode bc_Sp_settle 114 = .ok (.invokevirtual 56, 3) := by decide +kernel
theorem dc_Sp_settle_117 : decode bc_Sp_settle 117 = .ok (.aload_n 0, 1) := by decide +kernel
theorem dc_Sp_settle_118 : decode bc_Sp_settle 118 = .ok (.getfield 15, 3) := by decide +kernel
theorem dc_Sp_settle_121 : decode bc_Sp_settle 121 = .ok (.iload 5, 2) := by decide +kernel
theorem dc_Sp_settle_123 : decode bc_Sp_settle 123 = .ok (.aload_n 2, 1) := by decide +kernel
theorem dc_Sp_settle_124 : decode bc_Sp_settle 124 = .ok (.getfield 30, 3) := by decide +kernel
theorem dc_Sp_settle_127 : decode bc_Sp_settle 127 = .ok (.iastore, 1) := by decide +kernel
theorem dc_Sp_settle_128 : decode bc_Sp_settle 128 = .ok (.lload_n 3, 1) := by decide +kernel
theorem dc_Sp_settle_129 : decode bc_Sp_settle 129 = .ok (.aload_n 0, 1) := by decide +kernel
theorem dc_Sp_settle_130 : decode bc_Sp_settle 130 = .ok (.getfield 15, 3) := by decide +kernel
theorem dc_Sp_settle_133 : decode bc_Sp_settle 133 = .ok (.iload 5, 2) := by decide +kernel
theorem dc_Sp_settle_135 : decode bc_Sp_settle 135 = .ok (.iaload, 1) := by decide +kernel
theorem dc_Sp_settle_136 : decode bc_Sp_settle 136 = .ok (.invokestatic 51, 3) := by decide +kernel
theorem dc_Sp_settle_139 : decode bc_Sp_settle 139 = .ok (.lor, 1) := by decide +kernel
theorem dc_Sp_settle_140 : decode bc_Sp_settle 140 = .ok (.lstore_n 3, 1) := by decide +kernel
theorem dc_Sp_settle_141 : decode bc_Sp_settle 141 = .ok (.aload_n 0, 1) := by decide +kernel
theorem dc_Sp_settle_142 : decode bc_Sp_settle 142 = .ok (.aload_n 1, 1) := by decide +kernel
theorem dc_Sp_settle_143 : decode bc_Sp_settle 143 = .ok (.getfield 37, 3) := by decide +kernel
theorem dc_Sp_settle_146 : decode bc_Sp_settle 146 = .ok (.getfield 60, 3) := by decide +kernel
theorem dc_Sp_settle_149 : decode bc_Sp_settle 149 = .ok (.iload 5, 2) := by decide +kernel
theorem dc_Sp_settle_151 : decode bc_Sp_settle 151 = .ok (.iaload, 1) := by decide +kernel
theorem dc_Sp_settle_152 : decode bc_Sp_settle 152 = .ok (.ifCond .eq (7), 3) := by decide +kernel
theorem dc_Sp_settle_155 : decode bc_Sp_settle 155 = .ok (.iconst 1, 1) := by decide +kernel
theorem dc_Sp_settle_156 : decode bc_Sp_settle 156 = .ok (.goto (4), 3) := by decide +kernel
theorem dc_Sp_settle_159 : decode bc_Sp_settle 159 = .ok (.iconst 0, 1) := by decide +kernel
theorem dc_Sp_settle_160 : decode bc_Sp_settle 160 = .ok (.putfield 23, 3) := by decide +kernel
theorem dc_Sp_settle_163 : decode bc_Sp_settle 163 = .ok (.aload_n 0, 1) := by decide +kernel
theorem dc_Sp_settle_164 : decode bc_Sp_settle 164 = .ok (.iload 5, 2) := by decide +kernel
theorem dc_Sp_settle_166 : decode bc_Sp_settle 166 = .ok (.putfield 19, 3) := by decide +kernel
theorem dc_Sp_settle_169 : decode bc_Sp_settle 169 = .ok (.iinc 5 (1), 3) := by decide +kernel
theorem dc_Sp_settle_172 : decode bc_Sp_settle 172 = .ok (.goto (-157), 3) := by decide +kernel
theorem dc_Sp_settle_175 : decode bc_Sp_settle 175 = .ok (.return_, 1) := by decide +kernel
set_option maxHeartbeats 4000000 in
set_option maxRecDepth 100000 in
theorem ct_Sp_settle (l : Launch) (D : va_G) (cI cZ : ClassId) (sz : Nat) (o : Nat) (sa : Nat) (sb : Nat) (k : Nat) (op : Bool) (dl : Nat → Bool) (nu : Nat → Nat) (xd : Nat) (xr : Nat) (da : Nat) (dd : Nat → Bool) (ra : Nat) (rb : Nat) (rd : Nat) (k0 : Nat) (gz : Nat → Nat) (gs : Nat → Nat) (gl : Nat → Int32) (xc : Nat) (ca : Nat) (cb : Nat) (cd : Nat) (n : Nat) (fz : Nat → Nat) (fs : Nat → Nat) (fl : Nat → Int32) (bb : Nat → Nat → Nat) (pm : Nat → Nat → Nat) (hk16 : k0 ≤ 16) (hn32 : n + k0 ≤ 32) (h16 : ∀ j, fs j < 65536) (hg16 : ∀ j, gs j < 65536) (hrow : ∀ i, 1 ≤ i → i ≤ k0 → pt_row gl (i * 8) (gz i) (bb i) (pm i) (gs i)) : Met l yn_Sp_settle (Cond.code yn_Sp_settle bc_Sp_settle 6 none :: kx_all) ({ frames := 3, cells := 0, slots := 0, locals := 66 } : Room) (kp [.ref o, .ref xd, .ref xc] D cI cZ [sp_c o sa sb k op, ar_b cZ sa 17 dl, ar_n cI sb 17 nu, dr_c xd xr da, ar_b cZ da 17 dd, cl_c xr ra rb rd k0, ar_n cI ra 17 gz, ar_n cI rb 17 gs, ar_i cI rd (17 * 8) gl, cl_c xc ca cb cd n, ar_n cI ca 33 fz, ar_n cI cb 33 fs, ar_i cI cd (33 * 8) fl] sz) (kw_q none D kc_l [sp_c o sa sb ((pt_set gz gs gl dd k0 1 (2 ^ (n + 1) - 2) n fz fs fl 0 true dl nu).2.2.2.2.1) ((pt_set gz gs gl dd k0 1 (2 ^ (n + 1) - 2) n fz fs fl 0 true dl nu).2.2.2.2.2.1), ar_b cZ sa 17 ((pt_set gz gs gl dd k0 1 (2 ^ (n + 1) - 2) n fz fs fl 0 true dl nu).2.2.2.2.2.2.1), ar_n cI sb 17 ((pt_set gz gs gl dd k0 1 (2 ^ (n + 1) - 2) n fz fs fl 0 true dl nu).2.2.2.2.2.2.2), dr_c xd xr da, ar_b cZ da 17 dd, cl_c xr ra rb rd k0, ar_n cI ra 17 gz, ar_n cI rb 17 gs, ar_i cI rd (17 * 8) gl, cl_c xc ca cb cd ((pt_set gz gs gl dd k0 1 (2 ^ (n + 1) - 2) n fz fs fl 0 true dl nu).1), ar_n cI ca 33 ((pt_set gz gs gl dd k0 1 (2 ^ (n + 1) - 2) n fz fs fl 0 true dl nu).2.1), ar_n cI cb 33 ((pt_set gz gs gl dd k0 1 (2 ^ (n + 1) - 2) n fz fs fl 0 true dl nu).2.2.1), ar_i cI cd (33 * 8) ((pt_set gz gs gl dd k0 1 (2 ^ (n + 1) - 2) n fz fs fl 0 true dl nu).2.2.2.1)] (va_A [sp_c o sa sb k op, ar_b cZ sa 17 dl, ar_n cI sb 17 nu, dr_c xd xr da, ar_b cZ da 17 dd, cl_c xr ra rb rd k0, ar_n cI ra 17 gz, ar_n cI rb 17 gs, ar_i cI rd (17 * 8) gl, cl_c xc ca cb cd n, ar_n cI ca 33 fz, ar_n cI cb 33 fs, ar_i cI cd (33 * 8) fl] sz)) 0 0 (va_A [sp_c o sa sb k op, ar_b cZ sa 17 dl, ar_n cI sb 17 nu, dr_c xd xr da, ar_b cZ da 17 dd, cl_c xr ra rb rd k0, ar_n cI ra 17 gz, ar_n cI rb 17 gs, ar_i cI rd (17 * 8) gl, cl_c xc ca cb cd n, ar_n cI ca 33 fz, ar_n cI cb 33 fs, ar_i cI cd (33 * 8) fl] sz) := by
  refine kx_metW (by decide) (Nat.le_of_ble_eq_true rfl) ?_
  intro p e s m below meth c ls A hx hb hr hml hts hown hlocks hin hA hP hK hD hN hl hS
  have hown : s.vm.findClass rn_Sp = some m.cls := hown
  have hl : lv_has ls 6 [(0, .ref o), (1, .ref xd), (2, .ref xc)] := hl
  refine lv_aload_n hx hb dc_Sp_settle_0 rfl (lv_at hl 0 rfl) ?_
  refine kw_call0 (wr := [ar_b cZ sa 17 dl, ar_n cI sb 17 nu, dr_c xd xr da, ar_b cZ da 17 dd, cl_c xr ra rb rd k0, ar_n cI ra 17 gz, ar_n cI rb 17 gs, ar_i cI rd (17 * 8) gl, cl_c xc ca cb cd n, ar_n cI ca 33 fz, ar_n cI cb 33 fs, ar_i cI cd (33 * 8) fl]) (ws' := [sp_c o sa sb 0 true, ar_b cZ sa 17 dl, ar_n cI sb 17 nu, dr_c xd xr da, ar_b cZ da 17 dd, cl_c xr ra rb rd k0, ar_n cI ra 17 gz, ar_n cI rb 17 gs, ar_i cI rd (17 * 8) gl, cl_c xc ca cb cd n, ar_n cI ca 33 fz, ar_n cI cb 33 fs, ar_i cI cd (33 * 8) fl]) (va_runV (As := []) (rest := []) ⟨hx, hb, hml, hown, hts⟩ (ct_Sp_forget l D cI cZ _ o sa sb k op) (cwV 0 hts (kx_gV wd_547 wd_497 wd_498 wd_6 wd_499) rfl rfl rfl ⟨rfl, yd_Sp_forget⟩ ⟨Nat.le_of_ble_eq_true rfl, Nat.le_of_ble_eq_true rfl⟩) (kp_V (q0 := 0) (ci := 4) hP hD hK hN [0] rfl rfl rfl rfl rfl) rfl rfl hl.1 rfl (lv_room (Nat.le_of_ble_eq_true rfl)) dc_Sp_settle_1 ⟨Nat.le_of_ble_eq_true rfl, Nat.le_of_ble_eq_true rfl⟩) hP hD hS hA [0] [1, 2, 3, 4, 5, 6, 7, 8, 9, 10, 11, 12] [12, 0, 1, 2, 3, 4, 5, 6, 7, 8, 9, 10, 11] rfl rfl rfl (by decide) rfl rfl (fun H locs hP hD hS => ?_)
  refine lv_aload_n hx hb dc_Sp_settle_4 rfl (lv_at hl 2 rfl) ?_
  refine va_getN (ci := 2) (v := .int (nI n)) (C := rn_Cl) (T := fd_Cl) (N := 4) hx hb hts in_Cl hown hK hP 9 rfl rfl 3 (by decide) (nf_75 hN) (fun _ h9 => h9) rfl dc_Sp_settle_5 ?_
  refine kr_call1 (va_runSN (As := [.int (nI n)]) (rest := []) ⟨hx, hb, hml, hown, hts⟩ (ct_Pt_firstOnes l D cI cZ _ n (by omega)) ⟨va_cnB 1 hts (kx_gi wd_550) rfl rfl rfl (nw_548 hN) (hts _ wd_1) yd_Pt_firstOnes ⟨Nat.le_of_ble_eq_true rfl, Nat.le_of_ble_eq_true rfl⟩, hts _ wd_549, trivial⟩ (kp_S hP hD hK hN [] rfl rfl) rfl rfl hl.1 rfl (lv_room (Nat.le_of_ble_eq_true rfl)) dc_Sp_settle_8 ⟨Nat.le_of_ble_eq_true rfl, Nat.le_of_ble_eq_true rfl⟩) ?_
  refine lv_lstore_n (lv' := [(3, .long (lN (2 ^ (n + 1) - 2))), (0, .ref o), (1, .ref xd), (2, .ref xc)]) hx hb dc_Sp_settle_11 rfl hl (by decide) rfl (fun ls hl => ?_)
  refine lv_iconst (v := nI 1) hx hb dc_Sp_settle_12 (by decide +kernel) ?_
  refine lv_istore (lv' := [(5, .int (nI 1)), (3, .long (lN (2 ^ (n + 1) - 2))), (0, .ref o), (1, .ref xd), (2, .ref xc)]) hx hb dc_Sp_settle_13 hl (by decide) rfl (fun ls hl => ?_)
  have lp_15 : ∀ (K : Nat) (i : Nat) (lv : Nat) (n1 : Nat) (fz1 : Nat → Nat) (fs1 : Nat → Nat) (fl1 : Nat → Int32) (k1 : Nat) (op1 : Bool) (dl1 : Nat → Bool) (nu1 : Nat → Nat) (H : Heap) (locs : List Loc) (ls : Array Slot), k0 + 1 - i < K → va_P D kc_l [sp_c o sa sb k1 op1, ar_b cZ sa 17 dl1, ar_n cI sb 17 nu1, dr_c xd xr da, ar_b cZ da 17 dd, cl_c xr ra rb rd k0, ar_n cI ra 17 gz, ar_n cI rb 17 gs, ar_i cI rd (17 * 8) gl, cl_c xc ca cb cd n1, ar_n cI ca 33 fz1, ar_n cI cb 33 fs1, ar_i cI cd (33 * 8) fl1] H → va_D A [sp_c o sa sb k1 op1, ar_b cZ sa 17 dl1, ar_n cI sb 17 nu1, dr_c xd xr da, ar_b cZ da 17 dd, cl_c xr ra rb rd k0, ar_n cI ra 17 gz, ar_n cI rb 17 gs, ar_i cI rd (17 * 8) gl, cl_c xc ca cb cd n1, ar_n cI ca 33 fz1, ar_n cI cb 33 fs1, ar_i cI cd (33 * 8) fl1] → va_S A s.heap H locs → lv_has ls 6 [(5, .int (nI i)), (3, .long (lN lv)), (0, .ref o), (1, .ref xd), (2, .ref xc)] → (pt_set gz gs gl dd (k0 + 1 - i) i lv n1 fz1 fs1 fl1 k1 op1 dl1 nu1 = pt_set gz gs gl dd k0 1 (2 ^ (n + 1) - 2) n fz fs fl 0 true dl nu) → (1 ≤ i ∧ i ≤ k0 + 1) → (n1 + (k0 + 1 - i) ≤ 32) → (lv < 2 ^ 62) → (∀ j, fs1 j < 65536) → W p l e ({ frames := 3, cells := 0, slots := 0, locals := 66 } : Room) s m ([.ref o, .ref xd, .ref xc] : List Value).toArray below meth c H locs 0 0 (MQ below (kw_q none D kc_l [sp_c o sa sb ((pt_set gz gs gl dd k0 1 (2 ^ (n + 1) - 2) n fz fs fl 0 true dl nu).2.2.2.2.1) ((pt_set gz gs gl dd k0 1 (2 ^ (n + 1) - 2) n fz fs fl 0 true dl nu).2.2.2.2.2.1), ar_b cZ sa 17 ((pt_set gz gs gl dd k0 1 (2 ^ (n + 1) - 2) n fz fs fl 0 true dl nu).2.2.2.2.2.2.1), ar_n cI sb 17 ((pt_set gz gs gl dd k0 1 (2 ^ (n + 1) - 2) n fz fs fl 0 true dl nu).2.2.2.2.2.2.2), dr_c xd xr da, ar_b cZ da 17 dd, cl_c xr ra rb rd k0, ar_n cI ra 17 gz, ar_n cI rb 17 gs, ar_i cI rd (17 * 8) gl, cl_c xc ca cb cd ((pt_set gz gs gl dd k0 1 (2 ^ (n + 1) - 2) n fz fs fl 0 true dl nu).1), ar_n cI ca 33 ((pt_set gz gs gl dd k0 1 (2 ^ (n + 1) - 2) n fz fs fl 0 true dl nu).2.1), ar_n cI cb 33 ((pt_set gz gs gl dd k0 1 (2 ^ (n + 1) - 2) n fz fs fl 0 true dl nu).2.2.1), ar_i cI cd (33 * 8) ((pt_set gz gs gl dd k0 1 (2 ^ (n + 1) - 2) n fz fs fl 0 true dl nu).2.2.2.1)] A) ([.ref o, .ref xd, .ref xc] : List Value).toArray s 0 0 A) (F0 m 15 ls []) := by
    intro K
    induction K with
    | zero =>
      intro i lv n1 fz1 fs1 fl1 k1 op1 dl1 nu1 H locs ls hk
      exact absurd hk (Nat.not_lt_zero _)
    | succ K ih =>
      intro i lv n1 fz1 fs1 fl1 k1 op1 dl1 nu1 H locs ls hk hP hD hS hl h1 h2 h3 hl62 h161
      refine lv_iload hx hb dc_Sp_settle_15 (lv_at hl 0 rfl) ?_
      refine lv_aload_n hx hb dc_Sp_settle_17 rfl (lv_at hl 3 rfl) ?_
      refine va_getN (ci := 3) (v := .ref xr) (C := rn_Dr) (T := fd_Dr) (N := 2) hx hb hts in_Dr hown hK hP 3 rfl rfl 0 (by decide) (nf_88 hN) (fun _ h9 => h9) rfl dc_Sp_settle_18 ?_
      refine va_getN (ci := 2) (v := .int (nI k0)) (C := rn_Cl) (T := fd_Cl) (N := 4) hx hb hts in_Cl hown hK hP 5 rfl rfl 3 (by decide) (nf_75 hN) (fun _ h9 => h9) rfl dc_Sp_settle_21 ?_
      refine kn_icmp_gt hx hb (by omega) (by omega) dc_Sp_settle_24 rfl (fun hc24 => ?_) (fun hc24 => ?_)
      · exact kw_vret hx hb hr hlocks hP hD hS dc_Sp_settle_175 (by rw [← h1, show k0 + 1 - i = 0 by omega, pt_set])
      · refine lv_iload hx hb dc_Sp_settle_27 (lv_at hl 0 rfl) ?_
        refine lv_bipush (v := nI 16) hx hb dc_Sp_settle_29 (by decide +kernel) ?_
        refine kn_icmp_gt hx hb (by omega) (by omega) dc_Sp_settle_31 rfl (fun hc31 => ?_) (fun hc31 => ?_)
        · exfalso; omega
        · refine lv_aload_n hx hb dc_Sp_settle_34 rfl (lv_at hl 2 rfl) ?_
          refine va_get (ci := 4) (v := .int (kb_i op1)) (C := rn_Sp) (T := fd_Sp) (N := 4) hx hb hts in_Sp hown hK hP 0 rfl rfl 3 (by decide) (hts _ wd_118) (fun _ h9 => h9) rfl dc_Sp_settle_35 ?_
          refine kb_if_eq hx hb dc_Sp_settle_38 rfl (fun hc38 => ?_) (fun hc38 => ?_)
          · have hst : pt_set gz gs gl dd (k0 + 1 - i) i lv n1 fz1 fs1 fl1 k1 op1 dl1 nu1 = (n1, fz1, fs1, fl1, k1, op1, dl1, nu1) := by
              rw [show k0 + 1 - i = (k0 + 1 - (i + 1)) + 1 by omega, pt_set, if_pos hc38]
            exact kw_vret hx hb hr hlocks hP hD hS dc_Sp_settle_175 (by rw [← h1, hst])
          · have hst : pt_set gz gs gl dd (k0 + 1 - i) i lv n1 fz1 fs1 fl1 k1 op1 dl1 nu1 = (if dd i = true then pt_set gz gs gl dd (k0 + 1 - (i + 1)) (i + 1) (nb_d lv (2 ^ pt_last (fun j => lv.testBit j && decide (fs1 j = gs i)) n1)) n1 fz1 fs1 fl1 i op1 (va_up dl1 i (dd i)) (va_up nu1 i (pt_last (fun j => lv.testBit j && decide (fs1 j = gs i)) n1)) else pt_set gz gs gl dd (k0 + 1 - (i + 1)) (i + 1) (lv ||| 2 ^ (n1 + 1)) (n1 + 1) (va_up fz1 (n1 + 1) (gz i)) (va_up fs1 (n1 + 1) (gs i)) (va_cpy gl fl1 (i * 8) ((n1 + 1) * 8) (gz i)) i (!decide (gz i = 0)) (va_up dl1 i (dd i)) (va_up nu1 i (n1 + 1))) := by
              rw [show k0 + 1 - i = (k0 + 1 - (i + 1)) + 1 by omega, pt_set, if_neg (by rw [hc38]; decide)]
            refine lv_aload_n hx hb dc_Sp_settle_41 rfl (lv_at hl 2 rfl) ?_
            refine va_get (ci := 4) (v := .ref sa) (C := rn_Sp) (T := fd_Sp) (N := 4) hx hb hts in_Sp hown hK hP 0 rfl rfl 0 (by decide) (hts _ wd_106) (fun _ h9 => h9) rfl dc_Sp_settle_42 ?_
            refine lv_iload hx hb dc_Sp_settle_45 (lv_at hl 0 rfl) ?_
            refine lv_aload_n hx hb dc_Sp_settle_47 rfl (lv_at hl 3 rfl) ?_
            refine va_getN (ci := 3) (v := .ref da) (C := rn_Dr) (T := fd_Dr) (N := 2) hx hb hts in_Dr hown hK hP 3 rfl rfl 1 (by decide) (nf_91 hN) (fun _ h9 => h9) rfl dc_Sp_settle_48 ?_
            refine lv_iload hx hb dc_Sp_settle_51 (lv_at hl 0 rfl) ?_
            refine ka_bald (t := dd) hx hb hK hP 4 1 rfl rfl (j := i) (by omega) (by omega) dc_Sp_settle_53 ?_
            refine ka_bast (t := dl1) hx hb hK hP hD hS 1 1 rfl rfl (j := i) (by omega) (by omega) dc_Sp_settle_54 (ws' := [sp_c o sa sb k1 op1, ar_b cZ sa 17 (va_up dl1 i (dd i)), ar_n cI sb 17 nu1, dr_c xd xr da, ar_b cZ da 17 dd, cl_c xr ra rb rd k0, ar_n cI ra 17 gz, ar_n cI rb 17 gs, ar_i cI rd (17 * 8) gl, cl_c xc ca cb cd n1, ar_n cI ca 33 fz1, ar_n cI cb 33 fs1, ar_i cI cd (33 * 8) fl1]) rfl (fun H locs hP hD hS => ?_)
            refine lv_aload_n hx hb dc_Sp_settle_55 rfl (lv_at hl 2 rfl) ?_
            refine va_get (ci := 4) (v := .ref sa) (C := rn_Sp) (T := fd_Sp) (N := 4) hx hb hts in_Sp hown hK hP 0 rfl rfl 0 (by decide) (hts _ wd_106) (fun _ h9 => h9) rfl dc_Sp_settle_56 ?_
            refine lv_iload hx hb dc_Sp_settle_59 (lv_at hl 0 rfl) ?_
            refine ka_bald (t := va_up dl1 i (dd i)) hx hb hK hP 1 1 rfl rfl (j := i) (by omega) (by omega) dc_Sp_settle_61 ?_
            refine kn_top (y := kb_i (dd i)) (by rw [va_up_self]) ?_
            refine kb_if_eq hx hb dc_Sp_settle_62 rfl (fun hc62 => ?_) (fun hc62 => ?_)
            · refine lv_aload_n hx hb dc_Sp_settle_107 rfl (lv_at hl 4 rfl) ?_
              refine lv_aload_n hx hb dc_Sp_settle_108 rfl (lv_at hl 3 rfl) ?_
              refine va_getN (ci := 3) (v := .ref xr) (C := rn_Dr) (T := fd_Dr) (N := 2) hx hb hts in_Dr hown hK hP 3 rfl rfl 0 (by decide) (nf_88 hN) (fun _ h9 => h9) rfl dc_Sp_settle_109 ?_
              refine lv_iload hx hb dc_Sp_settle_112 (lv_at hl 0 rfl) ?_
              refine kw_call0 (wr := [sp_c o sa sb k1 op1, ar_b cZ sa 17 (va_up dl1 i (dd i)), ar_n cI sb 17 nu1, dr_c xd xr da, ar_b cZ da 17 dd]) (ws' := [sp_c o sa sb k1 op1, ar_b cZ sa 17 (va_up dl1 i (dd i)), ar_n cI sb 17 nu1, dr_c xd xr da, ar_b cZ da 17 dd, cl_c xr ra rb rd k0, ar_n cI ra 17 gz, ar_n cI rb 17 gs, ar_i cI rd (17 * 8) gl, cl_c xc ca cb cd (n1 + 1), ar_n cI ca 33 (va_up fz1 (n1 + 1) (gz i)), ar_n cI cb 33 (va_up fs1 (n1 + 1) (gs i)), ar_i cI cd (33 * 8) (va_cpy gl fl1 (i * 8) ((n1 + 1) * 8) (gz i))]) (va_runV (As := [.ref xr, .int (nI i)]) (rest := []) ⟨hx, hb, hml, hown, hts⟩ (ct_Cl_copy l D cI cZ _ xc ca cb cd 33 n1 fz1 fs1 fl1 xr ra rb rd 17 k0 gz gs gl i (bb i) (pm i) (by decide) (by omega) (by decide) (by omega) (by omega) (by omega) (fun q h1 h2 => (hrow q h1 h2).1) (hrow i (by omega) (by omega))) (cwV 2 hts (kx_gV wd_561 wd_490 wd_491 wd_4 wd_492) rfl rfl rfl ⟨rfl, yd_Cl_copy⟩ ⟨Nat.le_of_ble_eq_true rfl, Nat.le_of_ble_eq_true rfl⟩) (kp_V (q0 := 9) (ci := 2) hP hD hK hN [9, 10, 11, 12, 5, 6, 7, 8] rfl rfl rfl rfl rfl) rfl rfl hl.1 rfl (lv_room (Nat.le_of_ble_eq_true rfl)) dc_Sp_settle_114 ⟨Nat.le_of_ble_eq_true rfl, Nat.le_of_ble_eq_true rfl⟩) hP hD hS hA [9, 10, 11, 12, 5, 6, 7, 8] [0, 1, 2, 3, 4] [0, 1, 2, 3, 4, 9, 10, 11, 12, 5, 6, 7, 8] rfl rfl rfl (by decide) rfl rfl (fun H locs hP hD hS => ?_)
              refine lv_aload_n hx hb dc_Sp_settle_117 rfl (lv_at hl 2 rfl) ?_
              refine va_get (ci := 4) (v := .ref sb) (C := rn_Sp) (T := fd_Sp) (N := 4) hx hb hts in_Sp hown hK hP 0 rfl rfl 1 (by decide) (hts _ wd_110) (fun _ h9 => h9) rfl dc_Sp_settle_118 ?_
              refine lv_iload hx hb dc_Sp_settle_121 (lv_at hl 0 rfl) ?_
              refine lv_aload_n hx hb dc_Sp_settle_123 rfl (lv_at hl 4 rfl) ?_
              refine va_getN (ci := 2) (v := .int (nI (n1 + 1))) (C := rn_Cl) (T := fd_Cl) (N := 4) hx hb hts in_Cl hown hK hP 9 rfl rfl 3 (by decide) (nf_75 hN) (fun _ h9 => h9) rfl dc_Sp_settle_124 ?_
              refine ka_nast (t := nu1) hx hb hK hP hD hS 2 0 rfl rfl (j := i) (by omega) (by omega) dc_Sp_settle_127 (ws' := [sp_c o sa sb k1 op1, ar_b cZ sa 17 (va_up dl1 i (dd i)), ar_n cI sb 17 (va_up nu1 i (n1 + 1)), dr_c xd xr da, ar_b cZ da 17 dd, cl_c xr ra rb rd k0, ar_n cI ra 17 gz, ar_n cI rb 17 gs, ar_i cI rd (17 * 8) gl, cl_c xc ca cb cd (n1 + 1), ar_n cI ca 33 (va_up fz1 (n1 + 1) (gz i)), ar_n cI cb 33 (va_up fs1 (n1 + 1) (gs i)), ar_i cI cd (33 * 8) (va_cpy gl fl1 (i * 8) ((n1 + 1) * 8) (gz i))]) rfl (fun H locs hP hD hS => ?_)
              refine lv_lload_n hx hb dc_Sp_settle_128 rfl (lv_at hl 1 rfl) ?_
              refine lv_aload_n hx hb dc_Sp_settle_129 rfl (lv_at hl 2 rfl) ?_
              refine va_get (ci := 4) (v := .ref sb) (C := rn_Sp) (T := fd_Sp) (N := 4) hx hb hts in_Sp hown hK hP 0 rfl rfl 1 (by decide) (hts _ wd_110) (fun _ h9 => h9) rfl dc_Sp_settle_130 ?_
              refine lv_iload hx hb dc_Sp_settle_133 (lv_at hl 0 rfl) ?_
              refine ka_nald (t := va_up nu1 i (n1 + 1)) hx hb hK hP 2 0 rfl rfl (j := i) (by omega) (by omega) dc_Sp_settle_135 ?_
              refine kn_top (y := nI (n1 + 1)) (by rw [va_up_self]) ?_
              refine kr_call1 (va_runSN (As := [.int (nI (n1 + 1))]) (rest := [.long (lN lv)]) ⟨hx, hb, hml, hown, hts⟩ (ct_Pt_one l D cI cZ _ (n1 + 1) (by omega)) ⟨va_cnB 1 hts (kx_gi wd_559) rfl rfl rfl (nw_557 hN) (hts _ wd_1) yd_Pt_one ⟨Nat.le_of_ble_eq_true rfl, Nat.le_of_ble_eq_true rfl⟩, hts _ wd_558, trivial⟩ (kp_S hP hD hK hN [] rfl rfl) rfl rfl hl.1 rfl (lv_room (Nat.le_of_ble_eq_true rfl)) dc_Sp_settle_136 ⟨Nat.le_of_ble_eq_true rfl, Nat.le_of_ble_eq_true rfl⟩) ?_
              refine kl_lor hx hb dc_Sp_settle_139 ?_
              refine lv_lstore_n (lv' := [(3, .long (lN (lv ||| (2 ^ (n1 + 1))))), (5, .int (nI i)), (0, .ref o), (1, .ref xd), (2, .ref xc)]) hx hb dc_Sp_settle_140 rfl hl (by decide) rfl (fun ls hl => ?_)
              refine lv_aload_n hx hb dc_Sp_settle_141 rfl (lv_at hl 2 rfl) ?_
              refine lv_aload_n hx hb dc_Sp_settle_142 rfl (lv_at hl 3 rfl) ?_
              refine va_getN (ci := 3) (v := .ref xr) (C := rn_Dr) (T := fd_Dr) (N := 2) hx hb hts in_Dr hown hK hP 3 rfl rfl 0 (by decide) (nf_88 hN) (fun _ h9 => h9) rfl dc_Sp_settle_143 ?_
              refine va_getN (ci := 2) (v := .ref ra) (C := rn_Cl) (T := fd_Cl) (N := 4) hx hb hts in_Cl hown hK hP 5 rfl rfl 0 (by decide) (nf_66 hN) (fun _ h9 => h9) rfl dc_Sp_settle_146 ?_
              refine lv_iload hx hb dc_Sp_settle_149 (lv_at hl 1 rfl) ?_
              refine ka_nald (t := gz) hx hb hK hP 6 0 rfl rfl (j := i) (by omega) (by omega) dc_Sp_settle_151 ?_
              refine kn_if_eq hx hb (Nat.lt_of_le_of_lt (hrow i (by omega) (by omega)).1 (by decide)) dc_Sp_settle_152 rfl (fun hc152 => ?_) (fun hc152 => ?_)
              · refine lv_iconst (v := nI 0) hx hb dc_Sp_settle_159 (by decide +kernel) ?_
                refine kn_top (y := kb_i false) (by decide +kernel) ?_
                refine va_put (ci := 4) (v := .int (kb_i false)) (ty := .boolean) (C := rn_Sp) (T := fd_Sp) (N := 4) hx hb hts in_Sp ty_Sp tk_Sp nm_Sp hown hK hP hD hS 0 rfl rfl 3 (by decide) (hts _ wd_118) (fun _ h9 => h9) rfl (by decide +kernel) (kb_nar _) (kb_fit _) (Nat.le_of_ble_eq_true rfl) dc_Sp_settle_160 (fun H locs hP hD hS => ?_)
                have hP : va_P D kc_l [sp_c o sa sb k1 false, ar_b cZ sa 17 (va_up dl1 i (dd i)), ar_n cI sb 17 (va_up nu1 i (n1 + 1)), dr_c xd xr da, ar_b cZ da 17 dd, cl_c xr ra rb rd k0, ar_n cI ra 17 gz, ar_n cI rb 17 gs, ar_i cI rd (17 * 8) gl, cl_c xc ca cb cd (n1 + 1), ar_n cI ca 33 (va_up fz1 (n1 + 1) (gz i)), ar_n cI cb 33 (va_up fs1 (n1 + 1) (gs i)), ar_i cI cd (33 * 8) (va_cpy gl fl1 (i * 8) ((n1 + 1) * 8) (gz i))] H := hP
                have hD : va_D A [sp_c o sa sb k1 false, ar_b cZ sa 17 (va_up dl1 i (dd i)), ar_n cI sb 17 (va_up nu1 i (n1 + 1)), dr_c xd xr da, ar_b cZ da 17 dd, cl_c xr ra rb rd k0, ar_n cI ra 17 gz, ar_n cI rb 17 gs, ar_i cI rd (17 * 8) gl, cl_c xc ca cb cd (n1 + 1), ar_n cI ca 33 (va_up fz1 (n1 + 1) (gz i)), ar_n cI cb 33 (va_up fs1 (n1 + 1) (gs i)), ar_i cI cd (33 * 8) (va_cpy gl fl1 (i * 8) ((n1 + 1) * 8) (gz i))] := hD
                refine lv_aload_n hx hb dc_Sp_settle_163 rfl (lv_at hl 2 rfl) ?_
                refine lv_iload hx hb dc_Sp_settle_164 (lv_at hl 1 rfl) ?_
                refine va_put (ci := 4) (v := .int (nI i)) (ty := .int) (C := rn_Sp) (T := fd_Sp) (N := 4) hx hb hts in_Sp ty_Sp tk_Sp nm_Sp hown hK hP hD hS 0 rfl rfl 2 (by decide) (hts _ wd_114) (fun _ h9 => h9) rfl (by decide +kernel) rfl rfl (Nat.le_of_ble_eq_true rfl) dc_Sp_settle_166 (fun H locs hP hD hS => ?_)
                have hP : va_P D kc_l [sp_c o sa sb i false, ar_b cZ sa 17 (va_up dl1 i (dd i)), ar_n cI sb 17 (va_up nu1 i (n1 + 1)), dr_c xd xr da, ar_b cZ da 17 dd, cl_c xr ra rb rd k0, ar_n cI ra 17 gz, ar_n cI rb 17 gs, ar_i cI rd (17 * 8) gl, cl_c xc ca cb cd (n1 + 1), ar_n cI ca 33 (va_up fz1 (n1 + 1) (gz i)), ar_n cI cb 33 (va_up fs1 (n1 + 1) (gs i)), ar_i cI cd (33 * 8) (va_cpy gl fl1 (i * 8) ((n1 + 1) * 8) (gz i))] H := hP
                have hD : va_D A [sp_c o sa sb i false, ar_b cZ sa 17 (va_up dl1 i (dd i)), ar_n cI sb 17 (va_up nu1 i (n1 + 1)), dr_c xd xr da, ar_b cZ da 17 dd, cl_c xr ra rb rd k0, ar_n cI ra 17 gz, ar_n cI rb 17 gs, ar_i cI rd (17 * 8) gl, cl_c xc ca cb cd (n1 + 1), ar_n cI ca 33 (va_up fz1 (n1 + 1) (gz i)), ar_n cI cb 33 (va_up fs1 (n1 + 1) (gs i)), ar_i cI cd (33 * 8) (va_cpy gl fl1 (i * 8) ((n1 + 1) * 8) (gz i))] := hD
                refine lv_iinc (k := 1) (v := nI (i + 1)) (lv' := [(5, .int (nI (i + 1))), (3, .long (lN (lv ||| (2 ^ (n1 + 1))))), (0, .ref o), (1, .ref xd), (2, .ref xc)]) hx hb dc_Sp_settle_169 hl rfl (nI_1 _) (by decide) rfl (fun ls hl => ?_)
                refine lv_goto hx hb dc_Sp_settle_172 rfl ?_
                exact ih _ _ _ _ _ _ _ _ _ _ _ _ _ (by omega) hP hD hS hl (by rw [← h1, hst, if_neg (by rw [hc62]; decide), show (!decide (gz i = 0)) = false by rw [decide_eq_true hc152]; rfl]) (⟨by omega, by omega⟩) (by omega) (Nat.or_lt_two_pow hl62 (Nat.pow_lt_pow_right (by decide) (by omega))) (fun j => by unfold va_up; split; exact hg16 i; exact h161 j)
              · refine lv_iconst (v := nI 1) hx hb dc_Sp_settle_155 (by decide +kernel) ?_
                refine lv_goto hx hb dc_Sp_settle_156 rfl ?_
                refine kn_top (y := kb_i true) (by decide +kernel) ?_
                refine va_put (ci := 4) (v := .int (kb_i true)) (ty := .boolean) (C := rn_Sp) (T := fd_Sp) (N := 4) hx hb hts in_Sp ty_Sp tk_Sp nm_Sp hown hK hP hD hS 0 rfl rfl 3 (by decide) (hts _ wd_118) (fun _ h9 => h9) rfl (by decide +kernel) (kb_nar _) (kb_fit _) (Nat.le_of_ble_eq_true rfl) dc_Sp_settle_160 (fun H locs hP hD hS => ?_)
                have hP : va_P D kc_l [sp_c o sa sb k1 true, ar_b cZ sa 17 (va_up dl1 i (dd i)), ar_n cI sb 17 (va_up nu1 i (n1 + 1)), dr_c xd xr da, ar_b cZ da 17 dd, cl_c xr ra rb rd k0, ar_n cI ra 17 gz, ar_n cI rb 17 gs, ar_i cI rd (17 * 8) gl, cl_c xc ca cb cd (n1 + 1), ar_n cI ca 33 (va_up fz1 (n1 + 1) (gz i)), ar_n cI cb 33 (va_up fs1 (n1 + 1) (gs i)), ar_i cI cd (33 * 8) (va_cpy gl fl1 (i * 8) ((n1 + 1) * 8) (gz i))] H := hP
                have hD : va_D A [sp_c o sa sb k1 true, ar_b cZ sa 17 (va_up dl1 i (dd i)), ar_n cI sb 17 (va_up nu1 i (n1 + 1)), dr_c xd xr da, ar_b cZ da 17 dd, cl_c xr ra rb rd k0, ar_n cI ra 17 gz, ar_n cI rb 17 gs, ar_i cI rd (17 * 8) gl, cl_c xc ca cb cd (n1 + 1), ar_n cI ca 33 (va_up fz1 (n1 + 1) (gz i)), ar_n cI cb 33 (va_up fs1 (n1 + 1) (gs i)), ar_i cI cd (33 * 8) (va_cpy gl fl1 (i * 8) ((n1 + 1) * 8) (gz i))] := hD
                refine lv_aload_n hx hb dc_Sp_settle_163 rfl (lv_at hl 2 rfl) ?_
                refine lv_iload hx hb dc_Sp_settle_164 (lv_at hl 1 rfl) ?_
                refine va_put (ci := 4) (v := .int (nI i)) (ty := .int) (C := rn_Sp) (T := fd_Sp) (N := 4) hx hb hts in_Sp ty_Sp tk_Sp nm_Sp hown hK hP hD hS 0 rfl rfl 2 (by decide) (hts _ wd_114) (fun _ h9 => h9) rfl (by decide +kernel) rfl rfl (Nat.le_of_ble_eq_true rfl) dc_Sp_settle_166 (fun H locs hP hD hS => ?_)
                have hP : va_P D kc_l [sp_c o sa sb i true, ar_b cZ sa 17 (va_up dl1 i (dd i)), ar_n cI sb 17 (va_up nu1 i (n1 + 1)), dr_c xd xr da, ar_b cZ da 17 dd, cl_c xr ra rb rd k0, ar_n cI ra 17 gz, ar_n cI rb 17 gs, ar_i cI rd (17 * 8) gl, cl_c xc ca cb cd (n1 + 1), ar_n cI ca 33 (va_up fz1 (n1 + 1) (gz i)), ar_n cI cb 33 (va_up fs1 (n1 + 1) (gs i)), ar_i cI cd (33 * 8) (va_cpy gl fl1 (i * 8) ((n1 + 1) * 8) (gz i))] H := hP
                have hD : va_D A [sp_c o sa sb i true, ar_b cZ sa 17 (va_up dl1 i (dd i)), ar_n cI sb 17 (va_up nu1 i (n1 + 1)), dr_c xd xr da, ar_b cZ da 17 dd, cl_c xr ra rb rd k0, ar_n cI ra 17 gz, ar_n cI rb 17 gs, ar_i cI rd (17 * 8) gl, cl_c xc ca cb cd (n1 + 1), ar_n cI ca 33 (va_up fz1 (n1 + 1) (gz i)), ar_n cI cb 33 (va_up fs1 (n1 + 1) (gs i)), ar_i cI cd (33 * 8) (va_cpy gl fl1 (i * 8) ((n1 + 1) * 8) (gz i))] := hD
                refine lv_iinc (k := 1) (v := nI (i + 1)) (lv' := [(5, .int (nI (i + 1))), (3, .long (lN (lv ||| (2 ^ (n1 + 1))))), (0, .ref o), (1, .ref xd), (2, .ref xc)]) hx hb dc_Sp_settle_169 hl rfl (nI_1 _) (by decide) rfl (fun ls hl => ?_)
                refine lv_goto hx hb dc_Sp_settle_172 rfl ?_
                exact ih _ _ _ _ _ _ _ _ _ _ _ _ _ (by omega) hP hD hS hl (by rw [← h1, hst, if_neg (by rw [hc62]; decide), show (!decide (gz i = 0)) = true by rw [decide_eq_false hc152]; rfl]) (⟨by omega, by omega⟩) (by omega) (Nat.or_lt_two_pow hl62 (Nat.pow_lt_pow_right (by decide) (by omega))) (fun j => by unfold va_up; split; exact hg16 i; exact h161 j)
            · refine lv_aload_n hx hb dc_Sp_settle_65 rfl (lv_at hl 2 rfl) ?_
              refine va_get (ci := 4) (v := .ref sb) (C := rn_Sp) (T := fd_Sp) (N := 4) hx hb hts in_Sp hown hK hP 0 rfl rfl 1 (by decide) (hts _ wd_110) (fun _ h9 => h9) rfl dc_Sp_settle_66 ?_
              refine lv_iload hx hb dc_Sp_settle_69 (lv_at hl 0 rfl) ?_
              refine lv_aload_n hx hb dc_Sp_settle_71 rfl (lv_at hl 4 rfl) ?_
              refine lv_lload_n hx hb dc_Sp_settle_72 rfl (lv_at hl 1 rfl) ?_
              refine lv_aload_n hx hb dc_Sp_settle_73 rfl (lv_at hl 3 rfl) ?_
              refine va_getN (ci := 3) (v := .ref xr) (C := rn_Dr) (T := fd_Dr) (N := 2) hx hb hts in_Dr hown hK hP 3 rfl rfl 0 (by decide) (nf_88 hN) (fun _ h9 => h9) rfl dc_Sp_settle_74 ?_
              refine va_getN (ci := 2) (v := .ref rb) (C := rn_Cl) (T := fd_Cl) (N := 4) hx hb hts in_Cl hown hK hP 5 rfl rfl 1 (by decide) (nf_71 hN) (fun _ h9 => h9) rfl dc_Sp_settle_77 ?_
              refine lv_iload hx hb dc_Sp_settle_80 (lv_at hl 0 rfl) ?_
              refine ka_nald (t := gs) hx hb hK hP 7 0 rfl rfl (j := i) (by omega) (by omega) dc_Sp_settle_82 ?_
              refine kr_call1 (va_runV (As := [.long (lN lv), .int (nI (gs i))]) (rest := [.int (nI i), .ref sb]) ⟨hx, hb, hml, hown, hts⟩ (ct_Cl_greatestAlike l D cI cZ _ xc ca cb cd 33 n1 fz1 fs1 fl1 lv (gs i) (by decide) (by omega) (by omega) (hl62) (h161) (hg16 i)) (cwV 2 hts (kx_gV wd_552 wd_553 wd_554 wd_4 wd_555) rfl rfl rfl ⟨rfl, yd_Cl_greatestAlike⟩ ⟨Nat.le_of_ble_eq_true rfl, Nat.le_of_ble_eq_true rfl⟩) (kp_V (q0 := 9) (ci := 2) hP hD hK hN [9, 10, 11, 12] rfl rfl rfl rfl rfl) rfl rfl hl.1 rfl (lv_room (Nat.le_of_ble_eq_true rfl)) dc_Sp_settle_83 ⟨Nat.le_of_ble_eq_true rfl, Nat.le_of_ble_eq_true rfl⟩) ?_
              refine ka_nast (t := nu1) hx hb hK hP hD hS 2 0 rfl rfl (j := i) (by omega) (by omega) dc_Sp_settle_86 (ws' := [sp_c o sa sb k1 op1, ar_b cZ sa 17 (va_up dl1 i (dd i)), ar_n cI sb 17 (va_up nu1 i (pt_last (fun j => lv.testBit j && decide (fs1 j = (gs i))) n1)), dr_c xd xr da, ar_b cZ da 17 dd, cl_c xr ra rb rd k0, ar_n cI ra 17 gz, ar_n cI rb 17 gs, ar_i cI rd (17 * 8) gl, cl_c xc ca cb cd n1, ar_n cI ca 33 fz1, ar_n cI cb 33 fs1, ar_i cI cd (33 * 8) fl1]) rfl (fun H locs hP hD hS => ?_)
              refine lv_lload_n hx hb dc_Sp_settle_87 rfl (lv_at hl 1 rfl) ?_
              refine lv_aload_n hx hb dc_Sp_settle_88 rfl (lv_at hl 2 rfl) ?_
              refine va_get (ci := 4) (v := .ref sb) (C := rn_Sp) (T := fd_Sp) (N := 4) hx hb hts in_Sp hown hK hP 0 rfl rfl 1 (by decide) (hts _ wd_110) (fun _ h9 => h9) rfl dc_Sp_settle_89 ?_
              refine lv_iload hx hb dc_Sp_settle_92 (lv_at hl 0 rfl) ?_
              refine ka_nald (t := va_up nu1 i (pt_last (fun j => lv.testBit j && decide (fs1 j = (gs i))) n1)) hx hb hK hP 2 0 rfl rfl (j := i) (by omega) (by omega) dc_Sp_settle_94 ?_
              refine kn_top (y := nI (pt_last (fun j => lv.testBit j && decide (fs1 j = gs i)) n1)) (by rw [va_up_self]) ?_
              refine kr_call1 (va_runSN (As := [.int (nI (pt_last (fun j => lv.testBit j && decide (fs1 j = gs i)) n1))]) (rest := [.long (lN lv)]) ⟨hx, hb, hml, hown, hts⟩ (ct_Pt_one l D cI cZ _ (pt_last (fun j => lv.testBit j && decide (fs1 j = gs i)) n1) (by have := pt_last_le (fun j => lv.testBit j && decide (fs1 j = gs i)) n1; omega)) ⟨va_cnB 1 hts (kx_gi wd_559) rfl rfl rfl (nw_557 hN) (hts _ wd_1) yd_Pt_one ⟨Nat.le_of_ble_eq_true rfl, Nat.le_of_ble_eq_true rfl⟩, hts _ wd_558, trivial⟩ (kp_S hP hD hK hN [] rfl rfl) rfl rfl hl.1 rfl (lv_room (Nat.le_of_ble_eq_true rfl)) dc_Sp_settle_95 ⟨Nat.le_of_ble_eq_true rfl, Nat.le_of_ble_eq_true rfl⟩) ?_
              refine kl_ldc2 (y := (-1)) hx hb hown (hts _ wd_560) dc_Sp_settle_98 (by decide +kernel) ?_
              refine lv_lxor hx hb dc_Sp_settle_101 ?_
              refine kl_lnot hx hb dc_Sp_settle_102 ?_
              refine lv_lstore_n (lv' := [(3, .long (lN (nb_d lv (2 ^ (pt_last (fun j => lv.testBit j && decide (fs1 j = gs i)) n1))))), (5, .int (nI i)), (0, .ref o), (1, .ref xd), (2, .ref xc)]) hx hb dc_Sp_settle_103 rfl hl (by decide) rfl (fun ls hl => ?_)
              refine lv_goto hx hb dc_Sp_settle_104 rfl ?_
              refine lv_aload_n hx hb dc_Sp_settle_163 rfl (lv_at hl 2 rfl) ?_
              refine lv_iload hx hb dc_Sp_settle_164 (lv_at hl 1 rfl) ?_
              refine va_put (ci := 4) (v := .int (nI i)) (ty := .int) (C := rn_Sp) (T := fd_Sp) (N := 4) hx hb hts in_Sp ty_Sp tk_Sp nm_Sp hown hK hP hD hS 0 rfl rfl 2 (by decide) (hts _ wd_114) (fun _ h9 => h9) rfl (by decide +kernel) rfl rfl (Nat.le_of_ble_eq_true rfl) dc_Sp_settle_166 (fun H locs hP hD hS => ?_)
              have hP : va_P D kc_l [sp_c o sa sb i op1, ar_b cZ sa 17 (va_up dl1 i (dd i)), ar_n cI sb 17 (va_up nu1 i (pt_last (fun j => lv.testBit j && decide (fs1 j = (gs i))) n1)), dr_c xd xr da, ar_b cZ da 17 dd, cl_c xr ra rb rd k0, ar_n cI ra 17 gz, ar_n cI rb 17 gs, ar_i cI rd (17 * 8) gl, cl_c xc ca cb cd n1, ar_n cI ca 33 fz1, ar_n cI cb 33 fs1, ar_i cI cd (33 * 8) fl1] H := hP
              have hD : va_D A [sp_c o sa sb i op1, ar_b cZ sa 17 (va_up dl1 i (dd i)), ar_n cI sb 17 (va_up nu1 i (pt_last (fun j => lv.testBit j && decide (fs1 j = (gs i))) n1)), dr_c xd xr da, ar_b cZ da 17 dd, cl_c xr ra rb rd k0, ar_n cI ra 17 gz, ar_n cI rb 17 gs, ar_i cI rd (17 * 8) gl, cl_c xc ca cb cd n1, ar_n cI ca 33 fz1, ar_n cI cb 33 fs1, ar_i cI cd (33 * 8) fl1] := hD
              refine lv_iinc (k := 1) (v := nI (i + 1)) (lv' := [(5, .int (nI (i + 1))), (3, .long (lN (nb_d lv (2 ^ (pt_last (fun j => lv.testBit j && decide (fs1 j = gs i)) n1))))), (0, .ref o), (1, .ref xd), (2, .ref xc)]) hx hb dc_Sp_settle_169 hl rfl (nI_1 _) (by decide) rfl (fun ls hl => ?_)
              refine lv_goto hx hb dc_Sp_settle_172 rfl ?_
              exact ih _ _ _ _ _ _ _ _ _ _ _ _ _ (by omega) hP hD hS hl (by rw [← h1, hst, if_pos hc62]) (⟨by omega, by omega⟩) (by omega) (nb_d_lt hl62) (h161)
  exact lp_15 _ _ _ _ _ _ _ _ _ _ _ _ _ _ (Nat.lt_succ_self _) hP hD hS hl (rfl) (⟨by omega, by omega⟩) (by omega) (Nat.lt_of_le_of_lt (Nat.sub_le _ _) (Nat.pow_lt_pow_right (by decide) (by omega))) (h16)
end
section
/-! a clause is read -/
/-- behind the next word -/
def pt_zz (t : Nat → Nat) (n q : Nat) : Nat := pt_we t n (pt_ws t n q)
theorem zz_le {t : Nat → Nat} {n q : Nat} (h : q ≤ n) : pt_zz t n q ≤ n := we_le (ws_le h)
theorem zz_ge (t : Nat → Nat) (n q : Nat) : q ≤ pt_zz t n q := Nat.le_trans (ws_ge t n q) (we_ge t n _)
theorem ws_zz (t : Nat → Nat) (n q : Nat) : pt_ws t n q ≤ pt_zz t n q := we_ge t n _
theorem ws_lt {t : Nat → Nat} {n q : Nat} (h : pt_ws t n q < n) : pt_ws t n q < pt_zz t n q := by
  have h1 := pt_skip_end (fun j => pt_gap (t j)) n q
  have h2 : pt_gap (t (pt_ws t n q)) = false := by
    cases hg : pt_gap (t (pt_ws t n q)) with
    | false => rfl
    | true => exact absurd ⟨h, hg⟩ h1
  unfold pt_zz
  rw [we_step h (by rw [h2]; rfl)]
  exact we_ge t n _
/-- the bit of a literal -/
def pt_lof (x : Int32) : Option Nat := (List.range 16).find? (fun b => decide (pt_lit b = x))
theorem lof_lit : ∀ b, b < 16 → pt_lof (pt_lit b) = some b := by decide +kernel
theorem lof_some {x : Int32} {b : Nat} (h : pt_lof x = some b) : b < 16 ∧ x = pt_lit b := by
  unfold pt_lof at h
  have h1 := List.find?_some h
  have h2 := List.mem_of_find?_eq_some h
  exact ⟨List.mem_range.mp h2, (of_decide_eq_true h1).symm⟩
theorem lof_none {x : Int32} (h : pt_lof x = none) : pt_no x := by
  unfold pt_lof at h
  rw [List.find?_eq_none] at h
  have h1 : ∀ b, b < 16 → ¬ pt_lit b = x := fun b hb q => h b (List.mem_range.mpr hb) (decide_eq_true q)
  have ht : ∀ b, b < 16 → ¬ (pt_lit b).toInt = x.toInt := fun b hb q => h1 b hb (Int32.toInt_inj.mp q)
  have e1 : (nI 1).toInt = 1 := by decide
  have e8 : (nI 8).toInt = 8 := by decide
  have e0 : (0 : Int32).toInt = 0 := rfl
  have hv : ∀ z : Int, (∃ b, b < 16 ∧ (pt_lit b).toInt = z) → x.toInt = z → False := by
    intro z hz q
    obtain ⟨b, hb, hbz⟩ := hz
    exact ht b hb (hbz.trans q.symm)
  unfold pt_no
  by_cases hx : 0 ≤ x
  · rw [if_pos hx, Int32.lt_iff_toInt_lt, Int32.lt_iff_toInt_lt, e1, e8]
    have hx0 := Int32.le_iff_toInt_le.mp hx
    rw [e0] at hx0
    by_cases hlo : x.toInt < 1
    · exact Or.inl hlo
    · by_cases hhi : 8 < x.toInt
      · exact Or.inr hhi
      · exfalso
        have hc : x.toInt = 1 ∨ x.toInt = 2 ∨ x.toInt = 3 ∨ x.toInt = 4 ∨ x.toInt = 5 ∨ x.toInt = 6 ∨ x.toInt = 7 ∨ x.toInt = 8 := by omega
        rcases hc with q | q | q | q | q | q | q | q
        · exact hv 1 ⟨0, by decide, by decide⟩ q
        · exact hv 2 ⟨1, by decide, by decide⟩ q
        · exact hv 3 ⟨2, by decide, by decide⟩ q
        · exact hv 4 ⟨3, by decide, by decide⟩ q
        · exact hv 5 ⟨4, by decide, by decide⟩ q
        · exact hv 6 ⟨5, by decide, by decide⟩ q
        · exact hv 7 ⟨6, by decide, by decide⟩ q
        · exact hv 8 ⟨7, by decide, by decide⟩ q
  · rw [if_neg hx, Int32.lt_iff_toInt_lt, Int32.lt_iff_toInt_lt, e1, e8]
    have hx0 : x.toInt < 0 := by
      have : ¬ (0 : Int32).toInt ≤ x.toInt := fun q => hx (Int32.le_iff_toInt_le.mpr q)
      rw [e0] at this; omega
    have hsub : (0 - x).toInt = (0 - x.toInt).bmod (2 ^ 32) := by rw [Int32.toInt_sub, e0]
    by_cases hlo : x.toInt < -8
    · have hr := Int32.le_toInt x
      by_cases hm : x.toInt = -2147483648
      · left; rw [hsub, hm]; decide
      · right
        rw [hsub, Int.bmod_eq_of_le (by omega) (by omega)]
        omega
    · exfalso
      have hc : x.toInt = -1 ∨ x.toInt = -2 ∨ x.toInt = -3 ∨ x.toInt = -4 ∨ x.toInt = -5 ∨ x.toInt = -6 ∨ x.toInt = -7 ∨ x.toInt = -8 := by omega
      rcases hc with q | q | q | q | q | q | q | q
      · exact hv (-1) ⟨8, by decide, by decide⟩ q
      · exact hv (-2) ⟨9, by decide, by decide⟩ q
      · exact hv (-3) ⟨10, by decide, by decide⟩ q
      · exact hv (-4) ⟨11, by decide, by decide⟩ q
      · exact hv (-5) ⟨12, by decide, by decide⟩ q
      · exact hv (-6) ⟨13, by decide, by decide⟩ q
      · exact hv (-7) ⟨14, by decide, by decide⟩ q
      · exact hv (-8) ⟨15, by decide, by decide⟩ q
/-- both literals of a bit's variable -/
def pt_pair (b : Nat) : Nat := 2 ^ (b % 8) ||| 2 ^ (b % 8 + 8)
theorem pair_bits {x b : Nat} (hb : b < 16) (h : x &&& (2 ^ (b % 8) ||| 2 ^ (b % 8 + 8)) = 0) : x.testBit b = false ∧ x.testBit ((b + 8) % 16) = false := by
  have key : ∀ i, (2 ^ (b % 8) ||| 2 ^ (b % 8 + 8)).testBit i = true → x.testBit i = false := by
    intro i hi
    have h1 : (x &&& (2 ^ (b % 8) ||| 2 ^ (b % 8 + 8))).testBit i = false := by rw [h]; exact Nat.zero_testBit i
    rw [Nat.testBit_and, hi, Bool.and_true] at h1
    exact h1
  constructor
  · apply key
    rw [Nat.testBit_or, Nat.testBit_two_pow, Nat.testBit_two_pow]
    by_cases h8 : b < 8
    · rw [decide_eq_true (by omega)]; rfl
    · rw [decide_eq_true (show b % 8 + 8 = b by omega), Bool.or_true]
  · apply key
    rw [Nat.testBit_or, Nat.testBit_two_pow, Nat.testBit_two_pow]
    by_cases h8 : b < 8
    · rw [decide_eq_true (show b % 8 + 8 = (b + 8) % 16 by omega), Bool.or_true]
    · rw [decide_eq_true (show b % 8 = (b + 8) % 16 by omega)]; rfl
/-- there is room in the row -/
def pt_rm (w x : Nat) : Prop := w + pt_free x ≤ 8 ∧ x < 65536
theorem rm_step {w x b : Nat} (h : pt_rm w x) (hb : b < 16) (hf : x &&& (2 ^ (b % 8) ||| 2 ^ (b % 8 + 8)) = 0) : w < 8 ∧ pt_rm (w + 1) (x ||| 2 ^ b) := by
  obtain ⟨h1, h2⟩ := pair_bits hb hf
  have h3 := free_or x b hb h1 h2
  obtain ⟨h4, h5⟩ := h
  exact ⟨by omega, by omega, Nat.or_lt_two_pow (n := 16) h5 (Nat.pow_lt_pow_right (by decide) hb)⟩
abbrev pt_R : Type := Bool × Nat × (Nat → Nat) × (Nat → Nat) × (Nat → Int32)
/-- the integers of a clause c are read, k of them yet: whether it was in order, behind which word it stands, the rows -/
def pt_rc (t : Nat → Nat) (tn v c : Nat) : Nat → Nat → (Nat → Nat) → (Nat → Nat) → (Nat → Int32) → pt_R
  | 0, q, fz, fs, fl => (false, q, fz, fs, fl)
  | k + 1, q, fz, fs, fl =>
    if pt_intv t (pt_ws t tn q) (pt_zz t tn q) = 0 then (true, pt_zz t tn q, fz, fs, fl)
    else match pt_lof (pt_intv t (pt_ws t tn q) (pt_zz t tn q)) with
      | none => (false, pt_zz t tn q, fz, fs, fl)
      | some b => if v < b % 8 + 1 ∨ ¬ fs c &&& (2 ^ (b % 8) ||| 2 ^ (b % 8 + 8)) = 0 then (false, pt_zz t tn q, fz, fs, fl)
        else pt_rc t tn v c k (pt_zz t tn q) (va_up fz c (fz c + 1)) (va_up fs c (fs c ||| 2 ^ b)) (upd fl (c * 8 + fz c) (pt_lit b))
abbrev pt_K : Type := Int32 × (Nat → Nat) × (Nat → Nat) × (Nat → Int32)
/-- the literal's bit of a byte -/
def pt_lob (x : Nat) : Option Nat := if 1 ≤ x / 2 ∧ x / 2 ≤ 8 then some (if x % 2 = 0 then x / 2 - 1 else x / 2 + 7) else none
/-- the bytes of a clause are read: the place behind it, or that there is none -/
def pt_rp (t : Nat → Nat) (tn c : Nat) : Nat → Nat → (Nat → Nat) → (Nat → Nat) → (Nat → Int32) → pt_K
  | 0, _, fz, fs, fl => (-1000, fz, fs, fl)
  | k + 1, i, fz, fs, fl =>
    if tn ≤ i then (-1000, fz, fs, fl)
    else if t i = 0 then (nI (i + 1), fz, fs, fl)
    else match pt_lob (t i) with
      | none => (-1000, fz, fs, fl)
      | some b => if ¬ fs c &&& (2 ^ (b % 8) ||| 2 ^ (b % 8 + 8)) = 0 then (-1000, fz, fs, fl)
        else pt_rp t tn c k (i + 1) (va_up fz c (fz c + 1)) (va_up fs c (fs c ||| 2 ^ b)) (upd fl (c * 8 + fz c) (pt_lit b))
theorem lob_some : ∀ x, x < 256 → ∀ b, pt_lob x = some b → b < 16 ∧ (if x % 2 = 0 then nI (x / 2) else -nI (x / 2)) = pt_lit b := by
  intro x hx b h
  unfold pt_lob at h
  split at h
  · rename_i h1
    have h2 := Option.some.inj h
    subst h2
    by_cases h3 : x % 2 = 0
    · rw [if_pos h3, if_pos h3]
      refine ⟨by omega, ?_⟩
      rw [pt_lit, if_pos (by omega), show x / 2 - 1 + 1 = x / 2 by omega]
    · rw [if_neg h3, if_neg h3]
      refine ⟨by omega, ?_⟩
      rw [pt_lit, if_neg (by omega), show x / 2 + 7 - 7 = x / 2 by omega]
  · exact absurd h (by simp)
theorem lob_none : ∀ x, x < 256 → pt_lob x = none → pt_no (if x % 2 = 0 then nI (x / 2) else -nI (x / 2)) := by
  intro x hx h
  unfold pt_lob at h
  split at h
  · exact absurd h (by simp)
  · rename_i h1
    have key : ∀ y, y < 128 → ¬ (1 ≤ y ∧ y ≤ 8) → pt_no (nI y) ∧ pt_no (-nI y) := by
      unfold pt_no
      decide +kernel
    have h2 := key (x / 2) (by omega) h1
    split
    · exact h2.1
    · exact h2.2
theorem no_500 : pt_no ((-1000 : Int32) >>> (nI 1 &&& 31)) := by unfold pt_no; decide +kernel

theorem dc_Dr_readClause_0 : decode bc_Dr_readClause 0 = .ok (.aload_n 0, 1) := by decide +kernel
theorem dc_Dr_readClause_1 : decode bc_Dr_readClause 1 = .ok (.getfield 20, 3) := by decide +kernel
theorem dc_Dr_readClause_4 : decode bc_Dr_readClause 4 = .ok (.invokevirtual 74, 3) := by decide +kernel
theorem dc_Dr_readClause_7 : decode bc_Dr_readClause 7 = .ok (.ifCond .ne (5), 3) := by decide +kernel
theorem dc_Dr_readClause_10 : decode bc_Dr_readClause 10 = .ok (.iconst 0, 1) := by decide +kernel
theorem dc_Dr_readClause_11 : decode bc_Dr_readClause 11 = .ok (.ireturn, 1) := by decide +kernel
theorem dc_Dr_readClause_12 : decode bc_Dr_readClause 12 = .ok (.iconst 0, 1) := by decide +kernel
theorem dc_Dr_readClause_13 : decode bc_Dr_readClause 13 = .ok (.istore_n 3, 1) := by decide +kernel
theorem dc_Dr_readClause_14 : decode bc_Dr_readClause 14 = .ok (.iload_n 3, 1) := by decide +kernel
theorem dc_Dr_readClause_15 : decode bc_Dr_readClause 15 = .ok (.bipush (8), 2) := by decide +kernel
theorem dc_Dr_readClause_17 : decode bc_Dr_readClause 17 = .ok (.if_icmp .gt (49), 3) := by decide +kernel
theorem dc_Dr_readClause_20 : decode bc_Dr_readClause 20 = .ok (.aload_n 1, 1) := by decide +kernel
theorem dc_Dr_readClause_21 : decode bc_Dr_readClause 21 = .ok (.invokevirtual 43, 3) := by decide +kernel
theorem dc_Dr_readClause_24 : decode bc_Dr_readClause 24 = .ok (.istore 4, 2) := by decide +kernel
theorem dc_Dr_readClause_26 : decode bc_Dr_readClause 26 = .ok (.aload_n 1, 1) := by decide +kernel
theorem dc_Dr_readClause_27 : decode bc_Dr_readClause 27 = .ok (.invokevirtual 47, 3) := by decide +kernel
theorem dc_Dr_readClause_30 : decode bc_Dr_readClause 30 = .ok (.iload 4, 2) := by decide +kernel
theorem dc_Dr_readClause_32 : decode bc_Dr_readClause 32 = .ok (.ifCond .ne (5), 3) := by decide +kernel
theorem dc_Dr_readClause_35 : decode bc_Dr_readClause 35 = .ok (.iconst 1, 1) := by decide +kernel
theorem dc_Dr_readClause_36 : decode bc_Dr_readClause 36 = .ok (.ireturn, 1) := by decide +kernel
theorem dc_Dr_readClause_37 : decode bc_Dr_readClause 37 = .ok (.iload 4, 2) := by decide +kernel
theorem dc_Dr_readClause_39 : decode bc_Dr_readClause 39 = .ok (.invokestatic 77, 3) := by decide +kernel
theorem dc_Dr_readClause_42 : decode bc_Dr_readClause 42 = .ok (.iload_n 2, 1) := by decide +kernel
theorem dc_Dr_readClause_43 : decode bc_Dr_readClause 43 = .ok (.if_icmp .gt (15), 3) := by decide +kernel
theorem dc_Dr_readClause_46 : decode bc_Dr_readClause 46 = .ok (.aload_n 0, 1) := by decide +kernel
theorem dc_Dr_readClause_47 : decode bc_Dr_readClause 47 = .ok (.getfield 20, 3) := by decide +kernel
theorem dc_Dr_readClause_50 : decode bc_Dr_readClause 50 = .ok (.iload 4, 2) := by decide +kernel
theorem dc_Dr_readClause_52 : decode bc_Dr_readClause 52 = .ok (.invokevirtual 80, 3) := by decide +kernel
theorem dc_Dr_readClause_55 : decode bc_Dr_readClause 55 = .ok (.ifCond .ne (5), 3) := by decide +kernel
theorem dc_Dr_readClause_58 : decode bc_Dr_readClause 58 = .ok (.iconst 0, 1) := by decide +kernel
theorem dc_Dr_readClause_59 : decode bc_Dr_readClause 59 = .ok (.ireturn, 1) := by decide +kernel
theorem dc_Dr_readClause_60 : decode bc_Dr_readClause 60 = .ok (.iinc 3 (1), 3) := by decide +kernel
theorem dc_Dr_readClause_63 : decode bc_Dr_readClause 63 = .ok (.goto (-49), 3) := by decide +kernel
theorem dc_Dr_readClause_66 : decode bc_Dr_readClause 66 = .ok (.iconst 0, 1) := by decide +kernel
theorem dc_Dr_readClause_67 : decode bc_Dr_readClause 67 = .ok (.ireturn, 1) := by decide +kernel
theorem dc_Dr_readPackedClause_0 : decode bc_Dr_readPackedClause 0 = .ok (.aload_n 0, 1) := by decide +kernel
theorem dc_Dr_readPackedClause_1 : decode bc_Dr_readPackedClause 1 = .ok (.getfield 20, 3) := by decide +kernel
theorem dc_Dr_readPackedClause_4 : decode bc_Dr_readPackedClause 4 = .ok (.invokevirtual 74, 3) := by decide +kernel
theorem dc_Dr_readPackedClause_7 : decode bc_Dr_readPackedClause 7 = .ok (.ifCond .ne (7), 3) := by decide +kernel
theorem dc_Dr_readPackedClause_10 : decode bc_Dr_readPackedClause 10 = .ok (.sipush (-1000), 3) := by decide +kernel
theorem dc_Dr_readPackedClause_13 : decode bc_Dr_readPackedClause 13 = .ok (.ireturn, 1) := by decide +kernel
theorem dc_Dr_readPackedClause_14 : decode bc_Dr_readPackedClause 14 = .ok (.iload_n 2, 1) := by decide +kernel
theorem dc_Dr_readPackedClause_15 : decode bc_Dr_readPackedClause 15 = .ok (.istore_n 3, 1) := by decide +kernel
theorem dc_Dr_readPackedClause_16 : decode bc_Dr_readPackedClause 16 = .ok (.iload_n 3, 1) := by decide +kernel
theorem dc_Dr_readPackedClause_17 : decode bc_Dr_readPackedClause 17 = .ok (.iload_n 2, 1) := by decide +kernel
theorem dc_Dr_readPackedClause_18 : decode bc_Dr_readPackedClause 18 = .ok (.bipush (8), 2) := by decide +kernel
theorem dc_Dr_readPackedClause_20 : decode bc_Dr_readPackedClause 20 = .ok (.iadd, 1) := by decide +kernel
theorem dc_Dr_readPackedClause_21 : decode bc_Dr_readPackedClause 21 = .ok (.if_icmp .gt (60), 3) := by decide +kernel
theorem dc_Dr_readPackedClause_24 : decode bc_Dr_readPackedClause 24 = .ok (.aload_n 1, 1) := by decide +kernel
theorem dc_Dr_readPackedClause_25 : decode bc_Dr_readPackedClause 25 = .ok (.iload_n 3, 1) := by decide +kernel
theorem dc_Dr_readPackedClause_26 : decode bc_Dr_readPackedClause 26 = .ok (.invokevirtual 66, 3) := by decide +kernel
theorem dc_Dr_readPackedClause_29 : decode bc_Dr_readPackedClause 29 = .ok (.istore 4, 2) := by decide +kernel
theorem dc_Dr_readPackedClause_31 : decode bc_Dr_readPackedClause 31 = .ok (.iload 4, 2) := by decide +kernel
theorem dc_Dr_readPackedClause_33 : decode bc_Dr_readPackedClause 33 = .ok (.ifCond .ne (7), 3) := by decide +kernel
theorem dc_Dr_readPackedClause_36 : decode bc_Dr_readPackedClause 36 = .ok (.iload_n 3, 1) := by decide +kernel
theorem dc_Dr_readPackedClause_37 : decode bc_Dr_readPackedClause 37 = .ok (.iconst 1, 1) := by decide +kernel
theorem dc_Dr_readPackedClause_38 : decode bc_Dr_readPackedClause 38 = .ok (.iadd, 1) := by decide +kernel
theorem dc_Dr_readPackedClause_39 : decode bc_Dr_readPackedClause 39 = .ok (.ireturn, 1) := by decide +kernel
theorem dc_Dr_readPackedClause_40 : decode bc_Dr_readPackedClause 40 = .ok (.iload 4, 2) := by decide +kernel
theorem dc_Dr_readPackedClause_42 : decode bc_Dr_readPackedClause 42 = .ok (.iconst 1, 1) := by decide +kernel
theorem dc_Dr_readPackedClause_43 : decode bc_Dr_readPackedClause 43 = .ok (.ishr, 1) := by decide +kernel
theorem dc_Dr_readPackedClause_44 : decode bc_Dr_readPackedClause 44 = .ok (.istore 5, 2) := by decide +kernel
theorem dc_Dr_readPackedClause_46 : decode bc_Dr_readPackedClause 46 = .ok (.aload_n 0, 1) := by decide +kernel
theorem dc_Dr_readPackedClause_47 : decode bc_Dr_readPackedClause 47 = .ok (.getfield 20, 3) := by decide +kernel
theorem dc_Dr_readPackedClause_50 : decode bc_Dr_readPackedClause 50 = .ok (.iload 4, 2) := by decide +kernel
theorem dc_Dr_readPackedClause_52 : decode bc_Dr_readPackedClause 52 = .ok (.iconst 1, 1) := by decide +kernel
theorem dc_Dr_readPackedClause_53 : decode bc_Dr_readPackedClause 53 = .ok (.iand, 1) := by decide +kernel
theorem dc_Dr_readPackedClause_54 : decode bc_Dr_readPackedClause 54 = .ok (.ifCond .ne (8), 3) := by decide +kernel
theorem dc_Dr_readPackedClause_57 : decode bc_Dr_readPackedClause 57 = .ok (.iload 5, 2) := by decide +kernel
theorem dc_Dr_readPackedClause_59 : decode bc_Dr_readPackedClause 59 = .ok (.goto (6), 3) := by decide +kernel
theorem dc_Dr_readPackedClause_62 : decode bc_Dr_readPackedClause 62 = .ok (.iload 5, 2) := by decide +kernel
theorem dc_Dr_readPackedClause_64 : decode bc_Dr_readPackedClause 64 = .ok (.ineg, 1) := by decide +kernel
theorem dc_Dr_readPackedClause_65 : decode bc_Dr_readPackedClause 65 = .ok (.invokevirtual 80, 3) := by decide +kernel
theorem dc_Dr_readPackedClause_68 : decode bc_Dr_readPackedClause 68 = .ok (.ifCond .ne (7), 3) := by decide +kernel
theorem dc_Dr_readPackedClause_71 : decode bc_Dr_readPackedClause 71 = .ok (.sipush (-1000), 3) := by decide +kernel
theorem dc_Dr_readPackedClause_74 : decode bc_Dr_readPackedClause 74 = .ok (.ireturn, 1) := by decide +kernel
theorem dc_Dr_readPackedClause_75 : decode bc_Dr_readPackedClause 75 = .ok (.iinc 3 (1), 3) := by decide +kernel
theorem dc_Dr_readPackedClause_78 : decode bc_Dr_readPackedClause 78 = .ok (.goto (-62), 3) := by decide +kernel
theorem dc_Dr_readPackedClause_81 : decode bc_Dr_readPackedClause 81 = .ok (.sipush (-1000), 3) := by decide +kernel
theorem dc_Dr_readPackedClause_84 : decode bc_Dr_readPackedClause 84 = .ok (.ireturn, 1) := by decide +kernel
set_option maxHeartbeats 4000000 in
set_option maxRecDepth 100000 in
theorem ct_Dr_readClause (l : Launch) (D : va_G) (cI cZ : ClassId) (sz : Nat) (xd : Nat) (xr : Nat) (da : Nat) (ra : Nat) (rb : Nat) (rd : Nat) (n : Nat) (fz : Nat → Nat) (fs : Nat → Nat) (fl : Nat → Int32) (xw : Nat) (q : Nat) (xt : Nat) (ta : Nat) (tn : Nat) (t : Nat → Nat) (v : Nat) (hn16 : n < 16) (hv8 : v ≤ 8) (htn0 : tn ≤ 250) (ht : ∀ j, t j < 256) (hq : q ≤ tn) : Met l yn_Dr_readClause (Cond.code yn_Dr_readClause bc_Dr_readClause 5 (some .boolean) :: kx_all) ({ frames := 3, cells := 0, slots := 0, locals := 63 } : Room) (kp [.ref xd, .ref xw, .int (nI v)] D cI cZ [dr_c xd xr da, cl_c xr ra rb rd n, ar_n cI ra 17 fz, ar_n cI rb 17 fs, ar_i cI rd (17 * 8) fl, wo_c xw xt (pt_ws t tn (q)) (pt_zz t tn (q)), tx_c xt ta tn, ar_n cI ta 250 t] sz) (kw_q (some (.int (kb_i ((pt_rc t tn v (n + 1) 9 q (va_up fz (n + 1) 0) (va_up fs (n + 1) 0) fl).1)))) D kc_l [dr_c xd xr da, cl_c xr ra rb rd (n + 1), ar_n cI ra 17 ((pt_rc t tn v (n + 1) 9 q (va_up fz (n + 1) 0) (va_up fs (n + 1) 0) fl).2.2.1), ar_n cI rb 17 ((pt_rc t tn v (n + 1) 9 q (va_up fz (n + 1) 0) (va_up fs (n + 1) 0) fl).2.2.2.1), ar_i cI rd (17 * 8) ((pt_rc t tn v (n + 1) 9 q (va_up fz (n + 1) 0) (va_up fs (n + 1) 0) fl).2.2.2.2), wo_c xw xt (pt_ws t tn ((pt_rc t tn v (n + 1) 9 q (va_up fz (n + 1) 0) (va_up fs (n + 1) 0) fl).2.1)) (pt_zz t tn ((pt_rc t tn v (n + 1) 9 q (va_up fz (n + 1) 0) (va_up fs (n + 1) 0) fl).2.1)), tx_c xt ta tn, ar_n cI ta 250 t] (va_A [dr_c xd xr da, cl_c xr ra rb rd n, ar_n cI ra 17 fz, ar_n cI rb 17 fs, ar_i cI rd (17 * 8) fl, wo_c xw xt (pt_ws t tn (q)) (pt_zz t tn (q)), tx_c xt ta tn, ar_n cI ta 250 t] sz)) 0 0 (va_A [dr_c xd xr da, cl_c xr ra rb rd n, ar_n cI ra 17 fz, ar_n cI rb 17 fs, ar_i cI rd (17 * 8) fl, wo_c xw xt (pt_ws t tn (q)) (pt_zz t tn (q)), tx_c xt ta tn, ar_n cI ta 250 t] sz) := by
  refine kx_metW (by decide) (Nat.le_of_ble_eq_true rfl) ?_
  intro p e s m below meth c ls A hx hb hr hml hts hown hlocks hin hA hP hK hD hN hl hS
  have hown : s.vm.findClass rn_Dr = some m.cls := hown
  have hl : lv_has ls 5 [(0, .ref xd), (1, .ref xw), (2, .int (nI v))] := hl
  have htn : tn ≤ 250 := htn0
  refine lv_aload_n hx hb dc_Dr_readClause_0 rfl (lv_at hl 0 rfl) ?_
  refine va_get (ci := 3) (v := .ref xr) (C := rn_Dr) (T := fd_Dr) (N := 2) hx hb hts in_Dr hown hK hP 0 rfl rfl 0 (by decide) (hts _ wd_87) (fun _ h9 => h9) rfl dc_Dr_readClause_1 ?_
  refine kw_call1 (wr := [dr_c xd xr da, wo_c xw xt (pt_ws t tn (q)) (pt_zz t tn (q)), tx_c xt ta tn, ar_n cI ta 250 t]) (ws' := [dr_c xd xr da, cl_c xr ra rb rd (n + 1), ar_n cI ra 17 (va_up fz (n + 1) 0), ar_n cI rb 17 (va_up fs (n + 1) 0), ar_i cI rd (17 * 8) fl, wo_c xw xt (pt_ws t tn (q)) (pt_zz t tn (q)), tx_c xt ta tn, ar_n cI ta 250 t]) (va_runV (As := []) (rest := []) ⟨hx, hb, hml, hown, hts⟩ (ct_Cl_begin l D cI cZ _ xr ra rb rd 17 n fz fs fl (by decide) (by omega)) (cwV 0 hts (kx_gV wd_402 wd_403 wd_404 wd_4 wd_405) rfl rfl rfl ⟨rfl, yd_Cl_begin⟩ ⟨Nat.le_of_ble_eq_true rfl, Nat.le_of_ble_eq_true rfl⟩) (kp_V (q0 := 1) (ci := 2) hP hD hK hN [1, 2, 3, 4] rfl rfl rfl rfl rfl) rfl rfl hl.1 rfl (lv_room (Nat.le_of_ble_eq_true rfl)) dc_Dr_readClause_4 ⟨Nat.le_of_ble_eq_true rfl, Nat.le_of_ble_eq_true rfl⟩) hP hD hS hA [1, 2, 3, 4] [0, 5, 6, 7] [0, 4, 5, 6, 7, 1, 2, 3] rfl rfl rfl (by decide) rfl rfl (fun H locs hP hD hS => ?_)
  refine kb_if_ne hx hb dc_Dr_readClause_7 rfl (fun hc7 => ?_) (fun hc7 => ?_)
  · refine lv_iconst (v := nI 0) hx hb dc_Dr_readClause_12 (by decide +kernel) ?_
    refine lv_istore_n (lv' := [(3, .int (nI 0)), (0, .ref xd), (1, .ref xw), (2, .int (nI v))]) hx hb dc_Dr_readClause_13 rfl hl (by decide) rfl (fun ls hl => ?_)
    have lp_14 : ∀ (K : Nat) (k : Nat) (q1 : Nat) (fz1 : Nat → Nat) (fs1 : Nat → Nat) (fl1 : Nat → Int32) (H : Heap) (locs : List Loc) (ls : Array Slot), 9 - k < K → va_P D kc_l [dr_c xd xr da, cl_c xr ra rb rd (n + 1), ar_n cI ra 17 fz1, ar_n cI rb 17 fs1, ar_i cI rd (17 * 8) fl1, wo_c xw xt (pt_ws t tn (q1)) (pt_zz t tn (q1)), tx_c xt ta tn, ar_n cI ta 250 t] H → va_D A [dr_c xd xr da, cl_c xr ra rb rd (n + 1), ar_n cI ra 17 fz1, ar_n cI rb 17 fs1, ar_i cI rd (17 * 8) fl1, wo_c xw xt (pt_ws t tn (q1)) (pt_zz t tn (q1)), tx_c xt ta tn, ar_n cI ta 250 t] → va_S A s.heap H locs → lv_has ls 5 [(3, .int (nI k)), (0, .ref xd), (1, .ref xw), (2, .int (nI v))] → (pt_rc t tn v (n + 1) (9 - k) q1 fz1 fs1 fl1 = pt_rc t tn v (n + 1) 9 q (va_up fz (n + 1) 0) (va_up fs (n + 1) 0) fl) → (k ≤ 9) → (pt_rm (fz1 (n + 1)) (fs1 (n + 1))) → (q1 ≤ tn) → W p l e ({ frames := 3, cells := 0, slots := 0, locals := 63 } : Room) s m ([.ref xd, .ref xw, .int (nI v)] : List Value).toArray below meth c H locs 0 0 (MQ below (kw_q (some (.int (kb_i ((pt_rc t tn v (n + 1) 9 q (va_up fz (n + 1) 0) (va_up fs (n + 1) 0) fl).1)))) D kc_l [dr_c xd xr da, cl_c xr ra rb rd (n + 1), ar_n cI ra 17 ((pt_rc t tn v (n + 1) 9 q (va_up fz (n + 1) 0) (va_up fs (n + 1) 0) fl).2.2.1), ar_n cI rb 17 ((pt_rc t tn v (n + 1) 9 q (va_up fz (n + 1) 0) (va_up fs (n + 1) 0) fl).2.2.2.1), ar_i cI rd (17 * 8) ((pt_rc t tn v (n + 1) 9 q (va_up fz (n + 1) 0) (va_up fs (n + 1) 0) fl).2.2.2.2), wo_c xw xt (pt_ws t tn ((pt_rc t tn v (n + 1) 9 q (va_up fz (n + 1) 0) (va_up fs (n + 1) 0) fl).2.1)) (pt_zz t tn ((pt_rc t tn v (n + 1) 9 q (va_up fz (n + 1) 0) (va_up fs (n + 1) 0) fl).2.1)), tx_c xt ta tn, ar_n cI ta 250 t] A) ([.ref xd, .ref xw, .int (nI v)] : List Value).toArray s 0 0 A) (F0 m 14 ls []) := by
      intro K
      induction K with
      | zero =>
        intro k q1 fz1 fs1 fl1 H locs ls hk
        exact absurd hk (Nat.not_lt_zero _)
      | succ K ih =>
        intro k q1 fz1 fs1 fl1 H locs ls hk hP hD hS hl h1 h2 h3 h4
        refine lv_iload_n hx hb dc_Dr_readClause_14 rfl (lv_at hl 0 rfl) ?_
        refine lv_bipush (v := nI 8) hx hb dc_Dr_readClause_15 (by decide +kernel) ?_
        refine kn_icmp_gt hx hb (by omega) (by omega) dc_Dr_readClause_17 rfl (fun hc17 => ?_) (fun hc17 => ?_)
        · refine lv_iconst (v := nI 0) hx hb dc_Dr_readClause_66 (by decide +kernel) ?_
          refine kn_top (y := kb_i false) (by decide +kernel) ?_
          exact kw_zret hx hb hr hlocks hP hD hS dc_Dr_readClause_67 (by rw [← h1, show 9 - k = 0 by omega, pt_rc]) (by rw [← h1, show 9 - k = 0 by omega, pt_rc])
        · refine lv_aload_n hx hb dc_Dr_readClause_20 rfl (lv_at hl 2 rfl) ?_
          refine kr_call1 (va_runV (As := []) (rest := []) ⟨hx, hb, hml, hown, hts⟩ (ct_Wd_integer l D cI cZ _ xw xt ta 250 tn t (pt_ws t tn (q1)) (pt_zz t tn (q1)) (by decide) (htn) (ht) (ws_zz _ _ _) (zz_le h4) (fun h9 => ws_lt h9)) (cwV 0 hts (kx_gV wd_393 wd_394 wd_395 wd_10 wd_396) rfl rfl rfl ⟨rfl, yd_Wd_integer⟩ ⟨Nat.le_of_ble_eq_true rfl, Nat.le_of_ble_eq_true rfl⟩) (kp_V (q0 := 5) (ci := 1) hP hD hK hN [5, 6, 7] rfl rfl rfl rfl rfl) rfl rfl hl.1 rfl (lv_room (Nat.le_of_ble_eq_true rfl)) dc_Dr_readClause_21 ⟨Nat.le_of_ble_eq_true rfl, Nat.le_of_ble_eq_true rfl⟩) ?_
          refine lv_istore (lv' := [(4, .int (pt_intv t (pt_ws t tn (q1)) (pt_zz t tn (q1)))), (3, .int (nI k)), (0, .ref xd), (1, .ref xw), (2, .int (nI v))]) hx hb dc_Dr_readClause_24 hl (by decide) rfl (fun ls hl => ?_)
          refine lv_aload_n hx hb dc_Dr_readClause_26 rfl (lv_at hl 3 rfl) ?_
          refine kw_call0 (wr := [dr_c xd xr da, cl_c xr ra rb rd (n + 1), ar_n cI ra 17 fz1, ar_n cI rb 17 fs1, ar_i cI rd (17 * 8) fl1]) (ws' := [dr_c xd xr da, cl_c xr ra rb rd (n + 1), ar_n cI ra 17 fz1, ar_n cI rb 17 fs1, ar_i cI rd (17 * 8) fl1, wo_c xw xt (pt_ws t tn (pt_zz t tn (q1))) (pt_we t tn (pt_ws t tn (pt_zz t tn (q1)))), tx_c xt ta tn, ar_n cI ta 250 t]) (va_runV (As := []) (rest := []) ⟨hx, hb, hml, hown, hts⟩ (ct_Wd_advance l D cI cZ _ xw xt ta 250 tn t (pt_ws t tn (q1)) (pt_zz t tn (q1)) (by decide) (htn) (ht) (zz_le h4)) (cwV 0 hts (kx_gV wd_397 wd_389 wd_390 wd_10 wd_391) rfl rfl rfl ⟨rfl, yd_Wd_advance⟩ ⟨Nat.le_of_ble_eq_true rfl, Nat.le_of_ble_eq_true rfl⟩) (kp_V (q0 := 5) (ci := 1) hP hD hK hN [5, 6, 7] rfl rfl rfl rfl rfl) rfl rfl hl.1 rfl (lv_room (Nat.le_of_ble_eq_true rfl)) dc_Dr_readClause_27 ⟨Nat.le_of_ble_eq_true rfl, Nat.le_of_ble_eq_true rfl⟩) hP hD hS hA [5, 6, 7] [0, 1, 2, 3, 4] [0, 1, 2, 3, 4, 5, 6, 7] rfl rfl rfl (by decide) rfl rfl (fun H locs hP hD hS => ?_)
          have hP : va_P D kc_l [dr_c xd xr da, cl_c xr ra rb rd (n + 1), ar_n cI ra 17 fz1, ar_n cI rb 17 fs1, ar_i cI rd (17 * 8) fl1, wo_c xw xt (pt_ws t tn (pt_zz t tn q1)) (pt_zz t tn (pt_zz t tn q1)), tx_c xt ta tn, ar_n cI ta 250 t] H := hP
          have hD : va_D A [dr_c xd xr da, cl_c xr ra rb rd (n + 1), ar_n cI ra 17 fz1, ar_n cI rb 17 fs1, ar_i cI rd (17 * 8) fl1, wo_c xw xt (pt_ws t tn (pt_zz t tn q1)) (pt_zz t tn (pt_zz t tn q1)), tx_c xt ta tn, ar_n cI ta 250 t] := hD
          have hst : pt_rc t tn v (n + 1) (9 - k) q1 fz1 fs1 fl1 = (if pt_intv t (pt_ws t tn q1) (pt_zz t tn q1) = 0 then (true, pt_zz t tn q1, fz1, fs1, fl1) else match pt_lof (pt_intv t (pt_ws t tn q1) (pt_zz t tn q1)) with | none => (false, pt_zz t tn q1, fz1, fs1, fl1) | some b => if v < b % 8 + 1 ∨ ¬ fs1 (n + 1) &&& (2 ^ (b % 8) ||| 2 ^ (b % 8 + 8)) = 0 then (false, pt_zz t tn q1, fz1, fs1, fl1) else pt_rc t tn v (n + 1) (9 - (k + 1)) (pt_zz t tn q1) (va_up fz1 (n + 1) (fz1 (n + 1) + 1)) (va_up fs1 (n + 1) (fs1 (n + 1) ||| 2 ^ b)) (upd fl1 ((n + 1) * 8 + fz1 (n + 1)) (pt_lit b))) := by
            rw [show 9 - k = (9 - (k + 1)) + 1 by omega, pt_rc]
          generalize hxe : pt_intv t (pt_ws t tn q1) (pt_zz t tn q1) = x at hl hst
          by_cases hx0 : x = 0
          · refine lv_iload hx hb dc_Dr_readClause_30 (lv_at hl 0 rfl) ?_
            refine lv_if_ne hx hb dc_Dr_readClause_32 rfl (fun hc32 => ?_) (fun hc32 => ?_)
            · exact absurd hx0 hc32
            · refine lv_iconst (v := nI 1) hx hb dc_Dr_readClause_35 (by decide +kernel) ?_
              refine kn_top (y := kb_i true) (by decide +kernel) ?_
              exact kw_zret hx hb hr hlocks hP hD hS dc_Dr_readClause_36 (by rw [← h1, hst, if_pos hx0]) (by rw [← h1, hst, if_pos hx0])
          · rcases hlo : pt_lof x with _ | b
            · rw [if_neg hx0, hlo] at hst
              refine lv_iload hx hb dc_Dr_readClause_30 (lv_at hl 0 rfl) ?_
              refine lv_if_ne hx hb dc_Dr_readClause_32 rfl (fun hc32 => ?_) (fun hc32 => ?_)
              · refine lv_iload hx hb dc_Dr_readClause_37 (lv_at hl 0 rfl) ?_
                refine va_mabs hx hb (by rw [hml]; exact hl.1.symm) hown (hts _ wd_406) (hts _ wd_407) (hts _ wd_5) (hts _ wd_408) (Nat.le_of_ble_eq_true rfl) (Nat.le_of_ble_eq_true rfl) (Nat.le_of_ble_eq_true rfl) (Nat.le_of_ble_eq_true rfl) dc_Dr_readClause_39 ?_
                refine lv_iload_n hx hb dc_Dr_readClause_42 rfl (lv_at hl 4 rfl) ?_
                refine lv_icmp_gt hx hb dc_Dr_readClause_43 rfl (fun hc43 => ?_) (fun hc43 => ?_)
                · refine lv_iconst (v := nI 0) hx hb dc_Dr_readClause_58 (by decide +kernel) ?_
                  refine kn_top (y := kb_i false) (by decide +kernel) ?_
                  exact kw_zret hx hb hr hlocks hP hD hS dc_Dr_readClause_59 (by rw [← h1, hst]) (by rw [← h1, hst])
                · refine lv_aload_n hx hb dc_Dr_readClause_46 rfl (lv_at hl 2 rfl) ?_
                  refine va_get (ci := 3) (v := .ref xr) (C := rn_Dr) (T := fd_Dr) (N := 2) hx hb hts in_Dr hown hK hP 0 rfl rfl 0 (by decide) (hts _ wd_87) (fun _ h9 => h9) rfl dc_Dr_readClause_47 ?_
                  refine lv_iload hx hb dc_Dr_readClause_50 (lv_at hl 0 rfl) ?_
                  refine kr_call1 (va_runV (As := [.int x]) (rest := []) ⟨hx, hb, hml, hown, hts⟩ (ct_Cl_append_no l D cI cZ _ xr ra rb rd (n + 1) x (by omega) (by omega) (lof_none hlo)) (cwV 1 hts (kx_gV wd_409 wd_410 wd_411 wd_4 wd_412) rfl rfl rfl ⟨rfl, yd_Cl_append⟩ ⟨Nat.le_of_ble_eq_true rfl, Nat.le_of_ble_eq_true rfl⟩) (kp_V (q0 := 1) (ci := 2) hP hD hK hN [1] rfl rfl rfl rfl rfl) rfl rfl hl.1 rfl (lv_room (Nat.le_of_ble_eq_true rfl)) dc_Dr_readClause_52 ⟨Nat.le_of_ble_eq_true rfl, Nat.le_of_ble_eq_true rfl⟩) ?_
                  refine kb_if_ne hx hb dc_Dr_readClause_55 rfl (fun hc55 => ?_) (fun hc55 => ?_)
                  · exact absurd hc55 (by decide)
                  · refine lv_iconst (v := nI 0) hx hb dc_Dr_readClause_58 (by decide +kernel) ?_
                    refine kn_top (y := kb_i false) (by decide +kernel) ?_
                    exact kw_zret hx hb hr hlocks hP hD hS dc_Dr_readClause_59 (by rw [← h1, hst]) (by rw [← h1, hst])
              · exact absurd hc32 hx0
            · obtain ⟨hb16, rfl⟩ := lof_some hlo
              rw [if_neg hx0, hlo] at hst
              dsimp only at hst
              refine lv_iload hx hb dc_Dr_readClause_30 (lv_at hl 0 rfl) ?_
              refine lv_if_ne hx hb dc_Dr_readClause_32 rfl (fun hc32 => ?_) (fun hc32 => ?_)
              · refine lv_iload hx hb dc_Dr_readClause_37 (lv_at hl 0 rfl) ?_
                refine va_mabs hx hb (by rw [hml]; exact hl.1.symm) hown (hts _ wd_406) (hts _ wd_407) (hts _ wd_5) (hts _ wd_408) (Nat.le_of_ble_eq_true rfl) (Nat.le_of_ble_eq_true rfl) (Nat.le_of_ble_eq_true rfl) (Nat.le_of_ble_eq_true rfl) dc_Dr_readClause_39 ?_
                refine kn_top (y := nI (b % 8 + 1)) (pt_abs b hb16) ?_
                refine lv_iload_n hx hb dc_Dr_readClause_42 rfl (lv_at hl 4 rfl) ?_
                refine kn_icmp_gt hx hb (by omega) (by omega) dc_Dr_readClause_43 rfl (fun hc43 => ?_) (fun hc43 => ?_)
                · have hno : v < b % 8 + 1 ∨ ¬ fs1 (n + 1) &&& (2 ^ (b % 8) ||| 2 ^ (b % 8 + 8)) = 0 := Or.inl hc43
                  refine lv_iconst (v := nI 0) hx hb dc_Dr_readClause_58 (by decide +kernel) ?_
                  refine kn_top (y := kb_i false) (by decide +kernel) ?_
                  exact kw_zret hx hb hr hlocks hP hD hS dc_Dr_readClause_59 (by rw [← h1, hst, if_pos hno]) (by rw [← h1, hst, if_pos hno])
                · refine lv_aload_n hx hb dc_Dr_readClause_46 rfl (lv_at hl 2 rfl) ?_
                  refine va_get (ci := 3) (v := .ref xr) (C := rn_Dr) (T := fd_Dr) (N := 2) hx hb hts in_Dr hown hK hP 0 rfl rfl 0 (by decide) (hts _ wd_87) (fun _ h9 => h9) rfl dc_Dr_readClause_47 ?_
                  refine lv_iload hx hb dc_Dr_readClause_50 (lv_at hl 0 rfl) ?_
                  by_cases hfr : ¬ fs1 (n + 1) &&& (2 ^ (b % 8) ||| 2 ^ (b % 8 + 8)) = 0
                  rotate_left
                  have hfr := Classical.not_not.mp hfr
                  rotate_left
                  · have hno : v < b % 8 + 1 ∨ ¬ fs1 (n + 1) &&& (2 ^ (b % 8) ||| 2 ^ (b % 8 + 8)) = 0 := Or.inr hfr
                    refine kr_call1 (va_runV (As := [.int (pt_lit b)]) (rest := []) ⟨hx, hb, hml, hown, hts⟩ (ct_Cl_append_dup l D cI cZ _ xr ra rb rd 17 (n + 1) fz1 fs1 fl1 b (by decide) (by omega) (hb16) (by omega) (h3.2) (hfr)) (cwV 1 hts (kx_gV wd_409 wd_410 wd_411 wd_4 wd_412) rfl rfl rfl ⟨rfl, yd_Cl_append⟩ ⟨Nat.le_of_ble_eq_true rfl, Nat.le_of_ble_eq_true rfl⟩) (kp_V (q0 := 1) (ci := 2) hP hD hK hN [1, 2, 3, 4] rfl rfl rfl rfl rfl) rfl rfl hl.1 rfl (lv_room (Nat.le_of_ble_eq_true rfl)) dc_Dr_readClause_52 ⟨Nat.le_of_ble_eq_true rfl, Nat.le_of_ble_eq_true rfl⟩) ?_
                    refine kb_if_ne hx hb dc_Dr_readClause_55 rfl (fun hc55 => ?_) (fun hc55 => ?_)
                    · exact absurd hc55 (by decide)
                    · refine lv_iconst (v := nI 0) hx hb dc_Dr_readClause_58 (by decide +kernel) ?_
                      refine kn_top (y := kb_i false) (by decide +kernel) ?_
                      exact kw_zret hx hb hr hlocks hP hD hS dc_Dr_readClause_59 (by rw [← h1, hst, if_pos hno]) (by rw [← h1, hst, if_pos hno])
                  · obtain ⟨hw8, hrm⟩ := rm_step h3 hb16 hfr
                    rw [if_neg (fun q => q.elim (fun q1 => by omega) (fun q1 => q1 hfr))] at hst
                    refine kw_call1 (wr := [dr_c xd xr da, wo_c xw xt (pt_ws t tn (pt_zz t tn q1)) (pt_zz t tn (pt_zz t tn q1)), tx_c xt ta tn, ar_n cI ta 250 t]) (ws' := [dr_c xd xr da, cl_c xr ra rb rd (n + 1), ar_n cI ra 17 (va_up fz1 (n + 1) (fz1 (n + 1) + 1)), ar_n cI rb 17 (va_up fs1 (n + 1) (fs1 (n + 1) ||| 2 ^ b)), ar_i cI rd (17 * 8) (upd fl1 ((n + 1) * 8 + fz1 (n + 1)) (pt_lit b)), wo_c xw xt (pt_ws t tn (pt_zz t tn q1)) (pt_zz t tn (pt_zz t tn q1)), tx_c xt ta tn, ar_n cI ta 250 t]) (va_runV (As := [.int (pt_lit b)]) (rest := []) ⟨hx, hb, hml, hown, hts⟩ (ct_Cl_append l D cI cZ _ xr ra rb rd 17 (n + 1) fz1 fs1 fl1 b (by decide) (by omega) (hb16) (by omega) (h3.2) (hfr) (hw8)) (cwV 1 hts (kx_gV wd_409 wd_410 wd_411 wd_4 wd_412) rfl rfl rfl ⟨rfl, yd_Cl_append⟩ ⟨Nat.le_of_ble_eq_true rfl, Nat.le_of_ble_eq_true rfl⟩) (kp_V (q0 := 1) (ci := 2) hP hD hK hN [1, 2, 3, 4] rfl rfl rfl rfl rfl) rfl rfl hl.1 rfl (lv_room (Nat.le_of_ble_eq_true rfl)) dc_Dr_readClause_52 ⟨Nat.le_of_ble_eq_true rfl, Nat.le_of_ble_eq_true rfl⟩) hP hD hS hA [1, 2, 3, 4] [0, 5, 6, 7] [0, 4, 5, 6, 7, 1, 2, 3] rfl rfl rfl (by decide) rfl rfl (fun H locs hP hD hS => ?_)
                    refine kb_if_ne hx hb dc_Dr_readClause_55 rfl (fun hc55 => ?_) (fun hc55 => ?_)
                    · refine lv_iinc (k := 1) (v := nI (k + 1)) (lv' := [(3, .int (nI (k + 1))), (4, .int (pt_lit b)), (0, .ref xd), (1, .ref xw), (2, .int (nI v))]) hx hb dc_Dr_readClause_60 hl rfl (nI_1 _) (by decide) rfl (fun ls hl => ?_)
                      refine lv_goto hx hb dc_Dr_readClause_63 rfl ?_
                      have hl := lv_sub (l' := [(3, .int (nI (k + 1))), (0, .ref xd), (1, .ref xw), (2, .int (nI v))]) hl [0, 2, 3, 4] rfl
                      exact ih _ _ _ _ _ _ _ _ (by omega) hP hD hS hl (by rw [← h1, hst]) (by omega) (by rw [va_up_self, va_up_self]; exact hrm) (zz_le h4)
                    · exact absurd hc55 (by decide)
              · exact absurd hc32 hx0
    exact lp_14 _ _ _ _ _ _ _ _ _ (Nat.lt_succ_self _) hP hD hS hl (rfl) (by omega) (by rw [va_up_self, va_up_self]; exact ⟨by decide, by decide⟩) (hq)
  · exact absurd hc7 (by decide)

set_option maxHeartbeats 4000000 in
set_option maxRecDepth 100000 in
theorem ct_Dr_readPackedClause (l : Launch) (D : va_G) (cI cZ : ClassId) (sz : Nat) (xd : Nat) (xr : Nat) (da : Nat) (ra : Nat) (rb : Nat) (rd : Nat) (n : Nat) (fz : Nat → Nat) (fs : Nat → Nat) (fl : Nat → Int32) (xt : Nat) (ta : Nat) (tn : Nat) (t : Nat → Nat) (q : Nat) (hn16 : n < 16) (htn0 : tn ≤ 250) (ht : ∀ j, t j < 256) (hq : q ≤ 1000) : Met l yn_Dr_readPackedClause (Cond.code yn_Dr_readPackedClause bc_Dr_readPackedClause 6 (some .int) :: kx_all) ({ frames := 2, cells := 0, slots := 0, locals := 42 } : Room) (kp [.ref xd, .ref xt, .int (nI q)] D cI cZ [dr_c xd xr da, cl_c xr ra rb rd n, ar_n cI ra 17 fz, ar_n cI rb 17 fs, ar_i cI rd (17 * 8) fl, tx_c xt ta tn, ar_n cI ta 250 t] sz) (kw_q (some (.int ((pt_rp t tn (n + 1) 9 q (va_up fz (n + 1) 0) (va_up fs (n + 1) 0) fl).1))) D kc_l [dr_c xd xr da, cl_c xr ra rb rd (n + 1), ar_n cI ra 17 ((pt_rp t tn (n + 1) 9 q (va_up fz (n + 1) 0) (va_up fs (n + 1) 0) fl).2.1), ar_n cI rb 17 ((pt_rp t tn (n + 1) 9 q (va_up fz (n + 1) 0) (va_up fs (n + 1) 0) fl).2.2.1), ar_i cI rd (17 * 8) ((pt_rp t tn (n + 1) 9 q (va_up fz (n + 1) 0) (va_up fs (n + 1) 0) fl).2.2.2), tx_c xt ta tn, ar_n cI ta 250 t] (va_A [dr_c xd xr da, cl_c xr ra rb rd n, ar_n cI ra 17 fz, ar_n cI rb 17 fs, ar_i cI rd (17 * 8) fl, tx_c xt ta tn, ar_n cI ta 250 t] sz)) 0 0 (va_A [dr_c xd xr da, cl_c xr ra rb rd n, ar_n cI ra 17 fz, ar_n cI rb 17 fs, ar_i cI rd (17 * 8) fl, tx_c xt ta tn, ar_n cI ta 250 t] sz) := by
  refine kx_metW (by decide) (Nat.le_of_ble_eq_true rfl) ?_
  intro p e s m below meth c ls A hx hb hr hml hts hown hlocks hin hA hP hK hD hN hl hS
  have hown : s.vm.findClass rn_Dr = some m.cls := hown
  have hl : lv_has ls 6 [(0, .ref xd), (1, .ref xt), (2, .int (nI q))] := hl
  have htn : tn ≤ 250 := htn0
  refine lv_aload_n hx hb dc_Dr_readPackedClause_0 rfl (lv_at hl 0 rfl) ?_
  refine va_get (ci := 3) (v := .ref xr) (C := rn_Dr) (T := fd_Dr) (N := 2) hx hb hts in_Dr hown hK hP 0 rfl rfl 0 (by decide) (hts _ wd_87) (fun _ h9 => h9) rfl dc_Dr_readPackedClause_1 ?_
  refine kw_call1 (wr := [dr_c xd xr da, tx_c xt ta tn, ar_n cI ta 250 t]) (ws' := [dr_c xd xr da, cl_c xr ra rb rd (n + 1), ar_n cI ra 17 (va_up fz (n + 1) 0), ar_n cI rb 17 (va_up fs (n + 1) 0), ar_i cI rd (17 * 8) fl, tx_c xt ta tn, ar_n cI ta 250 t]) (va_runV (As := []) (rest := []) ⟨hx, hb, hml, hown, hts⟩ (ct_Cl_begin l D cI cZ _ xr ra rb rd 17 n fz fs fl (by decide) (by omega)) (cwV 0 hts (kx_gV wd_402 wd_403 wd_404 wd_4 wd_405) rfl rfl rfl ⟨rfl, yd_Cl_begin⟩ ⟨Nat.le_of_ble_eq_true rfl, Nat.le_of_ble_eq_true rfl⟩) (kp_V (q0 := 1) (ci := 2) hP hD hK hN [1, 2, 3, 4] rfl rfl rfl rfl rfl) rfl rfl hl.1 rfl (lv_room (Nat.le_of_ble_eq_true rfl)) dc_Dr_readPackedClause_4 ⟨Nat.le_of_ble_eq_true rfl, Nat.le_of_ble_eq_true rfl⟩) hP hD hS hA [1, 2, 3, 4] [0, 5, 6] [0, 3, 4, 5, 6, 1, 2] rfl rfl rfl (by decide) rfl rfl (fun H locs hP hD hS => ?_)
  refine kb_if_ne hx hb dc_Dr_readPackedClause_7 rfl (fun hc7 => ?_) (fun hc7 => ?_)
  · refine lv_iload_n hx hb dc_Dr_readPackedClause_14 rfl (lv_at hl 2 rfl) ?_
    refine lv_istore_n (lv' := [(3, .int (nI q)), (0, .ref xd), (1, .ref xt), (2, .int (nI q))]) hx hb dc_Dr_readPackedClause_15 rfl hl (by decide) rfl (fun ls hl => ?_)
    have lp_16 : ∀ (K : Nat) (i : Nat) (fz1 : Nat → Nat) (fs1 : Nat → Nat) (fl1 : Nat → Int32) (H : Heap) (locs : List Loc) (ls : Array Slot), q + 9 - i < K → va_P D kc_l [dr_c xd xr da, cl_c xr ra rb rd (n + 1), ar_n cI ra 17 fz1, ar_n cI rb 17 fs1, ar_i cI rd (17 * 8) fl1, tx_c xt ta tn, ar_n cI ta 250 t] H → va_D A [dr_c xd xr da, cl_c xr ra rb rd (n + 1), ar_n cI ra 17 fz1, ar_n cI rb 17 fs1, ar_i cI rd (17 * 8) fl1, tx_c xt ta tn, ar_n cI ta 250 t] → va_S A s.heap H locs → lv_has ls 6 [(3, .int (nI i)), (0, .ref xd), (1, .ref xt), (2, .int (nI q))] → (pt_rp t tn (n + 1) (9 - (i - q)) i fz1 fs1 fl1 = pt_rp t tn (n + 1) 9 q (va_up fz (n + 1) 0) (va_up fs (n + 1) 0) fl) → (q ≤ i ∧ i ≤ q + 9) → (pt_rm (fz1 (n + 1)) (fs1 (n + 1))) → W p l e ({ frames := 2, cells := 0, slots := 0, locals := 42 } : Room) s m ([.ref xd, .ref xt, .int (nI q)] : List Value).toArray below meth c H locs 0 0 (MQ below (kw_q (some (.int ((pt_rp t tn (n + 1) 9 q (va_up fz (n + 1) 0) (va_up fs (n + 1) 0) fl).1))) D kc_l [dr_c xd xr da, cl_c xr ra rb rd (n + 1), ar_n cI ra 17 ((pt_rp t tn (n + 1) 9 q (va_up fz (n + 1) 0) (va_up fs (n + 1) 0) fl).2.1), ar_n cI rb 17 ((pt_rp t tn (n + 1) 9 q (va_up fz (n + 1) 0) (va_up fs (n + 1) 0) fl).2.2.1), ar_i cI rd (17 * 8) ((pt_rp t tn (n + 1) 9 q (va_up fz (n + 1) 0) (va_up fs (n + 1) 0) fl).2.2.2), tx_c xt ta tn, ar_n cI ta 250 t] A) ([.ref xd, .ref xt, .int (nI q)] : List Value).toArray s 0 0 A) (F0 m 16 ls []) := by
      intro K
      induction K with
      | zero =>
        intro i fz1 fs1 fl1 H locs ls hk
        exact absurd hk (Nat.not_lt_zero _)
      | succ K ih =>
        intro i fz1 fs1 fl1 H locs ls hk hP hD hS hl h1 h2 h3
        refine lv_iload_n hx hb dc_Dr_readPackedClause_16 rfl (lv_at hl 0 rfl) ?_
        refine lv_iload_n hx hb dc_Dr_readPackedClause_17 rfl (lv_at hl 3 rfl) ?_
        refine lv_bipush (v := nI 8) hx hb dc_Dr_readPackedClause_18 (by decide +kernel) ?_
        refine kn_iadd hx hb dc_Dr_readPackedClause_20 ?_
        refine kn_icmp_gt hx hb (by omega) (by omega) dc_Dr_readPackedClause_21 rfl (fun hc21 => ?_) (fun hc21 => ?_)
        · refine lv_sipush (v := (-1000)) hx hb dc_Dr_readPackedClause_81 (by decide +kernel) ?_
          exact kw_iret hx hb hr hlocks hP hD hS dc_Dr_readPackedClause_84 (by rw [← h1, show 9 - (i - q) = 0 by omega, pt_rp]) (by rw [← h1, show 9 - (i - q) = 0 by omega, pt_rp])
        · have hst : pt_rp t tn (n + 1) (9 - (i - q)) i fz1 fs1 fl1 = (if tn ≤ i then (-1000, fz1, fs1, fl1) else if t i = 0 then (nI (i + 1), fz1, fs1, fl1) else match pt_lob (t i) with | none => (-1000, fz1, fs1, fl1) | some b => if ¬ fs1 (n + 1) &&& (2 ^ (b % 8) ||| 2 ^ (b % 8 + 8)) = 0 then (-1000, fz1, fs1, fl1) else pt_rp t tn (n + 1) (9 - (i + 1 - q)) (i + 1) (va_up fz1 (n + 1) (fz1 (n + 1) + 1)) (va_up fs1 (n + 1) (fs1 (n + 1) ||| 2 ^ b)) (upd fl1 ((n + 1) * 8 + fz1 (n + 1)) (pt_lit b))) := by
            rw [show 9 - (i - q) = (9 - (i + 1 - q)) + 1 by omega, pt_rp]
          by_cases hti : tn ≤ i
          · rw [if_pos hti] at hst
            refine lv_aload_n hx hb dc_Dr_readPackedClause_24 rfl (lv_at hl 2 rfl) ?_
            refine lv_iload_n hx hb dc_Dr_readPackedClause_25 rfl (lv_at hl 0 rfl) ?_
            refine kr_call1 (va_runV (As := [.int (nI i)]) (rest := []) ⟨hx, hb, hml, hown, hts⟩ (ct_Tx_at l D cI cZ _ xt ta 250 tn t (nI i) (by decide) (htn)) (cwV 1 hts (kx_gV wd_532 wd_293 wd_294 wd_2 wd_295) rfl rfl rfl ⟨rfl, yd_Tx_at⟩ ⟨Nat.le_of_ble_eq_true rfl, Nat.le_of_ble_eq_true rfl⟩) (kp_V (q0 := 5) (ci := 0) hP hD hK hN [5, 6] rfl rfl rfl rfl rfl) rfl rfl hl.1 rfl (lv_room (Nat.le_of_ble_eq_true rfl)) dc_Dr_readPackedClause_26 ⟨Nat.le_of_ble_eq_true rfl, Nat.le_of_ble_eq_true rfl⟩) ?_
            refine kn_top (y := (-1000)) (pt_at_out hti (by omega)) ?_
            refine lv_istore (lv' := [(4, .int ((-1000))), (3, .int (nI i)), (0, .ref xd), (1, .ref xt), (2, .int (nI q))]) hx hb dc_Dr_readPackedClause_29 hl (by decide) rfl (fun ls hl => ?_)
            refine lv_iload hx hb dc_Dr_readPackedClause_31 (lv_at hl 0 rfl) ?_
            refine lv_if_ne hx hb dc_Dr_readPackedClause_33 rfl (fun hc33 => ?_) (fun hc33 => ?_)
            · refine lv_iload hx hb dc_Dr_readPackedClause_40 (lv_at hl 0 rfl) ?_
              refine lv_iconst (v := nI 1) hx hb dc_Dr_readPackedClause_42 (by decide +kernel) ?_
              refine lv_ishr hx hb dc_Dr_readPackedClause_43 ?_
              refine lv_istore (lv' := [(5, .int (((-1000)) >>> ((nI 1) &&& 31))), (4, .int ((-1000))), (3, .int (nI i)), (0, .ref xd), (1, .ref xt), (2, .int (nI q))]) hx hb dc_Dr_readPackedClause_44 hl (by decide) rfl (fun ls hl => ?_)
              refine lv_aload_n hx hb dc_Dr_readPackedClause_46 rfl (lv_at hl 3 rfl) ?_
              refine va_get (ci := 3) (v := .ref xr) (C := rn_Dr) (T := fd_Dr) (N := 2) hx hb hts in_Dr hown hK hP 0 rfl rfl 0 (by decide) (hts _ wd_87) (fun _ h9 => h9) rfl dc_Dr_readPackedClause_47 ?_
              refine lv_iload hx hb dc_Dr_readPackedClause_50 (lv_at hl 1 rfl) ?_
              refine lv_iconst (v := nI 1) hx hb dc_Dr_readPackedClause_52 (by decide +kernel) ?_
              refine lv_iand hx hb dc_Dr_readPackedClause_53 ?_
              refine lv_if_ne hx hb dc_Dr_readPackedClause_54 rfl (fun hc54 => ?_) (fun hc54 => ?_)
              · exact absurd (show (-1000 : Int32) &&& nI 1 = 0 by decide +kernel) hc54
              · refine lv_iload hx hb dc_Dr_readPackedClause_57 (lv_at hl 0 rfl) ?_
                refine lv_goto hx hb dc_Dr_readPackedClause_59 rfl ?_
                refine kr_call1 (va_runV (As := [.int (((-1000)) >>> ((nI 1) &&& 31))]) (rest := []) ⟨hx, hb, hml, hown, hts⟩ (ct_Cl_append_no l D cI cZ _ xr ra rb rd (n + 1) (((-1000)) >>> ((nI 1) &&& 31)) (by omega) (by omega) (no_500)) (cwV 1 hts (kx_gV wd_409 wd_410 wd_411 wd_4 wd_412) rfl rfl rfl ⟨rfl, yd_Cl_append⟩ ⟨Nat.le_of_ble_eq_true rfl, Nat.le_of_ble_eq_true rfl⟩) (kp_V (q0 := 1) (ci := 2) hP hD hK hN [1] rfl rfl rfl rfl rfl) rfl rfl hl.1 rfl (lv_room (Nat.le_of_ble_eq_true rfl)) dc_Dr_readPackedClause_65 ⟨Nat.le_of_ble_eq_true rfl, Nat.le_of_ble_eq_true rfl⟩) ?_
                refine kb_if_ne hx hb dc_Dr_readPackedClause_68 rfl (fun hc68 => ?_) (fun hc68 => ?_)
                · exact absurd hc68 (by decide)
                · refine lv_sipush (v := (-1000)) hx hb dc_Dr_readPackedClause_71 (by decide +kernel) ?_
                  exact kw_iret hx hb hr hlocks hP hD hS dc_Dr_readPackedClause_74 (by rw [← h1, hst]) (by rw [← h1, hst])
            · exact absurd hc33 (by decide +kernel)
          · rw [if_neg hti] at hst
            have h256 := ht i
            refine lv_aload_n hx hb dc_Dr_readPackedClause_24 rfl (lv_at hl 2 rfl) ?_
            refine lv_iload_n hx hb dc_Dr_readPackedClause_25 rfl (lv_at hl 0 rfl) ?_
            refine kr_call1 (va_runV (As := [.int (nI i)]) (rest := []) ⟨hx, hb, hml, hown, hts⟩ (ct_Tx_atn l D cI cZ _ xt ta 250 tn t i (by decide) (htn) (by omega)) (cwV 1 hts (kx_gV wd_532 wd_293 wd_294 wd_2 wd_295) rfl rfl rfl ⟨rfl, yd_Tx_at⟩ ⟨Nat.le_of_ble_eq_true rfl, Nat.le_of_ble_eq_true rfl⟩) (kp_V (q0 := 5) (ci := 0) hP hD hK hN [5, 6] rfl rfl rfl rfl rfl) rfl rfl hl.1 rfl (lv_room (Nat.le_of_ble_eq_true rfl)) dc_Dr_readPackedClause_26 ⟨Nat.le_of_ble_eq_true rfl, Nat.le_of_ble_eq_true rfl⟩) ?_
            refine lv_istore (lv' := [(4, .int (nI (t i))), (3, .int (nI i)), (0, .ref xd), (1, .ref xt), (2, .int (nI q))]) hx hb dc_Dr_readPackedClause_29 hl (by decide) rfl (fun ls hl => ?_)
            refine lv_iload hx hb dc_Dr_readPackedClause_31 (lv_at hl 0 rfl) ?_
            refine kn_if_ne hx hb (by omega) dc_Dr_readPackedClause_33 rfl (fun hc33 => ?_) (fun hc33 => ?_)
            · rw [if_neg hc33] at hst
              refine lv_iload hx hb dc_Dr_readPackedClause_40 (lv_at hl 0 rfl) ?_
              refine lv_iconst (v := nI 1) hx hb dc_Dr_readPackedClause_42 (by decide +kernel) ?_
              refine lv_ishr hx hb dc_Dr_readPackedClause_43 ?_
              refine kn_top (y := nI (t i / 2)) (pk_shrN (k := 1) (by omega) _ (by decide +kernel)) ?_
              refine lv_istore (lv' := [(5, .int (nI (t i / 2))), (4, .int (nI (t i))), (3, .int (nI i)), (0, .ref xd), (1, .ref xt), (2, .int (nI q))]) hx hb dc_Dr_readPackedClause_44 hl (by decide) rfl (fun ls hl => ?_)
              refine lv_aload_n hx hb dc_Dr_readPackedClause_46 rfl (lv_at hl 3 rfl) ?_
              refine va_get (ci := 3) (v := .ref xr) (C := rn_Dr) (T := fd_Dr) (N := 2) hx hb hts in_Dr hown hK hP 0 rfl rfl 0 (by decide) (hts _ wd_87) (fun _ h9 => h9) rfl dc_Dr_readPackedClause_47 ?_
              refine lv_iload hx hb dc_Dr_readPackedClause_50 (lv_at hl 1 rfl) ?_
              refine lv_iconst (v := nI 1) hx hb dc_Dr_readPackedClause_52 (by decide +kernel) ?_
              refine kn_iand hx hb dc_Dr_readPackedClause_53 ?_
              refine kn_top (y := nI (t i % 2)) (congrArg nI (Nat.and_two_pow_sub_one_eq_mod (t i) 1)) ?_
              refine kn_if_ne hx hb (by omega) dc_Dr_readPackedClause_54 rfl (fun hc54 => ?_) (fun hc54 => ?_)
              · refine lv_iload hx hb dc_Dr_readPackedClause_62 (lv_at hl 0 rfl) ?_
                refine lv_ineg hx hb dc_Dr_readPackedClause_64 ?_
                rcases hlo : pt_lob (t i) with _ | b
                · rw [hlo] at hst
                  refine kr_call1 (va_runV (As := [.int (-(nI (t i / 2)))]) (rest := []) ⟨hx, hb, hml, hown, hts⟩ (ct_Cl_append_no l D cI cZ _ xr ra rb rd (n + 1) (-(nI (t i / 2))) (by omega) (by omega) (by have h9 := lob_none (t i) h256 hlo; rw [if_neg hc54] at h9; exact h9)) (cwV 1 hts (kx_gV wd_409 wd_410 wd_411 wd_4 wd_412) rfl rfl rfl ⟨rfl, yd_Cl_append⟩ ⟨Nat.le_of_ble_eq_true rfl, Nat.le_of_ble_eq_true rfl⟩) (kp_V (q0 := 1) (ci := 2) hP hD hK hN [1] rfl rfl rfl rfl rfl) rfl rfl hl.1 rfl (lv_room (Nat.le_of_ble_eq_true rfl)) dc_Dr_readPackedClause_65 ⟨Nat.le_of_ble_eq_true rfl, Nat.le_of_ble_eq_true rfl⟩) ?_
                  refine kb_if_ne hx hb dc_Dr_readPackedClause_68 rfl (fun hc68 => ?_) (fun hc68 => ?_)
                  · exact absurd hc68 (by decide)
                  · refine lv_sipush (v := (-1000)) hx hb dc_Dr_readPackedClause_71 (by decide +kernel) ?_
                    exact kw_iret hx hb hr hlocks hP hD hS dc_Dr_readPackedClause_74 (by rw [← h1, hst]) (by rw [← h1, hst])
                · obtain ⟨hb16, hbe⟩ := lob_some (t i) h256 b hlo
                  rw [if_neg hc54] at hbe
                  rw [hlo] at hst
                  dsimp only at hst
                  refine kn_top (y := pt_lit b) hbe ?_
                  by_cases hfr : ¬ fs1 (n + 1) &&& (2 ^ (b % 8) ||| 2 ^ (b % 8 + 8)) = 0
                  · rw [if_pos hfr] at hst
                    refine kr_call1 (va_runV (As := [.int (pt_lit b)]) (rest := []) ⟨hx, hb, hml, hown, hts⟩ (ct_Cl_append_dup l D cI cZ _ xr ra rb rd 17 (n + 1) fz1 fs1 fl1 b (by decide) (by omega) (hb16) (by omega) (h3.2) (hfr)) (cwV 1 hts (kx_gV wd_409 wd_410 wd_411 wd_4 wd_412) rfl rfl rfl ⟨rfl, yd_Cl_append⟩ ⟨Nat.le_of_ble_eq_true rfl, Nat.le_of_ble_eq_true rfl⟩) (kp_V (q0 := 1) (ci := 2) hP hD hK hN [1, 2, 3, 4] rfl rfl rfl rfl rfl) rfl rfl hl.1 rfl (lv_room (Nat.le_of_ble_eq_true rfl)) dc_Dr_readPackedClause_65 ⟨Nat.le_of_ble_eq_true rfl, Nat.le_of_ble_eq_true rfl⟩) ?_
                    refine kb_if_ne hx hb dc_Dr_readPackedClause_68 rfl (fun hc68 => ?_) (fun hc68 => ?_)
                    · exact absurd hc68 (by decide)
                    · refine lv_sipush (v := (-1000)) hx hb dc_Dr_readPackedClause_71 (by decide +kernel) ?_
                      exact kw_iret hx hb hr hlocks hP hD hS dc_Dr_readPackedClause_74 (by rw [← h1, hst]) (by rw [← h1, hst])
                  · have hfr := Classical.not_not.mp hfr
                    obtain ⟨hw8, hrm⟩ := rm_step h3 hb16 hfr
                    rw [if_neg (fun q9 => q9 hfr)] at hst
                    refine kw_call1 (wr := [dr_c xd xr da, tx_c xt ta tn, ar_n cI ta 250 t]) (ws' := [dr_c xd xr da, cl_c xr ra rb rd (n + 1), ar_n cI ra 17 (va_up fz1 (n + 1) (fz1 (n + 1) + 1)), ar_n cI rb 17 (va_up fs1 (n + 1) (fs1 (n + 1) ||| 2 ^ b)), ar_i cI rd (17 * 8) (upd fl1 ((n + 1) * 8 + fz1 (n + 1)) (pt_lit b)), tx_c xt ta tn, ar_n cI ta 250 t]) (va_runV (As := [.int (pt_lit b)]) (rest := []) ⟨hx, hb, hml, hown, hts⟩ (ct_Cl_append l D cI cZ _ xr ra rb rd 17 (n + 1) fz1 fs1 fl1 b (by decide) (by omega) (hb16) (by omega) (h3.2) (hfr) (hw8)) (cwV 1 hts (kx_gV wd_409 wd_410 wd_411 wd_4 wd_412) rfl rfl rfl ⟨rfl, yd_Cl_append⟩ ⟨Nat.le_of_ble_eq_true rfl, Nat.le_of_ble_eq_true rfl⟩) (kp_V (q0 := 1) (ci := 2) hP hD hK hN [1, 2, 3, 4] rfl rfl rfl rfl rfl) rfl rfl hl.1 rfl (lv_room (Nat.le_of_ble_eq_true rfl)) dc_Dr_readPackedClause_65 ⟨Nat.le_of_ble_eq_true rfl, Nat.le_of_ble_eq_true rfl⟩) hP hD hS hA [1, 2, 3, 4] [0, 5, 6] [0, 3, 4, 5, 6, 1, 2] rfl rfl rfl (by decide) rfl rfl (fun H locs hP hD hS => ?_)
                    refine kb_if_ne hx hb dc_Dr_readPackedClause_68 rfl (fun hc68 => ?_) (fun hc68 => ?_)
                    · refine lv_iinc (k := 2) (v := nI (i + 1)) (lv' := [(3, .int (nI (i + 1))), (5, .int (nI (t i / 2))), (4, .int (nI (t i))), (0, .ref xd), (1, .ref xt), (2, .int (nI q))]) hx hb dc_Dr_readPackedClause_75 hl rfl (nI_1 _) (by decide) rfl (fun ls hl => ?_)
                      refine lv_goto hx hb dc_Dr_readPackedClause_78 rfl ?_
                      have hl := lv_sub (l' := [(3, .int (nI (i + 1))), (0, .ref xd), (1, .ref xt), (2, .int (nI q))]) hl [0, 3, 4, 5] rfl
                      exact ih _ _ _ _ _ _ _ (by omega) hP hD hS hl (by rw [← h1, hst]) (⟨by omega, by omega⟩) (by rw [va_up_self, va_up_self]; exact hrm)
                    · exact absurd hc68 (by decide)
              · refine lv_iload hx hb dc_Dr_readPackedClause_57 (lv_at hl 0 rfl) ?_
                refine lv_goto hx hb dc_Dr_readPackedClause_59 rfl ?_
                rcases hlo : pt_lob (t i) with _ | b
                · rw [hlo] at hst
                  refine kr_call1 (va_runV (As := [.int (nI (t i / 2))]) (rest := []) ⟨hx, hb, hml, hown, hts⟩ (ct_Cl_append_no l D cI cZ _ xr ra rb rd (n + 1) (nI (t i / 2)) (by omega) (by omega) (by have h9 := lob_none (t i) h256 hlo; rw [if_pos hc54] at h9; exact h9)) (cwV 1 hts (kx_gV wd_409 wd_410 wd_411 wd_4 wd_412) rfl rfl rfl ⟨rfl, yd_Cl_append⟩ ⟨Nat.le_of_ble_eq_true rfl, Nat.le_of_ble_eq_true rfl⟩) (kp_V (q0 := 1) (ci := 2) hP hD hK hN [1] rfl rfl rfl rfl rfl) rfl rfl hl.1 rfl (lv_room (Nat.le_of_ble_eq_true rfl)) dc_Dr_readPackedClause_65 ⟨Nat.le_of_ble_eq_true rfl, Nat.le_of_ble_eq_true rfl⟩) ?_
                  refine kb_if_ne hx hb dc_Dr_readPackedClause_68 rfl (fun hc68 => ?_) (fun hc68 => ?_)
                  · exact absurd hc68 (by decide)
                  · refine lv_sipush (v := (-1000)) hx hb dc_Dr_readPackedClause_71 (by decide +kernel) ?_
                    exact kw_iret hx hb hr hlocks hP hD hS dc_Dr_readPackedClause_74 (by rw [← h1, hst]) (by rw [← h1, hst])
                · obtain ⟨hb16, hbe⟩ := lob_some (t i) h256 b hlo
                  rw [if_pos hc54] at hbe
                  rw [hlo] at hst
                  dsimp only at hst
                  refine kn_top (y := pt_lit b) hbe ?_
                  by_cases hfr : ¬ fs1 (n + 1) &&& (2 ^ (b % 8) ||| 2 ^ (b % 8 + 8)) = 0
                  · rw [if_pos hfr] at hst
                    refine kr_call1 (va_runV (As := [.int (pt_lit b)]) (rest := []) ⟨hx, hb, hml, hown, hts⟩ (ct_Cl_append_dup l D cI cZ _ xr ra rb rd 17 (n + 1) fz1 fs1 fl1 b (by decide) (by omega) (hb16) (by omega) (h3.2) (hfr)) (cwV 1 hts (kx_gV wd_409 wd_410 wd_411 wd_4 wd_412) rfl rfl rfl ⟨rfl, yd_Cl_append⟩ ⟨Nat.le_of_ble_eq_true rfl, Nat.le_of_ble_eq_true rfl⟩) (kp_V (q0 := 1) (ci := 2) hP hD hK hN [1, 2, 3, 4] rfl rfl rfl rfl rfl) rfl rfl hl.1 rfl (lv_room (Nat.le_of_ble_eq_true rfl)) dc_Dr_readPackedClause_65 ⟨Nat.le_of_ble_eq_true rfl, Nat.le_of_ble_eq_true rfl⟩) ?_
                    refine kb_if_ne hx hb dc_Dr_readPackedClause_68 rfl (fun hc68 => ?_) (fun hc68 => ?_)
                    · exact absurd hc68 (by decide)
                    · refine lv_sipush (v := (-1000)) hx hb dc_Dr_readPackedClause_71 (by decide +kernel) ?_
                      exact kw_iret hx hb hr hlocks hP hD hS dc_Dr_readPackedClause_74 (by rw [← h1, hst]) (by rw [← h1, hst])
                  · have hfr := Classical.not_not.mp hfr
                    obtain ⟨hw8, hrm⟩ := rm_step h3 hb16 hfr
                    rw [if_neg (fun q9 => q9 hfr)] at hst
                    refine kw_call1 (wr := [dr_c xd xr da, tx_c xt ta tn, ar_n cI ta 250 t]) (ws' := [dr_c xd xr da, cl_c xr ra rb rd (n + 1), ar_n cI ra 17 (va_up fz1 (n + 1) (fz1 (n + 1) + 1)), ar_n cI rb 17 (va_up fs1 (n + 1) (fs1 (n + 1) ||| 2 ^ b)), ar_i cI rd (17 * 8) (upd fl1 ((n + 1) * 8 + fz1 (n + 1)) (pt_lit b)), tx_c xt ta tn, ar_n cI ta 250 t]) (va_runV (As := [.int (pt_lit b)]) (rest := []) ⟨hx, hb, hml, hown, hts⟩ (ct_Cl_append l D cI cZ _ xr ra rb rd 17 (n + 1) fz1 fs1 fl1 b (by decide) (by omega) (hb16) (by omega) (h3.2) (hfr) (hw8)) (cwV 1 hts (kx_gV wd_409 wd_410 wd_411 wd_4 wd_412) rfl rfl rfl ⟨rfl, yd_Cl_append⟩ ⟨Nat.le_of_ble_eq_true rfl, Nat.le_of_ble_eq_true rfl⟩) (kp_V (q0 := 1) (ci := 2) hP hD hK hN [1, 2, 3, 4] rfl rfl rfl rfl rfl) rfl rfl hl.1 rfl (lv_room (Nat.le_of_ble_eq_true rfl)) dc_Dr_readPackedClause_65 ⟨Nat.le_of_ble_eq_true rfl, Nat.le_of_ble_eq_true rfl⟩) hP hD hS hA [1, 2, 3, 4] [0, 5, 6] [0, 3, 4, 5, 6, 1, 2] rfl rfl rfl (by decide) rfl rfl (fun H locs hP hD hS => ?_)
                    refine kb_if_ne hx hb dc_Dr_readPackedClause_68 rfl (fun hc68 => ?_) (fun hc68 => ?_)
                    · refine lv_iinc (k := 2) (v := nI (i + 1)) (lv' := [(3, .int (nI (i + 1))), (5, .int (nI (t i / 2))), (4, .int (nI (t i))), (0, .ref xd), (1, .ref xt), (2, .int (nI q))]) hx hb dc_Dr_readPackedClause_75 hl rfl (nI_1 _) (by decide) rfl (fun ls hl => ?_)
                      refine lv_goto hx hb dc_Dr_readPackedClause_78 rfl ?_
                      have hl := lv_sub (l' := [(3, .int (nI (i + 1))), (0, .ref xd), (1, .ref xt), (2, .int (nI q))]) hl [0, 3, 4, 5] rfl
                      exact ih _ _ _ _ _ _ _ (by omega) hP hD hS hl (by rw [← h1, hst]) (⟨by omega, by omega⟩) (by rw [va_up_self, va_up_self]; exact hrm)
                    · exact absurd hc68 (by decide)
            · rw [if_pos hc33] at hst
              refine lv_iload_n hx hb dc_Dr_readPackedClause_36 rfl (lv_at hl 1 rfl) ?_
              refine lv_iconst (v := nI 1) hx hb dc_Dr_readPackedClause_37 (by decide +kernel) ?_
              refine kn_iadd hx hb dc_Dr_readPackedClause_38 ?_
              exact kw_iret hx hb hr hlocks hP hD hS dc_Dr_readPackedClause_39 (by rw [← h1, hst]) (by rw [← h1, hst])
    exact lp_16 _ _ _ _ _ _ _ _ (Nat.lt_succ_self _) hP hD hS hl (by rw [Nat.sub_self]) (⟨by omega, by omega⟩) (by rw [va_up_self, va_up_self]; exact ⟨by decide, by decide⟩)
  · exact absurd hc7 (by decide)
end
section
/-! the reference: small methods -/
theorem gap_v (x : Nat) : pt_gap x = (decide (x = 32) || decide (x = 10)) := by
  unfold pt_gap
  rfl
/-- how many of the first k bits -/
def pt_bits (x : Nat) : Nat → Nat
  | 0 => 0
  | k + 1 => pt_bits x k + x / 2 ^ k % 2

theorem dc_Mo_thrown_0 : decode bc_Mo_thrown 0 = .ok (.aload_n 0, 1) := by decide +kernel
theorem dc_Mo_thrown_1 : decode bc_Mo_thrown 1 = .ok (.getfield 65, 3) := by decide +kernel
theorem dc_Mo_thrown_4 : decode bc_Mo_thrown 4 = .ok (.ireturn, 1) := by decide +kernel
theorem dc_Mo_refuse_0 : decode bc_Mo_refuse 0 = .ok (.aload_n 0, 1) := by decide +kernel
theorem dc_Mo_refuse_1 : decode bc_Mo_refuse 1 = .ok (.iload_n 1, 1) := by decide +kernel
theorem dc_Mo_refuse_2 : decode bc_Mo_refuse 2 = .ok (.putfield 65, 3) := by decide +kernel
theorem dc_Mo_refuse_5 : decode bc_Mo_refuse 5 = .ok (.iconst 0, 1) := by decide +kernel
theorem dc_Mo_refuse_6 : decode bc_Mo_refuse 6 = .ok (.ireturn, 1) := by decide +kernel
theorem dc_Mo_wipe_0 : decode bc_Mo_wipe 0 = .ok (.aload_n 0, 1) := by decide +kernel
theorem dc_Mo_wipe_1 : decode bc_Mo_wipe 1 = .ok (.iconst 0, 1) := by decide +kernel
theorem dc_Mo_wipe_2 : decode bc_Mo_wipe 2 = .ok (.putfield 65, 3) := by decide +kernel
theorem dc_Mo_wipe_5 : decode bc_Mo_wipe 5 = .ok (.aload_n 0, 1) := by decide +kernel
theorem dc_Mo_wipe_6 : decode bc_Mo_wipe 6 = .ok (.getfield 69, 3) := by decide +kernel
theorem dc_Mo_wipe_9 : decode bc_Mo_wipe 9 = .ok (.istore_n 1, 1) := by decide +kernel
theorem dc_Mo_wipe_10 : decode bc_Mo_wipe 10 = .ok (.aload_n 0, 1) := by decide +kernel
theorem dc_Mo_wipe_11 : decode bc_Mo_wipe 11 = .ok (.iconst 0, 1) := by decide +kernel
theorem dc_Mo_wipe_12 : decode bc_Mo_wipe 12 = .ok (.putfield 69, 3) := by decide +kernel
theorem dc_Mo_wipe_15 : decode bc_Mo_wipe 15 = .ok (.iload_n 1, 1) := by decide +kernel
theorem dc_Mo_wipe_16 : decode bc_Mo_wipe 16 = .ok (.ireturn, 1) := by decide +kernel
theorem dc_Mo_isGap_0 : decode bc_Mo_isGap 0 = .ok (.iload_n 0, 1) := by decide +kernel
theorem dc_Mo_isGap_1 : decode bc_Mo_isGap 1 = .ok (.bipush (32), 2) := by decide +kernel
theorem dc_Mo_isGap_3 : decode bc_Mo_isGap 3 = .ok (.if_icmp .eq (9), 3) := by decide +kernel
theorem dc_Mo_isGap_6 : decode bc_Mo_isGap 6 = .ok (.iload_n 0, 1) := by decide +kernel
theorem dc_Mo_isGap_7 : decode bc_Mo_isGap 7 = .ok (.bipush (10), 2) := by decide +kernel
theorem dc_Mo_isGap_9 : decode bc_Mo_isGap 9 = .ok (.if_icmp .ne (7), 3) := by decide +kernel
theorem dc_Mo_isGap_12 : decode bc_Mo_isGap 12 = .ok (.iconst 1, 1) := by decide +kernel
theorem dc_Mo_isGap_13 : decode bc_Mo_isGap 13 = .ok (.goto (4), 3) := by decide +kernel
theorem dc_Mo_isGap_16 : decode bc_Mo_isGap 16 = .ok (.iconst 0, 1) := by decide +kernel
theorem dc_Mo_isGap_17 : decode bc_Mo_isGap 17 = .ok (.ireturn, 1) := by decide +kernel
theorem dc_Mo_word_0 : decode bc_Mo_word 0 = .ok (.aload_n 0, 1) := by decide +kernel
theorem dc_Mo_word_1 : decode bc_Mo_word 1 = .ok (.getfield 74, 3) := by decide +kernel
theorem dc_Mo_word_4 : decode bc_Mo_word 4 = .ok (.aload_n 0, 1) := by decide +kernel
theorem dc_Mo_word_5 : decode bc_Mo_word 5 = .ok (.getfield 69, 3) := by decide +kernel
theorem dc_Mo_word_8 : decode bc_Mo_word 8 = .ok (.if_icmp .ge (31), 3) := by decide +kernel
theorem dc_Mo_word_11 : decode bc_Mo_word 11 = .ok (.aload_n 0, 1) := by decide +kernel
theorem dc_Mo_word_12 : decode bc_Mo_word 12 = .ok (.getfield 7, 3) := by decide +kernel
theorem dc_Mo_word_15 : decode bc_Mo_word 15 = .ok (.aload_n 0, 1) := by decide +kernel
theorem dc_Mo_word_16 : decode bc_Mo_word 16 = .ok (.getfield 74, 3) := by decide +kernel
theorem dc_Mo_word_19 : decode bc_Mo_word 19 = .ok (.iaload, 1) := by decide +kernel
theorem dc_Mo_word_20 : decode bc_Mo_word 20 = .ok (.invokestatic 77, 3) := by decide +kernel
theorem dc_Mo_word_23 : decode bc_Mo_word 23 = .ok (.ifCond .eq (16), 3) := by decide +kernel
theorem dc_Mo_word_26 : decode bc_Mo_word 26 = .ok (.aload_n 0, 1) := by decide +kernel
theorem dc_Mo_word_27 : decode bc_Mo_word 27 = .ok (.dup, 1) := by decide +kernel
theorem dc_Mo_word_28 : decode bc_Mo_word 28 = .ok (.getfield 74, 3) := by decide +kernel
theorem dc_Mo_word_31 : decode bc_Mo_word 31 = .ok (.iconst 1, 1) := by decide +kernel
theorem dc_Mo_word_32 : decode bc_Mo_word 32 = .ok (.iadd, 1) := by decide +kernel
theorem dc_Mo_word_33 : decode bc_Mo_word 33 = .ok (.putfield 74, 3) := by decide +kernel
theorem dc_Mo_word_36 : decode bc_Mo_word 36 = .ok (.goto (-36), 3) := by decide +kernel
theorem dc_Mo_word_39 : decode bc_Mo_word 39 = .ok (.aload_n 0, 1) := by decide +kernel
theorem dc_Mo_word_40 : decode bc_Mo_word 40 = .ok (.aload_n 0, 1) := by decide +kernel
theorem dc_Mo_word_41 : decode bc_Mo_word 41 = .ok (.getfield 74, 3) := by decide +kernel
theorem dc_Mo_word_44 : decode bc_Mo_word 44 = .ok (.putfield 81, 3) := by decide +kernel
theorem dc_Mo_word_47 : decode bc_Mo_word 47 = .ok (.aload_n 0, 1) := by decide +kernel
theorem dc_Mo_word_48 : decode bc_Mo_word 48 = .ok (.getfield 74, 3) := by decide +kernel
theorem dc_Mo_word_51 : decode bc_Mo_word 51 = .ok (.aload_n 0, 1) := by decide +kernel
theorem dc_Mo_word_52 : decode bc_Mo_word 52 = .ok (.getfield 69, 3) := by decide +kernel
theorem dc_Mo_word_55 : decode bc_Mo_word 55 = .ok (.if_icmp .ge (31), 3) := by decide +kernel
theorem dc_Mo_word_58 : decode bc_Mo_word 58 = .ok (.aload_n 0, 1) := by decide +kernel
theorem dc_Mo_word_59 : decode bc_Mo_word 59 = .ok (.getfield 7, 3) := by decide +kernel
theorem dc_Mo_word_62 : decode bc_Mo_word 62 = .ok (.aload_n 0, 1) := by decide +kernel
theorem dc_Mo_word_63 : decode bc_Mo_word 63 = .ok (.getfield 74, 3) := by decide +kernel
theorem dc_Mo_word_66 : decode bc_Mo_word 66 = .ok (.iaload, 1) := by decide +kernel
theorem dc_Mo_word_67 : decode bc_Mo_word 67 = .ok (.invokestatic 77, 3) := by decide +kernel
theorem dc_Mo_word_70 : decode bc_Mo_word 70 = .ok (.ifCond .ne (16), 3) := by decide +kernel
theorem dc_Mo_word_73 : decode bc_Mo_word 73 = .ok (.aload_n 0, 1) := by decide +kernel
theorem dc_Mo_word_74 : decode bc_Mo_word 74 = .ok (.dup, 1) := by decide +kernel
theorem dc_Mo_word_75 : decode bc_Mo_word 75 = .ok (.getfield 74, 3) := by decide +kernel
theorem dc_Mo_word_78 : decode bc_Mo_word 78 = .ok (.iconst 1, 1) := by decide +kernel
theorem dc_Mo_word_79 : decode bc_Mo_word 79 = .ok (.iadd, 1) := by decide +kernel
theorem dc_Mo_word_80 : decode bc_Mo_word 80 = .ok (.putfield 74, 3) := by decide +kernel
theorem dc_Mo_word_83 : decode bc_Mo_word 83 = .ok (.goto (-36), 3) := by decide +kernel
theorem dc_Mo_word_86 : decode bc_Mo_word 86 = .ok (.aload_n 0, 1) := by decide +kernel
theorem dc_Mo_word_87 : decode bc_Mo_word 87 = .ok (.aload_n 0, 1) := by decide +kernel
theorem dc_Mo_word_88 : decode bc_Mo_word 88 = .ok (.getfield 74, 3) := by decide +kernel
theorem dc_Mo_word_91 : decode bc_Mo_word 91 = .ok (.putfield 84, 3) := by decide +kernel
theorem dc_Mo_word_94 : decode bc_Mo_word 94 = .ok (.aload_n 0, 1) := by decide +kernel
theorem dc_Mo_word_95 : decode bc_Mo_word 95 = .ok (.getfield 84, 3) := by decide +kernel
theorem dc_Mo_word_98 : decode bc_Mo_word 98 = .ok (.aload_n 0, 1) := by decide +kernel
theorem dc_Mo_word_99 : decode bc_Mo_word 99 = .ok (.getfield 81, 3) := by decide +kernel
theorem dc_Mo_word_102 : decode bc_Mo_word 102 = .ok (.if_icmp .le (7), 3) := by decide +kernel
theorem dc_Mo_word_105 : decode bc_Mo_word 105 = .ok (.iconst 1, 1) := by decide +kernel
theorem dc_Mo_word_106 : decode bc_Mo_word 106 = .ok (.goto (4), 3) := by decide +kernel
theorem dc_Mo_word_109 : decode bc_Mo_word 109 = .ok (.iconst 0, 1) := by decide +kernel
theorem dc_Mo_word_110 : decode bc_Mo_word 110 = .ok (.ireturn, 1) := by decide +kernel
theorem dc_Mo_isWord_0 : decode bc_Mo_isWord 0 = .ok (.iload_n 3, 1) := by decide +kernel
theorem dc_Mo_isWord_1 : decode bc_Mo_isWord 1 = .ok (.ifCond .le (7), 3) := by decide +kernel
theorem dc_Mo_isWord_4 : decode bc_Mo_isWord 4 = .ok (.iconst 3, 1) := by decide +kernel
theorem dc_Mo_isWord_5 : decode bc_Mo_isWord 5 = .ok (.goto (4), 3) := by decide +kernel
theorem dc_Mo_isWord_8 : decode bc_Mo_isWord 8 = .ok (.iconst 1, 1) := by decide +kernel
theorem dc_Mo_isWord_9 : decode bc_Mo_isWord 9 = .ok (.istore 4, 2) := by decide +kernel
theorem dc_Mo_isWord_11 : decode bc_Mo_isWord 11 = .ok (.aload_n 0, 1) := by decide +kernel
theorem dc_Mo_isWord_12 : decode bc_Mo_isWord 12 = .ok (.getfield 84, 3) := by decide +kernel
theorem dc_Mo_isWord_15 : decode bc_Mo_isWord 15 = .ok (.aload_n 0, 1) := by decide +kernel
theorem dc_Mo_isWord_16 : decode bc_Mo_isWord 16 = .ok (.getfield 81, 3) := by decide +kernel
theorem dc_Mo_isWord_19 : decode bc_Mo_isWord 19 = .ok (.isub, 1) := by decide +kernel
theorem dc_Mo_isWord_20 : decode bc_Mo_isWord 20 = .ok (.iload 4, 2) := by decide +kernel
theorem dc_Mo_isWord_22 : decode bc_Mo_isWord 22 = .ok (.if_icmp .ne (56), 3) := by decide +kernel
theorem dc_Mo_isWord_25 : decode bc_Mo_isWord 25 = .ok (.aload_n 0, 1) := by decide +kernel
theorem dc_Mo_isWord_26 : decode bc_Mo_isWord 26 = .ok (.getfield 7, 3) := by decide +kernel
theorem dc_Mo_isWord_29 : decode bc_Mo_isWord 29 = .ok (.aload_n 0, 1) := by decide +kernel
theorem dc_Mo_isWord_30 : decode bc_Mo_isWord 30 = .ok (.getfield 81, 3) := by decide +kernel
theorem dc_Mo_isWord_33 : decode bc_Mo_isWord 33 = .ok (.iaload, 1) := by decide +kernel
theorem dc_Mo_isWord_34 : decode bc_Mo_isWord 34 = .ok (.iload_n 1, 1) := by decide +kernel
theorem dc_Mo_isWord_35 : decode bc_Mo_isWord 35 = .ok (.if_icmp .ne (43), 3) := by decide +kernel
theorem dc_Mo_isWord_38 : decode bc_Mo_isWord 38 = .ok (.iload 4, 2) := by decide +kernel
theorem dc_Mo_isWord_40 : decode bc_Mo_isWord 40 = .ok (.iconst 1, 1) := by decide +kernel
theorem dc_Mo_isWord_41 : decode bc_Mo_isWord 41 = .ok (.if_icmp .eq (33), 3) := by decide +kernel
theorem dc_Mo_isWord_44 : decode bc_Mo_isWord 44 = .ok (.aload_n 0, 1) := by decide +kernel
theorem dc_Mo_isWord_45 : decode bc_Mo_isWord 45 = .ok (.getfield 7, 3) := by decide +kernel
theorem dc_Mo_isWord_48 : decode bc_Mo_isWord 48 = .ok (.aload_n 0, 1) := by decide +kernel
theorem dc_Mo_isWord_49 : decode bc_Mo_isWord 49 = .ok (.getfield 81, 3) := by decide +kernel
theorem dc_Mo_isWord_52 : decode bc_Mo_isWord 52 = .ok (.iconst 1, 1) := by decide +kernel
theorem dc_Mo_isWord_53 : decode bc_Mo_isWord 53 = .ok (.iadd, 1) := by decide +kernel
theorem dc_Mo_isWord_54 : decode bc_Mo_isWord 54 = .ok (.iaload, 1) := by decide +kernel
theorem dc_Mo_isWord_55 : decode bc_Mo_isWord 55 = .ok (.iload_n 2, 1) := by decide +kernel
theorem dc_Mo_isWord_56 : decode bc_Mo_isWord 56 = .ok (.if_icmp .ne (22), 3) := by decide +kernel
theorem dc_Mo_isWord_59 : decode bc_Mo_isWord 59 = .ok (.aload_n 0, 1) := by decide +kernel
theorem dc_Mo_isWord_60 : decode bc_Mo_isWord 60 = .ok (.getfield 7, 3) := by decide +kernel
theorem dc_Mo_isWord_63 : decode bc_Mo_isWord 63 = .ok (.aload_n 0, 1) := by decide +kernel
theorem dc_Mo_isWord_64 : decode bc_Mo_isWord 64 = .ok (.getfield 81, 3) := by decide +kernel
theorem dc_Mo_isWord_67 : decode bc_Mo_isWord 67 = .ok (.iconst 2, 1) := by decide +kernel
theorem dc_Mo_isWord_68 : decode bc_Mo_isWord 68 = .ok (.iadd, 1) := by decide +kernel
theorem dc_Mo_isWord_69 : decode bc_Mo_isWord 69 = .ok (.iaload, 1) := by decide +kernel
theorem dc_Mo_isWord_70 : decode bc_Mo_isWord 70 = .ok (.iload_n 3, 1) := by decide +kernel
theorem dc_Mo_isWord_71 : decode bc_Mo_isWord 71 = .ok (.if_icmp .ne (7), 3) := by decide +kernel
theorem dc_Mo_isWord_74 : decode bc_Mo_isWord 74 = .ok (.iconst 1, 1) := by decide +kernel
theorem dc_Mo_isWord_75 : decode bc_Mo_isWord 75 = .ok (.goto (4), 3) := by decide +kernel
theorem dc_Mo_isWord_78 : decode bc_Mo_isWord 78 = .ok (.iconst 0, 1) := by decide +kernel
theorem dc_Mo_isWord_79 : decode bc_Mo_isWord 79 = .ok (.ireturn, 1) := by decide +kernel
theorem dc_Mo_bitOf_0 : decode bc_Mo_bitOf 0 = .ok (.iload_n 0, 1) := by decide +kernel
theorem dc_Mo_bitOf_1 : decode bc_Mo_bitOf 1 = .ok (.ifCond .le (11), 3) := by decide +kernel
theorem dc_Mo_bitOf_4 : decode bc_Mo_bitOf 4 = .ok (.iconst 1, 1) := by decide +kernel
theorem dc_Mo_bitOf_5 : decode bc_Mo_bitOf 5 = .ok (.iload_n 0, 1) := by decide +kernel
theorem dc_Mo_bitOf_6 : decode bc_Mo_bitOf 6 = .ok (.iconst 1, 1) := by decide +kernel
theorem dc_Mo_bitOf_7 : decode bc_Mo_bitOf 7 = .ok (.isub, 1) := by decide +kernel
theorem dc_Mo_bitOf_8 : decode bc_Mo_bitOf 8 = .ok (.ishl, 1) := by decide +kernel
theorem dc_Mo_bitOf_9 : decode bc_Mo_bitOf 9 = .ok (.goto (9), 3) := by decide +kernel
theorem dc_Mo_bitOf_12 : decode bc_Mo_bitOf 12 = .ok (.iconst 1, 1) := by decide +kernel
theorem dc_Mo_bitOf_13 : decode bc_Mo_bitOf 13 = .ok (.bipush (7), 2) := by decide +kernel
theorem dc_Mo_bitOf_15 : decode bc_Mo_bitOf 15 = .ok (.iload_n 0, 1) := by decide +kernel
theorem dc_Mo_bitOf_16 : decode bc_Mo_bitOf 16 = .ok (.isub, 1) := by decide +kernel
theorem dc_Mo_bitOf_17 : decode bc_Mo_bitOf 17 = .ok (.ishl, 1) := by decide +kernel
theorem dc_Mo_bitOf_18 : decode bc_Mo_bitOf 18 = .ok (.ireturn, 1) := by decide +kernel
theorem dc_Mo_opposite_0 : decode bc_Mo_opposite 0 = .ok (.iload_n 0, 1) := by decide +kernel
theorem dc_Mo_opposite_1 : decode bc_Mo_opposite 1 = .ok (.sipush (255), 3) := by decide +kernel
theorem dc_Mo_opposite_4 : decode bc_Mo_opposite 4 = .ok (.iand, 1) := by decide +kernel
theorem dc_Mo_opposite_5 : decode bc_Mo_opposite 5 = .ok (.bipush (8), 2) := by decide +kernel
theorem dc_Mo_opposite_7 : decode bc_Mo_opposite 7 = .ok (.ishl, 1) := by decide +kernel
theorem dc_Mo_opposite_8 : decode bc_Mo_opposite 8 = .ok (.iload_n 0, 1) := by decide +kernel
theorem dc_Mo_opposite_9 : decode bc_Mo_opposite 9 = .ok (.bipush (8), 2) := by decide +kernel
theorem dc_Mo_opposite_11 : decode bc_Mo_opposite 11 = .ok (.ishr, 1) := by decide +kernel
theorem dc_Mo_opposite_12 : decode bc_Mo_opposite 12 = .ok (.ior, 1) := by decide +kernel
theorem dc_Mo_opposite_13 : decode bc_Mo_opposite 13 = .ok (.ireturn, 1) := by decide +kernel
theorem dc_Mo_bits_0 : decode bc_Mo_bits 0 = .ok (.iconst 0, 1) := by decide +kernel
theorem dc_Mo_bits_1 : decode bc_Mo_bits 1 = .ok (.istore_n 1, 1) := by decide +kernel
theorem dc_Mo_bits_2 : decode bc_Mo_bits 2 = .ok (.iconst 0, 1) := by decide +kernel
theorem dc_Mo_bits_3 : decode bc_Mo_bits 3 = .ok (.istore_n 2, 1) := by decide +kernel
theorem dc_Mo_bits_4 : decode bc_Mo_bits 4 = .ok (.iload_n 2, 1) := by decide +kernel
theorem dc_Mo_bits_5 : decode bc_Mo_bits 5 = .ok (.bipush (16), 2) := by decide +kernel
theorem dc_Mo_bits_7 : decode bc_Mo_bits 7 = .ok (.if_icmp .ge (17), 3) := by decide +kernel
theorem dc_Mo_bits_10 : decode bc_Mo_bits 10 = .ok (.iload_n 1, 1) := by decide +kernel
theorem dc_Mo_bits_11 : decode bc_Mo_bits 11 = .ok (.iload_n 0, 1) := by decide +kernel
theorem dc_Mo_bits_12 : decode bc_Mo_bits 12 = .ok (.iload_n 2, 1) := by decide +kernel
theorem dc_Mo_bits_13 : decode bc_Mo_bits 13 = .ok (.ishr, 1) := by decide +kernel
theorem dc_Mo_bits_14 : decode bc_Mo_bits 14 = .ok (.iconst 1, 1) := by decide +kernel
theorem dc_Mo_bits_15 : decode bc_Mo_bits 15 = .ok (.iand, 1) := by decide +kernel
theorem dc_Mo_bits_16 : decode bc_Mo_bits 16 = .ok (.iadd, 1) := by decide +kernel
theorem dc_Mo_bits_17 : decode bc_Mo_bits 17 = .ok (.istore_n 1, 1) := by decide +kernel
theorem dc_Mo_bits_18 : decode bc_Mo_bits 18 = .ok (.iinc 2 (1), 3) := by decide +kernel
theorem dc_Mo_bits_21 : decode bc_Mo_bits 21 = .ok (.goto (-17), 3) := by decide +kernel
theorem dc_Mo_bits_24 : decode bc_Mo_bits 24 = .ok (.iload_n 1, 1) := by decide +kernel
theorem dc_Mo_bits_25 : decode bc_Mo_bits 25 = .ok (.ireturn, 1) := by decide +kernel
theorem dc_Mo_open_0 : decode bc_Mo_open 0 = .ok (.aload_n 0, 1) := by decide +kernel
theorem dc_Mo_open_1 : decode bc_Mo_open 1 = .ok (.getfield 23, 3) := by decide +kernel
theorem dc_Mo_open_4 : decode bc_Mo_open 4 = .ok (.iload_n 1, 1) := by decide +kernel
theorem dc_Mo_open_5 : decode bc_Mo_open 5 = .ok (.iaload, 1) := by decide +kernel
theorem dc_Mo_open_6 : decode bc_Mo_open 6 = .ok (.aload_n 0, 1) := by decide +kernel
theorem dc_Mo_open_7 : decode bc_Mo_open 7 = .ok (.getfield 168, 3) := by decide +kernel
theorem dc_Mo_open_10 : decode bc_Mo_open 10 = .ok (.aload_n 0, 1) := by decide +kernel
theorem dc_Mo_open_11 : decode bc_Mo_open 11 = .ok (.getfield 168, 3) := by decide +kernel
theorem dc_Mo_open_14 : decode bc_Mo_open 14 = .ok (.invokestatic 171, 3) := by decide +kernel
theorem dc_Mo_open_17 : decode bc_Mo_open 17 = .ok (.ior, 1) := by decide +kernel
theorem dc_Mo_open_18 : decode bc_Mo_open 18 = .ok (.iconst (-1), 1) := by decide +kernel
theorem dc_Mo_open_19 : decode bc_Mo_open 19 = .ok (.ixor, 1) := by decide +kernel
theorem dc_Mo_open_20 : decode bc_Mo_open 20 = .ok (.iand, 1) := by decide +kernel
theorem dc_Mo_open_21 : decode bc_Mo_open 21 = .ok (.ireturn, 1) := by decide +kernel
theorem dc_Mo_setAt_0 : decode bc_Mo_setAt 0 = .ok (.iconst 0, 1) := by decide +kernel
theorem dc_Mo_setAt_1 : decode bc_Mo_setAt 1 = .ok (.istore_n 2, 1) := by decide +kernel
theorem dc_Mo_setAt_2 : decode bc_Mo_setAt 2 = .ok (.iconst 0, 1) := by decide +kernel
theorem dc_Mo_setAt_3 : decode bc_Mo_setAt 3 = .ok (.istore_n 3, 1) := by decide +kernel
theorem dc_Mo_setAt_4 : decode bc_Mo_setAt 4 = .ok (.iload_n 3, 1) := by decide +kernel
theorem dc_Mo_setAt_5 : decode bc_Mo_setAt 5 = .ok (.aload_n 0, 1) := by decide +kernel
theorem dc_Mo_setAt_6 : decode bc_Mo_setAt 6 = .ok (.getfield 13, 3) := by decide +kernel
theorem dc_Mo_setAt_9 : decode bc_Mo_setAt 9 = .ok (.iload_n 1, 1) := by decide +kernel
theorem dc_Mo_setAt_10 : decode bc_Mo_setAt 10 = .ok (.iaload, 1) := by decide +kernel
theorem dc_Mo_setAt_11 : decode bc_Mo_setAt 11 = .ok (.if_icmp .ge (26), 3) := by decide +kernel
theorem dc_Mo_setAt_14 : decode bc_Mo_setAt 14 = .ok (.iload_n 2, 1) := by decide +kernel
theorem dc_Mo_setAt_15 : decode bc_Mo_setAt 15 = .ok (.aload_n 0, 1) := by decide +kernel
theorem dc_Mo_setAt_16 : decode bc_Mo_setAt 16 = .ok (.getfield 16, 3) := by decide +kernel
theorem dc_Mo_setAt_19 : decode bc_Mo_setAt 19 = .ok (.bipush (8), 2) := by decide +kernel
theorem dc_Mo_setAt_21 : decode bc_Mo_setAt 21 = .ok (.iload_n 1, 1) := by decide +kernel
theorem dc_Mo_setAt_22 : decode bc_Mo_setAt 22 = .ok (.imul, 1) := by decide +kernel
theorem dc_Mo_setAt_23 : decode bc_Mo_setAt 23 = .ok (.iload_n 3, 1) := by decide +kernel
theorem dc_Mo_setAt_24 : decode bc_Mo_setAt 24 = .ok (.iadd, 1) := by decide +kernel
theorem dc_Mo_setAt_25 : decode bc_Mo_setAt 25 = .ok (.iaload, 1) := by decide +kernel
theorem dc_Mo_setAt_26 : decode bc_Mo_setAt 26 = .ok (.invokestatic 118, 3) := by decide +kernel
theorem dc_Mo_setAt_29 : decode bc_Mo_setAt 29 = .ok (.ior, 1) := by decide +kernel
theorem dc_Mo_setAt_30 : decode bc_Mo_setAt 30 = .ok (.istore_n 2, 1) := by decide +kernel
theorem dc_Mo_setAt_31 : decode bc_Mo_setAt 31 = .ok (.iinc 3 (1), 3) := by decide +kernel
theorem dc_Mo_setAt_34 : decode bc_Mo_setAt 34 = .ok (.goto (-30), 3) := by decide +kernel
theorem dc_Mo_setAt_37 : decode bc_Mo_setAt 37 = .ok (.iload_n 2, 1) := by decide +kernel
theorem dc_Mo_setAt_38 : decode bc_Mo_setAt 38 = .ok (.ireturn, 1) := by decide +kernel
theorem dc_Mo_isClause_0 : decode bc_Mo_isClause 0 = .ok (.iload_n 1, 1) := by decide +kernel
theorem dc_Mo_isClause_1 : decode bc_Mo_isClause 1 = .ok (.ifCond .le (15), 3) := by decide +kernel
theorem dc_Mo_isClause_4 : decode bc_Mo_isClause 4 = .ok (.iload_n 1, 1) := by decide +kernel
theorem dc_Mo_isClause_5 : decode bc_Mo_isClause 5 = .ok (.aload_n 0, 1) := by decide +kernel
theorem dc_Mo_isClause_6 : decode bc_Mo_isClause 6 = .ok (.getfield 122, 3) := by decide +kernel
theorem dc_Mo_isClause_9 : decode bc_Mo_isClause 9 = .ok (.if_icmp .gt (7), 3) := by decide +kernel
theorem dc_Mo_isClause_12 : decode bc_Mo_isClause 12 = .ok (.iconst 1, 1) := by decide +kernel
theorem dc_Mo_isClause_13 : decode bc_Mo_isClause 13 = .ok (.goto (4), 3) := by decide +kernel
theorem dc_Mo_isClause_16 : decode bc_Mo_isClause 16 = .ok (.iconst 0, 1) := by decide +kernel
theorem dc_Mo_isClause_17 : decode bc_Mo_isClause 17 = .ok (.ireturn, 1) := by decide +kernel
theorem dc_Mo_say_0 : decode bc_Mo_say 0 = .ok (.aload_n 0, 1) := by decide +kernel
theorem dc_Mo_say_1 : decode bc_Mo_say 1 = .ok (.getfield 47, 3) := by decide +kernel
theorem dc_Mo_say_4 : decode bc_Mo_say 4 = .ok (.sipush (400), 3) := by decide +kernel
theorem dc_Mo_say_7 : decode bc_Mo_say 7 = .ok (.iload_n 1, 1) := by decide +kernel
theorem dc_Mo_say_8 : decode bc_Mo_say 8 = .ok (.aload_n 0, 1) := by decide +kernel
theorem dc_Mo_say_9 : decode bc_Mo_say 9 = .ok (.getfield 150, 3) := by decide +kernel
theorem dc_Mo_say_12 : decode bc_Mo_say 12 = .ok (.isub, 1) := by decide +kernel
theorem dc_Mo_say_13 : decode bc_Mo_say 13 = .ok (.iconst 1, 1) := by decide +kernel
theorem dc_Mo_say_14 : decode bc_Mo_say 14 = .ok (.isub, 1) := by decide +kernel
theorem dc_Mo_say_15 : decode bc_Mo_say 15 = .ok (.imul, 1) := by decide +kernel
theorem dc_Mo_say_16 : decode bc_Mo_say 16 = .ok (.aload_n 0, 1) := by decide +kernel
theorem dc_Mo_say_17 : decode bc_Mo_say 17 = .ok (.getfield 44, 3) := by decide +kernel
theorem dc_Mo_say_20 : decode bc_Mo_say 20 = .ok (.iload_n 1, 1) := by decide +kernel
theorem dc_Mo_say_21 : decode bc_Mo_say 21 = .ok (.iaload, 1) := by decide +kernel
theorem dc_Mo_say_22 : decode bc_Mo_say 22 = .ok (.iadd, 1) := by decide +kernel
theorem dc_Mo_say_23 : decode bc_Mo_say 23 = .ok (.iload_n 2, 1) := by decide +kernel
theorem dc_Mo_say_24 : decode bc_Mo_say 24 = .ok (.iastore, 1) := by decide +kernel
theorem dc_Mo_say_25 : decode bc_Mo_say 25 = .ok (.aload_n 0, 1) := by decide +kernel
theorem dc_Mo_say_26 : decode bc_Mo_say 26 = .ok (.getfield 44, 3) := by decide +kernel
theorem dc_Mo_say_29 : decode bc_Mo_say 29 = .ok (.iload_n 1, 1) := by decide +kernel
theorem dc_Mo_say_30 : decode bc_Mo_say 30 = .ok (.dup2, 1) := by decide +kernel
theorem dc_Mo_say_31 : decode bc_Mo_say 31 = .ok (.iaload, 1) := by decide +kernel
theorem dc_Mo_say_32 : decode bc_Mo_say 32 = .ok (.iconst 1, 1) := by decide +kernel
theorem dc_Mo_say_33 : decode bc_Mo_say 33 = .ok (.iadd, 1) := by decide +kernel
theorem dc_Mo_say_34 : decode bc_Mo_say 34 = .ok (.iastore, 1) := by decide +kernel
theorem dc_Mo_say_35 : decode bc_Mo_say 35 = .ok (.return_, 1) := by decide +kernel
theorem dc_Mo_put_0 : decode bc_Mo_put 0 = .ok (.aload_n 0, 1) := by decide +kernel
theorem dc_Mo_put_1 : decode bc_Mo_put 1 = .ok (.getfield 62, 3) := by decide +kernel
theorem dc_Mo_put_4 : decode bc_Mo_put 4 = .ok (.aload_n 0, 1) := by decide +kernel
theorem dc_Mo_put_5 : decode bc_Mo_put 5 = .ok (.getfield 227, 3) := by decide +kernel
theorem dc_Mo_put_8 : decode bc_Mo_put 8 = .ok (.iload_n 1, 1) := by decide +kernel
theorem dc_Mo_put_9 : decode bc_Mo_put 9 = .ok (.iastore, 1) := by decide +kernel
theorem dc_Mo_put_10 : decode bc_Mo_put 10 = .ok (.aload_n 0, 1) := by decide +kernel
theorem dc_Mo_put_11 : decode bc_Mo_put 11 = .ok (.dup, 1) := by decide +kernel
theorem dc_Mo_put_12 : decode bc_Mo_put 12 = .ok (.getfield 227, 3) := by decide +kernel
theorem dc_Mo_put_15 : decode bc_Mo_put 15 = .ok (.iconst 1, 1) := by decide +kernel
theorem dc_Mo_put_16 : decode bc_Mo_put 16 = .ok (.iadd, 1) := by decide +kernel
theorem dc_Mo_put_17 : decode bc_Mo_put 17 = .ok (.putfield 227, 3) := by decide +kernel
theorem dc_Mo_put_20 : decode bc_Mo_put 20 = .ok (.return_, 1) := by decide +kernel
theorem dc_Mo_clauses_0 : decode bc_Mo_clauses 0 = .ok (.aload_n 0, 1) := by decide +kernel
theorem dc_Mo_clauses_1 : decode bc_Mo_clauses 1 = .ok (.iconst 0, 1) := by decide +kernel
theorem dc_Mo_clauses_2 : decode bc_Mo_clauses 2 = .ok (.putfield 65, 3) := by decide +kernel
theorem dc_Mo_clauses_5 : decode bc_Mo_clauses 5 = .ok (.aload_n 0, 1) := by decide +kernel
theorem dc_Mo_clauses_6 : decode bc_Mo_clauses 6 = .ok (.getfield 122, 3) := by decide +kernel
theorem dc_Mo_clauses_9 : decode bc_Mo_clauses 9 = .ok (.ireturn, 1) := by decide +kernel
set_option maxHeartbeats 4000000 in
set_option maxRecDepth 100000 in
theorem ct_Mo_thrown (l : Launch) (D : va_G) (cI cZ : ClassId) (sz : Nat) (o : Nat) (mth : Nat) (mty : Nat) (x0 : Nat) (mat : Nat) (mfr : Nat) (mto : Nat) (mgd : Bool) (mrd : Nat) (x1 : Nat) (x2 : Nat) (x3 : Nat) (mhf : Bool) (mhp : Bool) (mcl : Bool) (mck : Bool) (mba : Nat) (mct : Nat) (x4 : Nat) (x5 : Nat) (x6 : Nat) (x7 : Nat) (x8 : Nat) (mst : Nat) (x9 : Nat) (x10 : Nat) (x11 : Nat) (x12 : Nat) (mtr : Nat) (mrs : Nat) (x13 : Nat) (x14 : Nat) (x15 : Nat) (x16 : Nat) (mwr : Nat) (x17 : Nat) (mfo : Nat)  : Met l yn_Mo_thrown (Cond.code yn_Mo_thrown bc_Mo_thrown 1 (some .int) :: kx_all) ({ frames := 0, cells := 0, slots := 0, locals := 0 } : Room) (kp [.ref o] D cI cZ [mo_c o mth mty x0 mat mfr mto mgd mrd x1 x2 x3 mhf mhp mcl mck mba mct x4 x5 x6 x7 x8 mst x9 x10 x11 x12 mtr mrs x13 x14 x15 x16 mwr x17 mfo] sz) (kr_q (some (.int (nI mth)))) 0 0 (fun _ => False) := by
  refine kx_met (by decide) (Nat.le_of_ble_eq_true rfl) ?_
  intro p e s m below meth c ls hx hb hr hml hts hown hlocks hin hsz hP hK hD hN hl
  have hown : s.vm.findClass rn_Mo = some m.cls := hown
  have hl : lv_has ls 1 [(0, .ref o)] := hl
  refine lv_aload_n hx hb dc_Mo_thrown_0 rfl (lv_at hl 0 rfl) ?_
  refine va_get (ci := 10) (v := .int (nI mth)) (C := rn_Mo) (T := fd_Mo) (N := 36) hx hb hts in_Mo hown hK hP 0 rfl rfl 0 (by decide) (hts _ wd_746) (fun _ h9 => h9) rfl dc_Mo_thrown_1 ?_
  exact kr_iret hx hb hr hlocks dc_Mo_thrown_4 (rfl)

set_option maxHeartbeats 4000000 in
set_option maxRecDepth 100000 in
theorem ct_Mo_refuse (l : Launch) (D : va_G) (cI cZ : ClassId) (sz : Nat) (o : Nat) (mth : Nat) (mty : Nat) (x0 : Nat) (mat : Nat) (mfr : Nat) (mto : Nat) (mgd : Bool) (mrd : Nat) (x1 : Nat) (x2 : Nat) (x3 : Nat) (mhf : Bool) (mhp : Bool) (mcl : Bool) (mck : Bool) (mba : Nat) (mct : Nat) (x4 : Nat) (x5 : Nat) (x6 : Nat) (x7 : Nat) (x8 : Nat) (mst : Nat) (x9 : Nat) (x10 : Nat) (x11 : Nat) (x12 : Nat) (mtr : Nat) (mrs : Nat) (x13 : Nat) (x14 : Nat) (x15 : Nat) (x16 : Nat) (mwr : Nat) (x17 : Nat) (mfo : Nat) (k : Nat)  : Met l yn_Mo_refuse (Cond.code yn_Mo_refuse bc_Mo_refuse 2 (some .int) :: kx_all) ({ frames := 0, cells := 0, slots := 0, locals := 0 } : Room) (kp [.ref o, .int (nI k)] D cI cZ [mo_c o mth mty x0 mat mfr mto mgd mrd x1 x2 x3 mhf mhp mcl mck mba mct x4 x5 x6 x7 x8 mst x9 x10 x11 x12 mtr mrs x13 x14 x15 x16 mwr x17 mfo] sz) (kw_q (some (.int (nI 0))) D kc_l [mo_c o k mty x0 mat mfr mto mgd mrd x1 x2 x3 mhf mhp mcl mck mba mct x4 x5 x6 x7 x8 mst x9 x10 x11 x12 mtr mrs x13 x14 x15 x16 mwr x17 mfo] (va_A [mo_c o mth mty x0 mat mfr mto mgd mrd x1 x2 x3 mhf mhp mcl mck mba mct x4 x5 x6 x7 x8 mst x9 x10 x11 x12 mtr mrs x13 x14 x15 x16 mwr x17 mfo] sz)) 0 0 (va_A [mo_c o mth mty x0 mat mfr mto mgd mrd x1 x2 x3 mhf mhp mcl mck mba mct x4 x5 x6 x7 x8 mst x9 x10 x11 x12 mtr mrs x13 x14 x15 x16 mwr x17 mfo] sz) := by
  refine kx_metW (by decide) (Nat.le_of_ble_eq_true rfl) ?_
  intro p e s m below meth c ls A hx hb hr hml hts hown hlocks hin hA hP hK hD hN hl hS
  have hown : s.vm.findClass rn_Mo = some m.cls := hown
  have hl : lv_has ls 2 [(0, .ref o), (1, .int (nI k))] := hl
  refine lv_aload_n hx hb dc_Mo_refuse_0 rfl (lv_at hl 0 rfl) ?_
  refine lv_iload_n hx hb dc_Mo_refuse_1 rfl (lv_at hl 1 rfl) ?_
  refine va_put (ci := 10) (v := .int (nI k)) (ty := .int) (C := rn_Mo) (T := fd_Mo) (N := 36) hx hb hts in_Mo ty_Mo tk_Mo nm_Mo hown hK hP hD hS 0 rfl rfl 0 (by decide) (hts _ wd_746) (fun _ h9 => h9) rfl (by decide +kernel) rfl rfl (Nat.le_of_ble_eq_true rfl) dc_Mo_refuse_2 (fun H locs hP hD hS => ?_)
  have hP : va_P D kc_l [mo_c o k mty x0 mat mfr mto mgd mrd x1 x2 x3 mhf mhp mcl mck mba mct x4 x5 x6 x7 x8 mst x9 x10 x11 x12 mtr mrs x13 x14 x15 x16 mwr x17 mfo] H := hP
  have hD : va_D A [mo_c o k mty x0 mat mfr mto mgd mrd x1 x2 x3 mhf mhp mcl mck mba mct x4 x5 x6 x7 x8 mst x9 x10 x11 x12 mtr mrs x13 x14 x15 x16 mwr x17 mfo] := hD
  refine lv_iconst (v := nI 0) hx hb dc_Mo_refuse_5 (by decide +kernel) ?_
  exact kw_iret hx hb hr hlocks hP hD hS dc_Mo_refuse_6 (rfl) (rfl)

set_option maxHeartbeats 4000000 in
set_option maxRecDepth 100000 in
theorem ct_Mo_wipe (l : Launch) (D : va_G) (cI cZ : ClassId) (sz : Nat) (o : Nat) (mth : Nat) (mty : Nat) (x0 : Nat) (mat : Nat) (mfr : Nat) (mto : Nat) (mgd : Bool) (mrd : Nat) (x1 : Nat) (x2 : Nat) (x3 : Nat) (mhf : Bool) (mhp : Bool) (mcl : Bool) (mck : Bool) (mba : Nat) (mct : Nat) (x4 : Nat) (x5 : Nat) (x6 : Nat) (x7 : Nat) (x8 : Nat) (mst : Nat) (x9 : Nat) (x10 : Nat) (x11 : Nat) (x12 : Nat) (mtr : Nat) (mrs : Nat) (x13 : Nat) (x14 : Nat) (x15 : Nat) (x16 : Nat) (mwr : Nat) (x17 : Nat) (mfo : Nat)  : Met l yn_Mo_wipe (Cond.code yn_Mo_wipe bc_Mo_wipe 2 (some .int) :: kx_all) ({ frames := 0, cells := 0, slots := 0, locals := 0 } : Room) (kp [.ref o] D cI cZ [mo_c o mth mty x0 mat mfr mto mgd mrd x1 x2 x3 mhf mhp mcl mck mba mct x4 x5 x6 x7 x8 mst x9 x10 x11 x12 mtr mrs x13 x14 x15 x16 mwr x17 mfo] sz) (kw_q (some (.int (nI mty))) D kc_l [mo_c o 0 0 x0 mat mfr mto mgd mrd x1 x2 x3 mhf mhp mcl mck mba mct x4 x5 x6 x7 x8 mst x9 x10 x11 x12 mtr mrs x13 x14 x15 x16 mwr x17 mfo] (va_A [mo_c o mth mty x0 mat mfr mto mgd mrd x1 x2 x3 mhf mhp mcl mck mba mct x4 x5 x6 x7 x8 mst x9 x10 x11 x12 mtr mrs x13 x14 x15 x16 mwr x17 mfo] sz)) 0 0 (va_A [mo_c o mth mty x0 mat mfr mto mgd mrd x1 x2 x3 mhf mhp mcl mck mba mct x4 x5 x6 x7 x8 mst x9 x10 x11 x12 mtr mrs x13 x14 x15 x16 mwr x17 mfo] sz) := by
  refine kx_metW (by decide) (Nat.le_of_ble_eq_true rfl) ?_
  intro p e s m below meth c ls A hx hb hr hml hts hown hlocks hin hA hP hK hD hN hl hS
  have hown : s.vm.findClass rn_Mo = some m.cls := hown
  have hl : lv_has ls 2 [(0, .ref o)] := hl
  refine lv_aload_n hx hb dc_Mo_wipe_0 rfl (lv_at hl 0 rfl) ?_
  refine lv_iconst (v := nI 0) hx hb dc_Mo_wipe_1 (by decide +kernel) ?_
  refine va_put (ci := 10) (v := .int (nI 0)) (ty := .int) (C := rn_Mo) (T := fd_Mo) (N := 36) hx hb hts in_Mo ty_Mo tk_Mo nm_Mo hown hK hP hD hS 0 rfl rfl 0 (by decide) (hts _ wd_746) (fun _ h9 => h9) rfl (by decide +kernel) rfl rfl (Nat.le_of_ble_eq_true rfl) dc_Mo_wipe_2 (fun H locs hP hD hS => ?_)
  have hP : va_P D kc_l [mo_c o 0 mty x0 mat mfr mto mgd mrd x1 x2 x3 mhf mhp mcl mck mba mct x4 x5 x6 x7 x8 mst x9 x10 x11 x12 mtr mrs x13 x14 x15 x16 mwr x17 mfo] H := hP
  have hD : va_D A [mo_c o 0 mty x0 mat mfr mto mgd mrd x1 x2 x3 mhf mhp mcl mck mba mct x4 x5 x6 x7 x8 mst x9 x10 x11 x12 mtr mrs x13 x14 x15 x16 mwr x17 mfo] := hD
  refine lv_aload_n hx hb dc_Mo_wipe_5 rfl (lv_at hl 0 rfl) ?_
  refine va_get (ci := 10) (v := .int (nI mty)) (C := rn_Mo) (T := fd_Mo) (N := 36) hx hb hts in_Mo hown hK hP 0 rfl rfl 1 (by decide) (hts _ wd_747) (fun _ h9 => h9) rfl dc_Mo_wipe_6 ?_
  refine lv_istore_n (lv' := [(1, .int (nI mty)), (0, .ref o)]) hx hb dc_Mo_wipe_9 rfl hl (by decide) rfl (fun ls hl => ?_)
  refine lv_aload_n hx hb dc_Mo_wipe_10 rfl (lv_at hl 1 rfl) ?_
  refine lv_iconst (v := nI 0) hx hb dc_Mo_wipe_11 (by decide +kernel) ?_
  refine va_put (ci := 10) (v := .int (nI 0)) (ty := .int) (C := rn_Mo) (T := fd_Mo) (N := 36) hx hb hts in_Mo ty_Mo tk_Mo nm_Mo hown hK hP hD hS 0 rfl rfl 1 (by decide) (hts _ wd_747) (fun _ h9 => h9) rfl (by decide +kernel) rfl rfl (Nat.le_of_ble_eq_true rfl) dc_Mo_wipe_12 (fun H locs hP hD hS => ?_)
  have hP : va_P D kc_l [mo_c o 0 0 x0 mat mfr mto mgd mrd x1 x2 x3 mhf mhp mcl mck mba mct x4 x5 x6 x7 x8 mst x9 x10 x11 x12 mtr mrs x13 x14 x15 x16 mwr x17 mfo] H := hP
  have hD : va_D A [mo_c o 0 0 x0 mat mfr mto mgd mrd x1 x2 x3 mhf mhp mcl mck mba mct x4 x5 x6 x7 x8 mst x9 x10 x11 x12 mtr mrs x13 x14 x15 x16 mwr x17 mfo] := hD
  refine lv_iload_n hx hb dc_Mo_wipe_15 rfl (lv_at hl 0 rfl) ?_
  exact kw_iret hx hb hr hlocks hP hD hS dc_Mo_wipe_16 (rfl) (rfl)

set_option maxHeartbeats 4000000 in
set_option maxRecDepth 100000 in
theorem ct_Mo_clauses (l : Launch) (D : va_G) (cI cZ : ClassId) (sz : Nat) (o : Nat) (mth : Nat) (mty : Nat) (x0 : Nat) (mat : Nat) (mfr : Nat) (mto : Nat) (mgd : Bool) (mrd : Nat) (x1 : Nat) (x2 : Nat) (x3 : Nat) (mhf : Bool) (mhp : Bool) (mcl : Bool) (mck : Bool) (mba : Nat) (mct : Nat) (x4 : Nat) (x5 : Nat) (x6 : Nat) (x7 : Nat) (x8 : Nat) (mst : Nat) (x9 : Nat) (x10 : Nat) (x11 : Nat) (x12 : Nat) (mtr : Nat) (mrs : Nat) (x13 : Nat) (x14 : Nat) (x15 : Nat) (x16 : Nat) (mwr : Nat) (x17 : Nat) (mfo : Nat)  : Met l yn_Mo_clauses (Cond.code yn_Mo_clauses bc_Mo_clauses 1 (some .int) :: kx_all) ({ frames := 0, cells := 0, slots := 0, locals := 0 } : Room) (kp [.ref o] D cI cZ [mo_c o mth mty x0 mat mfr mto mgd mrd x1 x2 x3 mhf mhp mcl mck mba mct x4 x5 x6 x7 x8 mst x9 x10 x11 x12 mtr mrs x13 x14 x15 x16 mwr x17 mfo] sz) (kw_q (some (.int (nI mct))) D kc_l [mo_c o 0 mty x0 mat mfr mto mgd mrd x1 x2 x3 mhf mhp mcl mck mba mct x4 x5 x6 x7 x8 mst x9 x10 x11 x12 mtr mrs x13 x14 x15 x16 mwr x17 mfo] (va_A [mo_c o mth mty x0 mat mfr mto mgd mrd x1 x2 x3 mhf mhp mcl mck mba mct x4 x5 x6 x7 x8 mst x9 x10 x11 x12 mtr mrs x13 x14 x15 x16 mwr x17 mfo] sz)) 0 0 (va_A [mo_c o mth mty x0 mat mfr mto mgd mrd x1 x2 x3 mhf mhp mcl mck mba mct x4 x5 x6 x7 x8 mst x9 x10 x11 x12 mtr mrs x13 x14 x15 x16 mwr x17 mfo] sz) := by
  refine kx_metW (by decide) (Nat.le_of_ble_eq_true rfl) ?_
  intro p e s m below meth c ls A hx hb hr hml hts hown hlocks hin hA hP hK hD hN hl hS
  have hown : s.vm.findClass rn_Mo = some m.cls := hown
  have hl : lv_has ls 1 [(0, .ref o)] := hl
  refine lv_aload_n hx hb dc_Mo_clauses_0 rfl (lv_at hl 0 rfl) ?_
  refine lv_iconst (v := nI 0) hx hb dc_Mo_clauses_1 (by decide +kernel) ?_
  refine va_put (ci := 10) (v := .int (nI 0)) (ty := .int) (C := rn_Mo) (T := fd_Mo) (N := 36) hx hb hts in_Mo ty_Mo tk_Mo nm_Mo hown hK hP hD hS 0 rfl rfl 0 (by decide) (hts _ wd_746) (fun _ h9 => h9) rfl (by decide +kernel) rfl rfl (Nat.le_of_ble_eq_true rfl) dc_Mo_clauses_2 (fun H locs hP hD hS => ?_)
  have hP : va_P D kc_l [mo_c o 0 mty x0 mat mfr mto mgd mrd x1 x2 x3 mhf mhp mcl mck mba mct x4 x5 x6 x7 x8 mst x9 x10 x11 x12 mtr mrs x13 x14 x15 x16 mwr x17 mfo] H := hP
  have hD : va_D A [mo_c o 0 mty x0 mat mfr mto mgd mrd x1 x2 x3 mhf mhp mcl mck mba mct x4 x5 x6 x7 x8 mst x9 x10 x11 x12 mtr mrs x13 x14 x15 x16 mwr x17 mfo] := hD
  refine lv_aload_n hx hb dc_Mo_clauses_5 rfl (lv_at hl 0 rfl) ?_
  refine va_get (ci := 10) (v := .int (nI mct)) (C := rn_Mo) (T := fd_Mo) (N := 36) hx hb hts in_Mo hown hK hP 0 rfl rfl 16 (by decide) (hts _ wd_762) (fun _ h9 => h9) rfl dc_Mo_clauses_6 ?_
  exact kw_iret hx hb hr hlocks hP hD hS dc_Mo_clauses_9 (rfl) (rfl)

set_option maxHeartbeats 4000000 in
set_option maxRecDepth 100000 in
theorem ct_Mo_isGap (l : Launch) (D : va_G) (cI cZ : ClassId) (sz : Nat) (x : Nat) (hx : x < 2 ^ 31) : Met l yn_Mo_isGap (Cond.code yn_Mo_isGap bc_Mo_isGap 1 (some .boolean) :: kx_all) ({ frames := 0, cells := 0, slots := 0, locals := 0 } : Room) (kp [.int (nI x)] D cI cZ [] sz) (kr_q (some (.int (kb_i (pt_gap x))))) 0 0 (fun _ => False) := by
  refine kx_met (by decide) (Nat.le_of_ble_eq_true rfl) ?_
  intro p e s m below meth c ls hx hb hr hml hts hown hlocks hin hsz hP hK hD hN hl
  have hown : s.vm.findClass rn_Mo = some m.cls := hown
  have hl : lv_has ls 1 [(0, .int (nI x))] := hl
  refine lv_iload_n hx hb dc_Mo_isGap_0 rfl (lv_at hl 0 rfl) ?_
  refine lv_bipush (v := nI 32) hx hb dc_Mo_isGap_1 (by decide +kernel) ?_
  refine kn_icmp_eq hx hb (by omega) (by omega) dc_Mo_isGap_3 rfl (fun hc3 => ?_) (fun hc3 => ?_)
  · refine lv_iconst (v := nI 1) hx hb dc_Mo_isGap_12 (by decide +kernel) ?_
    refine lv_goto hx hb dc_Mo_isGap_13 rfl ?_
    refine kn_top (y := kb_i true) (by decide +kernel) ?_
    exact kr_zret hx hb hr hlocks dc_Mo_isGap_17 (by rw [gap_v, decide_eq_true hc3]; rfl)
  · refine lv_iload_n hx hb dc_Mo_isGap_6 rfl (lv_at hl 0 rfl) ?_
    refine lv_bipush (v := nI 10) hx hb dc_Mo_isGap_7 (by decide +kernel) ?_
    refine kn_icmp_ne hx hb (by omega) (by omega) dc_Mo_isGap_9 rfl (fun hc9 => ?_) (fun hc9 => ?_)
    · refine lv_iconst (v := nI 0) hx hb dc_Mo_isGap_16 (by decide +kernel) ?_
      refine kn_top (y := kb_i false) (by decide +kernel) ?_
      exact kr_zret hx hb hr hlocks dc_Mo_isGap_17 (by rw [gap_v, decide_eq_false hc3, decide_eq_false hc9]; rfl)
    · refine lv_iconst (v := nI 1) hx hb dc_Mo_isGap_12 (by decide +kernel) ?_
      refine lv_goto hx hb dc_Mo_isGap_13 rfl ?_
      refine kn_top (y := kb_i true) (by decide +kernel) ?_
      exact kr_zret hx hb hr hlocks dc_Mo_isGap_17 (by rw [gap_v, decide_eq_true hc9, Bool.or_true])

set_option maxHeartbeats 4000000 in
set_option maxRecDepth 100000 in
theorem ct_Mo_word (l : Launch) (D : va_G) (cI cZ : ClassId) (sz : Nat) (o : Nat) (mth : Nat) (mty : Nat) (x0 : Nat) (mat : Nat) (mfr : Nat) (mto : Nat) (mgd : Bool) (mrd : Nat) (x1 : Nat) (x2 : Nat) (x3 : Nat) (mhf : Bool) (mhp : Bool) (mcl : Bool) (mck : Bool) (mba : Nat) (mct : Nat) (x4 : Nat) (x5 : Nat) (x6 : Nat) (x7 : Nat) (x8 : Nat) (mst : Nat) (x9 : Nat) (x10 : Nat) (x11 : Nat) (x12 : Nat) (mtr : Nat) (mrs : Nat) (x13 : Nat) (x14 : Nat) (x15 : Nat) (x16 : Nat) (mwr : Nat) (x17 : Nat) (mfo : Nat) (t : Nat → Nat) (hty : mty ≤ 250) (hat : mat ≤ mty) (ht : ∀ j, t j < 256) : Met l yn_Mo_word (Cond.code yn_Mo_word bc_Mo_word 1 (some .boolean) :: kx_all) ({ frames := 1, cells := 0, slots := 0, locals := 20 } : Room) (kp [.ref o] D cI cZ [mo_c o mth mty x0 mat mfr mto mgd mrd x1 x2 x3 mhf mhp mcl mck mba mct x4 x5 x6 x7 x8 mst x9 x10 x11 x12 mtr mrs x13 x14 x15 x16 mwr x17 mfo, ar_n cI x0 250 t] sz) (kw_q (some (.int (kb_i (decide (pt_ws t mty mat < pt_zz t mty mat))))) D kc_l [mo_c o mth mty x0 (pt_zz t mty mat) (pt_ws t mty mat) (pt_zz t mty mat) mgd mrd x1 x2 x3 mhf mhp mcl mck mba mct x4 x5 x6 x7 x8 mst x9 x10 x11 x12 mtr mrs x13 x14 x15 x16 mwr x17 mfo, ar_n cI x0 250 t] (va_A [mo_c o mth mty x0 mat mfr mto mgd mrd x1 x2 x3 mhf mhp mcl mck mba mct x4 x5 x6 x7 x8 mst x9 x10 x11 x12 mtr mrs x13 x14 x15 x16 mwr x17 mfo, ar_n cI x0 250 t] sz)) 0 0 (va_A [mo_c o mth mty x0 mat mfr mto mgd mrd x1 x2 x3 mhf mhp mcl mck mba mct x4 x5 x6 x7 x8 mst x9 x10 x11 x12 mtr mrs x13 x14 x15 x16 mwr x17 mfo, ar_n cI x0 250 t] sz) := by
  refine kx_metW (by decide) (Nat.le_of_ble_eq_true rfl) ?_
  intro p e s m below meth c ls A hx hb hr hml hts hown hlocks hin hA hP hK hD hN hl hS
  have hown : s.vm.findClass rn_Mo = some m.cls := hown
  have hl : lv_has ls 1 [(0, .ref o)] := hl
  have lp_0 : ∀ (K : Nat) (a1 : Nat) (H : Heap) (locs : List Loc) (ls : Array Slot), mty - a1 < K → va_P D kc_l [mo_c o mth mty x0 a1 mfr mto mgd mrd x1 x2 x3 mhf mhp mcl mck mba mct x4 x5 x6 x7 x8 mst x9 x10 x11 x12 mtr mrs x13 x14 x15 x16 mwr x17 mfo, ar_n cI x0 250 t] H → va_D A [mo_c o mth mty x0 a1 mfr mto mgd mrd x1 x2 x3 mhf mhp mcl mck mba mct x4 x5 x6 x7 x8 mst x9 x10 x11 x12 mtr mrs x13 x14 x15 x16 mwr x17 mfo, ar_n cI x0 250 t] → va_S A s.heap H locs → lv_has ls 1 [(0, .ref o)] → (pt_ws t mty a1 = pt_ws t mty mat) → (a1 ≤ mty) → W p l e ({ frames := 1, cells := 0, slots := 0, locals := 20 } : Room) s m ([.ref o] : List Value).toArray below meth c H locs 0 0 (MQ below (kw_q (some (.int (kb_i (decide (pt_ws t mty mat < pt_zz t mty mat))))) D kc_l [mo_c o mth mty x0 (pt_zz t mty mat) (pt_ws t mty mat) (pt_zz t mty mat) mgd mrd x1 x2 x3 mhf mhp mcl mck mba mct x4 x5 x6 x7 x8 mst x9 x10 x11 x12 mtr mrs x13 x14 x15 x16 mwr x17 mfo, ar_n cI x0 250 t] A) ([.ref o] : List Value).toArray s 0 0 A) (F0 m 0 ls []) := by
    intro K
    induction K with
    | zero =>
      intro a1 H locs ls hk
      exact absurd hk (Nat.not_lt_zero _)
    | succ K ih =>
      intro a1 H locs ls hk hP hD hS hl h1 h2
      refine lv_aload_n hx hb dc_Mo_word_0 rfl (lv_at hl 0 rfl) ?_
      refine va_get (ci := 10) (v := .int (nI a1)) (C := rn_Mo) (T := fd_Mo) (N := 36) hx hb hts in_Mo hown hK hP 0 rfl rfl 3 (by decide) (hts _ wd_749) (fun _ h9 => h9) rfl dc_Mo_word_1 ?_
      refine lv_aload_n hx hb dc_Mo_word_4 rfl (lv_at hl 0 rfl) ?_
      refine va_get (ci := 10) (v := .int (nI mty)) (C := rn_Mo) (T := fd_Mo) (N := 36) hx hb hts in_Mo hown hK hP 0 rfl rfl 1 (by decide) (hts _ wd_747) (fun _ h9 => h9) rfl dc_Mo_word_5 ?_
      refine kn_icmp_ge hx hb (by omega) (by omega) dc_Mo_word_8 rfl (fun hc8 => ?_) (fun hc8 => ?_)
      · have hz1 : a1 = pt_ws t mty mat := by rw [← h1, ws_stop (fun q => by omega)]
        have hwn := ws_le (t := t) hat
        rw [hz1] at hP hD
        refine lv_aload_n hx hb dc_Mo_word_39 rfl (lv_at hl 0 rfl) ?_
        refine lv_aload_n hx hb dc_Mo_word_40 rfl (lv_at hl 0 rfl) ?_
        refine va_get (ci := 10) (v := .int (nI (pt_ws t mty mat))) (C := rn_Mo) (T := fd_Mo) (N := 36) hx hb hts in_Mo hown hK hP 0 rfl rfl 3 (by decide) (hts _ wd_749) (fun _ h9 => h9) rfl dc_Mo_word_41 ?_
        refine va_put (ci := 10) (v := .int (nI (pt_ws t mty mat))) (ty := .int) (C := rn_Mo) (T := fd_Mo) (N := 36) hx hb hts in_Mo ty_Mo tk_Mo nm_Mo hown hK hP hD hS 0 rfl rfl 4 (by decide) (hts _ wd_750) (fun _ h9 => h9) rfl (by decide +kernel) rfl rfl (Nat.le_of_ble_eq_true rfl) dc_Mo_word_44 (fun H locs hP hD hS => ?_)
        have hP : va_P D kc_l [mo_c o mth mty x0 (pt_ws t mty mat) (pt_ws t mty mat) mto mgd mrd x1 x2 x3 mhf mhp mcl mck mba mct x4 x5 x6 x7 x8 mst x9 x10 x11 x12 mtr mrs x13 x14 x15 x16 mwr x17 mfo, ar_n cI x0 250 t] H := hP
        have hD : va_D A [mo_c o mth mty x0 (pt_ws t mty mat) (pt_ws t mty mat) mto mgd mrd x1 x2 x3 mhf mhp mcl mck mba mct x4 x5 x6 x7 x8 mst x9 x10 x11 x12 mtr mrs x13 x14 x15 x16 mwr x17 mfo, ar_n cI x0 250 t] := hD
        have lp_47 : ∀ (K : Nat) (a2 : Nat) (H : Heap) (locs : List Loc) (ls : Array Slot), mty - a2 < K → va_P D kc_l [mo_c o mth mty x0 a2 (pt_ws t mty mat) mto mgd mrd x1 x2 x3 mhf mhp mcl mck mba mct x4 x5 x6 x7 x8 mst x9 x10 x11 x12 mtr mrs x13 x14 x15 x16 mwr x17 mfo, ar_n cI x0 250 t] H → va_D A [mo_c o mth mty x0 a2 (pt_ws t mty mat) mto mgd mrd x1 x2 x3 mhf mhp mcl mck mba mct x4 x5 x6 x7 x8 mst x9 x10 x11 x12 mtr mrs x13 x14 x15 x16 mwr x17 mfo, ar_n cI x0 250 t] → va_S A s.heap H locs → lv_has ls 1 [(0, .ref o)] → (pt_we t mty a2 = pt_zz t mty mat) → (a2 ≤ mty ∧ pt_ws t mty mat ≤ a2) → W p l e ({ frames := 1, cells := 0, slots := 0, locals := 20 } : Room) s m ([.ref o] : List Value).toArray below meth c H locs 0 0 (MQ below (kw_q (some (.int (kb_i (decide (pt_ws t mty mat < pt_zz t mty mat))))) D kc_l [mo_c o mth mty x0 (pt_zz t mty mat) (pt_ws t mty mat) (pt_zz t mty mat) mgd mrd x1 x2 x3 mhf mhp mcl mck mba mct x4 x5 x6 x7 x8 mst x9 x10 x11 x12 mtr mrs x13 x14 x15 x16 mwr x17 mfo, ar_n cI x0 250 t] A) ([.ref o] : List Value).toArray s 0 0 A) (F0 m 47 ls []) := by
          intro K
          induction K with
          | zero =>
            intro a2 H locs ls hk
            exact absurd hk (Nat.not_lt_zero _)
          | succ K ih =>
            intro a2 H locs ls hk hP hD hS hl h3 h4
            refine lv_aload_n hx hb dc_Mo_word_47 rfl (lv_at hl 0 rfl) ?_
            refine va_get (ci := 10) (v := .int (nI a2)) (C := rn_Mo) (T := fd_Mo) (N := 36) hx hb hts in_Mo hown hK hP 0 rfl rfl 3 (by decide) (hts _ wd_749) (fun _ h9 => h9) rfl dc_Mo_word_48 ?_
            refine lv_aload_n hx hb dc_Mo_word_51 rfl (lv_at hl 0 rfl) ?_
            refine va_get (ci := 10) (v := .int (nI mty)) (C := rn_Mo) (T := fd_Mo) (N := 36) hx hb hts in_Mo hown hK hP 0 rfl rfl 1 (by decide) (hts _ wd_747) (fun _ h9 => h9) rfl dc_Mo_word_52 ?_
            refine kn_icmp_ge hx hb (by omega) (by omega) dc_Mo_word_55 rfl (fun hc55 => ?_) (fun hc55 => ?_)
            · have hz2 : a2 = pt_zz t mty mat := by rw [← h3, we_stop (fun q => by omega)]
              rw [hz2] at hP hD h4
              refine lv_aload_n hx hb dc_Mo_word_86 rfl (lv_at hl 0 rfl) ?_
              refine lv_aload_n hx hb dc_Mo_word_87 rfl (lv_at hl 0 rfl) ?_
              refine va_get (ci := 10) (v := .int (nI (pt_zz t mty mat))) (C := rn_Mo) (T := fd_Mo) (N := 36) hx hb hts in_Mo hown hK hP 0 rfl rfl 3 (by decide) (hts _ wd_749) (fun _ h9 => h9) rfl dc_Mo_word_88 ?_
              refine va_put (ci := 10) (v := .int (nI (pt_zz t mty mat))) (ty := .int) (C := rn_Mo) (T := fd_Mo) (N := 36) hx hb hts in_Mo ty_Mo tk_Mo nm_Mo hown hK hP hD hS 0 rfl rfl 5 (by decide) (hts _ wd_751) (fun _ h9 => h9) rfl (by decide +kernel) rfl rfl (Nat.le_of_ble_eq_true rfl) dc_Mo_word_91 (fun H locs hP hD hS => ?_)
              have hP : va_P D kc_l [mo_c o mth mty x0 (pt_zz t mty mat) (pt_ws t mty mat) (pt_zz t mty mat) mgd mrd x1 x2 x3 mhf mhp mcl mck mba mct x4 x5 x6 x7 x8 mst x9 x10 x11 x12 mtr mrs x13 x14 x15 x16 mwr x17 mfo, ar_n cI x0 250 t] H := hP
              have hD : va_D A [mo_c o mth mty x0 (pt_zz t mty mat) (pt_ws t mty mat) (pt_zz t mty mat) mgd mrd x1 x2 x3 mhf mhp mcl mck mba mct x4 x5 x6 x7 x8 mst x9 x10 x11 x12 mtr mrs x13 x14 x15 x16 mwr x17 mfo, ar_n cI x0 250 t] := hD
              refine lv_aload_n hx hb dc_Mo_word_94 rfl (lv_at hl 0 rfl) ?_
              refine va_get (ci := 10) (v := .int (nI (pt_zz t mty mat))) (C := rn_Mo) (T := fd_Mo) (N := 36) hx hb hts in_Mo hown hK hP 0 rfl rfl 5 (by decide) (hts _ wd_751) (fun _ h9 => h9) rfl dc_Mo_word_95 ?_
              refine lv_aload_n hx hb dc_Mo_word_98 rfl (lv_at hl 0 rfl) ?_
              refine va_get (ci := 10) (v := .int (nI (pt_ws t mty mat))) (C := rn_Mo) (T := fd_Mo) (N := 36) hx hb hts in_Mo hown hK hP 0 rfl rfl 4 (by decide) (hts _ wd_750) (fun _ h9 => h9) rfl dc_Mo_word_99 ?_
              refine kn_icmp_le hx hb (by omega) (by omega) dc_Mo_word_102 rfl (fun hc102 => ?_) (fun hc102 => ?_)
              · refine lv_iconst (v := nI 0) hx hb dc_Mo_word_109 (by decide +kernel) ?_
                refine kn_top (y := kb_i false) (by decide +kernel) ?_
                exact kw_zret hx hb hr hlocks hP hD hS dc_Mo_word_110 ((decide_eq_false (by omega)).symm) (rfl)
              · refine lv_iconst (v := nI 1) hx hb dc_Mo_word_105 (by decide +kernel) ?_
                refine lv_goto hx hb dc_Mo_word_106 rfl ?_
                refine kn_top (y := kb_i true) (by decide +kernel) ?_
                exact kw_zret hx hb hr hlocks hP hD hS dc_Mo_word_110 ((decide_eq_true (by omega)).symm) (rfl)
            · refine lv_aload_n hx hb dc_Mo_word_58 rfl (lv_at hl 0 rfl) ?_
              refine va_get (ci := 10) (v := .ref x0) (C := rn_Mo) (T := fd_Mo) (N := 36) hx hb hts in_Mo hown hK hP 0 rfl rfl 2 (by decide) (hts _ wd_748) (fun _ h9 => h9) rfl dc_Mo_word_59 ?_
              refine lv_aload_n hx hb dc_Mo_word_62 rfl (lv_at hl 0 rfl) ?_
              refine va_get (ci := 10) (v := .int (nI a2)) (C := rn_Mo) (T := fd_Mo) (N := 36) hx hb hts in_Mo hown hK hP 0 rfl rfl 3 (by decide) (hts _ wd_749) (fun _ h9 => h9) rfl dc_Mo_word_63 ?_
              refine ka_nald (t := t) hx hb hK hP 1 0 rfl rfl (j := a2) (by omega) (by omega) dc_Mo_word_66 ?_
              refine kr_call1 (va_runS (As := [.int (nI (t a2))]) (rest := []) ⟨hx, hb, hml, hown, hts⟩ (ct_Mo_isGap l D cI cZ _ (t a2) (Nat.lt_trans (ht a2) (by decide))) (cwS 1 hts (kx_gS wd_880 wd_881 wd_9 wd_882) rfl rfl rfl ⟨rfl, yd_Mo_isGap⟩ ⟨Nat.le_of_ble_eq_true rfl, Nat.le_of_ble_eq_true rfl⟩) (kp_S hP hD hK hN [] rfl rfl) rfl rfl hl.1 rfl (lv_room (Nat.le_of_ble_eq_true rfl)) dc_Mo_word_67 ⟨Nat.le_of_ble_eq_true rfl, Nat.le_of_ble_eq_true rfl⟩) ?_
              refine kb_if_ne hx hb dc_Mo_word_70 rfl (fun hc70 => ?_) (fun hc70 => ?_)
              · have hz2 : a2 = pt_zz t mty mat := by rw [← h3, we_stop (fun q => by rw [hc70] at q; exact absurd q.2 (by decide))]
                rw [hz2] at hP hD h4
                refine lv_aload_n hx hb dc_Mo_word_86 rfl (lv_at hl 0 rfl) ?_
                refine lv_aload_n hx hb dc_Mo_word_87 rfl (lv_at hl 0 rfl) ?_
                refine va_get (ci := 10) (v := .int (nI (pt_zz t mty mat))) (C := rn_Mo) (T := fd_Mo) (N := 36) hx hb hts in_Mo hown hK hP 0 rfl rfl 3 (by decide) (hts _ wd_749) (fun _ h9 => h9) rfl dc_Mo_word_88 ?_
                refine va_put (ci := 10) (v := .int (nI (pt_zz t mty mat))) (ty := .int) (C := rn_Mo) (T := fd_Mo) (N := 36) hx hb hts in_Mo ty_Mo tk_Mo nm_Mo hown hK hP hD hS 0 rfl rfl 5 (by decide) (hts _ wd_751) (fun _ h9 => h9) rfl (by decide +kernel) rfl rfl (Nat.le_of_ble_eq_true rfl) dc_Mo_word_91 (fun H locs hP hD hS => ?_)
                have hP : va_P D kc_l [mo_c o mth mty x0 (pt_zz t mty mat) (pt_ws t mty mat) (pt_zz t mty mat) mgd mrd x1 x2 x3 mhf mhp mcl mck mba mct x4 x5 x6 x7 x8 mst x9 x10 x11 x12 mtr mrs x13 x14 x15 x16 mwr x17 mfo, ar_n cI x0 250 t] H := hP
                have hD : va_D A [mo_c o mth mty x0 (pt_zz t mty mat) (pt_ws t mty mat) (pt_zz t mty mat) mgd mrd x1 x2 x3 mhf mhp mcl mck mba mct x4 x5 x6 x7 x8 mst x9 x10 x11 x12 mtr mrs x13 x14 x15 x16 mwr x17 mfo, ar_n cI x0 250 t] := hD
                refine lv_aload_n hx hb dc_Mo_word_94 rfl (lv_at hl 0 rfl) ?_
                refine va_get (ci := 10) (v := .int (nI (pt_zz t mty mat))) (C := rn_Mo) (T := fd_Mo) (N := 36) hx hb hts in_Mo hown hK hP 0 rfl rfl 5 (by decide) (hts _ wd_751) (fun _ h9 => h9) rfl dc_Mo_word_95 ?_
                refine lv_aload_n hx hb dc_Mo_word_98 rfl (lv_at hl 0 rfl) ?_
                refine va_get (ci := 10) (v := .int (nI (pt_ws t mty mat))) (C := rn_Mo) (T := fd_Mo) (N := 36) hx hb hts in_Mo hown hK hP 0 rfl rfl 4 (by decide) (hts _ wd_750) (fun _ h9 => h9) rfl dc_Mo_word_99 ?_
                refine kn_icmp_le hx hb (by omega) (by omega) dc_Mo_word_102 rfl (fun hc102 => ?_) (fun hc102 => ?_)
                · refine lv_iconst (v := nI 0) hx hb dc_Mo_word_109 (by decide +kernel) ?_
                  refine kn_top (y := kb_i false) (by decide +kernel) ?_
                  exact kw_zret hx hb hr hlocks hP hD hS dc_Mo_word_110 ((decide_eq_false (by omega)).symm) (rfl)
                · refine lv_iconst (v := nI 1) hx hb dc_Mo_word_105 (by decide +kernel) ?_
                  refine lv_goto hx hb dc_Mo_word_106 rfl ?_
                  refine kn_top (y := kb_i true) (by decide +kernel) ?_
                  exact kw_zret hx hb hr hlocks hP hD hS dc_Mo_word_110 ((decide_eq_true (by omega)).symm) (rfl)
              · refine lv_aload_n hx hb dc_Mo_word_73 rfl (lv_at hl 0 rfl) ?_
                refine lv_dup hx hb dc_Mo_word_74 rfl ?_
                refine va_get (ci := 10) (v := .int (nI a2)) (C := rn_Mo) (T := fd_Mo) (N := 36) hx hb hts in_Mo hown hK hP 0 rfl rfl 3 (by decide) (hts _ wd_749) (fun _ h9 => h9) rfl dc_Mo_word_75 ?_
                refine lv_iconst (v := nI 1) hx hb dc_Mo_word_78 (by decide +kernel) ?_
                refine kn_iadd hx hb dc_Mo_word_79 ?_
                refine va_put (ci := 10) (v := .int (nI (a2 + 1))) (ty := .int) (C := rn_Mo) (T := fd_Mo) (N := 36) hx hb hts in_Mo ty_Mo tk_Mo nm_Mo hown hK hP hD hS 0 rfl rfl 3 (by decide) (hts _ wd_749) (fun _ h9 => h9) rfl (by decide +kernel) rfl rfl (Nat.le_of_ble_eq_true rfl) dc_Mo_word_80 (fun H locs hP hD hS => ?_)
                have hP : va_P D kc_l [mo_c o mth mty x0 (a2 + 1) (pt_ws t mty mat) mto mgd mrd x1 x2 x3 mhf mhp mcl mck mba mct x4 x5 x6 x7 x8 mst x9 x10 x11 x12 mtr mrs x13 x14 x15 x16 mwr x17 mfo, ar_n cI x0 250 t] H := hP
                have hD : va_D A [mo_c o mth mty x0 (a2 + 1) (pt_ws t mty mat) mto mgd mrd x1 x2 x3 mhf mhp mcl mck mba mct x4 x5 x6 x7 x8 mst x9 x10 x11 x12 mtr mrs x13 x14 x15 x16 mwr x17 mfo, ar_n cI x0 250 t] := hD
                refine lv_goto hx hb dc_Mo_word_83 rfl ?_
                exact ih _ _ _ _ (by omega) hP hD hS hl (by rw [← h3]; exact (we_step (by omega) (by rw [hc70]; rfl)).symm) (⟨by omega, by omega⟩)
        exact lp_47 _ _ _ _ _ (Nat.lt_succ_self _) hP hD hS hl (rfl) (⟨by omega, by omega⟩)
      · refine lv_aload_n hx hb dc_Mo_word_11 rfl (lv_at hl 0 rfl) ?_
        refine va_get (ci := 10) (v := .ref x0) (C := rn_Mo) (T := fd_Mo) (N := 36) hx hb hts in_Mo hown hK hP 0 rfl rfl 2 (by decide) (hts _ wd_748) (fun _ h9 => h9) rfl dc_Mo_word_12 ?_
        refine lv_aload_n hx hb dc_Mo_word_15 rfl (lv_at hl 0 rfl) ?_
        refine va_get (ci := 10) (v := .int (nI a1)) (C := rn_Mo) (T := fd_Mo) (N := 36) hx hb hts in_Mo hown hK hP 0 rfl rfl 3 (by decide) (hts _ wd_749) (fun _ h9 => h9) rfl dc_Mo_word_16 ?_
        refine ka_nald (t := t) hx hb hK hP 1 0 rfl rfl (j := a1) (by omega) (by omega) dc_Mo_word_19 ?_
        refine kr_call1 (va_runS (As := [.int (nI (t a1))]) (rest := []) ⟨hx, hb, hml, hown, hts⟩ (ct_Mo_isGap l D cI cZ _ (t a1) (Nat.lt_trans (ht a1) (by decide))) (cwS 1 hts (kx_gS wd_880 wd_881 wd_9 wd_882) rfl rfl rfl ⟨rfl, yd_Mo_isGap⟩ ⟨Nat.le_of_ble_eq_true rfl, Nat.le_of_ble_eq_true rfl⟩) (kp_S hP hD hK hN [] rfl rfl) rfl rfl hl.1 rfl (lv_room (Nat.le_of_ble_eq_true rfl)) dc_Mo_word_20 ⟨Nat.le_of_ble_eq_true rfl, Nat.le_of_ble_eq_true rfl⟩) ?_
        refine kb_if_eq hx hb dc_Mo_word_23 rfl (fun hc23 => ?_) (fun hc23 => ?_)
        · have hz1 : a1 = pt_ws t mty mat := by rw [← h1, ws_stop (fun q => by rw [hc23] at q; exact absurd q.2 (by decide))]
          have hwn := ws_le (t := t) hat
          rw [hz1] at hP hD
          refine lv_aload_n hx hb dc_Mo_word_39 rfl (lv_at hl 0 rfl) ?_
          refine lv_aload_n hx hb dc_Mo_word_40 rfl (lv_at hl 0 rfl) ?_
          refine va_get (ci := 10) (v := .int (nI (pt_ws t mty mat))) (C := rn_Mo) (T := fd_Mo) (N := 36) hx hb hts in_Mo hown hK hP 0 rfl rfl 3 (by decide) (hts _ wd_749) (fun _ h9 => h9) rfl dc_Mo_word_41 ?_
          refine va_put (ci := 10) (v := .int (nI (pt_ws t mty mat))) (ty := .int) (C := rn_Mo) (T := fd_Mo) (N := 36) hx hb hts in_Mo ty_Mo tk_Mo nm_Mo hown hK hP hD hS 0 rfl rfl 4 (by decide) (hts _ wd_750) (fun _ h9 => h9) rfl (by decide +kernel) rfl rfl (Nat.le_of_ble_eq_true rfl) dc_Mo_word_44 (fun H locs hP hD hS => ?_)
          have hP : va_P D kc_l [mo_c o mth mty x0 (pt_ws t mty mat) (pt_ws t mty mat) mto mgd mrd x1 x2 x3 mhf mhp mcl mck mba mct x4 x5 x6 x7 x8 mst x9 x10 x11 x12 mtr mrs x13 x14 x15 x16 mwr x17 mfo, ar_n cI x0 250 t] H := hP
          have hD : va_D A [mo_c o mth mty x0 (pt_ws t mty mat) (pt_ws t mty mat) mto mgd mrd x1 x2 x3 mhf mhp mcl mck mba mct x4 x5 x6 x7 x8 mst x9 x10 x11 x12 mtr mrs x13 x14 x15 x16 mwr x17 mfo, ar_n cI x0 250 t] := hD
          have lp_47 : ∀ (K : Nat) (a2 : Nat) (H : Heap) (locs : List Loc) (ls : Array Slot), mty - a2 < K → va_P D kc_l [mo_c o mth mty x0 a2 (pt_ws t mty mat) mto mgd mrd x1 x2 x3 mhf mhp mcl mck mba mct x4 x5 x6 x7 x8 mst x9 x10 x11 x12 mtr mrs x13 x14 x15 x16 mwr x17 mfo, ar_n cI x0 250 t] H → va_D A [mo_c o mth mty x0 a2 (pt_ws t mty mat) mto mgd mrd x1 x2 x3 mhf mhp mcl mck mba mct x4 x5 x6 x7 x8 mst x9 x10 x11 x12 mtr mrs x13 x14 x15 x16 mwr x17 mfo, ar_n cI x0 250 t] → va_S A s.heap H locs → lv_has ls 1 [(0, .ref o)] → (pt_we t mty a2 = pt_zz t mty mat) → (a2 ≤ mty ∧ pt_ws t mty mat ≤ a2) → W p l e ({ frames := 1, cells := 0, slots := 0, locals := 20 } : Room) s m ([.ref o] : List Value).toArray below meth c H locs 0 0 (MQ below (kw_q (some (.int (kb_i (decide (pt_ws t mty mat < pt_zz t mty mat))))) D kc_l [mo_c o mth mty x0 (pt_zz t mty mat) (pt_ws t mty mat) (pt_zz t mty mat) mgd mrd x1 x2 x3 mhf mhp mcl mck mba mct x4 x5 x6 x7 x8 mst x9 x10 x11 x12 mtr mrs x13 x14 x15 x16 mwr x17 mfo, ar_n cI x0 250 t] A) ([.ref o] : List Value).toArray s 0 0 A) (F0 m 47 ls []) := by
            intro K
            induction K with
            | zero =>
              intro a2 H locs ls hk
              exact absurd hk (Nat.not_lt_zero _)
            | succ K ih =>
              intro a2 H locs ls hk hP hD hS hl h3 h4
              refine lv_aload_n hx hb dc_Mo_word_47 rfl (lv_at hl 0 rfl) ?_
              refine va_get (ci := 10) (v := .int (nI a2)) (C := rn_Mo) (T := fd_Mo) (N := 36) hx hb hts in_Mo hown hK hP 0 rfl rfl 3 (by decide) (hts _ wd_749) (fun _ h9 => h9) rfl dc_Mo_word_48 ?_
              refine lv_aload_n hx hb dc_Mo_word_51 rfl (lv_at hl 0 rfl) ?_
              refine va_get (ci := 10) (v := .int (nI mty)) (C := rn_Mo) (T := fd_Mo) (N := 36) hx hb hts in_Mo hown hK hP 0 rfl rfl 1 (by decide) (hts _ wd_747) (fun _ h9 => h9) rfl dc_Mo_word_52 ?_
              refine kn_icmp_ge hx hb (by omega) (by omega) dc_Mo_word_55 rfl (fun hc55 => ?_) (fun hc55 => ?_)
              · have hz2 : a2 = pt_zz t mty mat := by rw [← h3, we_stop (fun q => by omega)]
                rw [hz2] at hP hD h4
                refine lv_aload_n hx hb dc_Mo_word_86 rfl (lv_at hl 0 rfl) ?_
                refine lv_aload_n hx hb dc_Mo_word_87 rfl (lv_at hl 0 rfl) ?_
                refine va_get (ci := 10) (v := .int (nI (pt_zz t mty mat))) (C := rn_Mo) (T := fd_Mo) (N := 36) hx hb hts in_Mo hown hK hP 0 rfl rfl 3 (by decide) (hts _ wd_749) (fun _ h9 => h9) rfl dc_Mo_word_88 ?_
                refine va_put (ci := 10) (v := .int (nI (pt_zz t mty mat))) (ty := .int) (C := rn_Mo) (T := fd_Mo) (N := 36) hx hb hts in_Mo ty_Mo tk_Mo nm_Mo hown hK hP hD hS 0 rfl rfl 5 (by decide) (hts _ wd_751) (fun _ h9 => h9) rfl (by decide +kernel) rfl rfl (Nat.le_of_ble_eq_true rfl) dc_Mo_word_91 (fun H locs hP hD hS => ?_)
                have hP : va_P D kc_l [mo_c o mth mty x0 (pt_zz t mty mat) (pt_ws t mty mat) (pt_zz t mty mat) mgd mrd x1 x2 x3 mhf mhp mcl mck mba mct x4 x5 x6 x7 x8 mst x9 x10 x11 x12 mtr mrs x13 x14 x15 x16 mwr x17 mfo, ar_n cI x0 250 t] H := hP
                have hD : va_D A [mo_c o mth mty x0 (pt_zz t mty mat) (pt_ws t mty mat) (pt_zz t mty mat) mgd mrd x1 x2 x3 mhf mhp mcl mck mba mct x4 x5 x6 x7 x8 mst x9 x10 x11 x12 mtr mrs x13 x14 x15 x16 mwr x17 mfo, ar_n cI x0 250 t] := hD
                refine lv_aload_n hx hb dc_Mo_word_94 rfl (lv_at hl 0 rfl) ?_
                refine va_get (ci := 10) (v := .int (nI (pt_zz t mty mat))) (C := rn_Mo) (T := fd_Mo) (N := 36) hx hb hts in_Mo hown hK hP 0 rfl rfl 5 (by decide) (hts _ wd_751) (fun _ h9 => h9) rfl dc_Mo_word_95 ?_
                refine lv_aload_n hx hb dc_Mo_word_98 rfl (lv_at hl 0 rfl) ?_
                refine va_get (ci := 10) (v := .int (nI (pt_ws t mty mat))) (C := rn_Mo) (T := fd_Mo) (N := 36) hx hb hts in_Mo hown hK hP 0 rfl rfl 4 (by decide) (hts _ wd_750) (fun _ h9 => h9) rfl dc_Mo_word_99 ?_
                refine kn_icmp_le hx hb (by omega) (by omega) dc_Mo_word_102 rfl (fun hc102 => ?_) (fun hc102 => ?_)
                · refine lv_iconst (v := nI 0) hx hb dc_Mo_word_109 (by decide +kernel) ?_
                  refine kn_top (y := kb_i false) (by decide +kernel) ?_
                  exact kw_zret hx hb hr hlocks hP hD hS dc_Mo_word_110 ((decide_eq_false (by omega)).symm) (rfl)
                · refine lv_iconst (v := nI 1) hx hb dc_Mo_word_105 (by decide +kernel) ?_
                  refine lv_goto hx hb dc_Mo_word_106 rfl ?_
                  refine kn_top (y := kb_i true) (by decide +kernel) ?_
                  exact kw_zret hx hb hr hlocks hP hD hS dc_Mo_word_110 ((decide_eq_true (by omega)).symm) (rfl)
              · refine lv_aload_n hx hb dc_Mo_word_58 rfl (lv_at hl 0 rfl) ?_
                refine va_get (ci := 10) (v := .ref x0) (C := rn_Mo) (T := fd_Mo) (N := 36) hx hb hts in_Mo hown hK hP 0 rfl rfl 2 (by decide) (hts _ wd_748) (fun _ h9 => h9) rfl dc_Mo_word_59 ?_
                refine lv_aload_n hx hb dc_Mo_word_62 rfl (lv_at hl 0 rfl) ?_
                refine va_get (ci := 10) (v := .int (nI a2)) (C := rn_Mo) (T := fd_Mo) (N := 36) hx hb hts in_Mo hown hK hP 0 rfl rfl 3 (by decide) (hts _ wd_749) (fun _ h9 => h9) rfl dc_Mo_word_63 ?_
                refine ka_nald (t := t) hx hb hK hP 1 0 rfl rfl (j := a2) (by omega) (by omega) dc_Mo_word_66 ?_
                refine kr_call1 (va_runS (As := [.int (nI (t a2))]) (rest := []) ⟨hx, hb, hml, hown, hts⟩ (ct_Mo_isGap l D cI cZ _ (t a2) (Nat.lt_trans (ht a2) (by decide))) (cwS 1 hts (kx_gS wd_880 wd_881 wd_9 wd_882) rfl rfl rfl ⟨rfl, yd_Mo_isGap⟩ ⟨Nat.le_of_ble_eq_true rfl, Nat.le_of_ble_eq_true rfl⟩) (kp_S hP hD hK hN [] rfl rfl) rfl rfl hl.1 rfl (lv_room (Nat.le_of_ble_eq_true rfl)) dc_Mo_word_67 ⟨Nat.le_of_ble_eq_true rfl, Nat.le_of_ble_eq_true rfl⟩) ?_
                refine kb_if_ne hx hb dc_Mo_word_70 rfl (fun hc70 => ?_) (fun hc70 => ?_)
                · have hz2 : a2 = pt_zz t mty mat := by rw [← h3, we_stop (fun q => by rw [hc70] at q; exact absurd q.2 (by decide))]
                  rw [hz2] at hP hD h4
                  refine lv_aload_n hx hb dc_Mo_word_86 rfl (lv_at hl 0 rfl) ?_
                  refine lv_aload_n hx hb dc_Mo_word_87 rfl (lv_at hl 0 rfl) ?_
                  refine va_get (ci := 10) (v := .int (nI (pt_zz t mty mat))) (C := rn_Mo) (T := fd_Mo) (N := 36) hx hb hts in_Mo hown hK hP 0 rfl rfl 3 (by decide) (hts _ wd_749) (fun _ h9 => h9) rfl dc_Mo_word_88 ?_
                  refine va_put (ci := 10) (v := .int (nI (pt_zz t mty mat))) (ty := .int) (C := rn_Mo) (T := fd_Mo) (N := 36) hx hb hts in_Mo ty_Mo tk_Mo nm_Mo hown hK hP hD hS 0 rfl rfl 5 (by decide) (hts _ wd_751) (fun _ h9 => h9) rfl (by decide +kernel) rfl rfl (Nat.le_of_ble_eq_true rfl) dc_Mo_word_91 (fun H locs hP hD hS => ?_)
                  have hP : va_P D kc_l [mo_c o mth mty x0 (pt_zz t mty mat) (pt_ws t mty mat) (pt_zz t mty mat) mgd mrd x1 x2 x3 mhf mhp mcl mck mba mct x4 x5 x6 x7 x8 mst x9 x10 x11 x12 mtr mrs x13 x14 x15 x16 mwr x17 mfo, ar_n cI x0 250 t] H := hP
                  have hD : va_D A [mo_c o mth mty x0 (pt_zz t mty mat) (pt_ws t mty mat) (pt_zz t mty mat) mgd mrd x1 x2 x3 mhf mhp mcl mck mba mct x4 x5 x6 x7 x8 mst x9 x10 x11 x12 mtr mrs x13 x14 x15 x16 mwr x17 mfo, ar_n cI x0 250 t] := hD
                  refine lv_aload_n hx hb dc_Mo_word_94 rfl (lv_at hl 0 rfl) ?_
                  refine va_get (ci := 10) (v := .int (nI (pt_zz t mty mat))) (C := rn_Mo) (T := fd_Mo) (N := 36) hx hb hts in_Mo hown hK hP 0 rfl rfl 5 (by decide) (hts _ wd_751) (fun _ h9 => h9) rfl dc_Mo_word_95 ?_
                  refine lv_aload_n hx hb dc_Mo_word_98 rfl (lv_at hl 0 rfl) ?_
                  refine va_get (ci := 10) (v := .int (nI (pt_ws t mty mat))) (C := rn_Mo) (T := fd_Mo) (N := 36) hx hb hts in_Mo hown hK hP 0 rfl rfl 4 (by decide) (hts _ wd_750) (fun _ h9 => h9) rfl dc_Mo_word_99 ?_
                  refine kn_icmp_le hx hb (by omega) (by omega) dc_Mo_word_102 rfl (fun hc102 => ?_) (fun hc102 => ?_)
                  · refine lv_iconst (v := nI 0) hx hb dc_Mo_word_109 (by decide +kernel) ?_
                    refine kn_top (y := kb_i false) (by decide +kernel) ?_
                    exact kw_zret hx hb hr hlocks hP hD hS dc_Mo_word_110 ((decide_eq_false (by omega)).symm) (rfl)
                  · refine lv_iconst (v := nI 1) hx hb dc_Mo_word_105 (by decide +kernel) ?_
                    refine lv_goto hx hb dc_Mo_word_106 rfl ?_
                    refine kn_top (y := kb_i true) (by decide +kernel) ?_
                    exact kw_zret hx hb hr hlocks hP hD hS dc_Mo_word_110 ((decide_eq_true (by omega)).symm) (rfl)
                · refine lv_aload_n hx hb dc_Mo_word_73 rfl (lv_at hl 0 rfl) ?_
                  refine lv_dup hx hb dc_Mo_word_74 rfl ?_
                  refine va_get (ci := 10) (v := .int (nI a2)) (C := rn_Mo) (T := fd_Mo) (N := 36) hx hb hts in_Mo hown hK hP 0 rfl rfl 3 (by decide) (hts _ wd_749) (fun _ h9 => h9) rfl dc_Mo_word_75 ?_
                  refine lv_iconst (v := nI 1) hx hb dc_Mo_word_78 (by decide +kernel) ?_
                  refine kn_iadd hx hb dc_Mo_word_79 ?_
                  refine va_put (ci := 10) (v := .int (nI (a2 + 1))) (ty := .int) (C := rn_Mo) (T := fd_Mo) (N := 36) hx hb hts in_Mo ty_Mo tk_Mo nm_Mo hown hK hP hD hS 0 rfl rfl 3 (by decide) (hts _ wd_749) (fun _ h9 => h9) rfl (by decide +kernel) rfl rfl (Nat.le_of_ble_eq_true rfl) dc_Mo_word_80 (fun H locs hP hD hS => ?_)
                  have hP : va_P D kc_l [mo_c o mth mty x0 (a2 + 1) (pt_ws t mty mat) mto mgd mrd x1 x2 x3 mhf mhp mcl mck mba mct x4 x5 x6 x7 x8 mst x9 x10 x11 x12 mtr mrs x13 x14 x15 x16 mwr x17 mfo, ar_n cI x0 250 t] H := hP
                  have hD : va_D A [mo_c o mth mty x0 (a2 + 1) (pt_ws t mty mat) mto mgd mrd x1 x2 x3 mhf mhp mcl mck mba mct x4 x5 x6 x7 x8 mst x9 x10 x11 x12 mtr mrs x13 x14 x15 x16 mwr x17 mfo, ar_n cI x0 250 t] := hD
                  refine lv_goto hx hb dc_Mo_word_83 rfl ?_
                  exact ih _ _ _ _ (by omega) hP hD hS hl (by rw [← h3]; exact (we_step (by omega) (by rw [hc70]; rfl)).symm) (⟨by omega, by omega⟩)
          exact lp_47 _ _ _ _ _ (Nat.lt_succ_self _) hP hD hS hl (rfl) (⟨by omega, by omega⟩)
        · refine lv_aload_n hx hb dc_Mo_word_26 rfl (lv_at hl 0 rfl) ?_
          refine lv_dup hx hb dc_Mo_word_27 rfl ?_
          refine va_get (ci := 10) (v := .int (nI a1)) (C := rn_Mo) (T := fd_Mo) (N := 36) hx hb hts in_Mo hown hK hP 0 rfl rfl 3 (by decide) (hts _ wd_749) (fun _ h9 => h9) rfl dc_Mo_word_28 ?_
          refine lv_iconst (v := nI 1) hx hb dc_Mo_word_31 (by decide +kernel) ?_
          refine kn_iadd hx hb dc_Mo_word_32 ?_
          refine va_put (ci := 10) (v := .int (nI (a1 + 1))) (ty := .int) (C := rn_Mo) (T := fd_Mo) (N := 36) hx hb hts in_Mo ty_Mo tk_Mo nm_Mo hown hK hP hD hS 0 rfl rfl 3 (by decide) (hts _ wd_749) (fun _ h9 => h9) rfl (by decide +kernel) rfl rfl (Nat.le_of_ble_eq_true rfl) dc_Mo_word_33 (fun H locs hP hD hS => ?_)
          have hP : va_P D kc_l [mo_c o mth mty x0 (a1 + 1) mfr mto mgd mrd x1 x2 x3 mhf mhp mcl mck mba mct x4 x5 x6 x7 x8 mst x9 x10 x11 x12 mtr mrs x13 x14 x15 x16 mwr x17 mfo, ar_n cI x0 250 t] H := hP
          have hD : va_D A [mo_c o mth mty x0 (a1 + 1) mfr mto mgd mrd x1 x2 x3 mhf mhp mcl mck mba mct x4 x5 x6 x7 x8 mst x9 x10 x11 x12 mtr mrs x13 x14 x15 x16 mwr x17 mfo, ar_n cI x0 250 t] := hD
          refine lv_goto hx hb dc_Mo_word_36 rfl ?_
          exact ih _ _ _ _ (by omega) hP hD hS hl (by rw [← h1]; exact (ws_step (by omega) hc23).symm) (by omega)
  exact lp_0 _ _ _ _ _ (Nat.lt_succ_self _) hP hD hS hl (rfl) (hat)

set_option maxHeartbeats 4000000 in
set_option maxRecDepth 100000 in
theorem ct_Mo_opposite (l : Launch) (D : va_G) (cI cZ : ClassId) (sz : Nat) (x : Nat) (hx16 : x < 65536) : Met l yn_Mo_opposite (Cond.code yn_Mo_opposite bc_Mo_opposite 1 (some .int) :: kx_all) ({ frames := 0, cells := 0, slots := 0, locals := 0 } : Room) (kp [.int (nI x)] D cI cZ [] sz) (kr_q (some (.int (nI (nb_op x))))) 0 0 (fun _ => False) := by
  refine kx_met (by decide) (Nat.le_of_ble_eq_true rfl) ?_
  intro p e s m below meth c ls hx hb hr hml hts hown hlocks hin hsz hP hK hD hN hl
  have hown : s.vm.findClass rn_Mo = some m.cls := hown
  have hl : lv_has ls 1 [(0, .int (nI x))] := hl
  refine lv_iload_n hx hb dc_Mo_opposite_0 rfl (lv_at hl 0 rfl) ?_
  refine lv_sipush (v := nI 255) hx hb dc_Mo_opposite_1 (by decide +kernel) ?_
  refine lv_iand hx hb dc_Mo_opposite_4 ?_
  refine lv_bipush (v := nI 8) hx hb dc_Mo_opposite_5 (by decide +kernel) ?_
  refine lv_ishl hx hb dc_Mo_opposite_7 ?_
  refine lv_iload_n hx hb dc_Mo_opposite_8 rfl (lv_at hl 0 rfl) ?_
  refine lv_bipush (v := nI 8) hx hb dc_Mo_opposite_9 (by decide +kernel) ?_
  refine lv_ishr hx hb dc_Mo_opposite_11 ?_
  refine lv_ior hx hb dc_Mo_opposite_12 ?_
  refine kn_top (y := nI (nb_op x)) (nb_op_j hx16) ?_
  exact kr_iret hx hb hr hlocks dc_Mo_opposite_13 (rfl)

set_option maxHeartbeats 4000000 in
set_option maxRecDepth 100000 in
theorem ct_Mo_bitOf (l : Launch) (D : va_G) (cI cZ : ClassId) (sz : Nat) (b : Nat) (hb16 : b < 16) : Met l yn_Mo_bitOf (Cond.code yn_Mo_bitOf bc_Mo_bitOf 1 (some .int) :: kx_all) ({ frames := 0, cells := 0, slots := 0, locals := 0 } : Room) (kp [.int (pt_lit b)] D cI cZ [] sz) (kr_q (some (.int (nI (2 ^ b))))) 0 0 (fun _ => False) := by
  refine kx_met (by decide) (Nat.le_of_ble_eq_true rfl) ?_
  intro p e s m below meth c ls hx hb hr hml hts hown hlocks hin hsz hP hK hD hN hl
  have hown : s.vm.findClass rn_Mo = some m.cls := hown
  have hl : lv_has ls 1 [(0, .int (pt_lit b))] := hl
  by_cases h8 : b < 8
  · refine lv_iload_n hx hb dc_Mo_bitOf_0 rfl (lv_at hl 0 rfl) ?_
    refine lv_if_le hx hb dc_Mo_bitOf_1 rfl (fun hc1 => ?_) (fun hc1 => ?_)
    · exact absurd hc1 (pt_lit_pos b h8)
    · refine lv_iconst (v := nI 1) hx hb dc_Mo_bitOf_4 (by decide +kernel) ?_
      refine lv_iload_n hx hb dc_Mo_bitOf_5 rfl (lv_at hl 0 rfl) ?_
      refine lv_iconst (v := nI 1) hx hb dc_Mo_bitOf_6 (by decide +kernel) ?_
      refine lv_isub hx hb dc_Mo_bitOf_7 ?_
      refine kn_top (y := nI b) (pt_lit_p1 b h8) ?_
      refine lv_ishl hx hb dc_Mo_bitOf_8 ?_
      refine kn_top (y := nI (2 ^ b)) (nb_shl1 b (by omega)) ?_
      refine lv_goto hx hb dc_Mo_bitOf_9 rfl ?_
      exact kr_iret hx hb hr hlocks dc_Mo_bitOf_18 (rfl)
  · refine lv_iload_n hx hb dc_Mo_bitOf_0 rfl (lv_at hl 0 rfl) ?_
    refine lv_if_le hx hb dc_Mo_bitOf_1 rfl (fun hc1 => ?_) (fun hc1 => ?_)
    · refine lv_iconst (v := nI 1) hx hb dc_Mo_bitOf_12 (by decide +kernel) ?_
      refine lv_bipush (v := nI 7) hx hb dc_Mo_bitOf_13 (by decide +kernel) ?_
      refine lv_iload_n hx hb dc_Mo_bitOf_15 rfl (lv_at hl 0 rfl) ?_
      refine lv_isub hx hb dc_Mo_bitOf_16 ?_
      refine kn_top (y := nI b) (pt_lit_7 b hb16 h8) ?_
      refine lv_ishl hx hb dc_Mo_bitOf_17 ?_
      refine kn_top (y := nI (2 ^ b)) (nb_shl1 b (by omega)) ?_
      exact kr_iret hx hb hr hlocks dc_Mo_bitOf_18 (rfl)
    · exact absurd (pt_lit_neg b hb16 h8) hc1

theorem sh_k : ∀ k, k < 16 → ((nI k &&& 31).toBitVec.smod 32).toNat = k := by decide +kernel
set_option maxHeartbeats 4000000 in
set_option maxRecDepth 100000 in
theorem ct_Mo_bits (l : Launch) (D : va_G) (cI cZ : ClassId) (sz : Nat) (x : Nat) (hx16 : x < 65536) : Met l yn_Mo_bits (Cond.code yn_Mo_bits bc_Mo_bits 3 (some .int) :: kx_all) ({ frames := 0, cells := 0, slots := 0, locals := 0 } : Room) (kp [.int (nI x)] D cI cZ [] sz) (kr_q (some (.int (nI (pt_bits x 16))))) 0 0 (fun _ => False) := by
  refine kx_met (by decide) (Nat.le_of_ble_eq_true rfl) ?_
  intro p e s m below meth c ls hx hb hr hml hts hown hlocks hin hsz hP hK hD hN hl
  have hown : s.vm.findClass rn_Mo = some m.cls := hown
  have hl : lv_has ls 3 [(0, .int (nI x))] := hl
  refine lv_iconst (v := nI 0) hx hb dc_Mo_bits_0 (by decide +kernel) ?_
  refine lv_istore_n (lv' := [(1, .int (nI 0)), (0, .int (nI x))]) hx hb dc_Mo_bits_1 rfl hl (by decide) rfl (fun ls hl => ?_)
  refine lv_iconst (v := nI 0) hx hb dc_Mo_bits_2 (by decide +kernel) ?_
  refine lv_istore_n (lv' := [(2, .int (nI 0)), (1, .int (nI 0)), (0, .int (nI x))]) hx hb dc_Mo_bits_3 rfl hl (by decide) rfl (fun ls hl => ?_)
  have lp_4 : ∀ (K : Nat) (k : Nat) (ls : Array Slot), 16 - k < K → lv_has ls 3 [(2, .int (nI k)), (1, .int (nI (pt_bits x k))), (0, .int (nI x))] → (k ≤ 16) → W p l e ({ frames := 0, cells := 0, slots := 0, locals := 0 } : Room) s m ([.int (nI x)] : List Value).toArray below meth c s.heap [] 0 0 (MQ below (kr_q (some (.int (nI (pt_bits x 16))))) ([.int (nI x)] : List Value).toArray s 0 0 (fun _ => False)) (F0 m 4 ls []) := by
    intro K
    induction K with
    | zero =>
      intro k ls hk
      exact absurd hk (Nat.not_lt_zero _)
    | succ K ih =>
      intro k ls hk hl h2
      refine lv_iload_n hx hb dc_Mo_bits_4 rfl (lv_at hl 0 rfl) ?_
      refine lv_bipush (v := nI 16) hx hb dc_Mo_bits_5 (by decide +kernel) ?_
      refine kn_icmp_ge hx hb (by omega) (by omega) dc_Mo_bits_7 rfl (fun hc7 => ?_) (fun hc7 => ?_)
      · refine lv_iload_n hx hb dc_Mo_bits_24 rfl (lv_at hl 1 rfl) ?_
        exact kr_iret hx hb hr hlocks dc_Mo_bits_25 (by rw [show k = 16 by omega])
      · refine lv_iload_n hx hb dc_Mo_bits_10 rfl (lv_at hl 1 rfl) ?_
        refine lv_iload_n hx hb dc_Mo_bits_11 rfl (lv_at hl 2 rfl) ?_
        refine lv_iload_n hx hb dc_Mo_bits_12 rfl (lv_at hl 0 rfl) ?_
        refine lv_ishr hx hb dc_Mo_bits_13 ?_
        refine kn_top (y := nI (x / 2 ^ k)) (pk_shrN (k := k) (by omega) _ (sh_k k (by omega))) ?_
        refine lv_iconst (v := nI 1) hx hb dc_Mo_bits_14 (by decide +kernel) ?_
        refine kn_iand hx hb dc_Mo_bits_15 ?_
        refine kn_top (y := nI (x / 2 ^ k % 2)) (congrArg nI (Nat.and_two_pow_sub_one_eq_mod _ 1)) ?_
        refine kn_iadd hx hb dc_Mo_bits_16 ?_
        refine lv_istore_n (lv' := [(1, .int (nI ((pt_bits x k) + (x / 2 ^ k % 2)))), (2, .int (nI k)), (0, .int (nI x))]) hx hb dc_Mo_bits_17 rfl hl (by decide) rfl (fun ls hl => ?_)
        refine lv_iinc (k := 1) (v := nI (k + 1)) (lv' := [(2, .int (nI (k + 1))), (1, .int (nI ((pt_bits x k) + (x / 2 ^ k % 2)))), (0, .int (nI x))]) hx hb dc_Mo_bits_18 hl rfl (nI_1 _) (by decide) rfl (fun ls hl => ?_)
        refine lv_goto hx hb dc_Mo_bits_21 rfl ?_
        exact ih _ _ (by omega) hl (by omega)
  exact lp_4 _ _ _ (Nat.lt_succ_self _) hl (by omega)

set_option maxHeartbeats 4000000 in
set_option maxRecDepth 100000 in
theorem ct_Mo_open (l : Launch) (D : va_G) (cI cZ : ClassId) (sz : Nat) (o : Nat) (mth : Nat) (mty : Nat) (x0 : Nat) (mat : Nat) (mfr : Nat) (mto : Nat) (mgd : Bool) (mrd : Nat) (x1 : Nat) (x2 : Nat) (x3 : Nat) (mhf : Bool) (mhp : Bool) (mcl : Bool) (mck : Bool) (mba : Nat) (mct : Nat) (x4 : Nat) (x5 : Nat) (x6 : Nat) (x7 : Nat) (x8 : Nat) (mst : Nat) (x9 : Nat) (x10 : Nat) (x11 : Nat) (x12 : Nat) (mtr : Nat) (mrs : Nat) (x13 : Nat) (x14 : Nat) (x15 : Nat) (x16 : Nat) (mwr : Nat) (x17 : Nat) (mfo : Nat) (fs : Nat → Nat) (j : Nat) (ht16 : mtr < 65536) (hj : j < 33) : Met l yn_Mo_open (Cond.code yn_Mo_open bc_Mo_open 2 (some .int) :: kx_all) ({ frames := 1, cells := 0, slots := 0, locals := 20 } : Room) (kp [.ref o, .int (nI j)] D cI cZ [mo_c o mth mty x0 mat mfr mto mgd mrd x1 x2 x3 mhf mhp mcl mck mba mct x4 x5 x6 x7 x8 mst x9 x10 x11 x12 mtr mrs x13 x14 x15 x16 mwr x17 mfo, ar_n cI x4 33 fs] sz) (kr_q (some (.int (nI (nb_d (fs j) (mtr ||| nb_op mtr)))))) 0 0 (fun _ => False) := by
  refine kx_met (by decide) (Nat.le_of_ble_eq_true rfl) ?_
  intro p e s m below meth c ls hx hb hr hml hts hown hlocks hin hsz hP hK hD hN hl
  have hown : s.vm.findClass rn_Mo = some m.cls := hown
  have hl : lv_has ls 2 [(0, .ref o), (1, .int (nI j))] := hl
  refine lv_aload_n hx hb dc_Mo_open_0 rfl (lv_at hl 0 rfl) ?_
  refine va_get (ci := 10) (v := .ref x4) (C := rn_Mo) (T := fd_Mo) (N := 36) hx hb hts in_Mo hown hK hP 0 rfl rfl 17 (by decide) (hts _ wd_763) (fun _ h9 => h9) rfl dc_Mo_open_1 ?_
  refine lv_iload_n hx hb dc_Mo_open_4 rfl (lv_at hl 1 rfl) ?_
  refine ka_nald (t := fs) hx hb hK hP 1 0 rfl rfl (j := j) (by omega) (by omega) dc_Mo_open_5 ?_
  refine lv_aload_n hx hb dc_Mo_open_6 rfl (lv_at hl 0 rfl) ?_
  refine va_get (ci := 10) (v := .int (nI mtr)) (C := rn_Mo) (T := fd_Mo) (N := 36) hx hb hts in_Mo hown hK hP 0 rfl rfl 27 (by decide) (hts _ wd_773) (fun _ h9 => h9) rfl dc_Mo_open_7 ?_
  refine lv_aload_n hx hb dc_Mo_open_10 rfl (lv_at hl 0 rfl) ?_
  refine va_get (ci := 10) (v := .int (nI mtr)) (C := rn_Mo) (T := fd_Mo) (N := 36) hx hb hts in_Mo hown hK hP 0 rfl rfl 27 (by decide) (hts _ wd_773) (fun _ h9 => h9) rfl dc_Mo_open_11 ?_
  refine kr_call1 (va_runS (As := [.int (nI mtr)]) (rest := [.int (nI mtr), .int (nI (fs j))]) ⟨hx, hb, hml, hown, hts⟩ (ct_Mo_opposite l D cI cZ _ mtr (ht16)) (cwS 1 hts (kx_gS wd_946 wd_947 wd_9 wd_948) rfl rfl rfl ⟨rfl, yd_Mo_opposite⟩ ⟨Nat.le_of_ble_eq_true rfl, Nat.le_of_ble_eq_true rfl⟩) (kp_S hP hD hK hN [] rfl rfl) rfl rfl hl.1 rfl (lv_room (Nat.le_of_ble_eq_true rfl)) dc_Mo_open_14 ⟨Nat.le_of_ble_eq_true rfl, Nat.le_of_ble_eq_true rfl⟩) ?_
  refine kn_ior hx hb dc_Mo_open_17 ?_
  refine lv_iconst (v := (-1)) hx hb dc_Mo_open_18 (by decide +kernel) ?_
  refine lv_ixor hx hb dc_Mo_open_19 ?_
  refine kn_inot hx hb dc_Mo_open_20 ?_
  exact kr_iret hx hb hr hlocks dc_Mo_open_21 (rfl)

set_option maxHeartbeats 4000000 in
set_option maxRecDepth 100000 in
theorem ct_Mo_isClause (l : Launch) (D : va_G) (cI cZ : ClassId) (sz : Nat) (o : Nat) (mth : Nat) (mty : Nat) (x0 : Nat) (mat : Nat) (mfr : Nat) (mto : Nat) (mgd : Bool) (mrd : Nat) (x1 : Nat) (x2 : Nat) (x3 : Nat) (mhf : Bool) (mhp : Bool) (mcl : Bool) (mck : Bool) (mba : Nat) (mct : Nat) (x4 : Nat) (x5 : Nat) (x6 : Nat) (x7 : Nat) (x8 : Nat) (mst : Nat) (x9 : Nat) (x10 : Nat) (x11 : Nat) (x12 : Nat) (mtr : Nat) (mrs : Nat) (x13 : Nat) (x14 : Nat) (x15 : Nat) (x16 : Nat) (mwr : Nat) (x17 : Nat) (mfo : Nat) (j : Nat) (hn : mct < 2 ^ 31) (hj : j < 2 ^ 31) : Met l yn_Mo_isClause (Cond.code yn_Mo_isClause bc_Mo_isClause 2 (some .boolean) :: kx_all) ({ frames := 0, cells := 0, slots := 0, locals := 0 } : Room) (kp [.ref o, .int (nI j)] D cI cZ [mo_c o mth mty x0 mat mfr mto mgd mrd x1 x2 x3 mhf mhp mcl mck mba mct x4 x5 x6 x7 x8 mst x9 x10 x11 x12 mtr mrs x13 x14 x15 x16 mwr x17 mfo] sz) (kr_q (some (.int (kb_i (decide (1 ≤ j ∧ j ≤ mct)))))) 0 0 (fun _ => False) := by
  refine kx_met (by decide) (Nat.le_of_ble_eq_true rfl) ?_
  intro p e s m below meth c ls hx hb hr hml hts hown hlocks hin hsz hP hK hD hN hl
  have hown : s.vm.findClass rn_Mo = some m.cls := hown
  have hl : lv_has ls 2 [(0, .ref o), (1, .int (nI j))] := hl
  refine lv_iload_n hx hb dc_Mo_isClause_0 rfl (lv_at hl 1 rfl) ?_
  refine lv_if_le hx hb dc_Mo_isClause_1 rfl (fun hc1 => ?_) (fun hc1 => ?_)
  · refine lv_iconst (v := nI 0) hx hb dc_Mo_isClause_16 (by decide +kernel) ?_
    refine kn_top (y := kb_i false) (by decide +kernel) ?_
    exact kr_zret hx hb hr hlocks dc_Mo_isClause_17 ((decide_eq_false (fun q => nI_nle (n := j) (by omega) hj hc1)).symm)
  · refine lv_iload_n hx hb dc_Mo_isClause_4 rfl (lv_at hl 1 rfl) ?_
    refine lv_aload_n hx hb dc_Mo_isClause_5 rfl (lv_at hl 0 rfl) ?_
    refine va_get (ci := 10) (v := .int (nI mct)) (C := rn_Mo) (T := fd_Mo) (N := 36) hx hb hts in_Mo hown hK hP 0 rfl rfl 16 (by decide) (hts _ wd_762) (fun _ h9 => h9) rfl dc_Mo_isClause_6 ?_
    refine kn_icmp_gt hx hb (by omega) (by omega) dc_Mo_isClause_9 rfl (fun hc9 => ?_) (fun hc9 => ?_)
    · refine lv_iconst (v := nI 0) hx hb dc_Mo_isClause_16 (by decide +kernel) ?_
      refine kn_top (y := kb_i false) (by decide +kernel) ?_
      exact kr_zret hx hb hr hlocks dc_Mo_isClause_17 ((decide_eq_false (by omega)).symm)
    · refine lv_iconst (v := nI 1) hx hb dc_Mo_isClause_12 (by decide +kernel) ?_
      refine lv_goto hx hb dc_Mo_isClause_13 rfl ?_
      refine kn_top (y := kb_i true) (by decide +kernel) ?_
      exact kr_zret hx hb hr hlocks dc_Mo_isClause_17 ((decide_eq_true ⟨Nat.pos_of_ne_zero (fun q => hc1 (by rw [q]; decide +kernel)), hc9⟩).symm)

theorem le_of_l {i : Int32} (h : i < 0) : i ≤ 0 := by
  rw [Int32.lt_iff_toInt_lt] at h
  rw [Int32.le_iff_toInt_le]
  omega
set_option maxHeartbeats 4000000 in
set_option maxRecDepth 100000 in
theorem ct_Mo_isClause_neg (l : Launch) (D : va_G) (cI cZ : ClassId) (sz : Nat) (o : Nat) (mth : Nat) (mty : Nat) (x0 : Nat) (mat : Nat) (mfr : Nat) (mto : Nat) (mgd : Bool) (mrd : Nat) (x1 : Nat) (x2 : Nat) (x3 : Nat) (mhf : Bool) (mhp : Bool) (mcl : Bool) (mck : Bool) (mba : Nat) (mct : Nat) (x4 : Nat) (x5 : Nat) (x6 : Nat) (x7 : Nat) (x8 : Nat) (mst : Nat) (x9 : Nat) (x10 : Nat) (x11 : Nat) (x12 : Nat) (mtr : Nat) (mrs : Nat) (x13 : Nat) (x14 : Nat) (x15 : Nat) (x16 : Nat) (mwr : Nat) (x17 : Nat) (mfo : Nat) (i : Int32) (hi : i < 0) : Met l yn_Mo_isClause (Cond.code yn_Mo_isClause bc_Mo_isClause 2 (some .boolean) :: kx_all) ({ frames := 0, cells := 0, slots := 0, locals := 0 } : Room) (kp [.ref o, .int i] D cI cZ [mo_c o mth mty x0 mat mfr mto mgd mrd x1 x2 x3 mhf mhp mcl mck mba mct x4 x5 x6 x7 x8 mst x9 x10 x11 x12 mtr mrs x13 x14 x15 x16 mwr x17 mfo] sz) (kr_q (some (.int (kb_i false)))) 0 0 (fun _ => False) := by
  refine kx_met (by decide) (Nat.le_of_ble_eq_true rfl) ?_
  intro p e s m below meth c ls hx hb hr hml hts hown hlocks hin hsz hP hK hD hN hl
  have hown : s.vm.findClass rn_Mo = some m.cls := hown
  have hl : lv_has ls 2 [(0, .ref o), (1, .int i)] := hl
  refine lv_iload_n hx hb dc_Mo_isClause_0 rfl (lv_at hl 1 rfl) ?_
  refine lv_if_le hx hb dc_Mo_isClause_1 rfl (fun hc1 => ?_) (fun hc1 => ?_)
  · refine lv_iconst (v := nI 0) hx hb dc_Mo_isClause_16 (by decide +kernel) ?_
    refine kn_top (y := kb_i false) (by decide +kernel) ?_
    exact kr_zret hx hb hr hlocks dc_Mo_isClause_17 (rfl)
  · exact absurd (le_of_l hi) hc1

set_option maxHeartbeats 4000000 in
set_option maxRecDepth 100000 in
theorem ct_Mo_setAt (l : Launch) (D : va_G) (cI cZ : ClassId) (sz : Nat) (o : Nat) (mth : Nat) (mty : Nat) (x0 : Nat) (mat : Nat) (mfr : Nat) (mto : Nat) (mgd : Bool) (mrd : Nat) (x1 : Nat) (x2 : Nat) (x3 : Nat) (mhf : Bool) (mhp : Bool) (mcl : Bool) (mck : Bool) (mba : Nat) (mct : Nat) (x4 : Nat) (x5 : Nat) (x6 : Nat) (x7 : Nat) (x8 : Nat) (mst : Nat) (x9 : Nat) (x10 : Nat) (x11 : Nat) (x12 : Nat) (mtr : Nat) (mrs : Nat) (x13 : Nat) (x14 : Nat) (x15 : Nat) (x16 : Nat) (mwr : Nat) (x17 : Nat) (mfo : Nat) (rz : Nat → Nat) (rl : Nat → Int32) (j : Nat) (bb : Nat → Nat) (pm : Nat → Nat) (z : Nat) (hj : j < 16) (hrow : pt_row rl (8 * j) (rz j) bb pm z) : Met l yn_Mo_setAt (Cond.code yn_Mo_setAt bc_Mo_setAt 4 (some .int) :: kx_all) ({ frames := 1, cells := 0, slots := 0, locals := 20 } : Room) (kp [.ref o, .int (nI j)] D cI cZ [mo_c o mth mty x0 mat mfr mto mgd mrd x1 x2 x3 mhf mhp mcl mck mba mct x4 x5 x6 x7 x8 mst x9 x10 x11 x12 mtr mrs x13 x14 x15 x16 mwr x17 mfo, ar_n cI x1 16 rz, ar_i cI x2 128 rl] sz) (kr_q (some (.int (nI z)))) 0 0 (fun _ => False) := by
  refine kx_met (by decide) (Nat.le_of_ble_eq_true rfl) ?_
  intro p e s m below meth c ls hx hb hr hml hts hown hlocks hin hsz hP hK hD hN hl
  have hown : s.vm.findClass rn_Mo = some m.cls := hown
  have hl : lv_has ls 4 [(0, .ref o), (1, .int (nI j))] := hl
  obtain ⟨h8, hpm0, hpe, hlit⟩ := hrow
  refine lv_iconst (v := nI 0) hx hb dc_Mo_setAt_0 (by decide +kernel) ?_
  refine lv_istore_n (lv' := [(2, .int (nI 0)), (0, .ref o), (1, .int (nI j))]) hx hb dc_Mo_setAt_1 rfl hl (by decide) rfl (fun ls hl => ?_)
  refine lv_iconst (v := nI 0) hx hb dc_Mo_setAt_2 (by decide +kernel) ?_
  refine lv_istore_n (lv' := [(3, .int (nI 0)), (2, .int (nI 0)), (0, .ref o), (1, .int (nI j))]) hx hb dc_Mo_setAt_3 rfl hl (by decide) rfl (fun ls hl => ?_)
  have lp_4 : ∀ (K : Nat) (k : Nat) (ls : Array Slot), rz j - k < K → lv_has ls 4 [(3, .int (nI k)), (2, .int (nI (pm k))), (0, .ref o), (1, .int (nI j))] → (k ≤ rz j) → W p l e ({ frames := 1, cells := 0, slots := 0, locals := 20 } : Room) s m ([.ref o, .int (nI j)] : List Value).toArray below meth c s.heap [] 0 0 (MQ below (kr_q (some (.int (nI z)))) ([.ref o, .int (nI j)] : List Value).toArray s 0 0 (fun _ => False)) (F0 m 4 ls []) := by
    intro K
    induction K with
    | zero =>
      intro k ls hk
      exact absurd hk (Nat.not_lt_zero _)
    | succ K ih =>
      intro k ls hk hl h2
      refine lv_iload_n hx hb dc_Mo_setAt_4 rfl (lv_at hl 0 rfl) ?_
      refine lv_aload_n hx hb dc_Mo_setAt_5 rfl (lv_at hl 2 rfl) ?_
      refine va_get (ci := 10) (v := .ref x1) (C := rn_Mo) (T := fd_Mo) (N := 36) hx hb hts in_Mo hown hK hP 0 rfl rfl 8 (by decide) (hts _ wd_754) (fun _ h9 => h9) rfl dc_Mo_setAt_6 ?_
      refine lv_iload_n hx hb dc_Mo_setAt_9 rfl (lv_at hl 3 rfl) ?_
      refine ka_nald (t := rz) hx hb hK hP 1 0 rfl rfl (j := j) (by omega) (by omega) dc_Mo_setAt_10 ?_
      refine kn_icmp_ge hx hb (by omega) (by omega) dc_Mo_setAt_11 rfl (fun hc11 => ?_) (fun hc11 => ?_)
      · refine lv_iload_n hx hb dc_Mo_setAt_37 rfl (lv_at hl 1 rfl) ?_
        exact kr_iret hx hb hr hlocks dc_Mo_setAt_38 (by rw [show k = rz j by omega, hpe])
      · refine lv_iload_n hx hb dc_Mo_setAt_14 rfl (lv_at hl 1 rfl) ?_
        refine lv_aload_n hx hb dc_Mo_setAt_15 rfl (lv_at hl 2 rfl) ?_
        refine va_get (ci := 10) (v := .ref x2) (C := rn_Mo) (T := fd_Mo) (N := 36) hx hb hts in_Mo hown hK hP 0 rfl rfl 9 (by decide) (hts _ wd_755) (fun _ h9 => h9) rfl dc_Mo_setAt_16 ?_
        refine lv_bipush (v := nI 8) hx hb dc_Mo_setAt_19 (by decide +kernel) ?_
        refine lv_iload_n hx hb dc_Mo_setAt_21 rfl (lv_at hl 3 rfl) ?_
        refine kn_imul hx hb dc_Mo_setAt_22 ?_
        refine lv_iload_n hx hb dc_Mo_setAt_23 rfl (lv_at hl 0 rfl) ?_
        refine kn_iadd hx hb dc_Mo_setAt_24 ?_
        refine ka_iald (f := rl) hx hb hK hP 2 0 rfl rfl (j := (8 * j) + k) (by omega) (by omega) dc_Mo_setAt_25 ?_
        refine kn_top (y := pt_lit (bb k)) (hlit k (by omega)).2.1 ?_
        refine kr_call1 (va_runS (As := [.int (pt_lit (bb k))]) (rest := [.int (nI (pm k))]) ⟨hx, hb, hml, hown, hts⟩ (ct_Mo_bitOf l D cI cZ _ (bb k) ((hlit k (by omega)).1)) (cwS 1 hts (kx_gS wd_915 wd_916 wd_9 wd_917) rfl rfl rfl ⟨rfl, yd_Mo_bitOf⟩ ⟨Nat.le_of_ble_eq_true rfl, Nat.le_of_ble_eq_true rfl⟩) (kp_S hP hD hK hN [] rfl rfl) rfl rfl hl.1 rfl (lv_room (Nat.le_of_ble_eq_true rfl)) dc_Mo_setAt_26 ⟨Nat.le_of_ble_eq_true rfl, Nat.le_of_ble_eq_true rfl⟩) ?_
        refine kn_ior hx hb dc_Mo_setAt_29 ?_
        refine kn_top (y := nI (pm (k + 1))) (congrArg nI (hlit k (by omega)).2.2.2.1.symm) ?_
        refine lv_istore_n (lv' := [(2, .int (nI (pm (k + 1)))), (3, .int (nI k)), (0, .ref o), (1, .int (nI j))]) hx hb dc_Mo_setAt_30 rfl hl (by decide) rfl (fun ls hl => ?_)
        refine lv_iinc (k := 1) (v := nI (k + 1)) (lv' := [(3, .int (nI (k + 1))), (2, .int (nI (pm (k + 1)))), (0, .ref o), (1, .int (nI j))]) hx hb dc_Mo_setAt_31 hl rfl (nI_1 _) (by decide) rfl (fun ls hl => ?_)
        refine lv_goto hx hb dc_Mo_setAt_34 rfl ?_
        exact ih _ _ (by omega) hl (by omega)
  have hl : lv_has ls 4 [(3, .int (nI 0)), (2, .int (nI (pm 0))), (0, .ref o), (1, .int (nI j))] := by rw [hpm0]; exact hl
  exact lp_4 _ 0 _ (Nat.lt_succ_self _) hl (by omega)
end
