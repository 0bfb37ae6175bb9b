/-! the reference: a try -/
theorem sub_or {x t u : Nat} (h : x &&& t = x) : x &&& (t ||| u) = x := by
  apply Nat.eq_of_testBit_eq
  intro i
  rw [Nat.testBit_and, Nat.testBit_or]
  have h1 : (x &&& t).testBit i = x.testBit i := by rw [h]
  rw [Nat.testBit_and] at h1
  cases hx : x.testBit i with
  | false => rfl
  | true => rw [hx, Bool.true_and] at h1; rw [h1]; rfl
theorem ne_or {x t u : Nat} (h : ¬ x &&& t = 0) : ¬ x &&& (t ||| u) = 0 := by
  intro q
  apply h
  apply Nat.eq_of_testBit_eq
  intro i
  have h1 : (x &&& (t ||| u)).testBit i = false := by rw [q]; exact Nat.zero_testBit i
  rw [Nat.testBit_and, Nat.testBit_or] at h1
  rw [Nat.testBit_and, Nat.zero_testBit]
  cases hx : x.testBit i with
  | false => rfl
  | true =>
    rw [hx, Bool.true_and] at h1
    cases ht : t.testBit i with
    | false => rfl
    | true => rw [ht] at h1; simp at h1
theorem d_self {x f t : Nat} (h0 : ¬ nb_d x f = 0) : ¬ x &&& (t ||| nb_d x f) = 0 := by
  obtain ⟨b, hb⟩ := Nat.exists_testBit_of_ne_zero h0
  intro q
  have h1 : (x &&& (t ||| nb_d x f)).testBit b = false := by rw [q]; exact Nat.zero_testBit b
  rw [Nat.testBit_and, Nat.testBit_or, hb, Bool.or_true, Bool.and_true] at h1
  rw [nb_d_bit, h1] at hb
  simp at hb
theorem or_self_and (t y : Nat) : y &&& (t ||| y) = y := by
  apply Nat.eq_of_testBit_eq
  intro i
  rw [Nat.testBit_and, Nat.testBit_or]
  cases y.testBit i <;> simp
/-- reasons: different clauses, each with a true literal, their bits true -/
def pt_ok2 (fs : Nat → Nat) (cn n t : Nat) (rs im : Nat → Nat) : Prop := ∀ k, k < n → (1 ≤ rs k ∧ rs k ≤ cn) ∧ im k < 65536 ∧ im k &&& t = im k ∧ ¬ fs (rs k) &&& t = 0 ∧ ∀ i, i < k → ¬ rs i = rs k
theorem ok2_or {fs : Nat → Nat} {cn n t u : Nat} {rs im : Nat → Nat} (h : pt_ok2 fs cn n t rs im) : pt_ok2 fs cn n (t ||| u) rs im := fun k hk => by
  obtain ⟨h1, h2, h3, h4, h5⟩ := h k hk
  exact ⟨h1, h2, sub_or h3, ne_or h4, h5⟩
theorem ok2_0 {fs : Nat → Nat} {cn t : Nat} {rs im : Nat → Nat} : pt_ok2 fs cn 0 t rs im := fun k hk => absurd hk (Nat.not_lt_zero k)
theorem ok2_sub {fs : Nat → Nat} {cn n m t : Nat} {rs im : Nat → Nat} (h : pt_ok2 fs cn n t rs im) (hm : m ≤ n) : pt_ok2 fs cn m t rs im := fun k hk => h k (by omega)
theorem prop_ok2 {fs : Nat → Nat} {lv mk cn : Nat} (h16 : ∀ j, fs j < 65536) : ∀ (k n t f : Nat) (rs im : Nat → Nat), pt_cap n t f → pt_ok2 fs cn n t rs im →
    pt_ok2 fs cn (pt_prop fs lv mk cn k n t f rs im).2.1 (pt_prop fs lv mk cn k n t f rs im).2.2.1 (pt_prop fs lv mk cn k n t f rs im).2.2.2.2.1 (pt_prop fs lv mk cn k n t f rs im).2.2.2.2.2 ∧ (¬ (pt_prop fs lv mk cn k n t f rs im).1 = 0 → fs (pt_prop fs lv mk cn k n t f rs im).1 &&& (pt_prop fs lv mk cn k n t f rs im).2.2.1 = 0) ∧ (∀ i, i < n → (pt_prop fs lv mk cn k n t f rs im).2.2.2.2.1 i = rs i ∧ (pt_prop fs lv mk cn k n t f rs im).2.2.2.2.2 i = im i) ∧ (∃ y, (pt_prop fs lv mk cn k n t f rs im).2.2.1 = t ||| y) ∧ (pt_prop fs lv mk cn k n t f rs im).2.2.2.1 = nb_op (pt_prop fs lv mk cn k n t f rs im).2.2.1 := by
  intro k
  induction k with
  | zero => intro n t f rs im hc h; exact ⟨h, fun q => absurd rfl q, fun i hi => ⟨rfl, rfl⟩, ⟨0, (Nat.or_zero t).symm⟩, hc.2.1⟩
  | succ k ih =>
    intro n t f rs im hc h
    have hni := next_in fs lv mk cn t f
    rw [pt_prop]
    generalize pt_next fs lv mk cn t f = ce at hni ⊢
    by_cases h0 : ce = 0
    · rw [if_pos h0]; exact ⟨h, fun q => absurd rfl q, fun i hi => ⟨rfl, rfl⟩, ⟨0, (Nat.or_zero t).symm⟩, hc.2.1⟩
    · obtain ⟨h1, h2, h3, h4⟩ := hni.resolve_left h0
      have hrd : fs ce &&& t = 0 := by
        unfold pt_rdy at h4
        rw [Bool.and_eq_true] at h4
        exact of_decide_eq_true h4.1
      rw [if_neg h0]
      by_cases hy : nb_d (fs ce) f = 0
      · rw [if_pos hy]; exact ⟨h, fun _ => hrd, fun i hi => ⟨rfl, rfl⟩, ⟨0, (Nat.or_zero t).symm⟩, hc.2.1⟩
      · rw [if_neg hy]
        obtain ⟨hn8, hy16, hcap2⟩ := cap_step hc (h16 ce) h4 hy
        have hne : ∀ i, i < n → ¬ rs i = ce := fun i hi q => (h i hi).2.2.2.1 (by rw [q]; exact hrd)
        have hok : pt_ok2 fs cn (n + 1) (t ||| nb_d (fs ce) f) (va_up rs n ce) (va_up im n (nb_d (fs ce) f)) := by
          intro i hi
          by_cases hin : i = n
          · subst hin
            rw [va_up_self, va_up_self]
            exact ⟨⟨h1, h2⟩, hy16, or_self_and _ _, d_self hy, fun j hj => by rw [va_up_ne _ _ (by omega)]; exact hne j hj⟩
          · rw [va_up_ne _ _ hin, va_up_ne _ _ hin]
            obtain ⟨g1, g2, g3, g4, g5⟩ := h i (by omega)
            exact ⟨g1, g2, sub_or g3, ne_or g4, fun j hj => by rw [va_up_ne _ _ (by omega)]; exact g5 j hj⟩
        obtain ⟨r1, r2, r3, ⟨y, r4⟩, r5⟩ := ih (n + 1) (t ||| nb_d (fs ce) f) (f ||| nb_op (nb_d (fs ce) f)) (va_up rs n ce) (va_up im n (nb_d (fs ce) f)) hcap2 hok
        refine ⟨r1, r2, fun i hi => ?_, ⟨nb_d (fs ce) f ||| y, by rw [r4, Nat.or_assoc]⟩, r5⟩
        obtain ⟨a1, a2⟩ := r3 i (by omega)
        rw [a1, a2, va_up_ne _ _ (by omega), va_up_ne _ _ (by omega)]
        exact ⟨rfl, rfl⟩
theorem used_in {fs rs im : Nat → Nat} {x : Nat} : ∀ (k u lk : Nat), u.testBit x = true → (pt_used fs rs im k u lk).testBit x = true := by
  intro k
  induction k with
  | zero => intro u lk h; exact h
  | succ k ih =>
    intro u lk h
    rw [pt_used]
    split
    · exact ih _ _ h
    · exact ih _ _ (by rw [Nat.testBit_or, h]; rfl)
theorem used_out {fs rs im : Nat → Nat} {x : Nat} : ∀ (k u lk : Nat), u.testBit x = false → (∀ i, i < k → ¬ rs i = x) → (pt_used fs rs im k u lk).testBit x = false := by
  intro k
  induction k with
  | zero => intro u lk h _; exact h
  | succ k ih =>
    intro u lk h hr
    rw [pt_used]
    split
    · exact ih _ _ h (fun i hi => hr i (by omega))
    · exact ih _ _ (by rw [Nat.testBit_or, h, Nat.testBit_two_pow, decide_eq_false (hr k (by omega))]; rfl) (fun i hi => hr i (by omega))
theorem flg_out {fs rs im : Nat → Nat} : ∀ (k lk : Nat) (us : Nat → Bool) (i : Nat), k ≤ i → pt_flg fs rs im k lk us i = us i := by
  intro k
  induction k with
  | zero => intro lk us i _; rfl
  | succ k ih =>
    intro lk us i h
    rw [pt_flg]
    split
    · rw [ih _ _ _ (by omega), va_up_ne _ _ (by omega)]
    · rw [ih _ _ _ (by omega), va_up_ne _ _ (by omega)]
theorem flg_used {fs rs im : Nat → Nat} : ∀ (k u lk : Nat) (us : Nat → Bool), (∀ i, i < k → u.testBit (rs i) = false) → (∀ i j, i < j → j < k → ¬ rs i = rs j) → ∀ i, i < k → pt_flg fs rs im k lk us i = (pt_used fs rs im k u lk).testBit (rs i) := by
  intro k
  induction k with
  | zero => intro u lk us _ _ i hi; exact absurd hi (Nat.not_lt_zero i)
  | succ k ih =>
    intro u lk us hu hd i hi
    rw [pt_flg, pt_used]
    split
    · by_cases hik : i = k
      · subst hik
        rw [flg_out _ _ _ _ (Nat.le_refl i), va_up_self, used_out _ _ _ (hu i (by omega)) (fun q hq => hd q i hq (by omega))]
      · exact ih _ _ _ (fun q hq => hu q (by omega)) (fun q r h1 h2 => hd q r h1 (by omega)) i (by omega)
    · by_cases hik : i = k
      · subst hik
        rw [flg_out _ _ _ _ (Nat.le_refl i), va_up_self, used_in _ _ _ (by rw [Nat.testBit_or, Nat.testBit_two_pow_self, Bool.or_true])]
      · exact ih _ _ _ (fun q hq => by rw [Nat.testBit_or, hu q (by omega), Nat.testBit_two_pow, decide_eq_false (fun z => hd q k hq (by omega) z.symm)]; rfl) (fun q r h1 h2 => hd q r h1 (by omega)) i (by omega)
theorem lt_or {lt : Nat → Bool} {u v : Nat} : pt_lt (pt_lt lt u) v = pt_lt lt (u ||| v) := by
  funext j
  unfold pt_lt
  rw [Nat.testBit_or, Bool.or_assoc]
theorem lt_ze {lt : Nat → Bool} : pt_lt lt 0 = lt := by
  funext j
  unfold pt_lt
  rw [Nat.zero_testBit, Bool.or_false]

theorem dc_Mo_partners_0 : decode bc_Mo_partners 0 = .ok (.aload_n 0, 1) := by decide +kernel
theorem dc_Mo_partners_1 : decode bc_Mo_partners 1 = .ok (.getfield 29, 3) := by decide +kernel
theorem dc_Mo_partners_4 : decode bc_Mo_partners 4 = .ok (.bipush (8), 2) := by decide +kernel
theorem dc_Mo_partners_6 : decode bc_Mo_partners 6 = .ok (.iload_n 1, 1) := by decide +kernel
theorem dc_Mo_partners_7 : decode bc_Mo_partners 7 = .ok (.imul, 1) := by decide +kernel
theorem dc_Mo_partners_8 : decode bc_Mo_partners 8 = .ok (.iaload, 1) := by decide +kernel
theorem dc_Mo_partners_9 : decode bc_Mo_partners 9 = .ok (.invokestatic 118, 3) := by decide +kernel
theorem dc_Mo_partners_12 : decode bc_Mo_partners 12 = .ok (.invokestatic 171, 3) := by decide +kernel
theorem dc_Mo_partners_15 : decode bc_Mo_partners 15 = .ok (.istore_n 2, 1) := by decide +kernel
theorem dc_Mo_partners_16 : decode bc_Mo_partners 16 = .ok (.aload_n 0, 1) := by decide +kernel
theorem dc_Mo_partners_17 : decode bc_Mo_partners 17 = .ok (.getfield 168, 3) := by decide +kernel
theorem dc_Mo_partners_20 : decode bc_Mo_partners 20 = .ok (.istore_n 3, 1) := by decide +kernel
theorem dc_Mo_partners_21 : decode bc_Mo_partners 21 = .ok (.aload_n 0, 1) := by decide +kernel
theorem dc_Mo_partners_22 : decode bc_Mo_partners 22 = .ok (.getfield 183, 3) := by decide +kernel
theorem dc_Mo_partners_25 : decode bc_Mo_partners 25 = .ok (.istore 4, 2) := by decide +kernel
theorem dc_Mo_partners_27 : decode bc_Mo_partners 27 = .ok (.iconst 0, 1) := by decide +kernel
theorem dc_Mo_partners_28 : decode bc_Mo_partners 28 = .ok (.istore 5, 2) := by decide +kernel
theorem dc_Mo_partners_30 : decode bc_Mo_partners 30 = .ok (.iload 5, 2) := by decide +kernel
theorem dc_Mo_partners_32 : decode bc_Mo_partners 32 = .ok (.iload 4, 2) := by decide +kernel
theorem dc_Mo_partners_34 : decode bc_Mo_partners 34 = .ok (.if_icmp .ge (34), 3) := by decide +kernel
theorem dc_Mo_partners_37 : decode bc_Mo_partners 37 = .ok (.aload_n 0, 1) := by decide +kernel
theorem dc_Mo_partners_38 : decode bc_Mo_partners 38 = .ok (.iload_n 1, 1) := by decide +kernel
theorem dc_Mo_partners_39 : decode bc_Mo_partners 39 = .ok (.aload_n 0, 1) := by decide +kernel
theorem dc_Mo_partners_40 : decode bc_Mo_partners 40 = .ok (.getfield 50, 3) := by decide +kernel
theorem dc_Mo_partners_43 : decode bc_Mo_partners 43 = .ok (.iload 5, 2) := by decide +kernel
theorem dc_Mo_partners_45 : decode bc_Mo_partners 45 = .ok (.iaload, 1) := by decide +kernel
theorem dc_Mo_partners_46 : decode bc_Mo_partners 46 = .ok (.invokevirtual 186, 3) := by decide +kernel
theorem dc_Mo_partners_49 : decode bc_Mo_partners 49 = .ok (.aload_n 0, 1) := by decide +kernel
theorem dc_Mo_partners_50 : decode bc_Mo_partners 50 = .ok (.getfield 59, 3) := by decide +kernel
theorem dc_Mo_partners_53 : decode bc_Mo_partners 53 = .ok (.aload_n 0, 1) := by decide +kernel
theorem dc_Mo_partners_54 : decode bc_Mo_partners 54 = .ok (.getfield 50, 3) := by decide +kernel
theorem dc_Mo_partners_57 : decode bc_Mo_partners 57 = .ok (.iload 5, 2) := by decide +kernel
theorem dc_Mo_partners_59 : decode bc_Mo_partners 59 = .ok (.iaload, 1) := by decide +kernel
theorem dc_Mo_partners_60 : decode bc_Mo_partners 60 = .ok (.iconst 1, 1) := by decide +kernel
theorem dc_Mo_partners_61 : decode bc_Mo_partners 61 = .ok (.bastore, 1) := by decide +kernel
theorem dc_Mo_partners_62 : decode bc_Mo_partners 62 = .ok (.iinc 5 (1), 3) := by decide +kernel
theorem dc_Mo_partners_65 : decode bc_Mo_partners 65 = .ok (.goto (-35), 3) := by decide +kernel
theorem dc_Mo_partners_68 : decode bc_Mo_partners 68 = .ok (.iconst 1, 1) := by decide +kernel
theorem dc_Mo_partners_69 : decode bc_Mo_partners 69 = .ok (.istore 5, 2) := by decide +kernel
theorem dc_Mo_partners_71 : decode bc_Mo_partners 71 = .ok (.iload 5, 2) := by decide +kernel
theorem dc_Mo_partners_73 : decode bc_Mo_partners 73 = .ok (.aload_n 0, 1) := by decide +kernel
theorem dc_Mo_partners_74 : decode bc_Mo_partners 74 = .ok (.getfield 122, 3) := by decide +kernel
theorem dc_Mo_partners_77 : decode bc_Mo_partners 77 = .ok (.if_icmp .gt (112), 3) := by decide +kernel
theorem dc_Mo_partners_80 : decode bc_Mo_partners 80 = .ok (.aload_n 0, 1) := by decide +kernel
theorem dc_Mo_partners_81 : decode bc_Mo_partners 81 = .ok (.getfield 32, 3) := by decide +kernel
theorem dc_Mo_partners_84 : decode bc_Mo_partners 84 = .ok (.iload 5, 2) := by decide +kernel
theorem dc_Mo_partners_86 : decode bc_Mo_partners 86 = .ok (.baload, 1) := by decide +kernel
theorem dc_Mo_partners_87 : decode bc_Mo_partners 87 = .ok (.ifCond .eq (96), 3) := by decide +kernel
theorem dc_Mo_partners_90 : decode bc_Mo_partners 90 = .ok (.aload_n 0, 1) := by decide +kernel
theorem dc_Mo_partners_91 : decode bc_Mo_partners 91 = .ok (.getfield 23, 3) := by decide +kernel
theorem dc_Mo_partners_94 : decode bc_Mo_partners 94 = .ok (.iload 5, 2) := by decide +kernel
theorem dc_Mo_partners_96 : decode bc_Mo_partners 96 = .ok (.iaload, 1) := by decide +kernel
theorem dc_Mo_partners_97 : decode bc_Mo_partners 97 = .ok (.iload_n 2, 1) := by decide +kernel
theorem dc_Mo_partners_98 : decode bc_Mo_partners 98 = .ok (.iand, 1) := by decide +kernel
theorem dc_Mo_partners_99 : decode bc_Mo_partners 99 = .ok (.ifCond .eq (84), 3) := by decide +kernel
theorem dc_Mo_partners_102 : decode bc_Mo_partners 102 = .ok (.aload_n 0, 1) := by decide +kernel
theorem dc_Mo_partners_103 : decode bc_Mo_partners 103 = .ok (.getfield 23, 3) := by decide +kernel
theorem dc_Mo_partners_106 : decode bc_Mo_partners 106 = .ok (.iload 5, 2) := by decide +kernel
theorem dc_Mo_partners_108 : decode bc_Mo_partners 108 = .ok (.iaload, 1) := by decide +kernel
theorem dc_Mo_partners_109 : decode bc_Mo_partners 109 = .ok (.iload_n 2, 1) := by decide +kernel
theorem dc_Mo_partners_110 : decode bc_Mo_partners 110 = .ok (.iconst (-1), 1) := by decide +kernel
theorem dc_Mo_partners_111 : decode bc_Mo_partners 111 = .ok (.ixor, 1) := by decide +kernel
theorem dc_Mo_partners_112 : decode bc_Mo_partners 112 = .ok (.iand, 1) := by decide +kernel
theorem dc_Mo_partners_113 : decode bc_Mo_partners 113 = .ok (.istore 6, 2) := by decide +kernel
theorem dc_Mo_partners_115 : decode bc_Mo_partners 115 = .ok (.aload_n 0, 1) := by decide +kernel
theorem dc_Mo_partners_116 : decode bc_Mo_partners 116 = .ok (.getfield 59, 3) := by decide +kernel
theorem dc_Mo_partners_119 : decode bc_Mo_partners 119 = .ok (.iload 5, 2) := by decide +kernel
theorem dc_Mo_partners_121 : decode bc_Mo_partners 121 = .ok (.iconst 1, 1) := by decide +kernel
theorem dc_Mo_partners_122 : decode bc_Mo_partners 122 = .ok (.bastore, 1) := by decide +kernel
theorem dc_Mo_partners_123 : decode bc_Mo_partners 123 = .ok (.aload_n 0, 1) := by decide +kernel
theorem dc_Mo_partners_124 : decode bc_Mo_partners 124 = .ok (.iload_n 1, 1) := by decide +kernel
theorem dc_Mo_partners_125 : decode bc_Mo_partners 125 = .ok (.iload 5, 2) := by decide +kernel
theorem dc_Mo_partners_127 : decode bc_Mo_partners 127 = .ok (.ineg, 1) := by decide +kernel
theorem dc_Mo_partners_128 : decode bc_Mo_partners 128 = .ok (.invokevirtual 186, 3) := by decide +kernel
theorem dc_Mo_partners_131 : decode bc_Mo_partners 131 = .ok (.iload 6, 2) := by decide +kernel
theorem dc_Mo_partners_133 : decode bc_Mo_partners 133 = .ok (.iload_n 3, 1) := by decide +kernel
theorem dc_Mo_partners_134 : decode bc_Mo_partners 134 = .ok (.iand, 1) := by decide +kernel
theorem dc_Mo_partners_135 : decode bc_Mo_partners 135 = .ok (.ifCond .ne (48), 3) := by decide +kernel
theorem dc_Mo_partners_138 : decode bc_Mo_partners 138 = .ok (.aload_n 0, 1) := by decide +kernel
theorem dc_Mo_partners_139 : decode bc_Mo_partners 139 = .ok (.iload_n 3, 1) := by decide +kernel
theorem dc_Mo_partners_140 : decode bc_Mo_partners 140 = .ok (.iload 6, 2) := by decide +kernel
theorem dc_Mo_partners_142 : decode bc_Mo_partners 142 = .ok (.invokestatic 171, 3) := by decide +kernel
theorem dc_Mo_partners_145 : decode bc_Mo_partners 145 = .ok (.ior, 1) := by decide +kernel
theorem dc_Mo_partners_146 : decode bc_Mo_partners 146 = .ok (.putfield 168, 3) := by decide +kernel
theorem dc_Mo_partners_149 : decode bc_Mo_partners 149 = .ok (.aload_n 0, 1) := by decide +kernel
theorem dc_Mo_partners_150 : decode bc_Mo_partners 150 = .ok (.iload 4, 2) := by decide +kernel
theorem dc_Mo_partners_152 : decode bc_Mo_partners 152 = .ok (.putfield 183, 3) := by decide +kernel
theorem dc_Mo_partners_155 : decode bc_Mo_partners 155 = .ok (.aload_n 0, 1) := by decide +kernel
theorem dc_Mo_partners_156 : decode bc_Mo_partners 156 = .ok (.invokevirtual 189, 3) := by decide +kernel
theorem dc_Mo_partners_159 : decode bc_Mo_partners 159 = .ok (.istore 7, 2) := by decide +kernel
theorem dc_Mo_partners_161 : decode bc_Mo_partners 161 = .ok (.iload 7, 2) := by decide +kernel
theorem dc_Mo_partners_163 : decode bc_Mo_partners 163 = .ok (.ifCond .ne (5), 3) := by decide +kernel
theorem dc_Mo_partners_166 : decode bc_Mo_partners 166 = .ok (.iconst 0, 1) := by decide +kernel
theorem dc_Mo_partners_167 : decode bc_Mo_partners 167 = .ok (.ireturn, 1) := by decide +kernel
theorem dc_Mo_partners_168 : decode bc_Mo_partners 168 = .ok (.aload_n 0, 1) := by decide +kernel
theorem dc_Mo_partners_169 : decode bc_Mo_partners 169 = .ok (.iload 7, 2) := by decide +kernel
theorem dc_Mo_partners_171 : decode bc_Mo_partners 171 = .ok (.invokevirtual 192, 3) := by decide +kernel
theorem dc_Mo_partners_174 : decode bc_Mo_partners 174 = .ok (.aload_n 0, 1) := by decide +kernel
theorem dc_Mo_partners_175 : decode bc_Mo_partners 175 = .ok (.iload_n 1, 1) := by decide +kernel
theorem dc_Mo_partners_176 : decode bc_Mo_partners 176 = .ok (.iload 4, 2) := by decide +kernel
theorem dc_Mo_partners_178 : decode bc_Mo_partners 178 = .ok (.iload 7, 2) := by decide +kernel
theorem dc_Mo_partners_180 : decode bc_Mo_partners 180 = .ok (.invokevirtual 195, 3) := by decide +kernel
theorem dc_Mo_partners_183 : decode bc_Mo_partners 183 = .ok (.iinc 5 (1), 3) := by decide +kernel
theorem dc_Mo_partners_186 : decode bc_Mo_partners 186 = .ok (.goto (-115), 3) := by decide +kernel
theorem dc_Mo_partners_189 : decode bc_Mo_partners 189 = .ok (.iconst 1, 1) := by decide +kernel
theorem dc_Mo_partners_190 : decode bc_Mo_partners 190 = .ok (.ireturn, 1) := by decide +kernel
theorem op_pow : ∀ q, q < 16 → ∀ pb, (q + 8) % 16 = pb → nb_op (2 ^ q) = 2 ^ pb := by
  intro q hq pb h
  subst h
  revert q
  decide +kernel
set_option maxHeartbeats 4000000 in
set_option maxRecDepth 100000 in
theorem ct_Mo_partners (l : Launch) (D : va_G) (cI cZ : ClassId) (sz : Nat) (o : Nat) (mth : Nat) (mty : Nat) (x0 : Nat) (mat : Nat) (mfr : Nat) (mto : Nat) (mgd : Bool) (mrd : Nat) (x1 : Nat) (x2 : Nat) (x3 : Nat) (mhf : Bool) (mhp : Bool) (mcl : Bool) (mck : Bool) (mba : Nat) (mct : Nat) (x4 : Nat) (x5 : Nat) (x6 : Nat) (x7 : Nat) (x8 : Nat) (mst : Nat) (x9 : Nat) (x10 : Nat) (x11 : Nat) (x12 : Nat) (mtr : Nat) (mrs : Nat) (x13 : Nat) (x14 : Nat) (x15 : Nat) (x16 : Nat) (mwr : Nat) (x17 : Nat) (mfo : Nat) (fs : Nat → Nat) (fl : Nat → Int32) (lb : Nat → Bool) (kb : Nat → Bool) (rs : Nat → Nat) (im : Nat → Nat) (us : Nat → Bool) (lt : Nat → Bool) (hc : Nat → Nat) (hh : Nat → Int32) (j : Nat) (lv : Nat) (mk : Nat) (qb : Nat) (pb : Nat) (hct : mct ≤ 32) (h16 : ∀ j, fs j < 65536) (hlb : ∀ j, 1 ≤ j → j ≤ mct → lb j = lv.testBit j) (hkb : ∀ j, 1 ≤ j → j ≤ mct → kb j = mk.testBit j) (hcap : pt_cap mrs mtr (nb_op mtr)) (hok : pt_ok2 fs mct mrs mtr rs im) (hj1 : mba < j) (hj2 : j ≤ 32) (hj3 : j ≤ mba + 16) (hqb : qb < 16) (hlit : fl (j * 8) = pt_lit qb) (hpb : (qb + 8) % 16 = pb) (hfit : hc j + (pt_sp fs lv mk mct (2 ^ pb) mtr mrs mct 1 (pt_ru rs mrs) (pt_rl rs mrs) mrs mtr (nb_op mtr) rs im).2.2.1.length ≤ 400) : Met l yn_Mo_partners (Cond.code yn_Mo_partners bc_Mo_partners 8 (some .boolean) :: kx_all) ({ frames := 4, cells := 0, slots := 0, locals := 84 } : Room) (kp [.ref o, .int (nI j)] D cI cZ [mo_c o mth mty x0 mat mfr mto mgd mrd x1 x2 x3 mhf mhp mcl mck mba mct x4 x5 x6 x7 x8 mst x9 x10 x11 x12 mtr mrs x13 x14 x15 x16 mwr x17 mfo, ar_n cI x4 33 fs, ar_i cI x6 264 fl, ar_b cZ x7 33 lb, ar_b cZ x8 33 kb, ar_n cI x13 8 rs, ar_n cI x14 8 im, ar_b cZ x15 8 us, ar_b cZ x16 33 lt, ar_n cI x11 33 hc, ar_i cI x12 6400 hh] sz) (kw_e (some (.int (kb_i ((pt_sp fs lv mk mct (2 ^ pb) mtr mrs mct 1 (pt_ru rs mrs) (pt_rl rs mrs) mrs mtr (nb_op mtr) rs im).1)))) D kc_l (fun ex : Nat → Bool => [mo_c o mth mty x0 mat mfr mto mgd mrd x1 x2 x3 mhf mhp mcl mck mba mct x4 x5 x6 x7 x8 mst x9 x10 x11 x12 ((pt_sp fs lv mk mct (2 ^ pb) mtr mrs mct 1 (pt_ru rs mrs) (pt_rl rs mrs) mrs mtr (nb_op mtr) rs im).2.2.2.2.1) ((pt_sp fs lv mk mct (2 ^ pb) mtr mrs mct 1 (pt_ru rs mrs) (pt_rl rs mrs) mrs mtr (nb_op mtr) rs im).2.2.2.1) x13 x14 x15 x16 mwr x17 mfo, ar_n cI x4 33 fs, ar_i cI x6 264 fl, ar_b cZ x7 33 lb, ar_b cZ x8 33 kb, ar_n cI x13 8 ((pt_sp fs lv mk mct (2 ^ pb) mtr mrs mct 1 (pt_ru rs mrs) (pt_rl rs mrs) mrs mtr (nb_op mtr) rs im).2.2.2.2.2.2.1), ar_n cI x14 8 ((pt_sp fs lv mk mct (2 ^ pb) mtr mrs mct 1 (pt_ru rs mrs) (pt_rl rs mrs) mrs mtr (nb_op mtr) rs im).2.2.2.2.2.2.2), ar_b cZ x15 8 ex, ar_b cZ x16 33 (pt_lt lt (pt_sp fs lv mk mct (2 ^ pb) mtr mrs mct 1 (pt_ru rs mrs) (pt_rl rs mrs) mrs mtr (nb_op mtr) rs im).2.1), ar_n cI x11 33 (va_up hc j (hc j + ((pt_sp fs lv mk mct (2 ^ pb) mtr mrs mct 1 (pt_ru rs mrs) (pt_rl rs mrs) mrs mtr (nb_op mtr) rs im).2.2.1).length)), ar_i cI x12 6400 (pt_put hh (400 * (j - mba - 1) + hc j) ((pt_sp fs lv mk mct (2 ^ pb) mtr mrs mct 1 (pt_ru rs mrs) (pt_rl rs mrs) mrs mtr (nb_op mtr) rs im).2.2.1))]) (va_A [mo_c o mth mty x0 mat mfr mto mgd mrd x1 x2 x3 mhf mhp mcl mck mba mct x4 x5 x6 x7 x8 mst x9 x10 x11 x12 mtr mrs x13 x14 x15 x16 mwr x17 mfo, ar_n cI x4 33 fs, ar_i cI x6 264 fl, ar_b cZ x7 33 lb, ar_b cZ x8 33 kb, ar_n cI x13 8 rs, ar_n cI x14 8 im, ar_b cZ x15 8 us, ar_b cZ x16 33 lt, ar_n cI x11 33 hc, ar_i cI x12 6400 hh] sz)) 0 0 (va_A [mo_c o mth mty x0 mat mfr mto mgd mrd x1 x2 x3 mhf mhp mcl mck mba mct x4 x5 x6 x7 x8 mst x9 x10 x11 x12 mtr mrs x13 x14 x15 x16 mwr x17 mfo, ar_n cI x4 33 fs, ar_i cI x6 264 fl, ar_b cZ x7 33 lb, ar_b cZ x8 33 kb, ar_n cI x13 8 rs, ar_n cI x14 8 im, ar_b cZ x15 8 us, ar_b cZ x16 33 lt, ar_n cI x11 33 hc, ar_i cI x12 6400 hh] sz) := by
  refine kx_metE (by decide) (Nat.le_of_ble_eq_true rfl) ?_
  intro p e s m below meth c ls A hx hb hr hml hts hown hlocks hin hA hP hK hD hN hl hS
  have hown : s.vm.findClass rn_Mo = some m.cls := hown
  have hl : lv_has ls 8 [(0, .ref o), (1, .int (nI j))] := hl
  have hn8 : mrs ≤ 8 := by have := hcap.2.2; omega
  have hfit0 : hc j + mrs ≤ 400 := by
    have h9 := sp_len (fs := fs) (lv := lv) (mk := mk) (cn := mct) (pv := 2 ^ pb) (rc := mtr) (n0 := mrs) mct 1 (pt_ru rs mrs) (pt_rl rs mrs) mrs mtr (nb_op mtr) rs im
    rw [rl_len] at h9
    omega
  refine lv_aload_n hx hb dc_Mo_partners_0 rfl (lv_at hl 0 rfl) ?_
  refine va_get (ci := 10) (v := .ref x6) (C := rn_Mo) (T := fd_Mo) (N := 36) hx hb hts in_Mo hown hK hP 0 rfl rfl 19 (by decide) (hts _ wd_765) (fun _ h9 => h9) rfl dc_Mo_partners_1 ?_
  refine lv_bipush (v := nI 8) hx hb dc_Mo_partners_4 (by decide +kernel) ?_
  refine lv_iload_n hx hb dc_Mo_partners_6 rfl (lv_at hl 1 rfl) ?_
  refine kn_imul hx hb dc_Mo_partners_7 ?_
  refine ka_iald (f := fl) hx hb hK hP 2 0 rfl rfl (j := 8 * j) (by omega) (by omega) dc_Mo_partners_8 ?_
  refine kn_top (y := pt_lit qb) ((congrArg fl (show 8 * j = j * 8 by omega)).trans hlit) ?_
  refine kr_call1 (va_runS (As := [.int (pt_lit qb)]) (rest := []) ⟨hx, hb, hml, hown, hts⟩ (ct_Mo_bitOf l D cI cZ _ qb (hqb)) (cwS 1 hts (kx_gS wd_915 wd_916 wd_9 wd_917) rfl rfl rfl ⟨rfl, yd_Mo_bitOf⟩ ⟨Nat.le_of_ble_eq_true rfl, Nat.le_of_ble_eq_true rfl⟩) (kp_S hP hD hK hN [] rfl rfl) rfl rfl hl.1 rfl (lv_room (Nat.le_of_ble_eq_true rfl)) dc_Mo_partners_9 ⟨Nat.le_of_ble_eq_true rfl, Nat.le_of_ble_eq_true rfl⟩) ?_
  refine kr_call1 (va_runS (As := [.int (nI (2 ^ qb))]) (rest := []) ⟨hx, hb, hml, hown, hts⟩ (ct_Mo_opposite l D cI cZ _ (2 ^ qb) (Nat.pow_lt_pow_right (by decide) hqb)) (cwS 1 hts (kx_gS wd_946 wd_947 wd_9 wd_948) rfl rfl rfl ⟨rfl, yd_Mo_opposite⟩ ⟨Nat.le_of_ble_eq_true rfl, Nat.le_of_ble_eq_true rfl⟩) (kp_S hP hD hK hN [] rfl rfl) rfl rfl hl.1 rfl (lv_room (Nat.le_of_ble_eq_true rfl)) dc_Mo_partners_12 ⟨Nat.le_of_ble_eq_true rfl, Nat.le_of_ble_eq_true rfl⟩) ?_
  refine kn_top (y := nI (2 ^ pb)) (congrArg nI (op_pow qb hqb pb hpb)) ?_
  refine lv_istore_n (lv' := [(2, .int (nI (2 ^ pb))), (0, .ref o), (1, .int (nI j))]) hx hb dc_Mo_partners_15 rfl hl (by decide) rfl (fun ls hl => ?_)
  refine lv_aload_n hx hb dc_Mo_partners_16 rfl (lv_at hl 1 rfl) ?_
  refine va_get (ci := 10) (v := .int (nI mtr)) (C := rn_Mo) (T := fd_Mo) (N := 36) hx hb hts in_Mo hown hK hP 0 rfl rfl 27 (by decide) (hts _ wd_773) (fun _ h9 => h9) rfl dc_Mo_partners_17 ?_
  refine lv_istore_n (lv' := [(3, .int (nI mtr)), (2, .int (nI (2 ^ pb))), (0, .ref o), (1, .int (nI j))]) hx hb dc_Mo_partners_20 rfl hl (by decide) rfl (fun ls hl => ?_)
  refine lv_aload_n hx hb dc_Mo_partners_21 rfl (lv_at hl 2 rfl) ?_
  refine va_get (ci := 10) (v := .int (nI mrs)) (C := rn_Mo) (T := fd_Mo) (N := 36) hx hb hts in_Mo hown hK hP 0 rfl rfl 28 (by decide) (hts _ wd_774) (fun _ h9 => h9) rfl dc_Mo_partners_22 ?_
  refine lv_istore (lv' := [(4, .int (nI mrs)), (3, .int (nI mtr)), (2, .int (nI (2 ^ pb))), (0, .ref o), (1, .int (nI j))]) hx hb dc_Mo_partners_25 hl (by decide) rfl (fun ls hl => ?_)
  refine lv_iconst (v := nI 0) hx hb dc_Mo_partners_27 (by decide +kernel) ?_
  refine lv_istore (lv' := [(5, .int (nI 0)), (4, .int (nI mrs)), (3, .int (nI mtr)), (2, .int (nI (2 ^ pb))), (0, .ref o), (1, .int (nI j))]) hx hb dc_Mo_partners_28 hl (by decide) rfl (fun ls hl => ?_)
  have hP : va_P D kc_l [mo_c o mth mty x0 mat mfr mto mgd mrd x1 x2 x3 mhf mhp mcl mck mba mct x4 x5 x6 x7 x8 mst x9 x10 x11 x12 mtr mrs x13 x14 x15 x16 mwr x17 mfo, ar_n cI x4 33 fs, ar_i cI x6 264 fl, ar_b cZ x7 33 lb, ar_b cZ x8 33 kb, ar_n cI x13 8 rs, ar_n cI x14 8 im, ar_b cZ x15 8 us, ar_b cZ x16 33 (pt_lt lt (pt_ru rs 0)), ar_n cI x11 33 (va_up hc j (hc j + (pt_rl rs 0).length)), ar_i cI x12 6400 (pt_put hh (400 * (j - mba - 1) + hc j) (pt_rl rs 0))] s.heap := by rw [show pt_ru rs 0 = 0 from rfl, lt_ze, show pt_rl rs 0 = [] from rfl, cnt_0, put_0]; exact hP
  have hD : va_D A [mo_c o mth mty x0 mat mfr mto mgd mrd x1 x2 x3 mhf mhp mcl mck mba mct x4 x5 x6 x7 x8 mst x9 x10 x11 x12 mtr mrs x13 x14 x15 x16 mwr x17 mfo, ar_n cI x4 33 fs, ar_i cI x6 264 fl, ar_b cZ x7 33 lb, ar_b cZ x8 33 kb, ar_n cI x13 8 rs, ar_n cI x14 8 im, ar_b cZ x15 8 us, ar_b cZ x16 33 (pt_lt lt (pt_ru rs 0)), ar_n cI x11 33 (va_up hc j (hc j + (pt_rl rs 0).length)), ar_i cI x12 6400 (pt_put hh (400 * (j - mba - 1) + hc j) (pt_rl rs 0))] := by rw [show pt_ru rs 0 = 0 from rfl, lt_ze, show pt_rl rs 0 = [] from rfl, cnt_0, put_0]; exact hD
  have lp_30 : ∀ (K : Nat) (q : Nat) (H : Heap) (locs : List Loc) (ls : Array Slot), mrs - q < K → va_P D kc_l [mo_c o mth mty x0 mat mfr mto mgd mrd x1 x2 x3 mhf mhp mcl mck mba mct x4 x5 x6 x7 x8 mst x9 x10 x11 x12 mtr mrs x13 x14 x15 x16 mwr x17 mfo, ar_n cI x4 33 fs, ar_i cI x6 264 fl, ar_b cZ x7 33 lb, ar_b cZ x8 33 kb, ar_n cI x13 8 rs, ar_n cI x14 8 im, ar_b cZ x15 8 us, ar_b cZ x16 33 (pt_lt lt (pt_ru rs q)), ar_n cI x11 33 (va_up hc j (hc j + (pt_rl rs q).length)), ar_i cI x12 6400 (pt_put hh (400 * (j - mba - 1) + hc j) (pt_rl rs q))] H → va_D A [mo_c o mth mty x0 mat mfr mto mgd mrd x1 x2 x3 mhf mhp mcl mck mba mct x4 x5 x6 x7 x8 mst x9 x10 x11 x12 mtr mrs x13 x14 x15 x16 mwr x17 mfo, ar_n cI x4 33 fs, ar_i cI x6 264 fl, ar_b cZ x7 33 lb, ar_b cZ x8 33 kb, ar_n cI x13 8 rs, ar_n cI x14 8 im, ar_b cZ x15 8 us, ar_b cZ x16 33 (pt_lt lt (pt_ru rs q)), ar_n cI x11 33 (va_up hc j (hc j + (pt_rl rs q).length)), ar_i cI x12 6400 (pt_put hh (400 * (j - mba - 1) + hc j) (pt_rl rs q))] → va_S A s.heap H locs → lv_has ls 8 [(5, .int (nI q)), (4, .int (nI mrs)), (3, .int (nI mtr)), (2, .int (nI (2 ^ pb))), (0, .ref o), (1, .int (nI j))] → (q ≤ mrs) → W p l e ({ frames := 4, cells := 0, slots := 0, locals := 84 } : Room) s m ([.ref o, .int (nI j)] : List Value).toArray below meth c H locs 0 0 (MQ below (kw_e (some (.int (kb_i ((pt_sp fs lv mk mct (2 ^ pb) mtr mrs mct 1 (pt_ru rs mrs) (pt_rl rs mrs) mrs mtr (nb_op mtr) rs im).1)))) D kc_l (fun ex : Nat → Bool => [mo_c o mth mty x0 mat mfr mto mgd mrd x1 x2 x3 mhf mhp mcl mck mba mct x4 x5 x6 x7 x8 mst x9 x10 x11 x12 ((pt_sp fs lv mk mct (2 ^ pb) mtr mrs mct 1 (pt_ru rs mrs) (pt_rl rs mrs) mrs mtr (nb_op mtr) rs im).2.2.2.2.1) ((pt_sp fs lv mk mct (2 ^ pb) mtr mrs mct 1 (pt_ru rs mrs) (pt_rl rs mrs) mrs mtr (nb_op mtr) rs im).2.2.2.1) x13 x14 x15 x16 mwr x17 mfo, ar_n cI x4 33 fs, ar_i cI x6 264 fl, ar_b cZ x7 33 lb, ar_b cZ x8 33 kb, ar_n cI x13 8 ((pt_sp fs lv mk mct (2 ^ pb) mtr mrs mct 1 (pt_ru rs mrs) (pt_rl rs mrs) mrs mtr (nb_op mtr) rs im).2.2.2.2.2.2.1), ar_n cI x14 8 ((pt_sp fs lv mk mct (2 ^ pb) mtr mrs mct 1 (pt_ru rs mrs) (pt_rl rs mrs) mrs mtr (nb_op mtr) rs im).2.2.2.2.2.2.2), ar_b cZ x15 8 ex, ar_b cZ x16 33 (pt_lt lt (pt_sp fs lv mk mct (2 ^ pb) mtr mrs mct 1 (pt_ru rs mrs) (pt_rl rs mrs) mrs mtr (nb_op mtr) rs im).2.1), ar_n cI x11 33 (va_up hc j (hc j + ((pt_sp fs lv mk mct (2 ^ pb) mtr mrs mct 1 (pt_ru rs mrs) (pt_rl rs mrs) mrs mtr (nb_op mtr) rs im).2.2.1).length)), ar_i cI x12 6400 (pt_put hh (400 * (j - mba - 1) + hc j) ((pt_sp fs lv mk mct (2 ^ pb) mtr mrs mct 1 (pt_ru rs mrs) (pt_rl rs mrs) mrs mtr (nb_op mtr) rs im).2.2.1))]) A) ([.ref o, .int (nI j)] : List Value).toArray s 0 0 A) (F0 m 30 ls []) := by
    intro K
    induction K with
    | zero =>
      intro q H locs ls hk
      exact absurd hk (Nat.not_lt_zero _)
    | succ K ih_30 =>
      intro q H locs ls hk hP hD hS hl h2
      refine lv_iload hx hb dc_Mo_partners_30 (lv_at hl 0 rfl) ?_
      refine lv_iload hx hb dc_Mo_partners_32 (lv_at hl 1 rfl) ?_
      refine kn_icmp_ge hx hb (by omega) (by omega) dc_Mo_partners_34 rfl (fun hc34 => ?_) (fun hc34 => ?_)
      · have hin9 : q = mrs := by omega
        rw [hin9] at hl hP hD
        refine lv_iconst (v := nI 1) hx hb dc_Mo_partners_68 (by decide +kernel) ?_
        refine lv_istore (lv' := [(5, .int (nI 1)), (4, .int (nI mrs)), (3, .int (nI mtr)), (2, .int (nI (2 ^ pb))), (0, .ref o), (1, .int (nI j))]) hx hb dc_Mo_partners_69 hl (by decide) rfl (fun ls hl => ?_)
        have lp_71 : ∀ (K : Nat) (p0 : Nat) (u : Nat) (L : List Int32) (i : Nat) (v : Nat) (rk : Nat → Nat) (ik : Nat → Nat) (us1 : Nat → Bool) (H : Heap) (locs : List Loc) (ls : Array Slot), mct + 1 - p0 < K → va_P D kc_l [mo_c o mth mty x0 mat mfr mto mgd mrd x1 x2 x3 mhf mhp mcl mck mba mct x4 x5 x6 x7 x8 mst x9 x10 x11 x12 v i x13 x14 x15 x16 mwr x17 mfo, ar_n cI x4 33 fs, ar_i cI x6 264 fl, ar_b cZ x7 33 lb, ar_b cZ x8 33 kb, ar_n cI x13 8 rk, ar_n cI x14 8 ik, ar_b cZ x15 8 us1, ar_b cZ x16 33 (pt_lt lt u), ar_n cI x11 33 (va_up hc j (hc j + (L).length)), ar_i cI x12 6400 (pt_put hh (400 * (j - mba - 1) + hc j) (L))] H → va_D A [mo_c o mth mty x0 mat mfr mto mgd mrd x1 x2 x3 mhf mhp mcl mck mba mct x4 x5 x6 x7 x8 mst x9 x10 x11 x12 v i x13 x14 x15 x16 mwr x17 mfo, ar_n cI x4 33 fs, ar_i cI x6 264 fl, ar_b cZ x7 33 lb, ar_b cZ x8 33 kb, ar_n cI x13 8 rk, ar_n cI x14 8 ik, ar_b cZ x15 8 us1, ar_b cZ x16 33 (pt_lt lt u), ar_n cI x11 33 (va_up hc j (hc j + (L).length)), ar_i cI x12 6400 (pt_put hh (400 * (j - mba - 1) + hc j) (L))] → va_S A s.heap H locs → lv_has ls 8 [(5, .int (nI p0)), (4, .int (nI mrs)), (3, .int (nI mtr)), (2, .int (nI (2 ^ pb))), (0, .ref o), (1, .int (nI j))] → (pt_sp fs lv mk mct (2 ^ pb) mtr mrs (mct + 1 - p0) p0 u L i v (nb_op v) rk ik = pt_sp fs lv mk mct (2 ^ pb) mtr mrs mct 1 (pt_ru rs mrs) (pt_rl rs mrs) mrs mtr (nb_op mtr) rs im) → (1 ≤ p0 ∧ p0 ≤ mct + 1) → (pt_ok2 fs mct mrs mtr rk ik) → W p l e ({ frames := 4, cells := 0, slots := 0, locals := 84 } : Room) s m ([.ref o, .int (nI j)] : List Value).toArray below meth c H locs 0 0 (MQ below (kw_e (some (.int (kb_i ((pt_sp fs lv mk mct (2 ^ pb) mtr mrs mct 1 (pt_ru rs mrs) (pt_rl rs mrs) mrs mtr (nb_op mtr) rs im).1)))) D kc_l (fun ex : Nat → Bool => [mo_c o mth mty x0 mat mfr mto mgd mrd x1 x2 x3 mhf mhp mcl mck mba mct x4 x5 x6 x7 x8 mst x9 x10 x11 x12 ((pt_sp fs lv mk mct (2 ^ pb) mtr mrs mct 1 (pt_ru rs mrs) (pt_rl rs mrs) mrs mtr (nb_op mtr) rs im).2.2.2.2.1) ((pt_sp fs lv mk mct (2 ^ pb) mtr mrs mct 1 (pt_ru rs mrs) (pt_rl rs mrs) mrs mtr (nb_op mtr) rs im).2.2.2.1) x13 x14 x15 x16 mwr x17 mfo, ar_n cI x4 33 fs, ar_i cI x6 264 fl, ar_b cZ x7 33 lb, ar_b cZ x8 33 kb, ar_n cI x13 8 ((pt_sp fs lv mk mct (2 ^ pb) mtr mrs mct 1 (pt_ru rs mrs) (pt_rl rs mrs) mrs mtr (nb_op mtr) rs im).2.2.2.2.2.2.1), ar_n cI x14 8 ((pt_sp fs lv mk mct (2 ^ pb) mtr mrs mct 1 (pt_ru rs mrs) (pt_rl rs mrs) mrs mtr (nb_op mtr) rs im).2.2.2.2.2.2.2), ar_b cZ x15 8 ex, ar_b cZ x16 33 (pt_lt lt (pt_sp fs lv mk mct (2 ^ pb) mtr mrs mct 1 (pt_ru rs mrs) (pt_rl rs mrs) mrs mtr (nb_op mtr) rs im).2.1), ar_n cI x11 33 (va_up hc j (hc j + ((pt_sp fs lv mk mct (2 ^ pb) mtr mrs mct 1 (pt_ru rs mrs) (pt_rl rs mrs) mrs mtr (nb_op mtr) rs im).2.2.1).length)), ar_i cI x12 6400 (pt_put hh (400 * (j - mba - 1) + hc j) ((pt_sp fs lv mk mct (2 ^ pb) mtr mrs mct 1 (pt_ru rs mrs) (pt_rl rs mrs) mrs mtr (nb_op mtr) rs im).2.2.1))]) A) ([.ref o, .int (nI j)] : List Value).toArray s 0 0 A) (F0 m 71 ls []) := by
          intro K
          induction K with
          | zero =>
            intro p0 u L i v rk ik us1 H locs ls hk
            exact absurd hk (Nat.not_lt_zero _)
          | succ K ih_71 =>
            intro p0 u L i v rk ik us1 H locs ls hk hP hD hS hl h1 h2 h4
            refine lv_iload hx hb dc_Mo_partners_71 (lv_at hl 0 rfl) ?_
            refine lv_aload_n hx hb dc_Mo_partners_73 rfl (lv_at hl 4 rfl) ?_
            refine va_get (ci := 10) (v := .int (nI mct)) (C := rn_Mo) (T := fd_Mo) (N := 36) hx hb hts in_Mo hown hK hP 0 rfl rfl 16 (by decide) (hts _ wd_762) (fun _ h9 => h9) rfl dc_Mo_partners_74 ?_
            refine kn_icmp_gt hx hb (by omega) (by omega) dc_Mo_partners_77 rfl (fun hc77 => ?_) (fun hc77 => ?_)
            · refine lv_iconst (v := nI 1) hx hb dc_Mo_partners_189 (by decide +kernel) ?_
              refine kn_top (y := kb_i true) (by decide +kernel) ?_
              exact ke_zret (x := us1) hx hb hr hlocks hP hD hS dc_Mo_partners_190 (by rw [← h1, sp_en (by omega)]) (by rw [← h1, sp_en (by omega)])
            · refine lv_aload_n hx hb dc_Mo_partners_80 rfl (lv_at hl 4 rfl) ?_
              refine va_get (ci := 10) (v := .ref x7) (C := rn_Mo) (T := fd_Mo) (N := 36) hx hb hts in_Mo hown hK hP 0 rfl rfl 20 (by decide) (hts _ wd_766) (fun _ h9 => h9) rfl dc_Mo_partners_81 ?_
              refine lv_iload hx hb dc_Mo_partners_84 (lv_at hl 0 rfl) ?_
              refine ka_bald (t := lb) hx hb hK hP 3 1 rfl rfl (j := p0) (by omega) (by omega) dc_Mo_partners_86 ?_
              refine kb_if_eq hx hb dc_Mo_partners_87 rfl (fun hc87 => ?_) (fun hc87 => ?_)
              · have hlp : lv.testBit p0 = false := by rw [← hlb p0 (by omega) (by omega)]; exact hc87
                refine lv_iinc (k := 0) (v := nI (p0 + 1)) (lv' := [(5, .int (nI (p0 + 1))), (4, .int (nI mrs)), (3, .int (nI mtr)), (2, .int (nI (2 ^ pb))), (0, .ref o), (1, .int (nI j))]) hx hb dc_Mo_partners_183 hl rfl (nI_1 _) (by decide) rfl (fun ls hl => ?_)
                refine lv_goto hx hb dc_Mo_partners_186 rfl ?_
                exact ih_71 _ _ _ _ _ _ _ _ _ _ _ (by omega) hP hD hS hl (by rw [← h1]; exact (sp_no (by omega) (Or.inl hlp)).symm) (⟨by omega, by omega⟩) (h4)
              · refine lv_aload_n hx hb dc_Mo_partners_90 rfl (lv_at hl 4 rfl) ?_
                refine va_get (ci := 10) (v := .ref x4) (C := rn_Mo) (T := fd_Mo) (N := 36) hx hb hts in_Mo hown hK hP 0 rfl rfl 17 (by decide) (hts _ wd_763) (fun _ h9 => h9) rfl dc_Mo_partners_91 ?_
                refine lv_iload hx hb dc_Mo_partners_94 (lv_at hl 0 rfl) ?_
                refine ka_nald (t := fs) hx hb hK hP 1 0 rfl rfl (j := p0) (by omega) (by omega) dc_Mo_partners_96 ?_
                refine lv_iload_n hx hb dc_Mo_partners_97 rfl (lv_at hl 3 rfl) ?_
                refine kn_iand hx hb dc_Mo_partners_98 ?_
                refine kn_if_eq hx hb (Nat.lt_of_le_of_lt Nat.and_le_left (Nat.lt_trans (h16 p0) (by decide))) dc_Mo_partners_99 rfl (fun hc99 => ?_) (fun hc99 => ?_)
                · refine lv_iinc (k := 0) (v := nI (p0 + 1)) (lv' := [(5, .int (nI (p0 + 1))), (4, .int (nI mrs)), (3, .int (nI mtr)), (2, .int (nI (2 ^ pb))), (0, .ref o), (1, .int (nI j))]) hx hb dc_Mo_partners_183 hl rfl (nI_1 _) (by decide) rfl (fun ls hl => ?_)
                  refine lv_goto hx hb dc_Mo_partners_186 rfl ?_
                  exact ih_71 _ _ _ _ _ _ _ _ _ _ _ (by omega) hP hD hS hl (by rw [← h1]; exact (sp_no (by omega) (Or.inr hc99)).symm) (⟨by omega, by omega⟩) (h4)
                · have hlp : lv.testBit p0 = true := by rw [← hlb p0 (by omega) (by omega)]; exact hc87
                  have hpn : ¬ (lv.testBit p0 = false ∨ fs p0 &&& 2 ^ pb = 0) := fun q => q.elim (fun q1 => by rw [hlp] at q1; exact absurd q1 (by decide)) hc99
                  have hfit1 : hc j + (L ++ [-nI p0]).length ≤ 400 := by
                    have h9 : (L ++ [-nI p0]).length ≤ (pt_sp fs lv mk mct (2 ^ pb) mtr mrs (mct + 1 - p0) p0 u L i v (nb_op v) rk ik).2.2.1.length := sp_len1 (by omega) hpn
                    rw [h1] at h9
                    omega
                  have hfit2 : hc j + L.length + 1 ≤ 400 := by rw [List.length_append] at hfit1; simp only [List.length_singleton] at hfit1; omega
                  refine lv_aload_n hx hb dc_Mo_partners_102 rfl (lv_at hl 4 rfl) ?_
                  refine va_get (ci := 10) (v := .ref x4) (C := rn_Mo) (T := fd_Mo) (N := 36) hx hb hts in_Mo hown hK hP 0 rfl rfl 17 (by decide) (hts _ wd_763) (fun _ h9 => h9) rfl dc_Mo_partners_103 ?_
                  refine lv_iload hx hb dc_Mo_partners_106 (lv_at hl 0 rfl) ?_
                  refine ka_nald (t := fs) hx hb hK hP 1 0 rfl rfl (j := p0) (by omega) (by omega) dc_Mo_partners_108 ?_
                  refine lv_iload_n hx hb dc_Mo_partners_109 rfl (lv_at hl 3 rfl) ?_
                  refine lv_iconst (v := (-1)) hx hb dc_Mo_partners_110 (by decide +kernel) ?_
                  refine lv_ixor hx hb dc_Mo_partners_111 ?_
                  refine kn_inot hx hb dc_Mo_partners_112 ?_
                  refine lv_istore (lv' := [(6, .int (nI (nb_d (fs p0) (2 ^ pb)))), (5, .int (nI p0)), (4, .int (nI mrs)), (3, .int (nI mtr)), (2, .int (nI (2 ^ pb))), (0, .ref o), (1, .int (nI j))]) hx hb dc_Mo_partners_113 hl (by decide) rfl (fun ls hl => ?_)
                  refine lv_aload_n hx hb dc_Mo_partners_115 rfl (lv_at hl 5 rfl) ?_
                  refine va_get (ci := 10) (v := .ref x16) (C := rn_Mo) (T := fd_Mo) (N := 36) hx hb hts in_Mo hown hK hP 0 rfl rfl 32 (by decide) (hts _ wd_778) (fun _ h9 => h9) rfl dc_Mo_partners_116 ?_
                  refine lv_iload hx hb dc_Mo_partners_119 (lv_at hl 1 rfl) ?_
                  refine lv_iconst (v := nI 1) hx hb dc_Mo_partners_121 (by decide +kernel) ?_
                  refine kn_top (y := kb_i true) (by decide +kernel) ?_
                  refine ka_bast (t := pt_lt lt u) hx hb hK hP hD hS 8 1 rfl rfl (j := p0) (by omega) (by omega) dc_Mo_partners_122 (ws' := [mo_c o mth mty x0 mat mfr mto mgd mrd x1 x2 x3 mhf mhp mcl mck mba mct x4 x5 x6 x7 x8 mst x9 x10 x11 x12 v i x13 x14 x15 x16 mwr x17 mfo, ar_n cI x4 33 fs, ar_i cI x6 264 fl, ar_b cZ x7 33 lb, ar_b cZ x8 33 kb, ar_n cI x13 8 rk, ar_n cI x14 8 ik, ar_b cZ x15 8 us1, ar_b cZ x16 33 (va_up (pt_lt lt u) p0 true), ar_n cI x11 33 (va_up hc j (hc j + (L).length)), ar_i cI x12 6400 (pt_put hh (400 * (j - mba - 1) + hc j) (L))]) rfl (fun H locs hP hD hS => ?_)
                  refine lv_aload_n hx hb dc_Mo_partners_123 rfl (lv_at hl 5 rfl) ?_
                  refine lv_iload_n hx hb dc_Mo_partners_124 rfl (lv_at hl 6 rfl) ?_
                  refine lv_iload hx hb dc_Mo_partners_125 (lv_at hl 1 rfl) ?_
                  refine lv_ineg hx hb dc_Mo_partners_127 ?_
                  refine kw_call0 (wr := [ar_n cI x4 33 fs, ar_i cI x6 264 fl, ar_b cZ x7 33 lb, ar_b cZ x8 33 kb, ar_n cI x13 8 rk, ar_n cI x14 8 ik, ar_b cZ x15 8 us1, ar_b cZ x16 33 (va_up (pt_lt lt u) p0 true)]) (ws' := [mo_c o mth mty x0 mat mfr mto mgd mrd x1 x2 x3 mhf mhp mcl mck mba mct x4 x5 x6 x7 x8 mst x9 x10 x11 x12 v i x13 x14 x15 x16 mwr x17 mfo, ar_n cI x4 33 fs, ar_i cI x6 264 fl, ar_b cZ x7 33 lb, ar_b cZ x8 33 kb, ar_n cI x13 8 rk, ar_n cI x14 8 ik, ar_b cZ x15 8 us1, ar_b cZ x16 33 (va_up (pt_lt lt u) p0 true), ar_n cI x11 33 (va_up (va_up hc j (hc j + (L).length)) j ((va_up hc j (hc j + (L).length)) j + 1)), ar_i cI x12 6400 (upd (pt_put hh (400 * (j - mba - 1) + hc j) (L)) (400 * (j - mba - 1) + (va_up hc j (hc j + (L).length)) j) (-(nI p0)))]) (va_runV (As := [.int (nI j), .int (-(nI p0))]) (rest := []) ⟨hx, hb, hml, hown, hts⟩ (ct_Mo_say l D cI cZ _ o mth mty x0 mat mfr mto mgd mrd x1 x2 x3 mhf mhp mcl mck mba mct x4 x5 x6 x7 x8 mst x9 x10 x11 x12 v i x13 x14 x15 x16 mwr x17 mfo (va_up hc j (hc j + (L).length)) (pt_put hh (400 * (j - mba - 1) + hc j) (L)) j (-(nI p0)) (by omega) (by omega) (by omega) (by rw [va_up_self]; omega)) (cwV 2 hts (kx_gV wd_972 wd_974 (kx_sel (q := (yn_Mo_say, 36)) (List.mem_append_right _ (List.mem_append_right _ (List.mem_of_getElem? (i := 0) rfl)))) wd_9 wd_975) rfl rfl rfl ⟨rfl, yd_Mo_say⟩ ⟨Nat.le_of_ble_eq_true rfl, Nat.le_of_ble_eq_true rfl⟩) (kp_V (q0 := 0) (ci := 10) hP hD hK hN [0, 9, 10] rfl rfl rfl rfl rfl) rfl rfl hl.1 rfl (lv_room (Nat.le_of_ble_eq_true rfl)) dc_Mo_partners_128 ⟨Nat.le_of_ble_eq_true rfl, Nat.le_of_ble_eq_true rfl⟩) hP hD hS hA [0, 9, 10] [1, 2, 3, 4, 5, 6, 7, 8] [8, 0, 1, 2, 3, 4, 5, 6, 7, 9, 10] rfl rfl rfl (by decide) rfl rfl (fun H locs hP hD hS => ?_)
                  have hP : va_P D kc_l [mo_c o mth mty x0 mat mfr mto mgd mrd x1 x2 x3 mhf mhp mcl mck mba mct x4 x5 x6 x7 x8 mst x9 x10 x11 x12 v i x13 x14 x15 x16 mwr x17 mfo, ar_n cI x4 33 fs, ar_i cI x6 264 fl, ar_b cZ x7 33 lb, ar_b cZ x8 33 kb, ar_n cI x13 8 rk, ar_n cI x14 8 ik, ar_b cZ x15 8 us1, ar_b cZ x16 33 (va_up (pt_lt lt u) p0 true), ar_n cI x11 33 (va_up (va_up hc j (hc j + (L).length)) j ((va_up hc j (hc j + (L).length)) j + 1)), ar_i cI x12 6400 (upd (pt_put hh (400 * (j - mba - 1) + hc j) (L)) ((400 * (j - mba - 1) + hc j) + (L).length) (-nI p0))] H := by rw [show (400 * (j - mba - 1) + hc j) + (L).length = 400 * (j - mba - 1) + va_up hc j (hc j + (L).length) j by rw [va_up_self]; omega]; exact hP
                  have hD : va_D A [mo_c o mth mty x0 mat mfr mto mgd mrd x1 x2 x3 mhf mhp mcl mck mba mct x4 x5 x6 x7 x8 mst x9 x10 x11 x12 v i x13 x14 x15 x16 mwr x17 mfo, ar_n cI x4 33 fs, ar_i cI x6 264 fl, ar_b cZ x7 33 lb, ar_b cZ x8 33 kb, ar_n cI x13 8 rk, ar_n cI x14 8 ik, ar_b cZ x15 8 us1, ar_b cZ x16 33 (va_up (pt_lt lt u) p0 true), ar_n cI x11 33 (va_up (va_up hc j (hc j + (L).length)) j ((va_up hc j (hc j + (L).length)) j + 1)), ar_i cI x12 6400 (upd (pt_put hh (400 * (j - mba - 1) + hc j) (L)) ((400 * (j - mba - 1) + hc j) + (L).length) (-nI p0))] := by rw [show (400 * (j - mba - 1) + hc j) + (L).length = 400 * (j - mba - 1) + va_up hc j (hc j + (L).length) j by rw [va_up_self]; omega]; exact hD
                  have hP : va_P D kc_l [mo_c o mth mty x0 mat mfr mto mgd mrd x1 x2 x3 mhf mhp mcl mck mba mct x4 x5 x6 x7 x8 mst x9 x10 x11 x12 v i x13 x14 x15 x16 mwr x17 mfo, ar_n cI x4 33 fs, ar_i cI x6 264 fl, ar_b cZ x7 33 lb, ar_b cZ x8 33 kb, ar_n cI x13 8 rk, ar_n cI x14 8 ik, ar_b cZ x15 8 us1, ar_b cZ x16 33 (pt_lt lt (u ||| 2 ^ p0)), ar_n cI x11 33 (va_up hc j (hc j + (L ++ [-nI p0]).length)), ar_i cI x12 6400 (pt_put hh (400 * (j - mba - 1) + hc j) (L ++ [-nI p0]))] H := by rw [← ltf_s, ← cnt_s, ← put_s]; exact hP
                  have hD : va_D A [mo_c o mth mty x0 mat mfr mto mgd mrd x1 x2 x3 mhf mhp mcl mck mba mct x4 x5 x6 x7 x8 mst x9 x10 x11 x12 v i x13 x14 x15 x16 mwr x17 mfo, ar_n cI x4 33 fs, ar_i cI x6 264 fl, ar_b cZ x7 33 lb, ar_b cZ x8 33 kb, ar_n cI x13 8 rk, ar_n cI x14 8 ik, ar_b cZ x15 8 us1, ar_b cZ x16 33 (pt_lt lt (u ||| 2 ^ p0)), ar_n cI x11 33 (va_up hc j (hc j + (L ++ [-nI p0]).length)), ar_i cI x12 6400 (pt_put hh (400 * (j - mba - 1) + hc j) (L ++ [-nI p0]))] := by rw [← ltf_s, ← cnt_s, ← put_s]; exact hD
                  refine lv_iload hx hb dc_Mo_partners_131 (lv_at hl 0 rfl) ?_
                  refine lv_iload_n hx hb dc_Mo_partners_133 rfl (lv_at hl 3 rfl) ?_
                  refine kn_iand hx hb dc_Mo_partners_134 ?_
                  refine kn_if_ne hx hb (Nat.lt_of_le_of_lt Nat.and_le_left (Nat.lt_trans (nb_d_lt (n := 16) (h16 p0)) (by decide))) dc_Mo_partners_135 rfl (fun hc135 => ?_) (fun hc135 => ?_)
                  · refine lv_iinc (k := 1) (v := nI (p0 + 1)) (lv' := [(5, .int (nI (p0 + 1))), (6, .int (nI (nb_d (fs p0) (2 ^ pb)))), (4, .int (nI mrs)), (3, .int (nI mtr)), (2, .int (nI (2 ^ pb))), (0, .ref o), (1, .int (nI j))]) hx hb dc_Mo_partners_183 hl rfl (nI_1 _) (by decide) rfl (fun ls hl => ?_)
                    refine lv_goto hx hb dc_Mo_partners_186 rfl ?_
                    have hl := lv_sub (l' := [(5, .int (nI (p0 + 1))), (4, .int (nI mrs)), (3, .int (nI mtr)), (2, .int (nI (2 ^ pb))), (0, .ref o), (1, .int (nI j))]) hl [0, 2, 3, 4, 5, 6] rfl
                    exact ih_71 _ _ _ _ _ _ _ _ _ _ _ (by omega) hP hD hS hl (by rw [← h1]; exact (sp_true (by omega) hpn hc135).symm) (⟨by omega, by omega⟩) (h4)
                  · have ho16 : nb_d (fs p0) (2 ^ pb) < 65536 := nb_d_lt (n := 16) (h16 p0)
                    have hnt : (mtr ||| nb_op (nb_d (fs p0) (2 ^ pb))) < 65536 := Nat.or_lt_two_pow (n := 16) hcap.1 (nb_op_lt ho16)
                    have hcap9 : pt_cap mrs (mtr ||| nb_op (nb_d (fs p0) (2 ^ pb))) (nb_op (mtr ||| nb_op (nb_d (fs p0) (2 ^ pb)))) := ⟨hnt, rfl, by have := free_mono mtr (nb_op (nb_d (fs p0) (2 ^ pb))); have := hcap.2.2; omega⟩
                    refine lv_aload_n hx hb dc_Mo_partners_138 rfl (lv_at hl 5 rfl) ?_
                    refine lv_iload_n hx hb dc_Mo_partners_139 rfl (lv_at hl 3 rfl) ?_
                    refine lv_iload hx hb dc_Mo_partners_140 (lv_at hl 0 rfl) ?_
                    refine kr_call1 (va_runS (As := [.int (nI (nb_d (fs p0) (2 ^ pb)))]) (rest := [.int (nI mtr), .ref o]) ⟨hx, hb, hml, hown, hts⟩ (ct_Mo_opposite l D cI cZ _ (nb_d (fs p0) (2 ^ pb)) (nb_d_lt (n := 16) (h16 p0))) (cwS 1 hts (kx_gS wd_946 wd_947 wd_9 wd_948) rfl rfl rfl ⟨rfl, yd_Mo_opposite⟩ ⟨Nat.le_of_ble_eq_true rfl, Nat.le_of_ble_eq_true rfl⟩) (kp_S hP hD hK hN [] rfl rfl) rfl rfl hl.1 rfl (lv_room (Nat.le_of_ble_eq_true rfl)) dc_Mo_partners_142 ⟨Nat.le_of_ble_eq_true rfl, Nat.le_of_ble_eq_true rfl⟩) ?_
                    refine kn_ior hx hb dc_Mo_partners_145 ?_
                    refine va_put (ci := 10) (v := .int (nI (mtr ||| (nb_op (nb_d (fs p0) (2 ^ pb)))))) (ty := .int) (C := rn_Mo) (T := fd_Mo) (N := 36) hx hb hts in_Mo ty_Mo tk_Mo nm_Mo hown hK hP hD hS 0 rfl rfl 27 (by decide) (hts _ wd_773) (fun _ h9 => h9) rfl (by decide +kernel) rfl rfl (Nat.le_of_ble_eq_true rfl) dc_Mo_partners_146 (fun H locs hP hD hS => ?_)
                    have hP : va_P D kc_l [mo_c o mth mty x0 mat mfr mto mgd mrd x1 x2 x3 mhf mhp mcl mck mba mct x4 x5 x6 x7 x8 mst x9 x10 x11 x12 (mtr ||| (nb_op (nb_d (fs p0) (2 ^ pb)))) i x13 x14 x15 x16 mwr x17 mfo, ar_n cI x4 33 fs, ar_i cI x6 264 fl, ar_b cZ x7 33 lb, ar_b cZ x8 33 kb, ar_n cI x13 8 rk, ar_n cI x14 8 ik, ar_b cZ x15 8 us1, ar_b cZ x16 33 (pt_lt lt (u ||| 2 ^ p0)), ar_n cI x11 33 (va_up hc j (hc j + (L ++ [-nI p0]).length)), ar_i cI x12 6400 (pt_put hh (400 * (j - mba - 1) + hc j) (L ++ [-nI p0]))] H := hP
                    have hD : va_D A [mo_c o mth mty x0 mat mfr mto mgd mrd x1 x2 x3 mhf mhp mcl mck mba mct x4 x5 x6 x7 x8 mst x9 x10 x11 x12 (mtr ||| (nb_op (nb_d (fs p0) (2 ^ pb)))) i x13 x14 x15 x16 mwr x17 mfo, ar_n cI x4 33 fs, ar_i cI x6 264 fl, ar_b cZ x7 33 lb, ar_b cZ x8 33 kb, ar_n cI x13 8 rk, ar_n cI x14 8 ik, ar_b cZ x15 8 us1, ar_b cZ x16 33 (pt_lt lt (u ||| 2 ^ p0)), ar_n cI x11 33 (va_up hc j (hc j + (L ++ [-nI p0]).length)), ar_i cI x12 6400 (pt_put hh (400 * (j - mba - 1) + hc j) (L ++ [-nI p0]))] := hD
                    refine lv_aload_n hx hb dc_Mo_partners_149 rfl (lv_at hl 5 rfl) ?_
                    refine lv_iload hx hb dc_Mo_partners_150 (lv_at hl 2 rfl) ?_
                    refine va_put (ci := 10) (v := .int (nI mrs)) (ty := .int) (C := rn_Mo) (T := fd_Mo) (N := 36) hx hb hts in_Mo ty_Mo tk_Mo nm_Mo hown hK hP hD hS 0 rfl rfl 28 (by decide) (hts _ wd_774) (fun _ h9 => h9) rfl (by decide +kernel) rfl rfl (Nat.le_of_ble_eq_true rfl) dc_Mo_partners_152 (fun H locs hP hD hS => ?_)
                    have hP : va_P D kc_l [mo_c o mth mty x0 mat mfr mto mgd mrd x1 x2 x3 mhf mhp mcl mck mba mct x4 x5 x6 x7 x8 mst x9 x10 x11 x12 (mtr ||| (nb_op (nb_d (fs p0) (2 ^ pb)))) mrs x13 x14 x15 x16 mwr x17 mfo, ar_n cI x4 33 fs, ar_i cI x6 264 fl, ar_b cZ x7 33 lb, ar_b cZ x8 33 kb, ar_n cI x13 8 rk, ar_n cI x14 8 ik, ar_b cZ x15 8 us1, ar_b cZ x16 33 (pt_lt lt (u ||| 2 ^ p0)), ar_n cI x11 33 (va_up hc j (hc j + (L ++ [-nI p0]).length)), ar_i cI x12 6400 (pt_put hh (400 * (j - mba - 1) + hc j) (L ++ [-nI p0]))] H := hP
                    have hD : va_D A [mo_c o mth mty x0 mat mfr mto mgd mrd x1 x2 x3 mhf mhp mcl mck mba mct x4 x5 x6 x7 x8 mst x9 x10 x11 x12 (mtr ||| (nb_op (nb_d (fs p0) (2 ^ pb)))) mrs x13 x14 x15 x16 mwr x17 mfo, ar_n cI x4 33 fs, ar_i cI x6 264 fl, ar_b cZ x7 33 lb, ar_b cZ x8 33 kb, ar_n cI x13 8 rk, ar_n cI x14 8 ik, ar_b cZ x15 8 us1, ar_b cZ x16 33 (pt_lt lt (u ||| 2 ^ p0)), ar_n cI x11 33 (va_up hc j (hc j + (L ++ [-nI p0]).length)), ar_i cI x12 6400 (pt_put hh (400 * (j - mba - 1) + hc j) (L ++ [-nI p0]))] := hD
                    refine lv_aload_n hx hb dc_Mo_partners_155 rfl (lv_at hl 5 rfl) ?_
                    refine kw_call1 (wr := [ar_i cI x6 264 fl, ar_b cZ x15 8 us1, ar_b cZ x16 33 (pt_lt lt (u ||| 2 ^ p0)), ar_n cI x11 33 (va_up hc j (hc j + (L ++ [-nI p0]).length)), ar_i cI x12 6400 (pt_put hh (400 * (j - mba - 1) + hc j) (L ++ [-nI p0]))]) (ws' := [mo_c o mth mty x0 mat mfr mto mgd mrd x1 x2 x3 mhf mhp mcl mck mba mct x4 x5 x6 x7 x8 mst x9 x10 x11 x12 ((pt_prop fs lv mk mct 9 mrs (mtr ||| (nb_op (nb_d (fs p0) (2 ^ pb)))) (nb_op (mtr ||| (nb_op (nb_d (fs p0) (2 ^ pb))))) rk ik).2.2.1) ((pt_prop fs lv mk mct 9 mrs (mtr ||| (nb_op (nb_d (fs p0) (2 ^ pb)))) (nb_op (mtr ||| (nb_op (nb_d (fs p0) (2 ^ pb))))) rk ik).2.1) x13 x14 x15 x16 mwr x17 mfo, ar_n cI x4 33 fs, ar_i cI x6 264 fl, ar_b cZ x7 33 lb, ar_b cZ x8 33 kb, ar_n cI x13 8 ((pt_prop fs lv mk mct 9 mrs (mtr ||| (nb_op (nb_d (fs p0) (2 ^ pb)))) (nb_op (mtr ||| (nb_op (nb_d (fs p0) (2 ^ pb))))) rk ik).2.2.2.2.1), ar_n cI x14 8 ((pt_prop fs lv mk mct 9 mrs (mtr ||| (nb_op (nb_d (fs p0) (2 ^ pb)))) (nb_op (mtr ||| (nb_op (nb_d (fs p0) (2 ^ pb))))) rk ik).2.2.2.2.2), ar_b cZ x15 8 us1, ar_b cZ x16 33 (pt_lt lt (u ||| 2 ^ p0)), ar_n cI x11 33 (va_up hc j (hc j + (L ++ [-nI p0]).length)), ar_i cI x12 6400 (pt_put hh (400 * (j - mba - 1) + hc j) (L ++ [-nI p0]))]) (va_runV (As := []) (rest := []) ⟨hx, hb, hml, hown, hts⟩ (ct_Mo_propagate l D cI cZ _ o mth mty x0 mat mfr mto mgd mrd x1 x2 x3 mhf mhp mcl mck mba mct x4 x5 x6 x7 x8 mst x9 x10 x11 x12 (mtr ||| (nb_op (nb_d (fs p0) (2 ^ pb)))) mrs x13 x14 x15 x16 mwr x17 mfo fs lb kb rk ik lv mk (hct) (h16) (hlb) (hkb) (hcap9)) (cwV 0 hts (kx_gV wd_949 wd_951 (kx_sel (q := (yn_Mo_propagate, 36)) (List.mem_append_right _ (List.mem_append_left _ (List.mem_of_getElem? (i := 11) rfl)))) wd_9 wd_952) rfl rfl rfl ⟨rfl, yd_Mo_propagate⟩ ⟨Nat.le_of_ble_eq_true rfl, Nat.le_of_ble_eq_true rfl⟩) (kp_V (q0 := 0) (ci := 10) hP hD hK hN [0, 1, 3, 4, 5, 6] rfl rfl rfl rfl rfl) rfl rfl hl.1 rfl (lv_room (Nat.le_of_ble_eq_true rfl)) dc_Mo_partners_156 ⟨Nat.le_of_ble_eq_true rfl, Nat.le_of_ble_eq_true rfl⟩) hP hD hS hA [0, 1, 3, 4, 5, 6] [2, 7, 8, 9, 10] [5, 6, 0, 7, 8, 9, 10, 1, 2, 3, 4] rfl rfl rfl (by decide) rfl rfl (fun H locs hP hD hS => ?_)
                    have hpo := prop_ok (lv := lv) (mk := mk) (cn := mct) h16 9 mrs (mtr ||| nb_op (nb_d (fs p0) (2 ^ pb))) (nb_op (mtr ||| nb_op (nb_d (fs p0) (2 ^ pb)))) rk ik ⟨hcap9, fun k hk => ⟨(h4 k hk).1, (h4 k hk).2.1⟩⟩
                    have hp2 := prop_ok2 (lv := lv) (mk := mk) (cn := mct) h16 9 mrs (mtr ||| nb_op (nb_d (fs p0) (2 ^ pb))) (nb_op (mtr ||| nb_op (nb_d (fs p0) (2 ^ pb)))) rk ik hcap9 (ok2_or h4)
                    generalize hRe : pt_prop fs lv mk mct 9 mrs (mtr ||| nb_op (nb_d (fs p0) (2 ^ pb))) (nb_op (mtr ||| nb_op (nb_d (fs p0) (2 ^ pb)))) rk ik = RR at hpo hp2 hP hD ⊢
                    have hr32 : RR.1 ≤ 32 := by have := hpo.1; omega
                    have hrn8 := aok_n hpo.2.2
                    refine lv_istore (lv' := [(7, .int (nI RR.1)), (6, .int (nI (nb_d (fs p0) (2 ^ pb)))), (5, .int (nI p0)), (4, .int (nI mrs)), (3, .int (nI mtr)), (2, .int (nI (2 ^ pb))), (0, .ref o), (1, .int (nI j))]) hx hb dc_Mo_partners_159 hl (by decide) rfl (fun ls hl => ?_)
                    refine lv_iload hx hb dc_Mo_partners_161 (lv_at hl 0 rfl) ?_
                    refine kn_if_ne hx hb (by omega) dc_Mo_partners_163 rfl (fun hc163 => ?_) (fun hc163 => ?_)
                    · have hgo := sp_go (u := u) (L := L) (n := i) (t := v) (f := nb_op v) (by omega) hpn hc135 hRe hc163
                      have hcf0 : ∀ q, q < RR.2.1 → ¬ RR.1 = RR.2.2.2.2.1 q := fun q hq z => (hp2.1 q hq).2.2.2.1 (by rw [← z]; exact hp2.2.1 hc163)
                      have hus9 : ∀ q, q < RR.2.1 → pt_flg fs RR.2.2.2.2.1 RR.2.2.2.2.2 RR.2.1 (fs RR.1) us1 q = (pt_used fs RR.2.2.2.2.1 RR.2.2.2.2.2 RR.2.1 (2 ^ RR.1) (fs RR.1)).testBit (RR.2.2.2.2.1 q) := flg_used _ _ _ _ (fun q hq => by rw [Nat.testBit_two_pow, decide_eq_false (hcf0 q hq)]) (fun a b h8 h9 => (hp2.1 b h9).2.2.2.2 a h8)
                      have hfit3 : hc j + (L ++ [-nI p0]).length + (pt_exs RR.2.2.2.2.1 (pt_used fs RR.2.2.2.2.1 RR.2.2.2.2.2 RR.2.1 (2 ^ RR.1) (fs RR.1)) mrs (RR.2.1 - mrs) ++ [nI RR.1]).length ≤ 400 := by
                        have h9 := sp_len (fs := fs) (lv := lv) (mk := mk) (cn := mct) (pv := 2 ^ pb) (rc := mtr) (n0 := mrs) (mct + 1 - (p0 + 1)) (p0 + 1) (u ||| 2 ^ p0 ||| pt_used fs RR.2.2.2.2.1 RR.2.2.2.2.2 RR.2.1 (2 ^ RR.1) (fs RR.1)) (L ++ [-nI p0] ++ (pt_exs RR.2.2.2.2.1 (pt_used fs RR.2.2.2.2.1 RR.2.2.2.2.2 RR.2.1 (2 ^ RR.1) (fs RR.1)) mrs (RR.2.1 - mrs) ++ [nI RR.1])) RR.2.1 RR.2.2.1 RR.2.2.2.1 RR.2.2.2.2.1 RR.2.2.2.2.2
                        rw [← hgo, h1] at h9
                        rw [List.length_append (bs := pt_exs RR.2.2.2.2.1 (pt_used fs RR.2.2.2.2.1 RR.2.2.2.2.2 RR.2.1 (2 ^ RR.1) (fs RR.1)) mrs (RR.2.1 - mrs) ++ [nI RR.1])] at h9
                        omega
                      refine lv_aload_n hx hb dc_Mo_partners_168 rfl (lv_at hl 6 rfl) ?_
                      refine lv_iload hx hb dc_Mo_partners_169 (lv_at hl 0 rfl) ?_
                      refine kw_call0 (wr := [ar_i cI x6 264 fl, ar_b cZ x7 33 lb, ar_b cZ x8 33 kb, ar_n cI x11 33 (va_up hc j (hc j + (L ++ [-nI p0]).length)), ar_i cI x12 6400 (pt_put hh (400 * (j - mba - 1) + hc j) (L ++ [-nI p0]))]) (ws' := [mo_c o mth mty x0 mat mfr mto mgd mrd x1 x2 x3 mhf mhp mcl mck mba mct x4 x5 x6 x7 x8 mst x9 x10 x11 x12 RR.2.2.1 RR.2.1 x13 x14 x15 x16 mwr x17 mfo, ar_n cI x4 33 fs, ar_i cI x6 264 fl, ar_b cZ x7 33 lb, ar_b cZ x8 33 kb, ar_n cI x13 8 RR.2.2.2.2.1, ar_n cI x14 8 RR.2.2.2.2.2, ar_b cZ x15 8 (pt_flg fs RR.2.2.2.2.1 RR.2.2.2.2.2 RR.2.1 (fs RR.1) us1), ar_b cZ x16 33 (pt_lt (pt_lt lt (u ||| 2 ^ p0)) (pt_used fs RR.2.2.2.2.1 RR.2.2.2.2.2 RR.2.1 (2 ^ RR.1) (fs RR.1))), ar_n cI x11 33 (va_up hc j (hc j + (L ++ [-nI p0]).length)), ar_i cI x12 6400 (pt_put hh (400 * (j - mba - 1) + hc j) (L ++ [-nI p0]))]) (va_runV (As := [.int (nI RR.1)]) (rest := []) ⟨hx, hb, hml, hown, hts⟩ (ct_Mo_use l D cI cZ _ o mth mty x0 mat mfr mto mgd mrd x1 x2 x3 mhf mhp mcl mck mba mct x4 x5 x6 x7 x8 mst x9 x10 x11 x12 RR.2.2.1 RR.2.1 x13 x14 x15 x16 mwr x17 mfo fs RR.2.2.2.2.1 RR.2.2.2.2.2 us1 (pt_lt lt (u ||| 2 ^ p0)) RR.1 (hpo.2.2.1.1) (hrn8) (hr32) (fun k hk => ⟨by have := (hp2.1 k hk).1; omega, (hp2.1 k hk).2.1, (hp2.1 k hk).2.2.1⟩)) (cwV 1 hts (kx_gV wd_964 wd_966 (kx_sel (q := (yn_Mo_use, 36)) (List.mem_append_right _ (List.mem_append_left _ (List.mem_of_getElem? (i := 14) rfl)))) wd_9 wd_967) rfl rfl rfl ⟨rfl, yd_Mo_use⟩ ⟨Nat.le_of_ble_eq_true rfl, Nat.le_of_ble_eq_true rfl⟩) (kp_V (q0 := 0) (ci := 10) hP hD hK hN [0, 1, 5, 6, 7, 8] rfl rfl rfl rfl rfl) rfl rfl hl.1 rfl (lv_room (Nat.le_of_ble_eq_true rfl)) dc_Mo_partners_171 ⟨Nat.le_of_ble_eq_true rfl, Nat.le_of_ble_eq_true rfl⟩) hP hD hS hA [0, 1, 5, 6, 7, 8] [2, 3, 4, 9, 10] [5, 6, 0, 1, 2, 7, 8, 9, 10, 3, 4] rfl rfl rfl (by decide) rfl rfl (fun H locs hP hD hS => ?_)
                      refine lv_aload_n hx hb dc_Mo_partners_174 rfl (lv_at hl 6 rfl) ?_
                      refine lv_iload_n hx hb dc_Mo_partners_175 rfl (lv_at hl 7 rfl) ?_
                      refine lv_iload hx hb dc_Mo_partners_176 (lv_at hl 3 rfl) ?_
                      refine lv_iload hx hb dc_Mo_partners_178 (lv_at hl 0 rfl) ?_
                      refine kw_call0 (wr := [ar_n cI x4 33 fs, ar_i cI x6 264 fl, ar_b cZ x7 33 lb, ar_b cZ x8 33 kb, ar_n cI x14 8 RR.2.2.2.2.2, ar_b cZ x16 33 (pt_lt (pt_lt lt (u ||| 2 ^ p0)) (pt_used fs RR.2.2.2.2.1 RR.2.2.2.2.2 RR.2.1 (2 ^ RR.1) (fs RR.1)))]) (ws' := [mo_c o mth mty x0 mat mfr mto mgd mrd x1 x2 x3 mhf mhp mcl mck mba mct x4 x5 x6 x7 x8 mst x9 x10 x11 x12 RR.2.2.1 RR.2.1 x13 x14 x15 x16 mwr x17 mfo, ar_n cI x4 33 fs, ar_i cI x6 264 fl, ar_b cZ x7 33 lb, ar_b cZ x8 33 kb, ar_n cI x13 8 RR.2.2.2.2.1, ar_n cI x14 8 RR.2.2.2.2.2, ar_b cZ x15 8 (pt_flg fs RR.2.2.2.2.1 RR.2.2.2.2.2 RR.2.1 (fs RR.1) us1), ar_b cZ x16 33 (pt_lt (pt_lt lt (u ||| 2 ^ p0)) (pt_used fs RR.2.2.2.2.1 RR.2.2.2.2.2 RR.2.1 (2 ^ RR.1) (fs RR.1))), ar_n cI x11 33 (va_up (va_up hc j (hc j + (L ++ [-nI p0]).length)) j ((va_up hc j (hc j + (L ++ [-nI p0]).length)) j + (pt_exs RR.2.2.2.2.1 (pt_used fs RR.2.2.2.2.1 RR.2.2.2.2.2 RR.2.1 (2 ^ RR.1) (fs RR.1)) mrs (RR.2.1 - mrs) ++ [nI RR.1]).length)), ar_i cI x12 6400 (pt_put (pt_put hh (400 * (j - mba - 1) + hc j) (L ++ [-nI p0])) (400 * (j - mba - 1) + (va_up hc j (hc j + (L ++ [-nI p0]).length)) j) (pt_exs RR.2.2.2.2.1 (pt_used fs RR.2.2.2.2.1 RR.2.2.2.2.2 RR.2.1 (2 ^ RR.1) (fs RR.1)) mrs (RR.2.1 - mrs) ++ [nI RR.1]))]) (va_runV (As := [.int (nI j), .int (nI mrs), .int (nI RR.1)]) (rest := []) ⟨hx, hb, hml, hown, hts⟩ (ct_Mo_sayUsed l D cI cZ _ o mth mty x0 mat mfr mto mgd mrd x1 x2 x3 mhf mhp mcl mck mba mct x4 x5 x6 x7 x8 mst x9 x10 x11 x12 RR.2.2.1 RR.2.1 x13 x14 x15 x16 mwr x17 mfo RR.2.2.2.2.1 (pt_flg fs RR.2.2.2.2.1 RR.2.2.2.2.2 RR.2.1 (fs RR.1) us1) (va_up hc j (hc j + (L ++ [-nI p0]).length)) (pt_put hh (400 * (j - mba - 1) + hc j) (L ++ [-nI p0])) j mrs RR.1 (pt_used fs RR.2.2.2.2.1 RR.2.2.2.2.2 RR.2.1 (2 ^ RR.1) (fs RR.1)) (hj1) (hj2) (hj3) (hrn8) (hpo.2.1) (hr32) (fun q _ hq => hus9 q hq) (by rw [va_up_self]; have h8 := List.length_append (as := pt_exs RR.2.2.2.2.1 (pt_used fs RR.2.2.2.2.1 RR.2.2.2.2.2 RR.2.1 (2 ^ RR.1) (fs RR.1)) mrs (RR.2.1 - mrs)) (bs := [nI RR.1]); simp only [List.length_singleton] at h8; omega)) (cwV 3 hts (kx_gV wd_968 wd_970 (kx_sel (q := (yn_Mo_sayUsed, 36)) (List.mem_append_right _ (List.mem_append_left _ (List.mem_of_getElem? (i := 15) rfl)))) wd_9 wd_971) rfl rfl rfl ⟨rfl, yd_Mo_sayUsed⟩ ⟨Nat.le_of_ble_eq_true rfl, Nat.le_of_ble_eq_true rfl⟩) (kp_V (q0 := 0) (ci := 10) hP hD hK hN [0, 5, 7, 9, 10] rfl rfl rfl rfl rfl) rfl rfl hl.1 rfl (lv_room (Nat.le_of_ble_eq_true rfl)) dc_Mo_partners_180 ⟨Nat.le_of_ble_eq_true rfl, Nat.le_of_ble_eq_true rfl⟩) hP hD hS hA [0, 5, 7, 9, 10] [1, 2, 3, 4, 6, 8] [6, 0, 1, 2, 3, 7, 4, 8, 5, 9, 10] rfl rfl rfl (by decide) rfl rfl (fun H locs hP hD hS => ?_)
                      have hP : va_P D kc_l [mo_c o mth mty x0 mat mfr mto mgd mrd x1 x2 x3 mhf mhp mcl mck mba mct x4 x5 x6 x7 x8 mst x9 x10 x11 x12 RR.2.2.1 RR.2.1 x13 x14 x15 x16 mwr x17 mfo, ar_n cI x4 33 fs, ar_i cI x6 264 fl, ar_b cZ x7 33 lb, ar_b cZ x8 33 kb, ar_n cI x13 8 RR.2.2.2.2.1, ar_n cI x14 8 RR.2.2.2.2.2, ar_b cZ x15 8 (pt_flg fs RR.2.2.2.2.1 RR.2.2.2.2.2 RR.2.1 (fs RR.1) us1), ar_b cZ x16 33 (pt_lt (pt_lt lt (u ||| 2 ^ p0)) (pt_used fs RR.2.2.2.2.1 RR.2.2.2.2.2 RR.2.1 (2 ^ RR.1) (fs RR.1))), ar_n cI x11 33 (va_up (va_up hc j (hc j + (L ++ [-nI p0]).length)) j ((va_up hc j (hc j + (L ++ [-nI p0]).length)) j + (pt_exs RR.2.2.2.2.1 (pt_used fs RR.2.2.2.2.1 RR.2.2.2.2.2 RR.2.1 (2 ^ RR.1) (fs RR.1)) mrs (RR.2.1 - mrs) ++ [nI RR.1]).length)), ar_i cI x12 6400 (pt_put (pt_put hh (400 * (j - mba - 1) + hc j) (L ++ [-nI p0])) ((400 * (j - mba - 1) + hc j) + (L ++ [-nI p0]).length) (pt_exs RR.2.2.2.2.1 (pt_used fs RR.2.2.2.2.1 RR.2.2.2.2.2 RR.2.1 (2 ^ RR.1) (fs RR.1)) mrs (RR.2.1 - mrs) ++ [nI RR.1]))] H := by rw [show (400 * (j - mba - 1) + hc j) + (L ++ [-nI p0]).length = 400 * (j - mba - 1) + va_up hc j (hc j + (L ++ [-nI p0]).length) j by rw [va_up_self]; omega]; exact hP
                      have hD : va_D A [mo_c o mth mty x0 mat mfr mto mgd mrd x1 x2 x3 mhf mhp mcl mck mba mct x4 x5 x6 x7 x8 mst x9 x10 x11 x12 RR.2.2.1 RR.2.1 x13 x14 x15 x16 mwr x17 mfo, ar_n cI x4 33 fs, ar_i cI x6 264 fl, ar_b cZ x7 33 lb, ar_b cZ x8 33 kb, ar_n cI x13 8 RR.2.2.2.2.1, ar_n cI x14 8 RR.2.2.2.2.2, ar_b cZ x15 8 (pt_flg fs RR.2.2.2.2.1 RR.2.2.2.2.2 RR.2.1 (fs RR.1) us1), ar_b cZ x16 33 (pt_lt (pt_lt lt (u ||| 2 ^ p0)) (pt_used fs RR.2.2.2.2.1 RR.2.2.2.2.2 RR.2.1 (2 ^ RR.1) (fs RR.1))), ar_n cI x11 33 (va_up (va_up hc j (hc j + (L ++ [-nI p0]).length)) j ((va_up hc j (hc j + (L ++ [-nI p0]).length)) j + (pt_exs RR.2.2.2.2.1 (pt_used fs RR.2.2.2.2.1 RR.2.2.2.2.2 RR.2.1 (2 ^ RR.1) (fs RR.1)) mrs (RR.2.1 - mrs) ++ [nI RR.1]).length)), ar_i cI x12 6400 (pt_put (pt_put hh (400 * (j - mba - 1) + hc j) (L ++ [-nI p0])) ((400 * (j - mba - 1) + hc j) + (L ++ [-nI p0]).length) (pt_exs RR.2.2.2.2.1 (pt_used fs RR.2.2.2.2.1 RR.2.2.2.2.2 RR.2.1 (2 ^ RR.1) (fs RR.1)) mrs (RR.2.1 - mrs) ++ [nI RR.1]))] := by rw [show (400 * (j - mba - 1) + hc j) + (L ++ [-nI p0]).length = 400 * (j - mba - 1) + va_up hc j (hc j + (L ++ [-nI p0]).length) j by rw [va_up_self]; omega]; exact hD
                      refine lv_iinc (k := 2) (v := nI (p0 + 1)) (lv' := [(5, .int (nI (p0 + 1))), (7, .int (nI RR.1)), (6, .int (nI (nb_d (fs p0) (2 ^ pb)))), (4, .int (nI mrs)), (3, .int (nI mtr)), (2, .int (nI (2 ^ pb))), (0, .ref o), (1, .int (nI j))]) hx hb dc_Mo_partners_183 hl rfl (nI_1 _) (by decide) rfl (fun ls hl => ?_)
                      refine lv_goto hx hb dc_Mo_partners_186 rfl ?_
                      have hP : va_P D kc_l [mo_c o mth mty x0 mat mfr mto mgd mrd x1 x2 x3 mhf mhp mcl mck mba mct x4 x5 x6 x7 x8 mst x9 x10 x11 x12 RR.2.2.1 RR.2.1 x13 x14 x15 x16 mwr x17 mfo, ar_n cI x4 33 fs, ar_i cI x6 264 fl, ar_b cZ x7 33 lb, ar_b cZ x8 33 kb, ar_n cI x13 8 RR.2.2.2.2.1, ar_n cI x14 8 RR.2.2.2.2.2, ar_b cZ x15 8 (pt_flg fs RR.2.2.2.2.1 RR.2.2.2.2.2 RR.2.1 (fs RR.1) us1), ar_b cZ x16 33 (pt_lt lt (u ||| 2 ^ p0 ||| pt_used fs RR.2.2.2.2.1 RR.2.2.2.2.2 RR.2.1 (2 ^ RR.1) (fs RR.1))), ar_n cI x11 33 (va_up hc j (hc j + (L ++ [-nI p0] ++ (pt_exs RR.2.2.2.2.1 (pt_used fs RR.2.2.2.2.1 RR.2.2.2.2.2 RR.2.1 (2 ^ RR.1) (fs RR.1)) mrs (RR.2.1 - mrs) ++ [nI RR.1])).length)), ar_i cI x12 6400 (pt_put hh (400 * (j - mba - 1) + hc j) (L ++ [-nI p0] ++ (pt_exs RR.2.2.2.2.1 (pt_used fs RR.2.2.2.2.1 RR.2.2.2.2.2 RR.2.1 (2 ^ RR.1) (fs RR.1)) mrs (RR.2.1 - mrs) ++ [nI RR.1])))] H := by rw [← lt_or, ← cnt_app, ← put_app]; exact hP
                      have hD : va_D A [mo_c o mth mty x0 mat mfr mto mgd mrd x1 x2 x3 mhf mhp mcl mck mba mct x4 x5 x6 x7 x8 mst x9 x10 x11 x12 RR.2.2.1 RR.2.1 x13 x14 x15 x16 mwr x17 mfo, ar_n cI x4 33 fs, ar_i cI x6 264 fl, ar_b cZ x7 33 lb, ar_b cZ x8 33 kb, ar_n cI x13 8 RR.2.2.2.2.1, ar_n cI x14 8 RR.2.2.2.2.2, ar_b cZ x15 8 (pt_flg fs RR.2.2.2.2.1 RR.2.2.2.2.2 RR.2.1 (fs RR.1) us1), ar_b cZ x16 33 (pt_lt lt (u ||| 2 ^ p0 ||| pt_used fs RR.2.2.2.2.1 RR.2.2.2.2.2 RR.2.1 (2 ^ RR.1) (fs RR.1))), ar_n cI x11 33 (va_up hc j (hc j + (L ++ [-nI p0] ++ (pt_exs RR.2.2.2.2.1 (pt_used fs RR.2.2.2.2.1 RR.2.2.2.2.2 RR.2.1 (2 ^ RR.1) (fs RR.1)) mrs (RR.2.1 - mrs) ++ [nI RR.1])).length)), ar_i cI x12 6400 (pt_put hh (400 * (j - mba - 1) + hc j) (L ++ [-nI p0] ++ (pt_exs RR.2.2.2.2.1 (pt_used fs RR.2.2.2.2.1 RR.2.2.2.2.2 RR.2.1 (2 ^ RR.1) (fs RR.1)) mrs (RR.2.1 - mrs) ++ [nI RR.1])))] := by rw [← lt_or, ← cnt_app, ← put_app]; exact hD
                      have hl := lv_sub (l' := [(5, .int (nI (p0 + 1))), (4, .int (nI mrs)), (3, .int (nI mtr)), (2, .int (nI (2 ^ pb))), (0, .ref o), (1, .int (nI j))]) hl [0, 3, 4, 5, 6, 7] rfl
                      exact ih_71 _ _ _ _ _ _ _ _ _ _ _ (by omega) hP hD hS hl (by rw [← h1, hgo, ← hp2.2.2.2.2]) (⟨by omega, by omega⟩) (fun k hk => by rw [(hp2.2.2.1 k hk).1, (hp2.2.2.1 k hk).2]; exact ⟨(h4 k hk).1, (h4 k hk).2.1, (h4 k hk).2.2.1, (h4 k hk).2.2.2.1, fun i9 hi9 => by rw [(hp2.2.2.1 i9 (by omega)).1]; exact (h4 k hk).2.2.2.2 i9 hi9⟩)
                    · refine lv_iconst (v := nI 0) hx hb dc_Mo_partners_166 (by decide +kernel) ?_
                      refine kn_top (y := kb_i false) (by decide +kernel) ?_
                      exact ke_zret (x := us1) hx hb hr hlocks hP hD hS dc_Mo_partners_167 (by rw [← h1, sp_bad (by omega) hpn hc135 (by rw [hRe]; exact hc163)]) (by rw [← h1, sp_bad (by omega) hpn hc135 (by rw [hRe]; exact hc163), hRe])
        exact lp_71 _ 1 (pt_ru rs mrs) (pt_rl rs mrs) mrs mtr rs im us _ _ _ (Nat.lt_succ_self _) hP hD hS hl (rfl) (⟨by omega, by omega⟩) (hok)
      · refine lv_aload_n hx hb dc_Mo_partners_37 rfl (lv_at hl 4 rfl) ?_
        refine lv_iload_n hx hb dc_Mo_partners_38 rfl (lv_at hl 5 rfl) ?_
        refine lv_aload_n hx hb dc_Mo_partners_39 rfl (lv_at hl 4 rfl) ?_
        refine va_get (ci := 10) (v := .ref x13) (C := rn_Mo) (T := fd_Mo) (N := 36) hx hb hts in_Mo hown hK hP 0 rfl rfl 29 (by decide) (hts _ wd_775) (fun _ h9 => h9) rfl dc_Mo_partners_40 ?_
        refine lv_iload hx hb dc_Mo_partners_43 (lv_at hl 0 rfl) ?_
        refine ka_nald (t := rs) hx hb hK hP 5 0 rfl rfl (j := q) (by omega) (by omega) dc_Mo_partners_45 ?_
        refine kw_call0 (wr := [ar_n cI x4 33 fs, ar_i cI x6 264 fl, ar_b cZ x7 33 lb, ar_b cZ x8 33 kb, ar_n cI x13 8 rs, ar_n cI x14 8 im, ar_b cZ x15 8 us, ar_b cZ x16 33 (pt_lt lt (pt_ru rs q))]) (ws' := [mo_c o mth mty x0 mat mfr mto mgd mrd x1 x2 x3 mhf mhp mcl mck mba mct x4 x5 x6 x7 x8 mst x9 x10 x11 x12 mtr mrs x13 x14 x15 x16 mwr x17 mfo, ar_n cI x4 33 fs, ar_i cI x6 264 fl, ar_b cZ x7 33 lb, ar_b cZ x8 33 kb, ar_n cI x13 8 rs, ar_n cI x14 8 im, ar_b cZ x15 8 us, ar_b cZ x16 33 (pt_lt lt (pt_ru rs q)), ar_n cI x11 33 (va_up (va_up hc j (hc j + (pt_rl rs q).length)) j ((va_up hc j (hc j + (pt_rl rs q).length)) j + 1)), ar_i cI x12 6400 (upd (pt_put hh (400 * (j - mba - 1) + hc j) (pt_rl rs q)) (400 * (j - mba - 1) + (va_up hc j (hc j + (pt_rl rs q).length)) j) (nI (rs q)))]) (va_runV (As := [.int (nI j), .int (nI (rs q))]) (rest := []) ⟨hx, hb, hml, hown, hts⟩ (ct_Mo_say l D cI cZ _ o mth mty x0 mat mfr mto mgd mrd x1 x2 x3 mhf mhp mcl mck mba mct x4 x5 x6 x7 x8 mst x9 x10 x11 x12 mtr mrs x13 x14 x15 x16 mwr x17 mfo (va_up hc j (hc j + (pt_rl rs q).length)) (pt_put hh (400 * (j - mba - 1) + hc j) (pt_rl rs q)) j (nI (rs q)) (by omega) (by omega) (by omega) (by rw [va_up_self, rl_len]; omega)) (cwV 2 hts (kx_gV wd_972 wd_974 (kx_sel (q := (yn_Mo_say, 36)) (List.mem_append_right _ (List.mem_append_right _ (List.mem_of_getElem? (i := 0) rfl)))) wd_9 wd_975) rfl rfl rfl ⟨rfl, yd_Mo_say⟩ ⟨Nat.le_of_ble_eq_true rfl, Nat.le_of_ble_eq_true rfl⟩) (kp_V (q0 := 0) (ci := 10) hP hD hK hN [0, 9, 10] rfl rfl rfl rfl rfl) rfl rfl hl.1 rfl (lv_room (Nat.le_of_ble_eq_true rfl)) dc_Mo_partners_46 ⟨Nat.le_of_ble_eq_true rfl, Nat.le_of_ble_eq_true rfl⟩) hP hD hS hA [0, 9, 10] [1, 2, 3, 4, 5, 6, 7, 8] [8, 0, 1, 2, 3, 4, 5, 6, 7, 9, 10] rfl rfl rfl (by decide) rfl rfl (fun H locs hP hD hS => ?_)
        have hP : va_P D kc_l [mo_c o mth mty x0 mat mfr mto mgd mrd x1 x2 x3 mhf mhp mcl mck mba mct x4 x5 x6 x7 x8 mst x9 x10 x11 x12 mtr mrs x13 x14 x15 x16 mwr x17 mfo, ar_n cI x4 33 fs, ar_i cI x6 264 fl, ar_b cZ x7 33 lb, ar_b cZ x8 33 kb, ar_n cI x13 8 rs, ar_n cI x14 8 im, ar_b cZ x15 8 us, ar_b cZ x16 33 (pt_lt lt (pt_ru rs q)), ar_n cI x11 33 (va_up (va_up hc j (hc j + (pt_rl rs q).length)) j ((va_up hc j (hc j + (pt_rl rs q).length)) j + 1)), ar_i cI x12 6400 (upd (pt_put hh (400 * (j - mba - 1) + hc j) (pt_rl rs q)) ((400 * (j - mba - 1) + hc j) + (pt_rl rs q).length) (nI (rs q)))] H := by rw [show (400 * (j - mba - 1) + hc j) + (pt_rl rs q).length = 400 * (j - mba - 1) + va_up hc j (hc j + (pt_rl rs q).length) j by rw [va_up_self]; omega]; exact hP
        have hD : va_D A [mo_c o mth mty x0 mat mfr mto mgd mrd x1 x2 x3 mhf mhp mcl mck mba mct x4 x5 x6 x7 x8 mst x9 x10 x11 x12 mtr mrs x13 x14 x15 x16 mwr x17 mfo, ar_n cI x4 33 fs, ar_i cI x6 264 fl, ar_b cZ x7 33 lb, ar_b cZ x8 33 kb, ar_n cI x13 8 rs, ar_n cI x14 8 im, ar_b cZ x15 8 us, ar_b cZ x16 33 (pt_lt lt (pt_ru rs q)), ar_n cI x11 33 (va_up (va_up hc j (hc j + (pt_rl rs q).length)) j ((va_up hc j (hc j + (pt_rl rs q).length)) j + 1)), ar_i cI x12 6400 (upd (pt_put hh (400 * (j - mba - 1) + hc j) (pt_rl rs q)) ((400 * (j - mba - 1) + hc j) + (pt_rl rs q).length) (nI (rs q)))] := by rw [show (400 * (j - mba - 1) + hc j) + (pt_rl rs q).length = 400 * (j - mba - 1) + va_up hc j (hc j + (pt_rl rs q).length) j by rw [va_up_self]; omega]; exact hD
        refine lv_aload_n hx hb dc_Mo_partners_49 rfl (lv_at hl 4 rfl) ?_
        refine va_get (ci := 10) (v := .ref x16) (C := rn_Mo) (T := fd_Mo) (N := 36) hx hb hts in_Mo hown hK hP 0 rfl rfl 32 (by decide) (hts _ wd_778) (fun _ h9 => h9) rfl dc_Mo_partners_50 ?_
        refine lv_aload_n hx hb dc_Mo_partners_53 rfl (lv_at hl 4 rfl) ?_
        refine va_get (ci := 10) (v := .ref x13) (C := rn_Mo) (T := fd_Mo) (N := 36) hx hb hts in_Mo hown hK hP 0 rfl rfl 29 (by decide) (hts _ wd_775) (fun _ h9 => h9) rfl dc_Mo_partners_54 ?_
        refine lv_iload hx hb dc_Mo_partners_57 (lv_at hl 0 rfl) ?_
        refine ka_nald (t := rs) hx hb hK hP 5 0 rfl rfl (j := q) (by omega) (by omega) dc_Mo_partners_59 ?_
        refine lv_iconst (v := nI 1) hx hb dc_Mo_partners_60 (by decide +kernel) ?_
        refine kn_top (y := kb_i true) (by decide +kernel) ?_
        refine ka_bast (t := pt_lt lt (pt_ru rs q)) hx hb hK hP hD hS 8 1 rfl rfl (j := rs q) (by have := (hok q (by omega)).1; omega) (by omega) dc_Mo_partners_61 (ws' := [mo_c o mth mty x0 mat mfr mto mgd mrd x1 x2 x3 mhf mhp mcl mck mba mct x4 x5 x6 x7 x8 mst x9 x10 x11 x12 mtr mrs x13 x14 x15 x16 mwr x17 mfo, ar_n cI x4 33 fs, ar_i cI x6 264 fl, ar_b cZ x7 33 lb, ar_b cZ x8 33 kb, ar_n cI x13 8 rs, ar_n cI x14 8 im, ar_b cZ x15 8 us, ar_b cZ x16 33 (va_up (pt_lt lt (pt_ru rs q)) (rs q) true), ar_n cI x11 33 (va_up (va_up hc j (hc j + (pt_rl rs q).length)) j ((va_up hc j (hc j + (pt_rl rs q).length)) j + 1)), ar_i cI x12 6400 (upd (pt_put hh (400 * (j - mba - 1) + hc j) (pt_rl rs q)) ((400 * (j - mba - 1) + hc j) + (pt_rl rs q).length) (nI (rs q)))]) rfl (fun H locs hP hD hS => ?_)
        refine lv_iinc (k := 0) (v := nI (q + 1)) (lv' := [(5, .int (nI (q + 1))), (4, .int (nI mrs)), (3, .int (nI mtr)), (2, .int (nI (2 ^ pb))), (0, .ref o), (1, .int (nI j))]) hx hb dc_Mo_partners_62 hl rfl (nI_1 _) (by decide) rfl (fun ls hl => ?_)
        refine lv_goto hx hb dc_Mo_partners_65 rfl ?_
        have hP : va_P D kc_l [mo_c o mth mty x0 mat mfr mto mgd mrd x1 x2 x3 mhf mhp mcl mck mba mct x4 x5 x6 x7 x8 mst x9 x10 x11 x12 mtr mrs x13 x14 x15 x16 mwr x17 mfo, ar_n cI x4 33 fs, ar_i cI x6 264 fl, ar_b cZ x7 33 lb, ar_b cZ x8 33 kb, ar_n cI x13 8 rs, ar_n cI x14 8 im, ar_b cZ x15 8 us, ar_b cZ x16 33 (pt_lt lt (pt_ru rs (q + 1))), ar_n cI x11 33 (va_up hc j (hc j + (pt_rl rs (q + 1)).length)), ar_i cI x12 6400 (pt_put hh (400 * (j - mba - 1) + hc j) (pt_rl rs (q + 1)))] H := by rw [show pt_ru rs (q + 1) = pt_ru rs q ||| 2 ^ rs q from rfl, ← ltf_s, show pt_rl rs (q + 1) = pt_rl rs q ++ [nI (rs q)] from rfl, ← cnt_s, ← put_s]; exact hP
        have hD : va_D A [mo_c o mth mty x0 mat mfr mto mgd mrd x1 x2 x3 mhf mhp mcl mck mba mct x4 x5 x6 x7 x8 mst x9 x10 x11 x12 mtr mrs x13 x14 x15 x16 mwr x17 mfo, ar_n cI x4 33 fs, ar_i cI x6 264 fl, ar_b cZ x7 33 lb, ar_b cZ x8 33 kb, ar_n cI x13 8 rs, ar_n cI x14 8 im, ar_b cZ x15 8 us, ar_b cZ x16 33 (pt_lt lt (pt_ru rs (q + 1))), ar_n cI x11 33 (va_up hc j (hc j + (pt_rl rs (q + 1)).length)), ar_i cI x12 6400 (pt_put hh (400 * (j - mba - 1) + hc j) (pt_rl rs (q + 1)))] := by rw [show pt_ru rs (q + 1) = pt_ru rs q ||| 2 ^ rs q from rfl, ← ltf_s, show pt_rl rs (q + 1) = pt_rl rs q ++ [nI (rs q)] from rfl, ← cnt_s, ← put_s]; exact hD
        exact ih_30 _ _ _ _ (by omega) hP hD hS hl (by omega)
  exact lp_30 _ 0 _ _ _ (Nat.lt_succ_self _) hP hD hS hl (by omega)
