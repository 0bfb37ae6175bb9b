/-! the law: what holds at its entry -/
theorem kl_of {w : Cond} (h : w ∈ tables_1) : w ∈ lw_tbl := List.mem_append_right _ h
theorem kl_1 {w : Cond} (i : Nat) (h : tables_1_1[i]? = some w) : w ∈ lw_tbl := kl_of (List.mem_append_left _ (List.mem_of_getElem? h))
theorem kl_2 {w : Cond} (i : Nat) (h : tables_1_2[i]? = some w) : w ∈ lw_tbl := kl_of (List.mem_append_right _ (List.mem_append_left _ (List.mem_of_getElem? h)))
theorem kl_3 {w : Cond} (i : Nat) (h : tables_1_3[i]? = some w) : w ∈ lw_tbl := kl_of (List.mem_append_right _ (List.mem_append_right _ (List.mem_append_left _ (List.mem_of_getElem? h))))
theorem kl_4 {w : Cond} (i : Nat) (h : tables_1_4[i]? = some w) : w ∈ lw_tbl := kl_of (List.mem_append_right _ (List.mem_append_right _ (List.mem_append_right _ (List.mem_append_left _ (List.mem_of_getElem? h)))))
theorem kl_5 {w : Cond} (i : Nat) (h : tables_1_5[i]? = some w) : w ∈ lw_tbl := kl_of (List.mem_append_right _ (List.mem_append_right _ (List.mem_append_right _ (List.mem_append_right _ (List.mem_of_getElem? h)))))
theorem kl_all {args : Array Value} {s : State} (hts : ∀ w ∈ lw_tbl, w.before args s = true) : ∀ w ∈ kx_all, w.before args s = true := fun w h => hts w (List.mem_filter.mp h).1
theorem lw_N {args : Array Value} {s : State} (hts : ∀ w ∈ lw_tbl, w.before args s = true) : kx_N s := ⟨List.forall_mem_cons.mpr ⟨va_Nw.of rfl (hts _ (kl_1 39 rfl)), List.forall_mem_cons.mpr ⟨va_Nw.of rfl (hts _ (kl_1 40 rfl)), List.forall_mem_cons.mpr ⟨va_Nw.of rfl (hts _ (kl_1 41 rfl)), List.forall_mem_cons.mpr ⟨va_Nw.of rfl (hts _ (kl_1 64 rfl)), List.forall_mem_cons.mpr ⟨va_Nw.of rfl (hts _ (kl_1 65 rfl)), List.forall_mem_cons.mpr ⟨va_Nw.of rfl (hts _ (kl_1 66 rfl)), List.forall_mem_cons.mpr ⟨va_Nw.of rfl (hts _ (kl_1 67 rfl)), List.forall_mem_cons.mpr ⟨va_Nw.of rfl (hts _ (kl_1 69 rfl)), List.forall_mem_cons.mpr ⟨va_Nw.of rfl (hts _ (kl_1 70 rfl)), List.forall_mem_cons.mpr ⟨va_Nw.of rfl (hts _ (kl_1 71 rfl)), List.forall_mem_cons.mpr ⟨va_Nw.of rfl (hts _ (kl_1 74 rfl)), List.forall_mem_cons.mpr ⟨va_Nw.of rfl (hts _ (kl_1 75 rfl)), List.forall_mem_cons.mpr ⟨va_Nw.of rfl (hts _ (kl_1 76 rfl)), List.forall_mem_cons.mpr ⟨va_Nw.of rfl (hts _ (kl_1 77 rfl)), List.forall_mem_cons.mpr ⟨va_Nw.of rfl (hts _ (kl_1 88 rfl)), List.forall_mem_cons.mpr ⟨va_Nw.of rfl (hts _ (kl_1 89 rfl)), List.forall_mem_cons.mpr ⟨va_Nw.of rfl (hts _ (kl_1 91 rfl)), List.forall_mem_cons.mpr ⟨va_Nw.of rfl (hts _ (kl_1 107 rfl)), List.forall_mem_cons.mpr ⟨va_Nw.of rfl (hts _ (kl_1 108 rfl)), List.forall_mem_cons.mpr ⟨va_Nw.of rfl (hts _ (kl_1 109 rfl)), List.forall_mem_cons.mpr ⟨va_Nw.of rfl (hts _ (kl_1 111 rfl)), List.forall_mem_cons.mpr ⟨va_Nw.of rfl (hts _ (kl_1 112 rfl)), List.forall_mem_cons.mpr ⟨va_Nw.of rfl (hts _ (kl_1 113 rfl)), List.forall_mem_cons.mpr ⟨va_Nw.of rfl (hts _ (kl_1 115 rfl)), List.forall_mem_cons.mpr ⟨va_Nw.of rfl (hts _ (kl_1 116 rfl)), List.forall_mem_cons.mpr ⟨va_Nw.of rfl (hts _ (kl_1 117 rfl)), List.forall_mem_cons.mpr ⟨va_Nw.of rfl (hts _ (kl_1 119 rfl)), List.forall_mem_cons.mpr ⟨va_Nw.of rfl (hts _ (kl_1 140 rfl)), List.forall_mem_cons.mpr ⟨va_Nw.of rfl (hts _ (kl_1 141 rfl)), List.forall_mem_cons.mpr ⟨va_Nw.of rfl (hts _ (kl_1 142 rfl)), List.forall_mem_cons.mpr ⟨va_Nw.of rfl (hts _ (kl_1 144 rfl)), List.forall_mem_cons.mpr ⟨va_Nw.of rfl (hts _ (kl_1 165 rfl)), List.forall_mem_cons.mpr ⟨va_Nw.of rfl (hts _ (kl_1 168 rfl)), List.forall_mem_cons.mpr ⟨va_Nw.of rfl (hts _ (kl_1 170 rfl)), List.forall_mem_cons.mpr ⟨va_Nw.of rfl (hts _ (kl_1 171 rfl)), fun _ h => absurd h List.not_mem_nil⟩⟩⟩⟩⟩⟩⟩⟩⟩⟩⟩⟩⟩⟩⟩⟩⟩⟩⟩⟩⟩⟩⟩⟩⟩⟩⟩⟩⟩⟩⟩⟩⟩⟩⟩, List.forall_mem_cons.mpr ⟨va_Nw.of rfl (hts _ (kl_2 174 rfl)), List.forall_mem_cons.mpr ⟨va_Nw.of rfl (hts _ (kl_3 68 rfl)), List.forall_mem_cons.mpr ⟨va_Nw.of rfl (hts _ (kl_3 76 rfl)), List.forall_mem_cons.mpr ⟨va_Nw.of rfl (hts _ (kl_3 77 rfl)), List.forall_mem_cons.mpr ⟨va_Nw.of rfl (hts _ (kl_3 120 rfl)), List.forall_mem_cons.mpr ⟨va_Nw.of rfl (hts _ (kl_3 122 rfl)), List.forall_mem_cons.mpr ⟨va_Nw.of rfl (hts _ (kl_3 131 rfl)), List.forall_mem_cons.mpr ⟨va_Nw.of rfl (hts _ (kl_3 139 rfl)), List.forall_mem_cons.mpr ⟨va_Nw.of rfl (hts _ (kl_3 164 rfl)), List.forall_mem_cons.mpr ⟨va_Nw.of rfl (hts _ (kl_3 174 rfl)), List.forall_mem_cons.mpr ⟨va_Nw.of rfl (hts _ (kl_3 223 rfl)), List.forall_mem_cons.mpr ⟨va_Nw.of rfl (hts _ (kl_3 224 rfl)), List.forall_mem_cons.mpr ⟨va_Nw.of rfl (hts _ (kl_3 226 rfl)), List.forall_mem_cons.mpr ⟨va_Nw.of rfl (hts _ (kl_3 231 rfl)), List.forall_mem_cons.mpr ⟨va_Nw.of rfl (hts _ (kl_4 7 rfl)), fun _ h => absurd h List.not_mem_nil⟩⟩⟩⟩⟩⟩⟩⟩⟩⟩⟩⟩⟩⟩⟩⟩
def lw_tm : Nat → Term := fun i => match i with
  | 0 => .string "ProofTrimmer$Draft" 33
  | 1 => .string "ProofTrimmer$Draft" 41
  | _ => .string "ProofTrimmer$Draft" 58
set_option maxHeartbeats 4000000 in
theorem lw_F {args : Array Value} {s : State} {A : Nat → Prop} (hts : ∀ w ∈ lw_tbl, w.before args s = true) (hpre : (Jvm.Cond.and given_1 narrow_1).before args s = true) (hA : ∀ a : Nat, a < s.heap.size → ¬ A a) : ∃ X Y : Nat → Nat, kf X Y A s s.heap := by
  have hs := flat_of_before _ hpre
  obtain ⟨a1, a2, h1, h2⟩ := vk_Sof (args := args) (s := s) (N := 3) (tm := lw_tm) (len := [1, 3, 1]) (byt := [[112], [99, 110, 102], [100]]) (A := A)
   (fun i hi => by
    match i, hi with
    | 0, _ => decide
    | 1, _ => decide
    | 2, _ => decide
    | i + 3, h => omega) (fun i hi => by
    match i, hi with
    | 0, _ => exact hs _ (by decide +kernel)
    | 1, _ => exact hs _ (by decide +kernel)
    | 2, _ => exact hs _ (by decide +kernel)
    | i + 3, h => omega) (fun i hi => by
    match i, hi with
    | 0, _ => exact hs _ (by decide +kernel)
    | 1, _ => exact hs _ (by decide +kernel)
    | 2, _ => exact hs _ (by decide +kernel)
    | i + 3, h => omega) (fun i hi => by
    match i, hi with
    | 0, _ => exact hs _ (by decide +kernel)
    | 1, _ => exact hs _ (by decide +kernel)
    | 2, _ => exact hs _ (by decide +kernel)
    | i + 3, h => omega) (fun i hi => by
    match i, hi with
    | 0, _ => exact hs _ (by decide +kernel)
    | 1, _ => exact hs _ (by decide +kernel)
    | 2, _ => exact hs _ (by decide +kernel)
    | i + 3, h => omega)
   (fun i hi j hj => by
    match i, hi, j, hj with
    | 0, _, 0, _ => exact hs _ (by decide +kernel)
    | 1, _, 0, _ => exact hs _ (by decide +kernel)
    | 1, _, 1, _ => exact hs _ (by decide +kernel)
    | 1, _, 2, _ => exact hs _ (by decide +kernel)
    | 2, _, 0, _ => exact hs _ (by decide +kernel)
    | 0, _, j + 1, h => exact absurd h (by simp)
    | 1, _, j + 3, h => exact absurd h (by simp)
    | 2, _, j + 1, h => exact absurd h (by simp)
    | i + 3, h, _, _ => omega)
   (fun i j hi hj hij => by
    match i, j, hi, hj with
    | 0, 0, _, _ => exact absurd rfl hij
    | 0, 1, _, _ => exact Or.inl (hs _ (by decide +kernel))
    | 0, 2, _, _ => exact Or.inl (hs _ (by decide +kernel))
    | 1, 0, _, _ => exact Or.inr (hs _ (by decide +kernel))
    | 1, 1, _, _ => exact absurd rfl hij
    | 1, 2, _, _ => exact Or.inl (hs _ (by decide +kernel))
    | 2, 0, _, _ => exact Or.inr (hs _ (by decide +kernel))
    | 2, 1, _, _ => exact Or.inr (hs _ (by decide +kernel))
    | 2, 2, _, _ => exact absurd rfl hij
    | i + 3, _, h, _ => omega
    | _, j + 3, _, h => omega) hA
  obtain ⟨t3, -, -, -, q3, -⟩ := Cond.exactly_spec (args := args) (first := s) (o := none) (s := s) (idx := []) (t := .string "ProofTrimmer" 77) (cls := "java/lang/String") (hs _ (by decide +kernel))
  obtain ⟨t4, -, -, -, q4, -⟩ := Cond.exactly_spec (args := args) (first := s) (o := none) (s := s) (idx := []) (t := .string "ProofTrimmer" 111) (cls := "java/lang/String") (hs _ (by decide +kernel))
  obtain ⟨t5, -, -, -, q5, -⟩ := Cond.exactly_spec (args := args) (first := s) (o := none) (s := s) (idx := []) (t := .string "ProofTrimmer" 121) (cls := "java/lang/String") (hs _ (by decide +kernel))
  obtain ⟨t6, -, -, -, q6, -⟩ := Cond.exactly_spec (args := args) (first := s) (o := none) (s := s) (idx := []) (t := .string "ProofTrimmer" 127) (cls := "java/lang/String") (hs _ (by decide +kernel))
  obtain ⟨t7, -, -, -, q7, -⟩ := Cond.exactly_spec (args := args) (first := s) (o := none) (s := s) (idx := []) (t := .string "ProofTrimmer" 190) (cls := "java/lang/String") (hs _ (by decide +kernel))
  refine ⟨fun k => match k with | 3 => t3 | 4 => t4 | 5 => t5 | 6 => t6 | 7 => t7 | k => a1 k, a2, ⟨fun i hi => ?_, fun i j hi hj h => ?_⟩, fun k q hq => ?_, ?_, ?_, ⟨?_, ?_⟩, ⟨?_, ?_⟩, ?_, ?_, ?_⟩
  · match i, hi with
    | 0, _ => exact h1.1 0 (by decide)
    | 1, _ => exact h1.1 1 (by decide)
    | 2, _ => exact h1.1 2 (by decide)
    | i + 3, h => omega
  · refine h1.2 i j hi hj ?_
    match i, j, hi, hj, h with
    | 0, 0, _, _, h => exact h
    | 0, 1, _, _, h => exact h
    | 0, 2, _, _, h => exact h
    | 1, 0, _, _, h => exact h
    | 1, 1, _, _, h => exact h
    | 1, 2, _, _, h => exact h
    | 2, 0, _, _, h => exact h
    | 2, 1, _, _, h => exact h
    | 2, 2, _, _, h => exact h
    | i + 3, _, h, _, _ => omega
    | _, j + 3, _, h, _ => omega
  · match k, hq with
    | 0, hq => cases hq; exact vk_R.of (hts _ (kl_2 95 rfl)) (h2 0 (by decide))
    | 1, hq => cases hq; exact vk_R.of (hts _ (kl_2 152 rfl)) (h2 1 (by decide))
    | 2, hq => cases hq; exact vk_R.of (hts _ (kl_3 61 rfl)) (h2 2 (by decide))
    | 3, hq => cases hq; exact vk_R.of (hts _ (kl_2 221 rfl)) q3
    | 4, hq => cases hq; exact vk_R.of (hts _ (kl_3 41 rfl)) q4
    | 5, hq => cases hq; exact vk_R.of (hts _ (kl_3 62 rfl)) q5
    | 6, hq => cases hq; exact vk_R.of (hts _ (kl_3 89 rfl)) q6
    | 7, hq => cases hq; exact vk_R.of (hts _ (kl_3 190 rfl)) q7
    | k + 8, hq => cases hq
  · exact va_Zof (hts _ (kl_2 109 rfl)) (hts _ (kl_1 11 rfl)) (va_eqt (hs _ (by decide +kernel))) hA
  · exact va_Zqof (hts _ (kl_2 125 rfl)) (hts _ (kl_1 13 rfl)) (hs _ (by decide +kernel)) hA
  · exact va_Zqof (hts _ (kl_2 208 rfl)) (hts _ (kl_1 15 rfl)) (hs _ (by decide +kernel)) hA
  · obtain ⟨ci, k, i, f, a, cell, g1, g2, g3, g4, g5, g6, g7, g8, g9⟩ := Cond.laysStatic_spec (hts _ (kl_2 208 rfl))
    exact ⟨ci, k, i, f, a, cell, g1, g2, g3, g4, g5, g6, g7, g8, g9, hA a (Array.getElem?_eq_some_iff.mp g5).1⟩
  · exact va_Zqof (hts _ (kl_2 210 rfl)) (hts _ (kl_1 15 rfl)) (hs _ (by decide +kernel)) hA
  · obtain ⟨ci, k, i, f, a, cell, g1, g2, g3, g4, g5, g6, g7, g8, g9⟩ := Cond.laysStatic_spec (hts _ (kl_2 210 rfl))
    exact ⟨ci, k, i, f, a, cell, g1, g2, g3, g4, g5, g6, g7, g8, g9, hA a (Array.getElem?_eq_some_iff.mp g5).1⟩
  · exact List.forall_mem_cons.mpr ⟨va_Nw.of rfl (hts _ (kl_2 185 rfl)), List.forall_mem_cons.mpr ⟨va_Nw.of rfl (hts _ (kl_2 187 rfl)), List.forall_mem_cons.mpr ⟨va_Nw.of rfl (hts _ (kl_2 189 rfl)), fun _ h => absurd h List.not_mem_nil⟩⟩⟩
  · exact List.forall_mem_cons.mpr ⟨va_Nw.of rfl (hts _ (kl_2 183 rfl)), List.forall_mem_cons.mpr ⟨va_Nw.of rfl (hts _ (kl_3 34 rfl)), fun _ h => absurd h List.not_mem_nil⟩⟩
  · exact va_Nc.of (hs _ (by decide +kernel))
theorem lw_Ar {args : Array Value} {s : State} {ty : FieldType} (h : (Cond.arrayClass ty).before args s = true) : ∃ cA : ClassId, ArrOfT s cA ty ∧ s.vm.findClass ("[" ++ ty.toString) = some cA := by
  obtain ⟨cA, kA, comp, h1, h2, h3⟩ := Cond.arrayClass_spec h
  exact ⟨cA, fun n z => ⟨fun k h => (by cases h), kA, h2, comp, h3⟩, h1⟩
theorem lw_Kn {args : Array Value} {s : State} (hts : ∀ w ∈ kx_all, w.before args s = true) : ∃ (D : va_G) (cI cZ : ClassId), va_K D kc_l [(cI, .int), (cZ, .boolean)] s := by
  have h : ∀ c : Nat, ∃ d : ClassId × (Nat → Nat), ∀ q : vw_C, kc_l[c]? = some q → u_Kn s q.1 q.2.1 q.2.2 d.1 d.2 := by
    intro c
    match c with
    | 0 => obtain ⟨a, b, h⟩ := u_known (T := fd_Tx) (N := 2) hts in_Tx (hts _ wd_32); exact ⟨(a, b), fun q hq => by cases hq; exact h⟩
    | 1 => obtain ⟨a, b, h⟩ := u_known (T := fd_Wd) (N := 3) hts in_Wd (hts _ wd_305); exact ⟨(a, b), fun q hq => by cases hq; exact h⟩
    | 2 => obtain ⟨a, b, h⟩ := u_known (T := fd_Cl) (N := 4) hts in_Cl (hts _ wd_55); exact ⟨(a, b), fun q hq => by cases hq; exact h⟩
    | 3 => obtain ⟨a, b, h⟩ := u_known (T := fd_Dr) (N := 2) hts in_Dr (hts _ wd_49); exact ⟨(a, b), fun q hq => by cases hq; exact h⟩
    | 4 => obtain ⟨a, b, h⟩ := u_known (T := fd_Sp) (N := 4) hts in_Sp (hts _ wd_101); exact ⟨(a, b), fun q hq => by cases hq; exact h⟩
    | 5 => obtain ⟨a, b, h⟩ := u_known (T := fd_Tr) (N := 6) hts in_Tr (hts _ wd_130); exact ⟨(a, b), fun q hq => by cases hq; exact h⟩
    | 6 => obtain ⟨a, b, h⟩ := u_known (T := fd_As) (N := 5) hts in_As (hts _ wd_159); exact ⟨(a, b), fun q hq => by cases hq; exact h⟩
    | 7 => obtain ⟨a, b, h⟩ := u_known (T := fd_Ck) (N := 5) hts in_Ck (hts _ wd_571); exact ⟨(a, b), fun q hq => by cases hq; exact h⟩
    | 8 => obtain ⟨a, b, h⟩ := u_known (T := fd_Vf) (N := 7) hts in_Vf (hts _ wd_672); exact ⟨(a, b), fun q hq => by cases hq; exact h⟩
    | 9 => obtain ⟨a, b, h⟩ := u_known (T := fd_Pt) (N := 10) hts in_Pt (hts _ wd_24); exact ⟨(a, b), fun q hq => by cases hq; exact h⟩
    | 10 => obtain ⟨a, b, h⟩ := u_known (T := fd_Mo) (N := 36) hts in_Mo (hts _ wd_741); exact ⟨(a, b), fun q hq => by cases hq; exact h⟩
    | c + 11 => obtain ⟨a, b, h⟩ := u_known (T := fd_Pt) (N := 10) hts in_Pt (hts _ wd_24); exact ⟨(a, b), fun q hq => by cases hq⟩
  obtain ⟨f, hf⟩ := Classical.axiomOfChoice h
  obtain ⟨cI, i1, i2⟩ := lw_Ar (hts _ wd_47)
  obtain ⟨cZ, z1, z2⟩ := lw_Ar (hts _ wd_97)
  refine ⟨(fun c => (f c).1, fun c => (f c).2), cI, cZ, fun c q hq => hf c q hq, fun k q hq => ?_⟩
  match k, hq with
  | 0, hq => cases hq; exact ⟨i1, i2⟩
  | 1, hq => cases hq; exact ⟨z1, z2⟩
  | k + 2, hq => cases hq
