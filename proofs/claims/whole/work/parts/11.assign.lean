/-! an assignment: what is true, what is false, the reasons -/
def pt_rdy (x t f : Nat) : Bool := decide (x &&& t = 0) && decide (nb_d x f &&& (nb_d x f - 1) = 0)
/-- the clauses used in a conflict, over k reasons yet, u found, lk looked at -/
def pt_used (fs rs im : Nat → Nat) : Nat → Nat → Nat → Nat
  | 0, u, _ => u
  | k + 1, u, lk => if lk &&& nb_op (im k) = 0 then pt_used fs rs im k u lk else pt_used fs rs im k (u ||| 2 ^ rs k) (lk ||| fs (rs k))
/-- the live clauses after k steps from step i on -/
def pt_live (dl : Nat → Bool) (nu : Nat → Nat) : Nat → Nat → Nat → Nat
  | 0, _, lv => lv
  | k + 1, i, lv => pt_live dl nu k (i + 1) (if dl i = true then nb_d lv (2 ^ nu i) else lv ||| 2 ^ nu i)
theorem live_st {dl : Nat → Bool} {nu : Nat → Nat} {n i lv : Nat} (h : i ≤ n) : pt_live dl nu (n + 1 - i) i lv = pt_live dl nu (n + 1 - (i + 1)) (i + 1) (if dl i = true then nb_d lv (2 ^ nu i) else lv ||| 2 ^ nu i) := by
  obtain ⟨k, hk⟩ : ∃ k, n + 1 - i = k + 1 := ⟨n - i, by omega⟩
  have hk2 : n + 1 - (i + 1) = k := by omega
  rw [hk, hk2, pt_live]
theorem live_d {dl : Nat → Bool} {nu : Nat → Nat} {n i lv : Nat} (h : i ≤ n) (hd : dl i = true) : pt_live dl nu (n + 1 - i) i lv = pt_live dl nu (n + 1 - (i + 1)) (i + 1) (nb_d lv (2 ^ nu i)) := by
  rw [live_st h, if_pos hd]
theorem live_a {dl : Nat → Bool} {nu : Nat → Nat} {n i lv : Nat} (h : i ≤ n) (hd : dl i = false) : pt_live dl nu (n + 1 - i) i lv = pt_live dl nu (n + 1 - (i + 1)) (i + 1) (lv ||| 2 ^ nu i) := by
  rw [live_st h, if_neg (by rw [hd]; decide)]
theorem live_en {dl : Nat → Bool} {nu : Nat → Nat} {n i lv : Nat} (h : n < i) : pt_live dl nu (n + 1 - i) i lv = lv := by
  rw [show n + 1 - i = 0 by omega, pt_live]

theorem dc_As_restart_0 : decode bc_As_restart 0 = .ok (.aload_n 0, 1) := by decide +kernel
theorem dc_As_restart_1 : decode bc_As_restart 1 = .ok (.iload_n 1, 1) := by decide +kernel
theorem dc_As_restart_2 : decode bc_As_restart 2 = .ok (.putfield 18, 3) := by decide +kernel
theorem dc_As_restart_5 : decode bc_As_restart 5 = .ok (.aload_n 0, 1) := by decide +kernel
theorem dc_As_restart_6 : decode bc_As_restart 6 = .ok (.iload_n 1, 1) := by decide +kernel
theorem dc_As_restart_7 : decode bc_As_restart 7 = .ok (.invokestatic 22, 3) := by decide +kernel
theorem dc_As_restart_10 : decode bc_As_restart 10 = .ok (.putfield 26, 3) := by decide +kernel
theorem dc_As_restart_13 : decode bc_As_restart 13 = .ok (.aload_n 0, 1) := by decide +kernel
theorem dc_As_restart_14 : decode bc_As_restart 14 = .ok (.iload_n 2, 1) := by decide +kernel
theorem dc_As_restart_15 : decode bc_As_restart 15 = .ok (.putfield 29, 3) := by decide +kernel
theorem dc_As_restart_18 : decode bc_As_restart 18 = .ok (.return_, 1) := by decide +kernel
theorem dc_As_isReady_0 : decode bc_As_isReady 0 = .ok (.iload_n 1, 1) := by decide +kernel
theorem dc_As_isReady_1 : decode bc_As_isReady 1 = .ok (.aload_n 0, 1) := by decide +kernel
theorem dc_As_isReady_2 : decode bc_As_isReady 2 = .ok (.getfield 26, 3) := by decide +kernel
theorem dc_As_isReady_5 : decode bc_As_isReady 5 = .ok (.iconst (-1), 1) := by decide +kernel
theorem dc_As_isReady_6 : decode bc_As_isReady 6 = .ok (.ixor, 1) := by decide +kernel
theorem dc_As_isReady_7 : decode bc_As_isReady 7 = .ok (.iand, 1) := by decide +kernel
theorem dc_As_isReady_8 : decode bc_As_isReady 8 = .ok (.istore_n 2, 1) := by decide +kernel
theorem dc_As_isReady_9 : decode bc_As_isReady 9 = .ok (.iload_n 1, 1) := by decide +kernel
theorem dc_As_isReady_10 : decode bc_As_isReady 10 = .ok (.aload_n 0, 1) := by decide +kernel
theorem dc_As_isReady_11 : decode bc_As_isReady 11 = .ok (.getfield 18, 3) := by decide +kernel
theorem dc_As_isReady_14 : decode bc_As_isReady 14 = .ok (.iand, 1) := by decide +kernel
theorem dc_As_isReady_15 : decode bc_As_isReady 15 = .ok (.ifCond .ne (15), 3) := by decide +kernel
theorem dc_As_isReady_18 : decode bc_As_isReady 18 = .ok (.iload_n 2, 1) := by decide +kernel
theorem dc_As_isReady_19 : decode bc_As_isReady 19 = .ok (.iload_n 2, 1) := by decide +kernel
theorem dc_As_isReady_20 : decode bc_As_isReady 20 = .ok (.iconst 1, 1) := by decide +kernel
theorem dc_As_isReady_21 : decode bc_As_isReady 21 = .ok (.isub, 1) := by decide +kernel
theorem dc_As_isReady_22 : decode bc_As_isReady 22 = .ok (.iand, 1) := by decide +kernel
theorem dc_As_isReady_23 : decode bc_As_isReady 23 = .ok (.ifCond .ne (7), 3) := by decide +kernel
theorem dc_As_isReady_26 : decode bc_As_isReady 26 = .ok (.iconst 1, 1) := by decide +kernel
theorem dc_As_isReady_27 : decode bc_As_isReady 27 = .ok (.goto (4), 3) := by decide +kernel
theorem dc_As_isReady_30 : decode bc_As_isReady 30 = .ok (.iconst 0, 1) := by decide +kernel
theorem dc_As_isReady_31 : decode bc_As_isReady 31 = .ok (.ireturn, 1) := by decide +kernel
theorem dc_As_follow_0 : decode bc_As_follow 0 = .ok (.iload_n 1, 1) := by decide +kernel
theorem dc_As_follow_1 : decode bc_As_follow 1 = .ok (.aload_n 0, 1) := by decide +kernel
theorem dc_As_follow_2 : decode bc_As_follow 2 = .ok (.getfield 26, 3) := by decide +kernel
theorem dc_As_follow_5 : decode bc_As_follow 5 = .ok (.iconst (-1), 1) := by decide +kernel
theorem dc_As_follow_6 : decode bc_As_follow 6 = .ok (.ixor, 1) := by decide +kernel
theorem dc_As_follow_7 : decode bc_As_follow 7 = .ok (.iand, 1) := by decide +kernel
theorem dc_As_follow_8 : decode bc_As_follow 8 = .ok (.istore_n 3, 1) := by decide +kernel
theorem dc_As_follow_9 : decode bc_As_follow 9 = .ok (.iload_n 3, 1) := by decide +kernel
theorem dc_As_follow_10 : decode bc_As_follow 10 = .ok (.ifCond .eq (12), 3) := by decide +kernel
theorem dc_As_follow_13 : decode bc_As_follow 13 = .ok (.aload_n 0, 1) := by decide +kernel
theorem dc_As_follow_14 : decode bc_As_follow 14 = .ok (.getfield 29, 3) := by decide +kernel
theorem dc_As_follow_17 : decode bc_As_follow 17 = .ok (.bipush (8), 2) := by decide +kernel
theorem dc_As_follow_19 : decode bc_As_follow 19 = .ok (.if_icmp .lt (5), 3) := by decide +kernel
theorem dc_As_follow_22 : decode bc_As_follow 22 = .ok (.iconst 0, 1) := by decide +kernel
theorem dc_As_follow_23 : decode bc_As_follow 23 = .ok (.ireturn, 1) := by decide +kernel
theorem dc_As_follow_24 : decode bc_As_follow 24 = .ok (.aload_n 0, 1) := by decide +kernel
theorem dc_As_follow_25 : decode bc_As_follow 25 = .ok (.dup, 1) := by decide +kernel
theorem dc_As_follow_26 : decode bc_As_follow 26 = .ok (.getfield 18, 3) := by decide +kernel
theorem dc_As_follow_29 : decode bc_As_follow 29 = .ok (.iload_n 3, 1) := by decide +kernel
theorem dc_As_follow_30 : decode bc_As_follow 30 = .ok (.ior, 1) := by decide +kernel
theorem dc_As_follow_31 : decode bc_As_follow 31 = .ok (.putfield 18, 3) := by decide +kernel
theorem dc_As_follow_34 : decode bc_As_follow 34 = .ok (.aload_n 0, 1) := by decide +kernel
theorem dc_As_follow_35 : decode bc_As_follow 35 = .ok (.dup, 1) := by decide +kernel
theorem dc_As_follow_36 : decode bc_As_follow 36 = .ok (.getfield 26, 3) := by decide +kernel
theorem dc_As_follow_39 : decode bc_As_follow 39 = .ok (.iload_n 3, 1) := by decide +kernel
theorem dc_As_follow_40 : decode bc_As_follow 40 = .ok (.invokestatic 22, 3) := by decide +kernel
theorem dc_As_follow_43 : decode bc_As_follow 43 = .ok (.ior, 1) := by decide +kernel
theorem dc_As_follow_44 : decode bc_As_follow 44 = .ok (.putfield 26, 3) := by decide +kernel
theorem dc_As_follow_47 : decode bc_As_follow 47 = .ok (.aload_n 0, 1) := by decide +kernel
theorem dc_As_follow_48 : decode bc_As_follow 48 = .ok (.getfield 9, 3) := by decide +kernel
theorem dc_As_follow_51 : decode bc_As_follow 51 = .ok (.aload_n 0, 1) := by decide +kernel
theorem dc_As_follow_52 : decode bc_As_follow 52 = .ok (.getfield 29, 3) := by decide +kernel
theorem dc_As_follow_55 : decode bc_As_follow 55 = .ok (.iload_n 2, 1) := by decide +kernel
theorem dc_As_follow_56 : decode bc_As_follow 56 = .ok (.iastore, 1) := by decide +kernel
theorem dc_As_follow_57 : decode bc_As_follow 57 = .ok (.aload_n 0, 1) := by decide +kernel
theorem dc_As_follow_58 : decode bc_As_follow 58 = .ok (.getfield 15, 3) := by decide +kernel
theorem dc_As_follow_61 : decode bc_As_follow 61 = .ok (.aload_n 0, 1) := by decide +kernel
theorem dc_As_follow_62 : decode bc_As_follow 62 = .ok (.getfield 29, 3) := by decide +kernel
theorem dc_As_follow_65 : decode bc_As_follow 65 = .ok (.iload_n 3, 1) := by decide +kernel
theorem dc_As_follow_66 : decode bc_As_follow 66 = .ok (.iastore, 1) := by decide +kernel
theorem dc_As_follow_67 : decode bc_As_follow 67 = .ok (.aload_n 0, 1) := by decide +kernel
theorem dc_As_follow_68 : decode bc_As_follow 68 = .ok (.dup, 1) := by decide +kernel
theorem dc_As_follow_69 : decode bc_As_follow 69 = .ok (.getfield 29, 3) := by decide +kernel
theorem dc_As_follow_72 : decode bc_As_follow 72 = .ok (.iconst 1, 1) := by decide +kernel
theorem dc_As_follow_73 : decode bc_As_follow 73 = .ok (.iadd, 1) := by decide +kernel
theorem dc_As_follow_74 : decode bc_As_follow 74 = .ok (.putfield 29, 3) := by decide +kernel
theorem dc_As_follow_77 : decode bc_As_follow 77 = .ok (.iconst 1, 1) := by decide +kernel
theorem dc_As_follow_78 : decode bc_As_follow 78 = .ok (.ireturn, 1) := by decide +kernel
theorem dc_As_usedFor_0 : decode bc_As_usedFor 0 = .ok (.iload_n 1, 1) := by decide +kernel
theorem dc_As_usedFor_1 : decode bc_As_usedFor 1 = .ok (.invokestatic 32, 3) := by decide +kernel
theorem dc_As_usedFor_4 : decode bc_As_usedFor 4 = .ok (.lstore_n 3, 1) := by decide +kernel
theorem dc_As_usedFor_5 : decode bc_As_usedFor 5 = .ok (.aload_n 2, 1) := by decide +kernel
theorem dc_As_usedFor_6 : decode bc_As_usedFor 6 = .ok (.iload_n 1, 1) := by decide +kernel
theorem dc_As_usedFor_7 : decode bc_As_usedFor 7 = .ok (.iaload, 1) := by decide +kernel
theorem dc_As_usedFor_8 : decode bc_As_usedFor 8 = .ok (.istore 5, 2) := by decide +kernel
theorem dc_As_usedFor_10 : decode bc_As_usedFor 10 = .ok (.aload_n 0, 1) := by decide +kernel
theorem dc_As_usedFor_11 : decode bc_As_usedFor 11 = .ok (.getfield 29, 3) := by decide +kernel
theorem dc_As_usedFor_14 : decode bc_As_usedFor 14 = .ok (.iconst 1, 1) := by decide +kernel
theorem dc_As_usedFor_15 : decode bc_As_usedFor 15 = .ok (.isub, 1) := by decide +kernel
theorem dc_As_usedFor_16 : decode bc_As_usedFor 16 = .ok (.istore 6, 2) := by decide +kernel
theorem dc_As_usedFor_18 : decode bc_As_usedFor 18 = .ok (.iload 6, 2) := by decide +kernel
theorem dc_As_usedFor_20 : decode bc_As_usedFor 20 = .ok (.ifCond .lt (52), 3) := by decide +kernel
theorem dc_As_usedFor_23 : decode bc_As_usedFor 23 = .ok (.iload 5, 2) := by decide +kernel
theorem dc_As_usedFor_25 : decode bc_As_usedFor 25 = .ok (.aload_n 0, 1) := by decide +kernel
theorem dc_As_usedFor_26 : decode bc_As_usedFor 26 = .ok (.getfield 15, 3) := by decide +kernel
theorem dc_As_usedFor_29 : decode bc_As_usedFor 29 = .ok (.iload 6, 2) := by decide +kernel
theorem dc_As_usedFor_31 : decode bc_As_usedFor 31 = .ok (.iaload, 1) := by decide +kernel
theorem dc_As_usedFor_32 : decode bc_As_usedFor 32 = .ok (.invokestatic 22, 3) := by decide +kernel
theorem dc_As_usedFor_35 : decode bc_As_usedFor 35 = .ok (.iand, 1) := by decide +kernel
theorem dc_As_usedFor_36 : decode bc_As_usedFor 36 = .ok (.ifCond .eq (30), 3) := by decide +kernel
theorem dc_As_usedFor_39 : decode bc_As_usedFor 39 = .ok (.lload_n 3, 1) := by decide +kernel
theorem dc_As_usedFor_40 : decode bc_As_usedFor 40 = .ok (.aload_n 0, 1) := by decide +kernel
theorem dc_As_usedFor_41 : decode bc_As_usedFor 41 = .ok (.getfield 9, 3) := by decide +kernel
theorem dc_As_usedFor_44 : decode bc_As_usedFor 44 = .ok (.iload 6, 2) := by decide +kernel
theorem dc_As_usedFor_46 : decode bc_As_usedFor 46 = .ok (.iaload, 1) := by decide +kernel
theorem dc_As_usedFor_47 : decode bc_As_usedFor 47 = .ok (.invokestatic 32, 3) := by decide +kernel
theorem dc_As_usedFor_50 : decode bc_As_usedFor 50 = .ok (.lor, 1) := by decide +kernel
theorem dc_As_usedFor_51 : decode bc_As_usedFor 51 = .ok (.lstore_n 3, 1) := by decide +kernel
theorem dc_As_usedFor_52 : decode bc_As_usedFor 52 = .ok (.iload 5, 2) := by decide +kernel
theorem dc_As_usedFor_54 : decode bc_As_usedFor 54 = .ok (.aload_n 2, 1) := by decide +kernel
theorem dc_As_usedFor_55 : decode bc_As_usedFor 55 = .ok (.aload_n 0, 1) := by decide +kernel
theorem dc_As_usedFor_56 : decode bc_As_usedFor 56 = .ok (.getfield 9, 3) := by decide +kernel
theorem dc_As_usedFor_59 : decode bc_As_usedFor 59 = .ok (.iload 6, 2) := by decide +kernel
theorem dc_As_usedFor_61 : decode bc_As_usedFor 61 = .ok (.iaload, 1) := by decide +kernel
theorem dc_As_usedFor_62 : decode bc_As_usedFor 62 = .ok (.iaload, 1) := by decide +kernel
theorem dc_As_usedFor_63 : decode bc_As_usedFor 63 = .ok (.ior, 1) := by decide +kernel
theorem dc_As_usedFor_64 : decode bc_As_usedFor 64 = .ok (.istore 5, 2) := by decide +kernel
theorem dc_As_usedFor_66 : decode bc_As_usedFor 66 = .ok (.iinc 6 (-1), 3) := by decide +kernel
theorem dc_As_usedFor_69 : decode bc_As_usedFor 69 = .ok (.goto (-51), 3) := by decide +kernel
theorem dc_As_usedFor_72 : decode bc_As_usedFor 72 = .ok (.lload_n 3, 1) := by decide +kernel
theorem dc_As_usedFor_73 : decode bc_As_usedFor 73 = .ok (.lreturn, 1) := by decide +kernel
theorem dc_Sp_forget_0 : decode bc_Sp_forget 0 = .ok (.aload_n 0, 1) := by decide +kernel
theorem dc_Sp_forget_1 : decode bc_Sp_forget 1 = .ok (.iconst 0, 1) := by decide +kernel
theorem dc_Sp_forget_2 : decode bc_Sp_forget 2 = .ok (.putfield 19, 3) := by decide +kernel
theorem dc_Sp_forget_5 : decode bc_Sp_forget 5 = .ok (.aload_n 0, 1) := by decide +kernel
theorem dc_Sp_forget_6 : decode bc_Sp_forget 6 = .ok (.iconst 1, 1) := by decide +kernel
theorem dc_Sp_forget_7 : decode bc_Sp_forget 7 = .ok (.putfield 23, 3) := by decide +kernel
theorem dc_Sp_forget_10 : decode bc_Sp_forget 10 = .ok (.return_, 1) := by decide +kernel
theorem dc_Sp_liveAfterAll_0 : decode bc_Sp_liveAfterAll 0 = .ok (.iload_n 1, 1) := by decide +kernel
theorem dc_Sp_liveAfterAll_1 : decode bc_Sp_liveAfterAll 1 = .ok (.invokestatic 33, 3) := by decide +kernel
theorem dc_Sp_liveAfterAll_4 : decode bc_Sp_liveAfterAll 4 = .ok (.lstore_n 2, 1) := by decide +kernel
theorem dc_Sp_liveAfterAll_5 : decode bc_Sp_liveAfterAll 5 = .ok (.iconst 1, 1) := by decide +kernel
theorem dc_Sp_liveAfterAll_6 : decode bc_Sp_liveAfterAll 6 = .ok (.istore 4, 2) := by decide +kernel
theorem dc_Sp_liveAfterAll_8 : decode bc_Sp_liveAfterAll 8 = .ok (.iload 4, 2) := by decide +kernel
theorem dc_Sp_liveAfterAll_10 : decode bc_Sp_liveAfterAll 10 = .ok (.aload_n 0, 1) := by decide +kernel
theorem dc_Sp_liveAfterAll_11 : decode bc_Sp_liveAfterAll 11 = .ok (.getfield 19, 3) := by decide +kernel
theorem dc_Sp_liveAfterAll_14 : decode bc_Sp_liveAfterAll 14 = .ok (.if_icmp .gt (51), 3) := by decide +kernel
theorem dc_Sp_liveAfterAll_17 : decode bc_Sp_liveAfterAll 17 = .ok (.aload_n 0, 1) := by decide +kernel
theorem dc_Sp_liveAfterAll_18 : decode bc_Sp_liveAfterAll 18 = .ok (.getfield 9, 3) := by decide +kernel
theorem dc_Sp_liveAfterAll_21 : decode bc_Sp_liveAfterAll 21 = .ok (.iload 4, 2) := by decide +kernel
theorem dc_Sp_liveAfterAll_23 : decode bc_Sp_liveAfterAll 23 = .ok (.baload, 1) := by decide +kernel
theorem dc_Sp_liveAfterAll_24 : decode bc_Sp_liveAfterAll 24 = .ok (.ifCond .eq (22), 3) := by decide +kernel
theorem dc_Sp_liveAfterAll_27 : decode bc_Sp_liveAfterAll 27 = .ok (.lload_n 2, 1) := by decide +kernel
theorem dc_Sp_liveAfterAll_28 : decode bc_Sp_liveAfterAll 28 = .ok (.aload_n 0, 1) := by decide +kernel
theorem dc_Sp_liveAfterAll_29 : decode bc_Sp_liveAfterAll 29 = .ok (.getfield 15, 3) := by decide +kernel
theorem dc_Sp_liveAfterAll_32 : decode bc_Sp_liveAfterAll 32 = .ok (.iload 4, 2) := by decide +kernel
theorem dc_Sp_liveAfterAll_34 : decode bc_Sp_liveAfterAll 34 = .ok (.iaload, 1) := by decide +kernel
theorem dc_Sp_liveAfterAll_35 : decode bc_Sp_liveAfterAll 35 = .ok (.invokestatic 51, 3) := by decide +kernel
theorem dc_Sp_liveAfterAll_38 : decode bc_Sp_liveAfterAll 38 = .ok (.ldc2_w 54, 3) := by decide +kernel
theorem dc_Sp_liveAfterAll_41 : decode bc_Sp_liveAfterAll 41 = .ok (.lxor, 1) := by decide +kernel
theorem dc_Sp_liveAfterAll_42 : decode bc_Sp_liveAfterAll 42 = .ok (.land, 1) := by decide +kernel
theorem dc_Sp_liveAfterAll_43 : decode bc_Sp_liveAfterAll 43 = .ok (.goto (15), 3) := by decide +kernel
theorem dc_Sp_liveAfterAll_46 : decode bc_Sp_liveAfterAll 46 = .ok (.lload_n 2, 1) := by decide +kernel
theorem dc_Sp_liveAfterAll_47 : decode bc_Sp_liveAfterAll 47 = .ok (.aload_n 0, 1) := by decide +kernel
theorem dc_Sp_liveAfterAll_48 : decode bc_Sp_liveAfterAll 48 = .ok (.getfield 15, 3) := by decide +kernel
theorem dc_Sp_liveAfterAll_51 : decode bc_Sp_liveAfterAll 51 = .ok (.iload 4, 2) := by decide +kernel
theorem dc_Sp_liveAfterAll_53 : decode bc_Sp_liveAfterAll 53 = .ok (.iaload, 1) := by decide +kernel
theorem dc_Sp_liveAfterAll_54 : decode bc_Sp_liveAfterAll 54 = .ok (.invokestatic 51, 3) := by decide +kernel
theorem dc_Sp_liveAfterAll_57 : decode bc_Sp_liveAfterAll 57 = .ok (.lor, 1) := by decide +kernel
theorem dc_Sp_liveAfterAll_58 : decode bc_Sp_liveAfterAll 58 = .ok (.lstore_n 2, 1) := by decide +kernel
theorem dc_Sp_liveAfterAll_59 : decode bc_Sp_liveAfterAll 59 = .ok (.iinc 4 (1), 3) := by decide +kernel
theorem dc_Sp_liveAfterAll_62 : decode bc_Sp_liveAfterAll 62 = .ok (.goto (-54), 3) := by decide +kernel
theorem dc_Sp_liveAfterAll_65 : decode bc_Sp_liveAfterAll 65 = .ok (.lload_n 2, 1) := by decide +kernel
theorem dc_Sp_liveAfterAll_66 : decode bc_Sp_liveAfterAll 66 = .ok (.lreturn, 1) := by decide +kernel
set_option maxHeartbeats 4000000 in
set_option maxRecDepth 100000 in
theorem ct_As_restart (l : Launch) (D : va_G) (cI cZ : ClassId) (sz : Nat) (o : Nat) (qa : Nat) (qb : Nat) (n : Nat) (t : Nat) (f : Nat) (x : Nat) (k : Nat) (hx16 : x < 65536) : Met l yn_As_restart (Cond.code yn_As_restart bc_As_restart 3 none :: kx_all) ({ frames := 1, cells := 0, slots := 0, locals := 20 } : Room) (kp [.ref o, .int (nI x), .int (nI k)] D cI cZ [as_c o qa qb n t f] sz) (kw_q none D kc_l [as_c o qa qb k x (nb_op x)] (va_A [as_c o qa qb n t f] sz)) 0 0 (va_A [as_c o qa qb n t f] sz) := by
  refine kx_metW (by decide) (Nat.le_of_ble_eq_true rfl) ?_
  intro p e s m below meth c ls A hx hb hr hml hts hown hlocks hin hA hP hK hD hN hl hS
  have hown : s.vm.findClass rn_As = some m.cls := hown
  have hl : lv_has ls 3 [(0, .ref o), (1, .int (nI x)), (2, .int (nI k))] := hl
  refine lv_aload_n hx hb dc_As_restart_0 rfl (lv_at hl 0 rfl) ?_
  refine lv_iload_n hx hb dc_As_restart_1 rfl (lv_at hl 1 rfl) ?_
  refine va_put (ci := 6) (v := .int (nI x)) (ty := .int) (C := rn_As) (T := fd_As) (N := 5) hx hb hts in_As ty_As tk_As nm_As hown hK hP hD hS 0 rfl rfl 3 (by decide) (hts _ wd_169) (fun _ h9 => h9) rfl (by decide +kernel) rfl rfl (Nat.le_of_ble_eq_true rfl) dc_As_restart_2 (fun H locs hP hD hS => ?_)
  have hP : va_P D kc_l [as_c o qa qb n x f] H := hP
  have hD : va_D A [as_c o qa qb n x f] := hD
  refine lv_aload_n hx hb dc_As_restart_5 rfl (lv_at hl 0 rfl) ?_
  refine lv_iload_n hx hb dc_As_restart_6 rfl (lv_at hl 1 rfl) ?_
  refine kr_call1 (va_runSN (As := [.int (nI x)]) (rest := [.ref o]) ⟨hx, hb, hml, hown, hts⟩ (ct_Pt_opposites l D cI cZ _ x (hx16)) ⟨va_cnB 1 hts (kx_gi wd_613) rfl rfl rfl (nw_619 hN) (hts _ wd_1) yd_Pt_opposites ⟨Nat.le_of_ble_eq_true rfl, Nat.le_of_ble_eq_true rfl⟩, hts _ wd_612, trivial⟩ (kp_S hP hD hK hN [] rfl rfl) rfl rfl hl.1 rfl (lv_room (Nat.le_of_ble_eq_true rfl)) dc_As_restart_7 ⟨Nat.le_of_ble_eq_true rfl, Nat.le_of_ble_eq_true rfl⟩) ?_
  refine va_put (ci := 6) (v := .int (nI (nb_op x))) (ty := .int) (C := rn_As) (T := fd_As) (N := 5) hx hb hts in_As ty_As tk_As nm_As hown hK hP hD hS 0 rfl rfl 4 (by decide) (hts _ wd_172) (fun _ h9 => h9) rfl (by decide +kernel) rfl rfl (Nat.le_of_ble_eq_true rfl) dc_As_restart_10 (fun H locs hP hD hS => ?_)
  have hP : va_P D kc_l [as_c o qa qb n x (nb_op x)] H := hP
  have hD : va_D A [as_c o qa qb n x (nb_op x)] := hD
  refine lv_aload_n hx hb dc_As_restart_13 rfl (lv_at hl 0 rfl) ?_
  refine lv_iload_n hx hb dc_As_restart_14 rfl (lv_at hl 2 rfl) ?_
  refine va_put (ci := 6) (v := .int (nI k)) (ty := .int) (C := rn_As) (T := fd_As) (N := 5) hx hb hts in_As ty_As tk_As nm_As hown hK hP hD hS 0 rfl rfl 2 (by decide) (hts _ wd_167) (fun _ h9 => h9) rfl (by decide +kernel) rfl rfl (Nat.le_of_ble_eq_true rfl) dc_As_restart_15 (fun H locs hP hD hS => ?_)
  have hP : va_P D kc_l [as_c o qa qb k x (nb_op x)] H := hP
  have hD : va_D A [as_c o qa qb k x (nb_op x)] := hD
  exact kw_vret hx hb hr hlocks hP hD hS dc_As_restart_18 (rfl)

set_option maxHeartbeats 4000000 in
set_option maxRecDepth 100000 in
theorem ct_As_isReady (l : Launch) (D : va_G) (cI cZ : ClassId) (sz : Nat) (o : Nat) (qa : Nat) (qb : Nat) (n : Nat) (t : Nat) (f : Nat) (x : Nat) (hx16 : x < 65536) : Met l yn_As_isReady (Cond.code yn_As_isReady bc_As_isReady 3 (some .boolean) :: kx_all) ({ frames := 0, cells := 0, slots := 0, locals := 0 } : Room) (kp [.ref o, .int (nI x)] D cI cZ [as_c o qa qb n t f] sz) (kr_q (some (.int (kb_i (pt_rdy x t f))))) 0 0 (fun _ => False) := by
  refine kx_met (by decide) (Nat.le_of_ble_eq_true rfl) ?_
  intro p e s m below meth c ls hx hb hr hml hts hown hlocks hin hsz hP hK hD hN hl
  have hown : s.vm.findClass rn_As = some m.cls := hown
  have hl : lv_has ls 3 [(0, .ref o), (1, .int (nI x))] := hl
  have hy16 : nb_d x f < 65536 := nb_d_lt (n := 16) hx16
  refine lv_iload_n hx hb dc_As_isReady_0 rfl (lv_at hl 1 rfl) ?_
  refine lv_aload_n hx hb dc_As_isReady_1 rfl (lv_at hl 0 rfl) ?_
  refine va_get (ci := 6) (v := .int (nI f)) (C := rn_As) (T := fd_As) (N := 5) hx hb hts in_As hown hK hP 0 rfl rfl 4 (by decide) (hts _ wd_172) (fun _ h9 => h9) rfl dc_As_isReady_2 ?_
  refine lv_iconst (v := (-1)) hx hb dc_As_isReady_5 (by decide +kernel) ?_
  refine lv_ixor hx hb dc_As_isReady_6 ?_
  refine kn_inot hx hb dc_As_isReady_7 ?_
  refine lv_istore_n (lv' := [(2, .int (nI (nb_d x f))), (0, .ref o), (1, .int (nI x))]) hx hb dc_As_isReady_8 rfl hl (by decide) rfl (fun ls hl => ?_)
  refine lv_iload_n hx hb dc_As_isReady_9 rfl (lv_at hl 2 rfl) ?_
  refine lv_aload_n hx hb dc_As_isReady_10 rfl (lv_at hl 1 rfl) ?_
  refine va_get (ci := 6) (v := .int (nI t)) (C := rn_As) (T := fd_As) (N := 5) hx hb hts in_As hown hK hP 0 rfl rfl 3 (by decide) (hts _ wd_169) (fun _ h9 => h9) rfl dc_As_isReady_11 ?_
  refine kn_iand hx hb dc_As_isReady_14 ?_
  refine kn_if_ne hx hb (Nat.lt_of_le_of_lt Nat.and_le_left (Nat.lt_trans hx16 (by decide))) dc_As_isReady_15 rfl (fun hc15 => ?_) (fun hc15 => ?_)
  · refine lv_iconst (v := nI 0) hx hb dc_As_isReady_30 (by decide +kernel) ?_
    refine kn_top (y := kb_i false) (by decide +kernel) ?_
    exact kr_zret hx hb hr hlocks dc_As_isReady_31 (by rw [pt_rdy, decide_eq_false hc15]; rfl)
  · refine lv_iload_n hx hb dc_As_isReady_18 rfl (lv_at hl 0 rfl) ?_
    refine lv_iload_n hx hb dc_As_isReady_19 rfl (lv_at hl 0 rfl) ?_
    refine lv_iconst (v := nI 1) hx hb dc_As_isReady_20 (by decide +kernel) ?_
    refine lv_isub hx hb dc_As_isReady_21 ?_
    refine lv_iand hx hb dc_As_isReady_22 ?_
    refine lv_if_ne hx hb dc_As_isReady_23 rfl (fun hc23 => ?_) (fun hc23 => ?_)
    · refine lv_iconst (v := nI 0) hx hb dc_As_isReady_30 (by decide +kernel) ?_
      refine kn_top (y := kb_i false) (by decide +kernel) ?_
      exact kr_zret hx hb hr hlocks dc_As_isReady_31 (by rw [pt_rdy, decide_eq_false (fun q => hc23 ((nb_one_i hy16).mpr q)), Bool.and_false])
    · refine lv_iconst (v := nI 1) hx hb dc_As_isReady_26 (by decide +kernel) ?_
      refine lv_goto hx hb dc_As_isReady_27 rfl ?_
      refine kn_top (y := kb_i true) (by decide +kernel) ?_
      exact kr_zret hx hb hr hlocks dc_As_isReady_31 (by rw [pt_rdy, decide_eq_true hc15, decide_eq_true ((nb_one_i hy16).mp hc23)]; rfl)

set_option maxHeartbeats 4000000 in
set_option maxRecDepth 100000 in
theorem ct_As_follow (l : Launch) (D : va_G) (cI cZ : ClassId) (sz : Nat) (o : Nat) (qa : Nat) (qb : Nat) (n : Nat) (t : Nat) (f : Nat) (rs : Nat → Nat) (im : Nat → Nat) (x : Nat) (r : Nat) (hx16 : x < 65536) (hy0 : ¬ nb_d x f = 0) (hn8 : n < 8) : Met l yn_As_follow (Cond.code yn_As_follow bc_As_follow 4 (some .boolean) :: kx_all) ({ frames := 1, cells := 0, slots := 0, locals := 20 } : Room) (kp [.ref o, .int (nI x), .int (nI r)] D cI cZ [as_c o qa qb n t f, ar_n cI qa 8 rs, ar_n cI qb 8 im] sz) (kw_q (some (.int (kb_i true))) D kc_l [as_c o qa qb (n + 1) (t ||| nb_d x f) (f ||| nb_op (nb_d x f)), ar_n cI qa 8 (va_up rs n r), ar_n cI qb 8 (va_up im n (nb_d x f))] (va_A [as_c o qa qb n t f, ar_n cI qa 8 rs, ar_n cI qb 8 im] sz)) 0 0 (va_A [as_c o qa qb n t f, ar_n cI qa 8 rs, ar_n cI qb 8 im] sz) := by
  refine kx_metW (by decide) (Nat.le_of_ble_eq_true rfl) ?_
  intro p e s m below meth c ls A hx hb hr hml hts hown hlocks hin hA hP hK hD hN hl hS
  have hown : s.vm.findClass rn_As = some m.cls := hown
  have hl : lv_has ls 4 [(0, .ref o), (1, .int (nI x)), (2, .int (nI r))] := hl
  have hy16 : nb_d x f < 65536 := nb_d_lt (n := 16) hx16
  refine lv_iload_n hx hb dc_As_follow_0 rfl (lv_at hl 1 rfl) ?_
  refine lv_aload_n hx hb dc_As_follow_1 rfl (lv_at hl 0 rfl) ?_
  refine va_get (ci := 6) (v := .int (nI f)) (C := rn_As) (T := fd_As) (N := 5) hx hb hts in_As hown hK hP 0 rfl rfl 4 (by decide) (hts _ wd_172) (fun _ h9 => h9) rfl dc_As_follow_2 ?_
  refine lv_iconst (v := (-1)) hx hb dc_As_follow_5 (by decide +kernel) ?_
  refine lv_ixor hx hb dc_As_follow_6 ?_
  refine kn_inot hx hb dc_As_follow_7 ?_
  refine lv_istore_n (lv' := [(3, .int (nI (nb_d x f))), (0, .ref o), (1, .int (nI x)), (2, .int (nI r))]) hx hb dc_As_follow_8 rfl hl (by decide) rfl (fun ls hl => ?_)
  refine lv_iload_n hx hb dc_As_follow_9 rfl (lv_at hl 0 rfl) ?_
  refine kn_if_eq hx hb (Nat.lt_trans hy16 (by decide)) dc_As_follow_10 rfl (fun hc10 => ?_) (fun hc10 => ?_)
  · exact absurd hc10 hy0
  · refine lv_aload_n hx hb dc_As_follow_13 rfl (lv_at hl 1 rfl) ?_
    refine va_get (ci := 6) (v := .int (nI n)) (C := rn_As) (T := fd_As) (N := 5) hx hb hts in_As hown hK hP 0 rfl rfl 2 (by decide) (hts _ wd_167) (fun _ h9 => h9) rfl dc_As_follow_14 ?_
    refine lv_bipush (v := nI 8) hx hb dc_As_follow_17 (by decide +kernel) ?_
    refine kn_icmp_lt hx hb (by omega) (by omega) dc_As_follow_19 rfl (fun hc19 => ?_) (fun hc19 => ?_)
    · refine lv_aload_n hx hb dc_As_follow_24 rfl (lv_at hl 1 rfl) ?_
      refine lv_dup hx hb dc_As_follow_25 rfl ?_
      refine va_get (ci := 6) (v := .int (nI t)) (C := rn_As) (T := fd_As) (N := 5) hx hb hts in_As hown hK hP 0 rfl rfl 3 (by decide) (hts _ wd_169) (fun _ h9 => h9) rfl dc_As_follow_26 ?_
      refine lv_iload_n hx hb dc_As_follow_29 rfl (lv_at hl 0 rfl) ?_
      refine kn_ior hx hb dc_As_follow_30 ?_
      refine va_put (ci := 6) (v := .int (nI (t ||| (nb_d x f)))) (ty := .int) (C := rn_As) (T := fd_As) (N := 5) hx hb hts in_As ty_As tk_As nm_As hown hK hP hD hS 0 rfl rfl 3 (by decide) (hts _ wd_169) (fun _ h9 => h9) rfl (by decide +kernel) rfl rfl (Nat.le_of_ble_eq_true rfl) dc_As_follow_31 (fun H locs hP hD hS => ?_)
      have hP : va_P D kc_l [as_c o qa qb n (t ||| (nb_d x f)) f, ar_n cI qa 8 rs, ar_n cI qb 8 im] H := hP
      have hD : va_D A [as_c o qa qb n (t ||| (nb_d x f)) f, ar_n cI qa 8 rs, ar_n cI qb 8 im] := hD
      refine lv_aload_n hx hb dc_As_follow_34 rfl (lv_at hl 1 rfl) ?_
      refine lv_dup hx hb dc_As_follow_35 rfl ?_
      refine va_get (ci := 6) (v := .int (nI f)) (C := rn_As) (T := fd_As) (N := 5) hx hb hts in_As hown hK hP 0 rfl rfl 4 (by decide) (hts _ wd_172) (fun _ h9 => h9) rfl dc_As_follow_36 ?_
      refine lv_iload_n hx hb dc_As_follow_39 rfl (lv_at hl 0 rfl) ?_
      refine kr_call1 (va_runSN (As := [.int (nI (nb_d x f))]) (rest := [.int (nI f), .ref o]) ⟨hx, hb, hml, hown, hts⟩ (ct_Pt_opposites l D cI cZ _ (nb_d x f) (hy16)) ⟨va_cnB 1 hts (kx_gi wd_613) rfl rfl rfl (nw_619 hN) (hts _ wd_1) yd_Pt_opposites ⟨Nat.le_of_ble_eq_true rfl, Nat.le_of_ble_eq_true rfl⟩, hts _ wd_612, trivial⟩ (kp_S hP hD hK hN [] rfl rfl) rfl rfl hl.1 rfl (lv_room (Nat.le_of_ble_eq_true rfl)) dc_As_follow_40 ⟨Nat.le_of_ble_eq_true rfl, Nat.le_of_ble_eq_true rfl⟩) ?_
      refine kn_ior hx hb dc_As_follow_43 ?_
      refine va_put (ci := 6) (v := .int (nI (f ||| (nb_op (nb_d x f))))) (ty := .int) (C := rn_As) (T := fd_As) (N := 5) hx hb hts in_As ty_As tk_As nm_As hown hK hP hD hS 0 rfl rfl 4 (by decide) (hts _ wd_172) (fun _ h9 => h9) rfl (by decide +kernel) rfl rfl (Nat.le_of_ble_eq_true rfl) dc_As_follow_44 (fun H locs hP hD hS => ?_)
      have hP : va_P D kc_l [as_c o qa qb n (t ||| (nb_d x f)) (f ||| (nb_op (nb_d x f))), ar_n cI qa 8 rs, ar_n cI qb 8 im] H := hP
      have hD : va_D A [as_c o qa qb n (t ||| (nb_d x f)) (f ||| (nb_op (nb_d x f))), ar_n cI qa 8 rs, ar_n cI qb 8 im] := hD
      refine lv_aload_n hx hb dc_As_follow_47 rfl (lv_at hl 1 rfl) ?_
      refine va_get (ci := 6) (v := .ref qa) (C := rn_As) (T := fd_As) (N := 5) hx hb hts in_As hown hK hP 0 rfl rfl 0 (by decide) (hts _ wd_164) (fun _ h9 => h9) rfl dc_As_follow_48 ?_
      refine lv_aload_n hx hb dc_As_follow_51 rfl (lv_at hl 1 rfl) ?_
      refine va_get (ci := 6) (v := .int (nI n)) (C := rn_As) (T := fd_As) (N := 5) hx hb hts in_As hown hK hP 0 rfl rfl 2 (by decide) (hts _ wd_167) (fun _ h9 => h9) rfl dc_As_follow_52 ?_
      refine lv_iload_n hx hb dc_As_follow_55 rfl (lv_at hl 3 rfl) ?_
      refine ka_nast (t := rs) hx hb hK hP hD hS 1 0 rfl rfl (j := n) (by omega) (by omega) dc_As_follow_56 (ws' := [as_c o qa qb n (t ||| (nb_d x f)) (f ||| (nb_op (nb_d x f))), ar_n cI qa 8 (va_up rs n r), ar_n cI qb 8 im]) rfl (fun H locs hP hD hS => ?_)
      refine lv_aload_n hx hb dc_As_follow_57 rfl (lv_at hl 1 rfl) ?_
      refine va_get (ci := 6) (v := .ref qb) (C := rn_As) (T := fd_As) (N := 5) hx hb hts in_As hown hK hP 0 rfl rfl 1 (by decide) (hts _ wd_166) (fun _ h9 => h9) rfl dc_As_follow_58 ?_
      refine lv_aload_n hx hb dc_As_follow_61 rfl (lv_at hl 1 rfl) ?_
      refine va_get (ci := 6) (v := .int (nI n)) (C := rn_As) (T := fd_As) (N := 5) hx hb hts in_As hown hK hP 0 rfl rfl 2 (by decide) (hts _ wd_167) (fun _ h9 => h9) rfl dc_As_follow_62 ?_
      refine lv_iload_n hx hb dc_As_follow_65 rfl (lv_at hl 0 rfl) ?_
      refine ka_nast (t := im) hx hb hK hP hD hS 2 0 rfl rfl (j := n) (by omega) (by omega) dc_As_follow_66 (ws' := [as_c o qa qb n (t ||| (nb_d x f)) (f ||| (nb_op (nb_d x f))), ar_n cI qa 8 (va_up rs n r), ar_n cI qb 8 (va_up im n (nb_d x f))]) rfl (fun H locs hP hD hS => ?_)
      refine lv_aload_n hx hb dc_As_follow_67 rfl (lv_at hl 1 rfl) ?_
      refine lv_dup hx hb dc_As_follow_68 rfl ?_
      refine va_get (ci := 6) (v := .int (nI n)) (C := rn_As) (T := fd_As) (N := 5) hx hb hts in_As hown hK hP 0 rfl rfl 2 (by decide) (hts _ wd_167) (fun _ h9 => h9) rfl dc_As_follow_69 ?_
      refine lv_iconst (v := nI 1) hx hb dc_As_follow_72 (by decide +kernel) ?_
      refine kn_iadd hx hb dc_As_follow_73 ?_
      refine va_put (ci := 6) (v := .int (nI (n + 1))) (ty := .int) (C := rn_As) (T := fd_As) (N := 5) hx hb hts in_As ty_As tk_As nm_As hown hK hP hD hS 0 rfl rfl 2 (by decide) (hts _ wd_167) (fun _ h9 => h9) rfl (by decide +kernel) rfl rfl (Nat.le_of_ble_eq_true rfl) dc_As_follow_74 (fun H locs hP hD hS => ?_)
      have hP : va_P D kc_l [as_c o qa qb (n + 1) (t ||| (nb_d x f)) (f ||| (nb_op (nb_d x f))), ar_n cI qa 8 (va_up rs n r), ar_n cI qb 8 (va_up im n (nb_d x f))] H := hP
      have hD : va_D A [as_c o qa qb (n + 1) (t ||| (nb_d x f)) (f ||| (nb_op (nb_d x f))), ar_n cI qa 8 (va_up rs n r), ar_n cI qb 8 (va_up im n (nb_d x f))] := hD
      refine lv_iconst (v := nI 1) hx hb dc_As_follow_77 (by decide +kernel) ?_
      refine kn_top (y := kb_i true) (by decide +kernel) ?_
      exact kw_zret hx hb hr hlocks hP hD hS dc_As_follow_78 (rfl) (rfl)
    · exfalso; omega

set_option maxHeartbeats 4000000 in
set_option maxRecDepth 100000 in
theorem ct_As_follow_no (l : Launch) (D : va_G) (cI cZ : ClassId) (sz : Nat) (o : Nat) (qa : Nat) (qb : Nat) (n : Nat) (t : Nat) (f : Nat) (x : Nat) (r : Nat) (hx16 : x < 65536) (hy0 : nb_d x f = 0) : Met l yn_As_follow (Cond.code yn_As_follow bc_As_follow 4 (some .boolean) :: kx_all) ({ frames := 0, cells := 0, slots := 0, locals := 0 } : Room) (kp [.ref o, .int (nI x), .int (nI r)] D cI cZ [as_c o qa qb n t f] sz) (kr_q (some (.int (kb_i false)))) 0 0 (fun _ => False) := by
  refine kx_met (by decide) (Nat.le_of_ble_eq_true rfl) ?_
  intro p e s m below meth c ls hx hb hr hml hts hown hlocks hin hsz hP hK hD hN hl
  have hown : s.vm.findClass rn_As = some m.cls := hown
  have hl : lv_has ls 4 [(0, .ref o), (1, .int (nI x)), (2, .int (nI r))] := hl
  have hy16 : nb_d x f < 65536 := nb_d_lt (n := 16) hx16
  refine lv_iload_n hx hb dc_As_follow_0 rfl (lv_at hl 1 rfl) ?_
  refine lv_aload_n hx hb dc_As_follow_1 rfl (lv_at hl 0 rfl) ?_
  refine va_get (ci := 6) (v := .int (nI f)) (C := rn_As) (T := fd_As) (N := 5) hx hb hts in_As hown hK hP 0 rfl rfl 4 (by decide) (hts _ wd_172) (fun _ h9 => h9) rfl dc_As_follow_2 ?_
  refine lv_iconst (v := (-1)) hx hb dc_As_follow_5 (by decide +kernel) ?_
  refine lv_ixor hx hb dc_As_follow_6 ?_
  refine kn_inot hx hb dc_As_follow_7 ?_
  refine lv_istore_n (lv' := [(3, .int (nI (nb_d x f))), (0, .ref o), (1, .int (nI x)), (2, .int (nI r))]) hx hb dc_As_follow_8 rfl hl (by decide) rfl (fun ls hl => ?_)
  refine lv_iload_n hx hb dc_As_follow_9 rfl (lv_at hl 0 rfl) ?_
  refine kn_if_eq hx hb (Nat.lt_trans hy16 (by decide)) dc_As_follow_10 rfl (fun hc10 => ?_) (fun hc10 => ?_)
  · refine lv_iconst (v := nI 0) hx hb dc_As_follow_22 (by decide +kernel) ?_
    refine kn_top (y := kb_i false) (by decide +kernel) ?_
    exact kr_zret hx hb hr hlocks dc_As_follow_23 (rfl)
  · exact absurd hy0 hc10

set_option maxHeartbeats 4000000 in
set_option maxRecDepth 100000 in
theorem ct_As_usedFor (l : Launch) (D : va_G) (cI cZ : ClassId) (sz : Nat) (o : Nat) (qa : Nat) (qb : Nat) (n : Nat) (t : Nat) (f : Nat) (rs : Nat → Nat) (im : Nat → Nat) (j : Nat) (qs : Nat) (N : Nat) (fs : Nat → Nat) (hjN : j < N) (hN33 : N ≤ 33) (hn8 : n ≤ 8) (hri : ∀ k, k < n → rs k < N ∧ im k < 65536) : Met l yn_As_usedFor (Cond.code yn_As_usedFor bc_As_usedFor 7 (some .long) :: kx_all) ({ frames := 1, cells := 0, slots := 0, locals := 20 } : Room) (kp [.ref o, .int (nI j), .ref qs] D cI cZ [as_c o qa qb n t f, ar_n cI qa 8 rs, ar_n cI qb 8 im, ar_n cI qs N fs] sz) (kr_q (some (.long (lN (pt_used fs rs im n (2 ^ j) (fs j)))))) 0 0 (fun _ => False) := by
  refine kx_met (by decide) (Nat.le_of_ble_eq_true rfl) ?_
  intro p e s m below meth c ls hx hb hr hml hts hown hlocks hin hsz hP hK hD hN hl
  have hown : s.vm.findClass rn_As = some m.cls := hown
  have hl : lv_has ls 7 [(0, .ref o), (1, .int (nI j)), (2, .ref qs)] := hl
  refine lv_iload_n hx hb dc_As_usedFor_0 rfl (lv_at hl 1 rfl) ?_
  refine kr_call1 (va_runSN (As := [.int (nI j)]) (rest := []) ⟨hx, hb, hml, hown, hts⟩ (ct_Pt_one l D cI cZ _ j (by omega)) ⟨va_cnB 1 hts (kx_gi wd_559) rfl rfl rfl (nw_644 hN) (hts _ wd_1) yd_Pt_one ⟨Nat.le_of_ble_eq_true rfl, Nat.le_of_ble_eq_true rfl⟩, hts _ wd_558, trivial⟩ (kp_S hP hD hK hN [] rfl rfl) rfl rfl hl.1 rfl (lv_room (Nat.le_of_ble_eq_true rfl)) dc_As_usedFor_1 ⟨Nat.le_of_ble_eq_true rfl, Nat.le_of_ble_eq_true rfl⟩) ?_
  refine lv_lstore_n (lv' := [(3, .long (lN (2 ^ j))), (0, .ref o), (1, .int (nI j)), (2, .ref qs)]) hx hb dc_As_usedFor_4 rfl hl (by decide) rfl (fun ls hl => ?_)
  refine lv_aload_n hx hb dc_As_usedFor_5 rfl (lv_at hl 3 rfl) ?_
  refine lv_iload_n hx hb dc_As_usedFor_6 rfl (lv_at hl 2 rfl) ?_
  refine ka_nald (t := fs) hx hb hK hP 3 0 rfl rfl (j := j) (by omega) (by omega) dc_As_usedFor_7 ?_
  refine lv_istore (lv' := [(5, .int (nI (fs j))), (3, .long (lN (2 ^ j))), (0, .ref o), (1, .int (nI j)), (2, .ref qs)]) hx hb dc_As_usedFor_8 hl (by decide) rfl (fun ls hl => ?_)
  refine lv_aload_n hx hb dc_As_usedFor_10 rfl (lv_at hl 2 rfl) ?_
  refine va_get (ci := 6) (v := .int (nI n)) (C := rn_As) (T := fd_As) (N := 5) hx hb hts in_As hown hK hP 0 rfl rfl 2 (by decide) (hts _ wd_167) (fun _ h9 => h9) rfl dc_As_usedFor_11 ?_
  refine lv_iconst (v := nI 1) hx hb dc_As_usedFor_14 (by decide +kernel) ?_
  refine lv_isub hx hb dc_As_usedFor_15 ?_
  refine kn_top (y := pt_dn n) rfl ?_
  refine lv_istore (lv' := [(6, .int (pt_dn n)), (5, .int (nI (fs j))), (3, .long (lN (2 ^ j))), (0, .ref o), (1, .int (nI j)), (2, .ref qs)]) hx hb dc_As_usedFor_16 hl (by decide) rfl (fun ls hl => ?_)
  have lp_18 : ∀ (K : Nat) (k : Nat) (u : Nat) (lk : Nat) (ls : Array Slot), k < K → lv_has ls 7 [(6, .int (pt_dn k)), (5, .int (nI lk)), (3, .long (lN u)), (0, .ref o), (1, .int (nI j)), (2, .ref qs)] → (pt_used fs rs im k u lk = pt_used fs rs im n (2 ^ j) (fs j)) → (k ≤ n) → W p l e ({ frames := 1, cells := 0, slots := 0, locals := 20 } : Room) s m ([.ref o, .int (nI j), .ref qs] : List Value).toArray below meth c s.heap [] 0 0 (MQ below (kr_q (some (.long (lN (pt_used fs rs im n (2 ^ j) (fs j)))))) ([.ref o, .int (nI j), .ref qs] : List Value).toArray s 0 0 (fun _ => False)) (F0 m 18 ls []) := by
    intro K
    induction K with
    | zero =>
      intro k u lk ls hk
      exact absurd hk (Nat.not_lt_zero _)
    | succ K ih =>
      intro k u lk ls hk hl h1 h2
      refine lv_iload hx hb dc_As_usedFor_18 (lv_at hl 0 rfl) ?_
      refine lv_if_lt hx hb dc_As_usedFor_20 rfl (fun hc20 => ?_) (fun hc20 => ?_)
      · refine lv_lload_n hx hb dc_As_usedFor_72 rfl (lv_at hl 2 rfl) ?_
        exact kr_lret hx hb hr hlocks dc_As_usedFor_73 (by rw [← h1, show k = 0 from (pt_dn_p (by omega)).mp hc20]; rfl)
      · obtain ⟨q, rfl⟩ : ∃ q, k = q + 1 := ⟨k - 1, by have h9 : ¬ k = 0 := fun h8 => hc20 ((pt_dn_p (k := k) (by omega)).mpr h8); omega⟩
        rw [pt_dn_s] at hl
        refine lv_iload hx hb dc_As_usedFor_23 (lv_at hl 1 rfl) ?_
        refine lv_aload_n hx hb dc_As_usedFor_25 rfl (lv_at hl 3 rfl) ?_
        refine va_get (ci := 6) (v := .ref qb) (C := rn_As) (T := fd_As) (N := 5) hx hb hts in_As hown hK hP 0 rfl rfl 1 (by decide) (hts _ wd_166) (fun _ h9 => h9) rfl dc_As_usedFor_26 ?_
        refine lv_iload hx hb dc_As_usedFor_29 (lv_at hl 0 rfl) ?_
        refine ka_nald (t := im) hx hb hK hP 2 0 rfl rfl (j := q) (by omega) (by omega) dc_As_usedFor_31 ?_
        refine kr_call1 (va_runSN (As := [.int (nI (im q))]) (rest := [.int (nI lk)]) ⟨hx, hb, hml, hown, hts⟩ (ct_Pt_opposites l D cI cZ _ (im q) ((hri q (by omega)).2)) ⟨va_cnB 1 hts (kx_gi wd_613) rfl rfl rfl (nw_619 hN) (hts _ wd_1) yd_Pt_opposites ⟨Nat.le_of_ble_eq_true rfl, Nat.le_of_ble_eq_true rfl⟩, hts _ wd_612, trivial⟩ (kp_S hP hD hK hN [] rfl rfl) rfl rfl hl.1 rfl (lv_room (Nat.le_of_ble_eq_true rfl)) dc_As_usedFor_32 ⟨Nat.le_of_ble_eq_true rfl, Nat.le_of_ble_eq_true rfl⟩) ?_
        refine kn_iand hx hb dc_As_usedFor_35 ?_
        refine kn_if_eq hx hb (Nat.lt_of_le_of_lt Nat.and_le_right (Nat.lt_trans (nb_op_lt (hri q (by omega)).2) (by decide))) dc_As_usedFor_36 rfl (fun hc36 => ?_) (fun hc36 => ?_)
        · refine lv_iinc (k := 0) (v := pt_dn q) (lv' := [(6, .int (pt_dn q)), (5, .int (nI lk)), (3, .long (lN u)), (0, .ref o), (1, .int (nI j)), (2, .ref qs)]) hx hb dc_As_usedFor_66 hl rfl (pt_dn_i _) (by decide) rfl (fun ls hl => ?_)
          refine lv_goto hx hb dc_As_usedFor_69 rfl ?_
          exact ih _ _ _ _ (by omega) hl (by rw [← h1, pt_used, if_pos hc36]) (by omega)
        · refine lv_lload_n hx hb dc_As_usedFor_39 rfl (lv_at hl 2 rfl) ?_
          refine lv_aload_n hx hb dc_As_usedFor_40 rfl (lv_at hl 3 rfl) ?_
          refine va_get (ci := 6) (v := .ref qa) (C := rn_As) (T := fd_As) (N := 5) hx hb hts in_As hown hK hP 0 rfl rfl 0 (by decide) (hts _ wd_164) (fun _ h9 => h9) rfl dc_As_usedFor_41 ?_
          refine lv_iload hx hb dc_As_usedFor_44 (lv_at hl 0 rfl) ?_
          refine ka_nald (t := rs) hx hb hK hP 1 0 rfl rfl (j := q) (by omega) (by omega) dc_As_usedFor_46 ?_
          refine kr_call1 (va_runSN (As := [.int (nI (rs q))]) (rest := [.long (lN u)]) ⟨hx, hb, hml, hown, hts⟩ (ct_Pt_one l D cI cZ _ (rs q) (by have := (hri q (by omega)).1; omega)) ⟨va_cnB 1 hts (kx_gi wd_559) rfl rfl rfl (nw_644 hN) (hts _ wd_1) yd_Pt_one ⟨Nat.le_of_ble_eq_true rfl, Nat.le_of_ble_eq_true rfl⟩, hts _ wd_558, trivial⟩ (kp_S hP hD hK hN [] rfl rfl) rfl rfl hl.1 rfl (lv_room (Nat.le_of_ble_eq_true rfl)) dc_As_usedFor_47 ⟨Nat.le_of_ble_eq_true rfl, Nat.le_of_ble_eq_true rfl⟩) ?_
          refine kl_lor hx hb dc_As_usedFor_50 ?_
          refine lv_lstore_n (lv' := [(3, .long (lN (u ||| (2 ^ (rs q))))), (6, .int (nI q)), (5, .int (nI lk)), (0, .ref o), (1, .int (nI j)), (2, .ref qs)]) hx hb dc_As_usedFor_51 rfl hl (by decide) rfl (fun ls hl => ?_)
          refine lv_iload hx hb dc_As_usedFor_52 (lv_at hl 2 rfl) ?_
          refine lv_aload_n hx hb dc_As_usedFor_54 rfl (lv_at hl 5 rfl) ?_
          refine lv_aload_n hx hb dc_As_usedFor_55 rfl (lv_at hl 3 rfl) ?_
          refine va_get (ci := 6) (v := .ref qa) (C := rn_As) (T := fd_As) (N := 5) hx hb hts in_As hown hK hP 0 rfl rfl 0 (by decide) (hts _ wd_164) (fun _ h9 => h9) rfl dc_As_usedFor_56 ?_
          refine lv_iload hx hb dc_As_usedFor_59 (lv_at hl 1 rfl) ?_
          refine ka_nald (t := rs) hx hb hK hP 1 0 rfl rfl (j := q) (by omega) (by omega) dc_As_usedFor_61 ?_
          refine ka_nald (t := fs) hx hb hK hP 3 0 rfl rfl (j := rs q) (by have := (hri q (by omega)).1; omega) (by omega) dc_As_usedFor_62 ?_
          refine kn_ior hx hb dc_As_usedFor_63 ?_
          refine lv_istore (lv' := [(5, .int (nI (lk ||| (fs (rs q))))), (3, .long (lN (u ||| (2 ^ (rs q))))), (6, .int (nI q)), (0, .ref o), (1, .int (nI j)), (2, .ref qs)]) hx hb dc_As_usedFor_64 hl (by decide) rfl (fun ls hl => ?_)
          refine lv_iinc (k := 2) (v := pt_dn q) (lv' := [(6, .int (pt_dn q)), (5, .int (nI (lk ||| (fs (rs q))))), (3, .long (lN (u ||| (2 ^ (rs q))))), (0, .ref o), (1, .int (nI j)), (2, .ref qs)]) hx hb dc_As_usedFor_66 hl rfl (pt_dn_i _) (by decide) rfl (fun ls hl => ?_)
          refine lv_goto hx hb dc_As_usedFor_69 rfl ?_
          exact ih _ _ _ _ (by omega) hl (by rw [← h1, pt_used, if_neg hc36]) (by omega)
  exact lp_18 _ _ _ _ _ (Nat.lt_succ_self _) hl (rfl) (by omega)

set_option maxHeartbeats 4000000 in
set_option maxRecDepth 100000 in
theorem ct_Sp_forget (l : Launch) (D : va_G) (cI cZ : ClassId) (sz : Nat) (o : Nat) (qa : Nat) (qb : Nat) (n : Nat) (op : Bool)  : Met l yn_Sp_forget (Cond.code yn_Sp_forget bc_Sp_forget 1 none :: kx_all) ({ frames := 0, cells := 0, slots := 0, locals := 0 } : Room) (kp [.ref o] D cI cZ [sp_c o qa qb n op] sz) (kw_q none D kc_l [sp_c o qa qb 0 true] (va_A [sp_c o qa qb n op] sz)) 0 0 (va_A [sp_c o qa qb n op] sz) := by
  refine kx_metW (by decide) (Nat.le_of_ble_eq_true rfl) ?_
  intro p e s m below meth c ls A hx hb hr hml hts hown hlocks hin hA hP hK hD hN hl hS
  have hown : s.vm.findClass rn_Sp = some m.cls := hown
  have hl : lv_has ls 1 [(0, .ref o)] := hl
  refine lv_aload_n hx hb dc_Sp_forget_0 rfl (lv_at hl 0 rfl) ?_
  refine lv_iconst (v := nI 0) hx hb dc_Sp_forget_1 (by decide +kernel) ?_
  refine va_put (ci := 4) (v := .int (nI 0)) (ty := .int) (C := rn_Sp) (T := fd_Sp) (N := 4) hx hb hts in_Sp ty_Sp tk_Sp nm_Sp hown hK hP hD hS 0 rfl rfl 2 (by decide) (hts _ wd_114) (fun _ h9 => h9) rfl (by decide +kernel) rfl rfl (Nat.le_of_ble_eq_true rfl) dc_Sp_forget_2 (fun H locs hP hD hS => ?_)
  have hP : va_P D kc_l [sp_c o qa qb 0 op] H := hP
  have hD : va_D A [sp_c o qa qb 0 op] := hD
  refine lv_aload_n hx hb dc_Sp_forget_5 rfl (lv_at hl 0 rfl) ?_
  refine lv_iconst (v := nI 1) hx hb dc_Sp_forget_6 (by decide +kernel) ?_
  refine kn_top (y := kb_i true) (by decide +kernel) ?_
  refine va_put (ci := 4) (v := .int (kb_i true)) (ty := .boolean) (C := rn_Sp) (T := fd_Sp) (N := 4) hx hb hts in_Sp ty_Sp tk_Sp nm_Sp hown hK hP hD hS 0 rfl rfl 3 (by decide) (hts _ wd_118) (fun _ h9 => h9) rfl (by decide +kernel) (kb_nar _) (kb_fit _) (Nat.le_of_ble_eq_true rfl) dc_Sp_forget_7 (fun H locs hP hD hS => ?_)
  have hP : va_P D kc_l [sp_c o qa qb 0 true] H := hP
  have hD : va_D A [sp_c o qa qb 0 true] := hD
  exact kw_vret hx hb hr hlocks hP hD hS dc_Sp_forget_10 (rfl)

set_option maxHeartbeats 4000000 in
set_option maxRecDepth 100000 in
theorem ct_Sp_liveAfterAll (l : Launch) (D : va_G) (cI cZ : ClassId) (sz : Nat) (o : Nat) (qa : Nat) (qb : Nat) (n : Nat) (op : Bool) (dl : Nat → Bool) (nu : Nat → Nat) (b : Nat) (hn : n ≤ 16) (hnu : ∀ i, nu i ≤ 32) (hb : b ≤ 32) : Met l yn_Sp_liveAfterAll (Cond.code yn_Sp_liveAfterAll bc_Sp_liveAfterAll 5 (some .long) :: kx_all) ({ frames := 1, cells := 0, slots := 0, locals := 20 } : Room) (kp [.ref o, .int (nI b)] D cI cZ [sp_c o qa qb n op, ar_b cZ qa 17 dl, ar_n cI qb 17 nu] sz) (kr_q (some (.long (lN (pt_live dl nu n 1 (2 ^ (b + 1) - 2)))))) 0 0 (fun _ => False) := by
  refine kx_met (by decide) (Nat.le_of_ble_eq_true rfl) ?_
  intro p e s m below meth c ls hx hb hr hml hts hown hlocks hin hsz hP hK hD hN hl
  have hown : s.vm.findClass rn_Sp = some m.cls := hown
  have hl : lv_has ls 5 [(0, .ref o), (1, .int (nI b))] := hl
  refine lv_iload_n hx hb dc_Sp_liveAfterAll_0 rfl (lv_at hl 1 rfl) ?_
  refine kr_call1 (va_runSN (As := [.int (nI b)]) (rest := []) ⟨hx, hb, hml, hown, hts⟩ (ct_Pt_firstOnes l D cI cZ _ b (by omega)) ⟨va_cnB 1 hts (kx_gi wd_550) rfl rfl rfl (nw_548 hN) (hts _ wd_1) yd_Pt_firstOnes ⟨Nat.le_of_ble_eq_true rfl, Nat.le_of_ble_eq_true rfl⟩, hts _ wd_549, trivial⟩ (kp_S hP hD hK hN [] rfl rfl) rfl rfl hl.1 rfl (lv_room (Nat.le_of_ble_eq_true rfl)) dc_Sp_liveAfterAll_1 ⟨Nat.le_of_ble_eq_true rfl, Nat.le_of_ble_eq_true rfl⟩) ?_
  refine lv_lstore_n (lv' := [(2, .long (lN (2 ^ (b + 1) - 2))), (0, .ref o), (1, .int (nI b))]) hx hb dc_Sp_liveAfterAll_4 rfl hl (by decide) rfl (fun ls hl => ?_)
  refine lv_iconst (v := nI 1) hx hb dc_Sp_liveAfterAll_5 (by decide +kernel) ?_
  refine lv_istore (lv' := [(4, .int (nI 1)), (2, .long (lN (2 ^ (b + 1) - 2))), (0, .ref o), (1, .int (nI b))]) hx hb dc_Sp_liveAfterAll_6 hl (by decide) rfl (fun ls hl => ?_)
  have lp_8 : ∀ (K : Nat) (i : Nat) (lv : Nat) (ls : Array Slot), n + 1 - i < K → lv_has ls 5 [(4, .int (nI i)), (2, .long (lN lv)), (0, .ref o), (1, .int (nI b))] → (pt_live dl nu (n + 1 - i) i lv = pt_live dl nu n 1 (2 ^ (b + 1) - 2)) → (1 ≤ i ∧ i ≤ n + 1) → W p l e ({ frames := 1, cells := 0, slots := 0, locals := 20 } : Room) s m ([.ref o, .int (nI b)] : List Value).toArray below meth c s.heap [] 0 0 (MQ below (kr_q (some (.long (lN (pt_live dl nu n 1 (2 ^ (b + 1) - 2)))))) ([.ref o, .int (nI b)] : List Value).toArray s 0 0 (fun _ => False)) (F0 m 8 ls []) := by
    intro K
    induction K with
    | zero =>
      intro i lv ls hk
      exact absurd hk (Nat.not_lt_zero _)
    | succ K ih =>
      intro i lv ls hk hl h1 h2
      refine lv_iload hx hb dc_Sp_liveAfterAll_8 (lv_at hl 0 rfl) ?_
      refine lv_aload_n hx hb dc_Sp_liveAfterAll_10 rfl (lv_at hl 2 rfl) ?_
      refine va_get (ci := 4) (v := .int (nI n)) (C := rn_Sp) (T := fd_Sp) (N := 4) hx hb hts in_Sp hown hK hP 0 rfl rfl 2 (by decide) (hts _ wd_114) (fun _ h9 => h9) rfl dc_Sp_liveAfterAll_11 ?_
      refine kn_icmp_gt hx hb (by omega) (by omega) dc_Sp_liveAfterAll_14 rfl (fun hc14 => ?_) (fun hc14 => ?_)
      · refine lv_lload_n hx hb dc_Sp_liveAfterAll_65 rfl (lv_at hl 1 rfl) ?_
        exact kr_lret hx hb hr hlocks dc_Sp_liveAfterAll_66 (by rw [← h1, live_en (by omega)])
      · refine lv_aload_n hx hb dc_Sp_liveAfterAll_17 rfl (lv_at hl 2 rfl) ?_
        refine va_get (ci := 4) (v := .ref qa) (C := rn_Sp) (T := fd_Sp) (N := 4) hx hb hts in_Sp hown hK hP 0 rfl rfl 0 (by decide) (hts _ wd_106) (fun _ h9 => h9) rfl dc_Sp_liveAfterAll_18 ?_
        refine lv_iload hx hb dc_Sp_liveAfterAll_21 (lv_at hl 0 rfl) ?_
        refine ka_bald (t := dl) hx hb hK hP 1 1 rfl rfl (j := i) (by omega) (by omega) dc_Sp_liveAfterAll_23 ?_
        refine kb_if_eq hx hb dc_Sp_liveAfterAll_24 rfl (fun hc24 => ?_) (fun hc24 => ?_)
        · refine lv_lload_n hx hb dc_Sp_liveAfterAll_46 rfl (lv_at hl 1 rfl) ?_
          refine lv_aload_n hx hb dc_Sp_liveAfterAll_47 rfl (lv_at hl 2 rfl) ?_
          refine va_get (ci := 4) (v := .ref qb) (C := rn_Sp) (T := fd_Sp) (N := 4) hx hb hts in_Sp hown hK hP 0 rfl rfl 1 (by decide) (hts _ wd_110) (fun _ h9 => h9) rfl dc_Sp_liveAfterAll_48 ?_
          refine lv_iload hx hb dc_Sp_liveAfterAll_51 (lv_at hl 0 rfl) ?_
          refine ka_nald (t := nu) hx hb hK hP 2 0 rfl rfl (j := i) (by omega) (by omega) dc_Sp_liveAfterAll_53 ?_
          refine kr_call1 (va_runSN (As := [.int (nI (nu i))]) (rest := [.long (lN lv)]) ⟨hx, hb, hml, hown, hts⟩ (ct_Pt_one l D cI cZ _ (nu i) (by have := hnu i; omega)) ⟨va_cnB 1 hts (kx_gi wd_559) rfl rfl rfl (nw_557 hN) (hts _ wd_1) yd_Pt_one ⟨Nat.le_of_ble_eq_true rfl, Nat.le_of_ble_eq_true rfl⟩, hts _ wd_558, trivial⟩ (kp_S hP hD hK hN [] rfl rfl) rfl rfl hl.1 rfl (lv_room (Nat.le_of_ble_eq_true rfl)) dc_Sp_liveAfterAll_54 ⟨Nat.le_of_ble_eq_true rfl, Nat.le_of_ble_eq_true rfl⟩) ?_
          refine kl_lor hx hb dc_Sp_liveAfterAll_57 ?_
          refine lv_lstore_n (lv' := [(2, .long (lN (lv ||| (2 ^ (nu i))))), (4, .int (nI i)), (0, .ref o), (1, .int (nI b))]) hx hb dc_Sp_liveAfterAll_58 rfl hl (by decide) rfl (fun ls hl => ?_)
          refine lv_iinc (k := 1) (v := nI (i + 1)) (lv' := [(4, .int (nI (i + 1))), (2, .long (lN (lv ||| (2 ^ (nu i))))), (0, .ref o), (1, .int (nI b))]) hx hb dc_Sp_liveAfterAll_59 hl rfl (nI_1 _) (by decide) rfl (fun ls hl => ?_)
          refine lv_goto hx hb dc_Sp_liveAfterAll_62 rfl ?_
          exact ih _ _ _ (by omega) hl (by rw [← h1]; exact (live_a (by omega) hc24).symm) (⟨by omega, by omega⟩)
        · refine lv_lload_n hx hb dc_Sp_liveAfterAll_27 rfl (lv_at hl 1 rfl) ?_
          refine lv_aload_n hx hb dc_Sp_liveAfterAll_28 rfl (lv_at hl 2 rfl) ?_
          refine va_get (ci := 4) (v := .ref qb) (C := rn_Sp) (T := fd_Sp) (N := 4) hx hb hts in_Sp hown hK hP 0 rfl rfl 1 (by decide) (hts _ wd_110) (fun _ h9 => h9) rfl dc_Sp_liveAfterAll_29 ?_
          refine lv_iload hx hb dc_Sp_liveAfterAll_32 (lv_at hl 0 rfl) ?_
          refine ka_nald (t := nu) hx hb hK hP 2 0 rfl rfl (j := i) (by omega) (by omega) dc_Sp_liveAfterAll_34 ?_
          refine kr_call1 (va_runSN (As := [.int (nI (nu i))]) (rest := [.long (lN lv)]) ⟨hx, hb, hml, hown, hts⟩ (ct_Pt_one l D cI cZ _ (nu i) (by have := hnu i; omega)) ⟨va_cnB 1 hts (kx_gi wd_559) rfl rfl rfl (nw_557 hN) (hts _ wd_1) yd_Pt_one ⟨Nat.le_of_ble_eq_true rfl, Nat.le_of_ble_eq_true rfl⟩, hts _ wd_558, trivial⟩ (kp_S hP hD hK hN [] rfl rfl) rfl rfl hl.1 rfl (lv_room (Nat.le_of_ble_eq_true rfl)) dc_Sp_liveAfterAll_35 ⟨Nat.le_of_ble_eq_true rfl, Nat.le_of_ble_eq_true rfl⟩) ?_
          refine kl_ldc2 (y := (-1)) hx hb hown (hts _ wd_560) dc_Sp_liveAfterAll_38 (by decide +kernel) ?_
          refine lv_lxor hx hb dc_Sp_liveAfterAll_41 ?_
          refine kl_lnot hx hb dc_Sp_liveAfterAll_42 ?_
          refine lv_goto hx hb dc_Sp_liveAfterAll_43 rfl ?_
          refine lv_lstore_n (lv' := [(2, .long (lN (nb_d lv (2 ^ (nu i))))), (4, .int (nI i)), (0, .ref o), (1, .int (nI b))]) hx hb dc_Sp_liveAfterAll_58 rfl hl (by decide) rfl (fun ls hl => ?_)
          refine lv_iinc (k := 1) (v := nI (i + 1)) (lv' := [(4, .int (nI (i + 1))), (2, .long (lN (nb_d lv (2 ^ (nu i))))), (0, .ref o), (1, .int (nI b))]) hx hb dc_Sp_liveAfterAll_59 hl rfl (nI_1 _) (by decide) rfl (fun ls hl => ?_)
          refine lv_goto hx hb dc_Sp_liveAfterAll_62 rfl ?_
          exact ih _ _ _ (by omega) hl (by rw [← h1]; exact (live_d (by omega) hc24).symm) (⟨by omega, by omega⟩)
  exact lp_8 _ _ _ _ (Nat.lt_succ_self _) hl (rfl) (⟨by omega, by omega⟩)
