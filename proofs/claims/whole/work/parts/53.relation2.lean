/-! the two states behind each call -/
theorem gb_le {fs fz pb : Nat → Nat} {cn : Nat} {dl : Nat → Bool} {nu : Nat → Nat} : ∀ (k lv ma g : Nat) (ft fc : Nat → Nat) (fr : Nat → Int32) (n t f : Nat) (rs im : Nat → Nat), (pt_gb fs fz pb cn dl nu k lv ma g ft fc fr n t f rs im).1 ≤ k := by
  intro k
  induction k with
  | zero => intro lv ma g ft fc fr n t f rs im; exact Nat.le_refl _
  | succ k ih =>
    intro lv ma g ft fc fr n t f rs im
    rw [pt_gb]
    split
    · exact Nat.le_succ_of_le (ih _ _ _ _ _ _ _ _ _ _ _)
    · split
      · exact Nat.le_succ_of_le (ih _ _ _ _ _ _ _ _ _ _ _)
      · dsimp only
        split
        · exact Nat.le_succ_of_le (ih _ _ _ _ _ _ _ _ _ _ _)
        · exact Nat.le_refl _
section REL2
variable {hf hp ck op mcl : Bool} {fb cn sn g ma tn on : Nat} {t ft fc fz fs nu hc : Nat → Nat} {fr hh fl : Nat → Int32} {dl ad kb : Nat → Bool}
theorem zr_z (j : Nat) (h : j ≤ 32) : pt_zr fc 33 j = 0 := by unfold pt_zr; rw [if_pos (by omega)]
theorem rl_zr {ck2 op2 : Bool} {fb2 cn2 : Nat} (hC : pt_C ck op fb cn g ma ft fc fr kb hc hh) (hk : ck2 = false) : pt_C ck2 op2 fb2 cn2 0 0 ft (pt_zr fc 33) fr kb hc hh :=
  ⟨fun j a b => by rw [zr_z j b]; have := hC.1 j a b; omega, hC.2.1, fun _ => ⟨rfl, fun j _ b => zr_z j b⟩, fun q => by rw [hk] at q; exact absurd q (by decide)⟩
theorem rl_sz (hB : pt_B hp op mcl fb cn fz fs fl sn dl nu ad) : ∀ j, 1 ≤ j → j ≤ cn → fz j ≤ 8 := fun _ a b => rk_8 hB.1.1 a b
theorem rl_16 (hB : pt_B hp op mcl fb cn fz fs fl sn dl nu ad) : ∀ j, fs j < 65536 := hB.1.2.1
theorem rl_n32 (hB : pt_B hp op mcl fb cn fz fs fl sn dl nu ad) : ∀ j, nu j ≤ 32 := hB.1.2.2.2.2.2.2.2
theorem rl_nu (hB : pt_B hp op mcl fb cn fz fs fl sn dl nu ad) : ∀ i, 1 ≤ i → i ≤ sn → nu i ≤ cn := fun i a b => (hB.1.2.2.2.2.1 i a b).1
theorem rl_add (hB : pt_B hp op mcl fb cn fz fs fl sn dl nu ad) : ∀ i, 1 ≤ i → i ≤ sn → dl i = false → fb < nu i := fun i a b => (hB.1.2.2.2.2.1 i a b).2
theorem rl_add1 (hB : pt_B hp op mcl fb cn fz fs fl sn dl nu ad) : ∀ i, 1 ≤ i → i ≤ sn → dl i = false → 1 ≤ nu i := fun i a b d => by have := rl_add hB i a b d; omega
theorem rl_dl (hB : pt_B hp op mcl fb cn fz fs fl sn dl nu ad) : ∀ i, 1 ≤ i → i ≤ sn → ad i = !dl i := hB.2.2.2.1
theorem rl_df (hB : pt_B hp op mcl fb cn fz fs fl sn dl nu ad) : ∀ i, 1 ≤ i → i ≤ sn → ad i = true → dl i = false := fun i a b d => by
  have := rl_dl hB i a b
  rw [d] at this
  cases hq : dl i with
  | false => rfl
  | true => rw [hq] at this; exact absurd this (by decide)
theorem rl_dn (hB : pt_B hp op mcl fb cn fz fs fl sn dl nu ad) : ∀ i, 1 ≤ i → i ≤ sn → dl i = !ad i := fun i a b => by rw [rl_dl hB i a b, Bool.not_not]
theorem rl_madd (hB : pt_B hp op mcl fb cn fz fs fl sn dl nu ad) : ∀ i, 1 ≤ i → i ≤ sn → ad i = true → fb < nu i := fun i a b d => rl_add hB i a b (rl_df hB i a b d)
theorem rl_inc (hB : pt_B hp op mcl fb cn fz fs fl sn dl nu ad) : ∀ i, 1 ≤ i → i ≤ sn → ad i = true → ∀ a, 1 ≤ a → a < i → nu a < nu i := fun i a b d x x1 x2 => hB.1.2.2.2.2.2.1 x i x1 x2 b (rl_df hB i a b d)
theorem rl_lit (hB : pt_B hp op mcl fb cn fz fs fl sn dl nu ad) : ∀ j, 1 ≤ j → j ≤ cn → 1 ≤ fz j → pt_qb fl j < 16 ∧ fl (j * 8) = pt_lit (pt_qb fl j) ∧ (pt_qb fl j + 8) % 16 = pt_pb fl j := fun j a b d => by
  have q := qb_lit hB.1.1 a b d
  exact ⟨q.1, q.2.1, q.2.2.1⟩
theorem rl_lits (hB : pt_B hp op mcl fb cn fz fs fl sn dl nu ad) : ∀ j k, 1 ≤ j → j ≤ cn → k < fz j → ∃ b, b < 16 ∧ fl (j * 8 + k) = pt_lit b := fun j k a b d => by
  obtain ⟨bb, pm, hr⟩ := hB.1.1 j a b
  have q := hr.2.2.2 k d
  exact ⟨bb k, q.1, q.2.1⟩
theorem rl_hbs (hB : pt_B hp op mcl fb cn fz fs fl sn dl nu ad) (hcn : cn ≤ 32) (hC : pt_C ck op fb cn g ma ft fc fr kb hc hh) : ∀ j, ck = true → 1 ≤ j → j ≤ cn → 0 < hc j → fb < j ∧ j ≤ fb + 16 := fun j k a b d => by
  obtain ⟨-, -, -, hr, -⟩ := hC.2.2.2 k
  have e := hr.1 j a (by omega)
  have q := hr.2.1 j a (by omega) (by omega)
  have h1 := hB.1.2.2.2.1
  have h2 := hB.2.1
  omega
/-- behind a formula -/
theorem rl_fml {FF : pt_F6} {gz gs : Nat → Nat} {gl : Nat → Int32} (hA : pt_A hf hp ck fb tn on t) (hB : pt_B hp op mcl fb cn fz fs fl sn dl nu ad) (h : pt_fml t tn gz gs gl = FF) (ht : FF.1 = true) : pt_A true false false FF.2.1 0 on t ∧
    pt_B false true mcl FF.2.1 FF.2.1 (pt_cps FF.2.2.2.1 FF.2.2.2.2.1 FF.2.2.2.2.2 fz fs fl FF.2.1).1 (pt_cps FF.2.2.2.1 FF.2.2.2.2.1 FF.2.2.2.2.2 fz fs fl FF.2.1).2.1 (pt_cps FF.2.2.2.1 FF.2.2.2.2.1 FF.2.2.2.2.2 fz fs fl FF.2.1).2.2 0 dl nu ad := by
  obtain ⟨h1, h2, -⟩ := fml_rk h ht
  have h3 := cps_rk (fz := fz) (fs := fs) (fl := fl) h1 FF.2.1 (Nat.le_refl _)
  exact ⟨⟨by omega, hA.2.1, hA.2.2.1, h2, fun q => absurd q (by decide), fun q => absurd q (by decide)⟩, rl_sti0 h3.1 (h3.2 (rl_16 hB)) (rl_n32 hB), by omega, fun q => absurd q (by decide), fun i a b => by omega, fun _ => rfl⟩
/-- behind a proof -/
theorem rl_prf {FF : pt_Y} {SS : pt_T} {ad2 : Nat → Bool} (hA : pt_A hf hp ck fb tn on t) (hB : pt_B hp op mcl fb cn fz fs fl sn dl nu ad) (hhf : hf = true) (h1 : pt_rk FF.2.1 FF.2.2.1 FF.2.2.2.1 FF.2.2.2.2.1) (h2 : FF.2.1 ≤ 16)
    (hS : pt_set FF.2.2.1 FF.2.2.2.1 FF.2.2.2.2.1 FF.2.2.2.2.2 FF.2.1 1 (2 ^ (fb + 1) - 2) fb fz fs fl 0 true dl nu = SS) (had : ∀ i, 1 ≤ i → i ≤ SS.2.2.2.2.1 → ad2 i = !SS.2.2.2.2.2.2.1 i) : pt_A hf true false fb 0 on t ∧
    pt_B true SS.2.2.2.2.2.1 (!SS.2.2.2.2.2.1) fb SS.1 SS.2.1 SS.2.2.1 SS.2.2.2.1 SS.2.2.2.2.1 SS.2.2.2.2.2.2.1 SS.2.2.2.2.2.2.2 ad2 := by
  have h3 := set_ok (dd := FF.2.2.2.2.2) h1 hA.2.2.2.1 h2 FF.2.1 1 (2 ^ (fb + 1) - 2) fb fz fs fl 0 true dl nu rfl (by omega) (rl_sti0 (rk_le hB.1.1 hB.1.2.2.1) (rl_16 hB) (rl_n32 hB)) rl_end0 lok_0
  rw [hS] at h3
  obtain ⟨s1, s2, s3⟩ := h3
  exact ⟨⟨by omega, hA.2.1, hA.2.2.1, hA.2.2.2.1, fun q => by rw [hhf] at q; exact absurd q (by decide), fun q => absurd q (by decide)⟩, s1, by omega, fun _ => ⟨rfl, s2⟩, had, fun q => absurd q (by decide)⟩
theorem rl_prc {gz gs : Nat → Nat} {gl : Nat → Int32} {dd : Nat → Bool} {FF : pt_Y} (h : pt_prf t tn 16 0 0 gz gs gl dd = FF) : pt_rk FF.2.1 FF.2.2.1 FF.2.2.2.1 FF.2.2.2.2.1 ∧ FF.2.1 ≤ 16 := by
  have h1 := prf_rk (t := t) (tn := tn) 16 0 0 gz gs gl dd rk_0
  rw [h] at h1
  exact ⟨h1.1, by have := h1.2.1; omega⟩
theorem rl_prp {gz gs : Nat → Nat} {gl : Nat → Int32} {dd : Nat → Bool} {FF : pt_Y} (h : pt_pck t tn 16 0 0 gz gs gl dd = FF) : pt_rk FF.2.1 FF.2.2.1 FF.2.2.2.1 FF.2.2.2.2.1 ∧ FF.2.1 ≤ 16 := by
  have h1 := pck_rk (t := t) (tn := tn) 16 0 0 gz gs gl dd rk_0
  rw [h] at h1
  exact ⟨h1.1, by have := h1.2.1; omega⟩
theorem rl_end (hB : pt_B hp op mcl fb cn fz fs fl sn dl nu ad) (hhp : hp = true) (hop : op = false) : 1 ≤ cn ∧ mcl = true := by
  obtain ⟨e1, e2⟩ := hB.2.2.1 hhp
  obtain ⟨e3, e4, e5, -⟩ := e2 hop
  have := rl_add hB sn e3 (Nat.le_refl _) e4
  exact ⟨by omega, by rw [e1, hop]; rfl⟩
/-- what a check finds -/
theorem rl_chk {an at1 af1 : Nat} {rs im rs2 im2 : Nat → Nat} {XX : Nat × pt_S} {YY : Nat × Nat × (Nat → Nat) × (Nat → Int32)} (hA : pt_A hf hp ck fb tn on t) (hB : pt_B hp op mcl fb cn fz fs fl sn dl nu ad) (hC : pt_C ck op fb cn g ma ft fc fr kb hc hh) (hhp : hp = true) (hop : op = false)
    (hX : pt_gb fs fz (pt_pb fl) cn dl nu sn (pt_live dl nu sn 1 (2 ^ (fb + 1) - 2)) (2 ^ cn) 0 ft (pt_zr fc 33) fr an at1 af1 rs im = XX) (hY : pm_gb fs fz (pt_pb fl) cn fb (fun i => !ad i) nu sn (pt_live (fun i => !ad i) nu sn 1 (2 ^ (fb + 1) - 2)) (2 ^ cn) (pt_z1 hc 33) hh rs2 im2 = YY) :
    XX.1 = YY.1 ∧ XX.2.2.1 = YY.2.1 ∧ XX.2.2.2.1 ≤ 2048 ∧ (∀ j, YY.2.2.1 j ≤ 400) ∧ pt_hr cn fb XX.2.2.2.1 XX.2.2.2.2.1 XX.2.2.2.2.2.1 XX.2.2.2.2.2.2.1 YY.2.2.1 YY.2.2.2 ∧ pt_mi cn XX.2.2.1 ∧ XX.1 ≤ 16 ∧ (∀ j, 1 ≤ j → j ≤ 32 → XX.2.2.2.2.1 j ≤ 2048) := by
  have he := (hB.2.2.1 hhp).2
  rw [hop] at he
  have h1 := chk_both (dl2 := fun i => !ad i) hB.1 he hA.2.2.2.1 hB.2.1 (rl_dn hB) 0 rfl ft (pt_zr fc 33) fr an at1 af1 rs im (pt_z1 hc 33) hh rs2 im2 (fun j _ b => zr_z j b) (fun j a b => by unfold pt_z1; rw [if_pos ⟨a, by omega⟩]) (fun j => by unfold pt_z1; split; omega; exact hC.2.1 j) hX hY
  obtain ⟨a1, a2, a3, a4, a5⟩ := h1
  refine ⟨a1, a2, a3, a4, a5, ?_, ?_, ?_⟩
  · rw [← hX]; exact mi_gb _ _ _ _ _ _ _ _ _ _ _ _ (mi_2 (rl_end hB hhp hop).1 (Nat.le_refl _))
  · rw [← hX]; exact Nat.le_trans (gb_le _ _ _ _ _ _ _ _ _ _ _ _) hB.2.1
  · rw [← hX] at a3 ⊢; exact gb_ft _ _ _ _ _ _ _ _ _ _ _ _ (fun j a b => by have := hC.1 j a b; omega) a3
theorem rl_ok {XX : Nat × pt_S} {YY : Nat × Nat × (Nat → Nat) × (Nat → Int32)} {eb : Nat → Bool} (hop : op = false)
    (h : XX.1 = YY.1 ∧ XX.2.2.1 = YY.2.1 ∧ XX.2.2.2.1 ≤ 2048 ∧ (∀ j, YY.2.2.1 j ≤ 400) ∧ pt_hr cn fb XX.2.2.2.1 XX.2.2.2.2.1 XX.2.2.2.2.2.1 XX.2.2.2.2.2.2.1 YY.2.2.1 YY.2.2.2 ∧ pt_mi cn XX.2.2.1 ∧ XX.1 ≤ 16 ∧ (∀ j, 1 ≤ j → j ≤ 32 → XX.2.2.2.2.1 j ≤ 2048)) :
    pt_C true op fb cn XX.2.2.2.1 XX.2.2.1 XX.2.2.2.2.1 XX.2.2.2.2.2.1 XX.2.2.2.2.2.2.1 (pt_mkt eb YY.2.1 cn) YY.2.2.1 YY.2.2.2 := by
  obtain ⟨a1, a2, a3, a4, a5, a6, a7, a8⟩ := h
  refine ⟨fun j a b => ?_, a4, fun q => absurd q (by decide), fun _ => ⟨hop, a6, fun j a b => ?_, a5, a3⟩⟩
  · by_cases h0 : XX.2.2.2.2.2.1 j = 0
    · rw [h0]; have := a8 j a b; omega
    · have := (a5.2.1 j a b h0).2.2.1; omega
  · unfold pt_mkt; rw [if_pos ⟨a, by omega⟩, a2]
theorem rl_bad {XX : Nat × pt_S} {YY : Nat × Nat × (Nat → Nat) × (Nat → Int32)} {kb2 : Nat → Bool}
    (h : XX.1 = YY.1 ∧ XX.2.2.1 = YY.2.1 ∧ XX.2.2.2.1 ≤ 2048 ∧ (∀ j, YY.2.2.1 j ≤ 400) ∧ pt_hr cn fb XX.2.2.2.1 XX.2.2.2.2.1 XX.2.2.2.2.2.1 XX.2.2.2.2.2.2.1 YY.2.2.1 YY.2.2.2 ∧ pt_mi cn XX.2.2.1 ∧ XX.1 ≤ 16 ∧ (∀ j, 1 ≤ j → j ≤ 32 → XX.2.2.2.2.1 j ≤ 2048)) :
    pt_C false op fb cn 0 0 XX.2.2.2.2.1 (pt_zr XX.2.2.2.2.2.1 33) XX.2.2.2.2.2.2.1 kb2 YY.2.2.1 YY.2.2.2 := by
  obtain ⟨a1, a2, a3, a4, a5, a6, a7, a8⟩ := h
  exact ⟨fun j a b => by rw [zr_z j b]; have := a8 j a b; omega, a4, fun _ => ⟨rfl, fun j _ b => zr_z j b⟩, fun q => absurd q (by decide)⟩
theorem rl_res {XX : Nat × pt_S} {YY : Nat × Nat × (Nat → Nat) × (Nat → Int32)} (hB : pt_B hp op mcl fb cn fz fs fl sn dl nu ad) (hcn : cn ≤ 32) (h1 : XX.1 = YY.1) (h2 : XX.2.2.1 = YY.2.1) (h3 : pt_mi cn XX.2.2.1) (h0 : XX.1 = 0) :
    (if YY.1 = 0 then nI (pt_ct YY.2.1 (cn + 1 - (fb + 1)) (fb + 1)) else -nI YY.1) = nI (pt_ct (nb_d XX.2.2.1 (2 ^ (fb + 1) - 2)) 40 0) := by
  rw [if_pos (by rw [← h1]; exact h0), ct_marks h3 hB.1.2.2.1 hcn, h2, show cn + 1 - (fb + 1) = cn - fb by omega]
theorem rl_ver {an at1 af1 : Nat} {rs im : Nat → Nat} (hB : pt_B hp op mcl fb cn fz fs fl sn dl nu ad) : pt_fb fs fz (pt_pb fl) cn (fun i => !ad i) nu ma ft fc fr sn 1 (2 ^ (fb + 1) - 2) 0 false an at1 af1 rs im = pt_fb fs fz (pt_pb fl) cn dl nu ma ft fc fr sn 1 (2 ^ (fb + 1) - 2) 0 false an at1 af1 rs im :=
  fb_cg _ _ _ _ _ _ _ _ _ _ (fun j a b => (rl_dn hB j a (by omega)).symm)
theorem rl_wr {ma2 : Nat} (hA : pt_A hf hp ck fb tn on t) (hB : pt_B hp op mcl fb cn fz fs fl sn dl nu ad) : pt_A hf hp ck fb tn (pt_wr fz fl fb ma2 dl nu sn).length t := by
  have h1 := wr_len (fl := fl) (ba := fb) (mk := ma2) (dl := dl) (rl_sz hB) (rl_nu hB) sn (Nat.le_refl _)
  have h2 := hB.2.1
  exact ⟨hA.1, hA.2.1, by omega, hA.2.2.2⟩
theorem rl_typ {P : Prop} [Decidable P] {n : Nat} {b : Int64} (hA : pt_A hf hp ck fb tn on t) (hn : P → tn + n ≤ 250) : pt_A hf hp ck fb (if P then tn + n else tn) on (if P then pt_typ t tn b n 0 else t) := by
  by_cases h : P
  · rw [if_pos h, if_pos h]; exact ⟨hn h, fun j => typ_lt hA.2.1 j, hA.2.2⟩
  · rw [if_neg h, if_neg h]; exact hA
theorem rl_wipe (hA : pt_A hf hp ck fb tn on t) : pt_A hf hp ck fb 0 on t := ⟨by omega, hA.2⟩
theorem rl_A0 : pt_A false false false 0 0 0 (fun _ => 0) := ⟨by omega, fun _ => by show 0 < 256; omega, by omega, by omega, fun _ => rfl, fun q => absurd q (by decide)⟩
theorem rl_B0 : pt_B false false false 0 0 (fun _ => 0) (fun _ => 0) (fun _ => 0) 0 (fun _ => false) (fun _ => 0) (fun _ => false) := ⟨rl_sti0 rk_0 (fun _ => by show 0 < 65536; omega) (fun _ => by show 0 ≤ 32; omega), by omega, fun q => absurd q (by decide), fun i a b => by omega, fun _ => rfl⟩
theorem rl_C0 : pt_C false false 0 0 0 0 (fun _ => 0) (fun _ => 0) (fun _ => 0) (fun _ => false) (fun _ => 0) (fun _ => 0) := ⟨fun _ _ _ => by show 0 + 0 ≤ 2048; omega, fun _ => by show 0 ≤ 400; omega, fun _ => ⟨rfl, fun _ _ _ => rfl⟩, fun q => absurd q (by decide)⟩
theorem rl_ck (hA : pt_A hf hp ck fb tn on t) (h : hp = true) {c2 : Bool} : pt_A hf hp c2 fb tn on t := ⟨hA.1, hA.2.1, hA.2.2.1, hA.2.2.2.1, hA.2.2.2.2.1, fun _ => h⟩
theorem rl_62 (hC : pt_C ck op fb cn g ma ft fc fr kb hc hh) (hcn : cn ≤ 32) : ma < 2 ^ 62 := Nat.lt_trans (rl_ma hC hcn).1 (by decide)
end REL2
