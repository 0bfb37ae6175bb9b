/-! how many bits a long has -/
/-- k bytes, each of them c -/
def pt_rep (c : Nat) : Nat → Nat
  | 0 => 0
  | k + 1 => c + 256 * pt_rep c k
theorem and_split {a c V M : Nat} (ha : a < 256) (hc : c < 256) : (a + 256 * V) &&& (c + 256 * M) = (a &&& c) + 256 * (V &&& M) := by
  have key : ∀ p q i, p < 256 → (p + 256 * q).testBit i = if i < 8 then p.testBit i else q.testBit (i - 8) := by
    intro p q i hp
    rw [Nat.add_comm, show 256 * q = 2 ^ 8 * q from rfl, Nat.testBit_two_pow_mul_add q (show p < 2 ^ 8 from hp)]
  apply Nat.eq_of_testBit_eq
  intro i
  rw [Nat.testBit_and, key a V i ha, key c M i hc, key (a &&& c) (V &&& M) i (Nat.lt_of_le_of_lt Nat.and_le_left ha)]
  split
  · rw [Nat.testBit_and]
  · rw [Nat.testBit_and]
def pt_f1 (b : Nat) : Nat := b - (b / 2 &&& 0x55)
def pt_f2 (b : Nat) : Nat := (b &&& 0x33) + (b / 4 &&& 0x33)
def pt_f3 (b : Nat) : Nat := (b + b / 16) &&& 0x0f
/-- each byte by itself -/
def pt_by (f : Nat → Nat) : Nat → Nat → Nat
  | 0, _ => 0
  | k + 1, x => f (x % 256) + 256 * pt_by f k (x / 256)
theorem f1_e : ∀ b, b < 256 → ∀ e, e < 2 → (b / 2 + 128 * e) &&& 0x55 = b / 2 &&& 0x55 := by decide +kernel
theorem f1_le : ∀ b, b < 256 → (b / 2 &&& 0x55) ≤ b := by decide +kernel
theorem f1_lt : ∀ b, b < 256 → pt_f1 b < 256 := by decide +kernel
theorem f2_e : ∀ b, b < 256 → ∀ e, e < 4 → (b / 4 + 64 * e) &&& 0x33 = b / 4 &&& 0x33 := by decide +kernel
theorem f2_lt : ∀ b, b < 256 → pt_f2 b < 256 := by decide +kernel
theorem f3_e : ∀ b, b < 256 → b % 16 ≤ 4 → b / 16 ≤ 4 → ∀ e, e < 5 → (b + b / 16 + 16 * e) &&& 0x0f = (b + b / 16) &&& 0x0f := by decide +kernel
theorem f12 : ∀ b, b < 256 → pt_f2 (pt_f1 b) % 16 ≤ 4 ∧ pt_f2 (pt_f1 b) / 16 ≤ 4 := by decide +kernel
theorem f123 : ∀ b, b < 256 → pt_f3 (pt_f2 (pt_f1 b)) = pt_ct b 8 0 := by decide +kernel
theorem ct8 : ∀ b, b < 256 → pt_ct b 8 0 ≤ 8 := by decide +kernel
theorem s1_by : ∀ k x, x < 256 ^ k → (x / 2 &&& pt_rep 0x55 k) ≤ x ∧ x - (x / 2 &&& pt_rep 0x55 k) = pt_by pt_f1 k x := by
  intro k
  induction k with
  | zero => intro x h; rw [Nat.pow_zero] at h; have : x = 0 := by omega
            subst this; exact ⟨Nat.le_refl _, rfl⟩
  | succ k ih =>
    intro x h
    obtain ⟨i1, i2⟩ := ih (x / 256) (by rw [Nat.pow_succ] at h; omega)
    have e1 : x / 2 = (x % 256 / 2 + 128 * (x / 256 % 2)) + 256 * (x / 256 / 2) := by omega
    have h1 := f1_le (x % 256) (by omega)
    have h2 : (x / 2 &&& pt_rep 0x55 (k + 1)) = (x % 256 / 2 &&& 0x55) + 256 * (x / 256 / 2 &&& pt_rep 0x55 k) := by
      rw [pt_rep, e1, and_split (by omega) (by decide), f1_e _ (by omega) _ (by omega)]
    rw [h2, pt_by, ← i2, pt_f1]
    exact ⟨by omega, by omega⟩
theorem s2_by : ∀ k x, x < 256 ^ k → (x &&& pt_rep 0x33 k) + (x / 4 &&& pt_rep 0x33 k) = pt_by pt_f2 k x := by
  intro k
  induction k with
  | zero => intro x h; rw [Nat.pow_zero] at h; have : x = 0 := by omega
            subst this; rfl
  | succ k ih =>
    intro x h
    have i2 := ih (x / 256) (by rw [Nat.pow_succ] at h; omega)
    have e0 : x = x % 256 + 256 * (x / 256) := by omega
    have e1 : x / 4 = (x % 256 / 4 + 64 * (x / 256 % 4)) + 256 * (x / 256 / 4) := by omega
    have h2 : (x / 4 &&& pt_rep 0x33 (k + 1)) = (x % 256 / 4 &&& 0x33) + 256 * (x / 256 / 4 &&& pt_rep 0x33 k) := by
      rw [pt_rep, e1, and_split (by omega) (by decide), f2_e _ (by omega) _ (by omega)]
    have h3 : (x &&& pt_rep 0x33 (k + 1)) = (x % 256 &&& 0x33) + 256 * (x / 256 &&& pt_rep 0x33 k) := by
      rw [pt_rep]
      conv => lhs; rw [e0]
      rw [and_split (by omega) (by decide)]
    rw [h2, h3, pt_by, ← i2, pt_f2]
    omega
/-- every half byte is at most 4 -/
def pt_n4 : Nat → Nat → Prop
  | 0, _ => True
  | k + 1, x => x % 16 ≤ 4 ∧ x % 256 / 16 ≤ 4 ∧ pt_n4 k (x / 256)
theorem s3_by : ∀ k x, x < 256 ^ k → pt_n4 k x → ((x + x / 16) &&& pt_rep 0x0f k) = pt_by pt_f3 k x := by
  intro k
  induction k with
  | zero => intro x h _; rw [Nat.pow_zero] at h; have : x = 0 := by omega
            subst this; rfl
  | succ k ih =>
    intro x h hn
    obtain ⟨n1, n2, n3⟩ := hn
    have hk : x / 256 < 256 ^ k := by rw [Nat.pow_succ] at h; omega
    have i2 := ih (x / 256) hk n3
    have h4 : x / 256 % 16 ≤ 4 := by
      cases k with
      | zero => rw [Nat.pow_zero] at hk; omega
      | succ k => exact n3.1
    have e1 : x + x / 16 = (x % 256 + x % 256 / 16 + 16 * (x / 256 % 16)) + 256 * (x / 256 + x / 256 / 16) := by omega
    rw [pt_rep, e1, and_split (by omega) (by decide), f3_e _ (by omega) (by omega) n2 _ (by omega), i2, pt_by, pt_f3]
theorem by_lt {f : Nat → Nat} (hf : ∀ b, b < 256 → f b < 256) : ∀ k x, pt_by f k x < 256 ^ k := by
  intro k
  induction k with
  | zero => intro x; exact Nat.zero_lt_one
  | succ k ih =>
    intro x
    have h1 := hf (x % 256) (by omega)
    have h2 := ih (x / 256)
    rw [pt_by, Nat.pow_succ]
    omega
theorem by_by {f g : Nat → Nat} (hf : ∀ b, b < 256 → f b < 256) : ∀ k x, pt_by g k (pt_by f k x) = pt_by (fun b => g (f b)) k x := by
  intro k
  induction k with
  | zero => intro x; rfl
  | succ k ih =>
    intro x
    have h1 := hf (x % 256) (by omega)
    rw [pt_by, pt_by, pt_by, ← ih, show (f (x % 256) + 256 * pt_by f k (x / 256)) % 256 = f (x % 256) by omega, show (f (x % 256) + 256 * pt_by f k (x / 256)) / 256 = pt_by f k (x / 256) by omega]
theorem by_n4 {f : Nat → Nat} (hf : ∀ b, b < 256 → f b < 256 ∧ f b % 16 ≤ 4 ∧ f b / 16 ≤ 4) : ∀ k x, pt_n4 k (pt_by f k x) := by
  intro k
  induction k with
  | zero => intro x; trivial
  | succ k ih =>
    intro x
    obtain ⟨h1, h2, h3⟩ := hf (x % 256) (by omega)
    rw [pt_by, pt_n4, show (f (x % 256) + 256 * pt_by f k (x / 256)) % 256 = f (x % 256) by omega, show (f (x % 256) + 256 * pt_by f k (x / 256)) / 256 = pt_by f k (x / 256) by omega]
    exact ⟨by omega, h3, ih _⟩
theorem by_cg {f g : Nat → Nat} (hf : ∀ b, b < 256 → f b = g b) : ∀ k x, pt_by f k x = pt_by g k x := by
  intro k
  induction k with
  | zero => intro x; rfl
  | succ k ih => intro x; rw [pt_by, pt_by, hf _ (by omega), ih]
theorem ct_app (u : Nat) : ∀ a b i, pt_ct u (a + b) i = pt_ct u a i + pt_ct u b (i + a) := by
  intro a
  induction a with
  | zero => intro b i; rw [Nat.zero_add, pt_ct, Nat.zero_add, Nat.add_zero]
  | succ a ih => intro b i; rw [show a + 1 + b = (a + b) + 1 by omega, pt_ct, pt_ct, ih, show i + 1 + a = i + (a + 1) by omega]; omega
theorem ct_shift (u k : Nat) : ∀ n i, pt_ct (u / 2 ^ k) n i = pt_ct u n (i + k) := by
  intro n
  induction n with
  | zero => intro i; rfl
  | succ n ih => intro i; rw [pt_ct, pt_ct, ih, Nat.testBit_div_two_pow, show i + 1 + k = i + k + 1 by omega]
theorem ct_mod (u : Nat) : ∀ n i, i + n ≤ 8 → pt_ct (u % 256) n i = pt_ct u n i := by
  intro n
  induction n with
  | zero => intro i _; rfl
  | succ n ih => intro i h; rw [pt_ct, pt_ct, ih _ (by omega), show (256 : Nat) = 2 ^ 8 from rfl, Nat.testBit_mod_two_pow, decide_eq_true (by omega), Bool.true_and]
theorem ct_cg {u v : Nat} : ∀ n i, (∀ j, i ≤ j → j < i + n → u.testBit j = v.testBit j) → pt_ct u n i = pt_ct v n i := by
  intro n
  induction n with
  | zero => intro i _; rfl
  | succ n ih => intro i h; rw [pt_ct, pt_ct, h i (Nat.le_refl _) (by omega), ih _ (fun j a b => h j (by omega) (by omega))]
theorem ct_none {u : Nat} : ∀ n i, (∀ j, i ≤ j → j < i + n → u.testBit j = false) → pt_ct u n i = 0 := by
  intro n
  induction n with
  | zero => intro i _; rfl
  | succ n ih => intro i h; rw [pt_ct, h i (Nat.le_refl _) (by omega), ih _ (fun j a b => h j (by omega) (by omega))]; rfl
/-- the bits of five bytes -/
theorem bits40 {x i : Nat} (hi : i = pt_by (fun b => pt_ct b 8 0) 5 x) : i < 2 ^ 40 ∧ i + i / 256 < 2 ^ 41 ∧ (i + i / 256) + (i + i / 256) / 65536 < 2 ^ 42 ∧ ((i + i / 256) + (i + i / 256) / 65536 + ((i + i / 256) + (i + i / 256) / 65536) / 4294967296) < 2 ^ 43 ∧ ((i + i / 256) + (i + i / 256) / 65536 + ((i + i / 256) + (i + i / 256) / 65536) / 4294967296) % 128 = pt_ct x 40 0 := by
  have hb : ∀ y, pt_ct (y % 256) 8 0 ≤ 8 := fun y => ct8 _ (by omega)
  have hs : ∀ k, pt_ct (x / 2 ^ (8 * k) % 256) 8 0 = pt_ct x 8 (8 * k) := by
    intro k
    rw [ct_mod _ _ _ (by omega), ct_shift, Nat.zero_add]
  have h40 : pt_ct x 40 0 = pt_ct x 8 0 + pt_ct x 8 8 + pt_ct x 8 16 + pt_ct x 8 24 + pt_ct x 8 32 := by
    rw [show 40 = 8 + (8 + (8 + (8 + 8))) from rfl, ct_app, ct_app, ct_app, ct_app]; simp only [Nat.zero_add, Nat.reduceAdd]; omega
  have e0 := hs 0
  have e1 := hs 1
  have e2 := hs 2
  have e3 := hs 3
  have e4 := hs 4
  simp only [Nat.mul_zero, Nat.pow_zero, Nat.div_one] at e0
  simp only [pt_by, Nat.mul_zero, Nat.add_zero, Nat.div_div_eq_div_mul] at hi
  rw [show 2 ^ (8 * 1) = 256 from rfl, show 8 * 1 = 8 from rfl] at e1
  rw [show 2 ^ (8 * 2) = 256 * 256 from rfl, show 8 * 2 = 16 from rfl] at e2
  rw [show 2 ^ (8 * 3) = 256 * 256 * 256 from rfl, show 8 * 3 = 24 from rfl] at e3
  rw [show 2 ^ (8 * 4) = 256 * 256 * 256 * 256 from rfl, show 8 * 4 = 32 from rfl] at e4
  have b0 := hb x
  have b1 := hb (x / 256)
  have b2 := hb (x / (256 * 256))
  have b3 := hb (x / (256 * 256 * 256))
  have b4 := hb (x / (256 * 256 * 256 * 256))
  simp only [Nat.mul_assoc] at hi e1 e2 e3 e4 b0 b1 b2 b3 b4
  rw [e0] at hi b0
  rw [e1] at hi b1
  rw [e2] at hi b2
  rw [e3] at hi b3
  rw [e4] at hi b4
  rw [h40]
  generalize pt_ct x 8 0 = c0 at *
  generalize pt_ct x 8 8 = c1 at *
  generalize pt_ct x 8 16 = c2 at *
  generalize pt_ct x 8 24 = c3 at *
  generalize pt_ct x 8 32 = c4 at *
  clear e0 e1 e2 e3 e4 hs hb h40
  have q1 : i / 256 = c1 + 256 * (c2 + 256 * (c3 + 256 * c4)) := by omega
  have q2 : (i + i / 256) / 65536 = (c2 + c3) + 256 * (c3 + c4) + 65536 * c4 := by rw [q1]; omega
  have q3 : (i + i / 256 + (i + i / 256) / 65536) / 4294967296 = c4 := by rw [q2, q1]; omega
  rw [q3, q2, q1]
  refine ⟨by omega, by omega, by omega, by omega, by omega⟩
theorem rep_55 {x : Nat} (h : x < 256 ^ 5) : x &&& 0x5555555555555555 = x &&& pt_rep 0x55 5 := by
  apply Nat.eq_of_testBit_eq
  intro i
  rw [Nat.testBit_and, Nat.testBit_and]
  by_cases hi : i < 40
  · congr 1
    have : ∀ i, i < 40 → (0x5555555555555555 : Nat).testBit i = (pt_rep 0x55 5).testBit i := by decide +kernel
    exact this i hi
  · rw [Nat.testBit_lt_two_pow (Nat.lt_of_lt_of_le (show x < 2 ^ 40 from h) (Nat.pow_le_pow_right (by decide) (by omega)))]; rfl
theorem rep_33 {x : Nat} (h : x < 256 ^ 5) : x &&& 0x3333333333333333 = x &&& pt_rep 0x33 5 := by
  apply Nat.eq_of_testBit_eq
  intro i
  rw [Nat.testBit_and, Nat.testBit_and]
  by_cases hi : i < 40
  · congr 1
    have : ∀ i, i < 40 → (0x3333333333333333 : Nat).testBit i = (pt_rep 0x33 5).testBit i := by decide +kernel
    exact this i hi
  · rw [Nat.testBit_lt_two_pow (Nat.lt_of_lt_of_le (show x < 2 ^ 40 from h) (Nat.pow_le_pow_right (by decide) (by omega)))]; rfl
theorem rep_0f {x : Nat} (h : x < 256 ^ 5) : x &&& 0x0f0f0f0f0f0f0f0f = x &&& pt_rep 0x0f 5 := by
  apply Nat.eq_of_testBit_eq
  intro i
  rw [Nat.testBit_and, Nat.testBit_and]
  by_cases hi : i < 40
  · congr 1
    have : ∀ i, i < 40 → (0x0f0f0f0f0f0f0f0f : Nat).testBit i = (pt_rep 0x0f 5).testBit i := by decide +kernel
    exact this i hi
  · rw [Nat.testBit_lt_two_pow (Nat.lt_of_lt_of_le (show x < 2 ^ 40 from h) (Nat.pow_le_pow_right (by decide) (by omega)))]; rfl
/-- the steps of bitCount, one after the other -/
def pt_b1 (x : Nat) : Nat := x - (x / 2 &&& 0x5555555555555555)
def pt_b2 (x : Nat) : Nat := (x &&& 0x3333333333333333) + (x / 4 &&& 0x3333333333333333)
def pt_b3 (x : Nat) : Nat := (x + x / 16) &&& 0x0f0f0f0f0f0f0f0f
theorem bc_all {x : Nat} (hx : x < 2 ^ 33) : (x / 2 &&& 0x5555555555555555) ≤ x ∧ pt_b1 x < 2 ^ 40 ∧ pt_b2 (pt_b1 x) < 2 ^ 40 ∧ pt_b3 (pt_b2 (pt_b1 x)) = pt_by (fun b => pt_ct b 8 0) 5 x := by
  have h5 : x < 256 ^ 5 := Nat.lt_trans hx (by decide)
  obtain ⟨a1, a2⟩ := s1_by 5 x h5
  have r1 : (x / 2 &&& 0x5555555555555555) = x / 2 &&& pt_rep 0x55 5 := rep_55 (by omega)
  have e1 : pt_b1 x = pt_by pt_f1 5 x := by unfold pt_b1; rw [r1, a2]
  have l1 : pt_by pt_f1 5 x < 256 ^ 5 := by_lt f1_lt 5 x
  have e2 : pt_b2 (pt_b1 x) = pt_by (fun b => pt_f2 (pt_f1 b)) 5 x := by
    rw [e1]
    unfold pt_b2
    rw [rep_33 l1, rep_33 (by omega), s2_by 5 _ l1, by_by f1_lt]
  have l2 : pt_by (fun b => pt_f2 (pt_f1 b)) 5 x < 256 ^ 5 := by_lt (fun b hb => f2_lt _ (f1_lt b hb)) 5 x
  have l3 : pt_by (fun b => pt_f2 (pt_f1 b)) 5 x + pt_by (fun b => pt_f2 (pt_f1 b)) 5 x / 16 < 256 ^ 5 := by
    have hm : ∀ k y, pt_by (fun b => pt_f2 (pt_f1 b)) k y ≤ pt_rep 0x44 k := by
      intro k
      induction k with
      | zero => intro y; exact Nat.le_refl _
      | succ k ih =>
        intro y
        rw [pt_by, pt_rep]
        have q := f12 (y % 256) (by omega)
        have := ih (y / 256)
        omega
    have := hm 5 x
    have q : pt_rep 0x44 5 = 293203100740 := by decide
    omega
  refine ⟨by rw [r1]; exact a1, by rw [e1]; exact l1, by rw [e2]; exact l2, ?_⟩
  rw [e2]
  unfold pt_b3
  rw [rep_0f l3, s3_by 5 _ l2 (by_n4 (fun b hb => ⟨f2_lt _ (f1_lt b hb), f12 b hb⟩) 5 x), by_by (fun b hb => f2_lt _ (f1_lt b hb))]
  exact by_cg (fun b hb => f123 b hb) 5 x
theorem ct_marks {mk ba cn : Nat} (h : pt_mi cn mk) (hb : ba ≤ cn) (hc : cn ≤ 32) : pt_ct (nb_d mk (2 ^ (ba + 1) - 2)) 40 0 = pt_ct mk (cn - ba) (ba + 1) := by
  rw [show 40 = (ba + 1) + ((cn - ba) + (39 - cn)) by omega, ct_app _ (ba + 1), ct_app _ (cn - ba), ct_none (ba + 1) 0 (fun j _ hj => by
      rw [nb_d_bit]
      cases hq : mk.testBit j with
      | false => rfl
      | true =>
        have := h j hq
        rw [fo_bit this.1, decide_eq_true (by omega)]; rfl), ct_none (39 - cn) _ (fun j hj _ => by
      rw [nb_d_bit]
      cases hq : mk.testBit j with
      | false => rfl
      | true => have := h j hq; omega), Nat.zero_add, Nat.zero_add, Nat.add_zero]
  refine ct_cg _ _ (fun j a b => ?_)
  rw [nb_d_bit, fo_bit (by omega), decide_eq_false (by omega)]
  simp
