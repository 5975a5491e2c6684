theorem n_and (k y d m e : Nat) (hd : d < 2 ^ k) (he : e < 2 ^ k) : (2 ^ k * y + d) &&& (2 ^ k * m + e) = 2 ^ k * (y &&& m) + (d &&& e) := by
  refine Nat.eq_of_testBit_eq (fun j => ?_)
  rw [Nat.testBit_and, Nat.testBit_two_pow_mul_add _ hd, Nat.testBit_two_pow_mul_add _ he, Nat.testBit_two_pow_mul_add _ (Nat.and_lt_two_pow d he)]
  by_cases h : j < k
  · rw [if_pos h, if_pos h, if_pos h, Nat.testBit_and]
  · rw [if_neg h, if_neg h, if_neg h, Nat.testBit_and]
abbrev n_3 (a b c : Nat) : Nat := a + 256 * b + 65536 * c
theorem n_and3 {a b c p q r : Nat} (ha : a < 256) (hb : b < 256) (hp : p < 256) (hq : q < 256) : n_3 a b c &&& n_3 p q r = n_3 (a &&& p) (b &&& q) (c &&& r) := by
  have e1 : ∀ x y z : Nat, n_3 x y z = 2 ^ 8 * (2 ^ 8 * z + y) + x := fun x y z => by unfold n_3; omega
  rw [e1, e1, e1, n_and 8 _ _ _ _ ha hp, n_and 8 _ _ _ _ hb hq]
def n_t1 (d : Nat) : Nat := d - ((d / 2) &&& 85)
def n_t2 (d : Nat) : Nat := (n_t1 d &&& 51) + ((n_t1 d / 4) &&& 51)
def n_t3 (d : Nat) : Nat := n_t2 d % 16 + n_t2 d / 16
def n_bc (n : Nat) : Nat :=
  let v1 := n - ((n / 2) &&& 1431655765)
  let v2 := (v1 &&& 858993459) + ((v1 / 4) &&& 858993459)
  let v3 := (v2 + v2 / 16) &&& 252645135
  let v4 := v3 + v3 / 256
  let v5 := v4 + v4 / 65536
  v5 &&& 63
theorem n_d1 : ∀ d, d < 256 → ∀ b, b < 2 → (d / 2 + 128 * b) &&& 85 = (d / 2) &&& 85 := by decide +kernel
theorem n_d1' : ∀ d, d < 16 → (d / 2) &&& 21845 = (d / 2) &&& 85 := by decide +kernel
theorem n_d1l : ∀ d, d < 256 → (d / 2) &&& 85 ≤ d := by decide +kernel
theorem n_d2 : ∀ d, d < 256 → ∀ b, b < 4 → (d / 4 + 64 * b) &&& 51 = (d / 4) &&& 51 := by decide +kernel
theorem n_d2' : ∀ d, d < 16 → n_t1 d &&& 13107 = n_t1 d &&& 51 ∧ (n_t1 d / 4) &&& 13107 = (n_t1 d / 4) &&& 51 := by decide +kernel
theorem n_d2l : ∀ d, d < 256 → n_t1 d < 256 ∧ n_t2 d < 69 ∧ n_t2 d % 16 < 5 ∧ n_t3 d < 9 := by decide +kernel
theorem n_d3 : ∀ d, d < 256 → ∀ b, b < 5 → (n_t2 d + (n_t2 d / 16 + 16 * b)) &&& 15 = n_t3 d := by decide +kernel
theorem n_d3' : ∀ d, d < 16 → (n_t2 d + n_t2 d / 16) &&& 3855 = n_t3 d := by decide +kernel
theorem n_d4 : ∀ s, s < 27 → s &&& 63 = s := by decide +kernel
theorem n_bc3 {a b c : Nat} (ha : a < 256) (hb : b < 256) (hc : c < 16) : n_bc (n_3 a b c) = n_t3 a + n_t3 b + n_t3 c := by
  obtain ⟨a1, a2, a3, a4⟩ := n_d2l a ha
  obtain ⟨b1, b2, b3, b4⟩ := n_d2l b hb
  obtain ⟨c1, c2, c3, c4⟩ := n_d2l c (by omega)
  have h1 : n_3 a b c - ((n_3 a b c / 2) &&& 1431655765) = n_3 (n_t1 a) (n_t1 b) (n_t1 c) := by
    rw [show n_3 a b c / 2 = n_3 (a / 2 + 128 * (b % 2)) (b / 2 + 128 * (c % 2)) (c / 2) by unfold n_3; omega, show 1431655765 = n_3 85 85 21845 from rfl, n_and3 (by omega) (by omega) (by decide) (by decide), n_d1 a ha _ (by omega), n_d1 b hb _ (by omega), n_d1' c hc]
    have := n_d1l a ha
    have := n_d1l b hb
    have := n_d1l c (by omega)
    unfold n_3 n_t1
    omega
  have h2 : (n_3 (n_t1 a) (n_t1 b) (n_t1 c) &&& 858993459) + ((n_3 (n_t1 a) (n_t1 b) (n_t1 c) / 4) &&& 858993459) = n_3 (n_t2 a) (n_t2 b) (n_t2 c) := by
    rw [show n_3 (n_t1 a) (n_t1 b) (n_t1 c) / 4 = n_3 (n_t1 a / 4 + 64 * (n_t1 b % 4)) (n_t1 b / 4 + 64 * (n_t1 c % 4)) (n_t1 c / 4) by unfold n_3; omega, show 858993459 = n_3 51 51 13107 from rfl, n_and3 a1 b1 (by decide) (by decide), n_and3 (by omega) (by omega) (by decide) (by decide), n_d2 _ a1 _ (by omega), n_d2 _ b1 _ (by omega), (n_d2' c hc).1, (n_d2' c hc).2]
    unfold n_3 n_t2
    omega
  have h3 : (n_3 (n_t2 a) (n_t2 b) (n_t2 c) + n_3 (n_t2 a) (n_t2 b) (n_t2 c) / 16) &&& 252645135 = n_3 (n_t3 a) (n_t3 b) (n_t3 c) := by
    rw [show n_3 (n_t2 a) (n_t2 b) (n_t2 c) + n_3 (n_t2 a) (n_t2 b) (n_t2 c) / 16 = n_3 (n_t2 a + (n_t2 a / 16 + 16 * (n_t2 b % 16))) (n_t2 b + (n_t2 b / 16 + 16 * (n_t2 c % 16))) (n_t2 c + n_t2 c / 16) by unfold n_3; omega, show 252645135 = n_3 15 15 3855 from rfl, n_and3 (by omega) (by omega) (by decide) (by decide), n_d3 a ha _ b3, n_d3 b hb _ c3, n_d3' c hc]
  unfold n_bc
  simp only [h1, h2, h3]
  rw [show n_3 (n_t3 a) (n_t3 b) (n_t3 c) + n_3 (n_t3 a) (n_t3 b) (n_t3 c) / 256 + (n_3 (n_t3 a) (n_t3 b) (n_t3 c) + n_3 (n_t3 a) (n_t3 b) (n_t3 c) / 256) / 65536 = 2 ^ 8 * (n_t3 b + n_t3 c + 256 * n_t3 c) + (n_t3 a + n_t3 b + n_t3 c) by unfold n_3; omega, show 63 = 2 ^ 8 * 0 + 63 from rfl, n_and 8 _ _ _ _ (by omega) (by decide), Nat.and_zero, Nat.mul_zero, Nat.zero_add, n_d4 _ (by omega)]
def n_cnt (f : Nat → Bool) : Nat → Nat
  | 0 => 0
  | k + 1 => n_cnt f k + if f k = true then 1 else 0
theorem n_cnt8 : ∀ d, d < 256 → n_t3 d = n_cnt d.testBit 8 := by decide +kernel
theorem n_cnt4 : ∀ d, d < 16 → n_t3 d = n_cnt d.testBit 4 := by decide +kernel
theorem n_cntg {f g : Nat → Bool} : ∀ {k : Nat}, (∀ j, j < k → f j = g j) → n_cnt f k = n_cnt g k
  | 0, _ => rfl
  | k + 1, h => by
    unfold n_cnt
    rw [n_cntg (fun j hj => h j (by omega)), h k (by omega)]
theorem n_cnta {f : Nat → Bool} {a : Nat} : ∀ {b : Nat}, n_cnt f (a + b) = n_cnt f a + n_cnt (fun j => f (a + j)) b
  | 0 => rfl
  | b + 1 => by
    show n_cnt f (a + b) + _ = n_cnt f a + (n_cnt _ b + _)
    rw [n_cnta (b := b), Nat.add_assoc]
    rfl
theorem n_cnt0 {f : Nat → Bool} {a : Nat} : ∀ {b : Nat}, a ≤ b → (∀ j, a ≤ j → j < b → f j = false) → n_cnt f b = n_cnt f a
  | 0, h, _ => by rw [Nat.le_zero.mp h]
  | b + 1, h, hf => by
    by_cases q : a = b + 1
    · rw [q]
    · rw [← n_cnt0 (b := b) (by omega) (fun j h1 h2 => hf j h1 (by omega))]
      show n_cnt f b + _ = _
      rw [hf b (by omega) (by omega)]
      rfl
theorem n_cntle (f : Nat → Bool) : ∀ k, n_cnt f k ≤ k
  | 0 => Nat.le_refl _
  | k + 1 => by
    have := n_cntle f k
    unfold n_cnt
    split <;> omega
theorem n_bc20' {a b c : Nat} (ha : a < 256) (hb : b < 256) (hc : c < 16) : n_bc (n_3 a b c) = n_cnt (n_3 a b c).testBit 20 := by
  have hb : ∀ j, (n_3 a b c).testBit j = if j < 8 then a.testBit j else if j - 8 < 8 then b.testBit (j - 8) else c.testBit (j - 8 - 8) := fun j => by
    rw [show n_3 a b c = 2 ^ 8 * (2 ^ 8 * c + b) + a by unfold n_3; omega, Nat.testBit_two_pow_mul_add _ ha, Nat.testBit_two_pow_mul_add _ hb]
  rw [n_bc3 ha ‹b < 256› hc, n_cnt8 a ha, n_cnt8 b ‹b < 256›, n_cnt4 c hc, show 20 = 8 + 8 + 4 from rfl, n_cnta, n_cnta]
  rw [n_cntg (f := (n_3 a b c).testBit) (g := a.testBit) (fun j hj => by rw [hb, if_pos hj]),
    n_cntg (f := fun j => (n_3 a b c).testBit (8 + j)) (g := b.testBit) (fun j hj => by rw [hb, if_neg (by omega), if_pos (by omega), show 8 + j - 8 = j by omega]),
    n_cntg (f := fun j => (n_3 a b c).testBit (8 + 8 + j)) (g := c.testBit) (fun j hj => by rw [hb, if_neg (by omega), if_neg (by omega), show 8 + 8 + j - 8 - 8 = j by omega])]
theorem n_bc20 {n : Nat} (h : n < 1048576) : n_bc n = n_cnt n.testBit 20 := by
  have := n_bc20' (a := n % 256) (b := n / 256 % 256) (c := n / 65536) (by omega) (by omega) (by omega)
  rwa [show n_3 (n % 256) (n / 256 % 256) (n / 65536) = n by unfold n_3; omega] at this
theorem i_ush {a : Nat} (k : Nat) (ha : a < 2 ^ 32) (u : UInt32) (hu : u.toNat % 32 = k) : ((nI a).toUInt32 >>> u).toInt32 = nI (a / 2 ^ k) := by
  refine Int32.toBitVec_inj.mp (BitVec.eq_of_toNat_eq ?_)
  show ((nI a).toUInt32 >>> u).toNat = (BitVec.ofNat 32 (a / 2 ^ k)).toNat
  rw [UInt32.toNat_shiftRight, hu, Nat.shiftRight_eq_div_pow, BitVec.toNat_ofNat]
  show (BitVec.ofNat 32 a).toNat / 2 ^ k = _
  rw [BitVec.toNat_ofNat, Nat.mod_eq_of_lt ha, Nat.mod_eq_of_lt (Nat.lt_of_le_of_lt (Nat.div_le_self _ _) ha)]
theorem i_and (a m : Nat) : nI a &&& nI m = nI (a &&& m) := by
  refine Int32.toBitVec_inj.mp ?_
  rw [Int32.toBitVec_and]
  show BitVec.ofNat 32 a &&& BitVec.ofNat 32 m = BitVec.ofNat 32 (a &&& m)
  refine BitVec.eq_of_toNat_eq ?_
  rw [BitVec.toNat_and, BitVec.toNat_ofNat, BitVec.toNat_ofNat, BitVec.toNat_ofNat, Nat.and_mod_two_pow]
theorem i_sub {a b : Nat} (h : b ≤ a) : nI a - nI b = nI (a - b) := by
  have e : nI a = nI (a - b) + nI b := by rw [nI_add]; congr 1; omega
  rw [e, Int32.add_sub_cancel]
theorem bc_n {n : Nat} (h : n < 2 ^ 31) (h2 : (n / 2) &&& 1431655765 ≤ n) : bcI (nI n) = nI (n_bc n) := by
  have e1 : nI n - (((nI n).toUInt32 >>> ((1 : Int32).toUInt32 &&& Int32.toUInt32 31)).toInt32 &&& 1431655765) = nI (n - ((n / 2) &&& 1431655765)) := by
    rw [i_ush 1 (by omega) _ (by decide), show (1431655765 : Int32) = nI 1431655765 from rfl, i_and, i_sub h2]
  generalize hv1 : n - ((n / 2) &&& 1431655765) = v1 at e1
  have e2 : (nI v1 &&& 858993459) + (((nI v1).toUInt32 >>> ((2 : Int32).toUInt32 &&& Int32.toUInt32 31)).toInt32 &&& 858993459) = nI ((v1 &&& 858993459) + ((v1 / 4) &&& 858993459)) := by
    rw [i_ush 2 (by omega) _ (by decide), show (858993459 : Int32) = nI 858993459 from rfl, i_and, i_and, nI_add]
  have hb2 : (v1 &&& 858993459) + ((v1 / 4) &&& 858993459) < 2 ^ 32 := by
    have := Nat.and_le_right (n := v1) (m := 858993459)
    have := Nat.and_le_right (n := v1 / 4) (m := 858993459)
    omega
  generalize hv2 : (v1 &&& 858993459) + ((v1 / 4) &&& 858993459) = v2 at e2 hb2
  have e3 : (nI v2 + ((nI v2).toUInt32 >>> ((4 : Int32).toUInt32 &&& Int32.toUInt32 31)).toInt32) &&& 252645135 = nI ((v2 + v2 / 16) &&& 252645135) := by
    rw [i_ush 4 hb2 _ (by decide), nI_add, show (252645135 : Int32) = nI 252645135 from rfl, i_and]
  have hb3 : (v2 + v2 / 16) &&& 252645135 ≤ 252645135 := Nat.and_le_right
  generalize hv3 : (v2 + v2 / 16) &&& 252645135 = v3 at e3 hb3
  have e4 : nI v3 + ((nI v3).toUInt32 >>> ((8 : Int32).toUInt32 &&& Int32.toUInt32 31)).toInt32 = nI (v3 + v3 / 256) := by
    rw [i_ush 8 (by omega) _ (by decide), nI_add]
  have e5 : nI (v3 + v3 / 256) + ((nI (v3 + v3 / 256)).toUInt32 >>> ((16 : Int32).toUInt32 &&& Int32.toUInt32 31)).toInt32 = nI (v3 + v3 / 256 + (v3 + v3 / 256) / 65536) := by
    rw [i_ush 16 (by omega) _ (by decide), nI_add]
  have e6 : nI (v3 + v3 / 256 + (v3 + v3 / 256) / 65536) &&& 63 = nI (v3 + v3 / 256 + (v3 + v3 / 256) / 65536 &&& 63) := by
    rw [show (63 : Int32) = nI 63 from rfl, i_and]
  simp only [bcI]
  rw [e1, e2, e3, e4, e5, e6]
  simp only [n_bc, hv1, hv2, hv3]
theorem bc_20 {x : Int32} (h : ∀ j, 20 ≤ j → j < 32 → bt x j = false) : bcI x = nI (n_cnt (bt x) 20) := by
  have ht : ∀ i, bt x i = x.toBitVec.toNat.testBit i := fun i => by unfold bt; rw [BitVec.getLsbD]
  have hn : x.toBitVec.toNat < 1048576 := by
    refine Nat.lt_pow_two_of_testBit (n := 20) _ (fun i hi => ?_)
    by_cases h32 : i < 32
    · rw [← ht i]; exact h i hi h32
    · exact Nat.testBit_lt_two_pow (Nat.lt_of_lt_of_le x.toBitVec.isLt (Nat.pow_le_pow_right (by decide) (by omega)))
  have hx : x = nI x.toBitVec.toNat := by
    refine Int32.toBitVec_inj.mp ?_
    show x.toBitVec = BitVec.ofNat 32 x.toBitVec.toNat
    simp
  generalize x.toBitVec.toNat = n at ht hn hx
  rw [n_cntg (fun j _ => ht j), hx, ← n_bc20 hn]
  refine bc_n (by omega) ?_
  rw [show (1431655765 : Nat) = 2 ^ 20 * 1365 + 349525 from rfl]
  have e : n / 2 = 2 ^ 20 * 0 + n / 2 := by omega
  rw [e, n_and 20 _ _ _ _ (by omega) (by decide), Nat.zero_and, Nat.mul_zero, Nat.zero_add]
  exact Nat.le_trans Nat.and_le_left (Nat.div_le_self n 2)
/-- the places that are free -/
def s_free (f : Nat → Nat → Bool) (L : Nat) : Nat → Nat
  | 0 => 0
  | r + 1 => s_free f L r + n_cnt (f r) L
theorem s_free_le (f : Nat → Nat → Bool) (L : Nat) : ∀ r, s_free f L r ≤ r * L
  | 0 => by simp [s_free]
  | r + 1 => by
    have := s_free_le f L r
    have := n_cntle (f r) L
    simp only [s_free, Nat.add_mul, Nat.one_mul]
    omega
theorem b_msk0 : ∀ L, L < 21 → ∀ i, i < 32 → bt ((1 : Int32) <<< (nI L &&& 31) - 1) i = decide (i < L) := by decide +kernel
theorem bc_free {x : Int32} {L : Nat} (hL : L < 21) : bcI (((1 : Int32) <<< (nI L &&& 31) - 1) &&& (x ^^^ (-1 : Int32))) = nI (n_cnt (fun p => !bt x p) L) := by
  have hb : ∀ i, i < 32 → bt (((1 : Int32) <<< (nI L &&& 31) - 1) &&& (x ^^^ (-1 : Int32))) i = (decide (i < L) && !bt x i) := fun i hi => by rw [b_and, b_not hi, b_msk0 L hL i hi]
  rw [bc_20 (fun j h1 h2 => by rw [hb j h2, decide_eq_false (by omega), Bool.false_and]), n_cnt0 (a := L) (by omega) (fun j h1 h2 => by rw [hb j (by omega), decide_eq_false (by omega), Bool.false_and]), n_cntg (g := fun p => !bt x p) (fun j hj => by rw [hb j (by omega), decide_eq_true hj, Bool.true_and])]
set_option maxRecDepth 100000 in
theorem c_freePlaces_lp (σ : xSg) (L R : Nat) (hL : L < 21) (hR : R ≤ 3) (h0 : σ 9 0 = nI L) (h1 : σ 9 1 = nI R) : ∀ (m k : Nat), k + m = R → xEv (.inl 1) M_X3_freePlaces (fun r1 σ1 => r1 = some (.int (nI (s_free (fun r p => !bt (σ 10 r) p) L R))) ∧ σ1 = σ) 15 ([some (.ref 1), some (.int ((1 : Int32) <<< (nI L &&& 31) - 1)), some (.int (nI (s_free (fun r p => !bt (σ 10 r) p) L k))), some (.int (nI k))], [], σ) := by
  intro m
  induction m with
  | zero =>
    intro k hk
    refine ev_br 5 [vp_in ((1 : Int32)) 5] (((σ 9) 1) ≤ (nI k)) 52 25 ([some (.ref 1), some (.int ((1 : Int32) <<< (nI L &&& 31) - 1)), some (.int (nI (s_free (fun r p => !bt (σ 10 r) p) L k))), some (.int (nI k))], [], σ) rfl ?_ (fun c22 => ?_) (fun c22 => ?_)
    · exact (vp_in_nI (n := 1) (by decide) (by decide))
    · refine ev_blk 1 [] 53 ([some (.ref 1), some (.int ((1 : Int32) <<< (nI L &&& 31) - 1)), some (.int (nI (s_free (fun r p => !bt (σ 10 r) p) L k))), some (.int (nI k))], [.int (nI (s_free (fun r p => !bt (σ 10 r) p) L k))], σ) rfl ?_ ?_
      · trivial
      exact ev_iret rfl rfl rfl (pu_v (by rw [show k = R by omega]))
    · exact absurd (show σ 9 1 ≤ nI k by rw [h1]; exact nI_le (by omega) (by omega)) c22
  | succ m ih =>
    intro k hk
    have hkc : (nI k).toNatClampNeg = k := nI_clamp (by omega)
    refine ev_br 5 [vp_in ((1 : Int32)) 5] (((σ 9) 1) ≤ (nI k)) 52 25 ([some (.ref 1), some (.int ((1 : Int32) <<< (nI L &&& 31) - 1)), some (.int (nI (s_free (fun r p => !bt (σ 10 r) p) L k))), some (.int (nI k))], [], σ) rfl ?_ (fun c22 => ?_) (fun c22 => ?_)
    · exact (vp_in_nI (n := 1) (by decide) (by decide))
    · exact absurd c22 (show ¬ σ 9 1 ≤ nI k by rw [h1]; exact nI_ge (by omega) (by omega))
    · refine ev_br 2 [] ((3 : Int32) ≤ (nI k)) 52 30 ([some (.ref 1), some (.int ((1 : Int32) <<< (nI L &&& 31) - 1)), some (.int (nI (s_free (fun r p => !bt (σ 10 r) p) L k))), some (.int (nI k))], [], σ) rfl ?_ (fun c27 => ?_) (fun c27 => ?_)
      · trivial
      · exact absurd c27 (nI_ge (b := 3) (by omega) (by decide))
      · refine ev_blk 9 [vp_in (nI k) 3] 41 ([some (.ref 1), some (.int ((1 : Int32) <<< (nI L &&& 31) - 1)), some (.int (nI (s_free (fun r p => !bt (σ 10 r) p) L k))), some (.int (nI k))], [.int (((1 : Int32) <<< (nI L &&& 31) - 1) &&& (((σ 10) (nI k).toNatClampNeg) ^^^ (-1 : Int32))), .int (nI (s_free (fun r p => !bt (σ 10 r) p) L k))], σ) rfl ?_ ?_
        · exact (vp_in_nI (by omega) (by decide))
        rw [hkc]
        refine ev_callS M_J6_bitCount_0f7a4 [.int (((1 : Int32) <<< (nI L &&& 31) - 1) &&& (((σ 10) k) ^^^ (-1 : Int32)))] [.int (nI (s_free (fun r p => !bt (σ 10 r) p) L k))] rfl rfl ln_X3_91 k_J6_bitCount_0f7a4 rfl rfl rfl (c_bitCount _ _) ?_
        refine pu_k ?_
        show xEv _ _ _ 44 ([some (.ref 1), some (.int ((1 : Int32) <<< (nI L &&& 31) - 1)), some (.int (nI (s_free (fun r p => !bt (σ 10 r) p) L k))), some (.int (nI k))], [.int (bcI (((1 : Int32) <<< (nI L &&& 31) - 1) &&& (((σ 10) k) ^^^ (-1 : Int32)))), .int (nI (s_free (fun r p => !bt (σ 10 r) p) L k))], σ)
        refine ev_blk 4 [] 15 ([some (.ref 1), some (.int ((1 : Int32) <<< (nI L &&& 31) - 1)), some (.int ((nI (s_free (fun r p => !bt (σ 10 r) p) L k)) + (bcI (((1 : Int32) <<< (nI L &&& 31) - 1) &&& (((σ 10) k) ^^^ (-1 : Int32)))))), some (.int ((nI k) + (1 : Int32)))], [], σ) rfl ?_ ?_
        · trivial
        rw [nI_1, bc_free hL, nI_add]
        exact ih (k + 1) (by omega)
set_option maxRecDepth 100000 in
theorem c_freePlaces (σ : xSg) (L R : Nat) (hL : L < 21) (hR : R ≤ 3) (h0 : σ 9 0 = nI L) (h1 : σ 9 1 = nI R) : xCtr M_X3_freePlaces [.ref 1] σ (fun r1 σ1 => r1 = some (.int (nI (s_free (fun r p => !bt (σ 10 r) p) L R))) ∧ σ1 = σ) := by
  refine ctr_ev ok_X3_freePlaces (by decide +kernel) rfl rfl rfl ?_
  show xEv (.inl 1) M_X3_freePlaces _ 0 ([some (.ref 1), none, none, none], [], σ)
  refine ev_blk 13 [vp_in ((0 : Int32)) 5] 15 ([some (.ref 1), some (.int (((1 : Int32) <<< (((σ 9) 0) &&& 31)) - (1 : Int32))), some (.int ((0 : Int32))), some (.int ((0 : Int32)))], [], σ) rfl ?_ ?_
  · exact (vp_in_nI (n := 0) (by decide) (by decide))
  rw [h0]
  exact c_freePlaces_lp σ L R hL hR h0 h1 R 0 (by omega)
