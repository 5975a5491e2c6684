set_option maxRecDepth 100000 in
theorem m_put (σ : xSg) (D : Nat → shD) (hD : shM σ D) (s i v : Int32) : xCtr M_X6_put [.ref 57, .int (s), .int (i), .int (v)] σ (shPM [86, 87, 88] [] σ (s_put D s i v)) := by
  refine ctr_ev ok_X6_put (by decide +kernel) rfl rfl rfl ?_
  show xEv (.inl 2) M_X6_put _ 0 ([some (.ref 57), some (.int (s)), some (.int (i)), some (.int (v))], [], σ)
  refine ev_blk 1 [] 1 ([some (.ref 57), some (.int (s)), some (.int (i)), some (.int (v))], [.int (s)], σ) rfl ?_ ?_
  · trivial
  refine ev_callS M_X6_isSheet [.int (s)] [] rfl rfl ln_X6_203 k_X6_isSheet rfl rfl rfl (m_isSheet _ _) ?_
  refine pu_k ?_
  show xEv _ _ _ 4 ([some (.ref 57), some (.int (s)), some (.int (i)), some (.int (v))], [.int (zi (¬ s < 0 ∧ ¬ (3 : Int32) < s))], σ)
  refine ev_br 0 [] (¬ (zi (¬ s < 0 ∧ ¬ (3 : Int32) < s)) = 0) 10 7 ([some (.ref 57), some (.int (s)), some (.int (i)), some (.int (v))], [], σ) rfl ?_ (fun c4 => ?_) (fun c4 => ?_)
  · trivial
  · replace c4 := zi_1.mp c4
    have hs := iN4.mp c4
    obtain ⟨W, hW, _, rfl⟩ := iN_of hs
    have hWc : (nI W).toNatClampNeg = W := nI_clamp (by omega)
    have hin : vp_in (nI W) 4 := vp_in_nI hW (by decide)
    obtain ⟨ho, h0, h1, hi⟩ := hD W hW
    have hz40 := ho.2
    refine ev_br 4 [vp_in (nI W) 4] (¬ ((σ 86) (nI W).toNatClampNeg) = 0) 22 19 ([some (.ref 57), some (.int (nI W)), some (.int (i)), some (.int (v))], [], σ) rfl ?_ (fun c16 => ?_) (fun c16 => ?_)
    · exact hin
    · rw [hWc] at c16
      refine ev_blk 8 [vp_in (nI W) 4] 32 ([some (.ref 57), some (.int (nI W)), some (.int (i)), some (.int (v))], [.int (((σ 87) (nI W).toNatClampNeg) - (1 : Int32)), .int ((0 : Int32)), .int (i)], σ) rfl ?_ ?_
      · exact hin
      rw [hWc]
      refine ev_callS M_X6_within [.int (i), .int ((0 : Int32)), .int (((σ 87) W) - (1 : Int32))] [] rfl rfl ln_X6_110 k_X6_within rfl rfl rfl (m_within _ _ _ _) ?_
      refine pu_k ?_
      show xEv _ _ _ 35 ([some (.ref 57), some (.int (nI W)), some (.int (i)), some (.int (v))], [.int (zi (¬ i < (0 : Int32) ∧ ¬ (((σ 87) W) - (1 : Int32)) < i))], σ)
      refine ev_br 0 [] (¬ (zi (¬ i < (0 : Int32) ∧ ¬ (((σ 87) W) - (1 : Int32)) < i)) = 0) 41 38 ([some (.ref 57), some (.int (nI W)), some (.int (i)), some (.int (v))], [], σ) rfl ?_ (fun c35 => ?_) (fun c35 => ?_)
      · trivial
      · replace c35 := zi_1.mp c35
        have hi1 := (mSh40 hz40).mp (by rw [← h1]; exact c35)
        obtain ⟨j, hjz, _, rfl⟩ := iN_of hi1
        have hjc : (nI j).toNatClampNeg = j := nI_clamp (by omega)
        have hix : ((40 : Int32) * (nI W)) + (nI j) = nI (40 * W + j) := by rw [n40, nI_add]
        have hic : (((40 : Int32) * (nI W)) + (nI j)).toNatClampNeg = 40 * W + j := by rw [hix, nI_clamp (by omega)]
        refine ev_br 12 [vp_in (nI W) 4] (¬ ((σ 86) (nI W).toNatClampNeg) = (1 : Int32)) 66 61 ([some (.ref 57), some (.int (nI W)), some (.int (nI j)), some (.int (v))], [.int (((40 : Int32) * (nI W)) + (nI j)), .ref 88], σ) rfl ?_ (fun c58 => ?_) (fun c58 => ?_)
        · exact hin
        · rw [hWc] at c58
          refine ev_blk 3 [vp_in (((40 : Int32) * (nI W)) + (nI j)) 160] 69 ([some (.ref 57), some (.int (nI W)), some (.int (nI j)), some (.int (v))], [.int ((1 : Int32))], (x_up σ 88 (upd (σ 88) (((40 : Int32) * (nI W)) + (nI j)).toNatClampNeg (v)))) rfl ?_ ?_
          · rw [hix]; exact vp_in_nI (by omega) (by decide)
          rw [hic]
          have hi2 : iN (D W).2.1 (nI j) := iN_nI hjz (by omega)
          have e : s_put D (nI W) (nI j) v = (1, updD D W ((D W).1, (D W).2.1, upd (D W).2.2 j (sbv (D W).1 v))) := by rw [s_put, if_neg (fun q => q hs), hWc, if_neg (fun q => c16 (h0.trans ((so_p1 ho.1).1.mpr q))), if_neg (fun q => q hi2), hjc]
          rw [e]
          exact ev_iret rfl rfl rfl ⟨rfl, shM_put (W := W) hD ho (fun i2 h2 => by by_cases e2 : i2 = W; rw [if_pos e2, e2, x_up_ne (by decide)]; exact h0; rw [if_neg e2, x_up_ne (by decide)]) (fun i2 h2 => by by_cases e2 : i2 = W; rw [if_pos e2, e2, x_up_ne (by decide)]; exact h1; rw [if_neg e2, x_up_ne (by decide)]) (fun j2 hj2 => by rw [x_up_eq]; show _ = upd (D W).2.2 j (sbv (D W).1 v) j2; by_cases e2 : j2 = j; rw [e2, upd_eq, upd_eq, sbv, if_neg (fun q => c58 (h0.trans ((so_p1 ho.1).2.mpr q)))]; rw [upd_ne (by omega), upd_ne e2]; exact hi j2 hj2) (fun k hk => by rw [x_up_eq, upd_ne (by omega)]), ⟨fun c hc hn => by simp only [List.mem_cons, List.not_mem_nil, or_false, not_or] at hc; simp [x_up, hc], fun i2 _ => by simp [x_up]⟩⟩
        · rw [hWc] at c58
          refine ev_blk 5 [vp_in (((40 : Int32) * (nI W)) + (nI j)) 160] 69 ([some (.ref 57), some (.int (nI W)), some (.int (nI j)), some (.int (v))], [.int ((1 : Int32))], (x_up σ 88 (upd (σ 88) (((40 : Int32) * (nI W)) + (nI j)).toNatClampNeg (v.toInt8.toInt32)))) rfl ?_ ?_
          · rw [hix]; exact vp_in_nI (by omega) (by decide)
          rw [hic]
          have hi2 : iN (D W).2.1 (nI j) := iN_nI hjz (by omega)
          have e : s_put D (nI W) (nI j) v = (1, updD D W ((D W).1, (D W).2.1, upd (D W).2.2 j (sbv (D W).1 v))) := by rw [s_put, if_neg (fun q => q hs), hWc, if_neg (fun q => c16 (h0.trans ((so_p1 ho.1).1.mpr q))), if_neg (fun q => q hi2), hjc]
          rw [e]
          exact ev_iret rfl rfl rfl ⟨rfl, shM_put (W := W) hD ho (fun i2 h2 => by by_cases e2 : i2 = W; rw [if_pos e2, e2, x_up_ne (by decide)]; exact h0; rw [if_neg e2, x_up_ne (by decide)]) (fun i2 h2 => by by_cases e2 : i2 = W; rw [if_pos e2, e2, x_up_ne (by decide)]; exact h1; rw [if_neg e2, x_up_ne (by decide)]) (fun j2 hj2 => by rw [x_up_eq]; show _ = upd (D W).2.2 j (sbv (D W).1 v) j2; by_cases e2 : j2 = j; rw [e2, upd_eq, upd_eq, sbv, if_pos ((so_p1 ho.1).2.mp (h0.symm.trans (Classical.byContradiction c58)))]; rw [upd_ne (by omega), upd_ne e2]; exact hi j2 hj2) (fun k hk => by rw [x_up_eq, upd_ne (by omega)]), ⟨fun c hc hn => by simp only [List.mem_cons, List.not_mem_nil, or_false, not_or] at hc; simp [x_up, hc], fun i2 _ => by simp [x_up]⟩⟩
      · replace c35 := zi_n.mp c35
        refine ev_blk 1 [] 40 ([some (.ref 57), some (.int (nI W)), some (.int (i)), some (.int (v))], [.int ((-12 : Int32))], σ) rfl ?_ ?_
        · trivial
        have e : s_put D (nI W) i v = (-12, D) := by rw [s_put, if_neg (fun q => q hs), hWc, if_neg (fun q => c16 (h0.trans ((so_p1 ho.1).1.mpr q))), if_pos (fun q => c35 (by rw [h1]; exact (mSh40 hz40).mpr q))]
        rw [e]
        exact ev_iret rfl rfl rfl ⟨rfl, hD, xFm.rf⟩
    · rw [hWc] at c16
      refine ev_blk 1 [] 21 ([some (.ref 57), some (.int (nI W)), some (.int (i)), some (.int (v))], [.int ((-11 : Int32))], σ) rfl ?_ ?_
      · trivial
      have e : s_put D (nI W) i v = (-11, D) := by rw [s_put, if_neg (fun q => q hs), hWc, if_pos ((so_p1 ho.1).1.mp (h0.symm.trans (Classical.byContradiction c16)))]
      rw [e]
      exact ev_iret rfl rfl rfl ⟨rfl, hD, xFm.rf⟩
  · replace c4 := zi_n.mp c4
    refine ev_blk 1 [] 9 ([some (.ref 57), some (.int (s)), some (.int (i)), some (.int (v))], [.int ((-2 : Int32))], σ) rfl ?_ ?_
    · trivial
    have e : s_put D s i v = (-2, D) := by rw [s_put, if_pos (fun q => c4 (iN4.mpr q))]
    rw [e]
    exact ev_iret rfl rfl rfl ⟨rfl, hD, xFm.rf⟩
theorem lN_toI {n : Nat} (h : n < 2 ^ 62) : (lN n).toInt = n := lg_ofNat_toInt (by omega)
theorem lN_ltB {a b : Nat} (ha : a < 2 ^ 62) (hb : b < 2 ^ 62) : lN a < lN b ↔ a < b := by
  rw [Int64.lt_iff_toInt_lt, lN_toI ha, lN_toI hb]
  omega
/-- the long sum of two ints that aren't below 0, against a size -/
theorem l_gt {i n : Int32} {z : Nat} (hz : z ≤ 40) (h1 : ¬ i < 0) (h2 : ¬ n < 0) : (0 < lg_cmp (i.toInt64 + n.toInt64) (nI z).toInt64) ↔ ¬ i.toNatClampNeg + n.toNatClampNeg ≤ z := by
  obtain ⟨a, ha, rfl⟩ := nI_of h1
  obtain ⟨m, hm, rfl⟩ := nI_of h2
  rw [lg_cmp_gt, nI_l ha, nI_l hm, nI_l (by omega), lN_add, lN_ltB (by omega) (by omega), nI_clamp ha, nI_clamp hm]
  omega
theorem i_40 (W j k : Nat) : ((40 : Int32) * (nI W)) + (nI j) + (nI k) = nI (40 * W + j + k) := by rw [n40, nI_add, nI_add]
set_option maxRecDepth 100000 in
theorem m_copy_f (σ : xSg) (D : Nat → shD) (W V i j m : Nat) (hW : W < 4) (hV : V < 4) (hi : i + m ≤ 40) (hj : j + m ≤ 40) (hne : W = V → j ≤ i) (Q : Option Value → xSg → Prop) (kK : xEv (.inl 2) M_X6_copy Q 213 ([some (.ref 57), some (.int (nI W)), some (.int (nI i)), some (.int (nI V)), some (.int (nI j)), some (.int (nI m)), none], [], (x_up σ 88 (va_cpy (σ 88) (σ 88) (40 * W + i) (40 * V + j) m)))) : ∀ (r k : Nat) (g : Nat → Int32), k + r = m → (∀ x, g x = va_cpy (σ 88) (σ 88) (40 * W + i) (40 * V + j) k x) → xEv (.inl 2) M_X6_copy Q 171 ([some (.ref 57), some (.int (nI W)), some (.int (nI i)), some (.int (nI V)), some (.int (nI j)), some (.int (nI m)), some (.int (nI k))], [], (x_up σ 88 g)) := by
  intro r
  induction r with
  | zero =>
    intro k g hk hg
    refine ev_br 2 [] ((nI m) ≤ (nI k)) 213 178 ([some (.ref 57), some (.int (nI W)), some (.int (nI i)), some (.int (nI V)), some (.int (nI j)), some (.int (nI m)), some (.int (nI k))], [], (x_up σ 88 g)) rfl ?_ (fun c175 => ?_) (fun c175 => ?_)
    · trivial
    · refine ev_drop 6 ?_
      have e : k = m := by omega
      subst e
      rw [show g = va_cpy (σ 88) (σ 88) (40 * W + i) (40 * V + j) k from funext hg]
      exact kK
    · exact absurd (show nI m ≤ nI k from nI_le (by omega) (by omega)) c175
  | succ r ih =>
    intro k g hk hg
    have e1 := i_40 V j k
    have e2 := i_40 W i k
    have h1c : ((((40 : Int32) * (nI V)) + (nI j)) + (nI k)).toNatClampNeg = 40 * V + j + k := by rw [e1, nI_clamp (by omega)]
    have h2c : ((((40 : Int32) * (nI W)) + (nI i)) + (nI k)).toNatClampNeg = 40 * W + i + k := by rw [e2, nI_clamp (by omega)]
    refine ev_br 2 [] ((nI m) ≤ (nI k)) 213 178 ([some (.ref 57), some (.int (nI W)), some (.int (nI i)), some (.int (nI V)), some (.int (nI j)), some (.int (nI m)), some (.int (nI k))], [], (x_up σ 88 g)) rfl ?_ (fun c175 => ?_) (fun c175 => ?_)
    · trivial
    · exact absurd c175 (nI_ge (by omega) (by omega))
    · refine ev_blk 22 [vp_in ((((40 : Int32) * (nI W)) + (nI i)) + (nI k)) 160, vp_in ((((40 : Int32) * (nI V)) + (nI j)) + (nI k)) 160] 171 ([some (.ref 57), some (.int (nI W)), some (.int (nI i)), some (.int (nI V)), some (.int (nI j)), some (.int (nI m)), some (.int ((nI k) + (1 : Int32)))], [], (x_up (x_up σ 88 g) 88 (upd g ((((40 : Int32) * (nI V)) + (nI j)) + (nI k)).toNatClampNeg (g ((((40 : Int32) * (nI W)) + (nI i)) + (nI k)).toNatClampNeg)))) rfl ?_ ?_
      · exact ⟨(by rw [e2]; exact vp_in_nI (by omega) (by decide)), (by rw [e1]; exact vp_in_nI (by omega) (by decide))⟩
      rw [h1c]
      rw [h2c]
      rw [nI_1, x_up_up]
      refine ih (k + 1) _ (by omega) (fun x => ?_)
      have hsrc : g (40 * W + i + k) = σ 88 (40 * W + i + k) := by
        rw [hg]; unfold va_cpy; rw [if_neg (by rcases Nat.lt_trichotomy W V with q | q | q; omega; (have := hne q; omega); omega)]
      unfold upd
      by_cases hx : x = 40 * V + j + k
      · rw [if_pos hx, hsrc, hx]; unfold va_cpy; rw [if_pos (by omega)]; congr 1; omega
      · rw [if_neg hx, hg]; unfold va_cpy
        by_cases hx2 : 40 * V + j ≤ x ∧ x < 40 * V + j + k
        · rw [if_pos hx2, if_pos (by omega)]
        · rw [if_neg hx2, if_neg (by omega)]
set_option maxRecDepth 100000 in
theorem m_copy_b (σ : xSg) (D : Nat → shD) (W V i j m : Nat) (hW : W < 4) (hV : V < 4) (hi : i + m ≤ 40) (hj : j + m ≤ 40) (hne : W = V) (hij : i < j) (Q : Option Value → xSg → Prop) (kK : xEv (.inl 2) M_X6_copy Q 213 ([some (.ref 57), some (.int (nI W)), some (.int (nI i)), some (.int (nI V)), some (.int (nI j)), some (.int (nI m)), none], [], (x_up σ 88 (va_cpy (σ 88) (σ 88) (40 * W + i) (40 * V + j) m)))) : ∀ (k : Nat) (g : Nat → Int32), k ≤ m → (∀ x, g x = va_cpy (σ 88) (σ 88) (40 * W + i + k) (40 * V + j + k) (m - k) x) → xEv (.inl 2) M_X6_copy Q 125 ([some (.ref 57), some (.int (nI W)), some (.int (nI i)), some (.int (nI V)), some (.int (nI j)), some (.int (nI m)), some (.int (s_dn k))], [], (x_up σ 88 g)) := by
  intro k
  induction k with
  | zero =>
    intro g hk hg
    refine ev_br 1 [] ((s_dn 0) < 0) 165 130 ([some (.ref 57), some (.int (nI W)), some (.int (nI i)), some (.int (nI V)), some (.int (nI j)), some (.int (nI m)), some (.int (s_dn 0))], [], (x_up σ 88 g)) rfl ?_ (fun c127 => ?_) (fun c127 => ?_)
    · trivial
    · refine ev_blk 1 [] 213 ([some (.ref 57), some (.int (nI W)), some (.int (nI i)), some (.int (nI V)), some (.int (nI j)), some (.int (nI m)), some (.int (s_dn 0))], [], (x_up σ 88 g)) rfl ?_ ?_
      · trivial
      refine ev_drop 6 ?_
      rw [show g = va_cpy (σ 88) (σ 88) (40 * W + i) (40 * V + j) m from funext hg]
      exact kK
    · exact absurd (show s_dn 0 < 0 by decide) c127
  | succ k ih =>
    intro g hk hg
    show xEv _ _ _ 125 ([some (.ref 57), some (.int (nI W)), some (.int (nI i)), some (.int (nI V)), some (.int (nI j)), some (.int (nI m)), some (.int (nI k))], [], (x_up σ 88 g))
    have e1 := i_40 V j k
    have e2 := i_40 W i k
    have h1c : ((((40 : Int32) * (nI V)) + (nI j)) + (nI k)).toNatClampNeg = 40 * V + j + k := by rw [e1, nI_clamp (by omega)]
    have h2c : ((((40 : Int32) * (nI W)) + (nI i)) + (nI k)).toNatClampNeg = 40 * W + i + k := by rw [e2, nI_clamp (by omega)]
    refine ev_br 1 [] ((nI k) < 0) 165 130 ([some (.ref 57), some (.int (nI W)), some (.int (nI i)), some (.int (nI V)), some (.int (nI j)), some (.int (nI m)), some (.int (nI k))], [], (x_up σ 88 g)) rfl ?_ (fun c127 => ?_) (fun c127 => ?_)
    · trivial
    · exact absurd c127 (nI_pos (by omega))
    · refine ev_blk 22 [vp_in ((((40 : Int32) * (nI W)) + (nI i)) + (nI k)) 160, vp_in ((((40 : Int32) * (nI V)) + (nI j)) + (nI k)) 160] 125 ([some (.ref 57), some (.int (nI W)), some (.int (nI i)), some (.int (nI V)), some (.int (nI j)), some (.int (nI m)), some (.int ((nI k) + (-1 : Int32)))], [], (x_up (x_up σ 88 g) 88 (upd g ((((40 : Int32) * (nI V)) + (nI j)) + (nI k)).toNatClampNeg (g ((((40 : Int32) * (nI W)) + (nI i)) + (nI k)).toNatClampNeg)))) rfl ?_ ?_
      · exact ⟨(by rw [e2]; exact vp_in_nI (by omega) (by decide)), (by rw [e1]; exact vp_in_nI (by omega) (by decide))⟩
      rw [h1c]
      rw [h2c]
      rw [s_dn_1 (by omega), x_up_up]
      refine ih _ (by omega) (fun x => ?_)
      have hsrc : g (40 * W + i + k) = σ 88 (40 * W + i + k) := by
        rw [hg]; unfold va_cpy; rw [if_neg (by omega)]
      unfold upd
      by_cases hx : x = 40 * V + j + k
      · rw [if_pos hx, hsrc, hx]; unfold va_cpy; rw [if_pos (by omega)]; congr 1; omega
      · rw [if_neg hx, hg]; unfold va_cpy
        by_cases hx2 : 40 * V + j + (k + 1) ≤ x ∧ x < 40 * V + j + (k + 1) + (m - (k + 1))
        · rw [if_pos hx2, if_pos (by omega)]; congr 1; omega
        · rw [if_neg hx2, if_neg (by omega)]
theorem nI_ltN {a b : Nat} (ha : a < 2 ^ 31) (hb : b < 2 ^ 31) (h : nI a < nI b) : a < b := (nI_ltI ha hb).mp h
theorem cpy_it {f : Nat → Int32} {g h : Nat → Int32} {W V i j m x : Nat} (hW : ∀ y, y < 40 → f (40 * W + y) = g y) (hV : ∀ y, y < 40 → f (40 * V + y) = h y) (hi : i + m ≤ 40) (hx : x < 40) : va_cpy f f (40 * W + i) (40 * V + j) m (40 * V + x) = va_cpy g h i j m x := by
  unfold va_cpy
  by_cases q : j ≤ x ∧ x < j + m
  · rw [if_pos q, if_pos (by omega), ← hW _ (by omega)]
    congr 1
    omega
  · rw [if_neg q, if_neg (by omega)]
    exact hV x hx
set_option maxRecDepth 100000 in
theorem m_copy (σ : xSg) (D : Nat → shD) (hD : shM σ D) (s i o j n : Int32) : xCtr M_X6_copy [.ref 57, .int (s), .int (i), .int (o), .int (j), .int (n)] σ (shPM [86, 87, 88] [] σ (s_cpy D s i o j n)) := by
  refine ctr_ev ok_X6_copy (by decide +kernel) rfl rfl rfl ?_
  show xEv (.inl 2) M_X6_copy _ 0 ([some (.ref 57), some (.int (s)), some (.int (i)), some (.int (o)), some (.int (j)), some (.int (n)), none], [], σ)
  refine ev_blk 1 [] 1 ([some (.ref 57), some (.int (s)), some (.int (i)), some (.int (o)), some (.int (j)), some (.int (n)), none], [.int (s)], σ) rfl ?_ ?_
  · trivial
  refine ev_callS M_X6_isSheet [.int (s)] [] rfl rfl ln_X6_203 k_X6_isSheet rfl rfl rfl (m_isSheet _ _) ?_
  refine pu_k ?_
  show xEv _ _ _ 4 ([some (.ref 57), some (.int (s)), some (.int (i)), some (.int (o)), some (.int (j)), some (.int (n)), none], [.int (zi (¬ s < 0 ∧ ¬ (3 : Int32) < s))], σ)
  refine ev_br 0 [] ((zi (¬ s < 0 ∧ ¬ (3 : Int32) < s)) = 0) 14 7 ([some (.ref 57), some (.int (s)), some (.int (i)), some (.int (o)), some (.int (j)), some (.int (n)), none], [], σ) rfl ?_ (fun c4 => ?_) (fun c4 => ?_)
  · trivial
  · replace c4 := zi_0.mp c4
    refine ev_blk 1 [] 16 ([some (.ref 57), some (.int (s)), some (.int (i)), some (.int (o)), some (.int (j)), some (.int (n)), none], [.int ((-2 : Int32))], σ) rfl ?_ ?_
    · trivial
    have e : s_cpy D s i o j n = (-2, D) := by rw [s_cpy, if_pos (fun q => c4 (iN4.mpr q))]
    rw [e]
    exact ev_iret rfl rfl rfl ⟨rfl, hD, xFm.rf⟩
  · replace c4 := zi_1.mp c4
    refine ev_blk 1 [] 8 ([some (.ref 57), some (.int (s)), some (.int (i)), some (.int (o)), some (.int (j)), some (.int (n)), none], [.int (o)], σ) rfl ?_ ?_
    · trivial
    refine ev_callS M_X6_isSheet [.int (o)] [] rfl rfl ln_X6_203 k_X6_isSheet rfl rfl rfl (m_isSheet _ _) ?_
    refine pu_k ?_
    show xEv _ _ _ 11 ([some (.ref 57), some (.int (s)), some (.int (i)), some (.int (o)), some (.int (j)), some (.int (n)), none], [.int (zi (¬ o < 0 ∧ ¬ (3 : Int32) < o))], σ)
    refine ev_br 0 [] (¬ (zi (¬ o < 0 ∧ ¬ (3 : Int32) < o)) = 0) 17 14 ([some (.ref 57), some (.int (s)), some (.int (i)), some (.int (o)), some (.int (j)), some (.int (n)), none], [], σ) rfl ?_ (fun c11 => ?_) (fun c11 => ?_)
    · trivial
    · replace c11 := zi_1.mp c11
      have hs := iN4.mp c4
      have ho2 := iN4.mp c11
      obtain ⟨W, hW, _, rfl⟩ := iN_of hs
      obtain ⟨V, hV, _, rfl⟩ := iN_of ho2
      have hWc : (nI W).toNatClampNeg = W := nI_clamp (by omega)
      have hVc : (nI V).toNatClampNeg = V := nI_clamp (by omega)
      have hin : vp_in (nI W) 4 := vp_in_nI hW (by decide)
      have hin2 : vp_in (nI V) 4 := vp_in_nI hV (by decide)
      obtain ⟨ho, h0, h1, hh⟩ := hD W hW
      obtain ⟨ko, k0, k1, hk⟩ := hD V hV
      refine ev_br 4 [vp_in (nI W) 4] (((σ 86) (nI W).toNatClampNeg) = 0) 35 26 ([some (.ref 57), some (.int (nI W)), some (.int (i)), some (.int (nI V)), some (.int (j)), some (.int (n)), none], [], σ) rfl ?_ (fun c23 => ?_) (fun c23 => ?_)
      · exact hin
      · rw [hWc] at c23
        refine ev_blk 1 [] 37 ([some (.ref 57), some (.int (nI W)), some (.int (i)), some (.int (nI V)), some (.int (j)), some (.int (n)), none], [.int ((-11 : Int32))], σ) rfl ?_ ?_
        · trivial
        have e : s_cpy D (nI W) i (nI V) j n = (-11, D) := by rw [s_cpy, if_neg (fun q => q hs), if_neg (fun q => q ho2), hWc, hVc, if_pos ((so_p1 ho.1).1.mp (h0.symm.trans c23))]
        rw [e]
        exact ev_iret rfl rfl rfl ⟨rfl, hD, xFm.rf⟩
      · rw [hWc] at c23
        refine ev_br 4 [vp_in (nI V) 4] (¬ ((σ 86) (nI V).toNatClampNeg) = 0) 38 35 ([some (.ref 57), some (.int (nI W)), some (.int (i)), some (.int (nI V)), some (.int (j)), some (.int (n)), none], [], σ) rfl ?_ (fun c32 => ?_) (fun c32 => ?_)
        · exact hin2
        · rw [hVc] at c32
          refine ev_br 8 [vp_in (nI W) 4, vp_in (nI V) 4] (((σ 86) (nI W).toNatClampNeg) = ((σ 86) (nI V).toNatClampNeg)) 56 53 ([some (.ref 57), some (.int (nI W)), some (.int (i)), some (.int (nI V)), some (.int (j)), some (.int (n)), none], [], σ) rfl ?_ (fun c50 => ?_) (fun c50 => ?_)
          · exact ⟨hin, hin2⟩
          · rw [hWc] at c50
            rw [hVc] at c50
            refine ev_br 1 [] (n < 0) 105 61 ([some (.ref 57), some (.int (nI W)), some (.int (i)), some (.int (nI V)), some (.int (j)), some (.int (n)), none], [], σ) rfl ?_ (fun c58 => ?_) (fun c58 => ?_)
            · trivial
            · refine ev_blk 1 [] 107 ([some (.ref 57), some (.int (nI W)), some (.int (i)), some (.int (nI V)), some (.int (j)), some (.int (n)), none], [.int ((-12 : Int32))], σ) rfl ?_ ?_
              · trivial
              have e : s_cpy D (nI W) i (nI V) j n = (-12, D) := by rw [s_cpy, if_neg (fun q => q hs), if_neg (fun q => q ho2), hWc, hVc, if_neg (fun q => c23 (h0.trans ((so_p1 ho.1).1.mpr q))), if_neg (fun q => c32 (k0.trans ((so_p1 ko.1).1.mpr q))), if_neg (fun q => q (so_eq.mp (h0.symm.trans (Eq.trans c50 k0)))), if_neg (fun q => q.1 (Or.inr (Or.inl c58)))]
              rw [e]
              exact ev_iret rfl rfl rfl ⟨rfl, hD, xFm.rf⟩
            · refine ev_br 1 [] (i < 0) 105 65 ([some (.ref 57), some (.int (nI W)), some (.int (i)), some (.int (nI V)), some (.int (j)), some (.int (n)), none], [], σ) rfl ?_ (fun c62 => ?_) (fun c62 => ?_)
              · trivial
              · refine ev_blk 1 [] 107 ([some (.ref 57), some (.int (nI W)), some (.int (i)), some (.int (nI V)), some (.int (j)), some (.int (n)), none], [.int ((-12 : Int32))], σ) rfl ?_ ?_
                · trivial
                have e : s_cpy D (nI W) i (nI V) j n = (-12, D) := by rw [s_cpy, if_neg (fun q => q hs), if_neg (fun q => q ho2), hWc, hVc, if_neg (fun q => c23 (h0.trans ((so_p1 ho.1).1.mpr q))), if_neg (fun q => c32 (k0.trans ((so_p1 ko.1).1.mpr q))), if_neg (fun q => q (so_eq.mp (h0.symm.trans (Eq.trans c50 k0)))), if_neg (fun q => q.1 (Or.inl c62))]
                rw [e]
                exact ev_iret rfl rfl rfl ⟨rfl, hD, xFm.rf⟩
              · refine ev_br 1 [] (j < 0) 105 70 ([some (.ref 57), some (.int (nI W)), some (.int (i)), some (.int (nI V)), some (.int (j)), some (.int (n)), none], [], σ) rfl ?_ (fun c67 => ?_) (fun c67 => ?_)
                · trivial
                · refine ev_blk 1 [] 107 ([some (.ref 57), some (.int (nI W)), some (.int (i)), some (.int (nI V)), some (.int (j)), some (.int (n)), none], [.int ((-12 : Int32))], σ) rfl ?_ ?_
                  · trivial
                  have e : s_cpy D (nI W) i (nI V) j n = (-12, D) := by rw [s_cpy, if_neg (fun q => q hs), if_neg (fun q => q ho2), hWc, hVc, if_neg (fun q => c23 (h0.trans ((so_p1 ho.1).1.mpr q))), if_neg (fun q => c32 (k0.trans ((so_p1 ko.1).1.mpr q))), if_neg (fun q => q (so_eq.mp (h0.symm.trans (Eq.trans c50 k0)))), if_neg (fun q => q.1 (Or.inr (Or.inr c67)))]
                  rw [e]
                  exact ev_iret rfl rfl rfl ⟨rfl, hD, xFm.rf⟩
                · refine ev_br 11 [vp_in (nI W) 4] (0 < (lg_cmp (i.toInt64 + n.toInt64) (((σ 87) (nI W).toNatClampNeg).toInt64))) 105 87 ([some (.ref 57), some (.int (nI W)), some (.int (i)), some (.int (nI V)), some (.int (j)), some (.int (n)), none], [], σ) rfl ?_ (fun c84 => ?_) (fun c84 => ?_)
                  · exact hin
                  · rw [hWc] at c84
                    refine ev_blk 1 [] 107 ([some (.ref 57), some (.int (nI W)), some (.int (i)), some (.int (nI V)), some (.int (j)), some (.int (n)), none], [.int ((-12 : Int32))], σ) rfl ?_ ?_
                    · trivial
                    have e : s_cpy D (nI W) i (nI V) j n = (-12, D) := by rw [s_cpy, if_neg (fun q => q hs), if_neg (fun q => q ho2), hWc, hVc, if_neg (fun q => c23 (h0.trans ((so_p1 ho.1).1.mpr q))), if_neg (fun q => c32 (k0.trans ((so_p1 ko.1).1.mpr q))), if_neg (fun q => q (so_eq.mp (h0.symm.trans (Eq.trans c50 k0)))), if_neg (fun q => (l_gt ho.2 c62 c58).mp (by rw [← h1]; exact c84) q.2.1)]
                    rw [e]
                    exact ev_iret rfl rfl rfl ⟨rfl, hD, xFm.rf⟩
                  · rw [hWc] at c84
                    refine ev_br 11 [vp_in (nI V) 4] ((lg_cmp (j.toInt64 + n.toInt64) (((σ 87) (nI V).toNatClampNeg).toInt64)) ≤ 0) 108 105 ([some (.ref 57), some (.int (nI W)), some (.int (i)), some (.int (nI V)), some (.int (j)), some (.int (n)), none], [], σ) rfl ?_ (fun c102 => ?_) (fun c102 => ?_)
                    · exact hin2
                    · rw [hVc] at c102
                      have r1 : i.toNatClampNeg + n.toNatClampNeg ≤ (D W).2.1 := Classical.byContradiction (fun q => c84 (by rw [h1]; exact (l_gt ho.2 c62 c58).mpr q))
                      have r2 : j.toNatClampNeg + n.toNatClampNeg ≤ (D V).2.1 := Classical.byContradiction (fun q => absurd ((l_gt ko.2 c67 c58).mpr q) (Int32.not_lt.mpr (by rw [← k1]; exact c102)))
                      have e : s_cpy D (nI W) i (nI V) j n = (n, updD D V ((D V).1, (D V).2.1, va_cpy (D W).2.2 (D V).2.2 i.toNatClampNeg j.toNatClampNeg n.toNatClampNeg)) := by rw [s_cpy, if_neg (fun q => q hs), if_neg (fun q => q ho2), hWc, hVc, if_neg (fun q => c23 (h0.trans ((so_p1 ho.1).1.mpr q))), if_neg (fun q => c32 (k0.trans ((so_p1 ko.1).1.mpr q))), if_neg (fun q => q (so_eq.mp (h0.symm.trans (Eq.trans c50 k0)))), if_pos ⟨by rintro (q | q | q); exact c62 q; exact c58 q; exact c67 q, r1, r2⟩]
                      obtain ⟨i, hi3, rfl⟩ := nI_of c62
                      obtain ⟨m, hm3, rfl⟩ := nI_of c58
                      obtain ⟨j, hj3, rfl⟩ := nI_of c67
                      rw [nI_clamp hi3, nI_clamp hm3] at r1
                      rw [nI_clamp hj3, nI_clamp hm3] at r2
                      have hz1 := ho.2
                      have hz2 := ko.2
                      have k213 : xEv (.inl 2) M_X6_copy (shPM [86, 87, 88] [] σ (s_cpy D (nI W) (nI i) (nI V) (nI j) (nI m))) 213 ([some (.ref 57), some (.int (nI W)), some (.int (nI i)), some (.int (nI V)), some (.int (nI j)), some (.int (nI m)), none], [], (x_up σ 88 (va_cpy (σ 88) (σ 88) (40 * W + i) (40 * V + j) m))) := by
                        refine ev_blk 1 [] 215 ([some (.ref 57), some (.int (nI W)), some (.int (nI i)), some (.int (nI V)), some (.int (nI j)), some (.int (nI m)), none], [.int (nI m)], (x_up σ 88 (va_cpy (σ 88) (σ 88) (40 * W + i) (40 * V + j) m))) rfl ?_ ?_
                        · trivial
                        rw [e, nI_clamp hi3, nI_clamp hj3, nI_clamp hm3]
                        exact ev_iret rfl rfl rfl ⟨rfl, shM_put (W := V) hD ko (fun i2 h2 => by by_cases e2 : i2 = V; rw [if_pos e2, e2, x_up_ne (by decide)]; exact k0; rw [if_neg e2, x_up_ne (by decide)]) (fun i2 h2 => by by_cases e2 : i2 = V; rw [if_pos e2, e2, x_up_ne (by decide)]; exact k1; rw [if_neg e2, x_up_ne (by decide)]) (fun j2 hj2 => by rw [x_up_eq]; exact cpy_it hh hk (by omega) hj2) (fun k hk2 => by rw [x_up_eq]; unfold va_cpy; rw [if_neg (by omega)]), ⟨fun c hc hn => by simp only [List.mem_cons, List.not_mem_nil, or_false, not_or] at hc; simp [x_up, hc], fun i2 _ => by simp [x_up]⟩⟩
                      refine ev_br 2 [] (¬ (nI W) = (nI V)) 168 113 ([some (.ref 57), some (.int (nI W)), some (.int (nI i)), some (.int (nI V)), some (.int (nI j)), some (.int (nI m)), none], [], σ) rfl ?_ (fun c110 => ?_) (fun c110 => ?_)
                      · trivial
                      · refine ev_blk 2 [] 171 ([some (.ref 57), some (.int (nI W)), some (.int (nI i)), some (.int (nI V)), some (.int (nI j)), some (.int (nI m)), some (.int ((0 : Int32)))], [], σ) rfl ?_ ?_
                        · trivial
                        have hl := m_copy_f σ D W V i j m hW hV (by omega) (by omega) (fun q => absurd (by rw [q]) c110) _ k213 m 0 (σ 88) (by omega) (fun x => by unfold va_cpy; rw [if_neg (by omega)])
                        rw [x_up_self] at hl
                        exact hl
                      · refine ev_br 2 [] ((nI j) ≤ (nI i)) 168 119 ([some (.ref 57), some (.int (nI W)), some (.int (nI i)), some (.int (nI V)), some (.int (nI j)), some (.int (nI m)), none], [], σ) rfl ?_ (fun c116 => ?_) (fun c116 => ?_)
                        · trivial
                        · refine ev_blk 2 [] 171 ([some (.ref 57), some (.int (nI W)), some (.int (nI i)), some (.int (nI V)), some (.int (nI j)), some (.int (nI m)), some (.int ((0 : Int32)))], [], σ) rfl ?_ ?_
                          · trivial
                          have hl := m_copy_f σ D W V i j m hW hV (by omega) (by omega) (fun q => (nI_leI (by omega) (by omega)).mp c116) _ k213 m 0 (σ 88) (by omega) (fun x => by unfold va_cpy; rw [if_neg (by omega)])
                          rw [x_up_self] at hl
                          exact hl
                        · refine ev_blk 4 [] 125 ([some (.ref 57), some (.int (nI W)), some (.int (nI i)), some (.int (nI V)), some (.int (nI j)), some (.int (nI m)), some (.int ((nI m) - (1 : Int32)))], [], σ) rfl ?_ ?_
                          · trivial
                          have hm1 : (nI m) - (1 : Int32) = s_dn m := by rw [Int32.sub_eq_add_neg]; exact s_dn_1 (by omega)
                          rw [hm1]
                          have hl := m_copy_b σ D W V i j m hW hV (by omega) (by omega) ((nI_eq (by omega) (by omega)).mp (Classical.byContradiction c110)) (nI_ltN (by omega) (by omega) (Int32.not_le.mp c116)) _ k213 m (σ 88) (Nat.le_refl _) (fun x => by unfold va_cpy; rw [if_neg (by omega)])
                          rw [x_up_self] at hl
                          exact hl
                    · rw [hVc] at c102
                      refine ev_blk 1 [] 107 ([some (.ref 57), some (.int (nI W)), some (.int (i)), some (.int (nI V)), some (.int (j)), some (.int (n)), none], [.int ((-12 : Int32))], σ) rfl ?_ ?_
                      · trivial
                      have e : s_cpy D (nI W) i (nI V) j n = (-12, D) := by rw [s_cpy, if_neg (fun q => q hs), if_neg (fun q => q ho2), hWc, hVc, if_neg (fun q => c23 (h0.trans ((so_p1 ho.1).1.mpr q))), if_neg (fun q => c32 (k0.trans ((so_p1 ko.1).1.mpr q))), if_neg (fun q => q (so_eq.mp (h0.symm.trans (Eq.trans c50 k0)))), if_neg (fun q => (l_gt ko.2 c67 c58).mp (by rw [← k1]; exact Int32.not_le.mp c102) q.2.2)]
                      rw [e]
                      exact ev_iret rfl rfl rfl ⟨rfl, hD, xFm.rf⟩
          · rw [hWc] at c50
            rw [hVc] at c50
            refine ev_blk 1 [] 55 ([some (.ref 57), some (.int (nI W)), some (.int (i)), some (.int (nI V)), some (.int (j)), some (.int (n)), none], [.int ((-13 : Int32))], σ) rfl ?_ ?_
            · trivial
            have e : s_cpy D (nI W) i (nI V) j n = (-13, D) := by rw [s_cpy, if_neg (fun q => q hs), if_neg (fun q => q ho2), hWc, hVc, if_neg (fun q => c23 (h0.trans ((so_p1 ho.1).1.mpr q))), if_neg (fun q => c32 (k0.trans ((so_p1 ko.1).1.mpr q))), if_pos (fun q => c50 (h0.trans ((so_eq.mpr q).trans k0.symm)))]
            rw [e]
            exact ev_iret rfl rfl rfl ⟨rfl, hD, xFm.rf⟩
        · rw [hVc] at c32
          refine ev_blk 1 [] 37 ([some (.ref 57), some (.int (nI W)), some (.int (i)), some (.int (nI V)), some (.int (j)), some (.int (n)), none], [.int ((-11 : Int32))], σ) rfl ?_ ?_
          · trivial
          have e : s_cpy D (nI W) i (nI V) j n = (-11, D) := by rw [s_cpy, if_neg (fun q => q hs), if_neg (fun q => q ho2), hWc, hVc, if_neg (fun q => c23 (h0.trans ((so_p1 ho.1).1.mpr q))), if_pos ((so_p1 ko.1).1.mp (k0.symm.trans (Classical.byContradiction c32)))]
          rw [e]
          exact ev_iret rfl rfl rfl ⟨rfl, hD, xFm.rf⟩
    · replace c11 := zi_n.mp c11
      refine ev_blk 1 [] 16 ([some (.ref 57), some (.int (s)), some (.int (i)), some (.int (o)), some (.int (j)), some (.int (n)), none], [.int ((-2 : Int32))], σ) rfl ?_ ?_
      · trivial
      have e : s_cpy D s i o j n = (-2, D) := by rw [s_cpy, if_neg (fun q => q (iN4.mp c4)), if_pos (fun q => c11 (iN4.mpr q))]
      rw [e]
      exact ev_iret rfl rfl rfl ⟨rfl, hD, xFm.rf⟩
