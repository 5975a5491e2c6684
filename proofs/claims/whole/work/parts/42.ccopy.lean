/-- a run of n from x on lies in a row of z -/
abbrev rnN (z : Nat) (x n : Int32) : Prop := ∃ i m : Nat, x = nI i ∧ n = nI m ∧ i + m ≤ z
theorem rnC {z : Nat} (hz : z ≤ 40) {x n : Int32} : (¬ x < 0 ∧ ¬ n < 0 ∧ ¬ nI z < x ∧ ¬ nI z - x < n) ↔ rnN z x n := by
  constructor
  · rintro ⟨h1, h2, h3, h4⟩
    obtain ⟨i, hi, rfl⟩ := nI_of h1
    obtain ⟨m, hm, rfl⟩ := nI_of h2
    have h5 : i ≤ z := Nat.le_of_not_lt (fun q => h3 (nI_lt q hi))
    rw [i_sub h5] at h4
    have h6 : m ≤ z - i := Nat.le_of_not_lt (fun q => h4 (nI_lt q hm))
    exact ⟨i, m, rfl, rfl, by omega⟩
  · rintro ⟨i, m, rfl, rfl, h⟩
    refine ⟨nI_pos (by omega), nI_pos (by omega), nI_nlt (by omega) (by omega), ?_⟩
    rw [i_sub (by omega)]
    exact nI_nlt (by omega) (by omega)
def s_cpy (D : Nat → shD) (s i o j n : Int32) : Int32 × (Nat → shD) := if ¬ iN 4 s then (-2, D) else if ¬ iN 4 o then (-2, D) else if (D s.toNatClampNeg).1 = -1 then (-11, D) else if (D o.toNatClampNeg).1 = -1 then (-11, D) else if ¬ (D s.toNatClampNeg).1 = (D o.toNatClampNeg).1 then (-13, D) else if ¬ (i < 0 ∨ n < 0 ∨ j < 0) ∧ i.toNatClampNeg + n.toNatClampNeg ≤ (D s.toNatClampNeg).2.1 ∧ j.toNatClampNeg + n.toNatClampNeg ≤ (D o.toNatClampNeg).2.1 then (n, updD D o.toNatClampNeg ((D o.toNatClampNeg).1, (D o.toNatClampNeg).2.1, va_cpy (D s.toNatClampNeg).2.2 (D o.toNatClampNeg).2.2 i.toNatClampNeg j.toNatClampNeg n.toNatClampNeg)) else (-12, D)
theorem rn_cl {z : Nat} {x n : Int32} (hz : z ≤ 40) (h : rnN z x n) : ¬ x < 0 ∧ ¬ n < 0 ∧ x.toNatClampNeg + n.toNatClampNeg ≤ z := by
  obtain ⟨i, m, rfl, rfl, h⟩ := h
  rw [nI_clamp (by omega), nI_clamp (by omega)]
  exact ⟨nI_pos (by omega), nI_pos (by omega), h⟩
theorem rn_of {z : Nat} {x n : Int32} (h1 : ¬ x < 0) (h2 : ¬ n < 0) (h3 : x.toNatClampNeg + n.toNatClampNeg ≤ z) : rnN z x n := by
  obtain ⟨i, hi, rfl⟩ := nI_of h1
  obtain ⟨m, hm, rfl⟩ := nI_of h2
  rw [nI_clamp hi, nI_clamp hm] at h3
  exact ⟨i, m, rfl, rfl, h3⟩
theorem rn_no {p q i j n : Int32} {z y : Nat} (h : ¬ rnN z i n ∨ ¬ rnN y j n) : ¬ (¬ (i < 0 ∨ n < 0 ∨ j < 0) ∧ i.toNatClampNeg + n.toNatClampNeg ≤ z ∧ j.toNatClampNeg + n.toNatClampNeg ≤ y) := by
  rintro ⟨h1, h2, h3⟩
  rcases h with h | h
  · exact h (rn_of (fun q => h1 (Or.inl q)) (fun q => h1 (Or.inr (Or.inl q))) h2)
  · exact h (rn_of (fun q => h1 (Or.inr (Or.inr q))) (fun q => h1 (Or.inr (Or.inl q))) h3)
theorem va_cpy_c {f f' g g' : Nat → Int32} {sp dp n i : Nat} (h1 : ∀ j, j < 40 → f j = f' j) (h2 : ∀ j, j < 40 → g j = g' j) (hs : sp + n ≤ 40) (hi : i < 40) : va_cpy f g sp dp n i = va_cpy f' g' sp dp n i := by
  unfold va_cpy
  split
  next h => exact h1 _ (by omega)
  next h => exact h2 _ hi
set_option maxRecDepth 100000 in
theorem c_copy0 (σ : xSg) (D : Nat → shD) (hD : shC σ D) (i o j n : Int32) : xCtr M_X5_copy [.ref 0, .int ((0 : Int32)), .int (i), .int (o), .int (j), .int (n)] σ (shPQ scS σ (s_cpy D (nI 0) i o j n)) := by
  refine ctr_ev ok_X5_copy (by decide +kernel) rfl rfl rfl ?_
  show xEv (.inl 1) M_X5_copy _ 0 ([some (.ref 0), some (.int ((0 : Int32))), some (.int (i)), some (.int (o)), some (.int (j)), some (.int (n)), none, none], [], σ)
  have hg : iN 4 (nI 0) := iN_nI (by decide) (by decide)
  obtain ⟨ho, h0, h1, hi⟩ := hD 0 (by decide)
  have hc : (nI 0).toNatClampNeg = 0 := rfl
  rcases pk_ix o (n := 4) (by decide) with hb | hb | ⟨W, hW, rfl⟩
  · have hbad : ¬ iN 4 o := fun q => q.1 hb
    refine ev_blk 1 [] 1 ([some (.ref 0), some (.int ((0 : Int32))), some (.int (i)), some (.int (o)), some (.int (j)), some (.int (n)), none, none], [.int ((0 : Int32))], σ) rfl ?_ ?_
    · trivial
    refine ev_callS M_X5_isSheet [.int ((0 : Int32))] [] rfl rfl ln_X5_229 k_X5_isSheet rfl rfl rfl (c_isSheet _ _) ?_
    refine pu_k ?_
    rw [zi_t (show ¬ ((0 : Int32)) < 0 ∧ ¬ (4 : Int32) ≤ ((0 : Int32)) by decide)]
    show xEv _ _ _ 4 ([some (.ref 0), some (.int ((0 : Int32))), some (.int (i)), some (.int (o)), some (.int (j)), some (.int (n)), none, none], [.int ((1 : Int32))], σ)
    refine ev_br 0 [] ((1 : Int32) = 0) 14 7 ([some (.ref 0), some (.int ((0 : Int32))), some (.int (i)), some (.int (o)), some (.int (j)), some (.int (n)), none, none], [], σ) rfl ?_ (fun c4 => ?_) (fun c4 => ?_)
    · trivial
    · exact absurd c4 (by decide)
    · refine ev_blk 1 [] 8 ([some (.ref 0), some (.int ((0 : Int32))), some (.int (i)), some (.int (o)), some (.int (j)), some (.int (n)), none, none], [.int (o)], σ) rfl ?_ ?_
      · trivial
      refine ev_callS M_X5_isSheet [.int (o)] [] rfl rfl ln_X5_229 k_X5_isSheet rfl rfl rfl (c_isSheet _ _) ?_
      refine pu_k ?_
      show xEv _ _ _ 11 ([some (.ref 0), some (.int ((0 : Int32))), some (.int (i)), some (.int (o)), some (.int (j)), some (.int (n)), none, none], [.int (zi (¬ o < 0 ∧ ¬ (4 : Int32) ≤ (o)))], σ)
      refine ev_br 0 [] (¬ (zi (¬ o < 0 ∧ ¬ (4 : Int32) ≤ (o))) = 0) 17 14 ([some (.ref 0), some (.int ((0 : Int32))), some (.int (i)), some (.int (o)), some (.int (j)), some (.int (n)), none, none], [], σ) rfl ?_ (fun c11 => ?_) (fun c11 => ?_)
      · trivial
      · exact absurd (zi_1.mp c11) hbad
      · replace c11 := zi_n.mp c11
        refine ev_blk 1 [] 16 ([some (.ref 0), some (.int ((0 : Int32))), some (.int (i)), some (.int (o)), some (.int (j)), some (.int (n)), none, none], [.int ((-2 : Int32))], σ) rfl ?_ ?_
        · trivial
        have e : s_cpy D (nI 0) i o j n = (-2, D) := by rw [s_cpy, if_neg (fun q => q hg), if_pos hbad]
        rw [e]
        exact ev_iret rfl rfl rfl ⟨rfl, hD, xFr.rf⟩
  · have hbad : ¬ iN 4 o := fun q => q.2 hb
    refine ev_blk 1 [] 1 ([some (.ref 0), some (.int ((0 : Int32))), some (.int (i)), some (.int (o)), some (.int (j)), some (.int (n)), none, none], [.int ((0 : Int32))], σ) rfl ?_ ?_
    · trivial
    refine ev_callS M_X5_isSheet [.int ((0 : Int32))] [] rfl rfl ln_X5_229 k_X5_isSheet rfl rfl rfl (c_isSheet _ _) ?_
    refine pu_k ?_
    rw [zi_t (show ¬ ((0 : Int32)) < 0 ∧ ¬ (4 : Int32) ≤ ((0 : Int32)) by decide)]
    show xEv _ _ _ 4 ([some (.ref 0), some (.int ((0 : Int32))), some (.int (i)), some (.int (o)), some (.int (j)), some (.int (n)), none, none], [.int ((1 : Int32))], σ)
    refine ev_br 0 [] ((1 : Int32) = 0) 14 7 ([some (.ref 0), some (.int ((0 : Int32))), some (.int (i)), some (.int (o)), some (.int (j)), some (.int (n)), none, none], [], σ) rfl ?_ (fun c4 => ?_) (fun c4 => ?_)
    · trivial
    · exact absurd c4 (by decide)
    · refine ev_blk 1 [] 8 ([some (.ref 0), some (.int ((0 : Int32))), some (.int (i)), some (.int (o)), some (.int (j)), some (.int (n)), none, none], [.int (o)], σ) rfl ?_ ?_
      · trivial
      refine ev_callS M_X5_isSheet [.int (o)] [] rfl rfl ln_X5_229 k_X5_isSheet rfl rfl rfl (c_isSheet _ _) ?_
      refine pu_k ?_
      show xEv _ _ _ 11 ([some (.ref 0), some (.int ((0 : Int32))), some (.int (i)), some (.int (o)), some (.int (j)), some (.int (n)), none, none], [.int (zi (¬ o < 0 ∧ ¬ (4 : Int32) ≤ (o)))], σ)
      refine ev_br 0 [] (¬ (zi (¬ o < 0 ∧ ¬ (4 : Int32) ≤ (o))) = 0) 17 14 ([some (.ref 0), some (.int ((0 : Int32))), some (.int (i)), some (.int (o)), some (.int (j)), some (.int (n)), none, none], [], σ) rfl ?_ (fun c11 => ?_) (fun c11 => ?_)
      · trivial
      · exact absurd (zi_1.mp c11) hbad
      · replace c11 := zi_n.mp c11
        refine ev_blk 1 [] 16 ([some (.ref 0), some (.int ((0 : Int32))), some (.int (i)), some (.int (o)), some (.int (j)), some (.int (n)), none, none], [.int ((-2 : Int32))], σ) rfl ?_ ?_
        · trivial
        have e : s_cpy D (nI 0) i o j n = (-2, D) := by rw [s_cpy, if_neg (fun q => q hg), if_pos hbad]
        rw [e]
        exact ev_iret rfl rfl rfl ⟨rfl, hD, xFr.rf⟩
  · rcases (show W = 0 ∨ W = 1 ∨ W = 2 ∨ W = 3 by omega) with rfl | rfl | rfl | rfl
    · have hg : iN 4 (nI 0) := iN_nI (by decide) (by decide)
      have hg2 : iN 4 (nI 0) := iN_nI (by decide) (by decide)
      obtain ⟨ko, k0, k1, ki⟩ := hD 0 (by decide)
      have hc2 : (nI 0).toNatClampNeg = 0 := rfl
      show xEv _ _ _ 0 ([some (.ref 0), some (.int ((0 : Int32))), some (.int (i)), some (.int ((0 : Int32))), some (.int (j)), some (.int (n)), none, none], [], σ)
      refine ev_blk 1 [] 1 ([some (.ref 0), some (.int ((0 : Int32))), some (.int (i)), some (.int ((0 : Int32))), some (.int (j)), some (.int (n)), none, none], [.int ((0 : Int32))], σ) rfl ?_ ?_
      · trivial
      refine ev_callS M_X5_isSheet [.int ((0 : Int32))] [] rfl rfl ln_X5_229 k_X5_isSheet rfl rfl rfl (c_isSheet _ _) ?_
      refine pu_k ?_
      rw [zi_t (show ¬ ((0 : Int32)) < 0 ∧ ¬ (4 : Int32) ≤ ((0 : Int32)) by decide)]
      show xEv _ _ _ 4 ([some (.ref 0), some (.int ((0 : Int32))), some (.int (i)), some (.int ((0 : Int32))), some (.int (j)), some (.int (n)), none, none], [.int ((1 : Int32))], σ)
      refine ev_br 0 [] ((1 : Int32) = 0) 14 7 ([some (.ref 0), some (.int ((0 : Int32))), some (.int (i)), some (.int ((0 : Int32))), some (.int (j)), some (.int (n)), none, none], [], σ) rfl ?_ (fun c4 => ?_) (fun c4 => ?_)
      · trivial
      · exact absurd c4 (by decide)
      · refine ev_blk 1 [] 8 ([some (.ref 0), some (.int ((0 : Int32))), some (.int (i)), some (.int ((0 : Int32))), some (.int (j)), some (.int (n)), none, none], [.int ((0 : Int32))], σ) rfl ?_ ?_
        · trivial
        refine ev_callS M_X5_isSheet [.int ((0 : Int32))] [] rfl rfl ln_X5_229 k_X5_isSheet rfl rfl rfl (c_isSheet _ _) ?_
        refine pu_k ?_
        rw [zi_t (show ¬ ((0 : Int32)) < 0 ∧ ¬ (4 : Int32) ≤ ((0 : Int32)) by decide)]
        show xEv _ _ _ 11 ([some (.ref 0), some (.int ((0 : Int32))), some (.int (i)), some (.int ((0 : Int32))), some (.int (j)), some (.int (n)), none, none], [.int ((1 : Int32))], σ)
        refine ev_br 0 [] (¬ (1 : Int32) = 0) 17 14 ([some (.ref 0), some (.int ((0 : Int32))), some (.int (i)), some (.int ((0 : Int32))), some (.int (j)), some (.int (n)), none, none], [], σ) rfl ?_ (fun c11 => ?_) (fun c11 => ?_)
        · trivial
        · refine ev_blk 11 [vp_in ((0 : Int32)) 4, vp_in ((0 : Int32)) 4] 35 ([some (.ref 0), some (.int ((0 : Int32))), some (.int (i)), some (.int ((0 : Int32))), some (.int (j)), some (.int (n)), some (.ref 49), some (.ref 49)], [.ref 49], σ) rfl ?_ ?_
          · exact ⟨(vp_in_nI (n := 0) (by decide) (by decide)), (vp_in_nI (n := 0) (by decide) (by decide))⟩
          refine ev_callV M_X4_isMissing [] [] 49 rfl rfl ln_X5_232 k_X4_isMissing rfl rfl rfl rfl rfl rfl (c_isMissing0 _) ?_
          refine pu_k ?_
          show xEv _ _ _ 38 ([some (.ref 0), some (.int ((0 : Int32))), some (.int (i)), some (.int ((0 : Int32))), some (.int (j)), some (.int (n)), some (.ref 49), some (.ref 49)], [.int (zi (σ 49 0 = -1))], σ)
          refine ev_br 0 [] (¬ (zi (σ 49 0 = -1)) = 0) 49 41 ([some (.ref 0), some (.int ((0 : Int32))), some (.int (i)), some (.int ((0 : Int32))), some (.int (j)), some (.int (n)), some (.ref 49), some (.ref 49)], [], σ) rfl ?_ (fun c38 => ?_) (fun c38 => ?_)
          · trivial
          · replace c38 := zi_1.mp c38
            refine ev_blk 1 [] 51 ([some (.ref 0), some (.int ((0 : Int32))), some (.int (i)), some (.int ((0 : Int32))), some (.int (j)), some (.int (n)), some (.ref 49), some (.ref 49)], [.int ((-11 : Int32))], σ) rfl ?_ ?_
            · trivial
            have e : s_cpy D (nI 0) i (nI 0) j n = (-11, D) := by rw [s_cpy, if_neg (fun q => q hg), if_neg (fun q => q hg2), hc, if_pos (by rw [← h0]; exact c38)]
            rw [e]
            exact ev_iret rfl rfl rfl ⟨rfl, hD, xFr.rf⟩
          · replace c38 := zi_n.mp c38
            refine ev_blk 1 [] 43 ([some (.ref 0), some (.int ((0 : Int32))), some (.int (i)), some (.int ((0 : Int32))), some (.int (j)), some (.int (n)), some (.ref 49), some (.ref 49)], [.ref 49], σ) rfl ?_ ?_
            · trivial
            refine ev_callV M_X4_isMissing [] [] 49 rfl rfl ln_X5_232 k_X4_isMissing rfl rfl rfl rfl rfl rfl (c_isMissing0 _) ?_
            refine pu_k ?_
            show xEv _ _ _ 46 ([some (.ref 0), some (.int ((0 : Int32))), some (.int (i)), some (.int ((0 : Int32))), some (.int (j)), some (.int (n)), some (.ref 49), some (.ref 49)], [.int (zi (σ 49 0 = -1))], σ)
            refine ev_br 0 [] ((zi (σ 49 0 = -1)) = 0) 52 49 ([some (.ref 0), some (.int ((0 : Int32))), some (.int (i)), some (.int ((0 : Int32))), some (.int (j)), some (.int (n)), some (.ref 49), some (.ref 49)], [], σ) rfl ?_ (fun c46 => ?_) (fun c46 => ?_)
            · trivial
            · replace c46 := zi_0.mp c46
              refine ev_br 4 [] ((σ 49 0) = (σ 49 0)) 68 65 ([some (.ref 0), some (.int ((0 : Int32))), some (.int (i)), some (.int ((0 : Int32))), some (.int (j)), some (.int (n)), some (.ref 49), some (.ref 49)], [], σ) rfl ?_ (fun c62 => ?_) (fun c62 => ?_)
              · trivial
              · refine ev_blk 3 [] 73 ([some (.ref 0), some (.int ((0 : Int32))), some (.int (i)), some (.int ((0 : Int32))), some (.int (j)), some (.int (n)), some (.ref 49), some (.ref 49)], [.int (n), .int (i), .ref 49], σ) rfl ?_ ?_
                · trivial
                refine ev_callV M_X4_hasRun [.int (i), .int (n)] [] 49 rfl rfl ln_X5_266 k_X4_hasRun rfl rfl rfl rfl rfl rfl (c_hasRun0 _ _ _) ?_
                refine pu_k ?_
                show xEv _ _ _ 76 ([some (.ref 0), some (.int ((0 : Int32))), some (.int (i)), some (.int ((0 : Int32))), some (.int (j)), some (.int (n)), some (.ref 49), some (.ref 49)], [.int (zi (¬ i < 0 ∧ ¬ n < 0 ∧ ¬ σ 49 1 < i ∧ ¬ σ 49 1 - i < n))], σ)
                refine ev_br 0 [] ((zi (¬ i < 0 ∧ ¬ n < 0 ∧ ¬ σ 49 1 < i ∧ ¬ σ 49 1 - i < n)) = 0) 91 79 ([some (.ref 0), some (.int ((0 : Int32))), some (.int (i)), some (.int ((0 : Int32))), some (.int (j)), some (.int (n)), some (.ref 49), some (.ref 49)], [], σ) rfl ?_ (fun c76 => ?_) (fun c76 => ?_)
                · trivial
                · replace c76 := zi_0.mp c76
                  refine ev_blk 1 [] 93 ([some (.ref 0), some (.int ((0 : Int32))), some (.int (i)), some (.int ((0 : Int32))), some (.int (j)), some (.int (n)), some (.ref 49), some (.ref 49)], [.int ((-12 : Int32))], σ) rfl ?_ ?_
                  · trivial
                  have e : s_cpy D (nI 0) i (nI 0) j n = (-12, D) := by rw [s_cpy, if_neg (fun q => q hg), if_neg (fun q => q hg2), hc, if_neg (by rw [← h0]; exact c38), if_neg (by rw [← k0]; exact c46), if_neg (fun q => q (h0.symm.trans (Eq.trans c62 k0))), if_neg (rn_no (p := 0) (q := 0) (Or.inl (fun q => c76 (by rw [show σ 49 1 = _ from h1]; exact (rnC ho.2).mpr q))))]
                  rw [e]
                  exact ev_iret rfl rfl rfl ⟨rfl, hD, xFr.rf⟩
                · replace c76 := zi_1.mp c76
                  refine ev_blk 3 [] 85 ([some (.ref 0), some (.int ((0 : Int32))), some (.int (i)), some (.int ((0 : Int32))), some (.int (j)), some (.int (n)), some (.ref 49), some (.ref 49)], [.int (n), .int (j), .ref 49], σ) rfl ?_ ?_
                  · trivial
                  refine ev_callV M_X4_hasRun [.int (j), .int (n)] [] 49 rfl rfl ln_X5_266 k_X4_hasRun rfl rfl rfl rfl rfl rfl (c_hasRun0 _ _ _) ?_
                  refine pu_k ?_
                  show xEv _ _ _ 88 ([some (.ref 0), some (.int ((0 : Int32))), some (.int (i)), some (.int ((0 : Int32))), some (.int (j)), some (.int (n)), some (.ref 49), some (.ref 49)], [.int (zi (¬ j < 0 ∧ ¬ n < 0 ∧ ¬ σ 49 1 < j ∧ ¬ σ 49 1 - j < n))], σ)
                  refine ev_br 0 [] (¬ (zi (¬ j < 0 ∧ ¬ n < 0 ∧ ¬ σ 49 1 < j ∧ ¬ σ 49 1 - j < n)) = 0) 94 91 ([some (.ref 0), some (.int ((0 : Int32))), some (.int (i)), some (.int ((0 : Int32))), some (.int (j)), some (.int (n)), some (.ref 49), some (.ref 49)], [], σ) rfl ?_ (fun c88 => ?_) (fun c88 => ?_)
                  · trivial
                  · replace c88 := zi_1.mp c88
                    have r1 := rn_cl ho.2 ((rnC ho.2).mp (by rw [show σ 49 1 = _ from h1] at c76; exact c76))
                    have r2 := rn_cl ko.2 ((rnC ko.2).mp (by rw [show σ 49 1 = _ from k1] at c88; exact c88))
                    refine ev_blk 9 [¬ i < 0, ¬ j < 0, ¬ n < 0, i.toNatClampNeg + n.toNatClampNeg ≤ 40, j.toNatClampNeg + n.toNatClampNeg ≤ 40] 114 ([some (.ref 0), some (.int ((0 : Int32))), some (.int (i)), some (.int ((0 : Int32))), some (.int (j)), some (.int (n)), some (.ref 49), some (.ref 49)], [.int (n)], (x_up σ 50 (va_cpy (σ 50) (σ 50) i.toNatClampNeg j.toNatClampNeg n.toNatClampNeg))) rfl ?_ ?_
                    · exact ⟨r1.1, r2.1, r1.2.1, Nat.le_trans r1.2.2 ho.2, Nat.le_trans r2.2.2 ko.2⟩
                    have e : s_cpy D (nI 0) i (nI 0) j n = (n, updD D 0 ((D 0).1, (D 0).2.1, va_cpy (D 0).2.2 (D 0).2.2 i.toNatClampNeg j.toNatClampNeg n.toNatClampNeg)) := by rw [s_cpy, if_neg (fun q => q hg), if_neg (fun q => q hg2), hc, if_neg (by rw [← h0]; exact c38), if_neg (by rw [← k0]; exact c46), if_neg (fun q => q (h0.symm.trans (Eq.trans c62 k0))), if_pos ⟨by rintro (q | q | q); exact r1.1 q; exact r1.2.1 q; exact r2.1 q, r1.2.2, r2.2.2⟩]
                    rw [e]
                    exact ev_iret rfl rfl rfl ⟨rfl, shC_put (W := 0) hD ko (fun c _ _ a b => x_up_ne b) (by rw [x_up_ne (by decide)]; exact k0) (by rw [x_up_ne (by decide)]; exact k1) (fun z hz => by rw [x_up_eq]; exact va_cpy_c hi ki (by have := r1.2.2; have := ho.2; omega) hz), fun c hc => x_up_ne (fun z => hc (by rw [z]; decide))⟩
                  · replace c88 := zi_n.mp c88
                    refine ev_blk 1 [] 93 ([some (.ref 0), some (.int ((0 : Int32))), some (.int (i)), some (.int ((0 : Int32))), some (.int (j)), some (.int (n)), some (.ref 49), some (.ref 49)], [.int ((-12 : Int32))], σ) rfl ?_ ?_
                    · trivial
                    have e : s_cpy D (nI 0) i (nI 0) j n = (-12, D) := by rw [s_cpy, if_neg (fun q => q hg), if_neg (fun q => q hg2), hc, if_neg (by rw [← h0]; exact c38), if_neg (by rw [← k0]; exact c46), if_neg (fun q => q (h0.symm.trans (Eq.trans c62 k0))), if_neg (rn_no (p := 0) (q := 0) (Or.inr (fun q => c88 (by rw [show σ 49 1 = _ from k1]; exact (rnC ko.2).mpr q))))]
                    rw [e]
                    exact ev_iret rfl rfl rfl ⟨rfl, hD, xFr.rf⟩
              · refine ev_blk 1 [] 67 ([some (.ref 0), some (.int ((0 : Int32))), some (.int (i)), some (.int ((0 : Int32))), some (.int (j)), some (.int (n)), some (.ref 49), some (.ref 49)], [.int ((-13 : Int32))], σ) rfl ?_ ?_
                · trivial
                have e : s_cpy D (nI 0) i (nI 0) j n = (-13, D) := by rw [s_cpy, if_neg (fun q => q hg), if_neg (fun q => q hg2), hc, if_neg (by rw [← h0]; exact c38), if_neg (by rw [← k0]; exact c46), if_pos (fun z => c62 (h0.trans (z.trans k0.symm)))]
                rw [e]
                exact ev_iret rfl rfl rfl ⟨rfl, hD, xFr.rf⟩
            · replace c46 := zi_1.mp c46
              refine ev_blk 1 [] 51 ([some (.ref 0), some (.int ((0 : Int32))), some (.int (i)), some (.int ((0 : Int32))), some (.int (j)), some (.int (n)), some (.ref 49), some (.ref 49)], [.int ((-11 : Int32))], σ) rfl ?_ ?_
              · trivial
              have e : s_cpy D (nI 0) i (nI 0) j n = (-11, D) := by rw [s_cpy, if_neg (fun q => q hg), if_neg (fun q => q hg2), hc, if_neg (by rw [← h0]; exact c38), if_pos (by rw [← k0]; exact c46)]
              rw [e]
              exact ev_iret rfl rfl rfl ⟨rfl, hD, xFr.rf⟩
        · exact absurd (by decide) c11
    · have hg : iN 4 (nI 1) := iN_nI (by decide) (by decide)
      have hg2 : iN 4 (nI 1) := iN_nI (by decide) (by decide)
      obtain ⟨ko, k0, k1, ki⟩ := hD 1 (by decide)
      have hc2 : (nI 1).toNatClampNeg = 1 := rfl
      show xEv _ _ _ 0 ([some (.ref 0), some (.int ((0 : Int32))), some (.int (i)), some (.int ((1 : Int32))), some (.int (j)), some (.int (n)), none, none], [], σ)
      refine ev_blk 1 [] 1 ([some (.ref 0), some (.int ((0 : Int32))), some (.int (i)), some (.int ((1 : Int32))), some (.int (j)), some (.int (n)), none, none], [.int ((0 : Int32))], σ) rfl ?_ ?_
      · trivial
      refine ev_callS M_X5_isSheet [.int ((0 : Int32))] [] rfl rfl ln_X5_229 k_X5_isSheet rfl rfl rfl (c_isSheet _ _) ?_
      refine pu_k ?_
      rw [zi_t (show ¬ ((0 : Int32)) < 0 ∧ ¬ (4 : Int32) ≤ ((0 : Int32)) by decide)]
      show xEv _ _ _ 4 ([some (.ref 0), some (.int ((0 : Int32))), some (.int (i)), some (.int ((1 : Int32))), some (.int (j)), some (.int (n)), none, none], [.int ((1 : Int32))], σ)
      refine ev_br 0 [] ((1 : Int32) = 0) 14 7 ([some (.ref 0), some (.int ((0 : Int32))), some (.int (i)), some (.int ((1 : Int32))), some (.int (j)), some (.int (n)), none, none], [], σ) rfl ?_ (fun c4 => ?_) (fun c4 => ?_)
      · trivial
      · exact absurd c4 (by decide)
      · refine ev_blk 1 [] 8 ([some (.ref 0), some (.int ((0 : Int32))), some (.int (i)), some (.int ((1 : Int32))), some (.int (j)), some (.int (n)), none, none], [.int ((1 : Int32))], σ) rfl ?_ ?_
        · trivial
        refine ev_callS M_X5_isSheet [.int ((1 : Int32))] [] rfl rfl ln_X5_229 k_X5_isSheet rfl rfl rfl (c_isSheet _ _) ?_
        refine pu_k ?_
        rw [zi_t (show ¬ ((1 : Int32)) < 0 ∧ ¬ (4 : Int32) ≤ ((1 : Int32)) by decide)]
        show xEv _ _ _ 11 ([some (.ref 0), some (.int ((0 : Int32))), some (.int (i)), some (.int ((1 : Int32))), some (.int (j)), some (.int (n)), none, none], [.int ((1 : Int32))], σ)
        refine ev_br 0 [] (¬ (1 : Int32) = 0) 17 14 ([some (.ref 0), some (.int ((0 : Int32))), some (.int (i)), some (.int ((1 : Int32))), some (.int (j)), some (.int (n)), none, none], [], σ) rfl ?_ (fun c11 => ?_) (fun c11 => ?_)
        · trivial
        · refine ev_blk 11 [vp_in ((0 : Int32)) 4, vp_in ((1 : Int32)) 4] 35 ([some (.ref 0), some (.int ((0 : Int32))), some (.int (i)), some (.int ((1 : Int32))), some (.int (j)), some (.int (n)), some (.ref 49), some (.ref 51)], [.ref 49], σ) rfl ?_ ?_
          · exact ⟨(vp_in_nI (n := 0) (by decide) (by decide)), (vp_in_nI (n := 1) (by decide) (by decide))⟩
          refine ev_callV M_X4_isMissing [] [] 49 rfl rfl ln_X5_232 k_X4_isMissing rfl rfl rfl rfl rfl rfl (c_isMissing0 _) ?_
          refine pu_k ?_
          show xEv _ _ _ 38 ([some (.ref 0), some (.int ((0 : Int32))), some (.int (i)), some (.int ((1 : Int32))), some (.int (j)), some (.int (n)), some (.ref 49), some (.ref 51)], [.int (zi (σ 49 0 = -1))], σ)
          refine ev_br 0 [] (¬ (zi (σ 49 0 = -1)) = 0) 49 41 ([some (.ref 0), some (.int ((0 : Int32))), some (.int (i)), some (.int ((1 : Int32))), some (.int (j)), some (.int (n)), some (.ref 49), some (.ref 51)], [], σ) rfl ?_ (fun c38 => ?_) (fun c38 => ?_)
          · trivial
          · replace c38 := zi_1.mp c38
            refine ev_blk 1 [] 51 ([some (.ref 0), some (.int ((0 : Int32))), some (.int (i)), some (.int ((1 : Int32))), some (.int (j)), some (.int (n)), some (.ref 49), some (.ref 51)], [.int ((-11 : Int32))], σ) rfl ?_ ?_
            · trivial
            have e : s_cpy D (nI 0) i (nI 1) j n = (-11, D) := by rw [s_cpy, if_neg (fun q => q hg), if_neg (fun q => q hg2), hc, hc2, if_pos (by rw [← h0]; exact c38)]
            rw [e]
            exact ev_iret rfl rfl rfl ⟨rfl, hD, xFr.rf⟩
          · replace c38 := zi_n.mp c38
            refine ev_blk 1 [] 43 ([some (.ref 0), some (.int ((0 : Int32))), some (.int (i)), some (.int ((1 : Int32))), some (.int (j)), some (.int (n)), some (.ref 49), some (.ref 51)], [.ref 51], σ) rfl ?_ ?_
            · trivial
            refine ev_callV M_X4_isMissing [] [] 51 rfl rfl ln_X5_232 k_X4_isMissing rfl rfl rfl rfl rfl rfl (c_isMissing1 _) ?_
            refine pu_k ?_
            show xEv _ _ _ 46 ([some (.ref 0), some (.int ((0 : Int32))), some (.int (i)), some (.int ((1 : Int32))), some (.int (j)), some (.int (n)), some (.ref 49), some (.ref 51)], [.int (zi (σ 51 0 = -1))], σ)
            refine ev_br 0 [] ((zi (σ 51 0 = -1)) = 0) 52 49 ([some (.ref 0), some (.int ((0 : Int32))), some (.int (i)), some (.int ((1 : Int32))), some (.int (j)), some (.int (n)), some (.ref 49), some (.ref 51)], [], σ) rfl ?_ (fun c46 => ?_) (fun c46 => ?_)
            · trivial
            · replace c46 := zi_0.mp c46
              refine ev_br 4 [] ((σ 49 0) = (σ 51 0)) 68 65 ([some (.ref 0), some (.int ((0 : Int32))), some (.int (i)), some (.int ((1 : Int32))), some (.int (j)), some (.int (n)), some (.ref 49), some (.ref 51)], [], σ) rfl ?_ (fun c62 => ?_) (fun c62 => ?_)
              · trivial
              · refine ev_blk 3 [] 73 ([some (.ref 0), some (.int ((0 : Int32))), some (.int (i)), some (.int ((1 : Int32))), some (.int (j)), some (.int (n)), some (.ref 49), some (.ref 51)], [.int (n), .int (i), .ref 49], σ) rfl ?_ ?_
                · trivial
                refine ev_callV M_X4_hasRun [.int (i), .int (n)] [] 49 rfl rfl ln_X5_266 k_X4_hasRun rfl rfl rfl rfl rfl rfl (c_hasRun0 _ _ _) ?_
                refine pu_k ?_
                show xEv _ _ _ 76 ([some (.ref 0), some (.int ((0 : Int32))), some (.int (i)), some (.int ((1 : Int32))), some (.int (j)), some (.int (n)), some (.ref 49), some (.ref 51)], [.int (zi (¬ i < 0 ∧ ¬ n < 0 ∧ ¬ σ 49 1 < i ∧ ¬ σ 49 1 - i < n))], σ)
                refine ev_br 0 [] ((zi (¬ i < 0 ∧ ¬ n < 0 ∧ ¬ σ 49 1 < i ∧ ¬ σ 49 1 - i < n)) = 0) 91 79 ([some (.ref 0), some (.int ((0 : Int32))), some (.int (i)), some (.int ((1 : Int32))), some (.int (j)), some (.int (n)), some (.ref 49), some (.ref 51)], [], σ) rfl ?_ (fun c76 => ?_) (fun c76 => ?_)
                · trivial
                · replace c76 := zi_0.mp c76
                  refine ev_blk 1 [] 93 ([some (.ref 0), some (.int ((0 : Int32))), some (.int (i)), some (.int ((1 : Int32))), some (.int (j)), some (.int (n)), some (.ref 49), some (.ref 51)], [.int ((-12 : Int32))], σ) rfl ?_ ?_
                  · trivial
                  have e : s_cpy D (nI 0) i (nI 1) j n = (-12, D) := by rw [s_cpy, if_neg (fun q => q hg), if_neg (fun q => q hg2), hc, hc2, if_neg (by rw [← h0]; exact c38), if_neg (by rw [← k0]; exact c46), if_neg (fun q => q (h0.symm.trans (Eq.trans c62 k0))), if_neg (rn_no (p := 0) (q := 0) (Or.inl (fun q => c76 (by rw [show σ 49 1 = _ from h1]; exact (rnC ho.2).mpr q))))]
                  rw [e]
                  exact ev_iret rfl rfl rfl ⟨rfl, hD, xFr.rf⟩
                · replace c76 := zi_1.mp c76
                  refine ev_blk 3 [] 85 ([some (.ref 0), some (.int ((0 : Int32))), some (.int (i)), some (.int ((1 : Int32))), some (.int (j)), some (.int (n)), some (.ref 49), some (.ref 51)], [.int (n), .int (j), .ref 51], σ) rfl ?_ ?_
                  · trivial
                  refine ev_callV M_X4_hasRun [.int (j), .int (n)] [] 51 rfl rfl ln_X5_266 k_X4_hasRun rfl rfl rfl rfl rfl rfl (c_hasRun1 _ _ _) ?_
                  refine pu_k ?_
                  show xEv _ _ _ 88 ([some (.ref 0), some (.int ((0 : Int32))), some (.int (i)), some (.int ((1 : Int32))), some (.int (j)), some (.int (n)), some (.ref 49), some (.ref 51)], [.int (zi (¬ j < 0 ∧ ¬ n < 0 ∧ ¬ σ 51 1 < j ∧ ¬ σ 51 1 - j < n))], σ)
                  refine ev_br 0 [] (¬ (zi (¬ j < 0 ∧ ¬ n < 0 ∧ ¬ σ 51 1 < j ∧ ¬ σ 51 1 - j < n)) = 0) 94 91 ([some (.ref 0), some (.int ((0 : Int32))), some (.int (i)), some (.int ((1 : Int32))), some (.int (j)), some (.int (n)), some (.ref 49), some (.ref 51)], [], σ) rfl ?_ (fun c88 => ?_) (fun c88 => ?_)
                  · trivial
                  · replace c88 := zi_1.mp c88
                    have r1 := rn_cl ho.2 ((rnC ho.2).mp (by rw [show σ 49 1 = _ from h1] at c76; exact c76))
                    have r2 := rn_cl ko.2 ((rnC ko.2).mp (by rw [show σ 51 1 = _ from k1] at c88; exact c88))
                    refine ev_blk 9 [¬ i < 0, ¬ j < 0, ¬ n < 0, i.toNatClampNeg + n.toNatClampNeg ≤ 40, j.toNatClampNeg + n.toNatClampNeg ≤ 40] 114 ([some (.ref 0), some (.int ((0 : Int32))), some (.int (i)), some (.int ((1 : Int32))), some (.int (j)), some (.int (n)), some (.ref 49), some (.ref 51)], [.int (n)], (x_up σ 52 (va_cpy (σ 50) (σ 52) i.toNatClampNeg j.toNatClampNeg n.toNatClampNeg))) rfl ?_ ?_
                    · exact ⟨r1.1, r2.1, r1.2.1, Nat.le_trans r1.2.2 ho.2, Nat.le_trans r2.2.2 ko.2⟩
                    have e : s_cpy D (nI 0) i (nI 1) j n = (n, updD D 1 ((D 1).1, (D 1).2.1, va_cpy (D 0).2.2 (D 1).2.2 i.toNatClampNeg j.toNatClampNeg n.toNatClampNeg)) := by rw [s_cpy, if_neg (fun q => q hg), if_neg (fun q => q hg2), hc, hc2, if_neg (by rw [← h0]; exact c38), if_neg (by rw [← k0]; exact c46), if_neg (fun q => q (h0.symm.trans (Eq.trans c62 k0))), if_pos ⟨by rintro (q | q | q); exact r1.1 q; exact r1.2.1 q; exact r2.1 q, r1.2.2, r2.2.2⟩]
                    rw [e]
                    exact ev_iret rfl rfl rfl ⟨rfl, shC_put (W := 1) hD ko (fun c _ _ a b => x_up_ne b) (by rw [x_up_ne (by decide)]; exact k0) (by rw [x_up_ne (by decide)]; exact k1) (fun z hz => by rw [x_up_eq]; exact va_cpy_c hi ki (by have := r1.2.2; have := ho.2; omega) hz), fun c hc => x_up_ne (fun z => hc (by rw [z]; decide))⟩
                  · replace c88 := zi_n.mp c88
                    refine ev_blk 1 [] 93 ([some (.ref 0), some (.int ((0 : Int32))), some (.int (i)), some (.int ((1 : Int32))), some (.int (j)), some (.int (n)), some (.ref 49), some (.ref 51)], [.int ((-12 : Int32))], σ) rfl ?_ ?_
                    · trivial
                    have e : s_cpy D (nI 0) i (nI 1) j n = (-12, D) := by rw [s_cpy, if_neg (fun q => q hg), if_neg (fun q => q hg2), hc, hc2, if_neg (by rw [← h0]; exact c38), if_neg (by rw [← k0]; exact c46), if_neg (fun q => q (h0.symm.trans (Eq.trans c62 k0))), if_neg (rn_no (p := 0) (q := 0) (Or.inr (fun q => c88 (by rw [show σ 51 1 = _ from k1]; exact (rnC ko.2).mpr q))))]
                    rw [e]
                    exact ev_iret rfl rfl rfl ⟨rfl, hD, xFr.rf⟩
              · refine ev_blk 1 [] 67 ([some (.ref 0), some (.int ((0 : Int32))), some (.int (i)), some (.int ((1 : Int32))), some (.int (j)), some (.int (n)), some (.ref 49), some (.ref 51)], [.int ((-13 : Int32))], σ) rfl ?_ ?_
                · trivial
                have e : s_cpy D (nI 0) i (nI 1) j n = (-13, D) := by rw [s_cpy, if_neg (fun q => q hg), if_neg (fun q => q hg2), hc, hc2, if_neg (by rw [← h0]; exact c38), if_neg (by rw [← k0]; exact c46), if_pos (fun z => c62 (h0.trans (z.trans k0.symm)))]
                rw [e]
                exact ev_iret rfl rfl rfl ⟨rfl, hD, xFr.rf⟩
            · replace c46 := zi_1.mp c46
              refine ev_blk 1 [] 51 ([some (.ref 0), some (.int ((0 : Int32))), some (.int (i)), some (.int ((1 : Int32))), some (.int (j)), some (.int (n)), some (.ref 49), some (.ref 51)], [.int ((-11 : Int32))], σ) rfl ?_ ?_
              · trivial
              have e : s_cpy D (nI 0) i (nI 1) j n = (-11, D) := by rw [s_cpy, if_neg (fun q => q hg), if_neg (fun q => q hg2), hc, hc2, if_neg (by rw [← h0]; exact c38), if_pos (by rw [← k0]; exact c46)]
              rw [e]
              exact ev_iret rfl rfl rfl ⟨rfl, hD, xFr.rf⟩
        · exact absurd (by decide) c11
    · have hg : iN 4 (nI 2) := iN_nI (by decide) (by decide)
      have hg2 : iN 4 (nI 2) := iN_nI (by decide) (by decide)
      obtain ⟨ko, k0, k1, ki⟩ := hD 2 (by decide)
      have hc2 : (nI 2).toNatClampNeg = 2 := rfl
      show xEv _ _ _ 0 ([some (.ref 0), some (.int ((0 : Int32))), some (.int (i)), some (.int ((2 : Int32))), some (.int (j)), some (.int (n)), none, none], [], σ)
      refine ev_blk 1 [] 1 ([some (.ref 0), some (.int ((0 : Int32))), some (.int (i)), some (.int ((2 : Int32))), some (.int (j)), some (.int (n)), none, none], [.int ((0 : Int32))], σ) rfl ?_ ?_
      · trivial
      refine ev_callS M_X5_isSheet [.int ((0 : Int32))] [] rfl rfl ln_X5_229 k_X5_isSheet rfl rfl rfl (c_isSheet _ _) ?_
      refine pu_k ?_
      rw [zi_t (show ¬ ((0 : Int32)) < 0 ∧ ¬ (4 : Int32) ≤ ((0 : Int32)) by decide)]
      show xEv _ _ _ 4 ([some (.ref 0), some (.int ((0 : Int32))), some (.int (i)), some (.int ((2 : Int32))), some (.int (j)), some (.int (n)), none, none], [.int ((1 : Int32))], σ)
      refine ev_br 0 [] ((1 : Int32) = 0) 14 7 ([some (.ref 0), some (.int ((0 : Int32))), some (.int (i)), some (.int ((2 : Int32))), some (.int (j)), some (.int (n)), none, none], [], σ) rfl ?_ (fun c4 => ?_) (fun c4 => ?_)
      · trivial
      · exact absurd c4 (by decide)
      · refine ev_blk 1 [] 8 ([some (.ref 0), some (.int ((0 : Int32))), some (.int (i)), some (.int ((2 : Int32))), some (.int (j)), some (.int (n)), none, none], [.int ((2 : Int32))], σ) rfl ?_ ?_
        · trivial
        refine ev_callS M_X5_isSheet [.int ((2 : Int32))] [] rfl rfl ln_X5_229 k_X5_isSheet rfl rfl rfl (c_isSheet _ _) ?_
        refine pu_k ?_
        rw [zi_t (show ¬ ((2 : Int32)) < 0 ∧ ¬ (4 : Int32) ≤ ((2 : Int32)) by decide)]
        show xEv _ _ _ 11 ([some (.ref 0), some (.int ((0 : Int32))), some (.int (i)), some (.int ((2 : Int32))), some (.int (j)), some (.int (n)), none, none], [.int ((1 : Int32))], σ)
        refine ev_br 0 [] (¬ (1 : Int32) = 0) 17 14 ([some (.ref 0), some (.int ((0 : Int32))), some (.int (i)), some (.int ((2 : Int32))), some (.int (j)), some (.int (n)), none, none], [], σ) rfl ?_ (fun c11 => ?_) (fun c11 => ?_)
        · trivial
        · refine ev_blk 11 [vp_in ((0 : Int32)) 4, vp_in ((2 : Int32)) 4] 35 ([some (.ref 0), some (.int ((0 : Int32))), some (.int (i)), some (.int ((2 : Int32))), some (.int (j)), some (.int (n)), some (.ref 49), some (.ref 53)], [.ref 49], σ) rfl ?_ ?_
          · exact ⟨(vp_in_nI (n := 0) (by decide) (by decide)), (vp_in_nI (n := 2) (by decide) (by decide))⟩
          refine ev_callV M_X4_isMissing [] [] 49 rfl rfl ln_X5_232 k_X4_isMissing rfl rfl rfl rfl rfl rfl (c_isMissing0 _) ?_
          refine pu_k ?_
          show xEv _ _ _ 38 ([some (.ref 0), some (.int ((0 : Int32))), some (.int (i)), some (.int ((2 : Int32))), some (.int (j)), some (.int (n)), some (.ref 49), some (.ref 53)], [.int (zi (σ 49 0 = -1))], σ)
          refine ev_br 0 [] (¬ (zi (σ 49 0 = -1)) = 0) 49 41 ([some (.ref 0), some (.int ((0 : Int32))), some (.int (i)), some (.int ((2 : Int32))), some (.int (j)), some (.int (n)), some (.ref 49), some (.ref 53)], [], σ) rfl ?_ (fun c38 => ?_) (fun c38 => ?_)
          · trivial
          · replace c38 := zi_1.mp c38
            refine ev_blk 1 [] 51 ([some (.ref 0), some (.int ((0 : Int32))), some (.int (i)), some (.int ((2 : Int32))), some (.int (j)), some (.int (n)), some (.ref 49), some (.ref 53)], [.int ((-11 : Int32))], σ) rfl ?_ ?_
            · trivial
            have e : s_cpy D (nI 0) i (nI 2) j n = (-11, D) := by rw [s_cpy, if_neg (fun q => q hg), if_neg (fun q => q hg2), hc, hc2, if_pos (by rw [← h0]; exact c38)]
            rw [e]
            exact ev_iret rfl rfl rfl ⟨rfl, hD, xFr.rf⟩
          · replace c38 := zi_n.mp c38
            refine ev_blk 1 [] 43 ([some (.ref 0), some (.int ((0 : Int32))), some (.int (i)), some (.int ((2 : Int32))), some (.int (j)), some (.int (n)), some (.ref 49), some (.ref 53)], [.ref 53], σ) rfl ?_ ?_
            · trivial
            refine ev_callV M_X4_isMissing [] [] 53 rfl rfl ln_X5_232 k_X4_isMissing rfl rfl rfl rfl rfl rfl (c_isMissing2 _) ?_
            refine pu_k ?_
            show xEv _ _ _ 46 ([some (.ref 0), some (.int ((0 : Int32))), some (.int (i)), some (.int ((2 : Int32))), some (.int (j)), some (.int (n)), some (.ref 49), some (.ref 53)], [.int (zi (σ 53 0 = -1))], σ)
            refine ev_br 0 [] ((zi (σ 53 0 = -1)) = 0) 52 49 ([some (.ref 0), some (.int ((0 : Int32))), some (.int (i)), some (.int ((2 : Int32))), some (.int (j)), some (.int (n)), some (.ref 49), some (.ref 53)], [], σ) rfl ?_ (fun c46 => ?_) (fun c46 => ?_)
            · trivial
            · replace c46 := zi_0.mp c46
              refine ev_br 4 [] ((σ 49 0) = (σ 53 0)) 68 65 ([some (.ref 0), some (.int ((0 : Int32))), some (.int (i)), some (.int ((2 : Int32))), some (.int (j)), some (.int (n)), some (.ref 49), some (.ref 53)], [], σ) rfl ?_ (fun c62 => ?_) (fun c62 => ?_)
              · trivial
              · refine ev_blk 3 [] 73 ([some (.ref 0), some (.int ((0 : Int32))), some (.int (i)), some (.int ((2 : Int32))), some (.int (j)), some (.int (n)), some (.ref 49), some (.ref 53)], [.int (n), .int (i), .ref 49], σ) rfl ?_ ?_
                · trivial
                refine ev_callV M_X4_hasRun [.int (i), .int (n)] [] 49 rfl rfl ln_X5_266 k_X4_hasRun rfl rfl rfl rfl rfl rfl (c_hasRun0 _ _ _) ?_
                refine pu_k ?_
                show xEv _ _ _ 76 ([some (.ref 0), some (.int ((0 : Int32))), some (.int (i)), some (.int ((2 : Int32))), some (.int (j)), some (.int (n)), some (.ref 49), some (.ref 53)], [.int (zi (¬ i < 0 ∧ ¬ n < 0 ∧ ¬ σ 49 1 < i ∧ ¬ σ 49 1 - i < n))], σ)
                refine ev_br 0 [] ((zi (¬ i < 0 ∧ ¬ n < 0 ∧ ¬ σ 49 1 < i ∧ ¬ σ 49 1 - i < n)) = 0) 91 79 ([some (.ref 0), some (.int ((0 : Int32))), some (.int (i)), some (.int ((2 : Int32))), some (.int (j)), some (.int (n)), some (.ref 49), some (.ref 53)], [], σ) rfl ?_ (fun c76 => ?_) (fun c76 => ?_)
                · trivial
                · replace c76 := zi_0.mp c76
                  refine ev_blk 1 [] 93 ([some (.ref 0), some (.int ((0 : Int32))), some (.int (i)), some (.int ((2 : Int32))), some (.int (j)), some (.int (n)), some (.ref 49), some (.ref 53)], [.int ((-12 : Int32))], σ) rfl ?_ ?_
                  · trivial
                  have e : s_cpy D (nI 0) i (nI 2) j n = (-12, D) := by rw [s_cpy, if_neg (fun q => q hg), if_neg (fun q => q hg2), hc, hc2, if_neg (by rw [← h0]; exact c38), if_neg (by rw [← k0]; exact c46), if_neg (fun q => q (h0.symm.trans (Eq.trans c62 k0))), if_neg (rn_no (p := 0) (q := 0) (Or.inl (fun q => c76 (by rw [show σ 49 1 = _ from h1]; exact (rnC ho.2).mpr q))))]
                  rw [e]
                  exact ev_iret rfl rfl rfl ⟨rfl, hD, xFr.rf⟩
                · replace c76 := zi_1.mp c76
                  refine ev_blk 3 [] 85 ([some (.ref 0), some (.int ((0 : Int32))), some (.int (i)), some (.int ((2 : Int32))), some (.int (j)), some (.int (n)), some (.ref 49), some (.ref 53)], [.int (n), .int (j), .ref 53], σ) rfl ?_ ?_
                  · trivial
                  refine ev_callV M_X4_hasRun [.int (j), .int (n)] [] 53 rfl rfl ln_X5_266 k_X4_hasRun rfl rfl rfl rfl rfl rfl (c_hasRun2 _ _ _) ?_
                  refine pu_k ?_
                  show xEv _ _ _ 88 ([some (.ref 0), some (.int ((0 : Int32))), some (.int (i)), some (.int ((2 : Int32))), some (.int (j)), some (.int (n)), some (.ref 49), some (.ref 53)], [.int (zi (¬ j < 0 ∧ ¬ n < 0 ∧ ¬ σ 53 1 < j ∧ ¬ σ 53 1 - j < n))], σ)
                  refine ev_br 0 [] (¬ (zi (¬ j < 0 ∧ ¬ n < 0 ∧ ¬ σ 53 1 < j ∧ ¬ σ 53 1 - j < n)) = 0) 94 91 ([some (.ref 0), some (.int ((0 : Int32))), some (.int (i)), some (.int ((2 : Int32))), some (.int (j)), some (.int (n)), some (.ref 49), some (.ref 53)], [], σ) rfl ?_ (fun c88 => ?_) (fun c88 => ?_)
                  · trivial
                  · replace c88 := zi_1.mp c88
                    have r1 := rn_cl ho.2 ((rnC ho.2).mp (by rw [show σ 49 1 = _ from h1] at c76; exact c76))
                    have r2 := rn_cl ko.2 ((rnC ko.2).mp (by rw [show σ 53 1 = _ from k1] at c88; exact c88))
                    refine ev_blk 9 [¬ i < 0, ¬ j < 0, ¬ n < 0, i.toNatClampNeg + n.toNatClampNeg ≤ 40, j.toNatClampNeg + n.toNatClampNeg ≤ 40] 114 ([some (.ref 0), some (.int ((0 : Int32))), some (.int (i)), some (.int ((2 : Int32))), some (.int (j)), some (.int (n)), some (.ref 49), some (.ref 53)], [.int (n)], (x_up σ 54 (va_cpy (σ 50) (σ 54) i.toNatClampNeg j.toNatClampNeg n.toNatClampNeg))) rfl ?_ ?_
                    · exact ⟨r1.1, r2.1, r1.2.1, Nat.le_trans r1.2.2 ho.2, Nat.le_trans r2.2.2 ko.2⟩
                    have e : s_cpy D (nI 0) i (nI 2) j n = (n, updD D 2 ((D 2).1, (D 2).2.1, va_cpy (D 0).2.2 (D 2).2.2 i.toNatClampNeg j.toNatClampNeg n.toNatClampNeg)) := by rw [s_cpy, if_neg (fun q => q hg), if_neg (fun q => q hg2), hc, hc2, if_neg (by rw [← h0]; exact c38), if_neg (by rw [← k0]; exact c46), if_neg (fun q => q (h0.symm.trans (Eq.trans c62 k0))), if_pos ⟨by rintro (q | q | q); exact r1.1 q; exact r1.2.1 q; exact r2.1 q, r1.2.2, r2.2.2⟩]
                    rw [e]
                    exact ev_iret rfl rfl rfl ⟨rfl, shC_put (W := 2) hD ko (fun c _ _ a b => x_up_ne b) (by rw [x_up_ne (by decide)]; exact k0) (by rw [x_up_ne (by decide)]; exact k1) (fun z hz => by rw [x_up_eq]; exact va_cpy_c hi ki (by have := r1.2.2; have := ho.2; omega) hz), fun c hc => x_up_ne (fun z => hc (by rw [z]; decide))⟩
                  · replace c88 := zi_n.mp c88
                    refine ev_blk 1 [] 93 ([some (.ref 0), some (.int ((0 : Int32))), some (.int (i)), some (.int ((2 : Int32))), some (.int (j)), some (.int (n)), some (.ref 49), some (.ref 53)], [.int ((-12 : Int32))], σ) rfl ?_ ?_
                    · trivial
                    have e : s_cpy D (nI 0) i (nI 2) j n = (-12, D) := by rw [s_cpy, if_neg (fun q => q hg), if_neg (fun q => q hg2), hc, hc2, if_neg (by rw [← h0]; exact c38), if_neg (by rw [← k0]; exact c46), if_neg (fun q => q (h0.symm.trans (Eq.trans c62 k0))), if_neg (rn_no (p := 0) (q := 0) (Or.inr (fun q => c88 (by rw [show σ 53 1 = _ from k1]; exact (rnC ko.2).mpr q))))]
                    rw [e]
                    exact ev_iret rfl rfl rfl ⟨rfl, hD, xFr.rf⟩
              · refine ev_blk 1 [] 67 ([some (.ref 0), some (.int ((0 : Int32))), some (.int (i)), some (.int ((2 : Int32))), some (.int (j)), some (.int (n)), some (.ref 49), some (.ref 53)], [.int ((-13 : Int32))], σ) rfl ?_ ?_
                · trivial
                have e : s_cpy D (nI 0) i (nI 2) j n = (-13, D) := by rw [s_cpy, if_neg (fun q => q hg), if_neg (fun q => q hg2), hc, hc2, if_neg (by rw [← h0]; exact c38), if_neg (by rw [← k0]; exact c46), if_pos (fun z => c62 (h0.trans (z.trans k0.symm)))]
                rw [e]
                exact ev_iret rfl rfl rfl ⟨rfl, hD, xFr.rf⟩
            · replace c46 := zi_1.mp c46
              refine ev_blk 1 [] 51 ([some (.ref 0), some (.int ((0 : Int32))), some (.int (i)), some (.int ((2 : Int32))), some (.int (j)), some (.int (n)), some (.ref 49), some (.ref 53)], [.int ((-11 : Int32))], σ) rfl ?_ ?_
              · trivial
              have e : s_cpy D (nI 0) i (nI 2) j n = (-11, D) := by rw [s_cpy, if_neg (fun q => q hg), if_neg (fun q => q hg2), hc, hc2, if_neg (by rw [← h0]; exact c38), if_pos (by rw [← k0]; exact c46)]
              rw [e]
              exact ev_iret rfl rfl rfl ⟨rfl, hD, xFr.rf⟩
        · exact absurd (by decide) c11
    · have hg : iN 4 (nI 3) := iN_nI (by decide) (by decide)
      have hg2 : iN 4 (nI 3) := iN_nI (by decide) (by decide)
      obtain ⟨ko, k0, k1, ki⟩ := hD 3 (by decide)
      have hc2 : (nI 3).toNatClampNeg = 3 := rfl
      show xEv _ _ _ 0 ([some (.ref 0), some (.int ((0 : Int32))), some (.int (i)), some (.int ((3 : Int32))), some (.int (j)), some (.int (n)), none, none], [], σ)
      refine ev_blk 1 [] 1 ([some (.ref 0), some (.int ((0 : Int32))), some (.int (i)), some (.int ((3 : Int32))), some (.int (j)), some (.int (n)), none, none], [.int ((0 : Int32))], σ) rfl ?_ ?_
      · trivial
      refine ev_callS M_X5_isSheet [.int ((0 : Int32))] [] rfl rfl ln_X5_229 k_X5_isSheet rfl rfl rfl (c_isSheet _ _) ?_
      refine pu_k ?_
      rw [zi_t (show ¬ ((0 : Int32)) < 0 ∧ ¬ (4 : Int32) ≤ ((0 : Int32)) by decide)]
      show xEv _ _ _ 4 ([some (.ref 0), some (.int ((0 : Int32))), some (.int (i)), some (.int ((3 : Int32))), some (.int (j)), some (.int (n)), none, none], [.int ((1 : Int32))], σ)
      refine ev_br 0 [] ((1 : Int32) = 0) 14 7 ([some (.ref 0), some (.int ((0 : Int32))), some (.int (i)), some (.int ((3 : Int32))), some (.int (j)), some (.int (n)), none, none], [], σ) rfl ?_ (fun c4 => ?_) (fun c4 => ?_)
      · trivial
      · exact absurd c4 (by decide)
      · refine ev_blk 1 [] 8 ([some (.ref 0), some (.int ((0 : Int32))), some (.int (i)), some (.int ((3 : Int32))), some (.int (j)), some (.int (n)), none, none], [.int ((3 : Int32))], σ) rfl ?_ ?_
        · trivial
        refine ev_callS M_X5_isSheet [.int ((3 : Int32))] [] rfl rfl ln_X5_229 k_X5_isSheet rfl rfl rfl (c_isSheet _ _) ?_
        refine pu_k ?_
        rw [zi_t (show ¬ ((3 : Int32)) < 0 ∧ ¬ (4 : Int32) ≤ ((3 : Int32)) by decide)]
        show xEv _ _ _ 11 ([some (.ref 0), some (.int ((0 : Int32))), some (.int (i)), some (.int ((3 : Int32))), some (.int (j)), some (.int (n)), none, none], [.int ((1 : Int32))], σ)
        refine ev_br 0 [] (¬ (1 : Int32) = 0) 17 14 ([some (.ref 0), some (.int ((0 : Int32))), some (.int (i)), some (.int ((3 : Int32))), some (.int (j)), some (.int (n)), none, none], [], σ) rfl ?_ (fun c11 => ?_) (fun c11 => ?_)
        · trivial
        · refine ev_blk 11 [vp_in ((0 : Int32)) 4, vp_in ((3 : Int32)) 4] 35 ([some (.ref 0), some (.int ((0 : Int32))), some (.int (i)), some (.int ((3 : Int32))), some (.int (j)), some (.int (n)), some (.ref 49), some (.ref 55)], [.ref 49], σ) rfl ?_ ?_
          · exact ⟨(vp_in_nI (n := 0) (by decide) (by decide)), (vp_in_nI (n := 3) (by decide) (by decide))⟩
          refine ev_callV M_X4_isMissing [] [] 49 rfl rfl ln_X5_232 k_X4_isMissing rfl rfl rfl rfl rfl rfl (c_isMissing0 _) ?_
          refine pu_k ?_
          show xEv _ _ _ 38 ([some (.ref 0), some (.int ((0 : Int32))), some (.int (i)), some (.int ((3 : Int32))), some (.int (j)), some (.int (n)), some (.ref 49), some (.ref 55)], [.int (zi (σ 49 0 = -1))], σ)
          refine ev_br 0 [] (¬ (zi (σ 49 0 = -1)) = 0) 49 41 ([some (.ref 0), some (.int ((0 : Int32))), some (.int (i)), some (.int ((3 : Int32))), some (.int (j)), some (.int (n)), some (.ref 49), some (.ref 55)], [], σ) rfl ?_ (fun c38 => ?_) (fun c38 => ?_)
          · trivial
          · replace c38 := zi_1.mp c38
            refine ev_blk 1 [] 51 ([some (.ref 0), some (.int ((0 : Int32))), some (.int (i)), some (.int ((3 : Int32))), some (.int (j)), some (.int (n)), some (.ref 49), some (.ref 55)], [.int ((-11 : Int32))], σ) rfl ?_ ?_
            · trivial
            have e : s_cpy D (nI 0) i (nI 3) j n = (-11, D) := by rw [s_cpy, if_neg (fun q => q hg), if_neg (fun q => q hg2), hc, hc2, if_pos (by rw [← h0]; exact c38)]
            rw [e]
            exact ev_iret rfl rfl rfl ⟨rfl, hD, xFr.rf⟩
          · replace c38 := zi_n.mp c38
            refine ev_blk 1 [] 43 ([some (.ref 0), some (.int ((0 : Int32))), some (.int (i)), some (.int ((3 : Int32))), some (.int (j)), some (.int (n)), some (.ref 49), some (.ref 55)], [.ref 55], σ) rfl ?_ ?_
            · trivial
            refine ev_callV M_X4_isMissing [] [] 55 rfl rfl ln_X5_232 k_X4_isMissing rfl rfl rfl rfl rfl rfl (c_isMissing3 _) ?_
            refine pu_k ?_
            show xEv _ _ _ 46 ([some (.ref 0), some (.int ((0 : Int32))), some (.int (i)), some (.int ((3 : Int32))), some (.int (j)), some (.int (n)), some (.ref 49), some (.ref 55)], [.int (zi (σ 55 0 = -1))], σ)
            refine ev_br 0 [] ((zi (σ 55 0 = -1)) = 0) 52 49 ([some (.ref 0), some (.int ((0 : Int32))), some (.int (i)), some (.int ((3 : Int32))), some (.int (j)), some (.int (n)), some (.ref 49), some (.ref 55)], [], σ) rfl ?_ (fun c46 => ?_) (fun c46 => ?_)
            · trivial
            · replace c46 := zi_0.mp c46
              refine ev_br 4 [] ((σ 49 0) = (σ 55 0)) 68 65 ([some (.ref 0), some (.int ((0 : Int32))), some (.int (i)), some (.int ((3 : Int32))), some (.int (j)), some (.int (n)), some (.ref 49), some (.ref 55)], [], σ) rfl ?_ (fun c62 => ?_) (fun c62 => ?_)
              · trivial
              · refine ev_blk 3 [] 73 ([some (.ref 0), some (.int ((0 : Int32))), some (.int (i)), some (.int ((3 : Int32))), some (.int (j)), some (.int (n)), some (.ref 49), some (.ref 55)], [.int (n), .int (i), .ref 49], σ) rfl ?_ ?_
                · trivial
                refine ev_callV M_X4_hasRun [.int (i), .int (n)] [] 49 rfl rfl ln_X5_266 k_X4_hasRun rfl rfl rfl rfl rfl rfl (c_hasRun0 _ _ _) ?_
                refine pu_k ?_
                show xEv _ _ _ 76 ([some (.ref 0), some (.int ((0 : Int32))), some (.int (i)), some (.int ((3 : Int32))), some (.int (j)), some (.int (n)), some (.ref 49), some (.ref 55)], [.int (zi (¬ i < 0 ∧ ¬ n < 0 ∧ ¬ σ 49 1 < i ∧ ¬ σ 49 1 - i < n))], σ)
                refine ev_br 0 [] ((zi (¬ i < 0 ∧ ¬ n < 0 ∧ ¬ σ 49 1 < i ∧ ¬ σ 49 1 - i < n)) = 0) 91 79 ([some (.ref 0), some (.int ((0 : Int32))), some (.int (i)), some (.int ((3 : Int32))), some (.int (j)), some (.int (n)), some (.ref 49), some (.ref 55)], [], σ) rfl ?_ (fun c76 => ?_) (fun c76 => ?_)
                · trivial
                · replace c76 := zi_0.mp c76
                  refine ev_blk 1 [] 93 ([some (.ref 0), some (.int ((0 : Int32))), some (.int (i)), some (.int ((3 : Int32))), some (.int (j)), some (.int (n)), some (.ref 49), some (.ref 55)], [.int ((-12 : Int32))], σ) rfl ?_ ?_
                  · trivial
                  have e : s_cpy D (nI 0) i (nI 3) j n = (-12, D) := by rw [s_cpy, if_neg (fun q => q hg), if_neg (fun q => q hg2), hc, hc2, if_neg (by rw [← h0]; exact c38), if_neg (by rw [← k0]; exact c46), if_neg (fun q => q (h0.symm.trans (Eq.trans c62 k0))), if_neg (rn_no (p := 0) (q := 0) (Or.inl (fun q => c76 (by rw [show σ 49 1 = _ from h1]; exact (rnC ho.2).mpr q))))]
                  rw [e]
                  exact ev_iret rfl rfl rfl ⟨rfl, hD, xFr.rf⟩
                · replace c76 := zi_1.mp c76
                  refine ev_blk 3 [] 85 ([some (.ref 0), some (.int ((0 : Int32))), some (.int (i)), some (.int ((3 : Int32))), some (.int (j)), some (.int (n)), some (.ref 49), some (.ref 55)], [.int (n), .int (j), .ref 55], σ) rfl ?_ ?_
                  · trivial
                  refine ev_callV M_X4_hasRun [.int (j), .int (n)] [] 55 rfl rfl ln_X5_266 k_X4_hasRun rfl rfl rfl rfl rfl rfl (c_hasRun3 _ _ _) ?_
                  refine pu_k ?_
                  show xEv _ _ _ 88 ([some (.ref 0), some (.int ((0 : Int32))), some (.int (i)), some (.int ((3 : Int32))), some (.int (j)), some (.int (n)), some (.ref 49), some (.ref 55)], [.int (zi (¬ j < 0 ∧ ¬ n < 0 ∧ ¬ σ 55 1 < j ∧ ¬ σ 55 1 - j < n))], σ)
                  refine ev_br 0 [] (¬ (zi (¬ j < 0 ∧ ¬ n < 0 ∧ ¬ σ 55 1 < j ∧ ¬ σ 55 1 - j < n)) = 0) 94 91 ([some (.ref 0), some (.int ((0 : Int32))), some (.int (i)), some (.int ((3 : Int32))), some (.int (j)), some (.int (n)), some (.ref 49), some (.ref 55)], [], σ) rfl ?_ (fun c88 => ?_) (fun c88 => ?_)
                  · trivial
                  · replace c88 := zi_1.mp c88
                    have r1 := rn_cl ho.2 ((rnC ho.2).mp (by rw [show σ 49 1 = _ from h1] at c76; exact c76))
                    have r2 := rn_cl ko.2 ((rnC ko.2).mp (by rw [show σ 55 1 = _ from k1] at c88; exact c88))
                    refine ev_blk 9 [¬ i < 0, ¬ j < 0, ¬ n < 0, i.toNatClampNeg + n.toNatClampNeg ≤ 40, j.toNatClampNeg + n.toNatClampNeg ≤ 40] 114 ([some (.ref 0), some (.int ((0 : Int32))), some (.int (i)), some (.int ((3 : Int32))), some (.int (j)), some (.int (n)), some (.ref 49), some (.ref 55)], [.int (n)], (x_up σ 56 (va_cpy (σ 50) (σ 56) i.toNatClampNeg j.toNatClampNeg n.toNatClampNeg))) rfl ?_ ?_
                    · exact ⟨r1.1, r2.1, r1.2.1, Nat.le_trans r1.2.2 ho.2, Nat.le_trans r2.2.2 ko.2⟩
                    have e : s_cpy D (nI 0) i (nI 3) j n = (n, updD D 3 ((D 3).1, (D 3).2.1, va_cpy (D 0).2.2 (D 3).2.2 i.toNatClampNeg j.toNatClampNeg n.toNatClampNeg)) := by rw [s_cpy, if_neg (fun q => q hg), if_neg (fun q => q hg2), hc, hc2, if_neg (by rw [← h0]; exact c38), if_neg (by rw [← k0]; exact c46), if_neg (fun q => q (h0.symm.trans (Eq.trans c62 k0))), if_pos ⟨by rintro (q | q | q); exact r1.1 q; exact r1.2.1 q; exact r2.1 q, r1.2.2, r2.2.2⟩]
                    rw [e]
                    exact ev_iret rfl rfl rfl ⟨rfl, shC_put (W := 3) hD ko (fun c _ _ a b => x_up_ne b) (by rw [x_up_ne (by decide)]; exact k0) (by rw [x_up_ne (by decide)]; exact k1) (fun z hz => by rw [x_up_eq]; exact va_cpy_c hi ki (by have := r1.2.2; have := ho.2; omega) hz), fun c hc => x_up_ne (fun z => hc (by rw [z]; decide))⟩
                  · replace c88 := zi_n.mp c88
                    refine ev_blk 1 [] 93 ([some (.ref 0), some (.int ((0 : Int32))), some (.int (i)), some (.int ((3 : Int32))), some (.int (j)), some (.int (n)), some (.ref 49), some (.ref 55)], [.int ((-12 : Int32))], σ) rfl ?_ ?_
                    · trivial
                    have e : s_cpy D (nI 0) i (nI 3) j n = (-12, D) := by rw [s_cpy, if_neg (fun q => q hg), if_neg (fun q => q hg2), hc, hc2, if_neg (by rw [← h0]; exact c38), if_neg (by rw [← k0]; exact c46), if_neg (fun q => q (h0.symm.trans (Eq.trans c62 k0))), if_neg (rn_no (p := 0) (q := 0) (Or.inr (fun q => c88 (by rw [show σ 55 1 = _ from k1]; exact (rnC ko.2).mpr q))))]
                    rw [e]
                    exact ev_iret rfl rfl rfl ⟨rfl, hD, xFr.rf⟩
              · refine ev_blk 1 [] 67 ([some (.ref 0), some (.int ((0 : Int32))), some (.int (i)), some (.int ((3 : Int32))), some (.int (j)), some (.int (n)), some (.ref 49), some (.ref 55)], [.int ((-13 : Int32))], σ) rfl ?_ ?_
                · trivial
                have e : s_cpy D (nI 0) i (nI 3) j n = (-13, D) := by rw [s_cpy, if_neg (fun q => q hg), if_neg (fun q => q hg2), hc, hc2, if_neg (by rw [← h0]; exact c38), if_neg (by rw [← k0]; exact c46), if_pos (fun z => c62 (h0.trans (z.trans k0.symm)))]
                rw [e]
                exact ev_iret rfl rfl rfl ⟨rfl, hD, xFr.rf⟩
            · replace c46 := zi_1.mp c46
              refine ev_blk 1 [] 51 ([some (.ref 0), some (.int ((0 : Int32))), some (.int (i)), some (.int ((3 : Int32))), some (.int (j)), some (.int (n)), some (.ref 49), some (.ref 55)], [.int ((-11 : Int32))], σ) rfl ?_ ?_
              · trivial
              have e : s_cpy D (nI 0) i (nI 3) j n = (-11, D) := by rw [s_cpy, if_neg (fun q => q hg), if_neg (fun q => q hg2), hc, hc2, if_neg (by rw [← h0]; exact c38), if_pos (by rw [← k0]; exact c46)]
              rw [e]
              exact ev_iret rfl rfl rfl ⟨rfl, hD, xFr.rf⟩
        · exact absurd (by decide) c11
set_option maxRecDepth 100000 in
theorem c_copy1 (σ : xSg) (D : Nat → shD) (hD : shC σ D) (i o j n : Int32) : xCtr M_X5_copy [.ref 0, .int ((1 : Int32)), .int (i), .int (o), .int (j), .int (n)] σ (shPQ scS σ (s_cpy D (nI 1) i o j n)) := by
  refine ctr_ev ok_X5_copy (by decide +kernel) rfl rfl rfl ?_
  show xEv (.inl 1) M_X5_copy _ 0 ([some (.ref 0), some (.int ((1 : Int32))), some (.int (i)), some (.int (o)), some (.int (j)), some (.int (n)), none, none], [], σ)
  have hg : iN 4 (nI 1) := iN_nI (by decide) (by decide)
  obtain ⟨ho, h0, h1, hi⟩ := hD 1 (by decide)
  have hc : (nI 1).toNatClampNeg = 1 := rfl
  rcases pk_ix o (n := 4) (by decide) with hb | hb | ⟨W, hW, rfl⟩
  · have hbad : ¬ iN 4 o := fun q => q.1 hb
    refine ev_blk 1 [] 1 ([some (.ref 0), some (.int ((1 : Int32))), some (.int (i)), some (.int (o)), some (.int (j)), some (.int (n)), none, none], [.int ((1 : Int32))], σ) rfl ?_ ?_
    · trivial
    refine ev_callS M_X5_isSheet [.int ((1 : Int32))] [] rfl rfl ln_X5_229 k_X5_isSheet rfl rfl rfl (c_isSheet _ _) ?_
    refine pu_k ?_
    rw [zi_t (show ¬ ((1 : Int32)) < 0 ∧ ¬ (4 : Int32) ≤ ((1 : Int32)) by decide)]
    show xEv _ _ _ 4 ([some (.ref 0), some (.int ((1 : Int32))), some (.int (i)), some (.int (o)), some (.int (j)), some (.int (n)), none, none], [.int ((1 : Int32))], σ)
    refine ev_br 0 [] ((1 : Int32) = 0) 14 7 ([some (.ref 0), some (.int ((1 : Int32))), some (.int (i)), some (.int (o)), some (.int (j)), some (.int (n)), none, none], [], σ) rfl ?_ (fun c4 => ?_) (fun c4 => ?_)
    · trivial
    · exact absurd c4 (by decide)
    · refine ev_blk 1 [] 8 ([some (.ref 0), some (.int ((1 : Int32))), some (.int (i)), some (.int (o)), some (.int (j)), some (.int (n)), none, none], [.int (o)], σ) rfl ?_ ?_
      · trivial
      refine ev_callS M_X5_isSheet [.int (o)] [] rfl rfl ln_X5_229 k_X5_isSheet rfl rfl rfl (c_isSheet _ _) ?_
      refine pu_k ?_
      show xEv _ _ _ 11 ([some (.ref 0), some (.int ((1 : Int32))), some (.int (i)), some (.int (o)), some (.int (j)), some (.int (n)), none, none], [.int (zi (¬ o < 0 ∧ ¬ (4 : Int32) ≤ (o)))], σ)
      refine ev_br 0 [] (¬ (zi (¬ o < 0 ∧ ¬ (4 : Int32) ≤ (o))) = 0) 17 14 ([some (.ref 0), some (.int ((1 : Int32))), some (.int (i)), some (.int (o)), some (.int (j)), some (.int (n)), none, none], [], σ) rfl ?_ (fun c11 => ?_) (fun c11 => ?_)
      · trivial
      · exact absurd (zi_1.mp c11) hbad
      · replace c11 := zi_n.mp c11
        refine ev_blk 1 [] 16 ([some (.ref 0), some (.int ((1 : Int32))), some (.int (i)), some (.int (o)), some (.int (j)), some (.int (n)), none, none], [.int ((-2 : Int32))], σ) rfl ?_ ?_
        · trivial
        have e : s_cpy D (nI 1) i o j n = (-2, D) := by rw [s_cpy, if_neg (fun q => q hg), if_pos hbad]
        rw [e]
        exact ev_iret rfl rfl rfl ⟨rfl, hD, xFr.rf⟩
  · have hbad : ¬ iN 4 o := fun q => q.2 hb
    refine ev_blk 1 [] 1 ([some (.ref 0), some (.int ((1 : Int32))), some (.int (i)), some (.int (o)), some (.int (j)), some (.int (n)), none, none], [.int ((1 : Int32))], σ) rfl ?_ ?_
    · trivial
    refine ev_callS M_X5_isSheet [.int ((1 : Int32))] [] rfl rfl ln_X5_229 k_X5_isSheet rfl rfl rfl (c_isSheet _ _) ?_
    refine pu_k ?_
    rw [zi_t (show ¬ ((1 : Int32)) < 0 ∧ ¬ (4 : Int32) ≤ ((1 : Int32)) by decide)]
    show xEv _ _ _ 4 ([some (.ref 0), some (.int ((1 : Int32))), some (.int (i)), some (.int (o)), some (.int (j)), some (.int (n)), none, none], [.int ((1 : Int32))], σ)
    refine ev_br 0 [] ((1 : Int32) = 0) 14 7 ([some (.ref 0), some (.int ((1 : Int32))), some (.int (i)), some (.int (o)), some (.int (j)), some (.int (n)), none, none], [], σ) rfl ?_ (fun c4 => ?_) (fun c4 => ?_)
    · trivial
    · exact absurd c4 (by decide)
    · refine ev_blk 1 [] 8 ([some (.ref 0), some (.int ((1 : Int32))), some (.int (i)), some (.int (o)), some (.int (j)), some (.int (n)), none, none], [.int (o)], σ) rfl ?_ ?_
      · trivial
      refine ev_callS M_X5_isSheet [.int (o)] [] rfl rfl ln_X5_229 k_X5_isSheet rfl rfl rfl (c_isSheet _ _) ?_
      refine pu_k ?_
      show xEv _ _ _ 11 ([some (.ref 0), some (.int ((1 : Int32))), some (.int (i)), some (.int (o)), some (.int (j)), some (.int (n)), none, none], [.int (zi (¬ o < 0 ∧ ¬ (4 : Int32) ≤ (o)))], σ)
      refine ev_br 0 [] (¬ (zi (¬ o < 0 ∧ ¬ (4 : Int32) ≤ (o))) = 0) 17 14 ([some (.ref 0), some (.int ((1 : Int32))), some (.int (i)), some (.int (o)), some (.int (j)), some (.int (n)), none, none], [], σ) rfl ?_ (fun c11 => ?_) (fun c11 => ?_)
      · trivial
      · exact absurd (zi_1.mp c11) hbad
      · replace c11 := zi_n.mp c11
        refine ev_blk 1 [] 16 ([some (.ref 0), some (.int ((1 : Int32))), some (.int (i)), some (.int (o)), some (.int (j)), some (.int (n)), none, none], [.int ((-2 : Int32))], σ) rfl ?_ ?_
        · trivial
        have e : s_cpy D (nI 1) i o j n = (-2, D) := by rw [s_cpy, if_neg (fun q => q hg), if_pos hbad]
        rw [e]
        exact ev_iret rfl rfl rfl ⟨rfl, hD, xFr.rf⟩
  · rcases (show W = 0 ∨ W = 1 ∨ W = 2 ∨ W = 3 by omega) with rfl | rfl | rfl | rfl
    · have hg : iN 4 (nI 0) := iN_nI (by decide) (by decide)
      have hg2 : iN 4 (nI 0) := iN_nI (by decide) (by decide)
      obtain ⟨ko, k0, k1, ki⟩ := hD 0 (by decide)
      have hc2 : (nI 0).toNatClampNeg = 0 := rfl
      show xEv _ _ _ 0 ([some (.ref 0), some (.int ((1 : Int32))), some (.int (i)), some (.int ((0 : Int32))), some (.int (j)), some (.int (n)), none, none], [], σ)
      refine ev_blk 1 [] 1 ([some (.ref 0), some (.int ((1 : Int32))), some (.int (i)), some (.int ((0 : Int32))), some (.int (j)), some (.int (n)), none, none], [.int ((1 : Int32))], σ) rfl ?_ ?_
      · trivial
      refine ev_callS M_X5_isSheet [.int ((1 : Int32))] [] rfl rfl ln_X5_229 k_X5_isSheet rfl rfl rfl (c_isSheet _ _) ?_
      refine pu_k ?_
      rw [zi_t (show ¬ ((1 : Int32)) < 0 ∧ ¬ (4 : Int32) ≤ ((1 : Int32)) by decide)]
      show xEv _ _ _ 4 ([some (.ref 0), some (.int ((1 : Int32))), some (.int (i)), some (.int ((0 : Int32))), some (.int (j)), some (.int (n)), none, none], [.int ((1 : Int32))], σ)
      refine ev_br 0 [] ((1 : Int32) = 0) 14 7 ([some (.ref 0), some (.int ((1 : Int32))), some (.int (i)), some (.int ((0 : Int32))), some (.int (j)), some (.int (n)), none, none], [], σ) rfl ?_ (fun c4 => ?_) (fun c4 => ?_)
      · trivial
      · exact absurd c4 (by decide)
      · refine ev_blk 1 [] 8 ([some (.ref 0), some (.int ((1 : Int32))), some (.int (i)), some (.int ((0 : Int32))), some (.int (j)), some (.int (n)), none, none], [.int ((0 : Int32))], σ) rfl ?_ ?_
        · trivial
        refine ev_callS M_X5_isSheet [.int ((0 : Int32))] [] rfl rfl ln_X5_229 k_X5_isSheet rfl rfl rfl (c_isSheet _ _) ?_
        refine pu_k ?_
        rw [zi_t (show ¬ ((0 : Int32)) < 0 ∧ ¬ (4 : Int32) ≤ ((0 : Int32)) by decide)]
        show xEv _ _ _ 11 ([some (.ref 0), some (.int ((1 : Int32))), some (.int (i)), some (.int ((0 : Int32))), some (.int (j)), some (.int (n)), none, none], [.int ((1 : Int32))], σ)
        refine ev_br 0 [] (¬ (1 : Int32) = 0) 17 14 ([some (.ref 0), some (.int ((1 : Int32))), some (.int (i)), some (.int ((0 : Int32))), some (.int (j)), some (.int (n)), none, none], [], σ) rfl ?_ (fun c11 => ?_) (fun c11 => ?_)
        · trivial
        · refine ev_blk 11 [vp_in ((1 : Int32)) 4, vp_in ((0 : Int32)) 4] 35 ([some (.ref 0), some (.int ((1 : Int32))), some (.int (i)), some (.int ((0 : Int32))), some (.int (j)), some (.int (n)), some (.ref 51), some (.ref 49)], [.ref 51], σ) rfl ?_ ?_
          · exact ⟨(vp_in_nI (n := 1) (by decide) (by decide)), (vp_in_nI (n := 0) (by decide) (by decide))⟩
          refine ev_callV M_X4_isMissing [] [] 51 rfl rfl ln_X5_232 k_X4_isMissing rfl rfl rfl rfl rfl rfl (c_isMissing1 _) ?_
          refine pu_k ?_
          show xEv _ _ _ 38 ([some (.ref 0), some (.int ((1 : Int32))), some (.int (i)), some (.int ((0 : Int32))), some (.int (j)), some (.int (n)), some (.ref 51), some (.ref 49)], [.int (zi (σ 51 0 = -1))], σ)
          refine ev_br 0 [] (¬ (zi (σ 51 0 = -1)) = 0) 49 41 ([some (.ref 0), some (.int ((1 : Int32))), some (.int (i)), some (.int ((0 : Int32))), some (.int (j)), some (.int (n)), some (.ref 51), some (.ref 49)], [], σ) rfl ?_ (fun c38 => ?_) (fun c38 => ?_)
          · trivial
          · replace c38 := zi_1.mp c38
            refine ev_blk 1 [] 51 ([some (.ref 0), some (.int ((1 : Int32))), some (.int (i)), some (.int ((0 : Int32))), some (.int (j)), some (.int (n)), some (.ref 51), some (.ref 49)], [.int ((-11 : Int32))], σ) rfl ?_ ?_
            · trivial
            have e : s_cpy D (nI 1) i (nI 0) j n = (-11, D) := by rw [s_cpy, if_neg (fun q => q hg), if_neg (fun q => q hg2), hc, hc2, if_pos (by rw [← h0]; exact c38)]
            rw [e]
            exact ev_iret rfl rfl rfl ⟨rfl, hD, xFr.rf⟩
          · replace c38 := zi_n.mp c38
            refine ev_blk 1 [] 43 ([some (.ref 0), some (.int ((1 : Int32))), some (.int (i)), some (.int ((0 : Int32))), some (.int (j)), some (.int (n)), some (.ref 51), some (.ref 49)], [.ref 49], σ) rfl ?_ ?_
            · trivial
            refine ev_callV M_X4_isMissing [] [] 49 rfl rfl ln_X5_232 k_X4_isMissing rfl rfl rfl rfl rfl rfl (c_isMissing0 _) ?_
            refine pu_k ?_
            show xEv _ _ _ 46 ([some (.ref 0), some (.int ((1 : Int32))), some (.int (i)), some (.int ((0 : Int32))), some (.int (j)), some (.int (n)), some (.ref 51), some (.ref 49)], [.int (zi (σ 49 0 = -1))], σ)
            refine ev_br 0 [] ((zi (σ 49 0 = -1)) = 0) 52 49 ([some (.ref 0), some (.int ((1 : Int32))), some (.int (i)), some (.int ((0 : Int32))), some (.int (j)), some (.int (n)), some (.ref 51), some (.ref 49)], [], σ) rfl ?_ (fun c46 => ?_) (fun c46 => ?_)
            · trivial
            · replace c46 := zi_0.mp c46
              refine ev_br 4 [] ((σ 51 0) = (σ 49 0)) 68 65 ([some (.ref 0), some (.int ((1 : Int32))), some (.int (i)), some (.int ((0 : Int32))), some (.int (j)), some (.int (n)), some (.ref 51), some (.ref 49)], [], σ) rfl ?_ (fun c62 => ?_) (fun c62 => ?_)
              · trivial
              · refine ev_blk 3 [] 73 ([some (.ref 0), some (.int ((1 : Int32))), some (.int (i)), some (.int ((0 : Int32))), some (.int (j)), some (.int (n)), some (.ref 51), some (.ref 49)], [.int (n), .int (i), .ref 51], σ) rfl ?_ ?_
                · trivial
                refine ev_callV M_X4_hasRun [.int (i), .int (n)] [] 51 rfl rfl ln_X5_266 k_X4_hasRun rfl rfl rfl rfl rfl rfl (c_hasRun1 _ _ _) ?_
                refine pu_k ?_
                show xEv _ _ _ 76 ([some (.ref 0), some (.int ((1 : Int32))), some (.int (i)), some (.int ((0 : Int32))), some (.int (j)), some (.int (n)), some (.ref 51), some (.ref 49)], [.int (zi (¬ i < 0 ∧ ¬ n < 0 ∧ ¬ σ 51 1 < i ∧ ¬ σ 51 1 - i < n))], σ)
                refine ev_br 0 [] ((zi (¬ i < 0 ∧ ¬ n < 0 ∧ ¬ σ 51 1 < i ∧ ¬ σ 51 1 - i < n)) = 0) 91 79 ([some (.ref 0), some (.int ((1 : Int32))), some (.int (i)), some (.int ((0 : Int32))), some (.int (j)), some (.int (n)), some (.ref 51), some (.ref 49)], [], σ) rfl ?_ (fun c76 => ?_) (fun c76 => ?_)
                · trivial
                · replace c76 := zi_0.mp c76
                  refine ev_blk 1 [] 93 ([some (.ref 0), some (.int ((1 : Int32))), some (.int (i)), some (.int ((0 : Int32))), some (.int (j)), some (.int (n)), some (.ref 51), some (.ref 49)], [.int ((-12 : Int32))], σ) rfl ?_ ?_
                  · trivial
                  have e : s_cpy D (nI 1) i (nI 0) j n = (-12, D) := by rw [s_cpy, if_neg (fun q => q hg), if_neg (fun q => q hg2), hc, hc2, if_neg (by rw [← h0]; exact c38), if_neg (by rw [← k0]; exact c46), if_neg (fun q => q (h0.symm.trans (Eq.trans c62 k0))), if_neg (rn_no (p := 0) (q := 0) (Or.inl (fun q => c76 (by rw [show σ 51 1 = _ from h1]; exact (rnC ho.2).mpr q))))]
                  rw [e]
                  exact ev_iret rfl rfl rfl ⟨rfl, hD, xFr.rf⟩
                · replace c76 := zi_1.mp c76
                  refine ev_blk 3 [] 85 ([some (.ref 0), some (.int ((1 : Int32))), some (.int (i)), some (.int ((0 : Int32))), some (.int (j)), some (.int (n)), some (.ref 51), some (.ref 49)], [.int (n), .int (j), .ref 49], σ) rfl ?_ ?_
                  · trivial
                  refine ev_callV M_X4_hasRun [.int (j), .int (n)] [] 49 rfl rfl ln_X5_266 k_X4_hasRun rfl rfl rfl rfl rfl rfl (c_hasRun0 _ _ _) ?_
                  refine pu_k ?_
                  show xEv _ _ _ 88 ([some (.ref 0), some (.int ((1 : Int32))), some (.int (i)), some (.int ((0 : Int32))), some (.int (j)), some (.int (n)), some (.ref 51), some (.ref 49)], [.int (zi (¬ j < 0 ∧ ¬ n < 0 ∧ ¬ σ 49 1 < j ∧ ¬ σ 49 1 - j < n))], σ)
                  refine ev_br 0 [] (¬ (zi (¬ j < 0 ∧ ¬ n < 0 ∧ ¬ σ 49 1 < j ∧ ¬ σ 49 1 - j < n)) = 0) 94 91 ([some (.ref 0), some (.int ((1 : Int32))), some (.int (i)), some (.int ((0 : Int32))), some (.int (j)), some (.int (n)), some (.ref 51), some (.ref 49)], [], σ) rfl ?_ (fun c88 => ?_) (fun c88 => ?_)
                  · trivial
                  · replace c88 := zi_1.mp c88
                    have r1 := rn_cl ho.2 ((rnC ho.2).mp (by rw [show σ 51 1 = _ from h1] at c76; exact c76))
                    have r2 := rn_cl ko.2 ((rnC ko.2).mp (by rw [show σ 49 1 = _ from k1] at c88; exact c88))
                    refine ev_blk 9 [¬ i < 0, ¬ j < 0, ¬ n < 0, i.toNatClampNeg + n.toNatClampNeg ≤ 40, j.toNatClampNeg + n.toNatClampNeg ≤ 40] 114 ([some (.ref 0), some (.int ((1 : Int32))), some (.int (i)), some (.int ((0 : Int32))), some (.int (j)), some (.int (n)), some (.ref 51), some (.ref 49)], [.int (n)], (x_up σ 50 (va_cpy (σ 52) (σ 50) i.toNatClampNeg j.toNatClampNeg n.toNatClampNeg))) rfl ?_ ?_
                    · exact ⟨r1.1, r2.1, r1.2.1, Nat.le_trans r1.2.2 ho.2, Nat.le_trans r2.2.2 ko.2⟩
                    have e : s_cpy D (nI 1) i (nI 0) j n = (n, updD D 0 ((D 0).1, (D 0).2.1, va_cpy (D 1).2.2 (D 0).2.2 i.toNatClampNeg j.toNatClampNeg n.toNatClampNeg)) := by rw [s_cpy, if_neg (fun q => q hg), if_neg (fun q => q hg2), hc, hc2, if_neg (by rw [← h0]; exact c38), if_neg (by rw [← k0]; exact c46), if_neg (fun q => q (h0.symm.trans (Eq.trans c62 k0))), if_pos ⟨by rintro (q | q | q); exact r1.1 q; exact r1.2.1 q; exact r2.1 q, r1.2.2, r2.2.2⟩]
                    rw [e]
                    exact ev_iret rfl rfl rfl ⟨rfl, shC_put (W := 0) hD ko (fun c _ _ a b => x_up_ne b) (by rw [x_up_ne (by decide)]; exact k0) (by rw [x_up_ne (by decide)]; exact k1) (fun z hz => by rw [x_up_eq]; exact va_cpy_c hi ki (by have := r1.2.2; have := ho.2; omega) hz), fun c hc => x_up_ne (fun z => hc (by rw [z]; decide))⟩
                  · replace c88 := zi_n.mp c88
                    refine ev_blk 1 [] 93 ([some (.ref 0), some (.int ((1 : Int32))), some (.int (i)), some (.int ((0 : Int32))), some (.int (j)), some (.int (n)), some (.ref 51), some (.ref 49)], [.int ((-12 : Int32))], σ) rfl ?_ ?_
                    · trivial
                    have e : s_cpy D (nI 1) i (nI 0) j n = (-12, D) := by rw [s_cpy, if_neg (fun q => q hg), if_neg (fun q => q hg2), hc, hc2, if_neg (by rw [← h0]; exact c38), if_neg (by rw [← k0]; exact c46), if_neg (fun q => q (h0.symm.trans (Eq.trans c62 k0))), if_neg (rn_no (p := 0) (q := 0) (Or.inr (fun q => c88 (by rw [show σ 49 1 = _ from k1]; exact (rnC ko.2).mpr q))))]
                    rw [e]
                    exact ev_iret rfl rfl rfl ⟨rfl, hD, xFr.rf⟩
              · refine ev_blk 1 [] 67 ([some (.ref 0), some (.int ((1 : Int32))), some (.int (i)), some (.int ((0 : Int32))), some (.int (j)), some (.int (n)), some (.ref 51), some (.ref 49)], [.int ((-13 : Int32))], σ) rfl ?_ ?_
                · trivial
                have e : s_cpy D (nI 1) i (nI 0) j n = (-13, D) := by rw [s_cpy, if_neg (fun q => q hg), if_neg (fun q => q hg2), hc, hc2, if_neg (by rw [← h0]; exact c38), if_neg (by rw [← k0]; exact c46), if_pos (fun z => c62 (h0.trans (z.trans k0.symm)))]
                rw [e]
                exact ev_iret rfl rfl rfl ⟨rfl, hD, xFr.rf⟩
            · replace c46 := zi_1.mp c46
              refine ev_blk 1 [] 51 ([some (.ref 0), some (.int ((1 : Int32))), some (.int (i)), some (.int ((0 : Int32))), some (.int (j)), some (.int (n)), some (.ref 51), some (.ref 49)], [.int ((-11 : Int32))], σ) rfl ?_ ?_
              · trivial
              have e : s_cpy D (nI 1) i (nI 0) j n = (-11, D) := by rw [s_cpy, if_neg (fun q => q hg), if_neg (fun q => q hg2), hc, hc2, if_neg (by rw [← h0]; exact c38), if_pos (by rw [← k0]; exact c46)]
              rw [e]
              exact ev_iret rfl rfl rfl ⟨rfl, hD, xFr.rf⟩
        · exact absurd (by decide) c11
    · have hg : iN 4 (nI 1) := iN_nI (by decide) (by decide)
      have hg2 : iN 4 (nI 1) := iN_nI (by decide) (by decide)
      obtain ⟨ko, k0, k1, ki⟩ := hD 1 (by decide)
      have hc2 : (nI 1).toNatClampNeg = 1 := rfl
      show xEv _ _ _ 0 ([some (.ref 0), some (.int ((1 : Int32))), some (.int (i)), some (.int ((1 : Int32))), some (.int (j)), some (.int (n)), none, none], [], σ)
      refine ev_blk 1 [] 1 ([some (.ref 0), some (.int ((1 : Int32))), some (.int (i)), some (.int ((1 : Int32))), some (.int (j)), some (.int (n)), none, none], [.int ((1 : Int32))], σ) rfl ?_ ?_
      · trivial
      refine ev_callS M_X5_isSheet [.int ((1 : Int32))] [] rfl rfl ln_X5_229 k_X5_isSheet rfl rfl rfl (c_isSheet _ _) ?_
      refine pu_k ?_
      rw [zi_t (show ¬ ((1 : Int32)) < 0 ∧ ¬ (4 : Int32) ≤ ((1 : Int32)) by decide)]
      show xEv _ _ _ 4 ([some (.ref 0), some (.int ((1 : Int32))), some (.int (i)), some (.int ((1 : Int32))), some (.int (j)), some (.int (n)), none, none], [.int ((1 : Int32))], σ)
      refine ev_br 0 [] ((1 : Int32) = 0) 14 7 ([some (.ref 0), some (.int ((1 : Int32))), some (.int (i)), some (.int ((1 : Int32))), some (.int (j)), some (.int (n)), none, none], [], σ) rfl ?_ (fun c4 => ?_) (fun c4 => ?_)
      · trivial
      · exact absurd c4 (by decide)
      · refine ev_blk 1 [] 8 ([some (.ref 0), some (.int ((1 : Int32))), some (.int (i)), some (.int ((1 : Int32))), some (.int (j)), some (.int (n)), none, none], [.int ((1 : Int32))], σ) rfl ?_ ?_
        · trivial
        refine ev_callS M_X5_isSheet [.int ((1 : Int32))] [] rfl rfl ln_X5_229 k_X5_isSheet rfl rfl rfl (c_isSheet _ _) ?_
        refine pu_k ?_
        rw [zi_t (show ¬ ((1 : Int32)) < 0 ∧ ¬ (4 : Int32) ≤ ((1 : Int32)) by decide)]
        show xEv _ _ _ 11 ([some (.ref 0), some (.int ((1 : Int32))), some (.int (i)), some (.int ((1 : Int32))), some (.int (j)), some (.int (n)), none, none], [.int ((1 : Int32))], σ)
        refine ev_br 0 [] (¬ (1 : Int32) = 0) 17 14 ([some (.ref 0), some (.int ((1 : Int32))), some (.int (i)), some (.int ((1 : Int32))), some (.int (j)), some (.int (n)), none, none], [], σ) rfl ?_ (fun c11 => ?_) (fun c11 => ?_)
        · trivial
        · refine ev_blk 11 [vp_in ((1 : Int32)) 4, vp_in ((1 : Int32)) 4] 35 ([some (.ref 0), some (.int ((1 : Int32))), some (.int (i)), some (.int ((1 : Int32))), some (.int (j)), some (.int (n)), some (.ref 51), some (.ref 51)], [.ref 51], σ) rfl ?_ ?_
          · exact ⟨(vp_in_nI (n := 1) (by decide) (by decide)), (vp_in_nI (n := 1) (by decide) (by decide))⟩
          refine ev_callV M_X4_isMissing [] [] 51 rfl rfl ln_X5_232 k_X4_isMissing rfl rfl rfl rfl rfl rfl (c_isMissing1 _) ?_
          refine pu_k ?_
          show xEv _ _ _ 38 ([some (.ref 0), some (.int ((1 : Int32))), some (.int (i)), some (.int ((1 : Int32))), some (.int (j)), some (.int (n)), some (.ref 51), some (.ref 51)], [.int (zi (σ 51 0 = -1))], σ)
          refine ev_br 0 [] (¬ (zi (σ 51 0 = -1)) = 0) 49 41 ([some (.ref 0), some (.int ((1 : Int32))), some (.int (i)), some (.int ((1 : Int32))), some (.int (j)), some (.int (n)), some (.ref 51), some (.ref 51)], [], σ) rfl ?_ (fun c38 => ?_) (fun c38 => ?_)
          · trivial
          · replace c38 := zi_1.mp c38
            refine ev_blk 1 [] 51 ([some (.ref 0), some (.int ((1 : Int32))), some (.int (i)), some (.int ((1 : Int32))), some (.int (j)), some (.int (n)), some (.ref 51), some (.ref 51)], [.int ((-11 : Int32))], σ) rfl ?_ ?_
            · trivial
            have e : s_cpy D (nI 1) i (nI 1) j n = (-11, D) := by rw [s_cpy, if_neg (fun q => q hg), if_neg (fun q => q hg2), hc, if_pos (by rw [← h0]; exact c38)]
            rw [e]
            exact ev_iret rfl rfl rfl ⟨rfl, hD, xFr.rf⟩
          · replace c38 := zi_n.mp c38
            refine ev_blk 1 [] 43 ([some (.ref 0), some (.int ((1 : Int32))), some (.int (i)), some (.int ((1 : Int32))), some (.int (j)), some (.int (n)), some (.ref 51), some (.ref 51)], [.ref 51], σ) rfl ?_ ?_
            · trivial
            refine ev_callV M_X4_isMissing [] [] 51 rfl rfl ln_X5_232 k_X4_isMissing rfl rfl rfl rfl rfl rfl (c_isMissing1 _) ?_
            refine pu_k ?_
            show xEv _ _ _ 46 ([some (.ref 0), some (.int ((1 : Int32))), some (.int (i)), some (.int ((1 : Int32))), some (.int (j)), some (.int (n)), some (.ref 51), some (.ref 51)], [.int (zi (σ 51 0 = -1))], σ)
            refine ev_br 0 [] ((zi (σ 51 0 = -1)) = 0) 52 49 ([some (.ref 0), some (.int ((1 : Int32))), some (.int (i)), some (.int ((1 : Int32))), some (.int (j)), some (.int (n)), some (.ref 51), some (.ref 51)], [], σ) rfl ?_ (fun c46 => ?_) (fun c46 => ?_)
            · trivial
            · replace c46 := zi_0.mp c46
              refine ev_br 4 [] ((σ 51 0) = (σ 51 0)) 68 65 ([some (.ref 0), some (.int ((1 : Int32))), some (.int (i)), some (.int ((1 : Int32))), some (.int (j)), some (.int (n)), some (.ref 51), some (.ref 51)], [], σ) rfl ?_ (fun c62 => ?_) (fun c62 => ?_)
              · trivial
              · refine ev_blk 3 [] 73 ([some (.ref 0), some (.int ((1 : Int32))), some (.int (i)), some (.int ((1 : Int32))), some (.int (j)), some (.int (n)), some (.ref 51), some (.ref 51)], [.int (n), .int (i), .ref 51], σ) rfl ?_ ?_
                · trivial
                refine ev_callV M_X4_hasRun [.int (i), .int (n)] [] 51 rfl rfl ln_X5_266 k_X4_hasRun rfl rfl rfl rfl rfl rfl (c_hasRun1 _ _ _) ?_
                refine pu_k ?_
                show xEv _ _ _ 76 ([some (.ref 0), some (.int ((1 : Int32))), some (.int (i)), some (.int ((1 : Int32))), some (.int (j)), some (.int (n)), some (.ref 51), some (.ref 51)], [.int (zi (¬ i < 0 ∧ ¬ n < 0 ∧ ¬ σ 51 1 < i ∧ ¬ σ 51 1 - i < n))], σ)
                refine ev_br 0 [] ((zi (¬ i < 0 ∧ ¬ n < 0 ∧ ¬ σ 51 1 < i ∧ ¬ σ 51 1 - i < n)) = 0) 91 79 ([some (.ref 0), some (.int ((1 : Int32))), some (.int (i)), some (.int ((1 : Int32))), some (.int (j)), some (.int (n)), some (.ref 51), some (.ref 51)], [], σ) rfl ?_ (fun c76 => ?_) (fun c76 => ?_)
                · trivial
                · replace c76 := zi_0.mp c76
                  refine ev_blk 1 [] 93 ([some (.ref 0), some (.int ((1 : Int32))), some (.int (i)), some (.int ((1 : Int32))), some (.int (j)), some (.int (n)), some (.ref 51), some (.ref 51)], [.int ((-12 : Int32))], σ) rfl ?_ ?_
                  · trivial
                  have e : s_cpy D (nI 1) i (nI 1) j n = (-12, D) := by rw [s_cpy, if_neg (fun q => q hg), if_neg (fun q => q hg2), hc, if_neg (by rw [← h0]; exact c38), if_neg (by rw [← k0]; exact c46), if_neg (fun q => q (h0.symm.trans (Eq.trans c62 k0))), if_neg (rn_no (p := 0) (q := 0) (Or.inl (fun q => c76 (by rw [show σ 51 1 = _ from h1]; exact (rnC ho.2).mpr q))))]
                  rw [e]
                  exact ev_iret rfl rfl rfl ⟨rfl, hD, xFr.rf⟩
                · replace c76 := zi_1.mp c76
                  refine ev_blk 3 [] 85 ([some (.ref 0), some (.int ((1 : Int32))), some (.int (i)), some (.int ((1 : Int32))), some (.int (j)), some (.int (n)), some (.ref 51), some (.ref 51)], [.int (n), .int (j), .ref 51], σ) rfl ?_ ?_
                  · trivial
                  refine ev_callV M_X4_hasRun [.int (j), .int (n)] [] 51 rfl rfl ln_X5_266 k_X4_hasRun rfl rfl rfl rfl rfl rfl (c_hasRun1 _ _ _) ?_
                  refine pu_k ?_
                  show xEv _ _ _ 88 ([some (.ref 0), some (.int ((1 : Int32))), some (.int (i)), some (.int ((1 : Int32))), some (.int (j)), some (.int (n)), some (.ref 51), some (.ref 51)], [.int (zi (¬ j < 0 ∧ ¬ n < 0 ∧ ¬ σ 51 1 < j ∧ ¬ σ 51 1 - j < n))], σ)
                  refine ev_br 0 [] (¬ (zi (¬ j < 0 ∧ ¬ n < 0 ∧ ¬ σ 51 1 < j ∧ ¬ σ 51 1 - j < n)) = 0) 94 91 ([some (.ref 0), some (.int ((1 : Int32))), some (.int (i)), some (.int ((1 : Int32))), some (.int (j)), some (.int (n)), some (.ref 51), some (.ref 51)], [], σ) rfl ?_ (fun c88 => ?_) (fun c88 => ?_)
                  · trivial
                  · replace c88 := zi_1.mp c88
                    have r1 := rn_cl ho.2 ((rnC ho.2).mp (by rw [show σ 51 1 = _ from h1] at c76; exact c76))
                    have r2 := rn_cl ko.2 ((rnC ko.2).mp (by rw [show σ 51 1 = _ from k1] at c88; exact c88))
                    refine ev_blk 9 [¬ i < 0, ¬ j < 0, ¬ n < 0, i.toNatClampNeg + n.toNatClampNeg ≤ 40, j.toNatClampNeg + n.toNatClampNeg ≤ 40] 114 ([some (.ref 0), some (.int ((1 : Int32))), some (.int (i)), some (.int ((1 : Int32))), some (.int (j)), some (.int (n)), some (.ref 51), some (.ref 51)], [.int (n)], (x_up σ 52 (va_cpy (σ 52) (σ 52) i.toNatClampNeg j.toNatClampNeg n.toNatClampNeg))) rfl ?_ ?_
                    · exact ⟨r1.1, r2.1, r1.2.1, Nat.le_trans r1.2.2 ho.2, Nat.le_trans r2.2.2 ko.2⟩
                    have e : s_cpy D (nI 1) i (nI 1) j n = (n, updD D 1 ((D 1).1, (D 1).2.1, va_cpy (D 1).2.2 (D 1).2.2 i.toNatClampNeg j.toNatClampNeg n.toNatClampNeg)) := by rw [s_cpy, if_neg (fun q => q hg), if_neg (fun q => q hg2), hc, if_neg (by rw [← h0]; exact c38), if_neg (by rw [← k0]; exact c46), if_neg (fun q => q (h0.symm.trans (Eq.trans c62 k0))), if_pos ⟨by rintro (q | q | q); exact r1.1 q; exact r1.2.1 q; exact r2.1 q, r1.2.2, r2.2.2⟩]
                    rw [e]
                    exact ev_iret rfl rfl rfl ⟨rfl, shC_put (W := 1) hD ko (fun c _ _ a b => x_up_ne b) (by rw [x_up_ne (by decide)]; exact k0) (by rw [x_up_ne (by decide)]; exact k1) (fun z hz => by rw [x_up_eq]; exact va_cpy_c hi ki (by have := r1.2.2; have := ho.2; omega) hz), fun c hc => x_up_ne (fun z => hc (by rw [z]; decide))⟩
                  · replace c88 := zi_n.mp c88
                    refine ev_blk 1 [] 93 ([some (.ref 0), some (.int ((1 : Int32))), some (.int (i)), some (.int ((1 : Int32))), some (.int (j)), some (.int (n)), some (.ref 51), some (.ref 51)], [.int ((-12 : Int32))], σ) rfl ?_ ?_
                    · trivial
                    have e : s_cpy D (nI 1) i (nI 1) j n = (-12, D) := by rw [s_cpy, if_neg (fun q => q hg), if_neg (fun q => q hg2), hc, if_neg (by rw [← h0]; exact c38), if_neg (by rw [← k0]; exact c46), if_neg (fun q => q (h0.symm.trans (Eq.trans c62 k0))), if_neg (rn_no (p := 0) (q := 0) (Or.inr (fun q => c88 (by rw [show σ 51 1 = _ from k1]; exact (rnC ko.2).mpr q))))]
                    rw [e]
                    exact ev_iret rfl rfl rfl ⟨rfl, hD, xFr.rf⟩
              · refine ev_blk 1 [] 67 ([some (.ref 0), some (.int ((1 : Int32))), some (.int (i)), some (.int ((1 : Int32))), some (.int (j)), some (.int (n)), some (.ref 51), some (.ref 51)], [.int ((-13 : Int32))], σ) rfl ?_ ?_
                · trivial
                have e : s_cpy D (nI 1) i (nI 1) j n = (-13, D) := by rw [s_cpy, if_neg (fun q => q hg), if_neg (fun q => q hg2), hc, if_neg (by rw [← h0]; exact c38), if_neg (by rw [← k0]; exact c46), if_pos (fun z => c62 (h0.trans (z.trans k0.symm)))]
                rw [e]
                exact ev_iret rfl rfl rfl ⟨rfl, hD, xFr.rf⟩
            · replace c46 := zi_1.mp c46
              refine ev_blk 1 [] 51 ([some (.ref 0), some (.int ((1 : Int32))), some (.int (i)), some (.int ((1 : Int32))), some (.int (j)), some (.int (n)), some (.ref 51), some (.ref 51)], [.int ((-11 : Int32))], σ) rfl ?_ ?_
              · trivial
              have e : s_cpy D (nI 1) i (nI 1) j n = (-11, D) := by rw [s_cpy, if_neg (fun q => q hg), if_neg (fun q => q hg2), hc, if_neg (by rw [← h0]; exact c38), if_pos (by rw [← k0]; exact c46)]
              rw [e]
              exact ev_iret rfl rfl rfl ⟨rfl, hD, xFr.rf⟩
        · exact absurd (by decide) c11
    · have hg : iN 4 (nI 2) := iN_nI (by decide) (by decide)
      have hg2 : iN 4 (nI 2) := iN_nI (by decide) (by decide)
      obtain ⟨ko, k0, k1, ki⟩ := hD 2 (by decide)
      have hc2 : (nI 2).toNatClampNeg = 2 := rfl
      show xEv _ _ _ 0 ([some (.ref 0), some (.int ((1 : Int32))), some (.int (i)), some (.int ((2 : Int32))), some (.int (j)), some (.int (n)), none, none], [], σ)
      refine ev_blk 1 [] 1 ([some (.ref 0), some (.int ((1 : Int32))), some (.int (i)), some (.int ((2 : Int32))), some (.int (j)), some (.int (n)), none, none], [.int ((1 : Int32))], σ) rfl ?_ ?_
      · trivial
      refine ev_callS M_X5_isSheet [.int ((1 : Int32))] [] rfl rfl ln_X5_229 k_X5_isSheet rfl rfl rfl (c_isSheet _ _) ?_
      refine pu_k ?_
      rw [zi_t (show ¬ ((1 : Int32)) < 0 ∧ ¬ (4 : Int32) ≤ ((1 : Int32)) by decide)]
      show xEv _ _ _ 4 ([some (.ref 0), some (.int ((1 : Int32))), some (.int (i)), some (.int ((2 : Int32))), some (.int (j)), some (.int (n)), none, none], [.int ((1 : Int32))], σ)
      refine ev_br 0 [] ((1 : Int32) = 0) 14 7 ([some (.ref 0), some (.int ((1 : Int32))), some (.int (i)), some (.int ((2 : Int32))), some (.int (j)), some (.int (n)), none, none], [], σ) rfl ?_ (fun c4 => ?_) (fun c4 => ?_)
      · trivial
      · exact absurd c4 (by decide)
      · refine ev_blk 1 [] 8 ([some (.ref 0), some (.int ((1 : Int32))), some (.int (i)), some (.int ((2 : Int32))), some (.int (j)), some (.int (n)), none, none], [.int ((2 : Int32))], σ) rfl ?_ ?_
        · trivial
        refine ev_callS M_X5_isSheet [.int ((2 : Int32))] [] rfl rfl ln_X5_229 k_X5_isSheet rfl rfl rfl (c_isSheet _ _) ?_
        refine pu_k ?_
        rw [zi_t (show ¬ ((2 : Int32)) < 0 ∧ ¬ (4 : Int32) ≤ ((2 : Int32)) by decide)]
        show xEv _ _ _ 11 ([some (.ref 0), some (.int ((1 : Int32))), some (.int (i)), some (.int ((2 : Int32))), some (.int (j)), some (.int (n)), none, none], [.int ((1 : Int32))], σ)
        refine ev_br 0 [] (¬ (1 : Int32) = 0) 17 14 ([some (.ref 0), some (.int ((1 : Int32))), some (.int (i)), some (.int ((2 : Int32))), some (.int (j)), some (.int (n)), none, none], [], σ) rfl ?_ (fun c11 => ?_) (fun c11 => ?_)
        · trivial
        · refine ev_blk 11 [vp_in ((1 : Int32)) 4, vp_in ((2 : Int32)) 4] 35 ([some (.ref 0), some (.int ((1 : Int32))), some (.int (i)), some (.int ((2 : Int32))), some (.int (j)), some (.int (n)), some (.ref 51), some (.ref 53)], [.ref 51], σ) rfl ?_ ?_
          · exact ⟨(vp_in_nI (n := 1) (by decide) (by decide)), (vp_in_nI (n := 2) (by decide) (by decide))⟩
          refine ev_callV M_X4_isMissing [] [] 51 rfl rfl ln_X5_232 k_X4_isMissing rfl rfl rfl rfl rfl rfl (c_isMissing1 _) ?_
          refine pu_k ?_
          show xEv _ _ _ 38 ([some (.ref 0), some (.int ((1 : Int32))), some (.int (i)), some (.int ((2 : Int32))), some (.int (j)), some (.int (n)), some (.ref 51), some (.ref 53)], [.int (zi (σ 51 0 = -1))], σ)
          refine ev_br 0 [] (¬ (zi (σ 51 0 = -1)) = 0) 49 41 ([some (.ref 0), some (.int ((1 : Int32))), some (.int (i)), some (.int ((2 : Int32))), some (.int (j)), some (.int (n)), some (.ref 51), some (.ref 53)], [], σ) rfl ?_ (fun c38 => ?_) (fun c38 => ?_)
          · trivial
          · replace c38 := zi_1.mp c38
            refine ev_blk 1 [] 51 ([some (.ref 0), some (.int ((1 : Int32))), some (.int (i)), some (.int ((2 : Int32))), some (.int (j)), some (.int (n)), some (.ref 51), some (.ref 53)], [.int ((-11 : Int32))], σ) rfl ?_ ?_
            · trivial
            have e : s_cpy D (nI 1) i (nI 2) j n = (-11, D) := by rw [s_cpy, if_neg (fun q => q hg), if_neg (fun q => q hg2), hc, hc2, if_pos (by rw [← h0]; exact c38)]
            rw [e]
            exact ev_iret rfl rfl rfl ⟨rfl, hD, xFr.rf⟩
          · replace c38 := zi_n.mp c38
            refine ev_blk 1 [] 43 ([some (.ref 0), some (.int ((1 : Int32))), some (.int (i)), some (.int ((2 : Int32))), some (.int (j)), some (.int (n)), some (.ref 51), some (.ref 53)], [.ref 53], σ) rfl ?_ ?_
            · trivial
            refine ev_callV M_X4_isMissing [] [] 53 rfl rfl ln_X5_232 k_X4_isMissing rfl rfl rfl rfl rfl rfl (c_isMissing2 _) ?_
            refine pu_k ?_
            show xEv _ _ _ 46 ([some (.ref 0), some (.int ((1 : Int32))), some (.int (i)), some (.int ((2 : Int32))), some (.int (j)), some (.int (n)), some (.ref 51), some (.ref 53)], [.int (zi (σ 53 0 = -1))], σ)
            refine ev_br 0 [] ((zi (σ 53 0 = -1)) = 0) 52 49 ([some (.ref 0), some (.int ((1 : Int32))), some (.int (i)), some (.int ((2 : Int32))), some (.int (j)), some (.int (n)), some (.ref 51), some (.ref 53)], [], σ) rfl ?_ (fun c46 => ?_) (fun c46 => ?_)
            · trivial
            · replace c46 := zi_0.mp c46
              refine ev_br 4 [] ((σ 51 0) = (σ 53 0)) 68 65 ([some (.ref 0), some (.int ((1 : Int32))), some (.int (i)), some (.int ((2 : Int32))), some (.int (j)), some (.int (n)), some (.ref 51), some (.ref 53)], [], σ) rfl ?_ (fun c62 => ?_) (fun c62 => ?_)
              · trivial
              · refine ev_blk 3 [] 73 ([some (.ref 0), some (.int ((1 : Int32))), some (.int (i)), some (.int ((2 : Int32))), some (.int (j)), some (.int (n)), some (.ref 51), some (.ref 53)], [.int (n), .int (i), .ref 51], σ) rfl ?_ ?_
                · trivial
                refine ev_callV M_X4_hasRun [.int (i), .int (n)] [] 51 rfl rfl ln_X5_266 k_X4_hasRun rfl rfl rfl rfl rfl rfl (c_hasRun1 _ _ _) ?_
                refine pu_k ?_
                show xEv _ _ _ 76 ([some (.ref 0), some (.int ((1 : Int32))), some (.int (i)), some (.int ((2 : Int32))), some (.int (j)), some (.int (n)), some (.ref 51), some (.ref 53)], [.int (zi (¬ i < 0 ∧ ¬ n < 0 ∧ ¬ σ 51 1 < i ∧ ¬ σ 51 1 - i < n))], σ)
                refine ev_br 0 [] ((zi (¬ i < 0 ∧ ¬ n < 0 ∧ ¬ σ 51 1 < i ∧ ¬ σ 51 1 - i < n)) = 0) 91 79 ([some (.ref 0), some (.int ((1 : Int32))), some (.int (i)), some (.int ((2 : Int32))), some (.int (j)), some (.int (n)), some (.ref 51), some (.ref 53)], [], σ) rfl ?_ (fun c76 => ?_) (fun c76 => ?_)
                · trivial
                · replace c76 := zi_0.mp c76
                  refine ev_blk 1 [] 93 ([some (.ref 0), some (.int ((1 : Int32))), some (.int (i)), some (.int ((2 : Int32))), some (.int (j)), some (.int (n)), some (.ref 51), some (.ref 53)], [.int ((-12 : Int32))], σ) rfl ?_ ?_
                  · trivial
                  have e : s_cpy D (nI 1) i (nI 2) j n = (-12, D) := by rw [s_cpy, if_neg (fun q => q hg), if_neg (fun q => q hg2), hc, hc2, if_neg (by rw [← h0]; exact c38), if_neg (by rw [← k0]; exact c46), if_neg (fun q => q (h0.symm.trans (Eq.trans c62 k0))), if_neg (rn_no (p := 0) (q := 0) (Or.inl (fun q => c76 (by rw [show σ 51 1 = _ from h1]; exact (rnC ho.2).mpr q))))]
                  rw [e]
                  exact ev_iret rfl rfl rfl ⟨rfl, hD, xFr.rf⟩
                · replace c76 := zi_1.mp c76
                  refine ev_blk 3 [] 85 ([some (.ref 0), some (.int ((1 : Int32))), some (.int (i)), some (.int ((2 : Int32))), some (.int (j)), some (.int (n)), some (.ref 51), some (.ref 53)], [.int (n), .int (j), .ref 53], σ) rfl ?_ ?_
                  · trivial
                  refine ev_callV M_X4_hasRun [.int (j), .int (n)] [] 53 rfl rfl ln_X5_266 k_X4_hasRun rfl rfl rfl rfl rfl rfl (c_hasRun2 _ _ _) ?_
                  refine pu_k ?_
                  show xEv _ _ _ 88 ([some (.ref 0), some (.int ((1 : Int32))), some (.int (i)), some (.int ((2 : Int32))), some (.int (j)), some (.int (n)), some (.ref 51), some (.ref 53)], [.int (zi (¬ j < 0 ∧ ¬ n < 0 ∧ ¬ σ 53 1 < j ∧ ¬ σ 53 1 - j < n))], σ)
                  refine ev_br 0 [] (¬ (zi (¬ j < 0 ∧ ¬ n < 0 ∧ ¬ σ 53 1 < j ∧ ¬ σ 53 1 - j < n)) = 0) 94 91 ([some (.ref 0), some (.int ((1 : Int32))), some (.int (i)), some (.int ((2 : Int32))), some (.int (j)), some (.int (n)), some (.ref 51), some (.ref 53)], [], σ) rfl ?_ (fun c88 => ?_) (fun c88 => ?_)
                  · trivial
                  · replace c88 := zi_1.mp c88
                    have r1 := rn_cl ho.2 ((rnC ho.2).mp (by rw [show σ 51 1 = _ from h1] at c76; exact c76))
                    have r2 := rn_cl ko.2 ((rnC ko.2).mp (by rw [show σ 53 1 = _ from k1] at c88; exact c88))
                    refine ev_blk 9 [¬ i < 0, ¬ j < 0, ¬ n < 0, i.toNatClampNeg + n.toNatClampNeg ≤ 40, j.toNatClampNeg + n.toNatClampNeg ≤ 40] 114 ([some (.ref 0), some (.int ((1 : Int32))), some (.int (i)), some (.int ((2 : Int32))), some (.int (j)), some (.int (n)), some (.ref 51), some (.ref 53)], [.int (n)], (x_up σ 54 (va_cpy (σ 52) (σ 54) i.toNatClampNeg j.toNatClampNeg n.toNatClampNeg))) rfl ?_ ?_
                    · exact ⟨r1.1, r2.1, r1.2.1, Nat.le_trans r1.2.2 ho.2, Nat.le_trans r2.2.2 ko.2⟩
                    have e : s_cpy D (nI 1) i (nI 2) j n = (n, updD D 2 ((D 2).1, (D 2).2.1, va_cpy (D 1).2.2 (D 2).2.2 i.toNatClampNeg j.toNatClampNeg n.toNatClampNeg)) := by rw [s_cpy, if_neg (fun q => q hg), if_neg (fun q => q hg2), hc, hc2, if_neg (by rw [← h0]; exact c38), if_neg (by rw [← k0]; exact c46), if_neg (fun q => q (h0.symm.trans (Eq.trans c62 k0))), if_pos ⟨by rintro (q | q | q); exact r1.1 q; exact r1.2.1 q; exact r2.1 q, r1.2.2, r2.2.2⟩]
                    rw [e]
                    exact ev_iret rfl rfl rfl ⟨rfl, shC_put (W := 2) hD ko (fun c _ _ a b => x_up_ne b) (by rw [x_up_ne (by decide)]; exact k0) (by rw [x_up_ne (by decide)]; exact k1) (fun z hz => by rw [x_up_eq]; exact va_cpy_c hi ki (by have := r1.2.2; have := ho.2; omega) hz), fun c hc => x_up_ne (fun z => hc (by rw [z]; decide))⟩
                  · replace c88 := zi_n.mp c88
                    refine ev_blk 1 [] 93 ([some (.ref 0), some (.int ((1 : Int32))), some (.int (i)), some (.int ((2 : Int32))), some (.int (j)), some (.int (n)), some (.ref 51), some (.ref 53)], [.int ((-12 : Int32))], σ) rfl ?_ ?_
                    · trivial
                    have e : s_cpy D (nI 1) i (nI 2) j n = (-12, D) := by rw [s_cpy, if_neg (fun q => q hg), if_neg (fun q => q hg2), hc, hc2, if_neg (by rw [← h0]; exact c38), if_neg (by rw [← k0]; exact c46), if_neg (fun q => q (h0.symm.trans (Eq.trans c62 k0))), if_neg (rn_no (p := 0) (q := 0) (Or.inr (fun q => c88 (by rw [show σ 53 1 = _ from k1]; exact (rnC ko.2).mpr q))))]
                    rw [e]
                    exact ev_iret rfl rfl rfl ⟨rfl, hD, xFr.rf⟩
              · refine ev_blk 1 [] 67 ([some (.ref 0), some (.int ((1 : Int32))), some (.int (i)), some (.int ((2 : Int32))), some (.int (j)), some (.int (n)), some (.ref 51), some (.ref 53)], [.int ((-13 : Int32))], σ) rfl ?_ ?_
                · trivial
                have e : s_cpy D (nI 1) i (nI 2) j n = (-13, D) := by rw [s_cpy, if_neg (fun q => q hg), if_neg (fun q => q hg2), hc, hc2, if_neg (by rw [← h0]; exact c38), if_neg (by rw [← k0]; exact c46), if_pos (fun z => c62 (h0.trans (z.trans k0.symm)))]
                rw [e]
                exact ev_iret rfl rfl rfl ⟨rfl, hD, xFr.rf⟩
            · replace c46 := zi_1.mp c46
              refine ev_blk 1 [] 51 ([some (.ref 0), some (.int ((1 : Int32))), some (.int (i)), some (.int ((2 : Int32))), some (.int (j)), some (.int (n)), some (.ref 51), some (.ref 53)], [.int ((-11 : Int32))], σ) rfl ?_ ?_
              · trivial
              have e : s_cpy D (nI 1) i (nI 2) j n = (-11, D) := by rw [s_cpy, if_neg (fun q => q hg), if_neg (fun q => q hg2), hc, hc2, if_neg (by rw [← h0]; exact c38), if_pos (by rw [← k0]; exact c46)]
              rw [e]
              exact ev_iret rfl rfl rfl ⟨rfl, hD, xFr.rf⟩
        · exact absurd (by decide) c11
    · have hg : iN 4 (nI 3) := iN_nI (by decide) (by decide)
      have hg2 : iN 4 (nI 3) := iN_nI (by decide) (by decide)
      obtain ⟨ko, k0, k1, ki⟩ := hD 3 (by decide)
      have hc2 : (nI 3).toNatClampNeg = 3 := rfl
      show xEv _ _ _ 0 ([some (.ref 0), some (.int ((1 : Int32))), some (.int (i)), some (.int ((3 : Int32))), some (.int (j)), some (.int (n)), none, none], [], σ)
      refine ev_blk 1 [] 1 ([some (.ref 0), some (.int ((1 : Int32))), some (.int (i)), some (.int ((3 : Int32))), some (.int (j)), some (.int (n)), none, none], [.int ((1 : Int32))], σ) rfl ?_ ?_
      · trivial
      refine ev_callS M_X5_isSheet [.int ((1 : Int32))] [] rfl rfl ln_X5_229 k_X5_isSheet rfl rfl rfl (c_isSheet _ _) ?_
      refine pu_k ?_
      rw [zi_t (show ¬ ((1 : Int32)) < 0 ∧ ¬ (4 : Int32) ≤ ((1 : Int32)) by decide)]
      show xEv _ _ _ 4 ([some (.ref 0), some (.int ((1 : Int32))), some (.int (i)), some (.int ((3 : Int32))), some (.int (j)), some (.int (n)), none, none], [.int ((1 : Int32))], σ)
      refine ev_br 0 [] ((1 : Int32) = 0) 14 7 ([some (.ref 0), some (.int ((1 : Int32))), some (.int (i)), some (.int ((3 : Int32))), some (.int (j)), some (.int (n)), none, none], [], σ) rfl ?_ (fun c4 => ?_) (fun c4 => ?_)
      · trivial
      · exact absurd c4 (by decide)
      · refine ev_blk 1 [] 8 ([some (.ref 0), some (.int ((1 : Int32))), some (.int (i)), some (.int ((3 : Int32))), some (.int (j)), some (.int (n)), none, none], [.int ((3 : Int32))], σ) rfl ?_ ?_
        · trivial
        refine ev_callS M_X5_isSheet [.int ((3 : Int32))] [] rfl rfl ln_X5_229 k_X5_isSheet rfl rfl rfl (c_isSheet _ _) ?_
        refine pu_k ?_
        rw [zi_t (show ¬ ((3 : Int32)) < 0 ∧ ¬ (4 : Int32) ≤ ((3 : Int32)) by decide)]
        show xEv _ _ _ 11 ([some (.ref 0), some (.int ((1 : Int32))), some (.int (i)), some (.int ((3 : Int32))), some (.int (j)), some (.int (n)), none, none], [.int ((1 : Int32))], σ)
        refine ev_br 0 [] (¬ (1 : Int32) = 0) 17 14 ([some (.ref 0), some (.int ((1 : Int32))), some (.int (i)), some (.int ((3 : Int32))), some (.int (j)), some (.int (n)), none, none], [], σ) rfl ?_ (fun c11 => ?_) (fun c11 => ?_)
        · trivial
        · refine ev_blk 11 [vp_in ((1 : Int32)) 4, vp_in ((3 : Int32)) 4] 35 ([some (.ref 0), some (.int ((1 : Int32))), some (.int (i)), some (.int ((3 : Int32))), some (.int (j)), some (.int (n)), some (.ref 51), some (.ref 55)], [.ref 51], σ) rfl ?_ ?_
          · exact ⟨(vp_in_nI (n := 1) (by decide) (by decide)), (vp_in_nI (n := 3) (by decide) (by decide))⟩
          refine ev_callV M_X4_isMissing [] [] 51 rfl rfl ln_X5_232 k_X4_isMissing rfl rfl rfl rfl rfl rfl (c_isMissing1 _) ?_
          refine pu_k ?_
          show xEv _ _ _ 38 ([some (.ref 0), some (.int ((1 : Int32))), some (.int (i)), some (.int ((3 : Int32))), some (.int (j)), some (.int (n)), some (.ref 51), some (.ref 55)], [.int (zi (σ 51 0 = -1))], σ)
          refine ev_br 0 [] (¬ (zi (σ 51 0 = -1)) = 0) 49 41 ([some (.ref 0), some (.int ((1 : Int32))), some (.int (i)), some (.int ((3 : Int32))), some (.int (j)), some (.int (n)), some (.ref 51), some (.ref 55)], [], σ) rfl ?_ (fun c38 => ?_) (fun c38 => ?_)
          · trivial
          · replace c38 := zi_1.mp c38
            refine ev_blk 1 [] 51 ([some (.ref 0), some (.int ((1 : Int32))), some (.int (i)), some (.int ((3 : Int32))), some (.int (j)), some (.int (n)), some (.ref 51), some (.ref 55)], [.int ((-11 : Int32))], σ) rfl ?_ ?_
            · trivial
            have e : s_cpy D (nI 1) i (nI 3) j n = (-11, D) := by rw [s_cpy, if_neg (fun q => q hg), if_neg (fun q => q hg2), hc, hc2, if_pos (by rw [← h0]; exact c38)]
            rw [e]
            exact ev_iret rfl rfl rfl ⟨rfl, hD, xFr.rf⟩
          · replace c38 := zi_n.mp c38
            refine ev_blk 1 [] 43 ([some (.ref 0), some (.int ((1 : Int32))), some (.int (i)), some (.int ((3 : Int32))), some (.int (j)), some (.int (n)), some (.ref 51), some (.ref 55)], [.ref 55], σ) rfl ?_ ?_
            · trivial
            refine ev_callV M_X4_isMissing [] [] 55 rfl rfl ln_X5_232 k_X4_isMissing rfl rfl rfl rfl rfl rfl (c_isMissing3 _) ?_
            refine pu_k ?_
            show xEv _ _ _ 46 ([some (.ref 0), some (.int ((1 : Int32))), some (.int (i)), some (.int ((3 : Int32))), some (.int (j)), some (.int (n)), some (.ref 51), some (.ref 55)], [.int (zi (σ 55 0 = -1))], σ)
            refine ev_br 0 [] ((zi (σ 55 0 = -1)) = 0) 52 49 ([some (.ref 0), some (.int ((1 : Int32))), some (.int (i)), some (.int ((3 : Int32))), some (.int (j)), some (.int (n)), some (.ref 51), some (.ref 55)], [], σ) rfl ?_ (fun c46 => ?_) (fun c46 => ?_)
            · trivial
            · replace c46 := zi_0.mp c46
              refine ev_br 4 [] ((σ 51 0) = (σ 55 0)) 68 65 ([some (.ref 0), some (.int ((1 : Int32))), some (.int (i)), some (.int ((3 : Int32))), some (.int (j)), some (.int (n)), some (.ref 51), some (.ref 55)], [], σ) rfl ?_ (fun c62 => ?_) (fun c62 => ?_)
              · trivial
              · refine ev_blk 3 [] 73 ([some (.ref 0), some (.int ((1 : Int32))), some (.int (i)), some (.int ((3 : Int32))), some (.int (j)), some (.int (n)), some (.ref 51), some (.ref 55)], [.int (n), .int (i), .ref 51], σ) rfl ?_ ?_
                · trivial
                refine ev_callV M_X4_hasRun [.int (i), .int (n)] [] 51 rfl rfl ln_X5_266 k_X4_hasRun rfl rfl rfl rfl rfl rfl (c_hasRun1 _ _ _) ?_
                refine pu_k ?_
                show xEv _ _ _ 76 ([some (.ref 0), some (.int ((1 : Int32))), some (.int (i)), some (.int ((3 : Int32))), some (.int (j)), some (.int (n)), some (.ref 51), some (.ref 55)], [.int (zi (¬ i < 0 ∧ ¬ n < 0 ∧ ¬ σ 51 1 < i ∧ ¬ σ 51 1 - i < n))], σ)
                refine ev_br 0 [] ((zi (¬ i < 0 ∧ ¬ n < 0 ∧ ¬ σ 51 1 < i ∧ ¬ σ 51 1 - i < n)) = 0) 91 79 ([some (.ref 0), some (.int ((1 : Int32))), some (.int (i)), some (.int ((3 : Int32))), some (.int (j)), some (.int (n)), some (.ref 51), some (.ref 55)], [], σ) rfl ?_ (fun c76 => ?_) (fun c76 => ?_)
                · trivial
                · replace c76 := zi_0.mp c76
                  refine ev_blk 1 [] 93 ([some (.ref 0), some (.int ((1 : Int32))), some (.int (i)), some (.int ((3 : Int32))), some (.int (j)), some (.int (n)), some (.ref 51), some (.ref 55)], [.int ((-12 : Int32))], σ) rfl ?_ ?_
                  · trivial
                  have e : s_cpy D (nI 1) i (nI 3) j n = (-12, D) := by rw [s_cpy, if_neg (fun q => q hg), if_neg (fun q => q hg2), hc, hc2, if_neg (by rw [← h0]; exact c38), if_neg (by rw [← k0]; exact c46), if_neg (fun q => q (h0.symm.trans (Eq.trans c62 k0))), if_neg (rn_no (p := 0) (q := 0) (Or.inl (fun q => c76 (by rw [show σ 51 1 = _ from h1]; exact (rnC ho.2).mpr q))))]
                  rw [e]
                  exact ev_iret rfl rfl rfl ⟨rfl, hD, xFr.rf⟩
                · replace c76 := zi_1.mp c76
                  refine ev_blk 3 [] 85 ([some (.ref 0), some (.int ((1 : Int32))), some (.int (i)), some (.int ((3 : Int32))), some (.int (j)), some (.int (n)), some (.ref 51), some (.ref 55)], [.int (n), .int (j), .ref 55], σ) rfl ?_ ?_
                  · trivial
                  refine ev_callV M_X4_hasRun [.int (j), .int (n)] [] 55 rfl rfl ln_X5_266 k_X4_hasRun rfl rfl rfl rfl rfl rfl (c_hasRun3 _ _ _) ?_
                  refine pu_k ?_
                  show xEv _ _ _ 88 ([some (.ref 0), some (.int ((1 : Int32))), some (.int (i)), some (.int ((3 : Int32))), some (.int (j)), some (.int (n)), some (.ref 51), some (.ref 55)], [.int (zi (¬ j < 0 ∧ ¬ n < 0 ∧ ¬ σ 55 1 < j ∧ ¬ σ 55 1 - j < n))], σ)
                  refine ev_br 0 [] (¬ (zi (¬ j < 0 ∧ ¬ n < 0 ∧ ¬ σ 55 1 < j ∧ ¬ σ 55 1 - j < n)) = 0) 94 91 ([some (.ref 0), some (.int ((1 : Int32))), some (.int (i)), some (.int ((3 : Int32))), some (.int (j)), some (.int (n)), some (.ref 51), some (.ref 55)], [], σ) rfl ?_ (fun c88 => ?_) (fun c88 => ?_)
                  · trivial
                  · replace c88 := zi_1.mp c88
                    have r1 := rn_cl ho.2 ((rnC ho.2).mp (by rw [show σ 51 1 = _ from h1] at c76; exact c76))
                    have r2 := rn_cl ko.2 ((rnC ko.2).mp (by rw [show σ 55 1 = _ from k1] at c88; exact c88))
                    refine ev_blk 9 [¬ i < 0, ¬ j < 0, ¬ n < 0, i.toNatClampNeg + n.toNatClampNeg ≤ 40, j.toNatClampNeg + n.toNatClampNeg ≤ 40] 114 ([some (.ref 0), some (.int ((1 : Int32))), some (.int (i)), some (.int ((3 : Int32))), some (.int (j)), some (.int (n)), some (.ref 51), some (.ref 55)], [.int (n)], (x_up σ 56 (va_cpy (σ 52) (σ 56) i.toNatClampNeg j.toNatClampNeg n.toNatClampNeg))) rfl ?_ ?_
                    · exact ⟨r1.1, r2.1, r1.2.1, Nat.le_trans r1.2.2 ho.2, Nat.le_trans r2.2.2 ko.2⟩
                    have e : s_cpy D (nI 1) i (nI 3) j n = (n, updD D 3 ((D 3).1, (D 3).2.1, va_cpy (D 1).2.2 (D 3).2.2 i.toNatClampNeg j.toNatClampNeg n.toNatClampNeg)) := by rw [s_cpy, if_neg (fun q => q hg), if_neg (fun q => q hg2), hc, hc2, if_neg (by rw [← h0]; exact c38), if_neg (by rw [← k0]; exact c46), if_neg (fun q => q (h0.symm.trans (Eq.trans c62 k0))), if_pos ⟨by rintro (q | q | q); exact r1.1 q; exact r1.2.1 q; exact r2.1 q, r1.2.2, r2.2.2⟩]
                    rw [e]
                    exact ev_iret rfl rfl rfl ⟨rfl, shC_put (W := 3) hD ko (fun c _ _ a b => x_up_ne b) (by rw [x_up_ne (by decide)]; exact k0) (by rw [x_up_ne (by decide)]; exact k1) (fun z hz => by rw [x_up_eq]; exact va_cpy_c hi ki (by have := r1.2.2; have := ho.2; omega) hz), fun c hc => x_up_ne (fun z => hc (by rw [z]; decide))⟩
                  · replace c88 := zi_n.mp c88
                    refine ev_blk 1 [] 93 ([some (.ref 0), some (.int ((1 : Int32))), some (.int (i)), some (.int ((3 : Int32))), some (.int (j)), some (.int (n)), some (.ref 51), some (.ref 55)], [.int ((-12 : Int32))], σ) rfl ?_ ?_
                    · trivial
                    have e : s_cpy D (nI 1) i (nI 3) j n = (-12, D) := by rw [s_cpy, if_neg (fun q => q hg), if_neg (fun q => q hg2), hc, hc2, if_neg (by rw [← h0]; exact c38), if_neg (by rw [← k0]; exact c46), if_neg (fun q => q (h0.symm.trans (Eq.trans c62 k0))), if_neg (rn_no (p := 0) (q := 0) (Or.inr (fun q => c88 (by rw [show σ 55 1 = _ from k1]; exact (rnC ko.2).mpr q))))]
                    rw [e]
                    exact ev_iret rfl rfl rfl ⟨rfl, hD, xFr.rf⟩
              · refine ev_blk 1 [] 67 ([some (.ref 0), some (.int ((1 : Int32))), some (.int (i)), some (.int ((3 : Int32))), some (.int (j)), some (.int (n)), some (.ref 51), some (.ref 55)], [.int ((-13 : Int32))], σ) rfl ?_ ?_
                · trivial
                have e : s_cpy D (nI 1) i (nI 3) j n = (-13, D) := by rw [s_cpy, if_neg (fun q => q hg), if_neg (fun q => q hg2), hc, hc2, if_neg (by rw [← h0]; exact c38), if_neg (by rw [← k0]; exact c46), if_pos (fun z => c62 (h0.trans (z.trans k0.symm)))]
                rw [e]
                exact ev_iret rfl rfl rfl ⟨rfl, hD, xFr.rf⟩
            · replace c46 := zi_1.mp c46
              refine ev_blk 1 [] 51 ([some (.ref 0), some (.int ((1 : Int32))), some (.int (i)), some (.int ((3 : Int32))), some (.int (j)), some (.int (n)), some (.ref 51), some (.ref 55)], [.int ((-11 : Int32))], σ) rfl ?_ ?_
              · trivial
              have e : s_cpy D (nI 1) i (nI 3) j n = (-11, D) := by rw [s_cpy, if_neg (fun q => q hg), if_neg (fun q => q hg2), hc, hc2, if_neg (by rw [← h0]; exact c38), if_pos (by rw [← k0]; exact c46)]
              rw [e]
              exact ev_iret rfl rfl rfl ⟨rfl, hD, xFr.rf⟩
        · exact absurd (by decide) c11
set_option maxRecDepth 100000 in
theorem c_copy2 (σ : xSg) (D : Nat → shD) (hD : shC σ D) (i o j n : Int32) : xCtr M_X5_copy [.ref 0, .int ((2 : Int32)), .int (i), .int (o), .int (j), .int (n)] σ (shPQ scS σ (s_cpy D (nI 2) i o j n)) := by
  refine ctr_ev ok_X5_copy (by decide +kernel) rfl rfl rfl ?_
  show xEv (.inl 1) M_X5_copy _ 0 ([some (.ref 0), some (.int ((2 : Int32))), some (.int (i)), some (.int (o)), some (.int (j)), some (.int (n)), none, none], [], σ)
  have hg : iN 4 (nI 2) := iN_nI (by decide) (by decide)
  obtain ⟨ho, h0, h1, hi⟩ := hD 2 (by decide)
  have hc : (nI 2).toNatClampNeg = 2 := rfl
  rcases pk_ix o (n := 4) (by decide) with hb | hb | ⟨W, hW, rfl⟩
  · have hbad : ¬ iN 4 o := fun q => q.1 hb
    refine ev_blk 1 [] 1 ([some (.ref 0), some (.int ((2 : Int32))), some (.int (i)), some (.int (o)), some (.int (j)), some (.int (n)), none, none], [.int ((2 : Int32))], σ) rfl ?_ ?_
    · trivial
    refine ev_callS M_X5_isSheet [.int ((2 : Int32))] [] rfl rfl ln_X5_229 k_X5_isSheet rfl rfl rfl (c_isSheet _ _) ?_
    refine pu_k ?_
    rw [zi_t (show ¬ ((2 : Int32)) < 0 ∧ ¬ (4 : Int32) ≤ ((2 : Int32)) by decide)]
    show xEv _ _ _ 4 ([some (.ref 0), some (.int ((2 : Int32))), some (.int (i)), some (.int (o)), some (.int (j)), some (.int (n)), none, none], [.int ((1 : Int32))], σ)
    refine ev_br 0 [] ((1 : Int32) = 0) 14 7 ([some (.ref 0), some (.int ((2 : Int32))), some (.int (i)), some (.int (o)), some (.int (j)), some (.int (n)), none, none], [], σ) rfl ?_ (fun c4 => ?_) (fun c4 => ?_)
    · trivial
    · exact absurd c4 (by decide)
    · refine ev_blk 1 [] 8 ([some (.ref 0), some (.int ((2 : Int32))), some (.int (i)), some (.int (o)), some (.int (j)), some (.int (n)), none, none], [.int (o)], σ) rfl ?_ ?_
      · trivial
      refine ev_callS M_X5_isSheet [.int (o)] [] rfl rfl ln_X5_229 k_X5_isSheet rfl rfl rfl (c_isSheet _ _) ?_
      refine pu_k ?_
      show xEv _ _ _ 11 ([some (.ref 0), some (.int ((2 : Int32))), some (.int (i)), some (.int (o)), some (.int (j)), some (.int (n)), none, none], [.int (zi (¬ o < 0 ∧ ¬ (4 : Int32) ≤ (o)))], σ)
      refine ev_br 0 [] (¬ (zi (¬ o < 0 ∧ ¬ (4 : Int32) ≤ (o))) = 0) 17 14 ([some (.ref 0), some (.int ((2 : Int32))), some (.int (i)), some (.int (o)), some (.int (j)), some (.int (n)), none, none], [], σ) rfl ?_ (fun c11 => ?_) (fun c11 => ?_)
      · trivial
      · exact absurd (zi_1.mp c11) hbad
      · replace c11 := zi_n.mp c11
        refine ev_blk 1 [] 16 ([some (.ref 0), some (.int ((2 : Int32))), some (.int (i)), some (.int (o)), some (.int (j)), some (.int (n)), none, none], [.int ((-2 : Int32))], σ) rfl ?_ ?_
        · trivial
        have e : s_cpy D (nI 2) i o j n = (-2, D) := by rw [s_cpy, if_neg (fun q => q hg), if_pos hbad]
        rw [e]
        exact ev_iret rfl rfl rfl ⟨rfl, hD, xFr.rf⟩
  · have hbad : ¬ iN 4 o := fun q => q.2 hb
    refine ev_blk 1 [] 1 ([some (.ref 0), some (.int ((2 : Int32))), some (.int (i)), some (.int (o)), some (.int (j)), some (.int (n)), none, none], [.int ((2 : Int32))], σ) rfl ?_ ?_
    · trivial
    refine ev_callS M_X5_isSheet [.int ((2 : Int32))] [] rfl rfl ln_X5_229 k_X5_isSheet rfl rfl rfl (c_isSheet _ _) ?_
    refine pu_k ?_
    rw [zi_t (show ¬ ((2 : Int32)) < 0 ∧ ¬ (4 : Int32) ≤ ((2 : Int32)) by decide)]
    show xEv _ _ _ 4 ([some (.ref 0), some (.int ((2 : Int32))), some (.int (i)), some (.int (o)), some (.int (j)), some (.int (n)), none, none], [.int ((1 : Int32))], σ)
    refine ev_br 0 [] ((1 : Int32) = 0) 14 7 ([some (.ref 0), some (.int ((2 : Int32))), some (.int (i)), some (.int (o)), some (.int (j)), some (.int (n)), none, none], [], σ) rfl ?_ (fun c4 => ?_) (fun c4 => ?_)
    · trivial
    · exact absurd c4 (by decide)
    · refine ev_blk 1 [] 8 ([some (.ref 0), some (.int ((2 : Int32))), some (.int (i)), some (.int (o)), some (.int (j)), some (.int (n)), none, none], [.int (o)], σ) rfl ?_ ?_
      · trivial
      refine ev_callS M_X5_isSheet [.int (o)] [] rfl rfl ln_X5_229 k_X5_isSheet rfl rfl rfl (c_isSheet _ _) ?_
      refine pu_k ?_
      show xEv _ _ _ 11 ([some (.ref 0), some (.int ((2 : Int32))), some (.int (i)), some (.int (o)), some (.int (j)), some (.int (n)), none, none], [.int (zi (¬ o < 0 ∧ ¬ (4 : Int32) ≤ (o)))], σ)
      refine ev_br 0 [] (¬ (zi (¬ o < 0 ∧ ¬ (4 : Int32) ≤ (o))) = 0) 17 14 ([some (.ref 0), some (.int ((2 : Int32))), some (.int (i)), some (.int (o)), some (.int (j)), some (.int (n)), none, none], [], σ) rfl ?_ (fun c11 => ?_) (fun c11 => ?_)
      · trivial
      · exact absurd (zi_1.mp c11) hbad
      · replace c11 := zi_n.mp c11
        refine ev_blk 1 [] 16 ([some (.ref 0), some (.int ((2 : Int32))), some (.int (i)), some (.int (o)), some (.int (j)), some (.int (n)), none, none], [.int ((-2 : Int32))], σ) rfl ?_ ?_
        · trivial
        have e : s_cpy D (nI 2) i o j n = (-2, D) := by rw [s_cpy, if_neg (fun q => q hg), if_pos hbad]
        rw [e]
        exact ev_iret rfl rfl rfl ⟨rfl, hD, xFr.rf⟩
  · rcases (show W = 0 ∨ W = 1 ∨ W = 2 ∨ W = 3 by omega) with rfl | rfl | rfl | rfl
    · have hg : iN 4 (nI 0) := iN_nI (by decide) (by decide)
      have hg2 : iN 4 (nI 0) := iN_nI (by decide) (by decide)
      obtain ⟨ko, k0, k1, ki⟩ := hD 0 (by decide)
      have hc2 : (nI 0).toNatClampNeg = 0 := rfl
      show xEv _ _ _ 0 ([some (.ref 0), some (.int ((2 : Int32))), some (.int (i)), some (.int ((0 : Int32))), some (.int (j)), some (.int (n)), none, none], [], σ)
      refine ev_blk 1 [] 1 ([some (.ref 0), some (.int ((2 : Int32))), some (.int (i)), some (.int ((0 : Int32))), some (.int (j)), some (.int (n)), none, none], [.int ((2 : Int32))], σ) rfl ?_ ?_
      · trivial
      refine ev_callS M_X5_isSheet [.int ((2 : Int32))] [] rfl rfl ln_X5_229 k_X5_isSheet rfl rfl rfl (c_isSheet _ _) ?_
      refine pu_k ?_
      rw [zi_t (show ¬ ((2 : Int32)) < 0 ∧ ¬ (4 : Int32) ≤ ((2 : Int32)) by decide)]
      show xEv _ _ _ 4 ([some (.ref 0), some (.int ((2 : Int32))), some (.int (i)), some (.int ((0 : Int32))), some (.int (j)), some (.int (n)), none, none], [.int ((1 : Int32))], σ)
      refine ev_br 0 [] ((1 : Int32) = 0) 14 7 ([some (.ref 0), some (.int ((2 : Int32))), some (.int (i)), some (.int ((0 : Int32))), some (.int (j)), some (.int (n)), none, none], [], σ) rfl ?_ (fun c4 => ?_) (fun c4 => ?_)
      · trivial
      · exact absurd c4 (by decide)
      · refine ev_blk 1 [] 8 ([some (.ref 0), some (.int ((2 : Int32))), some (.int (i)), some (.int ((0 : Int32))), some (.int (j)), some (.int (n)), none, none], [.int ((0 : Int32))], σ) rfl ?_ ?_
        · trivial
        refine ev_callS M_X5_isSheet [.int ((0 : Int32))] [] rfl rfl ln_X5_229 k_X5_isSheet rfl rfl rfl (c_isSheet _ _) ?_
        refine pu_k ?_
        rw [zi_t (show ¬ ((0 : Int32)) < 0 ∧ ¬ (4 : Int32) ≤ ((0 : Int32)) by decide)]
        show xEv _ _ _ 11 ([some (.ref 0), some (.int ((2 : Int32))), some (.int (i)), some (.int ((0 : Int32))), some (.int (j)), some (.int (n)), none, none], [.int ((1 : Int32))], σ)
        refine ev_br 0 [] (¬ (1 : Int32) = 0) 17 14 ([some (.ref 0), some (.int ((2 : Int32))), some (.int (i)), some (.int ((0 : Int32))), some (.int (j)), some (.int (n)), none, none], [], σ) rfl ?_ (fun c11 => ?_) (fun c11 => ?_)
        · trivial
        · refine ev_blk 11 [vp_in ((2 : Int32)) 4, vp_in ((0 : Int32)) 4] 35 ([some (.ref 0), some (.int ((2 : Int32))), some (.int (i)), some (.int ((0 : Int32))), some (.int (j)), some (.int (n)), some (.ref 53), some (.ref 49)], [.ref 53], σ) rfl ?_ ?_
          · exact ⟨(vp_in_nI (n := 2) (by decide) (by decide)), (vp_in_nI (n := 0) (by decide) (by decide))⟩
          refine ev_callV M_X4_isMissing [] [] 53 rfl rfl ln_X5_232 k_X4_isMissing rfl rfl rfl rfl rfl rfl (c_isMissing2 _) ?_
          refine pu_k ?_
          show xEv _ _ _ 38 ([some (.ref 0), some (.int ((2 : Int32))), some (.int (i)), some (.int ((0 : Int32))), some (.int (j)), some (.int (n)), some (.ref 53), some (.ref 49)], [.int (zi (σ 53 0 = -1))], σ)
          refine ev_br 0 [] (¬ (zi (σ 53 0 = -1)) = 0) 49 41 ([some (.ref 0), some (.int ((2 : Int32))), some (.int (i)), some (.int ((0 : Int32))), some (.int (j)), some (.int (n)), some (.ref 53), some (.ref 49)], [], σ) rfl ?_ (fun c38 => ?_) (fun c38 => ?_)
          · trivial
          · replace c38 := zi_1.mp c38
            refine ev_blk 1 [] 51 ([some (.ref 0), some (.int ((2 : Int32))), some (.int (i)), some (.int ((0 : Int32))), some (.int (j)), some (.int (n)), some (.ref 53), some (.ref 49)], [.int ((-11 : Int32))], σ) rfl ?_ ?_
            · trivial
            have e : s_cpy D (nI 2) i (nI 0) j n = (-11, D) := by rw [s_cpy, if_neg (fun q => q hg), if_neg (fun q => q hg2), hc, hc2, if_pos (by rw [← h0]; exact c38)]
            rw [e]
            exact ev_iret rfl rfl rfl ⟨rfl, hD, xFr.rf⟩
          · replace c38 := zi_n.mp c38
            refine ev_blk 1 [] 43 ([some (.ref 0), some (.int ((2 : Int32))), some (.int (i)), some (.int ((0 : Int32))), some (.int (j)), some (.int (n)), some (.ref 53), some (.ref 49)], [.ref 49], σ) rfl ?_ ?_
            · trivial
            refine ev_callV M_X4_isMissing [] [] 49 rfl rfl ln_X5_232 k_X4_isMissing rfl rfl rfl rfl rfl rfl (c_isMissing0 _) ?_
            refine pu_k ?_
            show xEv _ _ _ 46 ([some (.ref 0), some (.int ((2 : Int32))), some (.int (i)), some (.int ((0 : Int32))), some (.int (j)), some (.int (n)), some (.ref 53), some (.ref 49)], [.int (zi (σ 49 0 = -1))], σ)
            refine ev_br 0 [] ((zi (σ 49 0 = -1)) = 0) 52 49 ([some (.ref 0), some (.int ((2 : Int32))), some (.int (i)), some (.int ((0 : Int32))), some (.int (j)), some (.int (n)), some (.ref 53), some (.ref 49)], [], σ) rfl ?_ (fun c46 => ?_) (fun c46 => ?_)
            · trivial
            · replace c46 := zi_0.mp c46
              refine ev_br 4 [] ((σ 53 0) = (σ 49 0)) 68 65 ([some (.ref 0), some (.int ((2 : Int32))), some (.int (i)), some (.int ((0 : Int32))), some (.int (j)), some (.int (n)), some (.ref 53), some (.ref 49)], [], σ) rfl ?_ (fun c62 => ?_) (fun c62 => ?_)
              · trivial
              · refine ev_blk 3 [] 73 ([some (.ref 0), some (.int ((2 : Int32))), some (.int (i)), some (.int ((0 : Int32))), some (.int (j)), some (.int (n)), some (.ref 53), some (.ref 49)], [.int (n), .int (i), .ref 53], σ) rfl ?_ ?_
                · trivial
                refine ev_callV M_X4_hasRun [.int (i), .int (n)] [] 53 rfl rfl ln_X5_266 k_X4_hasRun rfl rfl rfl rfl rfl rfl (c_hasRun2 _ _ _) ?_
                refine pu_k ?_
                show xEv _ _ _ 76 ([some (.ref 0), some (.int ((2 : Int32))), some (.int (i)), some (.int ((0 : Int32))), some (.int (j)), some (.int (n)), some (.ref 53), some (.ref 49)], [.int (zi (¬ i < 0 ∧ ¬ n < 0 ∧ ¬ σ 53 1 < i ∧ ¬ σ 53 1 - i < n))], σ)
                refine ev_br 0 [] ((zi (¬ i < 0 ∧ ¬ n < 0 ∧ ¬ σ 53 1 < i ∧ ¬ σ 53 1 - i < n)) = 0) 91 79 ([some (.ref 0), some (.int ((2 : Int32))), some (.int (i)), some (.int ((0 : Int32))), some (.int (j)), some (.int (n)), some (.ref 53), some (.ref 49)], [], σ) rfl ?_ (fun c76 => ?_) (fun c76 => ?_)
                · trivial
                · replace c76 := zi_0.mp c76
                  refine ev_blk 1 [] 93 ([some (.ref 0), some (.int ((2 : Int32))), some (.int (i)), some (.int ((0 : Int32))), some (.int (j)), some (.int (n)), some (.ref 53), some (.ref 49)], [.int ((-12 : Int32))], σ) rfl ?_ ?_
                  · trivial
                  have e : s_cpy D (nI 2) i (nI 0) j n = (-12, D) := by rw [s_cpy, if_neg (fun q => q hg), if_neg (fun q => q hg2), hc, hc2, if_neg (by rw [← h0]; exact c38), if_neg (by rw [← k0]; exact c46), if_neg (fun q => q (h0.symm.trans (Eq.trans c62 k0))), if_neg (rn_no (p := 0) (q := 0) (Or.inl (fun q => c76 (by rw [show σ 53 1 = _ from h1]; exact (rnC ho.2).mpr q))))]
                  rw [e]
                  exact ev_iret rfl rfl rfl ⟨rfl, hD, xFr.rf⟩
                · replace c76 := zi_1.mp c76
                  refine ev_blk 3 [] 85 ([some (.ref 0), some (.int ((2 : Int32))), some (.int (i)), some (.int ((0 : Int32))), some (.int (j)), some (.int (n)), some (.ref 53), some (.ref 49)], [.int (n), .int (j), .ref 49], σ) rfl ?_ ?_
                  · trivial
                  refine ev_callV M_X4_hasRun [.int (j), .int (n)] [] 49 rfl rfl ln_X5_266 k_X4_hasRun rfl rfl rfl rfl rfl rfl (c_hasRun0 _ _ _) ?_
                  refine pu_k ?_
                  show xEv _ _ _ 88 ([some (.ref 0), some (.int ((2 : Int32))), some (.int (i)), some (.int ((0 : Int32))), some (.int (j)), some (.int (n)), some (.ref 53), some (.ref 49)], [.int (zi (¬ j < 0 ∧ ¬ n < 0 ∧ ¬ σ 49 1 < j ∧ ¬ σ 49 1 - j < n))], σ)
                  refine ev_br 0 [] (¬ (zi (¬ j < 0 ∧ ¬ n < 0 ∧ ¬ σ 49 1 < j ∧ ¬ σ 49 1 - j < n)) = 0) 94 91 ([some (.ref 0), some (.int ((2 : Int32))), some (.int (i)), some (.int ((0 : Int32))), some (.int (j)), some (.int (n)), some (.ref 53), some (.ref 49)], [], σ) rfl ?_ (fun c88 => ?_) (fun c88 => ?_)
                  · trivial
                  · replace c88 := zi_1.mp c88
                    have r1 := rn_cl ho.2 ((rnC ho.2).mp (by rw [show σ 53 1 = _ from h1] at c76; exact c76))
                    have r2 := rn_cl ko.2 ((rnC ko.2).mp (by rw [show σ 49 1 = _ from k1] at c88; exact c88))
                    refine ev_blk 9 [¬ i < 0, ¬ j < 0, ¬ n < 0, i.toNatClampNeg + n.toNatClampNeg ≤ 40, j.toNatClampNeg + n.toNatClampNeg ≤ 40] 114 ([some (.ref 0), some (.int ((2 : Int32))), some (.int (i)), some (.int ((0 : Int32))), some (.int (j)), some (.int (n)), some (.ref 53), some (.ref 49)], [.int (n)], (x_up σ 50 (va_cpy (σ 54) (σ 50) i.toNatClampNeg j.toNatClampNeg n.toNatClampNeg))) rfl ?_ ?_
                    · exact ⟨r1.1, r2.1, r1.2.1, Nat.le_trans r1.2.2 ho.2, Nat.le_trans r2.2.2 ko.2⟩
                    have e : s_cpy D (nI 2) i (nI 0) j n = (n, updD D 0 ((D 0).1, (D 0).2.1, va_cpy (D 2).2.2 (D 0).2.2 i.toNatClampNeg j.toNatClampNeg n.toNatClampNeg)) := by rw [s_cpy, if_neg (fun q => q hg), if_neg (fun q => q hg2), hc, hc2, if_neg (by rw [← h0]; exact c38), if_neg (by rw [← k0]; exact c46), if_neg (fun q => q (h0.symm.trans (Eq.trans c62 k0))), if_pos ⟨by rintro (q | q | q); exact r1.1 q; exact r1.2.1 q; exact r2.1 q, r1.2.2, r2.2.2⟩]
                    rw [e]
                    exact ev_iret rfl rfl rfl ⟨rfl, shC_put (W := 0) hD ko (fun c _ _ a b => x_up_ne b) (by rw [x_up_ne (by decide)]; exact k0) (by rw [x_up_ne (by decide)]; exact k1) (fun z hz => by rw [x_up_eq]; exact va_cpy_c hi ki (by have := r1.2.2; have := ho.2; omega) hz), fun c hc => x_up_ne (fun z => hc (by rw [z]; decide))⟩
                  · replace c88 := zi_n.mp c88
                    refine ev_blk 1 [] 93 ([some (.ref 0), some (.int ((2 : Int32))), some (.int (i)), some (.int ((0 : Int32))), some (.int (j)), some (.int (n)), some (.ref 53), some (.ref 49)], [.int ((-12 : Int32))], σ) rfl ?_ ?_
                    · trivial
                    have e : s_cpy D (nI 2) i (nI 0) j n = (-12, D) := by rw [s_cpy, if_neg (fun q => q hg), if_neg (fun q => q hg2), hc, hc2, if_neg (by rw [← h0]; exact c38), if_neg (by rw [← k0]; exact c46), if_neg (fun q => q (h0.symm.trans (Eq.trans c62 k0))), if_neg (rn_no (p := 0) (q := 0) (Or.inr (fun q => c88 (by rw [show σ 49 1 = _ from k1]; exact (rnC ko.2).mpr q))))]
                    rw [e]
                    exact ev_iret rfl rfl rfl ⟨rfl, hD, xFr.rf⟩
              · refine ev_blk 1 [] 67 ([some (.ref 0), some (.int ((2 : Int32))), some (.int (i)), some (.int ((0 : Int32))), some (.int (j)), some (.int (n)), some (.ref 53), some (.ref 49)], [.int ((-13 : Int32))], σ) rfl ?_ ?_
                · trivial
                have e : s_cpy D (nI 2) i (nI 0) j n = (-13, D) := by rw [s_cpy, if_neg (fun q => q hg), if_neg (fun q => q hg2), hc, hc2, if_neg (by rw [← h0]; exact c38), if_neg (by rw [← k0]; exact c46), if_pos (fun z => c62 (h0.trans (z.trans k0.symm)))]
                rw [e]
                exact ev_iret rfl rfl rfl ⟨rfl, hD, xFr.rf⟩
            · replace c46 := zi_1.mp c46
              refine ev_blk 1 [] 51 ([some (.ref 0), some (.int ((2 : Int32))), some (.int (i)), some (.int ((0 : Int32))), some (.int (j)), some (.int (n)), some (.ref 53), some (.ref 49)], [.int ((-11 : Int32))], σ) rfl ?_ ?_
              · trivial
              have e : s_cpy D (nI 2) i (nI 0) j n = (-11, D) := by rw [s_cpy, if_neg (fun q => q hg), if_neg (fun q => q hg2), hc, hc2, if_neg (by rw [← h0]; exact c38), if_pos (by rw [← k0]; exact c46)]
              rw [e]
              exact ev_iret rfl rfl rfl ⟨rfl, hD, xFr.rf⟩
        · exact absurd (by decide) c11
    · have hg : iN 4 (nI 1) := iN_nI (by decide) (by decide)
      have hg2 : iN 4 (nI 1) := iN_nI (by decide) (by decide)
      obtain ⟨ko, k0, k1, ki⟩ := hD 1 (by decide)
      have hc2 : (nI 1).toNatClampNeg = 1 := rfl
      show xEv _ _ _ 0 ([some (.ref 0), some (.int ((2 : Int32))), some (.int (i)), some (.int ((1 : Int32))), some (.int (j)), some (.int (n)), none, none], [], σ)
      refine ev_blk 1 [] 1 ([some (.ref 0), some (.int ((2 : Int32))), some (.int (i)), some (.int ((1 : Int32))), some (.int (j)), some (.int (n)), none, none], [.int ((2 : Int32))], σ) rfl ?_ ?_
      · trivial
      refine ev_callS M_X5_isSheet [.int ((2 : Int32))] [] rfl rfl ln_X5_229 k_X5_isSheet rfl rfl rfl (c_isSheet _ _) ?_
      refine pu_k ?_
      rw [zi_t (show ¬ ((2 : Int32)) < 0 ∧ ¬ (4 : Int32) ≤ ((2 : Int32)) by decide)]
      show xEv _ _ _ 4 ([some (.ref 0), some (.int ((2 : Int32))), some (.int (i)), some (.int ((1 : Int32))), some (.int (j)), some (.int (n)), none, none], [.int ((1 : Int32))], σ)
      refine ev_br 0 [] ((1 : Int32) = 0) 14 7 ([some (.ref 0), some (.int ((2 : Int32))), some (.int (i)), some (.int ((1 : Int32))), some (.int (j)), some (.int (n)), none, none], [], σ) rfl ?_ (fun c4 => ?_) (fun c4 => ?_)
      · trivial
      · exact absurd c4 (by decide)
      · refine ev_blk 1 [] 8 ([some (.ref 0), some (.int ((2 : Int32))), some (.int (i)), some (.int ((1 : Int32))), some (.int (j)), some (.int (n)), none, none], [.int ((1 : Int32))], σ) rfl ?_ ?_
        · trivial
        refine ev_callS M_X5_isSheet [.int ((1 : Int32))] [] rfl rfl ln_X5_229 k_X5_isSheet rfl rfl rfl (c_isSheet _ _) ?_
        refine pu_k ?_
        rw [zi_t (show ¬ ((1 : Int32)) < 0 ∧ ¬ (4 : Int32) ≤ ((1 : Int32)) by decide)]
        show xEv _ _ _ 11 ([some (.ref 0), some (.int ((2 : Int32))), some (.int (i)), some (.int ((1 : Int32))), some (.int (j)), some (.int (n)), none, none], [.int ((1 : Int32))], σ)
        refine ev_br 0 [] (¬ (1 : Int32) = 0) 17 14 ([some (.ref 0), some (.int ((2 : Int32))), some (.int (i)), some (.int ((1 : Int32))), some (.int (j)), some (.int (n)), none, none], [], σ) rfl ?_ (fun c11 => ?_) (fun c11 => ?_)
        · trivial
        · refine ev_blk 11 [vp_in ((2 : Int32)) 4, vp_in ((1 : Int32)) 4] 35 ([some (.ref 0), some (.int ((2 : Int32))), some (.int (i)), some (.int ((1 : Int32))), some (.int (j)), some (.int (n)), some (.ref 53), some (.ref 51)], [.ref 53], σ) rfl ?_ ?_
          · exact ⟨(vp_in_nI (n := 2) (by decide) (by decide)), (vp_in_nI (n := 1) (by decide) (by decide))⟩
          refine ev_callV M_X4_isMissing [] [] 53 rfl rfl ln_X5_232 k_X4_isMissing rfl rfl rfl rfl rfl rfl (c_isMissing2 _) ?_
          refine pu_k ?_
          show xEv _ _ _ 38 ([some (.ref 0), some (.int ((2 : Int32))), some (.int (i)), some (.int ((1 : Int32))), some (.int (j)), some (.int (n)), some (.ref 53), some (.ref 51)], [.int (zi (σ 53 0 = -1))], σ)
          refine ev_br 0 [] (¬ (zi (σ 53 0 = -1)) = 0) 49 41 ([some (.ref 0), some (.int ((2 : Int32))), some (.int (i)), some (.int ((1 : Int32))), some (.int (j)), some (.int (n)), some (.ref 53), some (.ref 51)], [], σ) rfl ?_ (fun c38 => ?_) (fun c38 => ?_)
          · trivial
          · replace c38 := zi_1.mp c38
            refine ev_blk 1 [] 51 ([some (.ref 0), some (.int ((2 : Int32))), some (.int (i)), some (.int ((1 : Int32))), some (.int (j)), some (.int (n)), some (.ref 53), some (.ref 51)], [.int ((-11 : Int32))], σ) rfl ?_ ?_
            · trivial
            have e : s_cpy D (nI 2) i (nI 1) j n = (-11, D) := by rw [s_cpy, if_neg (fun q => q hg), if_neg (fun q => q hg2), hc, hc2, if_pos (by rw [← h0]; exact c38)]
            rw [e]
            exact ev_iret rfl rfl rfl ⟨rfl, hD, xFr.rf⟩
          · replace c38 := zi_n.mp c38
            refine ev_blk 1 [] 43 ([some (.ref 0), some (.int ((2 : Int32))), some (.int (i)), some (.int ((1 : Int32))), some (.int (j)), some (.int (n)), some (.ref 53), some (.ref 51)], [.ref 51], σ) rfl ?_ ?_
            · trivial
            refine ev_callV M_X4_isMissing [] [] 51 rfl rfl ln_X5_232 k_X4_isMissing rfl rfl rfl rfl rfl rfl (c_isMissing1 _) ?_
            refine pu_k ?_
            show xEv _ _ _ 46 ([some (.ref 0), some (.int ((2 : Int32))), some (.int (i)), some (.int ((1 : Int32))), some (.int (j)), some (.int (n)), some (.ref 53), some (.ref 51)], [.int (zi (σ 51 0 = -1))], σ)
            refine ev_br 0 [] ((zi (σ 51 0 = -1)) = 0) 52 49 ([some (.ref 0), some (.int ((2 : Int32))), some (.int (i)), some (.int ((1 : Int32))), some (.int (j)), some (.int (n)), some (.ref 53), some (.ref 51)], [], σ) rfl ?_ (fun c46 => ?_) (fun c46 => ?_)
            · trivial
            · replace c46 := zi_0.mp c46
              refine ev_br 4 [] ((σ 53 0) = (σ 51 0)) 68 65 ([some (.ref 0), some (.int ((2 : Int32))), some (.int (i)), some (.int ((1 : Int32))), some (.int (j)), some (.int (n)), some (.ref 53), some (.ref 51)], [], σ) rfl ?_ (fun c62 => ?_) (fun c62 => ?_)
              · trivial
              · refine ev_blk 3 [] 73 ([some (.ref 0), some (.int ((2 : Int32))), some (.int (i)), some (.int ((1 : Int32))), some (.int (j)), some (.int (n)), some (.ref 53), some (.ref 51)], [.int (n), .int (i), .ref 53], σ) rfl ?_ ?_
                · trivial
                refine ev_callV M_X4_hasRun [.int (i), .int (n)] [] 53 rfl rfl ln_X5_266 k_X4_hasRun rfl rfl rfl rfl rfl rfl (c_hasRun2 _ _ _) ?_
                refine pu_k ?_
                show xEv _ _ _ 76 ([some (.ref 0), some (.int ((2 : Int32))), some (.int (i)), some (.int ((1 : Int32))), some (.int (j)), some (.int (n)), some (.ref 53), some (.ref 51)], [.int (zi (¬ i < 0 ∧ ¬ n < 0 ∧ ¬ σ 53 1 < i ∧ ¬ σ 53 1 - i < n))], σ)
                refine ev_br 0 [] ((zi (¬ i < 0 ∧ ¬ n < 0 ∧ ¬ σ 53 1 < i ∧ ¬ σ 53 1 - i < n)) = 0) 91 79 ([some (.ref 0), some (.int ((2 : Int32))), some (.int (i)), some (.int ((1 : Int32))), some (.int (j)), some (.int (n)), some (.ref 53), some (.ref 51)], [], σ) rfl ?_ (fun c76 => ?_) (fun c76 => ?_)
                · trivial
                · replace c76 := zi_0.mp c76
                  refine ev_blk 1 [] 93 ([some (.ref 0), some (.int ((2 : Int32))), some (.int (i)), some (.int ((1 : Int32))), some (.int (j)), some (.int (n)), some (.ref 53), some (.ref 51)], [.int ((-12 : Int32))], σ) rfl ?_ ?_
                  · trivial
                  have e : s_cpy D (nI 2) i (nI 1) j n = (-12, D) := by rw [s_cpy, if_neg (fun q => q hg), if_neg (fun q => q hg2), hc, hc2, if_neg (by rw [← h0]; exact c38), if_neg (by rw [← k0]; exact c46), if_neg (fun q => q (h0.symm.trans (Eq.trans c62 k0))), if_neg (rn_no (p := 0) (q := 0) (Or.inl (fun q => c76 (by rw [show σ 53 1 = _ from h1]; exact (rnC ho.2).mpr q))))]
                  rw [e]
                  exact ev_iret rfl rfl rfl ⟨rfl, hD, xFr.rf⟩
                · replace c76 := zi_1.mp c76
                  refine ev_blk 3 [] 85 ([some (.ref 0), some (.int ((2 : Int32))), some (.int (i)), some (.int ((1 : Int32))), some (.int (j)), some (.int (n)), some (.ref 53), some (.ref 51)], [.int (n), .int (j), .ref 51], σ) rfl ?_ ?_
                  · trivial
                  refine ev_callV M_X4_hasRun [.int (j), .int (n)] [] 51 rfl rfl ln_X5_266 k_X4_hasRun rfl rfl rfl rfl rfl rfl (c_hasRun1 _ _ _) ?_
                  refine pu_k ?_
                  show xEv _ _ _ 88 ([some (.ref 0), some (.int ((2 : Int32))), some (.int (i)), some (.int ((1 : Int32))), some (.int (j)), some (.int (n)), some (.ref 53), some (.ref 51)], [.int (zi (¬ j < 0 ∧ ¬ n < 0 ∧ ¬ σ 51 1 < j ∧ ¬ σ 51 1 - j < n))], σ)
                  refine ev_br 0 [] (¬ (zi (¬ j < 0 ∧ ¬ n < 0 ∧ ¬ σ 51 1 < j ∧ ¬ σ 51 1 - j < n)) = 0) 94 91 ([some (.ref 0), some (.int ((2 : Int32))), some (.int (i)), some (.int ((1 : Int32))), some (.int (j)), some (.int (n)), some (.ref 53), some (.ref 51)], [], σ) rfl ?_ (fun c88 => ?_) (fun c88 => ?_)
                  · trivial
                  · replace c88 := zi_1.mp c88
                    have r1 := rn_cl ho.2 ((rnC ho.2).mp (by rw [show σ 53 1 = _ from h1] at c76; exact c76))
                    have r2 := rn_cl ko.2 ((rnC ko.2).mp (by rw [show σ 51 1 = _ from k1] at c88; exact c88))
                    refine ev_blk 9 [¬ i < 0, ¬ j < 0, ¬ n < 0, i.toNatClampNeg + n.toNatClampNeg ≤ 40, j.toNatClampNeg + n.toNatClampNeg ≤ 40] 114 ([some (.ref 0), some (.int ((2 : Int32))), some (.int (i)), some (.int ((1 : Int32))), some (.int (j)), some (.int (n)), some (.ref 53), some (.ref 51)], [.int (n)], (x_up σ 52 (va_cpy (σ 54) (σ 52) i.toNatClampNeg j.toNatClampNeg n.toNatClampNeg))) rfl ?_ ?_
                    · exact ⟨r1.1, r2.1, r1.2.1, Nat.le_trans r1.2.2 ho.2, Nat.le_trans r2.2.2 ko.2⟩
                    have e : s_cpy D (nI 2) i (nI 1) j n = (n, updD D 1 ((D 1).1, (D 1).2.1, va_cpy (D 2).2.2 (D 1).2.2 i.toNatClampNeg j.toNatClampNeg n.toNatClampNeg)) := by rw [s_cpy, if_neg (fun q => q hg), if_neg (fun q => q hg2), hc, hc2, if_neg (by rw [← h0]; exact c38), if_neg (by rw [← k0]; exact c46), if_neg (fun q => q (h0.symm.trans (Eq.trans c62 k0))), if_pos ⟨by rintro (q | q | q); exact r1.1 q; exact r1.2.1 q; exact r2.1 q, r1.2.2, r2.2.2⟩]
                    rw [e]
                    exact ev_iret rfl rfl rfl ⟨rfl, shC_put (W := 1) hD ko (fun c _ _ a b => x_up_ne b) (by rw [x_up_ne (by decide)]; exact k0) (by rw [x_up_ne (by decide)]; exact k1) (fun z hz => by rw [x_up_eq]; exact va_cpy_c hi ki (by have := r1.2.2; have := ho.2; omega) hz), fun c hc => x_up_ne (fun z => hc (by rw [z]; decide))⟩
                  · replace c88 := zi_n.mp c88
                    refine ev_blk 1 [] 93 ([some (.ref 0), some (.int ((2 : Int32))), some (.int (i)), some (.int ((1 : Int32))), some (.int (j)), some (.int (n)), some (.ref 53), some (.ref 51)], [.int ((-12 : Int32))], σ) rfl ?_ ?_
                    · trivial
                    have e : s_cpy D (nI 2) i (nI 1) j n = (-12, D) := by rw [s_cpy, if_neg (fun q => q hg), if_neg (fun q => q hg2), hc, hc2, if_neg (by rw [← h0]; exact c38), if_neg (by rw [← k0]; exact c46), if_neg (fun q => q (h0.symm.trans (Eq.trans c62 k0))), if_neg (rn_no (p := 0) (q := 0) (Or.inr (fun q => c88 (by rw [show σ 51 1 = _ from k1]; exact (rnC ko.2).mpr q))))]
                    rw [e]
                    exact ev_iret rfl rfl rfl ⟨rfl, hD, xFr.rf⟩
              · refine ev_blk 1 [] 67 ([some (.ref 0), some (.int ((2 : Int32))), some (.int (i)), some (.int ((1 : Int32))), some (.int (j)), some (.int (n)), some (.ref 53), some (.ref 51)], [.int ((-13 : Int32))], σ) rfl ?_ ?_
                · trivial
                have e : s_cpy D (nI 2) i (nI 1) j n = (-13, D) := by rw [s_cpy, if_neg (fun q => q hg), if_neg (fun q => q hg2), hc, hc2, if_neg (by rw [← h0]; exact c38), if_neg (by rw [← k0]; exact c46), if_pos (fun z => c62 (h0.trans (z.trans k0.symm)))]
                rw [e]
                exact ev_iret rfl rfl rfl ⟨rfl, hD, xFr.rf⟩
            · replace c46 := zi_1.mp c46
              refine ev_blk 1 [] 51 ([some (.ref 0), some (.int ((2 : Int32))), some (.int (i)), some (.int ((1 : Int32))), some (.int (j)), some (.int (n)), some (.ref 53), some (.ref 51)], [.int ((-11 : Int32))], σ) rfl ?_ ?_
              · trivial
              have e : s_cpy D (nI 2) i (nI 1) j n = (-11, D) := by rw [s_cpy, if_neg (fun q => q hg), if_neg (fun q => q hg2), hc, hc2, if_neg (by rw [← h0]; exact c38), if_pos (by rw [← k0]; exact c46)]
              rw [e]
              exact ev_iret rfl rfl rfl ⟨rfl, hD, xFr.rf⟩
        · exact absurd (by decide) c11
    · have hg : iN 4 (nI 2) := iN_nI (by decide) (by decide)
      have hg2 : iN 4 (nI 2) := iN_nI (by decide) (by decide)
      obtain ⟨ko, k0, k1, ki⟩ := hD 2 (by decide)
      have hc2 : (nI 2).toNatClampNeg = 2 := rfl
      show xEv _ _ _ 0 ([some (.ref 0), some (.int ((2 : Int32))), some (.int (i)), some (.int ((2 : Int32))), some (.int (j)), some (.int (n)), none, none], [], σ)
      refine ev_blk 1 [] 1 ([some (.ref 0), some (.int ((2 : Int32))), some (.int (i)), some (.int ((2 : Int32))), some (.int (j)), some (.int (n)), none, none], [.int ((2 : Int32))], σ) rfl ?_ ?_
      · trivial
      refine ev_callS M_X5_isSheet [.int ((2 : Int32))] [] rfl rfl ln_X5_229 k_X5_isSheet rfl rfl rfl (c_isSheet _ _) ?_
      refine pu_k ?_
      rw [zi_t (show ¬ ((2 : Int32)) < 0 ∧ ¬ (4 : Int32) ≤ ((2 : Int32)) by decide)]
      show xEv _ _ _ 4 ([some (.ref 0), some (.int ((2 : Int32))), some (.int (i)), some (.int ((2 : Int32))), some (.int (j)), some (.int (n)), none, none], [.int ((1 : Int32))], σ)
      refine ev_br 0 [] ((1 : Int32) = 0) 14 7 ([some (.ref 0), some (.int ((2 : Int32))), some (.int (i)), some (.int ((2 : Int32))), some (.int (j)), some (.int (n)), none, none], [], σ) rfl ?_ (fun c4 => ?_) (fun c4 => ?_)
      · trivial
      · exact absurd c4 (by decide)
      · refine ev_blk 1 [] 8 ([some (.ref 0), some (.int ((2 : Int32))), some (.int (i)), some (.int ((2 : Int32))), some (.int (j)), some (.int (n)), none, none], [.int ((2 : Int32))], σ) rfl ?_ ?_
        · trivial
        refine ev_callS M_X5_isSheet [.int ((2 : Int32))] [] rfl rfl ln_X5_229 k_X5_isSheet rfl rfl rfl (c_isSheet _ _) ?_
        refine pu_k ?_
        rw [zi_t (show ¬ ((2 : Int32)) < 0 ∧ ¬ (4 : Int32) ≤ ((2 : Int32)) by decide)]
        show xEv _ _ _ 11 ([some (.ref 0), some (.int ((2 : Int32))), some (.int (i)), some (.int ((2 : Int32))), some (.int (j)), some (.int (n)), none, none], [.int ((1 : Int32))], σ)
        refine ev_br 0 [] (¬ (1 : Int32) = 0) 17 14 ([some (.ref 0), some (.int ((2 : Int32))), some (.int (i)), some (.int ((2 : Int32))), some (.int (j)), some (.int (n)), none, none], [], σ) rfl ?_ (fun c11 => ?_) (fun c11 => ?_)
        · trivial
        · refine ev_blk 11 [vp_in ((2 : Int32)) 4, vp_in ((2 : Int32)) 4] 35 ([some (.ref 0), some (.int ((2 : Int32))), some (.int (i)), some (.int ((2 : Int32))), some (.int (j)), some (.int (n)), some (.ref 53), some (.ref 53)], [.ref 53], σ) rfl ?_ ?_
          · exact ⟨(vp_in_nI (n := 2) (by decide) (by decide)), (vp_in_nI (n := 2) (by decide) (by decide))⟩
          refine ev_callV M_X4_isMissing [] [] 53 rfl rfl ln_X5_232 k_X4_isMissing rfl rfl rfl rfl rfl rfl (c_isMissing2 _) ?_
          refine pu_k ?_
          show xEv _ _ _ 38 ([some (.ref 0), some (.int ((2 : Int32))), some (.int (i)), some (.int ((2 : Int32))), some (.int (j)), some (.int (n)), some (.ref 53), some (.ref 53)], [.int (zi (σ 53 0 = -1))], σ)
          refine ev_br 0 [] (¬ (zi (σ 53 0 = -1)) = 0) 49 41 ([some (.ref 0), some (.int ((2 : Int32))), some (.int (i)), some (.int ((2 : Int32))), some (.int (j)), some (.int (n)), some (.ref 53), some (.ref 53)], [], σ) rfl ?_ (fun c38 => ?_) (fun c38 => ?_)
          · trivial
          · replace c38 := zi_1.mp c38
            refine ev_blk 1 [] 51 ([some (.ref 0), some (.int ((2 : Int32))), some (.int (i)), some (.int ((2 : Int32))), some (.int (j)), some (.int (n)), some (.ref 53), some (.ref 53)], [.int ((-11 : Int32))], σ) rfl ?_ ?_
            · trivial
            have e : s_cpy D (nI 2) i (nI 2) j n = (-11, D) := by rw [s_cpy, if_neg (fun q => q hg), if_neg (fun q => q hg2), hc, if_pos (by rw [← h0]; exact c38)]
            rw [e]
            exact ev_iret rfl rfl rfl ⟨rfl, hD, xFr.rf⟩
          · replace c38 := zi_n.mp c38
            refine ev_blk 1 [] 43 ([some (.ref 0), some (.int ((2 : Int32))), some (.int (i)), some (.int ((2 : Int32))), some (.int (j)), some (.int (n)), some (.ref 53), some (.ref 53)], [.ref 53], σ) rfl ?_ ?_
            · trivial
            refine ev_callV M_X4_isMissing [] [] 53 rfl rfl ln_X5_232 k_X4_isMissing rfl rfl rfl rfl rfl rfl (c_isMissing2 _) ?_
            refine pu_k ?_
            show xEv _ _ _ 46 ([some (.ref 0), some (.int ((2 : Int32))), some (.int (i)), some (.int ((2 : Int32))), some (.int (j)), some (.int (n)), some (.ref 53), some (.ref 53)], [.int (zi (σ 53 0 = -1))], σ)
            refine ev_br 0 [] ((zi (σ 53 0 = -1)) = 0) 52 49 ([some (.ref 0), some (.int ((2 : Int32))), some (.int (i)), some (.int ((2 : Int32))), some (.int (j)), some (.int (n)), some (.ref 53), some (.ref 53)], [], σ) rfl ?_ (fun c46 => ?_) (fun c46 => ?_)
            · trivial
            · replace c46 := zi_0.mp c46
              refine ev_br 4 [] ((σ 53 0) = (σ 53 0)) 68 65 ([some (.ref 0), some (.int ((2 : Int32))), some (.int (i)), some (.int ((2 : Int32))), some (.int (j)), some (.int (n)), some (.ref 53), some (.ref 53)], [], σ) rfl ?_ (fun c62 => ?_) (fun c62 => ?_)
              · trivial
              · refine ev_blk 3 [] 73 ([some (.ref 0), some (.int ((2 : Int32))), some (.int (i)), some (.int ((2 : Int32))), some (.int (j)), some (.int (n)), some (.ref 53), some (.ref 53)], [.int (n), .int (i), .ref 53], σ) rfl ?_ ?_
                · trivial
                refine ev_callV M_X4_hasRun [.int (i), .int (n)] [] 53 rfl rfl ln_X5_266 k_X4_hasRun rfl rfl rfl rfl rfl rfl (c_hasRun2 _ _ _) ?_
                refine pu_k ?_
                show xEv _ _ _ 76 ([some (.ref 0), some (.int ((2 : Int32))), some (.int (i)), some (.int ((2 : Int32))), some (.int (j)), some (.int (n)), some (.ref 53), some (.ref 53)], [.int (zi (¬ i < 0 ∧ ¬ n < 0 ∧ ¬ σ 53 1 < i ∧ ¬ σ 53 1 - i < n))], σ)
                refine ev_br 0 [] ((zi (¬ i < 0 ∧ ¬ n < 0 ∧ ¬ σ 53 1 < i ∧ ¬ σ 53 1 - i < n)) = 0) 91 79 ([some (.ref 0), some (.int ((2 : Int32))), some (.int (i)), some (.int ((2 : Int32))), some (.int (j)), some (.int (n)), some (.ref 53), some (.ref 53)], [], σ) rfl ?_ (fun c76 => ?_) (fun c76 => ?_)
                · trivial
                · replace c76 := zi_0.mp c76
                  refine ev_blk 1 [] 93 ([some (.ref 0), some (.int ((2 : Int32))), some (.int (i)), some (.int ((2 : Int32))), some (.int (j)), some (.int (n)), some (.ref 53), some (.ref 53)], [.int ((-12 : Int32))], σ) rfl ?_ ?_
                  · trivial
                  have e : s_cpy D (nI 2) i (nI 2) j n = (-12, D) := by rw [s_cpy, if_neg (fun q => q hg), if_neg (fun q => q hg2), hc, if_neg (by rw [← h0]; exact c38), if_neg (by rw [← k0]; exact c46), if_neg (fun q => q (h0.symm.trans (Eq.trans c62 k0))), if_neg (rn_no (p := 0) (q := 0) (Or.inl (fun q => c76 (by rw [show σ 53 1 = _ from h1]; exact (rnC ho.2).mpr q))))]
                  rw [e]
                  exact ev_iret rfl rfl rfl ⟨rfl, hD, xFr.rf⟩
                · replace c76 := zi_1.mp c76
                  refine ev_blk 3 [] 85 ([some (.ref 0), some (.int ((2 : Int32))), some (.int (i)), some (.int ((2 : Int32))), some (.int (j)), some (.int (n)), some (.ref 53), some (.ref 53)], [.int (n), .int (j), .ref 53], σ) rfl ?_ ?_
                  · trivial
                  refine ev_callV M_X4_hasRun [.int (j), .int (n)] [] 53 rfl rfl ln_X5_266 k_X4_hasRun rfl rfl rfl rfl rfl rfl (c_hasRun2 _ _ _) ?_
                  refine pu_k ?_
                  show xEv _ _ _ 88 ([some (.ref 0), some (.int ((2 : Int32))), some (.int (i)), some (.int ((2 : Int32))), some (.int (j)), some (.int (n)), some (.ref 53), some (.ref 53)], [.int (zi (¬ j < 0 ∧ ¬ n < 0 ∧ ¬ σ 53 1 < j ∧ ¬ σ 53 1 - j < n))], σ)
                  refine ev_br 0 [] (¬ (zi (¬ j < 0 ∧ ¬ n < 0 ∧ ¬ σ 53 1 < j ∧ ¬ σ 53 1 - j < n)) = 0) 94 91 ([some (.ref 0), some (.int ((2 : Int32))), some (.int (i)), some (.int ((2 : Int32))), some (.int (j)), some (.int (n)), some (.ref 53), some (.ref 53)], [], σ) rfl ?_ (fun c88 => ?_) (fun c88 => ?_)
                  · trivial
                  · replace c88 := zi_1.mp c88
                    have r1 := rn_cl ho.2 ((rnC ho.2).mp (by rw [show σ 53 1 = _ from h1] at c76; exact c76))
                    have r2 := rn_cl ko.2 ((rnC ko.2).mp (by rw [show σ 53 1 = _ from k1] at c88; exact c88))
                    refine ev_blk 9 [¬ i < 0, ¬ j < 0, ¬ n < 0, i.toNatClampNeg + n.toNatClampNeg ≤ 40, j.toNatClampNeg + n.toNatClampNeg ≤ 40] 114 ([some (.ref 0), some (.int ((2 : Int32))), some (.int (i)), some (.int ((2 : Int32))), some (.int (j)), some (.int (n)), some (.ref 53), some (.ref 53)], [.int (n)], (x_up σ 54 (va_cpy (σ 54) (σ 54) i.toNatClampNeg j.toNatClampNeg n.toNatClampNeg))) rfl ?_ ?_
                    · exact ⟨r1.1, r2.1, r1.2.1, Nat.le_trans r1.2.2 ho.2, Nat.le_trans r2.2.2 ko.2⟩
                    have e : s_cpy D (nI 2) i (nI 2) j n = (n, updD D 2 ((D 2).1, (D 2).2.1, va_cpy (D 2).2.2 (D 2).2.2 i.toNatClampNeg j.toNatClampNeg n.toNatClampNeg)) := by rw [s_cpy, if_neg (fun q => q hg), if_neg (fun q => q hg2), hc, if_neg (by rw [← h0]; exact c38), if_neg (by rw [← k0]; exact c46), if_neg (fun q => q (h0.symm.trans (Eq.trans c62 k0))), if_pos ⟨by rintro (q | q | q); exact r1.1 q; exact r1.2.1 q; exact r2.1 q, r1.2.2, r2.2.2⟩]
                    rw [e]
                    exact ev_iret rfl rfl rfl ⟨rfl, shC_put (W := 2) hD ko (fun c _ _ a b => x_up_ne b) (by rw [x_up_ne (by decide)]; exact k0) (by rw [x_up_ne (by decide)]; exact k1) (fun z hz => by rw [x_up_eq]; exact va_cpy_c hi ki (by have := r1.2.2; have := ho.2; omega) hz), fun c hc => x_up_ne (fun z => hc (by rw [z]; decide))⟩
                  · replace c88 := zi_n.mp c88
                    refine ev_blk 1 [] 93 ([some (.ref 0), some (.int ((2 : Int32))), some (.int (i)), some (.int ((2 : Int32))), some (.int (j)), some (.int (n)), some (.ref 53), some (.ref 53)], [.int ((-12 : Int32))], σ) rfl ?_ ?_
                    · trivial
                    have e : s_cpy D (nI 2) i (nI 2) j n = (-12, D) := by rw [s_cpy, if_neg (fun q => q hg), if_neg (fun q => q hg2), hc, if_neg (by rw [← h0]; exact c38), if_neg (by rw [← k0]; exact c46), if_neg (fun q => q (h0.symm.trans (Eq.trans c62 k0))), if_neg (rn_no (p := 0) (q := 0) (Or.inr (fun q => c88 (by rw [show σ 53 1 = _ from k1]; exact (rnC ko.2).mpr q))))]
                    rw [e]
                    exact ev_iret rfl rfl rfl ⟨rfl, hD, xFr.rf⟩
              · refine ev_blk 1 [] 67 ([some (.ref 0), some (.int ((2 : Int32))), some (.int (i)), some (.int ((2 : Int32))), some (.int (j)), some (.int (n)), some (.ref 53), some (.ref 53)], [.int ((-13 : Int32))], σ) rfl ?_ ?_
                · trivial
                have e : s_cpy D (nI 2) i (nI 2) j n = (-13, D) := by rw [s_cpy, if_neg (fun q => q hg), if_neg (fun q => q hg2), hc, if_neg (by rw [← h0]; exact c38), if_neg (by rw [← k0]; exact c46), if_pos (fun z => c62 (h0.trans (z.trans k0.symm)))]
                rw [e]
                exact ev_iret rfl rfl rfl ⟨rfl, hD, xFr.rf⟩
            · replace c46 := zi_1.mp c46
              refine ev_blk 1 [] 51 ([some (.ref 0), some (.int ((2 : Int32))), some (.int (i)), some (.int ((2 : Int32))), some (.int (j)), some (.int (n)), some (.ref 53), some (.ref 53)], [.int ((-11 : Int32))], σ) rfl ?_ ?_
              · trivial
              have e : s_cpy D (nI 2) i (nI 2) j n = (-11, D) := by rw [s_cpy, if_neg (fun q => q hg), if_neg (fun q => q hg2), hc, if_neg (by rw [← h0]; exact c38), if_pos (by rw [← k0]; exact c46)]
              rw [e]
              exact ev_iret rfl rfl rfl ⟨rfl, hD, xFr.rf⟩
        · exact absurd (by decide) c11
    · have hg : iN 4 (nI 3) := iN_nI (by decide) (by decide)
      have hg2 : iN 4 (nI 3) := iN_nI (by decide) (by decide)
      obtain ⟨ko, k0, k1, ki⟩ := hD 3 (by decide)
      have hc2 : (nI 3).toNatClampNeg = 3 := rfl
      show xEv _ _ _ 0 ([some (.ref 0), some (.int ((2 : Int32))), some (.int (i)), some (.int ((3 : Int32))), some (.int (j)), some (.int (n)), none, none], [], σ)
      refine ev_blk 1 [] 1 ([some (.ref 0), some (.int ((2 : Int32))), some (.int (i)), some (.int ((3 : Int32))), some (.int (j)), some (.int (n)), none, none], [.int ((2 : Int32))], σ) rfl ?_ ?_
      · trivial
      refine ev_callS M_X5_isSheet [.int ((2 : Int32))] [] rfl rfl ln_X5_229 k_X5_isSheet rfl rfl rfl (c_isSheet _ _) ?_
      refine pu_k ?_
      rw [zi_t (show ¬ ((2 : Int32)) < 0 ∧ ¬ (4 : Int32) ≤ ((2 : Int32)) by decide)]
      show xEv _ _ _ 4 ([some (.ref 0), some (.int ((2 : Int32))), some (.int (i)), some (.int ((3 : Int32))), some (.int (j)), some (.int (n)), none, none], [.int ((1 : Int32))], σ)
      refine ev_br 0 [] ((1 : Int32) = 0) 14 7 ([some (.ref 0), some (.int ((2 : Int32))), some (.int (i)), some (.int ((3 : Int32))), some (.int (j)), some (.int (n)), none, none], [], σ) rfl ?_ (fun c4 => ?_) (fun c4 => ?_)
      · trivial
      · exact absurd c4 (by decide)
      · refine ev_blk 1 [] 8 ([some (.ref 0), some (.int ((2 : Int32))), some (.int (i)), some (.int ((3 : Int32))), some (.int (j)), some (.int (n)), none, none], [.int ((3 : Int32))], σ) rfl ?_ ?_
        · trivial
        refine ev_callS M_X5_isSheet [.int ((3 : Int32))] [] rfl rfl ln_X5_229 k_X5_isSheet rfl rfl rfl (c_isSheet _ _) ?_
        refine pu_k ?_
        rw [zi_t (show ¬ ((3 : Int32)) < 0 ∧ ¬ (4 : Int32) ≤ ((3 : Int32)) by decide)]
        show xEv _ _ _ 11 ([some (.ref 0), some (.int ((2 : Int32))), some (.int (i)), some (.int ((3 : Int32))), some (.int (j)), some (.int (n)), none, none], [.int ((1 : Int32))], σ)
        refine ev_br 0 [] (¬ (1 : Int32) = 0) 17 14 ([some (.ref 0), some (.int ((2 : Int32))), some (.int (i)), some (.int ((3 : Int32))), some (.int (j)), some (.int (n)), none, none], [], σ) rfl ?_ (fun c11 => ?_) (fun c11 => ?_)
        · trivial
        · refine ev_blk 11 [vp_in ((2 : Int32)) 4, vp_in ((3 : Int32)) 4] 35 ([some (.ref 0), some (.int ((2 : Int32))), some (.int (i)), some (.int ((3 : Int32))), some (.int (j)), some (.int (n)), some (.ref 53), some (.ref 55)], [.ref 53], σ) rfl ?_ ?_
          · exact ⟨(vp_in_nI (n := 2) (by decide) (by decide)), (vp_in_nI (n := 3) (by decide) (by decide))⟩
          refine ev_callV M_X4_isMissing [] [] 53 rfl rfl ln_X5_232 k_X4_isMissing rfl rfl rfl rfl rfl rfl (c_isMissing2 _) ?_
          refine pu_k ?_
          show xEv _ _ _ 38 ([some (.ref 0), some (.int ((2 : Int32))), some (.int (i)), some (.int ((3 : Int32))), some (.int (j)), some (.int (n)), some (.ref 53), some (.ref 55)], [.int (zi (σ 53 0 = -1))], σ)
          refine ev_br 0 [] (¬ (zi (σ 53 0 = -1)) = 0) 49 41 ([some (.ref 0), some (.int ((2 : Int32))), some (.int (i)), some (.int ((3 : Int32))), some (.int (j)), some (.int (n)), some (.ref 53), some (.ref 55)], [], σ) rfl ?_ (fun c38 => ?_) (fun c38 => ?_)
          · trivial
          · replace c38 := zi_1.mp c38
            refine ev_blk 1 [] 51 ([some (.ref 0), some (.int ((2 : Int32))), some (.int (i)), some (.int ((3 : Int32))), some (.int (j)), some (.int (n)), some (.ref 53), some (.ref 55)], [.int ((-11 : Int32))], σ) rfl ?_ ?_
            · trivial
            have e : s_cpy D (nI 2) i (nI 3) j n = (-11, D) := by rw [s_cpy, if_neg (fun q => q hg), if_neg (fun q => q hg2), hc, hc2, if_pos (by rw [← h0]; exact c38)]
            rw [e]
            exact ev_iret rfl rfl rfl ⟨rfl, hD, xFr.rf⟩
          · replace c38 := zi_n.mp c38
            refine ev_blk 1 [] 43 ([some (.ref 0), some (.int ((2 : Int32))), some (.int (i)), some (.int ((3 : Int32))), some (.int (j)), some (.int (n)), some (.ref 53), some (.ref 55)], [.ref 55], σ) rfl ?_ ?_
            · trivial
            refine ev_callV M_X4_isMissing [] [] 55 rfl rfl ln_X5_232 k_X4_isMissing rfl rfl rfl rfl rfl rfl (c_isMissing3 _) ?_
            refine pu_k ?_
            show xEv _ _ _ 46 ([some (.ref 0), some (.int ((2 : Int32))), some (.int (i)), some (.int ((3 : Int32))), some (.int (j)), some (.int (n)), some (.ref 53), some (.ref 55)], [.int (zi (σ 55 0 = -1))], σ)
            refine ev_br 0 [] ((zi (σ 55 0 = -1)) = 0) 52 49 ([some (.ref 0), some (.int ((2 : Int32))), some (.int (i)), some (.int ((3 : Int32))), some (.int (j)), some (.int (n)), some (.ref 53), some (.ref 55)], [], σ) rfl ?_ (fun c46 => ?_) (fun c46 => ?_)
            · trivial
            · replace c46 := zi_0.mp c46
              refine ev_br 4 [] ((σ 53 0) = (σ 55 0)) 68 65 ([some (.ref 0), some (.int ((2 : Int32))), some (.int (i)), some (.int ((3 : Int32))), some (.int (j)), some (.int (n)), some (.ref 53), some (.ref 55)], [], σ) rfl ?_ (fun c62 => ?_) (fun c62 => ?_)
              · trivial
              · refine ev_blk 3 [] 73 ([some (.ref 0), some (.int ((2 : Int32))), some (.int (i)), some (.int ((3 : Int32))), some (.int (j)), some (.int (n)), some (.ref 53), some (.ref 55)], [.int (n), .int (i), .ref 53], σ) rfl ?_ ?_
                · trivial
                refine ev_callV M_X4_hasRun [.int (i), .int (n)] [] 53 rfl rfl ln_X5_266 k_X4_hasRun rfl rfl rfl rfl rfl rfl (c_hasRun2 _ _ _) ?_
                refine pu_k ?_
                show xEv _ _ _ 76 ([some (.ref 0), some (.int ((2 : Int32))), some (.int (i)), some (.int ((3 : Int32))), some (.int (j)), some (.int (n)), some (.ref 53), some (.ref 55)], [.int (zi (¬ i < 0 ∧ ¬ n < 0 ∧ ¬ σ 53 1 < i ∧ ¬ σ 53 1 - i < n))], σ)
                refine ev_br 0 [] ((zi (¬ i < 0 ∧ ¬ n < 0 ∧ ¬ σ 53 1 < i ∧ ¬ σ 53 1 - i < n)) = 0) 91 79 ([some (.ref 0), some (.int ((2 : Int32))), some (.int (i)), some (.int ((3 : Int32))), some (.int (j)), some (.int (n)), some (.ref 53), some (.ref 55)], [], σ) rfl ?_ (fun c76 => ?_) (fun c76 => ?_)
                · trivial
                · replace c76 := zi_0.mp c76
                  refine ev_blk 1 [] 93 ([some (.ref 0), some (.int ((2 : Int32))), some (.int (i)), some (.int ((3 : Int32))), some (.int (j)), some (.int (n)), some (.ref 53), some (.ref 55)], [.int ((-12 : Int32))], σ) rfl ?_ ?_
                  · trivial
                  have e : s_cpy D (nI 2) i (nI 3) j n = (-12, D) := by rw [s_cpy, if_neg (fun q => q hg), if_neg (fun q => q hg2), hc, hc2, if_neg (by rw [← h0]; exact c38), if_neg (by rw [← k0]; exact c46), if_neg (fun q => q (h0.symm.trans (Eq.trans c62 k0))), if_neg (rn_no (p := 0) (q := 0) (Or.inl (fun q => c76 (by rw [show σ 53 1 = _ from h1]; exact (rnC ho.2).mpr q))))]
                  rw [e]
                  exact ev_iret rfl rfl rfl ⟨rfl, hD, xFr.rf⟩
                · replace c76 := zi_1.mp c76
                  refine ev_blk 3 [] 85 ([some (.ref 0), some (.int ((2 : Int32))), some (.int (i)), some (.int ((3 : Int32))), some (.int (j)), some (.int (n)), some (.ref 53), some (.ref 55)], [.int (n), .int (j), .ref 55], σ) rfl ?_ ?_
                  · trivial
                  refine ev_callV M_X4_hasRun [.int (j), .int (n)] [] 55 rfl rfl ln_X5_266 k_X4_hasRun rfl rfl rfl rfl rfl rfl (c_hasRun3 _ _ _) ?_
                  refine pu_k ?_
                  show xEv _ _ _ 88 ([some (.ref 0), some (.int ((2 : Int32))), some (.int (i)), some (.int ((3 : Int32))), some (.int (j)), some (.int (n)), some (.ref 53), some (.ref 55)], [.int (zi (¬ j < 0 ∧ ¬ n < 0 ∧ ¬ σ 55 1 < j ∧ ¬ σ 55 1 - j < n))], σ)
                  refine ev_br 0 [] (¬ (zi (¬ j < 0 ∧ ¬ n < 0 ∧ ¬ σ 55 1 < j ∧ ¬ σ 55 1 - j < n)) = 0) 94 91 ([some (.ref 0), some (.int ((2 : Int32))), some (.int (i)), some (.int ((3 : Int32))), some (.int (j)), some (.int (n)), some (.ref 53), some (.ref 55)], [], σ) rfl ?_ (fun c88 => ?_) (fun c88 => ?_)
                  · trivial
                  · replace c88 := zi_1.mp c88
                    have r1 := rn_cl ho.2 ((rnC ho.2).mp (by rw [show σ 53 1 = _ from h1] at c76; exact c76))
                    have r2 := rn_cl ko.2 ((rnC ko.2).mp (by rw [show σ 55 1 = _ from k1] at c88; exact c88))
                    refine ev_blk 9 [¬ i < 0, ¬ j < 0, ¬ n < 0, i.toNatClampNeg + n.toNatClampNeg ≤ 40, j.toNatClampNeg + n.toNatClampNeg ≤ 40] 114 ([some (.ref 0), some (.int ((2 : Int32))), some (.int (i)), some (.int ((3 : Int32))), some (.int (j)), some (.int (n)), some (.ref 53), some (.ref 55)], [.int (n)], (x_up σ 56 (va_cpy (σ 54) (σ 56) i.toNatClampNeg j.toNatClampNeg n.toNatClampNeg))) rfl ?_ ?_
                    · exact ⟨r1.1, r2.1, r1.2.1, Nat.le_trans r1.2.2 ho.2, Nat.le_trans r2.2.2 ko.2⟩
                    have e : s_cpy D (nI 2) i (nI 3) j n = (n, updD D 3 ((D 3).1, (D 3).2.1, va_cpy (D 2).2.2 (D 3).2.2 i.toNatClampNeg j.toNatClampNeg n.toNatClampNeg)) := by rw [s_cpy, if_neg (fun q => q hg), if_neg (fun q => q hg2), hc, hc2, if_neg (by rw [← h0]; exact c38), if_neg (by rw [← k0]; exact c46), if_neg (fun q => q (h0.symm.trans (Eq.trans c62 k0))), if_pos ⟨by rintro (q | q | q); exact r1.1 q; exact r1.2.1 q; exact r2.1 q, r1.2.2, r2.2.2⟩]
                    rw [e]
                    exact ev_iret rfl rfl rfl ⟨rfl, shC_put (W := 3) hD ko (fun c _ _ a b => x_up_ne b) (by rw [x_up_ne (by decide)]; exact k0) (by rw [x_up_ne (by decide)]; exact k1) (fun z hz => by rw [x_up_eq]; exact va_cpy_c hi ki (by have := r1.2.2; have := ho.2; omega) hz), fun c hc => x_up_ne (fun z => hc (by rw [z]; decide))⟩
                  · replace c88 := zi_n.mp c88
                    refine ev_blk 1 [] 93 ([some (.ref 0), some (.int ((2 : Int32))), some (.int (i)), some (.int ((3 : Int32))), some (.int (j)), some (.int (n)), some (.ref 53), some (.ref 55)], [.int ((-12 : Int32))], σ) rfl ?_ ?_
                    · trivial
                    have e : s_cpy D (nI 2) i (nI 3) j n = (-12, D) := by rw [s_cpy, if_neg (fun q => q hg), if_neg (fun q => q hg2), hc, hc2, if_neg (by rw [← h0]; exact c38), if_neg (by rw [← k0]; exact c46), if_neg (fun q => q (h0.symm.trans (Eq.trans c62 k0))), if_neg (rn_no (p := 0) (q := 0) (Or.inr (fun q => c88 (by rw [show σ 55 1 = _ from k1]; exact (rnC ko.2).mpr q))))]
                    rw [e]
                    exact ev_iret rfl rfl rfl ⟨rfl, hD, xFr.rf⟩
              · refine ev_blk 1 [] 67 ([some (.ref 0), some (.int ((2 : Int32))), some (.int (i)), some (.int ((3 : Int32))), some (.int (j)), some (.int (n)), some (.ref 53), some (.ref 55)], [.int ((-13 : Int32))], σ) rfl ?_ ?_
                · trivial
                have e : s_cpy D (nI 2) i (nI 3) j n = (-13, D) := by rw [s_cpy, if_neg (fun q => q hg), if_neg (fun q => q hg2), hc, hc2, if_neg (by rw [← h0]; exact c38), if_neg (by rw [← k0]; exact c46), if_pos (fun z => c62 (h0.trans (z.trans k0.symm)))]
                rw [e]
                exact ev_iret rfl rfl rfl ⟨rfl, hD, xFr.rf⟩
            · replace c46 := zi_1.mp c46
              refine ev_blk 1 [] 51 ([some (.ref 0), some (.int ((2 : Int32))), some (.int (i)), some (.int ((3 : Int32))), some (.int (j)), some (.int (n)), some (.ref 53), some (.ref 55)], [.int ((-11 : Int32))], σ) rfl ?_ ?_
              · trivial
              have e : s_cpy D (nI 2) i (nI 3) j n = (-11, D) := by rw [s_cpy, if_neg (fun q => q hg), if_neg (fun q => q hg2), hc, hc2, if_neg (by rw [← h0]; exact c38), if_pos (by rw [← k0]; exact c46)]
              rw [e]
              exact ev_iret rfl rfl rfl ⟨rfl, hD, xFr.rf⟩
        · exact absurd (by decide) c11
set_option maxRecDepth 100000 in
theorem c_copy3 (σ : xSg) (D : Nat → shD) (hD : shC σ D) (i o j n : Int32) : xCtr M_X5_copy [.ref 0, .int ((3 : Int32)), .int (i), .int (o), .int (j), .int (n)] σ (shPQ scS σ (s_cpy D (nI 3) i o j n)) := by
  refine ctr_ev ok_X5_copy (by decide +kernel) rfl rfl rfl ?_
  show xEv (.inl 1) M_X5_copy _ 0 ([some (.ref 0), some (.int ((3 : Int32))), some (.int (i)), some (.int (o)), some (.int (j)), some (.int (n)), none, none], [], σ)
  have hg : iN 4 (nI 3) := iN_nI (by decide) (by decide)
  obtain ⟨ho, h0, h1, hi⟩ := hD 3 (by decide)
  have hc : (nI 3).toNatClampNeg = 3 := rfl
  rcases pk_ix o (n := 4) (by decide) with hb | hb | ⟨W, hW, rfl⟩
  · have hbad : ¬ iN 4 o := fun q => q.1 hb
    refine ev_blk 1 [] 1 ([some (.ref 0), some (.int ((3 : Int32))), some (.int (i)), some (.int (o)), some (.int (j)), some (.int (n)), none, none], [.int ((3 : Int32))], σ) rfl ?_ ?_
    · trivial
    refine ev_callS M_X5_isSheet [.int ((3 : Int32))] [] rfl rfl ln_X5_229 k_X5_isSheet rfl rfl rfl (c_isSheet _ _) ?_
    refine pu_k ?_
    rw [zi_t (show ¬ ((3 : Int32)) < 0 ∧ ¬ (4 : Int32) ≤ ((3 : Int32)) by decide)]
    show xEv _ _ _ 4 ([some (.ref 0), some (.int ((3 : Int32))), some (.int (i)), some (.int (o)), some (.int (j)), some (.int (n)), none, none], [.int ((1 : Int32))], σ)
    refine ev_br 0 [] ((1 : Int32) = 0) 14 7 ([some (.ref 0), some (.int ((3 : Int32))), some (.int (i)), some (.int (o)), some (.int (j)), some (.int (n)), none, none], [], σ) rfl ?_ (fun c4 => ?_) (fun c4 => ?_)
    · trivial
    · exact absurd c4 (by decide)
    · refine ev_blk 1 [] 8 ([some (.ref 0), some (.int ((3 : Int32))), some (.int (i)), some (.int (o)), some (.int (j)), some (.int (n)), none, none], [.int (o)], σ) rfl ?_ ?_
      · trivial
      refine ev_callS M_X5_isSheet [.int (o)] [] rfl rfl ln_X5_229 k_X5_isSheet rfl rfl rfl (c_isSheet _ _) ?_
      refine pu_k ?_
      show xEv _ _ _ 11 ([some (.ref 0), some (.int ((3 : Int32))), some (.int (i)), some (.int (o)), some (.int (j)), some (.int (n)), none, none], [.int (zi (¬ o < 0 ∧ ¬ (4 : Int32) ≤ (o)))], σ)
      refine ev_br 0 [] (¬ (zi (¬ o < 0 ∧ ¬ (4 : Int32) ≤ (o))) = 0) 17 14 ([some (.ref 0), some (.int ((3 : Int32))), some (.int (i)), some (.int (o)), some (.int (j)), some (.int (n)), none, none], [], σ) rfl ?_ (fun c11 => ?_) (fun c11 => ?_)
      · trivial
      · exact absurd (zi_1.mp c11) hbad
      · replace c11 := zi_n.mp c11
        refine ev_blk 1 [] 16 ([some (.ref 0), some (.int ((3 : Int32))), some (.int (i)), some (.int (o)), some (.int (j)), some (.int (n)), none, none], [.int ((-2 : Int32))], σ) rfl ?_ ?_
        · trivial
        have e : s_cpy D (nI 3) i o j n = (-2, D) := by rw [s_cpy, if_neg (fun q => q hg), if_pos hbad]
        rw [e]
        exact ev_iret rfl rfl rfl ⟨rfl, hD, xFr.rf⟩
  · have hbad : ¬ iN 4 o := fun q => q.2 hb
    refine ev_blk 1 [] 1 ([some (.ref 0), some (.int ((3 : Int32))), some (.int (i)), some (.int (o)), some (.int (j)), some (.int (n)), none, none], [.int ((3 : Int32))], σ) rfl ?_ ?_
    · trivial
    refine ev_callS M_X5_isSheet [.int ((3 : Int32))] [] rfl rfl ln_X5_229 k_X5_isSheet rfl rfl rfl (c_isSheet _ _) ?_
    refine pu_k ?_
    rw [zi_t (show ¬ ((3 : Int32)) < 0 ∧ ¬ (4 : Int32) ≤ ((3 : Int32)) by decide)]
    show xEv _ _ _ 4 ([some (.ref 0), some (.int ((3 : Int32))), some (.int (i)), some (.int (o)), some (.int (j)), some (.int (n)), none, none], [.int ((1 : Int32))], σ)
    refine ev_br 0 [] ((1 : Int32) = 0) 14 7 ([some (.ref 0), some (.int ((3 : Int32))), some (.int (i)), some (.int (o)), some (.int (j)), some (.int (n)), none, none], [], σ) rfl ?_ (fun c4 => ?_) (fun c4 => ?_)
    · trivial
    · exact absurd c4 (by decide)
    · refine ev_blk 1 [] 8 ([some (.ref 0), some (.int ((3 : Int32))), some (.int (i)), some (.int (o)), some (.int (j)), some (.int (n)), none, none], [.int (o)], σ) rfl ?_ ?_
      · trivial
      refine ev_callS M_X5_isSheet [.int (o)] [] rfl rfl ln_X5_229 k_X5_isSheet rfl rfl rfl (c_isSheet _ _) ?_
      refine pu_k ?_
      show xEv _ _ _ 11 ([some (.ref 0), some (.int ((3 : Int32))), some (.int (i)), some (.int (o)), some (.int (j)), some (.int (n)), none, none], [.int (zi (¬ o < 0 ∧ ¬ (4 : Int32) ≤ (o)))], σ)
      refine ev_br 0 [] (¬ (zi (¬ o < 0 ∧ ¬ (4 : Int32) ≤ (o))) = 0) 17 14 ([some (.ref 0), some (.int ((3 : Int32))), some (.int (i)), some (.int (o)), some (.int (j)), some (.int (n)), none, none], [], σ) rfl ?_ (fun c11 => ?_) (fun c11 => ?_)
      · trivial
      · exact absurd (zi_1.mp c11) hbad
      · replace c11 := zi_n.mp c11
        refine ev_blk 1 [] 16 ([some (.ref 0), some (.int ((3 : Int32))), some (.int (i)), some (.int (o)), some (.int (j)), some (.int (n)), none, none], [.int ((-2 : Int32))], σ) rfl ?_ ?_
        · trivial
        have e : s_cpy D (nI 3) i o j n = (-2, D) := by rw [s_cpy, if_neg (fun q => q hg), if_pos hbad]
        rw [e]
        exact ev_iret rfl rfl rfl ⟨rfl, hD, xFr.rf⟩
  · rcases (show W = 0 ∨ W = 1 ∨ W = 2 ∨ W = 3 by omega) with rfl | rfl | rfl | rfl
    · have hg : iN 4 (nI 0) := iN_nI (by decide) (by decide)
      have hg2 : iN 4 (nI 0) := iN_nI (by decide) (by decide)
      obtain ⟨ko, k0, k1, ki⟩ := hD 0 (by decide)
      have hc2 : (nI 0).toNatClampNeg = 0 := rfl
      show xEv _ _ _ 0 ([some (.ref 0), some (.int ((3 : Int32))), some (.int (i)), some (.int ((0 : Int32))), some (.int (j)), some (.int (n)), none, none], [], σ)
      refine ev_blk 1 [] 1 ([some (.ref 0), some (.int ((3 : Int32))), some (.int (i)), some (.int ((0 : Int32))), some (.int (j)), some (.int (n)), none, none], [.int ((3 : Int32))], σ) rfl ?_ ?_
      · trivial
      refine ev_callS M_X5_isSheet [.int ((3 : Int32))] [] rfl rfl ln_X5_229 k_X5_isSheet rfl rfl rfl (c_isSheet _ _) ?_
      refine pu_k ?_
      rw [zi_t (show ¬ ((3 : Int32)) < 0 ∧ ¬ (4 : Int32) ≤ ((3 : Int32)) by decide)]
      show xEv _ _ _ 4 ([some (.ref 0), some (.int ((3 : Int32))), some (.int (i)), some (.int ((0 : Int32))), some (.int (j)), some (.int (n)), none, none], [.int ((1 : Int32))], σ)
      refine ev_br 0 [] ((1 : Int32) = 0) 14 7 ([some (.ref 0), some (.int ((3 : Int32))), some (.int (i)), some (.int ((0 : Int32))), some (.int (j)), some (.int (n)), none, none], [], σ) rfl ?_ (fun c4 => ?_) (fun c4 => ?_)
      · trivial
      · exact absurd c4 (by decide)
      · refine ev_blk 1 [] 8 ([some (.ref 0), some (.int ((3 : Int32))), some (.int (i)), some (.int ((0 : Int32))), some (.int (j)), some (.int (n)), none, none], [.int ((0 : Int32))], σ) rfl ?_ ?_
        · trivial
        refine ev_callS M_X5_isSheet [.int ((0 : Int32))] [] rfl rfl ln_X5_229 k_X5_isSheet rfl rfl rfl (c_isSheet _ _) ?_
        refine pu_k ?_
        rw [zi_t (show ¬ ((0 : Int32)) < 0 ∧ ¬ (4 : Int32) ≤ ((0 : Int32)) by decide)]
        show xEv _ _ _ 11 ([some (.ref 0), some (.int ((3 : Int32))), some (.int (i)), some (.int ((0 : Int32))), some (.int (j)), some (.int (n)), none, none], [.int ((1 : Int32))], σ)
        refine ev_br 0 [] (¬ (1 : Int32) = 0) 17 14 ([some (.ref 0), some (.int ((3 : Int32))), some (.int (i)), some (.int ((0 : Int32))), some (.int (j)), some (.int (n)), none, none], [], σ) rfl ?_ (fun c11 => ?_) (fun c11 => ?_)
        · trivial
        · refine ev_blk 11 [vp_in ((3 : Int32)) 4, vp_in ((0 : Int32)) 4] 35 ([some (.ref 0), some (.int ((3 : Int32))), some (.int (i)), some (.int ((0 : Int32))), some (.int (j)), some (.int (n)), some (.ref 55), some (.ref 49)], [.ref 55], σ) rfl ?_ ?_
          · exact ⟨(vp_in_nI (n := 3) (by decide) (by decide)), (vp_in_nI (n := 0) (by decide) (by decide))⟩
          refine ev_callV M_X4_isMissing [] [] 55 rfl rfl ln_X5_232 k_X4_isMissing rfl rfl rfl rfl rfl rfl (c_isMissing3 _) ?_
          refine pu_k ?_
          show xEv _ _ _ 38 ([some (.ref 0), some (.int ((3 : Int32))), some (.int (i)), some (.int ((0 : Int32))), some (.int (j)), some (.int (n)), some (.ref 55), some (.ref 49)], [.int (zi (σ 55 0 = -1))], σ)
          refine ev_br 0 [] (¬ (zi (σ 55 0 = -1)) = 0) 49 41 ([some (.ref 0), some (.int ((3 : Int32))), some (.int (i)), some (.int ((0 : Int32))), some (.int (j)), some (.int (n)), some (.ref 55), some (.ref 49)], [], σ) rfl ?_ (fun c38 => ?_) (fun c38 => ?_)
          · trivial
          · replace c38 := zi_1.mp c38
            refine ev_blk 1 [] 51 ([some (.ref 0), some (.int ((3 : Int32))), some (.int (i)), some (.int ((0 : Int32))), some (.int (j)), some (.int (n)), some (.ref 55), some (.ref 49)], [.int ((-11 : Int32))], σ) rfl ?_ ?_
            · trivial
            have e : s_cpy D (nI 3) i (nI 0) j n = (-11, D) := by rw [s_cpy, if_neg (fun q => q hg), if_neg (fun q => q hg2), hc, hc2, if_pos (by rw [← h0]; exact c38)]
            rw [e]
            exact ev_iret rfl rfl rfl ⟨rfl, hD, xFr.rf⟩
          · replace c38 := zi_n.mp c38
            refine ev_blk 1 [] 43 ([some (.ref 0), some (.int ((3 : Int32))), some (.int (i)), some (.int ((0 : Int32))), some (.int (j)), some (.int (n)), some (.ref 55), some (.ref 49)], [.ref 49], σ) rfl ?_ ?_
            · trivial
            refine ev_callV M_X4_isMissing [] [] 49 rfl rfl ln_X5_232 k_X4_isMissing rfl rfl rfl rfl rfl rfl (c_isMissing0 _) ?_
            refine pu_k ?_
            show xEv _ _ _ 46 ([some (.ref 0), some (.int ((3 : Int32))), some (.int (i)), some (.int ((0 : Int32))), some (.int (j)), some (.int (n)), some (.ref 55), some (.ref 49)], [.int (zi (σ 49 0 = -1))], σ)
            refine ev_br 0 [] ((zi (σ 49 0 = -1)) = 0) 52 49 ([some (.ref 0), some (.int ((3 : Int32))), some (.int (i)), some (.int ((0 : Int32))), some (.int (j)), some (.int (n)), some (.ref 55), some (.ref 49)], [], σ) rfl ?_ (fun c46 => ?_) (fun c46 => ?_)
            · trivial
            · replace c46 := zi_0.mp c46
              refine ev_br 4 [] ((σ 55 0) = (σ 49 0)) 68 65 ([some (.ref 0), some (.int ((3 : Int32))), some (.int (i)), some (.int ((0 : Int32))), some (.int (j)), some (.int (n)), some (.ref 55), some (.ref 49)], [], σ) rfl ?_ (fun c62 => ?_) (fun c62 => ?_)
              · trivial
              · refine ev_blk 3 [] 73 ([some (.ref 0), some (.int ((3 : Int32))), some (.int (i)), some (.int ((0 : Int32))), some (.int (j)), some (.int (n)), some (.ref 55), some (.ref 49)], [.int (n), .int (i), .ref 55], σ) rfl ?_ ?_
                · trivial
                refine ev_callV M_X4_hasRun [.int (i), .int (n)] [] 55 rfl rfl ln_X5_266 k_X4_hasRun rfl rfl rfl rfl rfl rfl (c_hasRun3 _ _ _) ?_
                refine pu_k ?_
                show xEv _ _ _ 76 ([some (.ref 0), some (.int ((3 : Int32))), some (.int (i)), some (.int ((0 : Int32))), some (.int (j)), some (.int (n)), some (.ref 55), some (.ref 49)], [.int (zi (¬ i < 0 ∧ ¬ n < 0 ∧ ¬ σ 55 1 < i ∧ ¬ σ 55 1 - i < n))], σ)
                refine ev_br 0 [] ((zi (¬ i < 0 ∧ ¬ n < 0 ∧ ¬ σ 55 1 < i ∧ ¬ σ 55 1 - i < n)) = 0) 91 79 ([some (.ref 0), some (.int ((3 : Int32))), some (.int (i)), some (.int ((0 : Int32))), some (.int (j)), some (.int (n)), some (.ref 55), some (.ref 49)], [], σ) rfl ?_ (fun c76 => ?_) (fun c76 => ?_)
                · trivial
                · replace c76 := zi_0.mp c76
                  refine ev_blk 1 [] 93 ([some (.ref 0), some (.int ((3 : Int32))), some (.int (i)), some (.int ((0 : Int32))), some (.int (j)), some (.int (n)), some (.ref 55), some (.ref 49)], [.int ((-12 : Int32))], σ) rfl ?_ ?_
                  · trivial
                  have e : s_cpy D (nI 3) i (nI 0) j n = (-12, D) := by rw [s_cpy, if_neg (fun q => q hg), if_neg (fun q => q hg2), hc, hc2, if_neg (by rw [← h0]; exact c38), if_neg (by rw [← k0]; exact c46), if_neg (fun q => q (h0.symm.trans (Eq.trans c62 k0))), if_neg (rn_no (p := 0) (q := 0) (Or.inl (fun q => c76 (by rw [show σ 55 1 = _ from h1]; exact (rnC ho.2).mpr q))))]
                  rw [e]
                  exact ev_iret rfl rfl rfl ⟨rfl, hD, xFr.rf⟩
                · replace c76 := zi_1.mp c76
                  refine ev_blk 3 [] 85 ([some (.ref 0), some (.int ((3 : Int32))), some (.int (i)), some (.int ((0 : Int32))), some (.int (j)), some (.int (n)), some (.ref 55), some (.ref 49)], [.int (n), .int (j), .ref 49], σ) rfl ?_ ?_
                  · trivial
                  refine ev_callV M_X4_hasRun [.int (j), .int (n)] [] 49 rfl rfl ln_X5_266 k_X4_hasRun rfl rfl rfl rfl rfl rfl (c_hasRun0 _ _ _) ?_
                  refine pu_k ?_
                  show xEv _ _ _ 88 ([some (.ref 0), some (.int ((3 : Int32))), some (.int (i)), some (.int ((0 : Int32))), some (.int (j)), some (.int (n)), some (.ref 55), some (.ref 49)], [.int (zi (¬ j < 0 ∧ ¬ n < 0 ∧ ¬ σ 49 1 < j ∧ ¬ σ 49 1 - j < n))], σ)
                  refine ev_br 0 [] (¬ (zi (¬ j < 0 ∧ ¬ n < 0 ∧ ¬ σ 49 1 < j ∧ ¬ σ 49 1 - j < n)) = 0) 94 91 ([some (.ref 0), some (.int ((3 : Int32))), some (.int (i)), some (.int ((0 : Int32))), some (.int (j)), some (.int (n)), some (.ref 55), some (.ref 49)], [], σ) rfl ?_ (fun c88 => ?_) (fun c88 => ?_)
                  · trivial
                  · replace c88 := zi_1.mp c88
                    have r1 := rn_cl ho.2 ((rnC ho.2).mp (by rw [show σ 55 1 = _ from h1] at c76; exact c76))
                    have r2 := rn_cl ko.2 ((rnC ko.2).mp (by rw [show σ 49 1 = _ from k1] at c88; exact c88))
                    refine ev_blk 9 [¬ i < 0, ¬ j < 0, ¬ n < 0, i.toNatClampNeg + n.toNatClampNeg ≤ 40, j.toNatClampNeg + n.toNatClampNeg ≤ 40] 114 ([some (.ref 0), some (.int ((3 : Int32))), some (.int (i)), some (.int ((0 : Int32))), some (.int (j)), some (.int (n)), some (.ref 55), some (.ref 49)], [.int (n)], (x_up σ 50 (va_cpy (σ 56) (σ 50) i.toNatClampNeg j.toNatClampNeg n.toNatClampNeg))) rfl ?_ ?_
                    · exact ⟨r1.1, r2.1, r1.2.1, Nat.le_trans r1.2.2 ho.2, Nat.le_trans r2.2.2 ko.2⟩
                    have e : s_cpy D (nI 3) i (nI 0) j n = (n, updD D 0 ((D 0).1, (D 0).2.1, va_cpy (D 3).2.2 (D 0).2.2 i.toNatClampNeg j.toNatClampNeg n.toNatClampNeg)) := by rw [s_cpy, if_neg (fun q => q hg), if_neg (fun q => q hg2), hc, hc2, if_neg (by rw [← h0]; exact c38), if_neg (by rw [← k0]; exact c46), if_neg (fun q => q (h0.symm.trans (Eq.trans c62 k0))), if_pos ⟨by rintro (q | q | q); exact r1.1 q; exact r1.2.1 q; exact r2.1 q, r1.2.2, r2.2.2⟩]
                    rw [e]
                    exact ev_iret rfl rfl rfl ⟨rfl, shC_put (W := 0) hD ko (fun c _ _ a b => x_up_ne b) (by rw [x_up_ne (by decide)]; exact k0) (by rw [x_up_ne (by decide)]; exact k1) (fun z hz => by rw [x_up_eq]; exact va_cpy_c hi ki (by have := r1.2.2; have := ho.2; omega) hz), fun c hc => x_up_ne (fun z => hc (by rw [z]; decide))⟩
                  · replace c88 := zi_n.mp c88
                    refine ev_blk 1 [] 93 ([some (.ref 0), some (.int ((3 : Int32))), some (.int (i)), some (.int ((0 : Int32))), some (.int (j)), some (.int (n)), some (.ref 55), some (.ref 49)], [.int ((-12 : Int32))], σ) rfl ?_ ?_
                    · trivial
                    have e : s_cpy D (nI 3) i (nI 0) j n = (-12, D) := by rw [s_cpy, if_neg (fun q => q hg), if_neg (fun q => q hg2), hc, hc2, if_neg (by rw [← h0]; exact c38), if_neg (by rw [← k0]; exact c46), if_neg (fun q => q (h0.symm.trans (Eq.trans c62 k0))), if_neg (rn_no (p := 0) (q := 0) (Or.inr (fun q => c88 (by rw [show σ 49 1 = _ from k1]; exact (rnC ko.2).mpr q))))]
                    rw [e]
                    exact ev_iret rfl rfl rfl ⟨rfl, hD, xFr.rf⟩
              · refine ev_blk 1 [] 67 ([some (.ref 0), some (.int ((3 : Int32))), some (.int (i)), some (.int ((0 : Int32))), some (.int (j)), some (.int (n)), some (.ref 55), some (.ref 49)], [.int ((-13 : Int32))], σ) rfl ?_ ?_
                · trivial
                have e : s_cpy D (nI 3) i (nI 0) j n = (-13, D) := by rw [s_cpy, if_neg (fun q => q hg), if_neg (fun q => q hg2), hc, hc2, if_neg (by rw [← h0]; exact c38), if_neg (by rw [← k0]; exact c46), if_pos (fun z => c62 (h0.trans (z.trans k0.symm)))]
                rw [e]
                exact ev_iret rfl rfl rfl ⟨rfl, hD, xFr.rf⟩
            · replace c46 := zi_1.mp c46
              refine ev_blk 1 [] 51 ([some (.ref 0), some (.int ((3 : Int32))), some (.int (i)), some (.int ((0 : Int32))), some (.int (j)), some (.int (n)), some (.ref 55), some (.ref 49)], [.int ((-11 : Int32))], σ) rfl ?_ ?_
              · trivial
              have e : s_cpy D (nI 3) i (nI 0) j n = (-11, D) := by rw [s_cpy, if_neg (fun q => q hg), if_neg (fun q => q hg2), hc, hc2, if_neg (by rw [← h0]; exact c38), if_pos (by rw [← k0]; exact c46)]
              rw [e]
              exact ev_iret rfl rfl rfl ⟨rfl, hD, xFr.rf⟩
        · exact absurd (by decide) c11
    · have hg : iN 4 (nI 1) := iN_nI (by decide) (by decide)
      have hg2 : iN 4 (nI 1) := iN_nI (by decide) (by decide)
      obtain ⟨ko, k0, k1, ki⟩ := hD 1 (by decide)
      have hc2 : (nI 1).toNatClampNeg = 1 := rfl
      show xEv _ _ _ 0 ([some (.ref 0), some (.int ((3 : Int32))), some (.int (i)), some (.int ((1 : Int32))), some (.int (j)), some (.int (n)), none, none], [], σ)
      refine ev_blk 1 [] 1 ([some (.ref 0), some (.int ((3 : Int32))), some (.int (i)), some (.int ((1 : Int32))), some (.int (j)), some (.int (n)), none, none], [.int ((3 : Int32))], σ) rfl ?_ ?_
      · trivial
      refine ev_callS M_X5_isSheet [.int ((3 : Int32))] [] rfl rfl ln_X5_229 k_X5_isSheet rfl rfl rfl (c_isSheet _ _) ?_
      refine pu_k ?_
      rw [zi_t (show ¬ ((3 : Int32)) < 0 ∧ ¬ (4 : Int32) ≤ ((3 : Int32)) by decide)]
      show xEv _ _ _ 4 ([some (.ref 0), some (.int ((3 : Int32))), some (.int (i)), some (.int ((1 : Int32))), some (.int (j)), some (.int (n)), none, none], [.int ((1 : Int32))], σ)
      refine ev_br 0 [] ((1 : Int32) = 0) 14 7 ([some (.ref 0), some (.int ((3 : Int32))), some (.int (i)), some (.int ((1 : Int32))), some (.int (j)), some (.int (n)), none, none], [], σ) rfl ?_ (fun c4 => ?_) (fun c4 => ?_)
      · trivial
      · exact absurd c4 (by decide)
      · refine ev_blk 1 [] 8 ([some (.ref 0), some (.int ((3 : Int32))), some (.int (i)), some (.int ((1 : Int32))), some (.int (j)), some (.int (n)), none, none], [.int ((1 : Int32))], σ) rfl ?_ ?_
        · trivial
        refine ev_callS M_X5_isSheet [.int ((1 : Int32))] [] rfl rfl ln_X5_229 k_X5_isSheet rfl rfl rfl (c_isSheet _ _) ?_
        refine pu_k ?_
        rw [zi_t (show ¬ ((1 : Int32)) < 0 ∧ ¬ (4 : Int32) ≤ ((1 : Int32)) by decide)]
        show xEv _ _ _ 11 ([some (.ref 0), some (.int ((3 : Int32))), some (.int (i)), some (.int ((1 : Int32))), some (.int (j)), some (.int (n)), none, none], [.int ((1 : Int32))], σ)
        refine ev_br 0 [] (¬ (1 : Int32) = 0) 17 14 ([some (.ref 0), some (.int ((3 : Int32))), some (.int (i)), some (.int ((1 : Int32))), some (.int (j)), some (.int (n)), none, none], [], σ) rfl ?_ (fun c11 => ?_) (fun c11 => ?_)
        · trivial
        · refine ev_blk 11 [vp_in ((3 : Int32)) 4, vp_in ((1 : Int32)) 4] 35 ([some (.ref 0), some (.int ((3 : Int32))), some (.int (i)), some (.int ((1 : Int32))), some (.int (j)), some (.int (n)), some (.ref 55), some (.ref 51)], [.ref 55], σ) rfl ?_ ?_
          · exact ⟨(vp_in_nI (n := 3) (by decide) (by decide)), (vp_in_nI (n := 1) (by decide) (by decide))⟩
          refine ev_callV M_X4_isMissing [] [] 55 rfl rfl ln_X5_232 k_X4_isMissing rfl rfl rfl rfl rfl rfl (c_isMissing3 _) ?_
          refine pu_k ?_
          show xEv _ _ _ 38 ([some (.ref 0), some (.int ((3 : Int32))), some (.int (i)), some (.int ((1 : Int32))), some (.int (j)), some (.int (n)), some (.ref 55), some (.ref 51)], [.int (zi (σ 55 0 = -1))], σ)
          refine ev_br 0 [] (¬ (zi (σ 55 0 = -1)) = 0) 49 41 ([some (.ref 0), some (.int ((3 : Int32))), some (.int (i)), some (.int ((1 : Int32))), some (.int (j)), some (.int (n)), some (.ref 55), some (.ref 51)], [], σ) rfl ?_ (fun c38 => ?_) (fun c38 => ?_)
          · trivial
          · replace c38 := zi_1.mp c38
            refine ev_blk 1 [] 51 ([some (.ref 0), some (.int ((3 : Int32))), some (.int (i)), some (.int ((1 : Int32))), some (.int (j)), some (.int (n)), some (.ref 55), some (.ref 51)], [.int ((-11 : Int32))], σ) rfl ?_ ?_
            · trivial
            have e : s_cpy D (nI 3) i (nI 1) j n = (-11, D) := by rw [s_cpy, if_neg (fun q => q hg), if_neg (fun q => q hg2), hc, hc2, if_pos (by rw [← h0]; exact c38)]
            rw [e]
            exact ev_iret rfl rfl rfl ⟨rfl, hD, xFr.rf⟩
          · replace c38 := zi_n.mp c38
            refine ev_blk 1 [] 43 ([some (.ref 0), some (.int ((3 : Int32))), some (.int (i)), some (.int ((1 : Int32))), some (.int (j)), some (.int (n)), some (.ref 55), some (.ref 51)], [.ref 51], σ) rfl ?_ ?_
            · trivial
            refine ev_callV M_X4_isMissing [] [] 51 rfl rfl ln_X5_232 k_X4_isMissing rfl rfl rfl rfl rfl rfl (c_isMissing1 _) ?_
            refine pu_k ?_
            show xEv _ _ _ 46 ([some (.ref 0), some (.int ((3 : Int32))), some (.int (i)), some (.int ((1 : Int32))), some (.int (j)), some (.int (n)), some (.ref 55), some (.ref 51)], [.int (zi (σ 51 0 = -1))], σ)
            refine ev_br 0 [] ((zi (σ 51 0 = -1)) = 0) 52 49 ([some (.ref 0), some (.int ((3 : Int32))), some (.int (i)), some (.int ((1 : Int32))), some (.int (j)), some (.int (n)), some (.ref 55), some (.ref 51)], [], σ) rfl ?_ (fun c46 => ?_) (fun c46 => ?_)
            · trivial
            · replace c46 := zi_0.mp c46
              refine ev_br 4 [] ((σ 55 0) = (σ 51 0)) 68 65 ([some (.ref 0), some (.int ((3 : Int32))), some (.int (i)), some (.int ((1 : Int32))), some (.int (j)), some (.int (n)), some (.ref 55), some (.ref 51)], [], σ) rfl ?_ (fun c62 => ?_) (fun c62 => ?_)
              · trivial
              · refine ev_blk 3 [] 73 ([some (.ref 0), some (.int ((3 : Int32))), some (.int (i)), some (.int ((1 : Int32))), some (.int (j)), some (.int (n)), some (.ref 55), some (.ref 51)], [.int (n), .int (i), .ref 55], σ) rfl ?_ ?_
                · trivial
                refine ev_callV M_X4_hasRun [.int (i), .int (n)] [] 55 rfl rfl ln_X5_266 k_X4_hasRun rfl rfl rfl rfl rfl rfl (c_hasRun3 _ _ _) ?_
                refine pu_k ?_
                show xEv _ _ _ 76 ([some (.ref 0), some (.int ((3 : Int32))), some (.int (i)), some (.int ((1 : Int32))), some (.int (j)), some (.int (n)), some (.ref 55), some (.ref 51)], [.int (zi (¬ i < 0 ∧ ¬ n < 0 ∧ ¬ σ 55 1 < i ∧ ¬ σ 55 1 - i < n))], σ)
                refine ev_br 0 [] ((zi (¬ i < 0 ∧ ¬ n < 0 ∧ ¬ σ 55 1 < i ∧ ¬ σ 55 1 - i < n)) = 0) 91 79 ([some (.ref 0), some (.int ((3 : Int32))), some (.int (i)), some (.int ((1 : Int32))), some (.int (j)), some (.int (n)), some (.ref 55), some (.ref 51)], [], σ) rfl ?_ (fun c76 => ?_) (fun c76 => ?_)
                · trivial
                · replace c76 := zi_0.mp c76
                  refine ev_blk 1 [] 93 ([some (.ref 0), some (.int ((3 : Int32))), some (.int (i)), some (.int ((1 : Int32))), some (.int (j)), some (.int (n)), some (.ref 55), some (.ref 51)], [.int ((-12 : Int32))], σ) rfl ?_ ?_
                  · trivial
                  have e : s_cpy D (nI 3) i (nI 1) j n = (-12, D) := by rw [s_cpy, if_neg (fun q => q hg), if_neg (fun q => q hg2), hc, hc2, if_neg (by rw [← h0]; exact c38), if_neg (by rw [← k0]; exact c46), if_neg (fun q => q (h0.symm.trans (Eq.trans c62 k0))), if_neg (rn_no (p := 0) (q := 0) (Or.inl (fun q => c76 (by rw [show σ 55 1 = _ from h1]; exact (rnC ho.2).mpr q))))]
                  rw [e]
                  exact ev_iret rfl rfl rfl ⟨rfl, hD, xFr.rf⟩
                · replace c76 := zi_1.mp c76
                  refine ev_blk 3 [] 85 ([some (.ref 0), some (.int ((3 : Int32))), some (.int (i)), some (.int ((1 : Int32))), some (.int (j)), some (.int (n)), some (.ref 55), some (.ref 51)], [.int (n), .int (j), .ref 51], σ) rfl ?_ ?_
                  · trivial
                  refine ev_callV M_X4_hasRun [.int (j), .int (n)] [] 51 rfl rfl ln_X5_266 k_X4_hasRun rfl rfl rfl rfl rfl rfl (c_hasRun1 _ _ _) ?_
                  refine pu_k ?_
                  show xEv _ _ _ 88 ([some (.ref 0), some (.int ((3 : Int32))), some (.int (i)), some (.int ((1 : Int32))), some (.int (j)), some (.int (n)), some (.ref 55), some (.ref 51)], [.int (zi (¬ j < 0 ∧ ¬ n < 0 ∧ ¬ σ 51 1 < j ∧ ¬ σ 51 1 - j < n))], σ)
                  refine ev_br 0 [] (¬ (zi (¬ j < 0 ∧ ¬ n < 0 ∧ ¬ σ 51 1 < j ∧ ¬ σ 51 1 - j < n)) = 0) 94 91 ([some (.ref 0), some (.int ((3 : Int32))), some (.int (i)), some (.int ((1 : Int32))), some (.int (j)), some (.int (n)), some (.ref 55), some (.ref 51)], [], σ) rfl ?_ (fun c88 => ?_) (fun c88 => ?_)
                  · trivial
                  · replace c88 := zi_1.mp c88
                    have r1 := rn_cl ho.2 ((rnC ho.2).mp (by rw [show σ 55 1 = _ from h1] at c76; exact c76))
                    have r2 := rn_cl ko.2 ((rnC ko.2).mp (by rw [show σ 51 1 = _ from k1] at c88; exact c88))
                    refine ev_blk 9 [¬ i < 0, ¬ j < 0, ¬ n < 0, i.toNatClampNeg + n.toNatClampNeg ≤ 40, j.toNatClampNeg + n.toNatClampNeg ≤ 40] 114 ([some (.ref 0), some (.int ((3 : Int32))), some (.int (i)), some (.int ((1 : Int32))), some (.int (j)), some (.int (n)), some (.ref 55), some (.ref 51)], [.int (n)], (x_up σ 52 (va_cpy (σ 56) (σ 52) i.toNatClampNeg j.toNatClampNeg n.toNatClampNeg))) rfl ?_ ?_
                    · exact ⟨r1.1, r2.1, r1.2.1, Nat.le_trans r1.2.2 ho.2, Nat.le_trans r2.2.2 ko.2⟩
                    have e : s_cpy D (nI 3) i (nI 1) j n = (n, updD D 1 ((D 1).1, (D 1).2.1, va_cpy (D 3).2.2 (D 1).2.2 i.toNatClampNeg j.toNatClampNeg n.toNatClampNeg)) := by rw [s_cpy, if_neg (fun q => q hg), if_neg (fun q => q hg2), hc, hc2, if_neg (by rw [← h0]; exact c38), if_neg (by rw [← k0]; exact c46), if_neg (fun q => q (h0.symm.trans (Eq.trans c62 k0))), if_pos ⟨by rintro (q | q | q); exact r1.1 q; exact r1.2.1 q; exact r2.1 q, r1.2.2, r2.2.2⟩]
                    rw [e]
                    exact ev_iret rfl rfl rfl ⟨rfl, shC_put (W := 1) hD ko (fun c _ _ a b => x_up_ne b) (by rw [x_up_ne (by decide)]; exact k0) (by rw [x_up_ne (by decide)]; exact k1) (fun z hz => by rw [x_up_eq]; exact va_cpy_c hi ki (by have := r1.2.2; have := ho.2; omega) hz), fun c hc => x_up_ne (fun z => hc (by rw [z]; decide))⟩
                  · replace c88 := zi_n.mp c88
                    refine ev_blk 1 [] 93 ([some (.ref 0), some (.int ((3 : Int32))), some (.int (i)), some (.int ((1 : Int32))), some (.int (j)), some (.int (n)), some (.ref 55), some (.ref 51)], [.int ((-12 : Int32))], σ) rfl ?_ ?_
                    · trivial
                    have e : s_cpy D (nI 3) i (nI 1) j n = (-12, D) := by rw [s_cpy, if_neg (fun q => q hg), if_neg (fun q => q hg2), hc, hc2, if_neg (by rw [← h0]; exact c38), if_neg (by rw [← k0]; exact c46), if_neg (fun q => q (h0.symm.trans (Eq.trans c62 k0))), if_neg (rn_no (p := 0) (q := 0) (Or.inr (fun q => c88 (by rw [show σ 51 1 = _ from k1]; exact (rnC ko.2).mpr q))))]
                    rw [e]
                    exact ev_iret rfl rfl rfl ⟨rfl, hD, xFr.rf⟩
              · refine ev_blk 1 [] 67 ([some (.ref 0), some (.int ((3 : Int32))), some (.int (i)), some (.int ((1 : Int32))), some (.int (j)), some (.int (n)), some (.ref 55), some (.ref 51)], [.int ((-13 : Int32))], σ) rfl ?_ ?_
                · trivial
                have e : s_cpy D (nI 3) i (nI 1) j n = (-13, D) := by rw [s_cpy, if_neg (fun q => q hg), if_neg (fun q => q hg2), hc, hc2, if_neg (by rw [← h0]; exact c38), if_neg (by rw [← k0]; exact c46), if_pos (fun z => c62 (h0.trans (z.trans k0.symm)))]
                rw [e]
                exact ev_iret rfl rfl rfl ⟨rfl, hD, xFr.rf⟩
            · replace c46 := zi_1.mp c46
              refine ev_blk 1 [] 51 ([some (.ref 0), some (.int ((3 : Int32))), some (.int (i)), some (.int ((1 : Int32))), some (.int (j)), some (.int (n)), some (.ref 55), some (.ref 51)], [.int ((-11 : Int32))], σ) rfl ?_ ?_
              · trivial
              have e : s_cpy D (nI 3) i (nI 1) j n = (-11, D) := by rw [s_cpy, if_neg (fun q => q hg), if_neg (fun q => q hg2), hc, hc2, if_neg (by rw [← h0]; exact c38), if_pos (by rw [← k0]; exact c46)]
              rw [e]
              exact ev_iret rfl rfl rfl ⟨rfl, hD, xFr.rf⟩
        · exact absurd (by decide) c11
    · have hg : iN 4 (nI 2) := iN_nI (by decide) (by decide)
      have hg2 : iN 4 (nI 2) := iN_nI (by decide) (by decide)
      obtain ⟨ko, k0, k1, ki⟩ := hD 2 (by decide)
      have hc2 : (nI 2).toNatClampNeg = 2 := rfl
      show xEv _ _ _ 0 ([some (.ref 0), some (.int ((3 : Int32))), some (.int (i)), some (.int ((2 : Int32))), some (.int (j)), some (.int (n)), none, none], [], σ)
      refine ev_blk 1 [] 1 ([some (.ref 0), some (.int ((3 : Int32))), some (.int (i)), some (.int ((2 : Int32))), some (.int (j)), some (.int (n)), none, none], [.int ((3 : Int32))], σ) rfl ?_ ?_
      · trivial
      refine ev_callS M_X5_isSheet [.int ((3 : Int32))] [] rfl rfl ln_X5_229 k_X5_isSheet rfl rfl rfl (c_isSheet _ _) ?_
      refine pu_k ?_
      rw [zi_t (show ¬ ((3 : Int32)) < 0 ∧ ¬ (4 : Int32) ≤ ((3 : Int32)) by decide)]
      show xEv _ _ _ 4 ([some (.ref 0), some (.int ((3 : Int32))), some (.int (i)), some (.int ((2 : Int32))), some (.int (j)), some (.int (n)), none, none], [.int ((1 : Int32))], σ)
      refine ev_br 0 [] ((1 : Int32) = 0) 14 7 ([some (.ref 0), some (.int ((3 : Int32))), some (.int (i)), some (.int ((2 : Int32))), some (.int (j)), some (.int (n)), none, none], [], σ) rfl ?_ (fun c4 => ?_) (fun c4 => ?_)
      · trivial
      · exact absurd c4 (by decide)
      · refine ev_blk 1 [] 8 ([some (.ref 0), some (.int ((3 : Int32))), some (.int (i)), some (.int ((2 : Int32))), some (.int (j)), some (.int (n)), none, none], [.int ((2 : Int32))], σ) rfl ?_ ?_
        · trivial
        refine ev_callS M_X5_isSheet [.int ((2 : Int32))] [] rfl rfl ln_X5_229 k_X5_isSheet rfl rfl rfl (c_isSheet _ _) ?_
        refine pu_k ?_
        rw [zi_t (show ¬ ((2 : Int32)) < 0 ∧ ¬ (4 : Int32) ≤ ((2 : Int32)) by decide)]
        show xEv _ _ _ 11 ([some (.ref 0), some (.int ((3 : Int32))), some (.int (i)), some (.int ((2 : Int32))), some (.int (j)), some (.int (n)), none, none], [.int ((1 : Int32))], σ)
        refine ev_br 0 [] (¬ (1 : Int32) = 0) 17 14 ([some (.ref 0), some (.int ((3 : Int32))), some (.int (i)), some (.int ((2 : Int32))), some (.int (j)), some (.int (n)), none, none], [], σ) rfl ?_ (fun c11 => ?_) (fun c11 => ?_)
        · trivial
        · refine ev_blk 11 [vp_in ((3 : Int32)) 4, vp_in ((2 : Int32)) 4] 35 ([some (.ref 0), some (.int ((3 : Int32))), some (.int (i)), some (.int ((2 : Int32))), some (.int (j)), some (.int (n)), some (.ref 55), some (.ref 53)], [.ref 55], σ) rfl ?_ ?_
          · exact ⟨(vp_in_nI (n := 3) (by decide) (by decide)), (vp_in_nI (n := 2) (by decide) (by decide))⟩
          refine ev_callV M_X4_isMissing [] [] 55 rfl rfl ln_X5_232 k_X4_isMissing rfl rfl rfl rfl rfl rfl (c_isMissing3 _) ?_
          refine pu_k ?_
          show xEv _ _ _ 38 ([some (.ref 0), some (.int ((3 : Int32))), some (.int (i)), some (.int ((2 : Int32))), some (.int (j)), some (.int (n)), some (.ref 55), some (.ref 53)], [.int (zi (σ 55 0 = -1))], σ)
          refine ev_br 0 [] (¬ (zi (σ 55 0 = -1)) = 0) 49 41 ([some (.ref 0), some (.int ((3 : Int32))), some (.int (i)), some (.int ((2 : Int32))), some (.int (j)), some (.int (n)), some (.ref 55), some (.ref 53)], [], σ) rfl ?_ (fun c38 => ?_) (fun c38 => ?_)
          · trivial
          · replace c38 := zi_1.mp c38
            refine ev_blk 1 [] 51 ([some (.ref 0), some (.int ((3 : Int32))), some (.int (i)), some (.int ((2 : Int32))), some (.int (j)), some (.int (n)), some (.ref 55), some (.ref 53)], [.int ((-11 : Int32))], σ) rfl ?_ ?_
            · trivial
            have e : s_cpy D (nI 3) i (nI 2) j n = (-11, D) := by rw [s_cpy, if_neg (fun q => q hg), if_neg (fun q => q hg2), hc, hc2, if_pos (by rw [← h0]; exact c38)]
            rw [e]
            exact ev_iret rfl rfl rfl ⟨rfl, hD, xFr.rf⟩
          · replace c38 := zi_n.mp c38
            refine ev_blk 1 [] 43 ([some (.ref 0), some (.int ((3 : Int32))), some (.int (i)), some (.int ((2 : Int32))), some (.int (j)), some (.int (n)), some (.ref 55), some (.ref 53)], [.ref 53], σ) rfl ?_ ?_
            · trivial
            refine ev_callV M_X4_isMissing [] [] 53 rfl rfl ln_X5_232 k_X4_isMissing rfl rfl rfl rfl rfl rfl (c_isMissing2 _) ?_
            refine pu_k ?_
            show xEv _ _ _ 46 ([some (.ref 0), some (.int ((3 : Int32))), some (.int (i)), some (.int ((2 : Int32))), some (.int (j)), some (.int (n)), some (.ref 55), some (.ref 53)], [.int (zi (σ 53 0 = -1))], σ)
            refine ev_br 0 [] ((zi (σ 53 0 = -1)) = 0) 52 49 ([some (.ref 0), some (.int ((3 : Int32))), some (.int (i)), some (.int ((2 : Int32))), some (.int (j)), some (.int (n)), some (.ref 55), some (.ref 53)], [], σ) rfl ?_ (fun c46 => ?_) (fun c46 => ?_)
            · trivial
            · replace c46 := zi_0.mp c46
              refine ev_br 4 [] ((σ 55 0) = (σ 53 0)) 68 65 ([some (.ref 0), some (.int ((3 : Int32))), some (.int (i)), some (.int ((2 : Int32))), some (.int (j)), some (.int (n)), some (.ref 55), some (.ref 53)], [], σ) rfl ?_ (fun c62 => ?_) (fun c62 => ?_)
              · trivial
              · refine ev_blk 3 [] 73 ([some (.ref 0), some (.int ((3 : Int32))), some (.int (i)), some (.int ((2 : Int32))), some (.int (j)), some (.int (n)), some (.ref 55), some (.ref 53)], [.int (n), .int (i), .ref 55], σ) rfl ?_ ?_
                · trivial
                refine ev_callV M_X4_hasRun [.int (i), .int (n)] [] 55 rfl rfl ln_X5_266 k_X4_hasRun rfl rfl rfl rfl rfl rfl (c_hasRun3 _ _ _) ?_
                refine pu_k ?_
                show xEv _ _ _ 76 ([some (.ref 0), some (.int ((3 : Int32))), some (.int (i)), some (.int ((2 : Int32))), some (.int (j)), some (.int (n)), some (.ref 55), some (.ref 53)], [.int (zi (¬ i < 0 ∧ ¬ n < 0 ∧ ¬ σ 55 1 < i ∧ ¬ σ 55 1 - i < n))], σ)
                refine ev_br 0 [] ((zi (¬ i < 0 ∧ ¬ n < 0 ∧ ¬ σ 55 1 < i ∧ ¬ σ 55 1 - i < n)) = 0) 91 79 ([some (.ref 0), some (.int ((3 : Int32))), some (.int (i)), some (.int ((2 : Int32))), some (.int (j)), some (.int (n)), some (.ref 55), some (.ref 53)], [], σ) rfl ?_ (fun c76 => ?_) (fun c76 => ?_)
                · trivial
                · replace c76 := zi_0.mp c76
                  refine ev_blk 1 [] 93 ([some (.ref 0), some (.int ((3 : Int32))), some (.int (i)), some (.int ((2 : Int32))), some (.int (j)), some (.int (n)), some (.ref 55), some (.ref 53)], [.int ((-12 : Int32))], σ) rfl ?_ ?_
                  · trivial
                  have e : s_cpy D (nI 3) i (nI 2) j n = (-12, D) := by rw [s_cpy, if_neg (fun q => q hg), if_neg (fun q => q hg2), hc, hc2, if_neg (by rw [← h0]; exact c38), if_neg (by rw [← k0]; exact c46), if_neg (fun q => q (h0.symm.trans (Eq.trans c62 k0))), if_neg (rn_no (p := 0) (q := 0) (Or.inl (fun q => c76 (by rw [show σ 55 1 = _ from h1]; exact (rnC ho.2).mpr q))))]
                  rw [e]
                  exact ev_iret rfl rfl rfl ⟨rfl, hD, xFr.rf⟩
                · replace c76 := zi_1.mp c76
                  refine ev_blk 3 [] 85 ([some (.ref 0), some (.int ((3 : Int32))), some (.int (i)), some (.int ((2 : Int32))), some (.int (j)), some (.int (n)), some (.ref 55), some (.ref 53)], [.int (n), .int (j), .ref 53], σ) rfl ?_ ?_
                  · trivial
                  refine ev_callV M_X4_hasRun [.int (j), .int (n)] [] 53 rfl rfl ln_X5_266 k_X4_hasRun rfl rfl rfl rfl rfl rfl (c_hasRun2 _ _ _) ?_
                  refine pu_k ?_
                  show xEv _ _ _ 88 ([some (.ref 0), some (.int ((3 : Int32))), some (.int (i)), some (.int ((2 : Int32))), some (.int (j)), some (.int (n)), some (.ref 55), some (.ref 53)], [.int (zi (¬ j < 0 ∧ ¬ n < 0 ∧ ¬ σ 53 1 < j ∧ ¬ σ 53 1 - j < n))], σ)
                  refine ev_br 0 [] (¬ (zi (¬ j < 0 ∧ ¬ n < 0 ∧ ¬ σ 53 1 < j ∧ ¬ σ 53 1 - j < n)) = 0) 94 91 ([some (.ref 0), some (.int ((3 : Int32))), some (.int (i)), some (.int ((2 : Int32))), some (.int (j)), some (.int (n)), some (.ref 55), some (.ref 53)], [], σ) rfl ?_ (fun c88 => ?_) (fun c88 => ?_)
                  · trivial
                  · replace c88 := zi_1.mp c88
                    have r1 := rn_cl ho.2 ((rnC ho.2).mp (by rw [show σ 55 1 = _ from h1] at c76; exact c76))
                    have r2 := rn_cl ko.2 ((rnC ko.2).mp (by rw [show σ 53 1 = _ from k1] at c88; exact c88))
                    refine ev_blk 9 [¬ i < 0, ¬ j < 0, ¬ n < 0, i.toNatClampNeg + n.toNatClampNeg ≤ 40, j.toNatClampNeg + n.toNatClampNeg ≤ 40] 114 ([some (.ref 0), some (.int ((3 : Int32))), some (.int (i)), some (.int ((2 : Int32))), some (.int (j)), some (.int (n)), some (.ref 55), some (.ref 53)], [.int (n)], (x_up σ 54 (va_cpy (σ 56) (σ 54) i.toNatClampNeg j.toNatClampNeg n.toNatClampNeg))) rfl ?_ ?_
                    · exact ⟨r1.1, r2.1, r1.2.1, Nat.le_trans r1.2.2 ho.2, Nat.le_trans r2.2.2 ko.2⟩
                    have e : s_cpy D (nI 3) i (nI 2) j n = (n, updD D 2 ((D 2).1, (D 2).2.1, va_cpy (D 3).2.2 (D 2).2.2 i.toNatClampNeg j.toNatClampNeg n.toNatClampNeg)) := by rw [s_cpy, if_neg (fun q => q hg), if_neg (fun q => q hg2), hc, hc2, if_neg (by rw [← h0]; exact c38), if_neg (by rw [← k0]; exact c46), if_neg (fun q => q (h0.symm.trans (Eq.trans c62 k0))), if_pos ⟨by rintro (q | q | q); exact r1.1 q; exact r1.2.1 q; exact r2.1 q, r1.2.2, r2.2.2⟩]
                    rw [e]
                    exact ev_iret rfl rfl rfl ⟨rfl, shC_put (W := 2) hD ko (fun c _ _ a b => x_up_ne b) (by rw [x_up_ne (by decide)]; exact k0) (by rw [x_up_ne (by decide)]; exact k1) (fun z hz => by rw [x_up_eq]; exact va_cpy_c hi ki (by have := r1.2.2; have := ho.2; omega) hz), fun c hc => x_up_ne (fun z => hc (by rw [z]; decide))⟩
                  · replace c88 := zi_n.mp c88
                    refine ev_blk 1 [] 93 ([some (.ref 0), some (.int ((3 : Int32))), some (.int (i)), some (.int ((2 : Int32))), some (.int (j)), some (.int (n)), some (.ref 55), some (.ref 53)], [.int ((-12 : Int32))], σ) rfl ?_ ?_
                    · trivial
                    have e : s_cpy D (nI 3) i (nI 2) j n = (-12, D) := by rw [s_cpy, if_neg (fun q => q hg), if_neg (fun q => q hg2), hc, hc2, if_neg (by rw [← h0]; exact c38), if_neg (by rw [← k0]; exact c46), if_neg (fun q => q (h0.symm.trans (Eq.trans c62 k0))), if_neg (rn_no (p := 0) (q := 0) (Or.inr (fun q => c88 (by rw [show σ 53 1 = _ from k1]; exact (rnC ko.2).mpr q))))]
                    rw [e]
                    exact ev_iret rfl rfl rfl ⟨rfl, hD, xFr.rf⟩
              · refine ev_blk 1 [] 67 ([some (.ref 0), some (.int ((3 : Int32))), some (.int (i)), some (.int ((2 : Int32))), some (.int (j)), some (.int (n)), some (.ref 55), some (.ref 53)], [.int ((-13 : Int32))], σ) rfl ?_ ?_
                · trivial
                have e : s_cpy D (nI 3) i (nI 2) j n = (-13, D) := by rw [s_cpy, if_neg (fun q => q hg), if_neg (fun q => q hg2), hc, hc2, if_neg (by rw [← h0]; exact c38), if_neg (by rw [← k0]; exact c46), if_pos (fun z => c62 (h0.trans (z.trans k0.symm)))]
                rw [e]
                exact ev_iret rfl rfl rfl ⟨rfl, hD, xFr.rf⟩
            · replace c46 := zi_1.mp c46
              refine ev_blk 1 [] 51 ([some (.ref 0), some (.int ((3 : Int32))), some (.int (i)), some (.int ((2 : Int32))), some (.int (j)), some (.int (n)), some (.ref 55), some (.ref 53)], [.int ((-11 : Int32))], σ) rfl ?_ ?_
              · trivial
              have e : s_cpy D (nI 3) i (nI 2) j n = (-11, D) := by rw [s_cpy, if_neg (fun q => q hg), if_neg (fun q => q hg2), hc, hc2, if_neg (by rw [← h0]; exact c38), if_pos (by rw [← k0]; exact c46)]
              rw [e]
              exact ev_iret rfl rfl rfl ⟨rfl, hD, xFr.rf⟩
        · exact absurd (by decide) c11
    · have hg : iN 4 (nI 3) := iN_nI (by decide) (by decide)
      have hg2 : iN 4 (nI 3) := iN_nI (by decide) (by decide)
      obtain ⟨ko, k0, k1, ki⟩ := hD 3 (by decide)
      have hc2 : (nI 3).toNatClampNeg = 3 := rfl
      show xEv _ _ _ 0 ([some (.ref 0), some (.int ((3 : Int32))), some (.int (i)), some (.int ((3 : Int32))), some (.int (j)), some (.int (n)), none, none], [], σ)
      refine ev_blk 1 [] 1 ([some (.ref 0), some (.int ((3 : Int32))), some (.int (i)), some (.int ((3 : Int32))), some (.int (j)), some (.int (n)), none, none], [.int ((3 : Int32))], σ) rfl ?_ ?_
      · trivial
      refine ev_callS M_X5_isSheet [.int ((3 : Int32))] [] rfl rfl ln_X5_229 k_X5_isSheet rfl rfl rfl (c_isSheet _ _) ?_
      refine pu_k ?_
      rw [zi_t (show ¬ ((3 : Int32)) < 0 ∧ ¬ (4 : Int32) ≤ ((3 : Int32)) by decide)]
      show xEv _ _ _ 4 ([some (.ref 0), some (.int ((3 : Int32))), some (.int (i)), some (.int ((3 : Int32))), some (.int (j)), some (.int (n)), none, none], [.int ((1 : Int32))], σ)
      refine ev_br 0 [] ((1 : Int32) = 0) 14 7 ([some (.ref 0), some (.int ((3 : Int32))), some (.int (i)), some (.int ((3 : Int32))), some (.int (j)), some (.int (n)), none, none], [], σ) rfl ?_ (fun c4 => ?_) (fun c4 => ?_)
      · trivial
      · exact absurd c4 (by decide)
      · refine ev_blk 1 [] 8 ([some (.ref 0), some (.int ((3 : Int32))), some (.int (i)), some (.int ((3 : Int32))), some (.int (j)), some (.int (n)), none, none], [.int ((3 : Int32))], σ) rfl ?_ ?_
        · trivial
        refine ev_callS M_X5_isSheet [.int ((3 : Int32))] [] rfl rfl ln_X5_229 k_X5_isSheet rfl rfl rfl (c_isSheet _ _) ?_
        refine pu_k ?_
        rw [zi_t (show ¬ ((3 : Int32)) < 0 ∧ ¬ (4 : Int32) ≤ ((3 : Int32)) by decide)]
        show xEv _ _ _ 11 ([some (.ref 0), some (.int ((3 : Int32))), some (.int (i)), some (.int ((3 : Int32))), some (.int (j)), some (.int (n)), none, none], [.int ((1 : Int32))], σ)
        refine ev_br 0 [] (¬ (1 : Int32) = 0) 17 14 ([some (.ref 0), some (.int ((3 : Int32))), some (.int (i)), some (.int ((3 : Int32))), some (.int (j)), some (.int (n)), none, none], [], σ) rfl ?_ (fun c11 => ?_) (fun c11 => ?_)
        · trivial
        · refine ev_blk 11 [vp_in ((3 : Int32)) 4, vp_in ((3 : Int32)) 4] 35 ([some (.ref 0), some (.int ((3 : Int32))), some (.int (i)), some (.int ((3 : Int32))), some (.int (j)), some (.int (n)), some (.ref 55), some (.ref 55)], [.ref 55], σ) rfl ?_ ?_
          · exact ⟨(vp_in_nI (n := 3) (by decide) (by decide)), (vp_in_nI (n := 3) (by decide) (by decide))⟩
          refine ev_callV M_X4_isMissing [] [] 55 rfl rfl ln_X5_232 k_X4_isMissing rfl rfl rfl rfl rfl rfl (c_isMissing3 _) ?_
          refine pu_k ?_
          show xEv _ _ _ 38 ([some (.ref 0), some (.int ((3 : Int32))), some (.int (i)), some (.int ((3 : Int32))), some (.int (j)), some (.int (n)), some (.ref 55), some (.ref 55)], [.int (zi (σ 55 0 = -1))], σ)
          refine ev_br 0 [] (¬ (zi (σ 55 0 = -1)) = 0) 49 41 ([some (.ref 0), some (.int ((3 : Int32))), some (.int (i)), some (.int ((3 : Int32))), some (.int (j)), some (.int (n)), some (.ref 55), some (.ref 55)], [], σ) rfl ?_ (fun c38 => ?_) (fun c38 => ?_)
          · trivial
          · replace c38 := zi_1.mp c38
            refine ev_blk 1 [] 51 ([some (.ref 0), some (.int ((3 : Int32))), some (.int (i)), some (.int ((3 : Int32))), some (.int (j)), some (.int (n)), some (.ref 55), some (.ref 55)], [.int ((-11 : Int32))], σ) rfl ?_ ?_
            · trivial
            have e : s_cpy D (nI 3) i (nI 3) j n = (-11, D) := by rw [s_cpy, if_neg (fun q => q hg), if_neg (fun q => q hg2), hc, if_pos (by rw [← h0]; exact c38)]
            rw [e]
            exact ev_iret rfl rfl rfl ⟨rfl, hD, xFr.rf⟩
          · replace c38 := zi_n.mp c38
            refine ev_blk 1 [] 43 ([some (.ref 0), some (.int ((3 : Int32))), some (.int (i)), some (.int ((3 : Int32))), some (.int (j)), some (.int (n)), some (.ref 55), some (.ref 55)], [.ref 55], σ) rfl ?_ ?_
            · trivial
            refine ev_callV M_X4_isMissing [] [] 55 rfl rfl ln_X5_232 k_X4_isMissing rfl rfl rfl rfl rfl rfl (c_isMissing3 _) ?_
            refine pu_k ?_
            show xEv _ _ _ 46 ([some (.ref 0), some (.int ((3 : Int32))), some (.int (i)), some (.int ((3 : Int32))), some (.int (j)), some (.int (n)), some (.ref 55), some (.ref 55)], [.int (zi (σ 55 0 = -1))], σ)
            refine ev_br 0 [] ((zi (σ 55 0 = -1)) = 0) 52 49 ([some (.ref 0), some (.int ((3 : Int32))), some (.int (i)), some (.int ((3 : Int32))), some (.int (j)), some (.int (n)), some (.ref 55), some (.ref 55)], [], σ) rfl ?_ (fun c46 => ?_) (fun c46 => ?_)
            · trivial
            · replace c46 := zi_0.mp c46
              refine ev_br 4 [] ((σ 55 0) = (σ 55 0)) 68 65 ([some (.ref 0), some (.int ((3 : Int32))), some (.int (i)), some (.int ((3 : Int32))), some (.int (j)), some (.int (n)), some (.ref 55), some (.ref 55)], [], σ) rfl ?_ (fun c62 => ?_) (fun c62 => ?_)
              · trivial
              · refine ev_blk 3 [] 73 ([some (.ref 0), some (.int ((3 : Int32))), some (.int (i)), some (.int ((3 : Int32))), some (.int (j)), some (.int (n)), some (.ref 55), some (.ref 55)], [.int (n), .int (i), .ref 55], σ) rfl ?_ ?_
                · trivial
                refine ev_callV M_X4_hasRun [.int (i), .int (n)] [] 55 rfl rfl ln_X5_266 k_X4_hasRun rfl rfl rfl rfl rfl rfl (c_hasRun3 _ _ _) ?_
                refine pu_k ?_
                show xEv _ _ _ 76 ([some (.ref 0), some (.int ((3 : Int32))), some (.int (i)), some (.int ((3 : Int32))), some (.int (j)), some (.int (n)), some (.ref 55), some (.ref 55)], [.int (zi (¬ i < 0 ∧ ¬ n < 0 ∧ ¬ σ 55 1 < i ∧ ¬ σ 55 1 - i < n))], σ)
                refine ev_br 0 [] ((zi (¬ i < 0 ∧ ¬ n < 0 ∧ ¬ σ 55 1 < i ∧ ¬ σ 55 1 - i < n)) = 0) 91 79 ([some (.ref 0), some (.int ((3 : Int32))), some (.int (i)), some (.int ((3 : Int32))), some (.int (j)), some (.int (n)), some (.ref 55), some (.ref 55)], [], σ) rfl ?_ (fun c76 => ?_) (fun c76 => ?_)
                · trivial
                · replace c76 := zi_0.mp c76
                  refine ev_blk 1 [] 93 ([some (.ref 0), some (.int ((3 : Int32))), some (.int (i)), some (.int ((3 : Int32))), some (.int (j)), some (.int (n)), some (.ref 55), some (.ref 55)], [.int ((-12 : Int32))], σ) rfl ?_ ?_
                  · trivial
                  have e : s_cpy D (nI 3) i (nI 3) j n = (-12, D) := by rw [s_cpy, if_neg (fun q => q hg), if_neg (fun q => q hg2), hc, if_neg (by rw [← h0]; exact c38), if_neg (by rw [← k0]; exact c46), if_neg (fun q => q (h0.symm.trans (Eq.trans c62 k0))), if_neg (rn_no (p := 0) (q := 0) (Or.inl (fun q => c76 (by rw [show σ 55 1 = _ from h1]; exact (rnC ho.2).mpr q))))]
                  rw [e]
                  exact ev_iret rfl rfl rfl ⟨rfl, hD, xFr.rf⟩
                · replace c76 := zi_1.mp c76
                  refine ev_blk 3 [] 85 ([some (.ref 0), some (.int ((3 : Int32))), some (.int (i)), some (.int ((3 : Int32))), some (.int (j)), some (.int (n)), some (.ref 55), some (.ref 55)], [.int (n), .int (j), .ref 55], σ) rfl ?_ ?_
                  · trivial
                  refine ev_callV M_X4_hasRun [.int (j), .int (n)] [] 55 rfl rfl ln_X5_266 k_X4_hasRun rfl rfl rfl rfl rfl rfl (c_hasRun3 _ _ _) ?_
                  refine pu_k ?_
                  show xEv _ _ _ 88 ([some (.ref 0), some (.int ((3 : Int32))), some (.int (i)), some (.int ((3 : Int32))), some (.int (j)), some (.int (n)), some (.ref 55), some (.ref 55)], [.int (zi (¬ j < 0 ∧ ¬ n < 0 ∧ ¬ σ 55 1 < j ∧ ¬ σ 55 1 - j < n))], σ)
                  refine ev_br 0 [] (¬ (zi (¬ j < 0 ∧ ¬ n < 0 ∧ ¬ σ 55 1 < j ∧ ¬ σ 55 1 - j < n)) = 0) 94 91 ([some (.ref 0), some (.int ((3 : Int32))), some (.int (i)), some (.int ((3 : Int32))), some (.int (j)), some (.int (n)), some (.ref 55), some (.ref 55)], [], σ) rfl ?_ (fun c88 => ?_) (fun c88 => ?_)
                  · trivial
                  · replace c88 := zi_1.mp c88
                    have r1 := rn_cl ho.2 ((rnC ho.2).mp (by rw [show σ 55 1 = _ from h1] at c76; exact c76))
                    have r2 := rn_cl ko.2 ((rnC ko.2).mp (by rw [show σ 55 1 = _ from k1] at c88; exact c88))
                    refine ev_blk 9 [¬ i < 0, ¬ j < 0, ¬ n < 0, i.toNatClampNeg + n.toNatClampNeg ≤ 40, j.toNatClampNeg + n.toNatClampNeg ≤ 40] 114 ([some (.ref 0), some (.int ((3 : Int32))), some (.int (i)), some (.int ((3 : Int32))), some (.int (j)), some (.int (n)), some (.ref 55), some (.ref 55)], [.int (n)], (x_up σ 56 (va_cpy (σ 56) (σ 56) i.toNatClampNeg j.toNatClampNeg n.toNatClampNeg))) rfl ?_ ?_
                    · exact ⟨r1.1, r2.1, r1.2.1, Nat.le_trans r1.2.2 ho.2, Nat.le_trans r2.2.2 ko.2⟩
                    have e : s_cpy D (nI 3) i (nI 3) j n = (n, updD D 3 ((D 3).1, (D 3).2.1, va_cpy (D 3).2.2 (D 3).2.2 i.toNatClampNeg j.toNatClampNeg n.toNatClampNeg)) := by rw [s_cpy, if_neg (fun q => q hg), if_neg (fun q => q hg2), hc, if_neg (by rw [← h0]; exact c38), if_neg (by rw [← k0]; exact c46), if_neg (fun q => q (h0.symm.trans (Eq.trans c62 k0))), if_pos ⟨by rintro (q | q | q); exact r1.1 q; exact r1.2.1 q; exact r2.1 q, r1.2.2, r2.2.2⟩]
                    rw [e]
                    exact ev_iret rfl rfl rfl ⟨rfl, shC_put (W := 3) hD ko (fun c _ _ a b => x_up_ne b) (by rw [x_up_ne (by decide)]; exact k0) (by rw [x_up_ne (by decide)]; exact k1) (fun z hz => by rw [x_up_eq]; exact va_cpy_c hi ki (by have := r1.2.2; have := ho.2; omega) hz), fun c hc => x_up_ne (fun z => hc (by rw [z]; decide))⟩
                  · replace c88 := zi_n.mp c88
                    refine ev_blk 1 [] 93 ([some (.ref 0), some (.int ((3 : Int32))), some (.int (i)), some (.int ((3 : Int32))), some (.int (j)), some (.int (n)), some (.ref 55), some (.ref 55)], [.int ((-12 : Int32))], σ) rfl ?_ ?_
                    · trivial
                    have e : s_cpy D (nI 3) i (nI 3) j n = (-12, D) := by rw [s_cpy, if_neg (fun q => q hg), if_neg (fun q => q hg2), hc, if_neg (by rw [← h0]; exact c38), if_neg (by rw [← k0]; exact c46), if_neg (fun q => q (h0.symm.trans (Eq.trans c62 k0))), if_neg (rn_no (p := 0) (q := 0) (Or.inr (fun q => c88 (by rw [show σ 55 1 = _ from k1]; exact (rnC ko.2).mpr q))))]
                    rw [e]
                    exact ev_iret rfl rfl rfl ⟨rfl, hD, xFr.rf⟩
              · refine ev_blk 1 [] 67 ([some (.ref 0), some (.int ((3 : Int32))), some (.int (i)), some (.int ((3 : Int32))), some (.int (j)), some (.int (n)), some (.ref 55), some (.ref 55)], [.int ((-13 : Int32))], σ) rfl ?_ ?_
                · trivial
                have e : s_cpy D (nI 3) i (nI 3) j n = (-13, D) := by rw [s_cpy, if_neg (fun q => q hg), if_neg (fun q => q hg2), hc, if_neg (by rw [← h0]; exact c38), if_neg (by rw [← k0]; exact c46), if_pos (fun z => c62 (h0.trans (z.trans k0.symm)))]
                rw [e]
                exact ev_iret rfl rfl rfl ⟨rfl, hD, xFr.rf⟩
            · replace c46 := zi_1.mp c46
              refine ev_blk 1 [] 51 ([some (.ref 0), some (.int ((3 : Int32))), some (.int (i)), some (.int ((3 : Int32))), some (.int (j)), some (.int (n)), some (.ref 55), some (.ref 55)], [.int ((-11 : Int32))], σ) rfl ?_ ?_
              · trivial
              have e : s_cpy D (nI 3) i (nI 3) j n = (-11, D) := by rw [s_cpy, if_neg (fun q => q hg), if_neg (fun q => q hg2), hc, if_neg (by rw [← h0]; exact c38), if_pos (by rw [← k0]; exact c46)]
              rw [e]
              exact ev_iret rfl rfl rfl ⟨rfl, hD, xFr.rf⟩
        · exact absurd (by decide) c11
set_option maxRecDepth 100000 in
theorem c_copy (σ : xSg) (D : Nat → shD) (hD : shC σ D) (s i o j n : Int32) : xCtr M_X5_copy [.ref 0, .int (s), .int (i), .int (o), .int (j), .int (n)] σ (shPQ scS σ (s_cpy D s i o j n)) := by
  rcases pk_ix s (n := 4) (by decide) with hb | hb | ⟨W, hW, rfl⟩
  · have hbad : ¬ iN 4 s := fun q => q.1 hb
    refine ctr_ev ok_X5_copy (by decide +kernel) rfl rfl rfl ?_
    show xEv (.inl 1) M_X5_copy _ 0 ([some (.ref 0), some (.int (s)), some (.int (i)), some (.int (o)), some (.int (j)), some (.int (n)), none, none], [], σ)
    refine ev_blk 1 [] 1 ([some (.ref 0), some (.int (s)), some (.int (i)), some (.int (o)), some (.int (j)), some (.int (n)), none, none], [.int (s)], σ) rfl ?_ ?_
    · trivial
    refine ev_callS M_X5_isSheet [.int (s)] [] rfl rfl ln_X5_229 k_X5_isSheet rfl rfl rfl (c_isSheet _ _) ?_
    refine pu_k ?_
    show xEv _ _ _ 4 ([some (.ref 0), some (.int (s)), some (.int (i)), some (.int (o)), some (.int (j)), some (.int (n)), none, none], [.int (zi (¬ s < 0 ∧ ¬ (4 : Int32) ≤ (s)))], σ)
    refine ev_br 0 [] ((zi (¬ s < 0 ∧ ¬ (4 : Int32) ≤ (s))) = 0) 14 7 ([some (.ref 0), some (.int (s)), some (.int (i)), some (.int (o)), some (.int (j)), some (.int (n)), none, none], [], σ) rfl ?_ (fun c4 => ?_) (fun c4 => ?_)
    · trivial
    · replace c4 := zi_0.mp c4
      refine ev_blk 1 [] 16 ([some (.ref 0), some (.int (s)), some (.int (i)), some (.int (o)), some (.int (j)), some (.int (n)), none, none], [.int ((-2 : Int32))], σ) rfl ?_ ?_
      · trivial
      have e : s_cpy D s i o j n = (-2, D) := by rw [s_cpy, if_pos hbad]
      rw [e]
      exact ev_iret rfl rfl rfl ⟨rfl, hD, xFr.rf⟩
    · exact absurd (zi_1.mp c4) hbad
  · have hbad : ¬ iN 4 s := fun q => q.2 hb
    refine ctr_ev ok_X5_copy (by decide +kernel) rfl rfl rfl ?_
    show xEv (.inl 1) M_X5_copy _ 0 ([some (.ref 0), some (.int (s)), some (.int (i)), some (.int (o)), some (.int (j)), some (.int (n)), none, none], [], σ)
    refine ev_blk 1 [] 1 ([some (.ref 0), some (.int (s)), some (.int (i)), some (.int (o)), some (.int (j)), some (.int (n)), none, none], [.int (s)], σ) rfl ?_ ?_
    · trivial
    refine ev_callS M_X5_isSheet [.int (s)] [] rfl rfl ln_X5_229 k_X5_isSheet rfl rfl rfl (c_isSheet _ _) ?_
    refine pu_k ?_
    show xEv _ _ _ 4 ([some (.ref 0), some (.int (s)), some (.int (i)), some (.int (o)), some (.int (j)), some (.int (n)), none, none], [.int (zi (¬ s < 0 ∧ ¬ (4 : Int32) ≤ (s)))], σ)
    refine ev_br 0 [] ((zi (¬ s < 0 ∧ ¬ (4 : Int32) ≤ (s))) = 0) 14 7 ([some (.ref 0), some (.int (s)), some (.int (i)), some (.int (o)), some (.int (j)), some (.int (n)), none, none], [], σ) rfl ?_ (fun c4 => ?_) (fun c4 => ?_)
    · trivial
    · replace c4 := zi_0.mp c4
      refine ev_blk 1 [] 16 ([some (.ref 0), some (.int (s)), some (.int (i)), some (.int (o)), some (.int (j)), some (.int (n)), none, none], [.int ((-2 : Int32))], σ) rfl ?_ ?_
      · trivial
      have e : s_cpy D s i o j n = (-2, D) := by rw [s_cpy, if_pos hbad]
      rw [e]
      exact ev_iret rfl rfl rfl ⟨rfl, hD, xFr.rf⟩
    · exact absurd (zi_1.mp c4) hbad
  · rcases (show W = 0 ∨ W = 1 ∨ W = 2 ∨ W = 3 by omega) with rfl | rfl | rfl | rfl
    · exact c_copy0 σ D hD i o j n
    · exact c_copy1 σ D hD i o j n
    · exact c_copy2 σ D hD i o j n
    · exact c_copy3 σ D hD i o j n
