def s_tel (n : Nat) (w : Int32) (a : sAt) (tk : sTk) (A B : List Nat) (D : Nat → shD) (s x wh : Int32) : Int32 :=
  if ¬ iN 4 s then -2 else if wh < 0 ∨ 3 < wh then -2 else if ¬ wh < 2 ∧ ¬ iN n x then -2 else if ¬ wh < 2 ∧ bt w x.toNatClampNeg = false then -3
  else if (D s.toNatClampNeg).1 = -1 then -11 else if 8 < (D s.toNatClampNeg).2.1 then -2
  else if wh = 0 then s_unl a tk (D s.toNatClampNeg).2.2 (D s.toNatClampNeg).2.1 0 A B
  else if wh = 1 then s_tri (fun v => s_unl (a_st a (nI v)) tk (D s.toNatClampNeg).2.2 (D s.toNatClampNeg).2.1 0 A B) 5 0 0
  else if wh = 2 then s_tri (fun v => s_unl (a_kd a x.toNatClampNeg (nI v)) tk (D s.toNatClampNeg).2.2 (D s.toNatClampNeg).2.1 0 A B) 6 0 0
  else s_tri (fun v => s_unl (a_ln a x.toNatClampNeg (nI v)) tk (D s.toNatClampNeg).2.2 (D s.toNatClampNeg).2.1 0 A B) 9 1 0
def s_it (a : sAt) (tk : sTk) (A B : List Nat) : Nat → List Nat × List Nat
  | 0 => (A, B)
  | j + 1 => ((s_fill a tk (s_it a tk A B j).1 (s_it a tk A B j).2).1, (s_fill a tk (s_it a tk A B j).1 (s_it a tk A B j).2).2.1)
def s_ct (a : sAt) (tk : sTk) (A B : List Nat) (j : Nat) : Nat := (s_went (s_fill a tk (s_it a tk A B j).1 (s_it a tk A B j).2)).length
def s_flm (a : sAt) (tk : sTk) (A B : List Nat) (D : Nat → shD) (s n : Int32) : Int32 × (Nat → shD) := if ¬ iN 4 s then (-2, D) else if n < 0 ∨ 8 < n then (-2, D) else (n, updD D s.toNatClampNeg (0, n.toNatClampNeg, fun j => if j < n.toNatClampNeg then nI (s_ct a tk A B j) else 0))
theorem sb_small : ∀ k, k < 11 → (nI k).toInt8.toInt32 = nI k := by decide +kernel
theorem updD_updD {D : Nat → shD} {i : Nat} {d e : shD} : updD (updD D i d) i e = updD D i e := by
  funext k
  unfold updD
  split <;> rfl
set_option maxRecDepth 100000 in
theorem c_tells (σ : xSg) (n : Nat) (hok : aOk (atC σ) n) (hn : σ 1 0 = nI n) (D : Nat → shD) (hD : shC σ D) (s x wh : Int32) : xCtr M_X5_tells [.ref 0, .int (s), .int (x), .int (wh)] σ (fun r σ2 => r = some (.int (s_tel n (σ 1 1) (atC σ) (tkC σ) (laneL n (σ 1 1) (σ 7) 0) (laneL n (σ 1 1) (σ 7) 1) D s x wh)) ∧ xFr scC σ σ2) := by
  refine ctr_ev ok_X5_tells (by decide +kernel) rfl rfl rfl ?_
  show xEv (.inl 7) M_X5_tells _ 0 ([some (.ref 0), some (.int (s)), some (.int (x)), some (.int (wh)), none, none], [], σ)
  have hn10 := hok.1
  have hsi := iSh_iN (x := x) hn hn10
  rcases pk_ix s (n := 4) (by decide) with hb | hb | ⟨W, hW, rfl⟩
  · have hbad : ¬ iN 4 s := fun q => q.1 hb
    refine ev_blk 1 [] 1 ([some (.ref 0), some (.int (s)), some (.int (x)), some (.int (wh)), none, none], [.int (s)], σ) rfl ?_ ?_
    · trivial
    refine ev_callS M_X5_isSheet [.int (s)] [] rfl rfl ln_X5_229 k_X5_isSheet rfl rfl rfl (c_isSheet _ _) ?_
    refine pu_k ?_
    show xEv _ _ _ 4 ([some (.ref 0), some (.int (s)), some (.int (x)), some (.int (wh)), none, none], [.int (zi (¬ s < 0 ∧ ¬ (4 : Int32) ≤ (s)))], σ)
    refine ev_br 0 [] ((zi (¬ s < 0 ∧ ¬ (4 : Int32) ≤ (s))) = 0) 16 7 ([some (.ref 0), some (.int (s)), some (.int (x)), some (.int (wh)), none, none], [], σ) rfl ?_ (fun c4 => ?_) (fun c4 => ?_)
    · trivial
    · replace c4 := zi_0.mp c4
      refine ev_blk 1 [] 18 ([some (.ref 0), some (.int (s)), some (.int (x)), some (.int (wh)), none, none], [.int ((-2 : Int32))], σ) rfl ?_ ?_
      · trivial
      exact ev_iret rfl rfl rfl ⟨by rw [s_tel, if_pos hbad], xFr.rf⟩
    · exact absurd (zi_1.mp c4) hbad
  · have hbad : ¬ iN 4 s := fun q => q.2 hb
    refine ev_blk 1 [] 1 ([some (.ref 0), some (.int (s)), some (.int (x)), some (.int (wh)), none, none], [.int (s)], σ) rfl ?_ ?_
    · trivial
    refine ev_callS M_X5_isSheet [.int (s)] [] rfl rfl ln_X5_229 k_X5_isSheet rfl rfl rfl (c_isSheet _ _) ?_
    refine pu_k ?_
    show xEv _ _ _ 4 ([some (.ref 0), some (.int (s)), some (.int (x)), some (.int (wh)), none, none], [.int (zi (¬ s < 0 ∧ ¬ (4 : Int32) ≤ (s)))], σ)
    refine ev_br 0 [] ((zi (¬ s < 0 ∧ ¬ (4 : Int32) ≤ (s))) = 0) 16 7 ([some (.ref 0), some (.int (s)), some (.int (x)), some (.int (wh)), none, none], [], σ) rfl ?_ (fun c4 => ?_) (fun c4 => ?_)
    · trivial
    · replace c4 := zi_0.mp c4
      refine ev_blk 1 [] 18 ([some (.ref 0), some (.int (s)), some (.int (x)), some (.int (wh)), none, none], [.int ((-2 : Int32))], σ) rfl ?_ ?_
      · trivial
      exact ev_iret rfl rfl rfl ⟨by rw [s_tel, if_pos hbad], xFr.rf⟩
    · exact absurd (zi_1.mp c4) hbad
  · rcases (show W = 0 ∨ W = 1 ∨ W = 2 ∨ W = 3 by omega) with rfl | rfl | rfl | rfl
    · have hg : iN 4 (nI 0) := iN_nI (by decide) (by decide)
      obtain ⟨ho, h0, h1, hi⟩ := hD 0 (by decide)
      have hc : (nI 0).toNatClampNeg = 0 := rfl
      show xEv _ _ _ 0 ([some (.ref 0), some (.int ((0 : Int32))), some (.int (x)), some (.int (wh)), none, none], [], σ)
      refine ev_blk 1 [] 1 ([some (.ref 0), some (.int ((0 : Int32))), some (.int (x)), some (.int (wh)), none, none], [.int ((0 : Int32))], σ) rfl ?_ ?_
      · trivial
      refine ev_callS M_X5_isSheet [.int ((0 : Int32))] [] rfl rfl ln_X5_229 k_X5_isSheet rfl rfl rfl (c_isSheet _ _) ?_
      refine pu_k ?_
      rw [zi_t (show ¬ ((0 : Int32)) < 0 ∧ ¬ (4 : Int32) ≤ ((0 : Int32)) by decide)]
      show xEv _ _ _ 4 ([some (.ref 0), some (.int ((0 : Int32))), some (.int (x)), some (.int (wh)), none, none], [.int ((1 : Int32))], σ)
      refine ev_br 0 [] ((1 : Int32) = 0) 16 7 ([some (.ref 0), some (.int ((0 : Int32))), some (.int (x)), some (.int (wh)), none, none], [], σ) rfl ?_ (fun c4 => ?_) (fun c4 => ?_)
      · trivial
      · exact absurd c4 (by decide)
      · refine ev_br 1 [] (wh < 0) 16 11 ([some (.ref 0), some (.int ((0 : Int32))), some (.int (x)), some (.int (wh)), none, none], [], σ) rfl ?_ (fun c8 => ?_) (fun c8 => ?_)
        · trivial
        · refine ev_blk 1 [] 18 ([some (.ref 0), some (.int ((0 : Int32))), some (.int (x)), some (.int (wh)), none, none], [.int ((-2 : Int32))], σ) rfl ?_ ?_
          · trivial
          exact ev_iret rfl rfl rfl ⟨by rw [s_tel, if_neg (fun q => q hg), if_pos (Or.inl c8)], xFr.rf⟩
        · refine ev_br 2 [] (wh ≤ (3 : Int32)) 19 16 ([some (.ref 0), some (.int ((0 : Int32))), some (.int (x)), some (.int (wh)), none, none], [], σ) rfl ?_ (fun c13 => ?_) (fun c13 => ?_)
          · trivial
          · refine ev_br 2 [] (wh < (2 : Int32)) 28 24 ([some (.ref 0), some (.int ((0 : Int32))), some (.int (x)), some (.int (wh)), none, none], [], σ) rfl ?_ (fun c21 => ?_) (fun c21 => ?_)
            · trivial
            · refine ev_br 3 [] ((0 : Int32) = 0) 50 36 ([some (.ref 0), some (.int ((0 : Int32))), some (.int (x)), some (.int (wh)), some (.int ((0 : Int32))), none], [], σ) rfl ?_ (fun c33 => ?_) (fun c33 => ?_)
              · trivial
              · refine ev_br 1 [] ((0 : Int32) = 0) 69 55 ([some (.ref 0), some (.int ((0 : Int32))), some (.int (x)), some (.int (wh)), some (.int ((0 : Int32))), none], [], σ) rfl ?_ (fun c52 => ?_) (fun c52 => ?_)
                · trivial
                · refine ev_blk 6 [vp_in ((0 : Int32)) 4] 79 ([some (.ref 0), some (.int ((0 : Int32))), some (.int (x)), some (.int (wh)), some (.int ((0 : Int32))), some (.ref 49)], [.ref 49], σ) rfl ?_ ?_
                  · exact (vp_in_nI (n := 0) (by decide) (by decide))
                  refine ev_callV M_X4_isMissing [] [] 49 rfl rfl ln_X5_232 k_X4_isMissing rfl rfl rfl rfl rfl rfl (c_isMissing0 _) ?_
                  refine pu_k ?_
                  show xEv _ _ _ 82 ([some (.ref 0), some (.int ((0 : Int32))), some (.int (x)), some (.int (wh)), some (.int ((0 : Int32))), some (.ref 49)], [.int (zi (σ 49 0 = -1))], σ)
                  refine ev_br 0 [] ((zi (σ 49 0 = -1)) = 0) 88 85 ([some (.ref 0), some (.int ((0 : Int32))), some (.int (x)), some (.int (wh)), some (.int ((0 : Int32))), some (.ref 49)], [], σ) rfl ?_ (fun c82 => ?_) (fun c82 => ?_)
                  · trivial
                  · replace c82 := zi_0.mp c82
                    refine ev_br 3 [] ((σ 49 1) ≤ (8 : Int32)) 101 98 ([some (.ref 0), some (.int ((0 : Int32))), some (.int (x)), some (.int (wh)), some (.int ((0 : Int32))), some (.ref 49)], [], σ) rfl ?_ (fun c95 => ?_) (fun c95 => ?_)
                    · trivial
                    · refine ev_blk 1 [] 102 ([some (.ref 0), some (.int ((0 : Int32))), some (.int (x)), some (.int (wh)), some (.int ((0 : Int32))), some (.ref 49)], [.int (wh)], σ) rfl ?_ ?_
                      · trivial
                      refine ev_sw 0 [] (wh) [((0 : Int32), 128), ((1 : Int32), 135), ((2 : Int32), 152)] 169 ([some (.ref 0), some (.int ((0 : Int32))), some (.int (x)), some (.int (wh)), some (.int ((0 : Int32))), some (.ref 49)], [], σ) rfl ?_ ?_
                      · trivial
                      refine ⟨fun c102_0 => ?_, fun c102_0 => ?_⟩
                      · refine ev_blk 2 [] 131 ([some (.ref 0), some (.int ((0 : Int32))), some (.int (x)), some (.int (wh)), some (.int ((0 : Int32))), some (.ref 49)], [.ref 49, .ref 0], σ) rfl ?_ ?_
                        · trivial
                        have h8 : ¬ 8 < (D 0).2.1 := fun q => absurd (show σ 49 1 ≤ 8 from c95) (by rw [show σ 49 1 = _ from h1]; exact Int32.not_le.mpr (nI_lt (a := 8) q (by have := ho.2; omega)))
                        refine ev_callV M_X5_firstOtherwise [.ref 49] [] 0 rfl rfl ln_X5_237 k_X5_firstOtherwise rfl rfl rfl rfl rfl rfl (c_first0 σ n hok hn _ h1 (by omega)) ?_
                        rintro r σ2 ⟨rfl, hf2⟩
                        refine ev_iret rfl rfl rfl ⟨?_, hf2⟩
                        rw [s_tel, if_neg (fun q => q hg), if_neg (by rintro (q | q); exact c8 q; exact absurd q (Int32.not_lt.mpr c13)), if_neg (fun q => q.1 c21), if_neg (fun q => q.1 c21), hc, if_neg (by rw [← h0]; exact c82), if_neg h8, if_pos c102_0]
                        exact congrArg (fun z => some (Value.int z)) (s_unl_c (fun j _ hj => hi j (by have := ho.2; omega)))
                      refine ⟨fun c102_1 => ?_, fun c102_1 => ?_⟩
                      · refine ev_blk 8 [] 148 ([some (.ref 0), some (.int ((0 : Int32))), some (.int (x)), some (.int (wh)), some (.int ((0 : Int32))), some (.ref 49)], [.int ((4 : Int32)), .int ((0 : Int32)), .int ((4 : Int32)), .ref 9, .ref 49, .ref 0], σ) rfl ?_ ?_
                        · trivial
                        have h8 : ¬ 8 < (D 0).2.1 := fun q => absurd (show σ 49 1 ≤ 8 from c95) (by rw [show σ 49 1 = _ from h1]; exact Int32.not_le.mpr (nI_lt (a := 8) q (by have := ho.2; omega)))
                        refine ev_callV M_X5_tried [.ref 49, .ref 9, .int ((4 : Int32)), .int ((0 : Int32)), .int ((4 : Int32))] [] 0 rfl rfl ln_X5_241 k_X5_tried rfl rfl rfl rfl rfl rfl (c_tried0_9 σ n hok hn _ h1 (by omega)) ?_
                        rintro r σ2 ⟨rfl, hf2⟩
                        refine ev_iret rfl rfl rfl ⟨?_, hf2⟩
                        rw [s_tel, if_neg (fun q => q hg), if_neg (by rintro (q | q); exact c8 q; exact absurd q (Int32.not_lt.mpr c13)), if_neg (fun q => q.1 c21), if_neg (fun q => q.1 c21), hc, if_neg (by rw [← h0]; exact c82), if_neg h8, if_neg c102_0, if_pos c102_1]
                        exact congrArg (fun z => some (Value.int z)) (s_tri_c (fun v _ _ => s_unl_c (fun j _ hj => hi j (by have := ho.2; omega))))
                      refine ⟨fun c102_2 => ?_, fun c102_2 => ?_⟩
                      · exact absurd c21 (by rw [c102_2]; decide)
                      exfalso
                      have w0 : ¬ wh < 0 := c8
                      obtain ⟨j, hj, rfl⟩ := nI_of w0
                      have : j < 2 := (nI_ltI (b := 2) hj (by decide)).mp c21
                      rcases (show j = 0 ∨ j = 1 by omega) with rfl | rfl
                      · exact c102_0 rfl
                      · exact c102_1 rfl
                    · refine ev_blk 1 [] 100 ([some (.ref 0), some (.int ((0 : Int32))), some (.int (x)), some (.int (wh)), some (.int ((0 : Int32))), some (.ref 49)], [.int ((-2 : Int32))], σ) rfl ?_ ?_
                      · trivial
                      have h8 : 8 < (D 0).2.1 := by have := mt (fun z => nI_le (a := (D 0).2.1) (b := 8) z (by omega)) (by rw [← h1]; exact c95); omega
                      exact ev_iret rfl rfl rfl ⟨by rw [s_tel, if_neg (fun q => q hg), if_neg (by rintro (q | q); exact c8 q; exact absurd q (Int32.not_lt.mpr c13)), if_neg (fun q => q.1 c21), if_neg (fun q => q.1 c21), hc, if_neg (by rw [← h0]; exact c82), if_pos h8], xFr.rf⟩
                  · replace c82 := zi_1.mp c82
                    refine ev_blk 1 [] 87 ([some (.ref 0), some (.int ((0 : Int32))), some (.int (x)), some (.int (wh)), some (.int ((0 : Int32))), some (.ref 49)], [.int ((-11 : Int32))], σ) rfl ?_ ?_
                    · trivial
                    exact ev_iret rfl rfl rfl ⟨by rw [s_tel, if_neg (fun q => q hg), if_neg (by rintro (q | q); exact c8 q; exact absurd q (Int32.not_lt.mpr c13)), if_neg (fun q => q.1 c21), if_neg (fun q => q.1 c21), hc, if_pos (by rw [← h0]; exact c82)], xFr.rf⟩
                · exact absurd (by decide) c52
              · exact absurd (by decide) c33
            · refine ev_br 4 [] ((1 : Int32) = 0) 50 36 ([some (.ref 0), some (.int ((0 : Int32))), some (.int (x)), some (.int (wh)), some (.int ((1 : Int32))), none], [], σ) rfl ?_ (fun c33 => ?_) (fun c33 => ?_)
              · trivial
              · exact absurd c33 (by decide)
              · refine ev_blk 3 [] 41 ([some (.ref 0), some (.int ((0 : Int32))), some (.int (x)), some (.int (wh)), some (.int ((1 : Int32))), none], [.int (x), .ref 1], σ) rfl ?_ ?_
                · trivial
                refine ev_callV M_X3_isShip [.int (x)] [] 1 rfl rfl ln_X5_119 k_X3_isShip rfl rfl rfl rfl rfl rfl (c_isShip _ _) ?_
                refine pu_k ?_
                show xEv _ _ _ 44 ([some (.ref 0), some (.int ((0 : Int32))), some (.int (x)), some (.int (wh)), some (.int ((1 : Int32))), none], [.int (zi (iSh σ x))], σ)
                refine ev_br 0 [] (¬ (zi (iSh σ x)) = 0) 50 47 ([some (.ref 0), some (.int ((0 : Int32))), some (.int (x)), some (.int (wh)), some (.int ((1 : Int32))), none], [], σ) rfl ?_ (fun c44 => ?_) (fun c44 => ?_)
                · trivial
                · replace c44 := zi_1.mp c44
                  refine ev_br 1 [] ((1 : Int32) = 0) 69 55 ([some (.ref 0), some (.int ((0 : Int32))), some (.int (x)), some (.int (wh)), some (.int ((1 : Int32))), none], [], σ) rfl ?_ (fun c52 => ?_) (fun c52 => ?_)
                  · trivial
                  · exact absurd c52 (by decide)
                  · refine ev_blk 3 [] 60 ([some (.ref 0), some (.int ((0 : Int32))), some (.int (x)), some (.int (wh)), some (.int ((1 : Int32))), none], [.int (x), .ref 1], σ) rfl ?_ ?_
                    · trivial
                    refine ev_callV M_X3_isWaiting [.int (x)] [] 1 rfl rfl ln_X5_122 k_X3_isWaiting rfl rfl rfl rfl rfl rfl (c_isWaiting _ _) ?_
                    refine pu_k ?_
                    show xEv _ _ _ 63 ([some (.ref 0), some (.int ((0 : Int32))), some (.int (x)), some (.int (wh)), some (.int ((1 : Int32))), none], [.int (zi (iSh σ x ∧ ¬ (σ 1 1 >>> (x &&& 31)) &&& 1 = 0))], σ)
                    refine ev_br 0 [] (¬ (zi (iSh σ x ∧ ¬ (σ 1 1 >>> (x &&& 31)) &&& 1 = 0)) = 0) 69 66 ([some (.ref 0), some (.int ((0 : Int32))), some (.int (x)), some (.int (wh)), some (.int ((1 : Int32))), none], [], σ) rfl ?_ (fun c63 => ?_) (fun c63 => ?_)
                    · trivial
                    · replace c63 := zi_1.mp c63
                      refine ev_blk 6 [vp_in ((0 : Int32)) 4] 79 ([some (.ref 0), some (.int ((0 : Int32))), some (.int (x)), some (.int (wh)), some (.int ((1 : Int32))), some (.ref 49)], [.ref 49], σ) rfl ?_ ?_
                      · exact (vp_in_nI (n := 0) (by decide) (by decide))
                      refine ev_callV M_X4_isMissing [] [] 49 rfl rfl ln_X5_232 k_X4_isMissing rfl rfl rfl rfl rfl rfl (c_isMissing0 _) ?_
                      refine pu_k ?_
                      show xEv _ _ _ 82 ([some (.ref 0), some (.int ((0 : Int32))), some (.int (x)), some (.int (wh)), some (.int ((1 : Int32))), some (.ref 49)], [.int (zi (σ 49 0 = -1))], σ)
                      refine ev_br 0 [] ((zi (σ 49 0 = -1)) = 0) 88 85 ([some (.ref 0), some (.int ((0 : Int32))), some (.int (x)), some (.int (wh)), some (.int ((1 : Int32))), some (.ref 49)], [], σ) rfl ?_ (fun c82 => ?_) (fun c82 => ?_)
                      · trivial
                      · replace c82 := zi_0.mp c82
                        refine ev_br 3 [] ((σ 49 1) ≤ (8 : Int32)) 101 98 ([some (.ref 0), some (.int ((0 : Int32))), some (.int (x)), some (.int (wh)), some (.int ((1 : Int32))), some (.ref 49)], [], σ) rfl ?_ (fun c95 => ?_) (fun c95 => ?_)
                        · trivial
                        · refine ev_blk 1 [] 102 ([some (.ref 0), some (.int ((0 : Int32))), some (.int (x)), some (.int (wh)), some (.int ((1 : Int32))), some (.ref 49)], [.int (wh)], σ) rfl ?_ ?_
                          · trivial
                          refine ev_sw 0 [] (wh) [((0 : Int32), 128), ((1 : Int32), 135), ((2 : Int32), 152)] 169 ([some (.ref 0), some (.int ((0 : Int32))), some (.int (x)), some (.int (wh)), some (.int ((1 : Int32))), some (.ref 49)], [], σ) rfl ?_ ?_
                          · trivial
                          refine ⟨fun c102_0 => ?_, fun c102_0 => ?_⟩
                          · exact absurd (show wh < 2 by rw [c102_0]; decide) c21
                          refine ⟨fun c102_1 => ?_, fun c102_1 => ?_⟩
                          · exact absurd (show wh < 2 by rw [c102_1]; decide) c21
                          refine ⟨fun c102_2 => ?_, fun c102_2 => ?_⟩
                          · refine ev_blk 8 [] 165 ([some (.ref 0), some (.int ((0 : Int32))), some (.int (x)), some (.int (wh)), some (.int ((1 : Int32))), some (.ref 49)], [.int ((5 : Int32)), .int ((0 : Int32)), .int (x), .ref 2, .ref 49, .ref 0], σ) rfl ?_ ?_
                            · trivial
                            have hx := hsi.mp c44
                            obtain ⟨j, hj, rfl⟩ := nI_of hx.1
                            have hjn : j < n := Nat.lt_of_not_le (fun z => hx.2 (nI_le z hj))
                            have hjc : (nI j).toNatClampNeg = j := nI_clamp hj
                            have hwt : bt (σ 1 1) (nI j).toNatClampNeg = true := by rw [hjc]; exact ((iWt hn hn10 (show j < 32 by omega)).mp c63).2
                            have h8 : ¬ 8 < (D 0).2.1 := fun q => absurd (show σ 49 1 ≤ 8 from c95) (by rw [show σ 49 1 = _ from h1]; exact Int32.not_le.mpr (nI_lt (a := 8) q (by have := ho.2; omega)))
                            refine ev_callV M_X5_tried [.ref 49, .ref 2, .int (nI j), .int ((0 : Int32)), .int ((5 : Int32))] [] 0 rfl rfl ln_X5_241 k_X5_tried rfl rfl rfl rfl rfl rfl (c_tried0_2 σ n hok hn j hjn _ h1 (by omega)) ?_
                            rintro r σ2 ⟨rfl, hf2⟩
                            refine ev_iret rfl rfl rfl ⟨?_, hf2⟩
                            rw [s_tel, if_neg (fun q => q hg), if_neg (by rintro (q | q); exact c8 q; exact absurd q (Int32.not_lt.mpr c13)), if_neg (fun q => q.2 (hsi.mp c44)), if_neg (fun q => absurd q.2 (by rw [hwt]; decide)), hc, if_neg (by rw [← h0]; exact c82), if_neg h8, if_neg c102_0, if_neg c102_1, if_pos c102_2, hjc]
                            exact congrArg (fun z => some (Value.int z)) (s_tri_c (fun v _ _ => s_unl_c (fun j _ hj => hi j (by have := ho.2; omega))))
                          show xEv _ _ _ 169 ([some (.ref 0), some (.int ((0 : Int32))), some (.int (x)), some (.int (wh)), some (.int ((1 : Int32))), some (.ref 49)], [], σ)
                          refine ev_blk 8 [] 183 ([some (.ref 0), some (.int ((0 : Int32))), some (.int (x)), some (.int (wh)), some (.int ((1 : Int32))), some (.ref 49)], [.int ((9 : Int32)), .int ((1 : Int32)), .int (x), .ref 3, .ref 49, .ref 0], σ) rfl ?_ ?_
                          · trivial
                          have hx := hsi.mp c44
                          obtain ⟨j, hj, rfl⟩ := nI_of hx.1
                          have hjn : j < n := Nat.lt_of_not_le (fun z => hx.2 (nI_le z hj))
                          have hjc : (nI j).toNatClampNeg = j := nI_clamp hj
                          have hwt : bt (σ 1 1) (nI j).toNatClampNeg = true := by rw [hjc]; exact ((iWt hn hn10 (show j < 32 by omega)).mp c63).2
                          have h8 : ¬ 8 < (D 0).2.1 := fun q => absurd (show σ 49 1 ≤ 8 from c95) (by rw [show σ 49 1 = _ from h1]; exact Int32.not_le.mpr (nI_lt (a := 8) q (by have := ho.2; omega)))
                          refine ev_callV M_X5_tried [.ref 49, .ref 3, .int (nI j), .int ((1 : Int32)), .int ((9 : Int32))] [] 0 rfl rfl ln_X5_241 k_X5_tried rfl rfl rfl rfl rfl rfl (c_tried0_3 σ n hok hn j hjn _ h1 (by omega)) ?_
                          rintro r σ2 ⟨rfl, hf2⟩
                          refine ev_iret rfl rfl rfl ⟨?_, hf2⟩
                          rw [s_tel, if_neg (fun q => q hg), if_neg (by rintro (q | q); exact c8 q; exact absurd q (Int32.not_lt.mpr c13)), if_neg (fun q => q.2 (hsi.mp c44)), if_neg (fun q => absurd q.2 (by rw [hwt]; decide)), hc, if_neg (by rw [← h0]; exact c82), if_neg h8, if_neg c102_0, if_neg c102_1, if_neg c102_2, hjc]
                          exact congrArg (fun z => some (Value.int z)) (s_tri_c (fun v _ _ => s_unl_c (fun j _ hj => hi j (by have := ho.2; omega))))
                        · refine ev_blk 1 [] 100 ([some (.ref 0), some (.int ((0 : Int32))), some (.int (x)), some (.int (wh)), some (.int ((1 : Int32))), some (.ref 49)], [.int ((-2 : Int32))], σ) rfl ?_ ?_
                          · trivial
                          have hx := hsi.mp c44
                          obtain ⟨j, hj, rfl⟩ := nI_of hx.1
                          have hjn : j < n := Nat.lt_of_not_le (fun z => hx.2 (nI_le z hj))
                          have hjc : (nI j).toNatClampNeg = j := nI_clamp hj
                          have hwt : bt (σ 1 1) (nI j).toNatClampNeg = true := by rw [hjc]; exact ((iWt hn hn10 (show j < 32 by omega)).mp c63).2
                          have h8 : 8 < (D 0).2.1 := by have := mt (fun z => nI_le (a := (D 0).2.1) (b := 8) z (by omega)) (by rw [← h1]; exact c95); omega
                          exact ev_iret rfl rfl rfl ⟨by rw [s_tel, if_neg (fun q => q hg), if_neg (by rintro (q | q); exact c8 q; exact absurd q (Int32.not_lt.mpr c13)), if_neg (fun q => q.2 (hsi.mp c44)), if_neg (fun q => absurd q.2 (by rw [hwt]; decide)), hc, if_neg (by rw [← h0]; exact c82), if_pos h8], xFr.rf⟩
                      · replace c82 := zi_1.mp c82
                        refine ev_blk 1 [] 87 ([some (.ref 0), some (.int ((0 : Int32))), some (.int (x)), some (.int (wh)), some (.int ((1 : Int32))), some (.ref 49)], [.int ((-11 : Int32))], σ) rfl ?_ ?_
                        · trivial
                        have hx := hsi.mp c44
                        obtain ⟨j, hj, rfl⟩ := nI_of hx.1
                        have hjn : j < n := Nat.lt_of_not_le (fun z => hx.2 (nI_le z hj))
                        have hjc : (nI j).toNatClampNeg = j := nI_clamp hj
                        have hwt : bt (σ 1 1) (nI j).toNatClampNeg = true := by rw [hjc]; exact ((iWt hn hn10 (show j < 32 by omega)).mp c63).2
                        exact ev_iret rfl rfl rfl ⟨by rw [s_tel, if_neg (fun q => q hg), if_neg (by rintro (q | q); exact c8 q; exact absurd q (Int32.not_lt.mpr c13)), if_neg (fun q => q.2 (hsi.mp c44)), if_neg (fun q => absurd q.2 (by rw [hwt]; decide)), hc, if_pos (by rw [← h0]; exact c82)], xFr.rf⟩
                    · replace c63 := zi_n.mp c63
                      refine ev_blk 1 [] 68 ([some (.ref 0), some (.int ((0 : Int32))), some (.int (x)), some (.int (wh)), some (.int ((1 : Int32))), none], [.int ((-3 : Int32))], σ) rfl ?_ ?_
                      · trivial
                      have hx := hsi.mp c44
                      obtain ⟨j, hj, rfl⟩ := nI_of hx.1
                      have hjn : j < n := Nat.lt_of_not_le (fun z => hx.2 (nI_le z hj))
                      have hjc : (nI j).toNatClampNeg = j := nI_clamp hj
                      have hwf : bt (σ 1 1) (nI j).toNatClampNeg = false := by
                        rw [hjc]
                        cases hz : bt (σ 1 1) j with
                        | false => rfl
                        | true => exact absurd ((iWt hn hn10 (show j < 32 by omega)).mpr ⟨hjn, hz⟩) c63
                      exact ev_iret rfl rfl rfl ⟨by rw [s_tel, if_neg (fun q => q hg), if_neg (by rintro (q | q); exact c8 q; exact absurd q (Int32.not_lt.mpr c13)), if_neg (fun q => q.2 (hsi.mp c44)), if_pos ⟨c21, hwf⟩], xFr.rf⟩
                · replace c44 := zi_n.mp c44
                  refine ev_blk 1 [] 49 ([some (.ref 0), some (.int ((0 : Int32))), some (.int (x)), some (.int (wh)), some (.int ((1 : Int32))), none], [.int ((-2 : Int32))], σ) rfl ?_ ?_
                  · trivial
                  exact ev_iret rfl rfl rfl ⟨by rw [s_tel, if_neg (fun q => q hg), if_neg (by rintro (q | q); exact c8 q; exact absurd q (Int32.not_lt.mpr c13)), if_pos ⟨c21, fun q => c44 (hsi.mpr q)⟩], xFr.rf⟩
          · refine ev_blk 1 [] 18 ([some (.ref 0), some (.int ((0 : Int32))), some (.int (x)), some (.int (wh)), none, none], [.int ((-2 : Int32))], σ) rfl ?_ ?_
            · trivial
            exact ev_iret rfl rfl rfl ⟨by rw [s_tel, if_neg (fun q => q hg), if_pos (Or.inr (Int32.not_le.mp c13))], xFr.rf⟩
    · have hg : iN 4 (nI 1) := iN_nI (by decide) (by decide)
      obtain ⟨ho, h0, h1, hi⟩ := hD 1 (by decide)
      have hc : (nI 1).toNatClampNeg = 1 := rfl
      show xEv _ _ _ 0 ([some (.ref 0), some (.int ((1 : Int32))), some (.int (x)), some (.int (wh)), none, none], [], σ)
      refine ev_blk 1 [] 1 ([some (.ref 0), some (.int ((1 : Int32))), some (.int (x)), some (.int (wh)), none, none], [.int ((1 : Int32))], σ) rfl ?_ ?_
      · trivial
      refine ev_callS M_X5_isSheet [.int ((1 : Int32))] [] rfl rfl ln_X5_229 k_X5_isSheet rfl rfl rfl (c_isSheet _ _) ?_
      refine pu_k ?_
      rw [zi_t (show ¬ ((1 : Int32)) < 0 ∧ ¬ (4 : Int32) ≤ ((1 : Int32)) by decide)]
      show xEv _ _ _ 4 ([some (.ref 0), some (.int ((1 : Int32))), some (.int (x)), some (.int (wh)), none, none], [.int ((1 : Int32))], σ)
      refine ev_br 0 [] ((1 : Int32) = 0) 16 7 ([some (.ref 0), some (.int ((1 : Int32))), some (.int (x)), some (.int (wh)), none, none], [], σ) rfl ?_ (fun c4 => ?_) (fun c4 => ?_)
      · trivial
      · exact absurd c4 (by decide)
      · refine ev_br 1 [] (wh < 0) 16 11 ([some (.ref 0), some (.int ((1 : Int32))), some (.int (x)), some (.int (wh)), none, none], [], σ) rfl ?_ (fun c8 => ?_) (fun c8 => ?_)
        · trivial
        · refine ev_blk 1 [] 18 ([some (.ref 0), some (.int ((1 : Int32))), some (.int (x)), some (.int (wh)), none, none], [.int ((-2 : Int32))], σ) rfl ?_ ?_
          · trivial
          exact ev_iret rfl rfl rfl ⟨by rw [s_tel, if_neg (fun q => q hg), if_pos (Or.inl c8)], xFr.rf⟩
        · refine ev_br 2 [] (wh ≤ (3 : Int32)) 19 16 ([some (.ref 0), some (.int ((1 : Int32))), some (.int (x)), some (.int (wh)), none, none], [], σ) rfl ?_ (fun c13 => ?_) (fun c13 => ?_)
          · trivial
          · refine ev_br 2 [] (wh < (2 : Int32)) 28 24 ([some (.ref 0), some (.int ((1 : Int32))), some (.int (x)), some (.int (wh)), none, none], [], σ) rfl ?_ (fun c21 => ?_) (fun c21 => ?_)
            · trivial
            · refine ev_br 3 [] ((0 : Int32) = 0) 50 36 ([some (.ref 0), some (.int ((1 : Int32))), some (.int (x)), some (.int (wh)), some (.int ((0 : Int32))), none], [], σ) rfl ?_ (fun c33 => ?_) (fun c33 => ?_)
              · trivial
              · refine ev_br 1 [] ((0 : Int32) = 0) 69 55 ([some (.ref 0), some (.int ((1 : Int32))), some (.int (x)), some (.int (wh)), some (.int ((0 : Int32))), none], [], σ) rfl ?_ (fun c52 => ?_) (fun c52 => ?_)
                · trivial
                · refine ev_blk 6 [vp_in ((1 : Int32)) 4] 79 ([some (.ref 0), some (.int ((1 : Int32))), some (.int (x)), some (.int (wh)), some (.int ((0 : Int32))), some (.ref 51)], [.ref 51], σ) rfl ?_ ?_
                  · exact (vp_in_nI (n := 1) (by decide) (by decide))
                  refine ev_callV M_X4_isMissing [] [] 51 rfl rfl ln_X5_232 k_X4_isMissing rfl rfl rfl rfl rfl rfl (c_isMissing1 _) ?_
                  refine pu_k ?_
                  show xEv _ _ _ 82 ([some (.ref 0), some (.int ((1 : Int32))), some (.int (x)), some (.int (wh)), some (.int ((0 : Int32))), some (.ref 51)], [.int (zi (σ 51 0 = -1))], σ)
                  refine ev_br 0 [] ((zi (σ 51 0 = -1)) = 0) 88 85 ([some (.ref 0), some (.int ((1 : Int32))), some (.int (x)), some (.int (wh)), some (.int ((0 : Int32))), some (.ref 51)], [], σ) rfl ?_ (fun c82 => ?_) (fun c82 => ?_)
                  · trivial
                  · replace c82 := zi_0.mp c82
                    refine ev_br 3 [] ((σ 51 1) ≤ (8 : Int32)) 101 98 ([some (.ref 0), some (.int ((1 : Int32))), some (.int (x)), some (.int (wh)), some (.int ((0 : Int32))), some (.ref 51)], [], σ) rfl ?_ (fun c95 => ?_) (fun c95 => ?_)
                    · trivial
                    · refine ev_blk 1 [] 102 ([some (.ref 0), some (.int ((1 : Int32))), some (.int (x)), some (.int (wh)), some (.int ((0 : Int32))), some (.ref 51)], [.int (wh)], σ) rfl ?_ ?_
                      · trivial
                      refine ev_sw 0 [] (wh) [((0 : Int32), 128), ((1 : Int32), 135), ((2 : Int32), 152)] 169 ([some (.ref 0), some (.int ((1 : Int32))), some (.int (x)), some (.int (wh)), some (.int ((0 : Int32))), some (.ref 51)], [], σ) rfl ?_ ?_
                      · trivial
                      refine ⟨fun c102_0 => ?_, fun c102_0 => ?_⟩
                      · refine ev_blk 2 [] 131 ([some (.ref 0), some (.int ((1 : Int32))), some (.int (x)), some (.int (wh)), some (.int ((0 : Int32))), some (.ref 51)], [.ref 51, .ref 0], σ) rfl ?_ ?_
                        · trivial
                        have h8 : ¬ 8 < (D 1).2.1 := fun q => absurd (show σ 51 1 ≤ 8 from c95) (by rw [show σ 51 1 = _ from h1]; exact Int32.not_le.mpr (nI_lt (a := 8) q (by have := ho.2; omega)))
                        refine ev_callV M_X5_firstOtherwise [.ref 51] [] 0 rfl rfl ln_X5_237 k_X5_firstOtherwise rfl rfl rfl rfl rfl rfl (c_first1 σ n hok hn _ h1 (by omega)) ?_
                        rintro r σ2 ⟨rfl, hf2⟩
                        refine ev_iret rfl rfl rfl ⟨?_, hf2⟩
                        rw [s_tel, if_neg (fun q => q hg), if_neg (by rintro (q | q); exact c8 q; exact absurd q (Int32.not_lt.mpr c13)), if_neg (fun q => q.1 c21), if_neg (fun q => q.1 c21), hc, if_neg (by rw [← h0]; exact c82), if_neg h8, if_pos c102_0]
                        exact congrArg (fun z => some (Value.int z)) (s_unl_c (fun j _ hj => hi j (by have := ho.2; omega)))
                      refine ⟨fun c102_1 => ?_, fun c102_1 => ?_⟩
                      · refine ev_blk 8 [] 148 ([some (.ref 0), some (.int ((1 : Int32))), some (.int (x)), some (.int (wh)), some (.int ((0 : Int32))), some (.ref 51)], [.int ((4 : Int32)), .int ((0 : Int32)), .int ((4 : Int32)), .ref 9, .ref 51, .ref 0], σ) rfl ?_ ?_
                        · trivial
                        have h8 : ¬ 8 < (D 1).2.1 := fun q => absurd (show σ 51 1 ≤ 8 from c95) (by rw [show σ 51 1 = _ from h1]; exact Int32.not_le.mpr (nI_lt (a := 8) q (by have := ho.2; omega)))
                        refine ev_callV M_X5_tried [.ref 51, .ref 9, .int ((4 : Int32)), .int ((0 : Int32)), .int ((4 : Int32))] [] 0 rfl rfl ln_X5_241 k_X5_tried rfl rfl rfl rfl rfl rfl (c_tried1_9 σ n hok hn _ h1 (by omega)) ?_
                        rintro r σ2 ⟨rfl, hf2⟩
                        refine ev_iret rfl rfl rfl ⟨?_, hf2⟩
                        rw [s_tel, if_neg (fun q => q hg), if_neg (by rintro (q | q); exact c8 q; exact absurd q (Int32.not_lt.mpr c13)), if_neg (fun q => q.1 c21), if_neg (fun q => q.1 c21), hc, if_neg (by rw [← h0]; exact c82), if_neg h8, if_neg c102_0, if_pos c102_1]
                        exact congrArg (fun z => some (Value.int z)) (s_tri_c (fun v _ _ => s_unl_c (fun j _ hj => hi j (by have := ho.2; omega))))
                      refine ⟨fun c102_2 => ?_, fun c102_2 => ?_⟩
                      · exact absurd c21 (by rw [c102_2]; decide)
                      exfalso
                      have w0 : ¬ wh < 0 := c8
                      obtain ⟨j, hj, rfl⟩ := nI_of w0
                      have : j < 2 := (nI_ltI (b := 2) hj (by decide)).mp c21
                      rcases (show j = 0 ∨ j = 1 by omega) with rfl | rfl
                      · exact c102_0 rfl
                      · exact c102_1 rfl
                    · refine ev_blk 1 [] 100 ([some (.ref 0), some (.int ((1 : Int32))), some (.int (x)), some (.int (wh)), some (.int ((0 : Int32))), some (.ref 51)], [.int ((-2 : Int32))], σ) rfl ?_ ?_
                      · trivial
                      have h8 : 8 < (D 1).2.1 := by have := mt (fun z => nI_le (a := (D 1).2.1) (b := 8) z (by omega)) (by rw [← h1]; exact c95); omega
                      exact ev_iret rfl rfl rfl ⟨by rw [s_tel, if_neg (fun q => q hg), if_neg (by rintro (q | q); exact c8 q; exact absurd q (Int32.not_lt.mpr c13)), if_neg (fun q => q.1 c21), if_neg (fun q => q.1 c21), hc, if_neg (by rw [← h0]; exact c82), if_pos h8], xFr.rf⟩
                  · replace c82 := zi_1.mp c82
                    refine ev_blk 1 [] 87 ([some (.ref 0), some (.int ((1 : Int32))), some (.int (x)), some (.int (wh)), some (.int ((0 : Int32))), some (.ref 51)], [.int ((-11 : Int32))], σ) rfl ?_ ?_
                    · trivial
                    exact ev_iret rfl rfl rfl ⟨by rw [s_tel, if_neg (fun q => q hg), if_neg (by rintro (q | q); exact c8 q; exact absurd q (Int32.not_lt.mpr c13)), if_neg (fun q => q.1 c21), if_neg (fun q => q.1 c21), hc, if_pos (by rw [← h0]; exact c82)], xFr.rf⟩
                · exact absurd (by decide) c52
              · exact absurd (by decide) c33
            · refine ev_br 4 [] ((1 : Int32) = 0) 50 36 ([some (.ref 0), some (.int ((1 : Int32))), some (.int (x)), some (.int (wh)), some (.int ((1 : Int32))), none], [], σ) rfl ?_ (fun c33 => ?_) (fun c33 => ?_)
              · trivial
              · exact absurd c33 (by decide)
              · refine ev_blk 3 [] 41 ([some (.ref 0), some (.int ((1 : Int32))), some (.int (x)), some (.int (wh)), some (.int ((1 : Int32))), none], [.int (x), .ref 1], σ) rfl ?_ ?_
                · trivial
                refine ev_callV M_X3_isShip [.int (x)] [] 1 rfl rfl ln_X5_119 k_X3_isShip rfl rfl rfl rfl rfl rfl (c_isShip _ _) ?_
                refine pu_k ?_
                show xEv _ _ _ 44 ([some (.ref 0), some (.int ((1 : Int32))), some (.int (x)), some (.int (wh)), some (.int ((1 : Int32))), none], [.int (zi (iSh σ x))], σ)
                refine ev_br 0 [] (¬ (zi (iSh σ x)) = 0) 50 47 ([some (.ref 0), some (.int ((1 : Int32))), some (.int (x)), some (.int (wh)), some (.int ((1 : Int32))), none], [], σ) rfl ?_ (fun c44 => ?_) (fun c44 => ?_)
                · trivial
                · replace c44 := zi_1.mp c44
                  refine ev_br 1 [] ((1 : Int32) = 0) 69 55 ([some (.ref 0), some (.int ((1 : Int32))), some (.int (x)), some (.int (wh)), some (.int ((1 : Int32))), none], [], σ) rfl ?_ (fun c52 => ?_) (fun c52 => ?_)
                  · trivial
                  · exact absurd c52 (by decide)
                  · refine ev_blk 3 [] 60 ([some (.ref 0), some (.int ((1 : Int32))), some (.int (x)), some (.int (wh)), some (.int ((1 : Int32))), none], [.int (x), .ref 1], σ) rfl ?_ ?_
                    · trivial
                    refine ev_callV M_X3_isWaiting [.int (x)] [] 1 rfl rfl ln_X5_122 k_X3_isWaiting rfl rfl rfl rfl rfl rfl (c_isWaiting _ _) ?_
                    refine pu_k ?_
                    show xEv _ _ _ 63 ([some (.ref 0), some (.int ((1 : Int32))), some (.int (x)), some (.int (wh)), some (.int ((1 : Int32))), none], [.int (zi (iSh σ x ∧ ¬ (σ 1 1 >>> (x &&& 31)) &&& 1 = 0))], σ)
                    refine ev_br 0 [] (¬ (zi (iSh σ x ∧ ¬ (σ 1 1 >>> (x &&& 31)) &&& 1 = 0)) = 0) 69 66 ([some (.ref 0), some (.int ((1 : Int32))), some (.int (x)), some (.int (wh)), some (.int ((1 : Int32))), none], [], σ) rfl ?_ (fun c63 => ?_) (fun c63 => ?_)
                    · trivial
                    · replace c63 := zi_1.mp c63
                      refine ev_blk 6 [vp_in ((1 : Int32)) 4] 79 ([some (.ref 0), some (.int ((1 : Int32))), some (.int (x)), some (.int (wh)), some (.int ((1 : Int32))), some (.ref 51)], [.ref 51], σ) rfl ?_ ?_
                      · exact (vp_in_nI (n := 1) (by decide) (by decide))
                      refine ev_callV M_X4_isMissing [] [] 51 rfl rfl ln_X5_232 k_X4_isMissing rfl rfl rfl rfl rfl rfl (c_isMissing1 _) ?_
                      refine pu_k ?_
                      show xEv _ _ _ 82 ([some (.ref 0), some (.int ((1 : Int32))), some (.int (x)), some (.int (wh)), some (.int ((1 : Int32))), some (.ref 51)], [.int (zi (σ 51 0 = -1))], σ)
                      refine ev_br 0 [] ((zi (σ 51 0 = -1)) = 0) 88 85 ([some (.ref 0), some (.int ((1 : Int32))), some (.int (x)), some (.int (wh)), some (.int ((1 : Int32))), some (.ref 51)], [], σ) rfl ?_ (fun c82 => ?_) (fun c82 => ?_)
                      · trivial
                      · replace c82 := zi_0.mp c82
                        refine ev_br 3 [] ((σ 51 1) ≤ (8 : Int32)) 101 98 ([some (.ref 0), some (.int ((1 : Int32))), some (.int (x)), some (.int (wh)), some (.int ((1 : Int32))), some (.ref 51)], [], σ) rfl ?_ (fun c95 => ?_) (fun c95 => ?_)
                        · trivial
                        · refine ev_blk 1 [] 102 ([some (.ref 0), some (.int ((1 : Int32))), some (.int (x)), some (.int (wh)), some (.int ((1 : Int32))), some (.ref 51)], [.int (wh)], σ) rfl ?_ ?_
                          · trivial
                          refine ev_sw 0 [] (wh) [((0 : Int32), 128), ((1 : Int32), 135), ((2 : Int32), 152)] 169 ([some (.ref 0), some (.int ((1 : Int32))), some (.int (x)), some (.int (wh)), some (.int ((1 : Int32))), some (.ref 51)], [], σ) rfl ?_ ?_
                          · trivial
                          refine ⟨fun c102_0 => ?_, fun c102_0 => ?_⟩
                          · exact absurd (show wh < 2 by rw [c102_0]; decide) c21
                          refine ⟨fun c102_1 => ?_, fun c102_1 => ?_⟩
                          · exact absurd (show wh < 2 by rw [c102_1]; decide) c21
                          refine ⟨fun c102_2 => ?_, fun c102_2 => ?_⟩
                          · refine ev_blk 8 [] 165 ([some (.ref 0), some (.int ((1 : Int32))), some (.int (x)), some (.int (wh)), some (.int ((1 : Int32))), some (.ref 51)], [.int ((5 : Int32)), .int ((0 : Int32)), .int (x), .ref 2, .ref 51, .ref 0], σ) rfl ?_ ?_
                            · trivial
                            have hx := hsi.mp c44
                            obtain ⟨j, hj, rfl⟩ := nI_of hx.1
                            have hjn : j < n := Nat.lt_of_not_le (fun z => hx.2 (nI_le z hj))
                            have hjc : (nI j).toNatClampNeg = j := nI_clamp hj
                            have hwt : bt (σ 1 1) (nI j).toNatClampNeg = true := by rw [hjc]; exact ((iWt hn hn10 (show j < 32 by omega)).mp c63).2
                            have h8 : ¬ 8 < (D 1).2.1 := fun q => absurd (show σ 51 1 ≤ 8 from c95) (by rw [show σ 51 1 = _ from h1]; exact Int32.not_le.mpr (nI_lt (a := 8) q (by have := ho.2; omega)))
                            refine ev_callV M_X5_tried [.ref 51, .ref 2, .int (nI j), .int ((0 : Int32)), .int ((5 : Int32))] [] 0 rfl rfl ln_X5_241 k_X5_tried rfl rfl rfl rfl rfl rfl (c_tried1_2 σ n hok hn j hjn _ h1 (by omega)) ?_
                            rintro r σ2 ⟨rfl, hf2⟩
                            refine ev_iret rfl rfl rfl ⟨?_, hf2⟩
                            rw [s_tel, if_neg (fun q => q hg), if_neg (by rintro (q | q); exact c8 q; exact absurd q (Int32.not_lt.mpr c13)), if_neg (fun q => q.2 (hsi.mp c44)), if_neg (fun q => absurd q.2 (by rw [hwt]; decide)), hc, if_neg (by rw [← h0]; exact c82), if_neg h8, if_neg c102_0, if_neg c102_1, if_pos c102_2, hjc]
                            exact congrArg (fun z => some (Value.int z)) (s_tri_c (fun v _ _ => s_unl_c (fun j _ hj => hi j (by have := ho.2; omega))))
                          show xEv _ _ _ 169 ([some (.ref 0), some (.int ((1 : Int32))), some (.int (x)), some (.int (wh)), some (.int ((1 : Int32))), some (.ref 51)], [], σ)
                          refine ev_blk 8 [] 183 ([some (.ref 0), some (.int ((1 : Int32))), some (.int (x)), some (.int (wh)), some (.int ((1 : Int32))), some (.ref 51)], [.int ((9 : Int32)), .int ((1 : Int32)), .int (x), .ref 3, .ref 51, .ref 0], σ) rfl ?_ ?_
                          · trivial
                          have hx := hsi.mp c44
                          obtain ⟨j, hj, rfl⟩ := nI_of hx.1
                          have hjn : j < n := Nat.lt_of_not_le (fun z => hx.2 (nI_le z hj))
                          have hjc : (nI j).toNatClampNeg = j := nI_clamp hj
                          have hwt : bt (σ 1 1) (nI j).toNatClampNeg = true := by rw [hjc]; exact ((iWt hn hn10 (show j < 32 by omega)).mp c63).2
                          have h8 : ¬ 8 < (D 1).2.1 := fun q => absurd (show σ 51 1 ≤ 8 from c95) (by rw [show σ 51 1 = _ from h1]; exact Int32.not_le.mpr (nI_lt (a := 8) q (by have := ho.2; omega)))
                          refine ev_callV M_X5_tried [.ref 51, .ref 3, .int (nI j), .int ((1 : Int32)), .int ((9 : Int32))] [] 0 rfl rfl ln_X5_241 k_X5_tried rfl rfl rfl rfl rfl rfl (c_tried1_3 σ n hok hn j hjn _ h1 (by omega)) ?_
                          rintro r σ2 ⟨rfl, hf2⟩
                          refine ev_iret rfl rfl rfl ⟨?_, hf2⟩
                          rw [s_tel, if_neg (fun q => q hg), if_neg (by rintro (q | q); exact c8 q; exact absurd q (Int32.not_lt.mpr c13)), if_neg (fun q => q.2 (hsi.mp c44)), if_neg (fun q => absurd q.2 (by rw [hwt]; decide)), hc, if_neg (by rw [← h0]; exact c82), if_neg h8, if_neg c102_0, if_neg c102_1, if_neg c102_2, hjc]
                          exact congrArg (fun z => some (Value.int z)) (s_tri_c (fun v _ _ => s_unl_c (fun j _ hj => hi j (by have := ho.2; omega))))
                        · refine ev_blk 1 [] 100 ([some (.ref 0), some (.int ((1 : Int32))), some (.int (x)), some (.int (wh)), some (.int ((1 : Int32))), some (.ref 51)], [.int ((-2 : Int32))], σ) rfl ?_ ?_
                          · trivial
                          have hx := hsi.mp c44
                          obtain ⟨j, hj, rfl⟩ := nI_of hx.1
                          have hjn : j < n := Nat.lt_of_not_le (fun z => hx.2 (nI_le z hj))
                          have hjc : (nI j).toNatClampNeg = j := nI_clamp hj
                          have hwt : bt (σ 1 1) (nI j).toNatClampNeg = true := by rw [hjc]; exact ((iWt hn hn10 (show j < 32 by omega)).mp c63).2
                          have h8 : 8 < (D 1).2.1 := by have := mt (fun z => nI_le (a := (D 1).2.1) (b := 8) z (by omega)) (by rw [← h1]; exact c95); omega
                          exact ev_iret rfl rfl rfl ⟨by rw [s_tel, if_neg (fun q => q hg), if_neg (by rintro (q | q); exact c8 q; exact absurd q (Int32.not_lt.mpr c13)), if_neg (fun q => q.2 (hsi.mp c44)), if_neg (fun q => absurd q.2 (by rw [hwt]; decide)), hc, if_neg (by rw [← h0]; exact c82), if_pos h8], xFr.rf⟩
                      · replace c82 := zi_1.mp c82
                        refine ev_blk 1 [] 87 ([some (.ref 0), some (.int ((1 : Int32))), some (.int (x)), some (.int (wh)), some (.int ((1 : Int32))), some (.ref 51)], [.int ((-11 : Int32))], σ) rfl ?_ ?_
                        · trivial
                        have hx := hsi.mp c44
                        obtain ⟨j, hj, rfl⟩ := nI_of hx.1
                        have hjn : j < n := Nat.lt_of_not_le (fun z => hx.2 (nI_le z hj))
                        have hjc : (nI j).toNatClampNeg = j := nI_clamp hj
                        have hwt : bt (σ 1 1) (nI j).toNatClampNeg = true := by rw [hjc]; exact ((iWt hn hn10 (show j < 32 by omega)).mp c63).2
                        exact ev_iret rfl rfl rfl ⟨by rw [s_tel, if_neg (fun q => q hg), if_neg (by rintro (q | q); exact c8 q; exact absurd q (Int32.not_lt.mpr c13)), if_neg (fun q => q.2 (hsi.mp c44)), if_neg (fun q => absurd q.2 (by rw [hwt]; decide)), hc, if_pos (by rw [← h0]; exact c82)], xFr.rf⟩
                    · replace c63 := zi_n.mp c63
                      refine ev_blk 1 [] 68 ([some (.ref 0), some (.int ((1 : Int32))), some (.int (x)), some (.int (wh)), some (.int ((1 : Int32))), none], [.int ((-3 : Int32))], σ) rfl ?_ ?_
                      · trivial
                      have hx := hsi.mp c44
                      obtain ⟨j, hj, rfl⟩ := nI_of hx.1
                      have hjn : j < n := Nat.lt_of_not_le (fun z => hx.2 (nI_le z hj))
                      have hjc : (nI j).toNatClampNeg = j := nI_clamp hj
                      have hwf : bt (σ 1 1) (nI j).toNatClampNeg = false := by
                        rw [hjc]
                        cases hz : bt (σ 1 1) j with
                        | false => rfl
                        | true => exact absurd ((iWt hn hn10 (show j < 32 by omega)).mpr ⟨hjn, hz⟩) c63
                      exact ev_iret rfl rfl rfl ⟨by rw [s_tel, if_neg (fun q => q hg), if_neg (by rintro (q | q); exact c8 q; exact absurd q (Int32.not_lt.mpr c13)), if_neg (fun q => q.2 (hsi.mp c44)), if_pos ⟨c21, hwf⟩], xFr.rf⟩
                · replace c44 := zi_n.mp c44
                  refine ev_blk 1 [] 49 ([some (.ref 0), some (.int ((1 : Int32))), some (.int (x)), some (.int (wh)), some (.int ((1 : Int32))), none], [.int ((-2 : Int32))], σ) rfl ?_ ?_
                  · trivial
                  exact ev_iret rfl rfl rfl ⟨by rw [s_tel, if_neg (fun q => q hg), if_neg (by rintro (q | q); exact c8 q; exact absurd q (Int32.not_lt.mpr c13)), if_pos ⟨c21, fun q => c44 (hsi.mpr q)⟩], xFr.rf⟩
          · refine ev_blk 1 [] 18 ([some (.ref 0), some (.int ((1 : Int32))), some (.int (x)), some (.int (wh)), none, none], [.int ((-2 : Int32))], σ) rfl ?_ ?_
            · trivial
            exact ev_iret rfl rfl rfl ⟨by rw [s_tel, if_neg (fun q => q hg), if_pos (Or.inr (Int32.not_le.mp c13))], xFr.rf⟩
    · have hg : iN 4 (nI 2) := iN_nI (by decide) (by decide)
      obtain ⟨ho, h0, h1, hi⟩ := hD 2 (by decide)
      have hc : (nI 2).toNatClampNeg = 2 := rfl
      show xEv _ _ _ 0 ([some (.ref 0), some (.int ((2 : Int32))), some (.int (x)), some (.int (wh)), none, none], [], σ)
      refine ev_blk 1 [] 1 ([some (.ref 0), some (.int ((2 : Int32))), some (.int (x)), some (.int (wh)), none, none], [.int ((2 : Int32))], σ) rfl ?_ ?_
      · trivial
      refine ev_callS M_X5_isSheet [.int ((2 : Int32))] [] rfl rfl ln_X5_229 k_X5_isSheet rfl rfl rfl (c_isSheet _ _) ?_
      refine pu_k ?_
      rw [zi_t (show ¬ ((2 : Int32)) < 0 ∧ ¬ (4 : Int32) ≤ ((2 : Int32)) by decide)]
      show xEv _ _ _ 4 ([some (.ref 0), some (.int ((2 : Int32))), some (.int (x)), some (.int (wh)), none, none], [.int ((1 : Int32))], σ)
      refine ev_br 0 [] ((1 : Int32) = 0) 16 7 ([some (.ref 0), some (.int ((2 : Int32))), some (.int (x)), some (.int (wh)), none, none], [], σ) rfl ?_ (fun c4 => ?_) (fun c4 => ?_)
      · trivial
      · exact absurd c4 (by decide)
      · refine ev_br 1 [] (wh < 0) 16 11 ([some (.ref 0), some (.int ((2 : Int32))), some (.int (x)), some (.int (wh)), none, none], [], σ) rfl ?_ (fun c8 => ?_) (fun c8 => ?_)
        · trivial
        · refine ev_blk 1 [] 18 ([some (.ref 0), some (.int ((2 : Int32))), some (.int (x)), some (.int (wh)), none, none], [.int ((-2 : Int32))], σ) rfl ?_ ?_
          · trivial
          exact ev_iret rfl rfl rfl ⟨by rw [s_tel, if_neg (fun q => q hg), if_pos (Or.inl c8)], xFr.rf⟩
        · refine ev_br 2 [] (wh ≤ (3 : Int32)) 19 16 ([some (.ref 0), some (.int ((2 : Int32))), some (.int (x)), some (.int (wh)), none, none], [], σ) rfl ?_ (fun c13 => ?_) (fun c13 => ?_)
          · trivial
          · refine ev_br 2 [] (wh < (2 : Int32)) 28 24 ([some (.ref 0), some (.int ((2 : Int32))), some (.int (x)), some (.int (wh)), none, none], [], σ) rfl ?_ (fun c21 => ?_) (fun c21 => ?_)
            · trivial
            · refine ev_br 3 [] ((0 : Int32) = 0) 50 36 ([some (.ref 0), some (.int ((2 : Int32))), some (.int (x)), some (.int (wh)), some (.int ((0 : Int32))), none], [], σ) rfl ?_ (fun c33 => ?_) (fun c33 => ?_)
              · trivial
              · refine ev_br 1 [] ((0 : Int32) = 0) 69 55 ([some (.ref 0), some (.int ((2 : Int32))), some (.int (x)), some (.int (wh)), some (.int ((0 : Int32))), none], [], σ) rfl ?_ (fun c52 => ?_) (fun c52 => ?_)
                · trivial
                · refine ev_blk 6 [vp_in ((2 : Int32)) 4] 79 ([some (.ref 0), some (.int ((2 : Int32))), some (.int (x)), some (.int (wh)), some (.int ((0 : Int32))), some (.ref 53)], [.ref 53], σ) rfl ?_ ?_
                  · exact (vp_in_nI (n := 2) (by decide) (by decide))
                  refine ev_callV M_X4_isMissing [] [] 53 rfl rfl ln_X5_232 k_X4_isMissing rfl rfl rfl rfl rfl rfl (c_isMissing2 _) ?_
                  refine pu_k ?_
                  show xEv _ _ _ 82 ([some (.ref 0), some (.int ((2 : Int32))), some (.int (x)), some (.int (wh)), some (.int ((0 : Int32))), some (.ref 53)], [.int (zi (σ 53 0 = -1))], σ)
                  refine ev_br 0 [] ((zi (σ 53 0 = -1)) = 0) 88 85 ([some (.ref 0), some (.int ((2 : Int32))), some (.int (x)), some (.int (wh)), some (.int ((0 : Int32))), some (.ref 53)], [], σ) rfl ?_ (fun c82 => ?_) (fun c82 => ?_)
                  · trivial
                  · replace c82 := zi_0.mp c82
                    refine ev_br 3 [] ((σ 53 1) ≤ (8 : Int32)) 101 98 ([some (.ref 0), some (.int ((2 : Int32))), some (.int (x)), some (.int (wh)), some (.int ((0 : Int32))), some (.ref 53)], [], σ) rfl ?_ (fun c95 => ?_) (fun c95 => ?_)
                    · trivial
                    · refine ev_blk 1 [] 102 ([some (.ref 0), some (.int ((2 : Int32))), some (.int (x)), some (.int (wh)), some (.int ((0 : Int32))), some (.ref 53)], [.int (wh)], σ) rfl ?_ ?_
                      · trivial
                      refine ev_sw 0 [] (wh) [((0 : Int32), 128), ((1 : Int32), 135), ((2 : Int32), 152)] 169 ([some (.ref 0), some (.int ((2 : Int32))), some (.int (x)), some (.int (wh)), some (.int ((0 : Int32))), some (.ref 53)], [], σ) rfl ?_ ?_
                      · trivial
                      refine ⟨fun c102_0 => ?_, fun c102_0 => ?_⟩
                      · refine ev_blk 2 [] 131 ([some (.ref 0), some (.int ((2 : Int32))), some (.int (x)), some (.int (wh)), some (.int ((0 : Int32))), some (.ref 53)], [.ref 53, .ref 0], σ) rfl ?_ ?_
                        · trivial
                        have h8 : ¬ 8 < (D 2).2.1 := fun q => absurd (show σ 53 1 ≤ 8 from c95) (by rw [show σ 53 1 = _ from h1]; exact Int32.not_le.mpr (nI_lt (a := 8) q (by have := ho.2; omega)))
                        refine ev_callV M_X5_firstOtherwise [.ref 53] [] 0 rfl rfl ln_X5_237 k_X5_firstOtherwise rfl rfl rfl rfl rfl rfl (c_first2 σ n hok hn _ h1 (by omega)) ?_
                        rintro r σ2 ⟨rfl, hf2⟩
                        refine ev_iret rfl rfl rfl ⟨?_, hf2⟩
                        rw [s_tel, if_neg (fun q => q hg), if_neg (by rintro (q | q); exact c8 q; exact absurd q (Int32.not_lt.mpr c13)), if_neg (fun q => q.1 c21), if_neg (fun q => q.1 c21), hc, if_neg (by rw [← h0]; exact c82), if_neg h8, if_pos c102_0]
                        exact congrArg (fun z => some (Value.int z)) (s_unl_c (fun j _ hj => hi j (by have := ho.2; omega)))
                      refine ⟨fun c102_1 => ?_, fun c102_1 => ?_⟩
                      · refine ev_blk 8 [] 148 ([some (.ref 0), some (.int ((2 : Int32))), some (.int (x)), some (.int (wh)), some (.int ((0 : Int32))), some (.ref 53)], [.int ((4 : Int32)), .int ((0 : Int32)), .int ((4 : Int32)), .ref 9, .ref 53, .ref 0], σ) rfl ?_ ?_
                        · trivial
                        have h8 : ¬ 8 < (D 2).2.1 := fun q => absurd (show σ 53 1 ≤ 8 from c95) (by rw [show σ 53 1 = _ from h1]; exact Int32.not_le.mpr (nI_lt (a := 8) q (by have := ho.2; omega)))
                        refine ev_callV M_X5_tried [.ref 53, .ref 9, .int ((4 : Int32)), .int ((0 : Int32)), .int ((4 : Int32))] [] 0 rfl rfl ln_X5_241 k_X5_tried rfl rfl rfl rfl rfl rfl (c_tried2_9 σ n hok hn _ h1 (by omega)) ?_
                        rintro r σ2 ⟨rfl, hf2⟩
                        refine ev_iret rfl rfl rfl ⟨?_, hf2⟩
                        rw [s_tel, if_neg (fun q => q hg), if_neg (by rintro (q | q); exact c8 q; exact absurd q (Int32.not_lt.mpr c13)), if_neg (fun q => q.1 c21), if_neg (fun q => q.1 c21), hc, if_neg (by rw [← h0]; exact c82), if_neg h8, if_neg c102_0, if_pos c102_1]
                        exact congrArg (fun z => some (Value.int z)) (s_tri_c (fun v _ _ => s_unl_c (fun j _ hj => hi j (by have := ho.2; omega))))
                      refine ⟨fun c102_2 => ?_, fun c102_2 => ?_⟩
                      · exact absurd c21 (by rw [c102_2]; decide)
                      exfalso
                      have w0 : ¬ wh < 0 := c8
                      obtain ⟨j, hj, rfl⟩ := nI_of w0
                      have : j < 2 := (nI_ltI (b := 2) hj (by decide)).mp c21
                      rcases (show j = 0 ∨ j = 1 by omega) with rfl | rfl
                      · exact c102_0 rfl
                      · exact c102_1 rfl
                    · refine ev_blk 1 [] 100 ([some (.ref 0), some (.int ((2 : Int32))), some (.int (x)), some (.int (wh)), some (.int ((0 : Int32))), some (.ref 53)], [.int ((-2 : Int32))], σ) rfl ?_ ?_
                      · trivial
                      have h8 : 8 < (D 2).2.1 := by have := mt (fun z => nI_le (a := (D 2).2.1) (b := 8) z (by omega)) (by rw [← h1]; exact c95); omega
                      exact ev_iret rfl rfl rfl ⟨by rw [s_tel, if_neg (fun q => q hg), if_neg (by rintro (q | q); exact c8 q; exact absurd q (Int32.not_lt.mpr c13)), if_neg (fun q => q.1 c21), if_neg (fun q => q.1 c21), hc, if_neg (by rw [← h0]; exact c82), if_pos h8], xFr.rf⟩
                  · replace c82 := zi_1.mp c82
                    refine ev_blk 1 [] 87 ([some (.ref 0), some (.int ((2 : Int32))), some (.int (x)), some (.int (wh)), some (.int ((0 : Int32))), some (.ref 53)], [.int ((-11 : Int32))], σ) rfl ?_ ?_
                    · trivial
                    exact ev_iret rfl rfl rfl ⟨by rw [s_tel, if_neg (fun q => q hg), if_neg (by rintro (q | q); exact c8 q; exact absurd q (Int32.not_lt.mpr c13)), if_neg (fun q => q.1 c21), if_neg (fun q => q.1 c21), hc, if_pos (by rw [← h0]; exact c82)], xFr.rf⟩
                · exact absurd (by decide) c52
              · exact absurd (by decide) c33
            · refine ev_br 4 [] ((1 : Int32) = 0) 50 36 ([some (.ref 0), some (.int ((2 : Int32))), some (.int (x)), some (.int (wh)), some (.int ((1 : Int32))), none], [], σ) rfl ?_ (fun c33 => ?_) (fun c33 => ?_)
              · trivial
              · exact absurd c33 (by decide)
              · refine ev_blk 3 [] 41 ([some (.ref 0), some (.int ((2 : Int32))), some (.int (x)), some (.int (wh)), some (.int ((1 : Int32))), none], [.int (x), .ref 1], σ) rfl ?_ ?_
                · trivial
                refine ev_callV M_X3_isShip [.int (x)] [] 1 rfl rfl ln_X5_119 k_X3_isShip rfl rfl rfl rfl rfl rfl (c_isShip _ _) ?_
                refine pu_k ?_
                show xEv _ _ _ 44 ([some (.ref 0), some (.int ((2 : Int32))), some (.int (x)), some (.int (wh)), some (.int ((1 : Int32))), none], [.int (zi (iSh σ x))], σ)
                refine ev_br 0 [] (¬ (zi (iSh σ x)) = 0) 50 47 ([some (.ref 0), some (.int ((2 : Int32))), some (.int (x)), some (.int (wh)), some (.int ((1 : Int32))), none], [], σ) rfl ?_ (fun c44 => ?_) (fun c44 => ?_)
                · trivial
                · replace c44 := zi_1.mp c44
                  refine ev_br 1 [] ((1 : Int32) = 0) 69 55 ([some (.ref 0), some (.int ((2 : Int32))), some (.int (x)), some (.int (wh)), some (.int ((1 : Int32))), none], [], σ) rfl ?_ (fun c52 => ?_) (fun c52 => ?_)
                  · trivial
                  · exact absurd c52 (by decide)
                  · refine ev_blk 3 [] 60 ([some (.ref 0), some (.int ((2 : Int32))), some (.int (x)), some (.int (wh)), some (.int ((1 : Int32))), none], [.int (x), .ref 1], σ) rfl ?_ ?_
                    · trivial
                    refine ev_callV M_X3_isWaiting [.int (x)] [] 1 rfl rfl ln_X5_122 k_X3_isWaiting rfl rfl rfl rfl rfl rfl (c_isWaiting _ _) ?_
                    refine pu_k ?_
                    show xEv _ _ _ 63 ([some (.ref 0), some (.int ((2 : Int32))), some (.int (x)), some (.int (wh)), some (.int ((1 : Int32))), none], [.int (zi (iSh σ x ∧ ¬ (σ 1 1 >>> (x &&& 31)) &&& 1 = 0))], σ)
                    refine ev_br 0 [] (¬ (zi (iSh σ x ∧ ¬ (σ 1 1 >>> (x &&& 31)) &&& 1 = 0)) = 0) 69 66 ([some (.ref 0), some (.int ((2 : Int32))), some (.int (x)), some (.int (wh)), some (.int ((1 : Int32))), none], [], σ) rfl ?_ (fun c63 => ?_) (fun c63 => ?_)
                    · trivial
                    · replace c63 := zi_1.mp c63
                      refine ev_blk 6 [vp_in ((2 : Int32)) 4] 79 ([some (.ref 0), some (.int ((2 : Int32))), some (.int (x)), some (.int (wh)), some (.int ((1 : Int32))), some (.ref 53)], [.ref 53], σ) rfl ?_ ?_
                      · exact (vp_in_nI (n := 2) (by decide) (by decide))
                      refine ev_callV M_X4_isMissing [] [] 53 rfl rfl ln_X5_232 k_X4_isMissing rfl rfl rfl rfl rfl rfl (c_isMissing2 _) ?_
                      refine pu_k ?_
                      show xEv _ _ _ 82 ([some (.ref 0), some (.int ((2 : Int32))), some (.int (x)), some (.int (wh)), some (.int ((1 : Int32))), some (.ref 53)], [.int (zi (σ 53 0 = -1))], σ)
                      refine ev_br 0 [] ((zi (σ 53 0 = -1)) = 0) 88 85 ([some (.ref 0), some (.int ((2 : Int32))), some (.int (x)), some (.int (wh)), some (.int ((1 : Int32))), some (.ref 53)], [], σ) rfl ?_ (fun c82 => ?_) (fun c82 => ?_)
                      · trivial
                      · replace c82 := zi_0.mp c82
                        refine ev_br 3 [] ((σ 53 1) ≤ (8 : Int32)) 101 98 ([some (.ref 0), some (.int ((2 : Int32))), some (.int (x)), some (.int (wh)), some (.int ((1 : Int32))), some (.ref 53)], [], σ) rfl ?_ (fun c95 => ?_) (fun c95 => ?_)
                        · trivial
                        · refine ev_blk 1 [] 102 ([some (.ref 0), some (.int ((2 : Int32))), some (.int (x)), some (.int (wh)), some (.int ((1 : Int32))), some (.ref 53)], [.int (wh)], σ) rfl ?_ ?_
                          · trivial
                          refine ev_sw 0 [] (wh) [((0 : Int32), 128), ((1 : Int32), 135), ((2 : Int32), 152)] 169 ([some (.ref 0), some (.int ((2 : Int32))), some (.int (x)), some (.int (wh)), some (.int ((1 : Int32))), some (.ref 53)], [], σ) rfl ?_ ?_
                          · trivial
                          refine ⟨fun c102_0 => ?_, fun c102_0 => ?_⟩
                          · exact absurd (show wh < 2 by rw [c102_0]; decide) c21
                          refine ⟨fun c102_1 => ?_, fun c102_1 => ?_⟩
                          · exact absurd (show wh < 2 by rw [c102_1]; decide) c21
                          refine ⟨fun c102_2 => ?_, fun c102_2 => ?_⟩
                          · refine ev_blk 8 [] 165 ([some (.ref 0), some (.int ((2 : Int32))), some (.int (x)), some (.int (wh)), some (.int ((1 : Int32))), some (.ref 53)], [.int ((5 : Int32)), .int ((0 : Int32)), .int (x), .ref 2, .ref 53, .ref 0], σ) rfl ?_ ?_
                            · trivial
                            have hx := hsi.mp c44
                            obtain ⟨j, hj, rfl⟩ := nI_of hx.1
                            have hjn : j < n := Nat.lt_of_not_le (fun z => hx.2 (nI_le z hj))
                            have hjc : (nI j).toNatClampNeg = j := nI_clamp hj
                            have hwt : bt (σ 1 1) (nI j).toNatClampNeg = true := by rw [hjc]; exact ((iWt hn hn10 (show j < 32 by omega)).mp c63).2
                            have h8 : ¬ 8 < (D 2).2.1 := fun q => absurd (show σ 53 1 ≤ 8 from c95) (by rw [show σ 53 1 = _ from h1]; exact Int32.not_le.mpr (nI_lt (a := 8) q (by have := ho.2; omega)))
                            refine ev_callV M_X5_tried [.ref 53, .ref 2, .int (nI j), .int ((0 : Int32)), .int ((5 : Int32))] [] 0 rfl rfl ln_X5_241 k_X5_tried rfl rfl rfl rfl rfl rfl (c_tried2_2 σ n hok hn j hjn _ h1 (by omega)) ?_
                            rintro r σ2 ⟨rfl, hf2⟩
                            refine ev_iret rfl rfl rfl ⟨?_, hf2⟩
                            rw [s_tel, if_neg (fun q => q hg), if_neg (by rintro (q | q); exact c8 q; exact absurd q (Int32.not_lt.mpr c13)), if_neg (fun q => q.2 (hsi.mp c44)), if_neg (fun q => absurd q.2 (by rw [hwt]; decide)), hc, if_neg (by rw [← h0]; exact c82), if_neg h8, if_neg c102_0, if_neg c102_1, if_pos c102_2, hjc]
                            exact congrArg (fun z => some (Value.int z)) (s_tri_c (fun v _ _ => s_unl_c (fun j _ hj => hi j (by have := ho.2; omega))))
                          show xEv _ _ _ 169 ([some (.ref 0), some (.int ((2 : Int32))), some (.int (x)), some (.int (wh)), some (.int ((1 : Int32))), some (.ref 53)], [], σ)
                          refine ev_blk 8 [] 183 ([some (.ref 0), some (.int ((2 : Int32))), some (.int (x)), some (.int (wh)), some (.int ((1 : Int32))), some (.ref 53)], [.int ((9 : Int32)), .int ((1 : Int32)), .int (x), .ref 3, .ref 53, .ref 0], σ) rfl ?_ ?_
                          · trivial
                          have hx := hsi.mp c44
                          obtain ⟨j, hj, rfl⟩ := nI_of hx.1
                          have hjn : j < n := Nat.lt_of_not_le (fun z => hx.2 (nI_le z hj))
                          have hjc : (nI j).toNatClampNeg = j := nI_clamp hj
                          have hwt : bt (σ 1 1) (nI j).toNatClampNeg = true := by rw [hjc]; exact ((iWt hn hn10 (show j < 32 by omega)).mp c63).2
                          have h8 : ¬ 8 < (D 2).2.1 := fun q => absurd (show σ 53 1 ≤ 8 from c95) (by rw [show σ 53 1 = _ from h1]; exact Int32.not_le.mpr (nI_lt (a := 8) q (by have := ho.2; omega)))
                          refine ev_callV M_X5_tried [.ref 53, .ref 3, .int (nI j), .int ((1 : Int32)), .int ((9 : Int32))] [] 0 rfl rfl ln_X5_241 k_X5_tried rfl rfl rfl rfl rfl rfl (c_tried2_3 σ n hok hn j hjn _ h1 (by omega)) ?_
                          rintro r σ2 ⟨rfl, hf2⟩
                          refine ev_iret rfl rfl rfl ⟨?_, hf2⟩
                          rw [s_tel, if_neg (fun q => q hg), if_neg (by rintro (q | q); exact c8 q; exact absurd q (Int32.not_lt.mpr c13)), if_neg (fun q => q.2 (hsi.mp c44)), if_neg (fun q => absurd q.2 (by rw [hwt]; decide)), hc, if_neg (by rw [← h0]; exact c82), if_neg h8, if_neg c102_0, if_neg c102_1, if_neg c102_2, hjc]
                          exact congrArg (fun z => some (Value.int z)) (s_tri_c (fun v _ _ => s_unl_c (fun j _ hj => hi j (by have := ho.2; omega))))
                        · refine ev_blk 1 [] 100 ([some (.ref 0), some (.int ((2 : Int32))), some (.int (x)), some (.int (wh)), some (.int ((1 : Int32))), some (.ref 53)], [.int ((-2 : Int32))], σ) rfl ?_ ?_
                          · trivial
                          have hx := hsi.mp c44
                          obtain ⟨j, hj, rfl⟩ := nI_of hx.1
                          have hjn : j < n := Nat.lt_of_not_le (fun z => hx.2 (nI_le z hj))
                          have hjc : (nI j).toNatClampNeg = j := nI_clamp hj
                          have hwt : bt (σ 1 1) (nI j).toNatClampNeg = true := by rw [hjc]; exact ((iWt hn hn10 (show j < 32 by omega)).mp c63).2
                          have h8 : 8 < (D 2).2.1 := by have := mt (fun z => nI_le (a := (D 2).2.1) (b := 8) z (by omega)) (by rw [← h1]; exact c95); omega
                          exact ev_iret rfl rfl rfl ⟨by rw [s_tel, if_neg (fun q => q hg), if_neg (by rintro (q | q); exact c8 q; exact absurd q (Int32.not_lt.mpr c13)), if_neg (fun q => q.2 (hsi.mp c44)), if_neg (fun q => absurd q.2 (by rw [hwt]; decide)), hc, if_neg (by rw [← h0]; exact c82), if_pos h8], xFr.rf⟩
                      · replace c82 := zi_1.mp c82
                        refine ev_blk 1 [] 87 ([some (.ref 0), some (.int ((2 : Int32))), some (.int (x)), some (.int (wh)), some (.int ((1 : Int32))), some (.ref 53)], [.int ((-11 : Int32))], σ) rfl ?_ ?_
                        · trivial
                        have hx := hsi.mp c44
                        obtain ⟨j, hj, rfl⟩ := nI_of hx.1
                        have hjn : j < n := Nat.lt_of_not_le (fun z => hx.2 (nI_le z hj))
                        have hjc : (nI j).toNatClampNeg = j := nI_clamp hj
                        have hwt : bt (σ 1 1) (nI j).toNatClampNeg = true := by rw [hjc]; exact ((iWt hn hn10 (show j < 32 by omega)).mp c63).2
                        exact ev_iret rfl rfl rfl ⟨by rw [s_tel, if_neg (fun q => q hg), if_neg (by rintro (q | q); exact c8 q; exact absurd q (Int32.not_lt.mpr c13)), if_neg (fun q => q.2 (hsi.mp c44)), if_neg (fun q => absurd q.2 (by rw [hwt]; decide)), hc, if_pos (by rw [← h0]; exact c82)], xFr.rf⟩
                    · replace c63 := zi_n.mp c63
                      refine ev_blk 1 [] 68 ([some (.ref 0), some (.int ((2 : Int32))), some (.int (x)), some (.int (wh)), some (.int ((1 : Int32))), none], [.int ((-3 : Int32))], σ) rfl ?_ ?_
                      · trivial
                      have hx := hsi.mp c44
                      obtain ⟨j, hj, rfl⟩ := nI_of hx.1
                      have hjn : j < n := Nat.lt_of_not_le (fun z => hx.2 (nI_le z hj))
                      have hjc : (nI j).toNatClampNeg = j := nI_clamp hj
                      have hwf : bt (σ 1 1) (nI j).toNatClampNeg = false := by
                        rw [hjc]
                        cases hz : bt (σ 1 1) j with
                        | false => rfl
                        | true => exact absurd ((iWt hn hn10 (show j < 32 by omega)).mpr ⟨hjn, hz⟩) c63
                      exact ev_iret rfl rfl rfl ⟨by rw [s_tel, if_neg (fun q => q hg), if_neg (by rintro (q | q); exact c8 q; exact absurd q (Int32.not_lt.mpr c13)), if_neg (fun q => q.2 (hsi.mp c44)), if_pos ⟨c21, hwf⟩], xFr.rf⟩
                · replace c44 := zi_n.mp c44
                  refine ev_blk 1 [] 49 ([some (.ref 0), some (.int ((2 : Int32))), some (.int (x)), some (.int (wh)), some (.int ((1 : Int32))), none], [.int ((-2 : Int32))], σ) rfl ?_ ?_
                  · trivial
                  exact ev_iret rfl rfl rfl ⟨by rw [s_tel, if_neg (fun q => q hg), if_neg (by rintro (q | q); exact c8 q; exact absurd q (Int32.not_lt.mpr c13)), if_pos ⟨c21, fun q => c44 (hsi.mpr q)⟩], xFr.rf⟩
          · refine ev_blk 1 [] 18 ([some (.ref 0), some (.int ((2 : Int32))), some (.int (x)), some (.int (wh)), none, none], [.int ((-2 : Int32))], σ) rfl ?_ ?_
            · trivial
            exact ev_iret rfl rfl rfl ⟨by rw [s_tel, if_neg (fun q => q hg), if_pos (Or.inr (Int32.not_le.mp c13))], xFr.rf⟩
    · have hg : iN 4 (nI 3) := iN_nI (by decide) (by decide)
      obtain ⟨ho, h0, h1, hi⟩ := hD 3 (by decide)
      have hc : (nI 3).toNatClampNeg = 3 := rfl
      show xEv _ _ _ 0 ([some (.ref 0), some (.int ((3 : Int32))), some (.int (x)), some (.int (wh)), none, none], [], σ)
      refine ev_blk 1 [] 1 ([some (.ref 0), some (.int ((3 : Int32))), some (.int (x)), some (.int (wh)), none, none], [.int ((3 : Int32))], σ) rfl ?_ ?_
      · trivial
      refine ev_callS M_X5_isSheet [.int ((3 : Int32))] [] rfl rfl ln_X5_229 k_X5_isSheet rfl rfl rfl (c_isSheet _ _) ?_
      refine pu_k ?_
      rw [zi_t (show ¬ ((3 : Int32)) < 0 ∧ ¬ (4 : Int32) ≤ ((3 : Int32)) by decide)]
      show xEv _ _ _ 4 ([some (.ref 0), some (.int ((3 : Int32))), some (.int (x)), some (.int (wh)), none, none], [.int ((1 : Int32))], σ)
      refine ev_br 0 [] ((1 : Int32) = 0) 16 7 ([some (.ref 0), some (.int ((3 : Int32))), some (.int (x)), some (.int (wh)), none, none], [], σ) rfl ?_ (fun c4 => ?_) (fun c4 => ?_)
      · trivial
      · exact absurd c4 (by decide)
      · refine ev_br 1 [] (wh < 0) 16 11 ([some (.ref 0), some (.int ((3 : Int32))), some (.int (x)), some (.int (wh)), none, none], [], σ) rfl ?_ (fun c8 => ?_) (fun c8 => ?_)
        · trivial
        · refine ev_blk 1 [] 18 ([some (.ref 0), some (.int ((3 : Int32))), some (.int (x)), some (.int (wh)), none, none], [.int ((-2 : Int32))], σ) rfl ?_ ?_
          · trivial
          exact ev_iret rfl rfl rfl ⟨by rw [s_tel, if_neg (fun q => q hg), if_pos (Or.inl c8)], xFr.rf⟩
        · refine ev_br 2 [] (wh ≤ (3 : Int32)) 19 16 ([some (.ref 0), some (.int ((3 : Int32))), some (.int (x)), some (.int (wh)), none, none], [], σ) rfl ?_ (fun c13 => ?_) (fun c13 => ?_)
          · trivial
          · refine ev_br 2 [] (wh < (2 : Int32)) 28 24 ([some (.ref 0), some (.int ((3 : Int32))), some (.int (x)), some (.int (wh)), none, none], [], σ) rfl ?_ (fun c21 => ?_) (fun c21 => ?_)
            · trivial
            · refine ev_br 3 [] ((0 : Int32) = 0) 50 36 ([some (.ref 0), some (.int ((3 : Int32))), some (.int (x)), some (.int (wh)), some (.int ((0 : Int32))), none], [], σ) rfl ?_ (fun c33 => ?_) (fun c33 => ?_)
              · trivial
              · refine ev_br 1 [] ((0 : Int32) = 0) 69 55 ([some (.ref 0), some (.int ((3 : Int32))), some (.int (x)), some (.int (wh)), some (.int ((0 : Int32))), none], [], σ) rfl ?_ (fun c52 => ?_) (fun c52 => ?_)
                · trivial
                · refine ev_blk 6 [vp_in ((3 : Int32)) 4] 79 ([some (.ref 0), some (.int ((3 : Int32))), some (.int (x)), some (.int (wh)), some (.int ((0 : Int32))), some (.ref 55)], [.ref 55], σ) rfl ?_ ?_
                  · exact (vp_in_nI (n := 3) (by decide) (by decide))
                  refine ev_callV M_X4_isMissing [] [] 55 rfl rfl ln_X5_232 k_X4_isMissing rfl rfl rfl rfl rfl rfl (c_isMissing3 _) ?_
                  refine pu_k ?_
                  show xEv _ _ _ 82 ([some (.ref 0), some (.int ((3 : Int32))), some (.int (x)), some (.int (wh)), some (.int ((0 : Int32))), some (.ref 55)], [.int (zi (σ 55 0 = -1))], σ)
                  refine ev_br 0 [] ((zi (σ 55 0 = -1)) = 0) 88 85 ([some (.ref 0), some (.int ((3 : Int32))), some (.int (x)), some (.int (wh)), some (.int ((0 : Int32))), some (.ref 55)], [], σ) rfl ?_ (fun c82 => ?_) (fun c82 => ?_)
                  · trivial
                  · replace c82 := zi_0.mp c82
                    refine ev_br 3 [] ((σ 55 1) ≤ (8 : Int32)) 101 98 ([some (.ref 0), some (.int ((3 : Int32))), some (.int (x)), some (.int (wh)), some (.int ((0 : Int32))), some (.ref 55)], [], σ) rfl ?_ (fun c95 => ?_) (fun c95 => ?_)
                    · trivial
                    · refine ev_blk 1 [] 102 ([some (.ref 0), some (.int ((3 : Int32))), some (.int (x)), some (.int (wh)), some (.int ((0 : Int32))), some (.ref 55)], [.int (wh)], σ) rfl ?_ ?_
                      · trivial
                      refine ev_sw 0 [] (wh) [((0 : Int32), 128), ((1 : Int32), 135), ((2 : Int32), 152)] 169 ([some (.ref 0), some (.int ((3 : Int32))), some (.int (x)), some (.int (wh)), some (.int ((0 : Int32))), some (.ref 55)], [], σ) rfl ?_ ?_
                      · trivial
                      refine ⟨fun c102_0 => ?_, fun c102_0 => ?_⟩
                      · refine ev_blk 2 [] 131 ([some (.ref 0), some (.int ((3 : Int32))), some (.int (x)), some (.int (wh)), some (.int ((0 : Int32))), some (.ref 55)], [.ref 55, .ref 0], σ) rfl ?_ ?_
                        · trivial
                        have h8 : ¬ 8 < (D 3).2.1 := fun q => absurd (show σ 55 1 ≤ 8 from c95) (by rw [show σ 55 1 = _ from h1]; exact Int32.not_le.mpr (nI_lt (a := 8) q (by have := ho.2; omega)))
                        refine ev_callV M_X5_firstOtherwise [.ref 55] [] 0 rfl rfl ln_X5_237 k_X5_firstOtherwise rfl rfl rfl rfl rfl rfl (c_first3 σ n hok hn _ h1 (by omega)) ?_
                        rintro r σ2 ⟨rfl, hf2⟩
                        refine ev_iret rfl rfl rfl ⟨?_, hf2⟩
                        rw [s_tel, if_neg (fun q => q hg), if_neg (by rintro (q | q); exact c8 q; exact absurd q (Int32.not_lt.mpr c13)), if_neg (fun q => q.1 c21), if_neg (fun q => q.1 c21), hc, if_neg (by rw [← h0]; exact c82), if_neg h8, if_pos c102_0]
                        exact congrArg (fun z => some (Value.int z)) (s_unl_c (fun j _ hj => hi j (by have := ho.2; omega)))
                      refine ⟨fun c102_1 => ?_, fun c102_1 => ?_⟩
                      · refine ev_blk 8 [] 148 ([some (.ref 0), some (.int ((3 : Int32))), some (.int (x)), some (.int (wh)), some (.int ((0 : Int32))), some (.ref 55)], [.int ((4 : Int32)), .int ((0 : Int32)), .int ((4 : Int32)), .ref 9, .ref 55, .ref 0], σ) rfl ?_ ?_
                        · trivial
                        have h8 : ¬ 8 < (D 3).2.1 := fun q => absurd (show σ 55 1 ≤ 8 from c95) (by rw [show σ 55 1 = _ from h1]; exact Int32.not_le.mpr (nI_lt (a := 8) q (by have := ho.2; omega)))
                        refine ev_callV M_X5_tried [.ref 55, .ref 9, .int ((4 : Int32)), .int ((0 : Int32)), .int ((4 : Int32))] [] 0 rfl rfl ln_X5_241 k_X5_tried rfl rfl rfl rfl rfl rfl (c_tried3_9 σ n hok hn _ h1 (by omega)) ?_
                        rintro r σ2 ⟨rfl, hf2⟩
                        refine ev_iret rfl rfl rfl ⟨?_, hf2⟩
                        rw [s_tel, if_neg (fun q => q hg), if_neg (by rintro (q | q); exact c8 q; exact absurd q (Int32.not_lt.mpr c13)), if_neg (fun q => q.1 c21), if_neg (fun q => q.1 c21), hc, if_neg (by rw [← h0]; exact c82), if_neg h8, if_neg c102_0, if_pos c102_1]
                        exact congrArg (fun z => some (Value.int z)) (s_tri_c (fun v _ _ => s_unl_c (fun j _ hj => hi j (by have := ho.2; omega))))
                      refine ⟨fun c102_2 => ?_, fun c102_2 => ?_⟩
                      · exact absurd c21 (by rw [c102_2]; decide)
                      exfalso
                      have w0 : ¬ wh < 0 := c8
                      obtain ⟨j, hj, rfl⟩ := nI_of w0
                      have : j < 2 := (nI_ltI (b := 2) hj (by decide)).mp c21
                      rcases (show j = 0 ∨ j = 1 by omega) with rfl | rfl
                      · exact c102_0 rfl
                      · exact c102_1 rfl
                    · refine ev_blk 1 [] 100 ([some (.ref 0), some (.int ((3 : Int32))), some (.int (x)), some (.int (wh)), some (.int ((0 : Int32))), some (.ref 55)], [.int ((-2 : Int32))], σ) rfl ?_ ?_
                      · trivial
                      have h8 : 8 < (D 3).2.1 := by have := mt (fun z => nI_le (a := (D 3).2.1) (b := 8) z (by omega)) (by rw [← h1]; exact c95); omega
                      exact ev_iret rfl rfl rfl ⟨by rw [s_tel, if_neg (fun q => q hg), if_neg (by rintro (q | q); exact c8 q; exact absurd q (Int32.not_lt.mpr c13)), if_neg (fun q => q.1 c21), if_neg (fun q => q.1 c21), hc, if_neg (by rw [← h0]; exact c82), if_pos h8], xFr.rf⟩
                  · replace c82 := zi_1.mp c82
                    refine ev_blk 1 [] 87 ([some (.ref 0), some (.int ((3 : Int32))), some (.int (x)), some (.int (wh)), some (.int ((0 : Int32))), some (.ref 55)], [.int ((-11 : Int32))], σ) rfl ?_ ?_
                    · trivial
                    exact ev_iret rfl rfl rfl ⟨by rw [s_tel, if_neg (fun q => q hg), if_neg (by rintro (q | q); exact c8 q; exact absurd q (Int32.not_lt.mpr c13)), if_neg (fun q => q.1 c21), if_neg (fun q => q.1 c21), hc, if_pos (by rw [← h0]; exact c82)], xFr.rf⟩
                · exact absurd (by decide) c52
              · exact absurd (by decide) c33
            · refine ev_br 4 [] ((1 : Int32) = 0) 50 36 ([some (.ref 0), some (.int ((3 : Int32))), some (.int (x)), some (.int (wh)), some (.int ((1 : Int32))), none], [], σ) rfl ?_ (fun c33 => ?_) (fun c33 => ?_)
              · trivial
              · exact absurd c33 (by decide)
              · refine ev_blk 3 [] 41 ([some (.ref 0), some (.int ((3 : Int32))), some (.int (x)), some (.int (wh)), some (.int ((1 : Int32))), none], [.int (x), .ref 1], σ) rfl ?_ ?_
                · trivial
                refine ev_callV M_X3_isShip [.int (x)] [] 1 rfl rfl ln_X5_119 k_X3_isShip rfl rfl rfl rfl rfl rfl (c_isShip _ _) ?_
                refine pu_k ?_
                show xEv _ _ _ 44 ([some (.ref 0), some (.int ((3 : Int32))), some (.int (x)), some (.int (wh)), some (.int ((1 : Int32))), none], [.int (zi (iSh σ x))], σ)
                refine ev_br 0 [] (¬ (zi (iSh σ x)) = 0) 50 47 ([some (.ref 0), some (.int ((3 : Int32))), some (.int (x)), some (.int (wh)), some (.int ((1 : Int32))), none], [], σ) rfl ?_ (fun c44 => ?_) (fun c44 => ?_)
                · trivial
                · replace c44 := zi_1.mp c44
                  refine ev_br 1 [] ((1 : Int32) = 0) 69 55 ([some (.ref 0), some (.int ((3 : Int32))), some (.int (x)), some (.int (wh)), some (.int ((1 : Int32))), none], [], σ) rfl ?_ (fun c52 => ?_) (fun c52 => ?_)
                  · trivial
                  · exact absurd c52 (by decide)
                  · refine ev_blk 3 [] 60 ([some (.ref 0), some (.int ((3 : Int32))), some (.int (x)), some (.int (wh)), some (.int ((1 : Int32))), none], [.int (x), .ref 1], σ) rfl ?_ ?_
                    · trivial
                    refine ev_callV M_X3_isWaiting [.int (x)] [] 1 rfl rfl ln_X5_122 k_X3_isWaiting rfl rfl rfl rfl rfl rfl (c_isWaiting _ _) ?_
                    refine pu_k ?_
                    show xEv _ _ _ 63 ([some (.ref 0), some (.int ((3 : Int32))), some (.int (x)), some (.int (wh)), some (.int ((1 : Int32))), none], [.int (zi (iSh σ x ∧ ¬ (σ 1 1 >>> (x &&& 31)) &&& 1 = 0))], σ)
                    refine ev_br 0 [] (¬ (zi (iSh σ x ∧ ¬ (σ 1 1 >>> (x &&& 31)) &&& 1 = 0)) = 0) 69 66 ([some (.ref 0), some (.int ((3 : Int32))), some (.int (x)), some (.int (wh)), some (.int ((1 : Int32))), none], [], σ) rfl ?_ (fun c63 => ?_) (fun c63 => ?_)
                    · trivial
                    · replace c63 := zi_1.mp c63
                      refine ev_blk 6 [vp_in ((3 : Int32)) 4] 79 ([some (.ref 0), some (.int ((3 : Int32))), some (.int (x)), some (.int (wh)), some (.int ((1 : Int32))), some (.ref 55)], [.ref 55], σ) rfl ?_ ?_
                      · exact (vp_in_nI (n := 3) (by decide) (by decide))
                      refine ev_callV M_X4_isMissing [] [] 55 rfl rfl ln_X5_232 k_X4_isMissing rfl rfl rfl rfl rfl rfl (c_isMissing3 _) ?_
                      refine pu_k ?_
                      show xEv _ _ _ 82 ([some (.ref 0), some (.int ((3 : Int32))), some (.int (x)), some (.int (wh)), some (.int ((1 : Int32))), some (.ref 55)], [.int (zi (σ 55 0 = -1))], σ)
                      refine ev_br 0 [] ((zi (σ 55 0 = -1)) = 0) 88 85 ([some (.ref 0), some (.int ((3 : Int32))), some (.int (x)), some (.int (wh)), some (.int ((1 : Int32))), some (.ref 55)], [], σ) rfl ?_ (fun c82 => ?_) (fun c82 => ?_)
                      · trivial
                      · replace c82 := zi_0.mp c82
                        refine ev_br 3 [] ((σ 55 1) ≤ (8 : Int32)) 101 98 ([some (.ref 0), some (.int ((3 : Int32))), some (.int (x)), some (.int (wh)), some (.int ((1 : Int32))), some (.ref 55)], [], σ) rfl ?_ (fun c95 => ?_) (fun c95 => ?_)
                        · trivial
                        · refine ev_blk 1 [] 102 ([some (.ref 0), some (.int ((3 : Int32))), some (.int (x)), some (.int (wh)), some (.int ((1 : Int32))), some (.ref 55)], [.int (wh)], σ) rfl ?_ ?_
                          · trivial
                          refine ev_sw 0 [] (wh) [((0 : Int32), 128), ((1 : Int32), 135), ((2 : Int32), 152)] 169 ([some (.ref 0), some (.int ((3 : Int32))), some (.int (x)), some (.int (wh)), some (.int ((1 : Int32))), some (.ref 55)], [], σ) rfl ?_ ?_
                          · trivial
                          refine ⟨fun c102_0 => ?_, fun c102_0 => ?_⟩
                          · exact absurd (show wh < 2 by rw [c102_0]; decide) c21
                          refine ⟨fun c102_1 => ?_, fun c102_1 => ?_⟩
                          · exact absurd (show wh < 2 by rw [c102_1]; decide) c21
                          refine ⟨fun c102_2 => ?_, fun c102_2 => ?_⟩
                          · refine ev_blk 8 [] 165 ([some (.ref 0), some (.int ((3 : Int32))), some (.int (x)), some (.int (wh)), some (.int ((1 : Int32))), some (.ref 55)], [.int ((5 : Int32)), .int ((0 : Int32)), .int (x), .ref 2, .ref 55, .ref 0], σ) rfl ?_ ?_
                            · trivial
                            have hx := hsi.mp c44
                            obtain ⟨j, hj, rfl⟩ := nI_of hx.1
                            have hjn : j < n := Nat.lt_of_not_le (fun z => hx.2 (nI_le z hj))
                            have hjc : (nI j).toNatClampNeg = j := nI_clamp hj
                            have hwt : bt (σ 1 1) (nI j).toNatClampNeg = true := by rw [hjc]; exact ((iWt hn hn10 (show j < 32 by omega)).mp c63).2
                            have h8 : ¬ 8 < (D 3).2.1 := fun q => absurd (show σ 55 1 ≤ 8 from c95) (by rw [show σ 55 1 = _ from h1]; exact Int32.not_le.mpr (nI_lt (a := 8) q (by have := ho.2; omega)))
                            refine ev_callV M_X5_tried [.ref 55, .ref 2, .int (nI j), .int ((0 : Int32)), .int ((5 : Int32))] [] 0 rfl rfl ln_X5_241 k_X5_tried rfl rfl rfl rfl rfl rfl (c_tried3_2 σ n hok hn j hjn _ h1 (by omega)) ?_
                            rintro r σ2 ⟨rfl, hf2⟩
                            refine ev_iret rfl rfl rfl ⟨?_, hf2⟩
                            rw [s_tel, if_neg (fun q => q hg), if_neg (by rintro (q | q); exact c8 q; exact absurd q (Int32.not_lt.mpr c13)), if_neg (fun q => q.2 (hsi.mp c44)), if_neg (fun q => absurd q.2 (by rw [hwt]; decide)), hc, if_neg (by rw [← h0]; exact c82), if_neg h8, if_neg c102_0, if_neg c102_1, if_pos c102_2, hjc]
                            exact congrArg (fun z => some (Value.int z)) (s_tri_c (fun v _ _ => s_unl_c (fun j _ hj => hi j (by have := ho.2; omega))))
                          show xEv _ _ _ 169 ([some (.ref 0), some (.int ((3 : Int32))), some (.int (x)), some (.int (wh)), some (.int ((1 : Int32))), some (.ref 55)], [], σ)
                          refine ev_blk 8 [] 183 ([some (.ref 0), some (.int ((3 : Int32))), some (.int (x)), some (.int (wh)), some (.int ((1 : Int32))), some (.ref 55)], [.int ((9 : Int32)), .int ((1 : Int32)), .int (x), .ref 3, .ref 55, .ref 0], σ) rfl ?_ ?_
                          · trivial
                          have hx := hsi.mp c44
                          obtain ⟨j, hj, rfl⟩ := nI_of hx.1
                          have hjn : j < n := Nat.lt_of_not_le (fun z => hx.2 (nI_le z hj))
                          have hjc : (nI j).toNatClampNeg = j := nI_clamp hj
                          have hwt : bt (σ 1 1) (nI j).toNatClampNeg = true := by rw [hjc]; exact ((iWt hn hn10 (show j < 32 by omega)).mp c63).2
                          have h8 : ¬ 8 < (D 3).2.1 := fun q => absurd (show σ 55 1 ≤ 8 from c95) (by rw [show σ 55 1 = _ from h1]; exact Int32.not_le.mpr (nI_lt (a := 8) q (by have := ho.2; omega)))
                          refine ev_callV M_X5_tried [.ref 55, .ref 3, .int (nI j), .int ((1 : Int32)), .int ((9 : Int32))] [] 0 rfl rfl ln_X5_241 k_X5_tried rfl rfl rfl rfl rfl rfl (c_tried3_3 σ n hok hn j hjn _ h1 (by omega)) ?_
                          rintro r σ2 ⟨rfl, hf2⟩
                          refine ev_iret rfl rfl rfl ⟨?_, hf2⟩
                          rw [s_tel, if_neg (fun q => q hg), if_neg (by rintro (q | q); exact c8 q; exact absurd q (Int32.not_lt.mpr c13)), if_neg (fun q => q.2 (hsi.mp c44)), if_neg (fun q => absurd q.2 (by rw [hwt]; decide)), hc, if_neg (by rw [← h0]; exact c82), if_neg h8, if_neg c102_0, if_neg c102_1, if_neg c102_2, hjc]
                          exact congrArg (fun z => some (Value.int z)) (s_tri_c (fun v _ _ => s_unl_c (fun j _ hj => hi j (by have := ho.2; omega))))
                        · refine ev_blk 1 [] 100 ([some (.ref 0), some (.int ((3 : Int32))), some (.int (x)), some (.int (wh)), some (.int ((1 : Int32))), some (.ref 55)], [.int ((-2 : Int32))], σ) rfl ?_ ?_
                          · trivial
                          have hx := hsi.mp c44
                          obtain ⟨j, hj, rfl⟩ := nI_of hx.1
                          have hjn : j < n := Nat.lt_of_not_le (fun z => hx.2 (nI_le z hj))
                          have hjc : (nI j).toNatClampNeg = j := nI_clamp hj
                          have hwt : bt (σ 1 1) (nI j).toNatClampNeg = true := by rw [hjc]; exact ((iWt hn hn10 (show j < 32 by omega)).mp c63).2
                          have h8 : 8 < (D 3).2.1 := by have := mt (fun z => nI_le (a := (D 3).2.1) (b := 8) z (by omega)) (by rw [← h1]; exact c95); omega
                          exact ev_iret rfl rfl rfl ⟨by rw [s_tel, if_neg (fun q => q hg), if_neg (by rintro (q | q); exact c8 q; exact absurd q (Int32.not_lt.mpr c13)), if_neg (fun q => q.2 (hsi.mp c44)), if_neg (fun q => absurd q.2 (by rw [hwt]; decide)), hc, if_neg (by rw [← h0]; exact c82), if_pos h8], xFr.rf⟩
                      · replace c82 := zi_1.mp c82
                        refine ev_blk 1 [] 87 ([some (.ref 0), some (.int ((3 : Int32))), some (.int (x)), some (.int (wh)), some (.int ((1 : Int32))), some (.ref 55)], [.int ((-11 : Int32))], σ) rfl ?_ ?_
                        · trivial
                        have hx := hsi.mp c44
                        obtain ⟨j, hj, rfl⟩ := nI_of hx.1
                        have hjn : j < n := Nat.lt_of_not_le (fun z => hx.2 (nI_le z hj))
                        have hjc : (nI j).toNatClampNeg = j := nI_clamp hj
                        have hwt : bt (σ 1 1) (nI j).toNatClampNeg = true := by rw [hjc]; exact ((iWt hn hn10 (show j < 32 by omega)).mp c63).2
                        exact ev_iret rfl rfl rfl ⟨by rw [s_tel, if_neg (fun q => q hg), if_neg (by rintro (q | q); exact c8 q; exact absurd q (Int32.not_lt.mpr c13)), if_neg (fun q => q.2 (hsi.mp c44)), if_neg (fun q => absurd q.2 (by rw [hwt]; decide)), hc, if_pos (by rw [← h0]; exact c82)], xFr.rf⟩
                    · replace c63 := zi_n.mp c63
                      refine ev_blk 1 [] 68 ([some (.ref 0), some (.int ((3 : Int32))), some (.int (x)), some (.int (wh)), some (.int ((1 : Int32))), none], [.int ((-3 : Int32))], σ) rfl ?_ ?_
                      · trivial
                      have hx := hsi.mp c44
                      obtain ⟨j, hj, rfl⟩ := nI_of hx.1
                      have hjn : j < n := Nat.lt_of_not_le (fun z => hx.2 (nI_le z hj))
                      have hjc : (nI j).toNatClampNeg = j := nI_clamp hj
                      have hwf : bt (σ 1 1) (nI j).toNatClampNeg = false := by
                        rw [hjc]
                        cases hz : bt (σ 1 1) j with
                        | false => rfl
                        | true => exact absurd ((iWt hn hn10 (show j < 32 by omega)).mpr ⟨hjn, hz⟩) c63
                      exact ev_iret rfl rfl rfl ⟨by rw [s_tel, if_neg (fun q => q hg), if_neg (by rintro (q | q); exact c8 q; exact absurd q (Int32.not_lt.mpr c13)), if_neg (fun q => q.2 (hsi.mp c44)), if_pos ⟨c21, hwf⟩], xFr.rf⟩
                · replace c44 := zi_n.mp c44
                  refine ev_blk 1 [] 49 ([some (.ref 0), some (.int ((3 : Int32))), some (.int (x)), some (.int (wh)), some (.int ((1 : Int32))), none], [.int ((-2 : Int32))], σ) rfl ?_ ?_
                  · trivial
                  exact ev_iret rfl rfl rfl ⟨by rw [s_tel, if_neg (fun q => q hg), if_neg (by rintro (q | q); exact c8 q; exact absurd q (Int32.not_lt.mpr c13)), if_pos ⟨c21, fun q => c44 (hsi.mpr q)⟩], xFr.rf⟩
          · refine ev_blk 1 [] 18 ([some (.ref 0), some (.int ((3 : Int32))), some (.int (x)), some (.int (wh)), none, none], [.int ((-2 : Int32))], σ) rfl ?_ ?_
            · trivial
            exact ev_iret rfl rfl rfl ⟨by rw [s_tel, if_neg (fun q => q hg), if_pos (Or.inr (Int32.not_le.mp c13))], xFr.rf⟩
