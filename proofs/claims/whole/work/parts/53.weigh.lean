def cV (σ : xSg) (v : sV) : Prop := σ 34 6 = v.1 ∧ σ 34 7 = v.2.1 ∧ σ 34 8 = v.2.2.1 ∧ σ 34 9 = v.2.2.2
theorem cV_fr {σ σ1 : xSg} {v : sV} (h : cV σ v) (e : σ1 34 = σ 34) : cV σ1 v := by unfold cV; rw [e]; exact h
theorem nI_11 (i j : Nat) : nI i * 11 + nI j = nI (11 * i + j) := by
  rw [show (11 : Int32) = nI 11 from rfl, show nI i * nI 11 = nI (i * 11) from (Int32.ofNat_mul i 11).symm, nI_add, Nat.mul_comm]
theorem c_spd43 {a : sAt} {σ1 : xSg} {F : sFl} (ha : atC σ1 = a) (hF : FR a σ1 43 44 45 46 47 F) : x_mx 0 (σ1 9 0 * σ1 9 1 * σ1 9 2 - σ1 43 6) = s_spend a F.2 := by
  rw [hF.2.2.2.1]
  subst ha
  rfl
theorem FR_fr {a : sAt} {σ σ1 : xSg} {ko kc kw kr kp : Nat} {F : sFl} (h : FR a σ ko kc kw kr kp F) (h1 : σ1 ko = σ ko) (h2 : σ1 kc = σ kc) (h3 : σ1 kw = σ kw) (h4 : σ1 kr = σ kr) (h5 : σ1 kp = σ kp) : FR a σ1 ko kc kw kr kp F := by
  unfold FR
  rw [h1, h2, h3, h4, h5]
  exact h
theorem s_gos_len {a : sAt} : ∀ {l : List Nat} {F G : sFl}, s_gos a F l = some G → G.2.length = F.2.length + l.length
  | [], F, G, h => by cases h; rfl
  | x :: l, F, G, h => by
    unfold s_gos at h
    split at h
    · cases h
    next F' e =>
      obtain ⟨r, p, e2⟩ := s_in_w e
      rw [s_gos_len h, e2, List.length_append]
      simp
      omega
set_option maxRecDepth 100000 in
theorem c_weigh (σ : xSg) (tk : sTk) (A B : List Nat) (T : sTb) (i j p q : Nat) (hi : i + p ≤ 10) (hj : j + q ≤ 10) (F : sFl) (hg : s_gos (atC σ) (tk, []) ((A.drop i).take p ++ (B.drop j).take q) = some F) (hF : FR (atC σ) σ 43 44 45 46 47 F) (hT : 0 < p + q → σ 36 (11 * (i + p) + (j + q)) = (T (i + p) (j + q)).1 ∧ σ 37 (11 * (i + p) + (j + q)) = (T (i + p) (j + q)).2.1) (acc : sV) (hacc : cV σ acc) : xCtr M_X1_weigh [.ref 34, .int (nI i), .int (nI j), .int (nI p), .int (nI q)] σ (fun r σ' => r = none ∧ cV σ' (wO acc (s_cnd (atC σ) tk A B T i j p q)) ∧ xFr [34] σ σ') := by
  refine ctr_ev ok_X1_weigh (by decide +kernel) rfl rfl rfl ?_
  show xEv (.inl 2) M_X1_weigh _ 0 ([some (.ref 34), some (.int (nI i)), some (.int (nI j)), some (.int (nI p)), some (.int (nI q)), none, none, none], [], σ)
  have hix : ((nI i) + (nI p)) * 11 + ((nI j) + (nI q)) = nI (11 * (i + p) + (j + q)) := by rw [nI_add, nI_add, nI_11]
  have hkc : (nI (11 * (i + p) + (j + q))).toNatClampNeg = (11 * (i + p) + (j + q)) := nI_clamp (by omega)
  have hin : vp_in (nI (11 * (i + p) + (j + q))) 121 := vp_in_nI (by omega) (by decide)
  have hpq : (nI p) + (nI q) = nI (p + q) := nI_add p q
  refine ev_blk 6 [] 7 ([some (.ref 34), some (.int (nI i)), some (.int (nI j)), some (.int (nI p)), some (.int (nI q)), none, none, none], [.int ((nI j) + (nI q)), .int ((nI i) + (nI p))], σ) rfl ?_ ?_
  · trivial
  refine ev_callS M_X1_stateOf [.int ((nI i) + (nI p)), .int ((nI j) + (nI q))] [] rfl rfl ln_X1_79 k_X1_stateOf rfl rfl rfl (c_stateOf _ _ _) ?_
  refine pu_k ?_
  rw [hix]
  show xEv _ _ _ 10 ([some (.ref 34), some (.int (nI i)), some (.int (nI j)), some (.int (nI p)), some (.int (nI q)), none, none, none], [.int (nI (11 * (i + p) + (j + q)))], σ)
  refine ev_br 4 [] (((nI p) + (nI q)) = 0) 30 19 ([some (.ref 34), some (.int (nI i)), some (.int (nI j)), some (.int (nI p)), some (.int (nI q)), some (.int (nI (11 * (i + p) + (j + q)))), none, none], [], σ) rfl ?_ (fun c16 => ?_) (fun c16 => ?_)
  · trivial
  · have h0 : p + q = 0 := by
      rcases Nat.eq_zero_or_pos (p + q) with z | z
      · exact z
      · exact absurd (hpq.symm.trans c16) (nI_ne0 z (by omega))
    have hc : (s_cnd (atC σ) tk A B T i j p q) = none := by
      unfold s_cnd
      rw [hg]
      dsimp only
      rw [if_pos (Or.inl h0)]
    rw [hc]
    exact ev_vret rfl rfl ⟨rfl, hacc, xFr.rf⟩
  · refine ev_br 5 [vp_in (nI (11 * (i + p) + (j + q))) 121] (¬ ((σ 36) (nI (11 * (i + p) + (j + q))).toNatClampNeg) = (-1 : Int32)) 31 30 ([some (.ref 34), some (.int (nI i)), some (.int (nI j)), some (.int (nI p)), some (.int (nI q)), some (.int (nI (11 * (i + p) + (j + q)))), none, none], [], σ) rfl ?_ (fun c27 => ?_) (fun c27 => ?_)
    · exact hin
    · rw [hkc] at c27
      refine ev_blk 13 [vp_in (nI (11 * (i + p) + (j + q))) 121, vp_in (nI (11 * (i + p) + (j + q))) 121] 53 ([some (.ref 34), some (.int (nI i)), some (.int (nI j)), some (.int (nI p)), some (.int (nI q)), some (.int (nI (11 * (i + p) + (j + q)))), some (.int (((σ 36) (nI (11 * (i + p) + (j + q))).toNatClampNeg) + (1 : Int32))), none], [.ref 43, .int ((σ 37) (nI (11 * (i + p) + (j + q))).toNatClampNeg)], σ) rfl ?_ ?_
      · exact ⟨hin, hin⟩
      rw [hkc]
      refine ev_callV M_X2_spends [] [.int ((σ 37) (11 * (i + p) + (j + q)))] 43 rfl rfl ln_X1_82 k_X2_spends rfl rfl rfl rfl rfl rfl (c_spends43 _) ?_
      refine pu_k ?_
      show xEv _ _ _ 56 ([some (.ref 34), some (.int (nI i)), some (.int (nI j)), some (.int (nI p)), some (.int (nI q)), some (.int (nI (11 * (i + p) + (j + q)))), some (.int (((σ 36) (11 * (i + p) + (j + q))) + (1 : Int32))), none], [.int (x_mx 0 (σ 9 0 * σ 9 1 * σ 9 2 - σ 43 6)), .int ((σ 37) (11 * (i + p) + (j + q)))], σ)
      refine ev_br 5 [] ((σ 34 6) = (-1 : Int32)) 94 67 ([some (.ref 34), some (.int (nI i)), some (.int (nI j)), some (.int (nI p)), some (.int (nI q)), some (.int (nI (11 * (i + p) + (j + q)))), some (.int (((σ 36) (11 * (i + p) + (j + q))) + (1 : Int32))), some (.int (((σ 37) (11 * (i + p) + (j + q))) + (x_mx 0 (σ 9 0 * σ 9 1 * σ 9 2 - σ 43 6))))], [], σ) rfl ?_ (fun c64 => ?_) (fun c64 => ?_)
      · trivial
      · refine ev_blk 12 [] 117 ([some (.ref 34), some (.int (nI i)), some (.int (nI j)), some (.int (nI p)), some (.int (nI q)), some (.int (nI (11 * (i + p) + (j + q)))), some (.int (((σ 36) (11 * (i + p) + (j + q))) + (1 : Int32))), some (.int (((σ 37) (11 * (i + p) + (j + q))) + (x_mx 0 (σ 9 0 * σ 9 1 * σ 9 2 - σ 43 6))))], [], (x_up (x_up (x_up (x_up σ 34 (upd (σ 34) 6 (((σ 36) (11 * (i + p) + (j + q))) + (1 : Int32)))) 34 (upd (upd (σ 34) 6 (((σ 36) (11 * (i + p) + (j + q))) + (1 : Int32))) 7 (((σ 37) (11 * (i + p) + (j + q))) + (x_mx 0 (σ 9 0 * σ 9 1 * σ 9 2 - σ 43 6))))) 34 (upd (upd (upd (σ 34) 6 (((σ 36) (11 * (i + p) + (j + q))) + (1 : Int32))) 7 (((σ 37) (11 * (i + p) + (j + q))) + (x_mx 0 (σ 9 0 * σ 9 1 * σ 9 2 - σ 43 6)))) 8 (nI p))) 34 (upd (upd (upd (upd (σ 34) 6 (((σ 36) (11 * (i + p) + (j + q))) + (1 : Int32))) 7 (((σ 37) (11 * (i + p) + (j + q))) + (x_mx 0 (σ 9 0 * σ 9 1 * σ 9 2 - σ 43 6)))) 8 (nI p)) 9 (nI q)))) rfl ?_ ?_
        · trivial
        have h0 : 0 < p + q := Nat.pos_of_ne_zero (fun z => c16 (by rw [hpq, z]; rfl))
        obtain ⟨t1, t2⟩ := hT h0
        have hsp := c_spd43 rfl hF
        have hc : (s_cnd (atC σ) tk A B T i j p q) = some ((T (i + p) (j + q)).1 + 1, (T (i + p) (j + q)).2.1 + s_spend (atC σ) F.2, nI p, nI q) := by
          unfold s_cnd
          rw [hg]
          dsimp only
          rw [if_neg (by rintro (z | z); omega; exact c27 (t1.trans z))]
        rw [hc]
        obtain ⟨a1, a2, a3, a4⟩ := hacc
        have hs : wS acc ((T (i + p) (j + q)).1 + 1, (T (i + p) (j + q)).2.1 + s_spend (atC σ) F.2, nI p, nI q) = ((T (i + p) (j + q)).1 + 1, (T (i + p) (j + q)).2.1 + s_spend (atC σ) F.2, nI p, nI q) := by unfold wS; rw [if_pos (Or.inl (a1.symm.trans c64))]
        refine ev_vret rfl rfl ⟨rfl, ?_, fun c hc => by simp only [List.mem_singleton] at hc; simp [x_up, hc]⟩
        show cV _ (wS acc _)
        rw [hs]
        refine ⟨?_, ?_, ?_, ?_⟩
        · simp [x_up, upd, t1]
        · simp [x_up, upd, t2, hsp]
        · simp [x_up, upd]
        · simp [x_up, upd]
      · refine ev_br 3 [] ((((σ 36) (11 * (i + p) + (j + q))) + (1 : Int32)) < (σ 34 6)) 94 76 ([some (.ref 34), some (.int (nI i)), some (.int (nI j)), some (.int (nI p)), some (.int (nI q)), some (.int (nI (11 * (i + p) + (j + q)))), some (.int (((σ 36) (11 * (i + p) + (j + q))) + (1 : Int32))), some (.int (((σ 37) (11 * (i + p) + (j + q))) + (x_mx 0 (σ 9 0 * σ 9 1 * σ 9 2 - σ 43 6))))], [], σ) rfl ?_ (fun c73 => ?_) (fun c73 => ?_)
        · trivial
        · refine ev_blk 12 [] 117 ([some (.ref 34), some (.int (nI i)), some (.int (nI j)), some (.int (nI p)), some (.int (nI q)), some (.int (nI (11 * (i + p) + (j + q)))), some (.int (((σ 36) (11 * (i + p) + (j + q))) + (1 : Int32))), some (.int (((σ 37) (11 * (i + p) + (j + q))) + (x_mx 0 (σ 9 0 * σ 9 1 * σ 9 2 - σ 43 6))))], [], (x_up (x_up (x_up (x_up σ 34 (upd (σ 34) 6 (((σ 36) (11 * (i + p) + (j + q))) + (1 : Int32)))) 34 (upd (upd (σ 34) 6 (((σ 36) (11 * (i + p) + (j + q))) + (1 : Int32))) 7 (((σ 37) (11 * (i + p) + (j + q))) + (x_mx 0 (σ 9 0 * σ 9 1 * σ 9 2 - σ 43 6))))) 34 (upd (upd (upd (σ 34) 6 (((σ 36) (11 * (i + p) + (j + q))) + (1 : Int32))) 7 (((σ 37) (11 * (i + p) + (j + q))) + (x_mx 0 (σ 9 0 * σ 9 1 * σ 9 2 - σ 43 6)))) 8 (nI p))) 34 (upd (upd (upd (upd (σ 34) 6 (((σ 36) (11 * (i + p) + (j + q))) + (1 : Int32))) 7 (((σ 37) (11 * (i + p) + (j + q))) + (x_mx 0 (σ 9 0 * σ 9 1 * σ 9 2 - σ 43 6)))) 8 (nI p)) 9 (nI q)))) rfl ?_ ?_
          · trivial
          have h0 : 0 < p + q := Nat.pos_of_ne_zero (fun z => c16 (by rw [hpq, z]; rfl))
          obtain ⟨t1, t2⟩ := hT h0
          have hsp := c_spd43 rfl hF
          have hc : (s_cnd (atC σ) tk A B T i j p q) = some ((T (i + p) (j + q)).1 + 1, (T (i + p) (j + q)).2.1 + s_spend (atC σ) F.2, nI p, nI q) := by
            unfold s_cnd
            rw [hg]
            dsimp only
            rw [if_neg (by rintro (z | z); omega; exact c27 (t1.trans z))]
          rw [hc]
          obtain ⟨a1, a2, a3, a4⟩ := hacc
          have hs : wS acc ((T (i + p) (j + q)).1 + 1, (T (i + p) (j + q)).2.1 + s_spend (atC σ) F.2, nI p, nI q) = ((T (i + p) (j + q)).1 + 1, (T (i + p) (j + q)).2.1 + s_spend (atC σ) F.2, nI p, nI q) := by unfold wS; rw [if_pos (Or.inr (Or.inl (by rw [← t1, ← a1]; exact c73)))]
          refine ev_vret rfl rfl ⟨rfl, ?_, fun c hc => by simp only [List.mem_singleton] at hc; simp [x_up, hc]⟩
          show cV _ (wS acc _)
          rw [hs]
          refine ⟨?_, ?_, ?_, ?_⟩
          · simp [x_up, upd, t1]
          · simp [x_up, upd, t2, hsp]
          · simp [x_up, upd]
          · simp [x_up, upd]
        · refine ev_br 3 [] (¬ (((σ 36) (11 * (i + p) + (j + q))) + (1 : Int32)) = (σ 34 6)) 117 85 ([some (.ref 34), some (.int (nI i)), some (.int (nI j)), some (.int (nI p)), some (.int (nI q)), some (.int (nI (11 * (i + p) + (j + q)))), some (.int (((σ 36) (11 * (i + p) + (j + q))) + (1 : Int32))), some (.int (((σ 37) (11 * (i + p) + (j + q))) + (x_mx 0 (σ 9 0 * σ 9 1 * σ 9 2 - σ 43 6))))], [], σ) rfl ?_ (fun c82 => ?_) (fun c82 => ?_)
          · trivial
          · have h0 : 0 < p + q := Nat.pos_of_ne_zero (fun z => c16 (by rw [hpq, z]; rfl))
            obtain ⟨t1, t2⟩ := hT h0
            have hsp := c_spd43 rfl hF
            have hc : (s_cnd (atC σ) tk A B T i j p q) = some ((T (i + p) (j + q)).1 + 1, (T (i + p) (j + q)).2.1 + s_spend (atC σ) F.2, nI p, nI q) := by
              unfold s_cnd
              rw [hg]
              dsimp only
              rw [if_neg (by rintro (z | z); omega; exact c27 (t1.trans z))]
            rw [hc]
            obtain ⟨a1, a2, a3, a4⟩ := hacc
            have hs : wS acc ((T (i + p) (j + q)).1 + 1, (T (i + p) (j + q)).2.1 + s_spend (atC σ) F.2, nI p, nI q) = acc := by unfold wS; rw [if_neg (by rintro (z | z | ⟨z1, z2⟩); exact c64 (a1.trans z); exact c73 (by rw [t1, a1]; exact z); exact c82 (by rw [t1, a1]; exact z1))]
            refine ev_vret rfl rfl ⟨rfl, ?_, xFr.rf⟩
            show cV σ (wS acc _)
            rw [hs]
            exact ⟨a1, a2, a3, a4⟩
          · refine ev_br 3 [] ((σ 34 7) < (((σ 37) (11 * (i + p) + (j + q))) + (x_mx 0 (σ 9 0 * σ 9 1 * σ 9 2 - σ 43 6)))) 117 94 ([some (.ref 34), some (.int (nI i)), some (.int (nI j)), some (.int (nI p)), some (.int (nI q)), some (.int (nI (11 * (i + p) + (j + q)))), some (.int (((σ 36) (11 * (i + p) + (j + q))) + (1 : Int32))), some (.int (((σ 37) (11 * (i + p) + (j + q))) + (x_mx 0 (σ 9 0 * σ 9 1 * σ 9 2 - σ 43 6))))], [], σ) rfl ?_ (fun c91 => ?_) (fun c91 => ?_)
            · trivial
            · have h0 : 0 < p + q := Nat.pos_of_ne_zero (fun z => c16 (by rw [hpq, z]; rfl))
              obtain ⟨t1, t2⟩ := hT h0
              have hsp := c_spd43 rfl hF
              have hc : (s_cnd (atC σ) tk A B T i j p q) = some ((T (i + p) (j + q)).1 + 1, (T (i + p) (j + q)).2.1 + s_spend (atC σ) F.2, nI p, nI q) := by
                unfold s_cnd
                rw [hg]
                dsimp only
                rw [if_neg (by rintro (z | z); omega; exact c27 (t1.trans z))]
              rw [hc]
              obtain ⟨a1, a2, a3, a4⟩ := hacc
              have hs : wS acc ((T (i + p) (j + q)).1 + 1, (T (i + p) (j + q)).2.1 + s_spend (atC σ) F.2, nI p, nI q) = acc := by unfold wS; rw [if_neg (by rintro (z | z | ⟨z1, z2⟩); exact c64 (a1.trans z); exact c73 (by rw [t1, a1]; exact z); exact absurd c91 (Int32.not_lt.mpr (by rw [t2, hsp, a2]; exact z2)))]
              refine ev_vret rfl rfl ⟨rfl, ?_, xFr.rf⟩
              show cV σ (wS acc _)
              rw [hs]
              exact ⟨a1, a2, a3, a4⟩
            · refine ev_blk 12 [] 117 ([some (.ref 34), some (.int (nI i)), some (.int (nI j)), some (.int (nI p)), some (.int (nI q)), some (.int (nI (11 * (i + p) + (j + q)))), some (.int (((σ 36) (11 * (i + p) + (j + q))) + (1 : Int32))), some (.int (((σ 37) (11 * (i + p) + (j + q))) + (x_mx 0 (σ 9 0 * σ 9 1 * σ 9 2 - σ 43 6))))], [], (x_up (x_up (x_up (x_up σ 34 (upd (σ 34) 6 (((σ 36) (11 * (i + p) + (j + q))) + (1 : Int32)))) 34 (upd (upd (σ 34) 6 (((σ 36) (11 * (i + p) + (j + q))) + (1 : Int32))) 7 (((σ 37) (11 * (i + p) + (j + q))) + (x_mx 0 (σ 9 0 * σ 9 1 * σ 9 2 - σ 43 6))))) 34 (upd (upd (upd (σ 34) 6 (((σ 36) (11 * (i + p) + (j + q))) + (1 : Int32))) 7 (((σ 37) (11 * (i + p) + (j + q))) + (x_mx 0 (σ 9 0 * σ 9 1 * σ 9 2 - σ 43 6)))) 8 (nI p))) 34 (upd (upd (upd (upd (σ 34) 6 (((σ 36) (11 * (i + p) + (j + q))) + (1 : Int32))) 7 (((σ 37) (11 * (i + p) + (j + q))) + (x_mx 0 (σ 9 0 * σ 9 1 * σ 9 2 - σ 43 6)))) 8 (nI p)) 9 (nI q)))) rfl ?_ ?_
              · trivial
              have h0 : 0 < p + q := Nat.pos_of_ne_zero (fun z => c16 (by rw [hpq, z]; rfl))
              obtain ⟨t1, t2⟩ := hT h0
              have hsp := c_spd43 rfl hF
              have hc : (s_cnd (atC σ) tk A B T i j p q) = some ((T (i + p) (j + q)).1 + 1, (T (i + p) (j + q)).2.1 + s_spend (atC σ) F.2, nI p, nI q) := by
                unfold s_cnd
                rw [hg]
                dsimp only
                rw [if_neg (by rintro (z | z); omega; exact c27 (t1.trans z))]
              rw [hc]
              obtain ⟨a1, a2, a3, a4⟩ := hacc
              have hs : wS acc ((T (i + p) (j + q)).1 + 1, (T (i + p) (j + q)).2.1 + s_spend (atC σ) F.2, nI p, nI q) = ((T (i + p) (j + q)).1 + 1, (T (i + p) (j + q)).2.1 + s_spend (atC σ) F.2, nI p, nI q) := by unfold wS; rw [if_pos (Or.inr (Or.inr ⟨by rw [← t1, ← a1]; exact Classical.byContradiction c82, by rw [← t2, ← hsp, ← a2]; exact Int32.not_lt.mp c91⟩))]
              refine ev_vret rfl rfl ⟨rfl, ?_, fun c hc => by simp only [List.mem_singleton] at hc; simp [x_up, hc]⟩
              show cV _ (wS acc _)
              rw [hs]
              refine ⟨?_, ?_, ?_, ?_⟩
              · simp [x_up, upd, t1]
              · simp [x_up, upd, t2, hsp]
              · simp [x_up, upd]
              · simp [x_up, upd]
    · rw [hkc] at c27
      have h0 : 0 < p + q := Nat.pos_of_ne_zero (fun z => c16 (by rw [hpq, z]; rfl))
      obtain ⟨t1, t2⟩ := hT h0
      have hc : (s_cnd (atC σ) tk A B T i j p q) = none := by
        unfold s_cnd
        rw [hg]
        dsimp only
        rw [if_pos (Or.inr (by rw [← t1]; exact Classical.byContradiction c27))]
      rw [hc]
      exact ev_vret rfl rfl ⟨rfl, hacc, xFr.rf⟩
