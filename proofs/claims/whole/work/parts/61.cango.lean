theorem s_gos_in {a : sAt} : ∀ {l : List Nat} {F G : sFl}, s_gos a F l = some G → ∀ q ∈ G.2, q ∈ F.2 ∨ q.1 ∈ l
  | [], F, G, h, q, hq => by cases h; exact Or.inl hq
  | x :: l, F, G, h, q, hq => by
    unfold s_gos at h
    split at h
    · cases h
    next F' e =>
      obtain ⟨r, p, e2⟩ := s_in_w e
      rcases s_gos_in h q hq with z | z
      · rw [e2] at z
        rcases List.mem_append.mp z with z | z
        · exact Or.inl z
        · rw [List.mem_singleton.mp z]
          exact Or.inr List.mem_cons_self
      · exact Or.inr (List.mem_cons_of_mem _ z)
def cgQ (σ : xSg) (X : Option sFl) (k : Nat) : Option Value → xSg → Prop := fun r σ' => xFm [76, 77, 78, 79] [23] σ σ' ∧ ((∃ F, X = some F ∧ r = some (.int (zi (0 < k))) ∧ MR σ' F) ∨ (X = none ∧ r = some (.int 0)))
set_option maxRecDepth 100000 in
theorem m_canGo_b (σ : xSg) (n : Nat) (A B : List Nat) (hM : mOk σ n A B) (hL : LR σ A B) (i p j q : Nat) (hip : i + p ≤ A.length) (hjq : j + q ≤ B.length) (Fp : sFl) (hgp : s_gos (atM σ) (tkM σ, []) ((A.drop i).take p) = some Fp) : ∀ (m k : Nat) (F : sFl) (σ1 : xSg), k + m = q → MR σ1 F → s_gos (atM σ) Fp ((B.drop j).take k) = some F → xFm [76, 77, 78, 79] [23] σ σ1 → xEv (.inl 3) M_X6_canGo (cgQ σ (s_gos (atM σ) (tkM σ, []) ((A.drop i).take p ++ (B.drop j).take q)) (p + q)) 40 ([some (.ref 57), some (.int (nI i)), some (.int (nI p)), some (.int (nI j)), some (.int (nI q)), some (.int (nI k))], [], σ1) := by
  have hn10 := hM.1.1
  have hlen := hM.2.2.2.2.1
  have hAn := hM.2.2.1
  have hBn := hM.2.2.2.1
  intro m
  induction m with
  | zero =>
    intro k F σ1 hk hF hg hfr
    refine ev_br 2 [] ((nI q) ≤ (nI k)) 74 47 ([some (.ref 57), some (.int (nI i)), some (.int (nI p)), some (.int (nI j)), some (.int (nI q)), some (.int (nI k))], [], σ1) rfl ?_ (fun c44 => ?_) (fun c44 => ?_)
    · trivial
    · refine ev_br 3 [] (((nI p) + (nI q)) ≤ 0) 85 81 ([some (.ref 57), some (.int (nI i)), some (.int (nI p)), some (.int (nI j)), some (.int (nI q)), some (.int (nI k))], [], σ1) rfl ?_ (fun c78 => ?_) (fun c78 => ?_)
      · trivial
      · refine ev_blk 1 [] 86 ([some (.ref 57), some (.int (nI i)), some (.int (nI p)), some (.int (nI j)), some (.int (nI q)), some (.int (nI k))], [.int ((0 : Int32))], σ1) rfl ?_ ?_
        · trivial
        have e : k = q := by omega
        subst e
        have hX : (s_gos (atM σ) (tkM σ, []) ((A.drop i).take p ++ (B.drop j).take k)) = some F := by rw [s_gos_some hgp]; exact hg
        have h0 : ¬ 0 < p + k := fun z => absurd c78 (by rw [nI_add]; exact nI_nle z (by omega))
        exact ev_iret rfl rfl nar0 ⟨hfr, Or.inl ⟨F, hX, by rw [zi_f h0], hF⟩⟩
      · refine ev_blk 2 [] 86 ([some (.ref 57), some (.int (nI i)), some (.int (nI p)), some (.int (nI j)), some (.int (nI q)), some (.int (nI k))], [.int ((1 : Int32))], σ1) rfl ?_ ?_
        · trivial
        have e : k = q := by omega
        subst e
        have hX : (s_gos (atM σ) (tkM σ, []) ((A.drop i).take p ++ (B.drop j).take k)) = some F := by rw [s_gos_some hgp]; exact hg
        have h0 : 0 < p + k := by
          rcases Nat.eq_zero_or_pos (p + k) with z | z
          · rw [nI_add, z] at c78; exact absurd (by decide) c78
          · exact z
        exact ev_iret rfl rfl nar1 ⟨hfr, Or.inl ⟨F, hX, by rw [zi_t h0], hF⟩⟩
    · exact absurd (show nI q ≤ nI k from nI_le (by omega) (by omega)) c44
  | succ m ih =>
    intro k F σ1 hk hF hg hfr
    have ha1 : atM σ1 = atM σ := atM_fr hfr rfl
    obtain ⟨x, hx⟩ : ∃ x, B[j + k]? = some x := ⟨_, List.getElem?_eq_getElem (by omega)⟩
    have hxn := hBn x (List.mem_of_getElem? hx)
    have hix : ((10 : Int32) + (nI j)) + (nI k) = nI (10 + (j + k)) := by rw [show (10 : Int32) = nI 10 from rfl, nI_add, nI_add, Nat.add_assoc]
    have hxc : (((10 : Int32) + (nI j)) + (nI k)).toNatClampNeg = 10 + (j + k) := by rw [hix, nI_clamp (by omega)]
    have hxv : (σ1 66) (10 + (j + k)) = nI x := by rw [hfr.1 66 (by decide) (by decide)]; exact hL.2.2.2.1 _ _ hx
    have hgl := s_gos_len hg
    have hgl2 := s_gos_len hgp
    rw [List.length_take] at hgl hgl2
    simp only [List.length_nil] at hgl2
    have hFn : ∀ z ∈ F.2, z.1 < n := fun z hz => by
      rcases s_gos_in hg z hz with w | w
      · rcases s_gos_in hgp z w with u | u
        · simp at u
        · exact hAn _ (List.mem_of_mem_drop (List.mem_of_mem_take u))
      · exact hBn _ (List.mem_of_mem_drop (List.mem_of_mem_take w))
    have hsn := s_gos_snoc hg (show (B.drop j)[k]? = some x by rw [dr_at]; exact hx)
    refine ev_br 2 [] ((nI q) ≤ (nI k)) 74 47 ([some (.ref 57), some (.int (nI i)), some (.int (nI p)), some (.int (nI j)), some (.int (nI q)), some (.int (nI k))], [], σ1) rfl ?_ (fun c44 => ?_) (fun c44 => ?_)
    · trivial
    · exact absurd c44 (nI_ge (by omega) (by omega))
    · refine ev_blk 9 [vp_in (((10 : Int32) + (nI j)) + (nI k)) 20] 60 ([some (.ref 57), some (.int (nI i)), some (.int (nI p)), some (.int (nI j)), some (.int (nI q)), some (.int (nI k))], [.int ((σ1 66) (((10 : Int32) + (nI j)) + (nI k)).toNatClampNeg), .ref 57], σ1) rfl ?_ ?_
      · rw [hix]; exact vp_in_nI (by omega) (by decide)
      rw [hxc]
      rw [hxv]
      refine ev_callV M_X6_goesIn [.int (nI x)] [] 57 rfl rfl ln_X6_162 k_X6_goesIn rfl rfl rfl rfl rfl rfl (m_goesIn σ1 x F n (by rw [ha1]; exact hM.1) hxn hF (by omega) hFn) ?_
      rw [ha1]
      rintro r σ2 (⟨F2, hF2, rfl, hM2, hf2⟩ | ⟨hN, rfl, e2⟩)
      · show xEv _ _ _ 63 ([some (.ref 57), some (.int (nI i)), some (.int (nI p)), some (.int (nI j)), some (.int (nI q)), some (.int (nI k))], [.int ((1 : Int32))], σ2)
        refine ev_br 0 [] (¬ (1 : Int32) = 0) 68 66 ([some (.ref 57), some (.int (nI i)), some (.int (nI p)), some (.int (nI j)), some (.int (nI q)), some (.int (nI k))], [], σ2) rfl ?_ (fun c63 => ?_) (fun c63 => ?_)
        · trivial
        · refine ev_blk 2 [] 40 ([some (.ref 57), some (.int (nI i)), some (.int (nI p)), some (.int (nI j)), some (.int (nI q)), some (.int ((nI k) + (1 : Int32)))], [], σ2) rfl ?_ ?_
          · trivial
          rw [nI_1]
          exact ih (k + 1) F2 σ2 (by omega) hM2 (hsn.trans hF2) (hfr.tr hf2)
        · exact absurd (by decide) c63
      · rw [e2]
        show xEv _ _ _ 63 ([some (.ref 57), some (.int (nI i)), some (.int (nI p)), some (.int (nI j)), some (.int (nI q)), some (.int (nI k))], [.int ((0 : Int32))], σ1)
        refine ev_br 0 [] (¬ (0 : Int32) = 0) 68 66 ([some (.ref 57), some (.int (nI i)), some (.int (nI p)), some (.int (nI j)), some (.int (nI q)), some (.int (nI k))], [], σ1) rfl ?_ (fun c63 => ?_) (fun c63 => ?_)
        · trivial
        · exact absurd c63 (by decide)
        · refine ev_blk 1 [] 67 ([some (.ref 57), some (.int (nI i)), some (.int (nI p)), some (.int (nI j)), some (.int (nI q)), some (.int (nI k))], [.int ((0 : Int32))], σ1) rfl ?_ ?_
          · trivial
          exact ev_iret rfl rfl nar0 ⟨hfr, Or.inr ⟨by rw [s_gos_some hgp]; exact s_gos_stop (hsn.trans hN) (by omega), rfl⟩⟩
set_option maxRecDepth 100000 in
theorem m_canGo_a (σ : xSg) (n : Nat) (A B : List Nat) (hM : mOk σ n A B) (hL : LR σ A B) (i p j q : Nat) (hip : i + p ≤ A.length) (hjq : j + q ≤ B.length) : ∀ (m k : Nat) (F : sFl) (σ1 : xSg), k + m = p → MR σ1 F → s_gos (atM σ) (tkM σ, []) ((A.drop i).take k) = some F → xFm [76, 77, 78, 79] [23] σ σ1 → xEv (.inl 3) M_X6_canGo (cgQ σ (s_gos (atM σ) (tkM σ, []) ((A.drop i).take p ++ (B.drop j).take q)) (p + q)) 7 ([some (.ref 57), some (.int (nI i)), some (.int (nI p)), some (.int (nI j)), some (.int (nI q)), some (.int (nI k))], [], σ1) := by
  have hn10 := hM.1.1
  have hlen := hM.2.2.2.2.1
  have hAn := hM.2.2.1
  have hBn := hM.2.2.2.1
  intro m
  induction m with
  | zero =>
    intro k F σ1 hk hF hg hfr
    refine ev_br 2 [] ((nI p) ≤ (nI k)) 37 13 ([some (.ref 57), some (.int (nI i)), some (.int (nI p)), some (.int (nI j)), some (.int (nI q)), some (.int (nI k))], [], σ1) rfl ?_ (fun c10 => ?_) (fun c10 => ?_)
    · trivial
    · refine ev_blk 2 [] 40 ([some (.ref 57), some (.int (nI i)), some (.int (nI p)), some (.int (nI j)), some (.int (nI q)), some (.int ((0 : Int32)))], [], σ1) rfl ?_ ?_
      · trivial
      have e : k = p := by omega
      subst e
      exact m_canGo_b σ n A B hM hL i k j q hip hjq F hg q 0 F σ1 (by omega) hF rfl hfr
    · exact absurd (show nI p ≤ nI k from nI_le (by omega) (by omega)) c10
  | succ m ih =>
    intro k F σ1 hk hF hg hfr
    have ha1 : atM σ1 = atM σ := atM_fr hfr rfl
    obtain ⟨x, hx⟩ : ∃ x, A[i + k]? = some x := ⟨_, List.getElem?_eq_getElem (by omega)⟩
    have hxn := hAn x (List.mem_of_getElem? hx)
    have hix : (nI i) + (nI k) = nI (i + k) := nI_add i k
    have hxc : ((nI i) + (nI k)).toNatClampNeg = i + k := by rw [hix, nI_clamp (by omega)]
    have hxv : (σ1 66) (i + k) = nI x := by rw [hfr.1 66 (by decide) (by decide)]; exact hL.2.2.1 _ _ hx
    have hgl := s_gos_len hg
    rw [List.length_take] at hgl
    simp only [List.length_nil] at hgl
    have hFn : ∀ z ∈ F.2, z.1 < n := fun z hz => by
      rcases s_gos_in hg z hz with w | w
      · simp at w
      · exact hAn _ (List.mem_of_mem_drop (List.mem_of_mem_take w))
    have hsn := s_gos_snoc hg (show (A.drop i)[k]? = some x by rw [dr_at]; exact hx)
    refine ev_br 2 [] ((nI p) ≤ (nI k)) 37 13 ([some (.ref 57), some (.int (nI i)), some (.int (nI p)), some (.int (nI j)), some (.int (nI q)), some (.int (nI k))], [], σ1) rfl ?_ (fun c10 => ?_) (fun c10 => ?_)
    · trivial
    · exact absurd c10 (nI_ge (by omega) (by omega))
    · refine ev_blk 7 [vp_in ((nI i) + (nI k)) 20] 23 ([some (.ref 57), some (.int (nI i)), some (.int (nI p)), some (.int (nI j)), some (.int (nI q)), some (.int (nI k))], [.int ((σ1 66) ((nI i) + (nI k)).toNatClampNeg), .ref 57], σ1) rfl ?_ ?_
      · rw [hix]; exact vp_in_nI (by omega) (by decide)
      rw [hxc]
      rw [hxv]
      refine ev_callV M_X6_goesIn [.int (nI x)] [] 57 rfl rfl ln_X6_162 k_X6_goesIn rfl rfl rfl rfl rfl rfl (m_goesIn σ1 x F n (by rw [ha1]; exact hM.1) hxn hF (by omega) hFn) ?_
      rw [ha1]
      rintro r σ2 (⟨F2, hF2, rfl, hM2, hf2⟩ | ⟨hN, rfl, e2⟩)
      · show xEv _ _ _ 26 ([some (.ref 57), some (.int (nI i)), some (.int (nI p)), some (.int (nI j)), some (.int (nI q)), some (.int (nI k))], [.int ((1 : Int32))], σ2)
        refine ev_br 0 [] (¬ (1 : Int32) = 0) 31 29 ([some (.ref 57), some (.int (nI i)), some (.int (nI p)), some (.int (nI j)), some (.int (nI q)), some (.int (nI k))], [], σ2) rfl ?_ (fun c26 => ?_) (fun c26 => ?_)
        · trivial
        · refine ev_blk 2 [] 7 ([some (.ref 57), some (.int (nI i)), some (.int (nI p)), some (.int (nI j)), some (.int (nI q)), some (.int ((nI k) + (1 : Int32)))], [], σ2) rfl ?_ ?_
          · trivial
          rw [nI_1]
          exact ih (k + 1) F2 σ2 (by omega) hM2 (hsn.trans hF2) (hfr.tr hf2)
        · exact absurd (by decide) c26
      · rw [e2]
        show xEv _ _ _ 26 ([some (.ref 57), some (.int (nI i)), some (.int (nI p)), some (.int (nI j)), some (.int (nI q)), some (.int (nI k))], [.int ((0 : Int32))], σ1)
        refine ev_br 0 [] (¬ (0 : Int32) = 0) 31 29 ([some (.ref 57), some (.int (nI i)), some (.int (nI p)), some (.int (nI j)), some (.int (nI q)), some (.int (nI k))], [], σ1) rfl ?_ (fun c26 => ?_) (fun c26 => ?_)
        · trivial
        · exact absurd c26 (by decide)
        · refine ev_blk 1 [] 30 ([some (.ref 57), some (.int (nI i)), some (.int (nI p)), some (.int (nI j)), some (.int (nI q)), some (.int (nI k))], [.int ((0 : Int32))], σ1) rfl ?_ ?_
          · trivial
          exact ev_iret rfl rfl nar0 ⟨hfr, Or.inr ⟨s_gos_none (s_gos_stop (hsn.trans hN) (by omega)), rfl⟩⟩
set_option maxRecDepth 100000 in
theorem m_canGo (σ : xSg) (n : Nat) (A B : List Nat) (hM : mOk σ n A B) (hL : LR σ A B) (i p j q : Nat) (hip : i + p ≤ A.length) (hjq : j + q ≤ B.length) : xCtr M_X6_canGo [.ref 57, .int (nI i), .int (nI p), .int (nI j), .int (nI q)] σ (cgQ σ (s_gos (atM σ) (tkM σ, []) ((A.drop i).take p ++ (B.drop j).take q)) (p + q)) := by
  refine ctr_ev ok_X6_canGo (by decide +kernel) rfl rfl rfl ?_
  show xEv (.inl 3) M_X6_canGo _ 0 ([some (.ref 57), some (.int (nI i)), some (.int (nI p)), some (.int (nI j)), some (.int (nI q)), none], [], σ)
  refine ev_blk 1 [] 1 ([some (.ref 57), some (.int (nI i)), some (.int (nI p)), some (.int (nI j)), some (.int (nI q)), none], [.ref 57], σ) rfl ?_ ?_
  · trivial
  refine ev_callV M_X6_empties [] [] 57 rfl rfl ln_X6_156 k_X6_empties rfl rfl rfl rfl rfl rfl (m_empties σ hM.2.1) ?_
  rintro r σ1 ⟨rfl, hF, hf1⟩
  show xEv _ _ _ 4 ([some (.ref 57), some (.int (nI i)), some (.int (nI p)), some (.int (nI j)), some (.int (nI q)), none], [], σ1)
  refine ev_blk 2 [] 7 ([some (.ref 57), some (.int (nI i)), some (.int (nI p)), some (.int (nI j)), some (.int (nI q)), some (.int ((0 : Int32)))], [], σ1) rfl ?_ ?_
  · trivial
  exact m_canGo_a σ n A B hM hL i p j q hip hjq p 0 (tkM σ, []) σ1 (by omega) hF rfl (hf1.mono rfl rfl)
