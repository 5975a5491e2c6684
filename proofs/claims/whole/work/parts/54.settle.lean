theorem take_snoc {L : List Nat} {k x : Nat} (h : L[k]? = some x) : L.take (k + 1) = L.take k ++ [x] := by
  rw [List.take_add_one, h]
  rfl
theorem s_gos_snoc {a : sAt} {F G : sFl} {L : List Nat} {k x : Nat} (h : s_gos a F (L.take k) = some G) (hx : L[k]? = some x) : s_gos a F (L.take (k + 1)) = s_in a x G := by
  rw [take_snoc hx, s_gos_some h]
  show (match s_in a x G with | none => none | some F' => s_gos a F' []) = _
  cases s_in a x G <;> rfl
theorem s_gos_stop {a : sAt} {F : sFl} {L : List Nat} {k k' : Nat} (h : s_gos a F (L.take k) = none) (hk : k ≤ k') : s_gos a F (L.take k') = none := by
  have e := List.take_append_drop k (L.take k')
  rw [List.take_take, Nat.min_eq_left hk] at e
  rw [← e]
  exact s_gos_none h
theorem dr_at {L : List Nat} {i k : Nat} : (L.drop i)[k]? = L[i + k]? := List.getElem?_drop
set_option maxRecDepth 100000 in
theorem c_settle_in {A B : List Nat} (σ : xSg) (n : Nat) (hok : aOk (atC σ) n) (hn : σ 1 0 = nI n) (h0 : σ 35 0 = nI A.length) (h1 : σ 35 1 = nI B.length) (hA : laneL n (σ 1 1) (σ 7) 0 = A) (hB : laneL n (σ 1 1) (σ 7) 1 = B) (i j : Nat) (hi : i ≤ A.length) (hj : j ≤ B.length) (T : sTb) (hT : ∀ p q, p ≤ A.length - i → q ≤ B.length - j → 0 < p + q → σ 36 (11 * (i + p) + (j + q)) = (T (i + p) (j + q)).1 ∧ σ 37 (11 * (i + p) + (j + q)) = (T (i + p) (j + q)).2.1) (Q : Option Value → xSg → Prop) (x3 : Int32) (V : sV) (p : Nat) (hp : p ≤ A.length - i) (Fp : sFl) (hgp : s_gos (atC σ) (tkC σ, []) ((A.drop i).take p) = some Fp) (kK : ∀ σ2 : xSg, cV σ2 V → FR (atC σ) σ2 38 39 40 41 42 Fp → xFr [34, 38, 39, 40, 41, 42, 43, 44, 45, 46, 47] σ σ2 → xEv (.inl 3) M_X1_settle Q 193 ([some (.ref 34), some (.int (nI i)), some (.int (nI j)), some (.int (x3)), some (.int (nI p)), none], [], σ2)) : ∀ (m q : Nat) (acc : sV) (G : sFl) (σ1 : xSg), q + m = B.length - j + 1 → cV σ1 acc → FR (atC σ) σ1 38 39 40 41 42 Fp → FR (atC σ) σ1 43 44 45 46 47 G → s_gos (atC σ) Fp ((B.drop j).take (q - 1)) = some G → xFr [34, 38, 39, 40, 41, 42, 43, 44, 45, 46, 47] σ σ1 → ((List.range' q m).map (s_cnd (atC σ) (tkC σ) A B T i j p)).foldl wO acc = V → xEv (.inl 3) M_X1_settle Q 132 ([some (.ref 34), some (.int (nI i)), some (.int (nI j)), some (.int (x3)), some (.int (nI p)), some (.int (nI q))], [], σ1) := by
  have hn10 := hok.1
  have hlen : A.length + B.length ≤ 10 := by rw [← hA, ← hB]; exact laneL_len
  have hAn : ∀ x ∈ A, x < n := fun x hx => (lnp_lt (by rw [← hA] at hx; exact hx)).1
  have hBn : ∀ x ∈ B, x < n := fun x hx => (lnp_lt (by rw [← hB] at hx; exact hx)).1
  intro m
  induction m with
  | zero =>
    intro q acc G σ1 hq hacc hF hG hgq hfr hV
    have at1 : atC σ1 = atC σ := by unfold atC; rw [hfr 2 (by decide), hfr 3 (by decide), hfr 4 (by decide), hfr 5 (by decide), hfr 6 (by decide), hfr 7 (by decide), hfr 9 (by decide)]
    have hn1 : σ1 1 0 = nI n := (congrFun (hfr 1 (by decide)) 0).trans hn
    have h35 : σ1 35 = σ 35 := hfr 35 (by decide)
    have hjq : (nI j) + (nI q) = nI (j + q) := nI_add j q
    refine ev_br 7 [vp_in ((1 : Int32)) 2] (((σ1 35) 1) < ((nI j) + (nI q))) 193 145 ([some (.ref 34), some (.int (nI i)), some (.int (nI j)), some (.int (x3)), some (.int (nI p)), some (.int (nI q))], [], σ1) rfl ?_ (fun c142 => ?_) (fun c142 => ?_)
    · exact vp_in_nI (n := 1) (by decide) (by decide)
    · refine ev_drop 5 ?_
      refine kK σ1 ?_ hF hfr
      rw [← hV]
      exact hacc
    · exact absurd (show σ1 35 1 < (nI j) + (nI q) by rw [h35, h1, hjq]; exact nI_lt (by omega) (by omega)) c142
  | succ m ih =>
    intro q acc G σ1 hq hacc hF hG hgq hfr hV
    have at1 : atC σ1 = atC σ := by unfold atC; rw [hfr 2 (by decide), hfr 3 (by decide), hfr 4 (by decide), hfr 5 (by decide), hfr 6 (by decide), hfr 7 (by decide), hfr 9 (by decide)]
    have hn1 : σ1 1 0 = nI n := (congrFun (hfr 1 (by decide)) 0).trans hn
    have h35 : σ1 35 = σ 35 := hfr 35 (by decide)
    have hjq : (nI j) + (nI q) = nI (j + q) := nI_add j q
    have at177 : ∀ (G2 : sFl) (σ2 : xSg), cV σ2 acc → FR (atC σ) σ2 38 39 40 41 42 Fp → FR (atC σ) σ2 43 44 45 46 47 G2 → s_gos (atC σ) Fp ((B.drop j).take q) = some G2 → xFr [34, 38, 39, 40, 41, 42, 43, 44, 45, 46, 47] σ σ2 → xEv (.inl 3) M_X1_settle Q 177 ([some (.ref 34), some (.int (nI i)), some (.int (nI j)), some (.int (x3)), some (.int (nI p)), some (.int (nI q))], [], σ2) := by
      intro G2 σ2 hacc hF hG hgq hfr
      clear at1 hn1 h35
      have at1 : atC σ2 = atC σ := by unfold atC; rw [hfr 2 (by decide), hfr 3 (by decide), hfr 4 (by decide), hfr 5 (by decide), hfr 6 (by decide), hfr 7 (by decide), hfr 9 (by decide)]
      have hn1 : σ2 1 0 = nI n := (congrFun (hfr 1 (by decide)) 0).trans hn
      have h35 : σ2 35 = σ 35 := hfr 35 (by decide)
      refine ev_blk 5 [] 184 ([some (.ref 34), some (.int (nI i)), some (.int (nI j)), some (.int (x3)), some (.int (nI p)), some (.int (nI q))], [.int (nI q), .int (nI p), .int (nI j), .int (nI i), .ref 34], σ2) rfl ?_ ?_
      · trivial
      refine ev_callV M_X1_weigh [.int (nI i), .int (nI j), .int (nI p), .int (nI q)] [] 34 rfl rfl ln_X1_75 k_X1_weigh rfl rfl rfl rfl rfl rfl (c_weigh σ2 (tkC σ) A B T i j p q (by omega) (by omega) G2 (by rw [at1, s_gos_some hgp]; exact hgq) (by rw [at1]; exact hG) (fun z => by rw [hfr 36 (by decide), hfr 37 (by decide)]; exact hT p q hp (by omega) z) acc hacc) ?_
      rintro r σ3 ⟨rfl, hc3, hf3⟩
      rw [at1] at hc3
      show xEv _ _ _ 187 ([some (.ref 34), some (.int (nI i)), some (.int (nI j)), some (.int (x3)), some (.int (nI p)), some (.int (nI q))], [], σ3)
      refine ev_blk 2 [] 132 ([some (.ref 34), some (.int (nI i)), some (.int (nI j)), some (.int (x3)), some (.int (nI p)), some (.int ((nI q) + (1 : Int32)))], [], σ3) rfl ?_ ?_
      · trivial
      rw [nI_1]
      refine ih (q + 1) _ G2 σ3 (by omega) hc3 (FR_fr hF (hf3 38 (by decide)) (hf3 39 (by decide)) (hf3 40 (by decide)) (hf3 41 (by decide)) (hf3 42 (by decide))) (FR_fr hG (hf3 43 (by decide)) (hf3 44 (by decide)) (hf3 45 (by decide)) (hf3 46 (by decide)) (hf3 47 (by decide))) hgq (hfr.tr (hf3.mono (fun c hc => by rw [List.mem_singleton] at hc; subst hc; decide))) ?_
      rw [← hV, List.range'_succ, List.map_cons, List.foldl_cons]
    refine ev_br 7 [vp_in ((1 : Int32)) 2] (((σ1 35) 1) < ((nI j) + (nI q))) 193 145 ([some (.ref 34), some (.int (nI i)), some (.int (nI j)), some (.int (x3)), some (.int (nI p)), some (.int (nI q))], [], σ1) rfl ?_ (fun c142 => ?_) (fun c142 => ?_)
    · exact vp_in_nI (n := 1) (by decide) (by decide)
    · exact absurd c142 (show ¬ σ1 35 1 < (nI j) + (nI q) by rw [h35, h1, hjq]; exact nI_nlt (by omega) (by omega))
    · refine ev_br 1 [] ((nI q) ≤ 0) 177 150 ([some (.ref 34), some (.int (nI i)), some (.int (nI j)), some (.int (x3)), some (.int (nI p)), some (.int (nI q))], [], σ1) rfl ?_ (fun c147 => ?_) (fun c147 => ?_)
      · trivial
      · have hq0 : q = 0 := by
          rcases Nat.eq_zero_or_pos q with z | z
          · exact z
          · exact absurd c147 (nI_nle z (by omega))
        refine at177 G σ1 hacc hF hG ?_ hfr
        rw [hq0] at hgq ⊢
        exact hgq
      · refine ev_blk 10 [] 165 ([some (.ref 34), some (.int (nI i)), some (.int (nI j)), some (.int (x3)), some (.int (nI p)), some (.int (nI q))], [.int (((nI j) + (nI q)) - (1 : Int32)), .int ((1 : Int32)), .ref 1, .ref 43], σ1) rfl ?_ ?_
        · trivial
        have hq0 : 0 < q := Nat.pos_of_ne_zero (fun z => c147 (by rw [z]; decide))
        obtain ⟨y, hy⟩ : ∃ y, B[j + q - 1]? = some y := ⟨_, List.getElem?_eq_getElem (by omega)⟩
        have hyn := hBn y (List.mem_of_getElem? hy)
        have har : ((nI j) + (nI q)) - (1 : Int32) = nI (j + q - 1) := by rw [nI_add]; exact i_sub (b := 1) (by omega)
        rw [har]
        refine ev_callV M_X3_waiter [.int ((1 : Int32)), .int (nI (j + q - 1))] [.ref 43] 1 rfl rfl ln_X1_63 k_X3_waiter rfl rfl rfl rfl rfl rfl (c_waiter σ1 n _ hn10 hn1 _) ?_
        refine pu_k ?_
        have hyv : s_nth ((List.range 10).filter (s_lnp n (σ1 1 1) (σ1 7) 1)) (nI (j + q - 1)) = nI y := by rw [hfr 1 (by decide), hfr 7 (by decide)]; rw [show (List.range 10).filter (s_lnp n (σ 1 1) (σ 7) 1) = B from hB]; exact s_nth_at _ _ _ hy (by omega)
        rw [hyv]
        show xEv _ _ _ 168 ([some (.ref 34), some (.int (nI i)), some (.int (nI j)), some (.int (x3)), some (.int (nI p)), some (.int (nI q))], [.int (nI y), .ref 43], σ1)
        have hyk : (B.drop j)[q - 1]? = some y := by rw [dr_at, ← hy]; congr 1; omega
        have hsn : s_gos (atC σ) Fp ((B.drop j).take q) = s_in (atC σ) y G := by have := s_gos_snoc hgq hyk; rwa [Nat.sub_add_cancel hq0] at this
        have hgl := s_gos_len hgq
        have hgl2 := s_gos_len hgp
        rw [List.length_take] at hgl hgl2
        simp only [List.length_nil] at hgl2
        refine ev_callV M_X2_enter [.int (nI y)] [] 43 rfl rfl ln_X1_67 k_X2_enter rfl rfl rfl rfl rfl rfl (c_enter43 σ1 n y G (by rw [at1]; exact hok) hn1 hyn (by rw [at1]; exact hG) (by omega)) ?_
        rw [at1]
        rintro r σ2 (⟨G2, hG2, rfl, hFG, hf2⟩ | ⟨hN, rfl, e2⟩)
        · show xEv _ _ _ 171 ([some (.ref 34), some (.int (nI i)), some (.int (nI j)), some (.int (x3)), some (.int (nI p)), some (.int (nI q))], [.int ((1 : Int32))], σ2)
          refine ev_br 0 [] (¬ (1 : Int32) = 0) 177 174 ([some (.ref 34), some (.int (nI i)), some (.int (nI j)), some (.int (x3)), some (.int (nI p)), some (.int (nI q))], [], σ2) rfl ?_ (fun c171 => ?_) (fun c171 => ?_)
          · trivial
          · exact at177 G2 σ2 (cV_fr hacc (hf2 34 (by decide))) (FR_fr hF (hf2 38 (by decide)) (hf2 39 (by decide)) (hf2 40 (by decide)) (hf2 41 (by decide)) (hf2 42 (by decide))) hFG (hsn.trans hG2) (hfr.tr (hf2.mono (fun c hc => by simp only [List.mem_cons, List.not_mem_nil, or_false] at hc; rcases hc with rfl | rfl | rfl | rfl | rfl <;> decide)))
          · exact absurd (by decide) c171
        · rw [e2]
          show xEv _ _ _ 171 ([some (.ref 34), some (.int (nI i)), some (.int (nI j)), some (.int (x3)), some (.int (nI p)), some (.int (nI q))], [.int ((0 : Int32))], σ1)
          refine ev_br 0 [] (¬ (0 : Int32) = 0) 177 174 ([some (.ref 34), some (.int (nI i)), some (.int (nI j)), some (.int (x3)), some (.int (nI p)), some (.int (nI q))], [], σ1) rfl ?_ (fun c171 => ?_) (fun c171 => ?_)
          · trivial
          · exact absurd c171 (by decide)
          · refine ev_blk 1 [] 193 ([some (.ref 34), some (.int (nI i)), some (.int (nI j)), some (.int (x3)), some (.int (nI p)), some (.int (nI q))], [], σ1) rfl ?_ ?_
            · trivial
            refine ev_drop 5 ?_
            refine kK σ1 ?_ hF hfr
            rw [← hV, wO_none]
            · exact hacc
            · intro o ho
              obtain ⟨q2, hq2, rfl⟩ := List.mem_map.mp ho
              have hle := (List.mem_range'_1.mp hq2).1
              unfold s_cnd
              rw [s_gos_some hgp, s_gos_stop (hsn.trans hN) hle]
set_option maxRecDepth 100000 in
theorem c_settle_lp {A B : List Nat} (σ : xSg) (n : Nat) (hok : aOk (atC σ) n) (hn : σ 1 0 = nI n) (h0 : σ 35 0 = nI A.length) (h1 : σ 35 1 = nI B.length) (hA : laneL n (σ 1 1) (σ 7) 0 = A) (hB : laneL n (σ 1 1) (σ 7) 1 = B) (i j : Nat) (hi : i ≤ A.length) (hj : j ≤ B.length) (T : sTb) (hT : ∀ p q, p ≤ A.length - i → q ≤ B.length - j → 0 < p + q → σ 36 (11 * (i + p) + (j + q)) = (T (i + p) (j + q)).1 ∧ σ 37 (11 * (i + p) + (j + q)) = (T (i + p) (j + q)).2.1) (Q : Option Value → xSg → Prop) (x3 : Int32) (V : sV) (kE : ∀ σ2 : xSg, cV σ2 V → xFr [34, 38, 39, 40, 41, 42, 43, 44, 45, 46, 47] σ σ2 → xEv (.inl 3) M_X1_settle Q 199 ([some (.ref 34), some (.int (nI i)), some (.int (nI j)), some (.int (x3)), none, none], [], σ2)) : ∀ (m p : Nat) (acc : sV) (Fp : sFl) (σ1 : xSg), p + m = A.length - i + 1 → cV σ1 acc → FR (atC σ) σ1 38 39 40 41 42 Fp → s_gos (atC σ) (tkC σ, []) ((A.drop i).take (p - 1)) = some Fp → xFr [34, 38, 39, 40, 41, 42, 43, 44, 45, 46, 47] σ σ1 → ((List.range' p m).flatMap (s_row (atC σ) (tkC σ) A B T i j)).foldl wO acc = V → xEv (.inl 3) M_X1_settle Q 73 ([some (.ref 34), some (.int (nI i)), some (.int (nI j)), some (.int (x3)), some (.int (nI p)), none], [], σ1) := by
  have hn10 := hok.1
  have hlen : A.length + B.length ≤ 10 := by rw [← hA, ← hB]; exact laneL_len
  have hAn : ∀ x ∈ A, x < n := fun x hx => (lnp_lt (by rw [← hA] at hx; exact hx)).1
  have hBn : ∀ x ∈ B, x < n := fun x hx => (lnp_lt (by rw [← hB] at hx; exact hx)).1
  intro m
  induction m with
  | zero =>
    intro p acc Fp σ1 hp hacc hF hgp hfr hV
    have at1 : atC σ1 = atC σ := by unfold atC; rw [hfr 2 (by decide), hfr 3 (by decide), hfr 4 (by decide), hfr 5 (by decide), hfr 6 (by decide), hfr 7 (by decide), hfr 9 (by decide)]
    have hn1 : σ1 1 0 = nI n := (congrFun (hfr 1 (by decide)) 0).trans hn
    have h35 : σ1 35 = σ 35 := hfr 35 (by decide)
    have hip : (nI i) + (nI p) = nI (i + p) := nI_add i p
    refine ev_br 7 [vp_in ((0 : Int32)) 2] (((σ1 35) 0) < ((nI i) + (nI p))) 199 86 ([some (.ref 34), some (.int (nI i)), some (.int (nI j)), some (.int (x3)), some (.int (nI p)), none], [], σ1) rfl ?_ (fun c83 => ?_) (fun c83 => ?_)
    · exact vp_in_nI (n := 0) (by decide) (by decide)
    · refine ev_drop 4 ?_
      refine kE σ1 ?_ hfr
      rw [← hV]
      exact hacc
    · exact absurd (show σ1 35 0 < (nI i) + (nI p) by rw [h35, h0, hip]; exact nI_lt (by omega) (by omega)) c83
  | succ m ih =>
    intro p acc Fp σ1 hp hacc hF hgp hfr hV
    have at1 : atC σ1 = atC σ := by unfold atC; rw [hfr 2 (by decide), hfr 3 (by decide), hfr 4 (by decide), hfr 5 (by decide), hfr 6 (by decide), hfr 7 (by decide), hfr 9 (by decide)]
    have hn1 : σ1 1 0 = nI n := (congrFun (hfr 1 (by decide)) 0).trans hn
    have h35 : σ1 35 = σ 35 := hfr 35 (by decide)
    have hip : (nI i) + (nI p) = nI (i + p) := nI_add i p
    have at118 : ∀ (G2 : sFl) (σ2 : xSg), cV σ2 acc → FR (atC σ) σ2 38 39 40 41 42 G2 → s_gos (atC σ) (tkC σ, []) ((A.drop i).take p) = some G2 → xFr [34, 38, 39, 40, 41, 42, 43, 44, 45, 46, 47] σ σ2 → xEv (.inl 3) M_X1_settle Q 118 ([some (.ref 34), some (.int (nI i)), some (.int (nI j)), some (.int (x3)), some (.int (nI p)), none], [], σ2) := by
      intro G2 σ2 hacc hF hgp hfr
      clear at1 hn1 h35
      refine ev_blk 4 [] 126 ([some (.ref 34), some (.int (nI i)), some (.int (nI j)), some (.int (x3)), some (.int (nI p)), none], [.ref 38, .ref 43], σ2) rfl ?_ ?_
      · trivial
      refine ev_callV M_X2_become [.ref 38] [] 43 rfl rfl ln_X1_71 k_X2_become rfl rfl rfl rfl rfl rfl (c_become43 σ2 (atC σ) G2 hF) ?_
      rintro r σ3 ⟨rfl, hG3, hf3⟩
      show xEv _ _ _ 129 ([some (.ref 34), some (.int (nI i)), some (.int (nI j)), some (.int (x3)), some (.int (nI p)), none], [], σ3)
      refine ev_blk 2 [] 132 ([some (.ref 34), some (.int (nI i)), some (.int (nI j)), some (.int (x3)), some (.int (nI p)), some (.int ((0 : Int32)))], [], σ3) rfl ?_ ?_
      · trivial
      refine c_settle_in σ n hok hn h0 h1 hA hB i j hi hj T hT _ x3 _ p (by omega) G2 hgp (fun σ4 hc4 hF4 hf4 => ?_) (B.length - j + 1) 0 acc G2 σ3 (by omega) (cV_fr hacc (hf3 34 (by decide))) (FR_fr hF (hf3 38 (by decide)) (hf3 39 (by decide)) (hf3 40 (by decide)) (hf3 41 (by decide)) (hf3 42 (by decide))) hG3 rfl (hfr.tr (hf3.mono (fun c hc => by simp only [List.mem_cons, List.not_mem_nil, or_false] at hc; rcases hc with rfl | rfl | rfl | rfl | rfl <;> decide))) rfl
      refine ev_blk 2 [] 73 ([some (.ref 34), some (.int (nI i)), some (.int (nI j)), some (.int (x3)), some (.int ((nI p) + (1 : Int32))), none], [], σ4) rfl ?_ ?_
      · trivial
      rw [nI_1]
      refine ih (p + 1) _ G2 σ4 (by omega) hc4 hF4 hgp hf4 ?_
      rw [← hV, show List.range' p (m + 1) = p :: List.range' (p + 1) m from rfl, List.flatMap_cons, List.foldl_append]
      rfl
    refine ev_br 7 [vp_in ((0 : Int32)) 2] (((σ1 35) 0) < ((nI i) + (nI p))) 199 86 ([some (.ref 34), some (.int (nI i)), some (.int (nI j)), some (.int (x3)), some (.int (nI p)), none], [], σ1) rfl ?_ (fun c83 => ?_) (fun c83 => ?_)
    · exact vp_in_nI (n := 0) (by decide) (by decide)
    · exact absurd c83 (show ¬ σ1 35 0 < (nI i) + (nI p) by rw [h35, h0, hip]; exact nI_nlt (by omega) (by omega))
    · refine ev_br 1 [] ((nI p) ≤ 0) 118 91 ([some (.ref 34), some (.int (nI i)), some (.int (nI j)), some (.int (x3)), some (.int (nI p)), none], [], σ1) rfl ?_ (fun c88 => ?_) (fun c88 => ?_)
      · trivial
      · have hp0 : p = 0 := by
          rcases Nat.eq_zero_or_pos p with z | z
          · exact z
          · exact absurd c88 (nI_nle z (by omega))
        refine at118 Fp σ1 hacc hF ?_ hfr
        rw [hp0] at hgp ⊢
        exact hgp
      · refine ev_blk 10 [] 106 ([some (.ref 34), some (.int (nI i)), some (.int (nI j)), some (.int (x3)), some (.int (nI p)), none], [.int (((nI i) + (nI p)) - (1 : Int32)), .int ((0 : Int32)), .ref 1, .ref 38], σ1) rfl ?_ ?_
        · trivial
        have hp0 : 0 < p := Nat.pos_of_ne_zero (fun z => c88 (by rw [z]; decide))
        obtain ⟨y, hy⟩ : ∃ y, A[i + p - 1]? = some y := ⟨_, List.getElem?_eq_getElem (by omega)⟩
        have hyn := hAn y (List.mem_of_getElem? hy)
        have har : ((nI i) + (nI p)) - (1 : Int32) = nI (i + p - 1) := by rw [nI_add]; exact i_sub (b := 1) (by omega)
        rw [har]
        refine ev_callV M_X3_waiter [.int ((0 : Int32)), .int (nI (i + p - 1))] [.ref 38] 1 rfl rfl ln_X1_63 k_X3_waiter rfl rfl rfl rfl rfl rfl (c_waiter σ1 n _ hn10 hn1 _) ?_
        refine pu_k ?_
        have hyv : s_nth ((List.range 10).filter (s_lnp n (σ1 1 1) (σ1 7) 0)) (nI (i + p - 1)) = nI y := by rw [hfr 1 (by decide), hfr 7 (by decide)]; rw [show (List.range 10).filter (s_lnp n (σ 1 1) (σ 7) 0) = A from hA]; exact s_nth_at _ _ _ hy (by omega)
        rw [hyv]
        show xEv _ _ _ 109 ([some (.ref 34), some (.int (nI i)), some (.int (nI j)), some (.int (x3)), some (.int (nI p)), none], [.int (nI y), .ref 38], σ1)
        have hyk : (A.drop i)[p - 1]? = some y := by rw [dr_at, ← hy]; congr 1; omega
        have hsn : s_gos (atC σ) (tkC σ, []) ((A.drop i).take p) = s_in (atC σ) y Fp := by have := s_gos_snoc hgp hyk; rwa [Nat.sub_add_cancel hp0] at this
        have hgl := s_gos_len hgp
        rw [List.length_take] at hgl
        simp only [List.length_nil] at hgl
        refine ev_callV M_X2_enter [.int (nI y)] [] 38 rfl rfl ln_X1_67 k_X2_enter rfl rfl rfl rfl rfl rfl (c_enter38 σ1 n y Fp (by rw [at1]; exact hok) hn1 hyn (by rw [at1]; exact hF) (by omega)) ?_
        rw [at1]
        rintro r σ2 (⟨G2, hG2, rfl, hFG, hf2⟩ | ⟨hN, rfl, e2⟩)
        · show xEv _ _ _ 112 ([some (.ref 34), some (.int (nI i)), some (.int (nI j)), some (.int (x3)), some (.int (nI p)), none], [.int ((1 : Int32))], σ2)
          refine ev_br 0 [] (¬ (1 : Int32) = 0) 118 115 ([some (.ref 34), some (.int (nI i)), some (.int (nI j)), some (.int (x3)), some (.int (nI p)), none], [], σ2) rfl ?_ (fun c112 => ?_) (fun c112 => ?_)
          · trivial
          · exact at118 G2 σ2 (cV_fr hacc (hf2 34 (by decide))) hFG (hsn.trans hG2) (hfr.tr (hf2.mono (fun c hc => by simp only [List.mem_cons, List.not_mem_nil, or_false] at hc; rcases hc with rfl | rfl | rfl | rfl | rfl <;> decide)))
          · exact absurd (by decide) c112
        · rw [e2]
          show xEv _ _ _ 112 ([some (.ref 34), some (.int (nI i)), some (.int (nI j)), some (.int (x3)), some (.int (nI p)), none], [.int ((0 : Int32))], σ1)
          refine ev_br 0 [] (¬ (0 : Int32) = 0) 118 115 ([some (.ref 34), some (.int (nI i)), some (.int (nI j)), some (.int (x3)), some (.int (nI p)), none], [], σ1) rfl ?_ (fun c112 => ?_) (fun c112 => ?_)
          · trivial
          · exact absurd c112 (by decide)
          · refine ev_blk 1 [] 199 ([some (.ref 34), some (.int (nI i)), some (.int (nI j)), some (.int (x3)), some (.int (nI p)), none], [], σ1) rfl ?_ ?_
            · trivial
            refine ev_drop 4 ?_
            refine kE σ1 ?_ hfr
            rw [← hV, wO_none]
            · exact hacc
            · intro o ho
              obtain ⟨p2, hp2, ho⟩ := List.mem_flatMap.mp ho
              obtain ⟨q2, hq2, rfl⟩ := List.mem_map.mp ho
              have hle := (List.mem_range'_1.mp hp2).1
              unfold s_cnd
              rw [s_gos_none (s_gos_stop (hsn.trans hN) hle)]
set_option maxRecDepth 100000 in
theorem c_settle {A B : List Nat} (σ : xSg) (n : Nat) (hok : aOk (atC σ) n) (hn : σ 1 0 = nI n) (h0 : σ 35 0 = nI A.length) (h1 : σ 35 1 = nI B.length) (hA : laneL n (σ 1 1) (σ 7) 0 = A) (hB : laneL n (σ 1 1) (σ 7) 1 = B) (i j : Nat) (hi : i ≤ A.length) (hj : j ≤ B.length) (T : sTb) (hT : ∀ p q, p ≤ A.length - i → q ≤ B.length - j → 0 < p + q → σ 36 (11 * (i + p) + (j + q)) = (T (i + p) (j + q)).1 ∧ σ 37 (11 * (i + p) + (j + q)) = (T (i + p) (j + q)).2.1) : xCtr M_X1_settle [.ref 34, .int (nI i), .int (nI j)] σ (fun r σ' => r = none ∧ cV σ' ((s_cl (atC σ) (tkC σ) A B T i j).foldl wO (s_ini A B i j)) ∧ σ' 36 = upd (σ 36) (11 * i + j) ((s_cl (atC σ) (tkC σ) A B T i j).foldl wO (s_ini A B i j)).1 ∧ σ' 37 = upd (σ 37) (11 * i + j) ((s_cl (atC σ) (tkC σ) A B T i j).foldl wO (s_ini A B i j)).2.1 ∧ xFr [34, 36, 37, 38, 39, 40, 41, 42, 43, 44, 45, 46, 47] σ σ') := by
  refine ctr_ev ok_X1_settle (by decide +kernel) rfl rfl rfl ?_
  show xEv (.inl 3) M_X1_settle _ 0 ([some (.ref 34), some (.int (nI i)), some (.int (nI j)), none, none, none], [], σ)
  have hn10 := hok.1
  have hlen : A.length + B.length ≤ 10 := by rw [← hA, ← hB]; exact laneL_len
  have hAn : ∀ x ∈ A, x < n := fun x hx => (lnp_lt (by rw [← hA] at hx; exact hx)).1
  have hBn : ∀ x ∈ B, x < n := fun x hx => (lnp_lt (by rw [← hB] at hx; exact hx)).1
  refine ev_br 5 [vp_in ((0 : Int32)) 2] (¬ (nI i) = ((σ 35) 0)) 24 10 ([some (.ref 34), some (.int (nI i)), some (.int (nI j)), none, none, none], [], σ) rfl ?_ (fun c7 => ?_) (fun c7 => ?_)
  · exact (vp_in_nI (n := 0) (by decide) (by decide))
  · refine ev_br 4 [] ((0 : Int32) = 0) 35 31 ([some (.ref 34), some (.int (nI i)), some (.int (nI j)), some (.int ((0 : Int32))), none, none], [.ref 34], σ) rfl ?_ (fun c28 => ?_) (fun c28 => ?_)
    · trivial
    · refine ev_blk 16 [] 67 ([some (.ref 34), some (.int (nI i)), some (.int (nI j)), some (.int ((0 : Int32))), none, none], [.ref 38], (x_up (x_up (x_up (x_up σ 34 (upd (σ 34) 6 ((-1 : Int32)))) 34 (upd (upd (σ 34) 6 ((-1 : Int32))) 7 ((-1 : Int32)))) 34 (upd (upd (upd (σ 34) 6 ((-1 : Int32))) 7 ((-1 : Int32))) 8 ((-1 : Int32)))) 34 (upd (upd (upd (upd (σ 34) 6 ((-1 : Int32))) 7 ((-1 : Int32))) 8 ((-1 : Int32))) 9 ((-1 : Int32))))) rfl ?_ ?_
      · trivial
      have hini : s_ini A B i j = (-1, -1, -1, -1) := by
        unfold s_ini
        rw [if_neg (fun q => c7 (by rw [h0, q.1]))]
      refine ev_callV M_X2_begin [] [] 38 rfl rfl ln_X1_60 k_X2_begin rfl rfl rfl rfl rfl rfl (c_begin38 _) ?_
      rintro r σ1 ⟨rfl, hF, hf1⟩
      have hc1 : cV σ1 (s_ini A B i j) := by rw [hini]; unfold cV; rw [hf1 34 (by decide)]; simp [x_up, upd]
      have hfr : xFr [34, 38, 39, 40, 41, 42, 43, 44, 45, 46, 47] σ σ1 := fun c hc => (hf1 c (fun z => hc (by revert z; simp only [List.mem_cons, List.not_mem_nil, or_false]; rintro (rfl | rfl | rfl | rfl | rfl) <;> decide))).trans (by have h34 : c ≠ 34 := fun z => hc (by rw [z]; decide); simp [x_up, h34])
      have hF1 : FR (atC σ) σ1 38 39 40 41 42 (tkC σ, []) := hF
      show xEv _ _ _ 70 ([some (.ref 34), some (.int (nI i)), some (.int (nI j)), some (.int ((0 : Int32))), none, none], [], σ1)
      refine ev_blk 2 [] 73 ([some (.ref 34), some (.int (nI i)), some (.int (nI j)), some (.int ((0 : Int32))), some (.int ((0 : Int32))), none], [], σ1) rfl ?_ ?_
      · trivial
      refine c_settle_lp σ n hok hn h0 h1 hA hB i j hi hj T hT _ (0 : Int32) _ (fun σ2 hc2 hf2 => ?_) (A.length - i + 1) 0 _ (tkC σ, []) σ1 (by omega) hc1 hF1 rfl hfr rfl
      have hkc : (nI (11 * i + j)).toNatClampNeg = 11 * i + j := nI_clamp (by omega)
      have hin : vp_in (nI (11 * i + j)) 121 := vp_in_nI (by omega) (by decide)
      refine ev_blk 2 [] 201 ([some (.ref 34), some (.int (nI i)), some (.int (nI j)), some (.int ((0 : Int32))), none, none], [.int (nI j), .int (nI i)], σ2) rfl ?_ ?_
      · trivial
      refine ev_callS M_X1_stateOf [.int (nI i), .int (nI j)] [] rfl rfl ln_X1_79 k_X1_stateOf rfl rfl rfl (c_stateOf _ _ _) ?_
      refine pu_k ?_
      rw [nI_11]
      show xEv _ _ _ 204 ([some (.ref 34), some (.int (nI i)), some (.int (nI j)), some (.int ((0 : Int32))), none, none], [.int (nI (11 * i + j))], σ2)
      refine ev_blk 13 [vp_in (nI (11 * i + j)) 121, vp_in (nI (11 * i + j)) 121] 228 ([some (.ref 34), some (.int (nI i)), some (.int (nI j)), some (.int ((0 : Int32))), some (.int (nI (11 * i + j))), none], [], (x_up (x_up σ2 36 (upd (σ2 36) (nI (11 * i + j)).toNatClampNeg ((σ2 34 6)))) 37 (upd (σ2 37) (nI (11 * i + j)).toNatClampNeg ((σ2 34 7))))) rfl ?_ ?_
      · exact ⟨hin, hin⟩
      rw [hkc]
      have e36 : σ2 36 = σ 36 := hf2 36 (by decide)
      have e37 : σ2 37 = σ 37 := hf2 37 (by decide)
      refine ev_vret rfl rfl ⟨rfl, cV_fr hc2 (by simp [x_up]), ?_, ?_, fun c hc => ?_⟩
      · simp [x_up, e36, hc2.1, s_cl]
      · simp [x_up, e37, hc2.2.1, s_cl]
      · have hc2b : c ∉ [34, 38, 39, 40, 41, 42, 43, 44, 45, 46, 47] := fun z => hc (by revert z; simp only [List.mem_cons, List.not_mem_nil, or_false]; omega)
        have h36 : c ≠ 36 := fun z => hc (by rw [z]; decide)
        have h37 : c ≠ 37 := fun z => hc (by rw [z]; decide)
        simp only [x_up, if_neg h36, if_neg h37]
        exact hf2 c hc2b
    · exact absurd (by decide) c28
  · refine ev_br 5 [vp_in ((1 : Int32)) 2] (¬ (nI j) = ((σ 35) 1)) 24 20 ([some (.ref 34), some (.int (nI i)), some (.int (nI j)), none, none, none], [], σ) rfl ?_ (fun c17 => ?_) (fun c17 => ?_)
    · exact (vp_in_nI (n := 1) (by decide) (by decide))
    · refine ev_br 4 [] ((0 : Int32) = 0) 35 31 ([some (.ref 34), some (.int (nI i)), some (.int (nI j)), some (.int ((0 : Int32))), none, none], [.ref 34], σ) rfl ?_ (fun c28 => ?_) (fun c28 => ?_)
      · trivial
      · refine ev_blk 16 [] 67 ([some (.ref 34), some (.int (nI i)), some (.int (nI j)), some (.int ((0 : Int32))), none, none], [.ref 38], (x_up (x_up (x_up (x_up σ 34 (upd (σ 34) 6 ((-1 : Int32)))) 34 (upd (upd (σ 34) 6 ((-1 : Int32))) 7 ((-1 : Int32)))) 34 (upd (upd (upd (σ 34) 6 ((-1 : Int32))) 7 ((-1 : Int32))) 8 ((-1 : Int32)))) 34 (upd (upd (upd (upd (σ 34) 6 ((-1 : Int32))) 7 ((-1 : Int32))) 8 ((-1 : Int32))) 9 ((-1 : Int32))))) rfl ?_ ?_
        · trivial
        have hini : s_ini A B i j = (-1, -1, -1, -1) := by
          unfold s_ini
          rw [if_neg (fun q => c17 (by rw [h1, q.2]))]
        refine ev_callV M_X2_begin [] [] 38 rfl rfl ln_X1_60 k_X2_begin rfl rfl rfl rfl rfl rfl (c_begin38 _) ?_
        rintro r σ1 ⟨rfl, hF, hf1⟩
        have hc1 : cV σ1 (s_ini A B i j) := by rw [hini]; unfold cV; rw [hf1 34 (by decide)]; simp [x_up, upd]
        have hfr : xFr [34, 38, 39, 40, 41, 42, 43, 44, 45, 46, 47] σ σ1 := fun c hc => (hf1 c (fun z => hc (by revert z; simp only [List.mem_cons, List.not_mem_nil, or_false]; rintro (rfl | rfl | rfl | rfl | rfl) <;> decide))).trans (by have h34 : c ≠ 34 := fun z => hc (by rw [z]; decide); simp [x_up, h34])
        have hF1 : FR (atC σ) σ1 38 39 40 41 42 (tkC σ, []) := hF
        show xEv _ _ _ 70 ([some (.ref 34), some (.int (nI i)), some (.int (nI j)), some (.int ((0 : Int32))), none, none], [], σ1)
        refine ev_blk 2 [] 73 ([some (.ref 34), some (.int (nI i)), some (.int (nI j)), some (.int ((0 : Int32))), some (.int ((0 : Int32))), none], [], σ1) rfl ?_ ?_
        · trivial
        refine c_settle_lp σ n hok hn h0 h1 hA hB i j hi hj T hT _ (0 : Int32) _ (fun σ2 hc2 hf2 => ?_) (A.length - i + 1) 0 _ (tkC σ, []) σ1 (by omega) hc1 hF1 rfl hfr rfl
        have hkc : (nI (11 * i + j)).toNatClampNeg = 11 * i + j := nI_clamp (by omega)
        have hin : vp_in (nI (11 * i + j)) 121 := vp_in_nI (by omega) (by decide)
        refine ev_blk 2 [] 201 ([some (.ref 34), some (.int (nI i)), some (.int (nI j)), some (.int ((0 : Int32))), none, none], [.int (nI j), .int (nI i)], σ2) rfl ?_ ?_
        · trivial
        refine ev_callS M_X1_stateOf [.int (nI i), .int (nI j)] [] rfl rfl ln_X1_79 k_X1_stateOf rfl rfl rfl (c_stateOf _ _ _) ?_
        refine pu_k ?_
        rw [nI_11]
        show xEv _ _ _ 204 ([some (.ref 34), some (.int (nI i)), some (.int (nI j)), some (.int ((0 : Int32))), none, none], [.int (nI (11 * i + j))], σ2)
        refine ev_blk 13 [vp_in (nI (11 * i + j)) 121, vp_in (nI (11 * i + j)) 121] 228 ([some (.ref 34), some (.int (nI i)), some (.int (nI j)), some (.int ((0 : Int32))), some (.int (nI (11 * i + j))), none], [], (x_up (x_up σ2 36 (upd (σ2 36) (nI (11 * i + j)).toNatClampNeg ((σ2 34 6)))) 37 (upd (σ2 37) (nI (11 * i + j)).toNatClampNeg ((σ2 34 7))))) rfl ?_ ?_
        · exact ⟨hin, hin⟩
        rw [hkc]
        have e36 : σ2 36 = σ 36 := hf2 36 (by decide)
        have e37 : σ2 37 = σ 37 := hf2 37 (by decide)
        refine ev_vret rfl rfl ⟨rfl, cV_fr hc2 (by simp [x_up]), ?_, ?_, fun c hc => ?_⟩
        · simp [x_up, e36, hc2.1, s_cl]
        · simp [x_up, e37, hc2.2.1, s_cl]
        · have hc2b : c ∉ [34, 38, 39, 40, 41, 42, 43, 44, 45, 46, 47] := fun z => hc (by revert z; simp only [List.mem_cons, List.not_mem_nil, or_false]; omega)
          have h36 : c ≠ 36 := fun z => hc (by rw [z]; decide)
          have h37 : c ≠ 37 := fun z => hc (by rw [z]; decide)
          simp only [x_up, if_neg h36, if_neg h37]
          exact hf2 c hc2b
      · exact absurd (by decide) c28
    · refine ev_br 5 [] ((1 : Int32) = 0) 35 31 ([some (.ref 34), some (.int (nI i)), some (.int (nI j)), some (.int ((1 : Int32))), none, none], [.ref 34], σ) rfl ?_ (fun c28 => ?_) (fun c28 => ?_)
      · trivial
      · exact absurd c28 (by decide)
      · refine ev_blk 17 [] 67 ([some (.ref 34), some (.int (nI i)), some (.int (nI j)), some (.int ((1 : Int32))), none, none], [.ref 38], (x_up (x_up (x_up (x_up σ 34 (upd (σ 34) 6 ((0 : Int32)))) 34 (upd (upd (σ 34) 6 ((0 : Int32))) 7 ((0 : Int32)))) 34 (upd (upd (upd (σ 34) 6 ((0 : Int32))) 7 ((0 : Int32))) 8 ((0 : Int32)))) 34 (upd (upd (upd (upd (σ 34) 6 ((0 : Int32))) 7 ((0 : Int32))) 8 ((0 : Int32))) 9 ((0 : Int32))))) rfl ?_ ?_
        · trivial
        have hini : s_ini A B i j = (0, 0, 0, 0) := by
          unfold s_ini
          rw [if_pos ⟨(nI_eq (by omega) (by omega)).mp ((Classical.byContradiction c7).trans h0), (nI_eq (by omega) (by omega)).mp ((Classical.byContradiction c17).trans h1)⟩]
        refine ev_callV M_X2_begin [] [] 38 rfl rfl ln_X1_60 k_X2_begin rfl rfl rfl rfl rfl rfl (c_begin38 _) ?_
        rintro r σ1 ⟨rfl, hF, hf1⟩
        have hc1 : cV σ1 (s_ini A B i j) := by rw [hini]; unfold cV; rw [hf1 34 (by decide)]; simp [x_up, upd]
        have hfr : xFr [34, 38, 39, 40, 41, 42, 43, 44, 45, 46, 47] σ σ1 := fun c hc => (hf1 c (fun z => hc (by revert z; simp only [List.mem_cons, List.not_mem_nil, or_false]; rintro (rfl | rfl | rfl | rfl | rfl) <;> decide))).trans (by have h34 : c ≠ 34 := fun z => hc (by rw [z]; decide); simp [x_up, h34])
        have hF1 : FR (atC σ) σ1 38 39 40 41 42 (tkC σ, []) := hF
        show xEv _ _ _ 70 ([some (.ref 34), some (.int (nI i)), some (.int (nI j)), some (.int ((1 : Int32))), none, none], [], σ1)
        refine ev_blk 2 [] 73 ([some (.ref 34), some (.int (nI i)), some (.int (nI j)), some (.int ((1 : Int32))), some (.int ((0 : Int32))), none], [], σ1) rfl ?_ ?_
        · trivial
        refine c_settle_lp σ n hok hn h0 h1 hA hB i j hi hj T hT _ (1 : Int32) _ (fun σ2 hc2 hf2 => ?_) (A.length - i + 1) 0 _ (tkC σ, []) σ1 (by omega) hc1 hF1 rfl hfr rfl
        have hkc : (nI (11 * i + j)).toNatClampNeg = 11 * i + j := nI_clamp (by omega)
        have hin : vp_in (nI (11 * i + j)) 121 := vp_in_nI (by omega) (by decide)
        refine ev_blk 2 [] 201 ([some (.ref 34), some (.int (nI i)), some (.int (nI j)), some (.int ((1 : Int32))), none, none], [.int (nI j), .int (nI i)], σ2) rfl ?_ ?_
        · trivial
        refine ev_callS M_X1_stateOf [.int (nI i), .int (nI j)] [] rfl rfl ln_X1_79 k_X1_stateOf rfl rfl rfl (c_stateOf _ _ _) ?_
        refine pu_k ?_
        rw [nI_11]
        show xEv _ _ _ 204 ([some (.ref 34), some (.int (nI i)), some (.int (nI j)), some (.int ((1 : Int32))), none, none], [.int (nI (11 * i + j))], σ2)
        refine ev_blk 13 [vp_in (nI (11 * i + j)) 121, vp_in (nI (11 * i + j)) 121] 228 ([some (.ref 34), some (.int (nI i)), some (.int (nI j)), some (.int ((1 : Int32))), some (.int (nI (11 * i + j))), none], [], (x_up (x_up σ2 36 (upd (σ2 36) (nI (11 * i + j)).toNatClampNeg ((σ2 34 6)))) 37 (upd (σ2 37) (nI (11 * i + j)).toNatClampNeg ((σ2 34 7))))) rfl ?_ ?_
        · exact ⟨hin, hin⟩
        rw [hkc]
        have e36 : σ2 36 = σ 36 := hf2 36 (by decide)
        have e37 : σ2 37 = σ 37 := hf2 37 (by decide)
        refine ev_vret rfl rfl ⟨rfl, cV_fr hc2 (by simp [x_up]), ?_, ?_, fun c hc => ?_⟩
        · simp [x_up, e36, hc2.1, s_cl]
        · simp [x_up, e37, hc2.2.1, s_cl]
        · have hc2b : c ∉ [34, 38, 39, 40, 41, 42, 43, 44, 45, 46, 47] := fun z => hc (by revert z; simp only [List.mem_cons, List.not_mem_nil, or_false]; omega)
          have h36 : c ≠ 36 := fun z => hc (by rw [z]; decide)
          have h37 : c ≠ 37 := fun z => hc (by rw [z]; decide)
          simp only [x_up, if_neg h36, if_neg h37]
          exact hf2 c hc2b
