theorem nI_oi {u : Nat} (h : u < 2 ^ 31) : ¬ s_oi (some u) = -1 := nI_m1 h
set_option maxRecDepth 100000 in
theorem m_gat0_in (σ : xSg) (L : List Nat) (bg : Nat → Option Nat) (t : Nat) (ht : t < 2 ^ 31) (hl10 : L.length ≤ 10) (hL : ∀ x ∈ L, x < 10) (h66 : ∀ (i x : Nat), L[i]? = some x → σ 66 (i) = nI x) (h67 : σ 67 0 = nI L.length) (h80 : ∀ x ∈ L, σ 80 x = s_oi (bg x)) (pr : Nat → Bool) (hpr : ∀ x ∈ L, pr x = ((bg x).isNone && decide (σ 62 x ≤ nI t))) (Q : Option Value → xSg → Prop) (k x : Nat) (hx : L[k]? = some x) (hp : pr x = true) (kK : ∀ g2 : Nat → Int32, rowL g2 0 (s_srt (kI (σ 62)) ((L.take (k + 1)).filter pr)) → (∀ j, (j < 0 ∨ 10 ≤ j) → g2 j = σ 74 j) → xEv (.inl 0) M_X6_gathers Q 5 ([some (.ref 57), some (.int ((0 : Int32))), some (.int (nI t)), some (.int (nI ((s_srt (kI (σ 62)) ((L.take k).filter pr)).length + 1))), some (.int (nI (k + 1))), none, none], [], (x_up σ 74 g2))) : ∀ (i : Nat) (g : Nat → Int32), i ≤ (s_srt (kI (σ 62)) ((L.take k).filter pr)).length → insR g 0 (s_srt (kI (σ 62)) ((L.take k).filter pr)) i → (∀ y ∈ (s_srt (kI (σ 62)) ((L.take k).filter pr)).drop i, kI (σ 62) x < kI (σ 62) y) → (∀ j, (j < 0 ∨ 10 ≤ j) → g j = σ 74 j) → xEv (.inl 0) M_X6_gathers Q 58 ([some (.ref 57), some (.int ((0 : Int32))), some (.int (nI t)), some (.int (nI (s_srt (kI (σ 62)) ((L.take k).filter pr)).length)), some (.int (nI k)), some (.int (nI x)), some (.int (nI i))], [], (x_up σ 74 g)) := by
  have hPl : (s_srt (kI (σ 62)) ((L.take k).filter pr)).length ≤ k := by rw [s_srt_len]; have := List.length_filter_le pr (L.take k); rw [List.length_take] at this; omega
  have hkl : k < L.length := (List.getElem?_eq_some_iff.mp hx).1
  have hx10 : x < 10 := hL x (List.mem_of_getElem? hx)
  have hxc : (nI x).toNatClampNeg = x := nI_clamp (by omega)
  have hnx : s_srt (kI (σ 62)) ((L.take (k + 1)).filter pr) = s_ins (kI (σ 62)) x (s_srt (kI (σ 62)) ((L.take k).filter pr)) := by rw [take_snoc hx, List.filter_append, show [x].filter pr = [x] from by simp [hp], s_srt_snoc]
  have hPm : ∀ y ∈ (s_srt (kI (σ 62)) ((L.take k).filter pr)), y < 10 := fun y hy => hL y (List.mem_of_mem_take (List.mem_filter.mp (s_srt_mem.mp hy)).1)
  have fin : ∀ (i : Nat) (g : Nat → Int32), i ≤ (s_srt (kI (σ 62)) ((L.take k).filter pr)).length → insR g 0 (s_srt (kI (σ 62)) ((L.take k).filter pr)) i → (∀ y ∈ (s_srt (kI (σ 62)) ((L.take k).filter pr)).drop i, kI (σ 62) x < kI (σ 62) y) → (∀ y ∈ (s_srt (kI (σ 62)) ((L.take k).filter pr)).take i, kI (σ 62) y ≤ kI (σ 62) x) → (∀ j, (j < 0 ∨ 10 ≤ j) → g j = σ 74 j) → xEv (.inl 0) M_X6_gathers Q 124 ([some (.ref 57), some (.int ((0 : Int32))), some (.int (nI t)), some (.int (nI (s_srt (kI (σ 62)) ((L.take k).filter pr)).length)), some (.int (nI k)), some (.int (nI x)), some (.int (nI i))], [], (x_up σ 74 g)) := by
    intro i g hi hR hd ht2 ho
    have hix : (0 : Int32) + (nI i) = nI (0 + i) := by rw [show (0 : Int32) = nI 0 from rfl, nI_add]
    have hic : ((0 : Int32) + (nI i)).toNatClampNeg = 0 + i := by rw [hix, nI_clamp (by omega)]
    refine ev_blk 12 [vp_in ((0 : Int32) + (nI i)) 20] 5 ([some (.ref 57), some (.int ((0 : Int32))), some (.int (nI t)), some (.int ((nI (s_srt (kI (σ 62)) ((L.take k).filter pr)).length) + (1 : Int32))), some (.int ((nI k) + (1 : Int32))), some (.int (nI x)), some (.int (nI i))], [], (x_up (x_up σ 74 g) 74 (upd g ((0 : Int32) + (nI i)).toNatClampNeg (nI x)))) rfl ?_ ?_
    · rw [hix]; exact vp_in_nI (by omega) (by decide)
    rw [hic]
    rw [nI_1, nI_1, x_up_up]
    refine ev_drop 5 ?_
    refine ev_drop 6 ?_
    refine kK _ ?_ (fun j hj => by rw [upd_ne (by omega)]; exact ho j hj)
    rw [hnx, s_ins_split hd ht2]
    exact insR_end (x := x) hR hi
  intro i
  induction i with
  | zero =>
    intro g hi hR hd ho
    refine ev_br 1 [] ((nI 0) ≤ 0) 124 63 ([some (.ref 57), some (.int ((0 : Int32))), some (.int (nI t)), some (.int (nI (s_srt (kI (σ 62)) ((L.take k).filter pr)).length)), some (.int (nI k)), some (.int (nI x)), some (.int (nI 0))], [], (x_up σ 74 g)) rfl ?_ (fun c60 => ?_) (fun c60 => ?_)
    · trivial
    · exact fin 0 g hi hR hd (by simp) ho
    · exact absurd (by decide) c60
  | succ a ih =>
    intro g hi hR hd ho
    have hi1 : (0 : Int32) + (nI (a + 1)) = nI (0 + (a + 1)) := by rw [show (0 : Int32) = nI 0 from rfl, nI_add]
    have hi2 : ((0 : Int32) + (nI (a + 1))) - (1 : Int32) = nI (0 + a) := by rw [hi1, show 0 + (a + 1) = (0 + a) + 1 by omega]; exact i_m1 (by omega)
    have hc1 : ((0 : Int32) + (nI (a + 1))).toNatClampNeg = 0 + (a + 1) := by rw [hi1, nI_clamp (by omega)]
    have hc2 : (((0 : Int32) + (nI (a + 1))) - (1 : Int32)).toNatClampNeg = 0 + a := by rw [hi2, nI_clamp (by omega)]
    obtain ⟨y, hy⟩ : ∃ y, (s_srt (kI (σ 62)) ((L.take k).filter pr))[a]? = some y := ⟨_, List.getElem?_eq_getElem (by omega)⟩
    have hy10 : y < 10 := hPm y (List.mem_of_getElem? hy)
    have hgy : g (0 + a) = nI y := hR.1 a y hy (by omega)
    have hgs : g (((0 : Int32) + (nI (a + 1))) - (1 : Int32)).toNatClampNeg = nI y := by rw [hc2]; exact hgy
    have hyc : (g (((0 : Int32) + (nI (a + 1))) - (1 : Int32)).toNatClampNeg).toNatClampNeg = y := by rw [hgs, nI_clamp (by omega)]
    refine ev_br 1 [] ((nI (a + 1)) ≤ 0) 124 63 ([some (.ref 57), some (.int ((0 : Int32))), some (.int (nI t)), some (.int (nI (s_srt (kI (σ 62)) ((L.take k).filter pr)).length)), some (.int (nI k)), some (.int (nI x)), some (.int (nI (a + 1)))], [], (x_up σ 74 g)) rfl ?_ (fun c60 => ?_) (fun c60 => ?_)
    · trivial
    · exact absurd c60 (nI_nle (by omega) (by omega))
    · refine ev_br 17 [vp_in (((0 : Int32) + (nI (a + 1))) - (1 : Int32)) 20, vp_in (g (((0 : Int32) + (nI (a + 1))) - (1 : Int32)).toNatClampNeg) 10, vp_in (nI x) 10] (((σ 62) (g (((0 : Int32) + (nI (a + 1))) - (1 : Int32)).toNatClampNeg).toNatClampNeg) ≤ ((σ 62) (nI x).toNatClampNeg)) 124 92 ([some (.ref 57), some (.int ((0 : Int32))), some (.int (nI t)), some (.int (nI (s_srt (kI (σ 62)) ((L.take k).filter pr)).length)), some (.int (nI k)), some (.int (nI x)), some (.int (nI (a + 1)))], [], (x_up σ 74 g)) rfl ?_ (fun c89 => ?_) (fun c89 => ?_)
      · exact ⟨(by rw [hi2]; exact vp_in_nI (by omega) (by decide)), (by rw [hgs]; exact vp_in_nI hy10 (by decide)), (vp_in_nI hx10 (by decide))⟩
      · rw [hyc] at c89
        rw [hxc] at c89
        refine fin (a + 1) g hi hR hd (fun z hz => ?_) ho
        exact Int.le_trans (Sd_take s_srt_sd hy z hz) (Int32.le_iff_toInt_le.mp c89)
      · rw [hyc] at c89
        rw [hxc] at c89
        refine ev_blk 20 [vp_in (((0 : Int32) + (nI (a + 1))) - (1 : Int32)) 20, vp_in ((0 : Int32) + (nI (a + 1))) 20] 58 ([some (.ref 57), some (.int ((0 : Int32))), some (.int (nI t)), some (.int (nI (s_srt (kI (σ 62)) ((L.take k).filter pr)).length)), some (.int (nI k)), some (.int (nI x)), some (.int ((nI (a + 1)) + (-1 : Int32)))], [], (x_up (x_up σ 74 g) 74 (upd g ((0 : Int32) + (nI (a + 1))).toNatClampNeg (g (((0 : Int32) + (nI (a + 1))) - (1 : Int32)).toNatClampNeg)))) rfl ?_ ?_
        · exact ⟨(by rw [hi2]; exact vp_in_nI (by omega) (by decide)), (by rw [hi1]; exact vp_in_nI (by omega) (by decide))⟩
        rw [hc2]
        rw [hc1]
        rw [i_p1m (by omega), x_up_up]
        refine ih _ (by omega) (insR_stp hR) (drop_gt hd hy (Int32.lt_iff_toInt_lt.mp (Int32.not_le.mp c89))) (fun j hj => by rw [upd_ne (by omega)]; exact ho j hj)
set_option maxRecDepth 100000 in
theorem m_gat0_lp (σ : xSg) (L : List Nat) (bg : Nat → Option Nat) (t : Nat) (ht : t < 2 ^ 31) (hl10 : L.length ≤ 10) (hL : ∀ x ∈ L, x < 10) (h66 : ∀ (i x : Nat), L[i]? = some x → σ 66 (i) = nI x) (h67 : σ 67 0 = nI L.length) (h80 : ∀ x ∈ L, σ 80 x = s_oi (bg x)) (pr : Nat → Bool) (hpr : ∀ x ∈ L, pr x = ((bg x).isNone && decide (σ 62 x ≤ nI t))) (hbt : ∀ x u, bg x = some u → u < 2 ^ 31) : ∀ (m k : Nat) (g : Nat → Int32), k + m = L.length → rowL g 0 (s_srt (kI (σ 62)) ((L.take k).filter pr)) → (∀ j, (j < 0 ∨ 10 ≤ j) → g j = σ 74 j) → xEv (.inl 0) M_X6_gathers (fun r σ' => r = none ∧ rowL (σ' 74) 0 (s_srt (kI (σ 62)) (L.filter pr)) ∧ (∀ j, (j < 0 ∨ 10 ≤ j) → σ' 74 j = σ 74 j) ∧ σ' 75 = upd (σ 75) 0 (nI (s_srt (kI (σ 62)) (L.filter pr)).length) ∧ xFm [74, 75] [] σ σ') 5 ([some (.ref 57), some (.int ((0 : Int32))), some (.int (nI t)), some (.int (nI (s_srt (kI (σ 62)) ((L.take k).filter pr)).length)), some (.int (nI k)), none, none], [], (x_up σ 74 g)) := by
  intro m
  induction m with
  | zero =>
    intro k g hk hg ho
    refine ev_br 5 [vp_in ((0 : Int32)) 2] (((σ 67) 0) ≤ (nI k)) 147 16 ([some (.ref 57), some (.int ((0 : Int32))), some (.int (nI t)), some (.int (nI (s_srt (kI (σ 62)) ((L.take k).filter pr)).length)), some (.int (nI k)), none, none], [], (x_up σ 74 g)) rfl ?_ (fun c13 => ?_) (fun c13 => ?_)
    · exact vp_in_nI (n := 0) (by decide) (by decide)
    · refine ev_blk 5 [vp_in ((0 : Int32)) 2] 154 ([some (.ref 57), some (.int ((0 : Int32))), some (.int (nI t)), some (.int (nI (s_srt (kI (σ 62)) ((L.take k).filter pr)).length)), some (.int (nI k)), none, none], [], (x_up (x_up σ 74 g) 75 (upd (σ 75) 0 (nI (s_srt (kI (σ 62)) ((L.take k).filter pr)).length)))) rfl ?_ ?_
      · exact vp_in_nI (n := 0) (by decide) (by decide)
      have hk2 : L.take k = L := List.take_of_length_le (by omega)
      rw [hk2] at hg ⊢
      refine ev_vret rfl rfl ⟨rfl, ?_, ?_, ?_, ⟨fun c hc hn => ?_, fun i _ => ?_⟩⟩
      · rw [x_up_ne (by decide), x_up_eq]; exact hg
      · intro j hj; rw [x_up_ne (by decide), x_up_eq]; exact ho j hj
      · rw [x_up_eq]
      · have h74 : c ≠ 74 := fun z => hc (by rw [z]; decide)
        have h75 : c ≠ 75 := fun z => hc (by rw [z]; decide)
        simp [x_up, h74, h75]
      · simp [x_up]
    · exact absurd (show (σ 67) 0 ≤ nI k by rw [h67]; exact nI_le (by omega) (by omega)) c13
  | succ m ih =>
    intro k g hk hg ho
    obtain ⟨x, hx⟩ : ∃ x, L[k]? = some x := ⟨_, List.getElem?_eq_getElem (by omega)⟩
    have hxm := List.mem_of_getElem? hx
    have hx10 : x < 10 := hL x hxm
    have hxc : (nI x).toNatClampNeg = x := nI_clamp (by omega)
    have hil : (0 : Int32) + (nI k) = nI (0 + k) := by rw [show (0 : Int32) = nI 0 from rfl, nI_add]
    have hlc : ((0 : Int32) + (nI k)).toNatClampNeg = 0 + k := by rw [hil, nI_clamp (by omega)]
    have hlv : (σ 66) (0 + k) = nI x := by rw [Nat.zero_add]; exact h66 k x hx
    have hsk : pr x = false → s_srt (kI (σ 62)) ((L.take (k + 1)).filter pr) = (s_srt (kI (σ 62)) ((L.take k).filter pr)) := fun hp => by rw [take_snoc hx, List.filter_append, show [x].filter pr = [] from by simp [hp], List.append_nil]
    refine ev_br 5 [vp_in ((0 : Int32)) 2] (((σ 67) 0) ≤ (nI k)) 147 16 ([some (.ref 57), some (.int ((0 : Int32))), some (.int (nI t)), some (.int (nI (s_srt (kI (σ 62)) ((L.take k).filter pr)).length)), some (.int (nI k)), none, none], [], (x_up σ 74 g)) rfl ?_ (fun c13 => ?_) (fun c13 => ?_)
    · exact (vp_in_nI (n := 0) (by decide) (by decide))
    · exact absurd c13 (show ¬ (σ 67) 0 ≤ nI k by rw [h67]; exact nI_ge (by omega) (by omega))
    · refine ev_br 14 [vp_in ((0 : Int32) + (nI k)) 20, vp_in ((σ 66) ((0 : Int32) + (nI k)).toNatClampNeg) 10] ((nI t) < ((σ 62) ((σ 66) ((0 : Int32) + (nI k)).toNatClampNeg).toNatClampNeg)) 141 41 ([some (.ref 57), some (.int ((0 : Int32))), some (.int (nI t)), some (.int (nI (s_srt (kI (σ 62)) ((L.take k).filter pr)).length)), some (.int (nI k)), some (.int ((σ 66) ((0 : Int32) + (nI k)).toNatClampNeg)), none], [], (x_up σ 74 g)) rfl ?_ (fun c38 => ?_) (fun c38 => ?_)
      · exact ⟨(by rw [hil]; exact vp_in_nI (by omega) (by decide)), (by rw [hlc, hlv]; exact vp_in_nI hx10 (by decide))⟩
      · rw [hlc] at c38
        rw [hlv] at c38
        rw [hxc] at c38
        rw [hlc]
        rw [hlv]
        refine ev_blk 2 [] 5 ([some (.ref 57), some (.int ((0 : Int32))), some (.int (nI t)), some (.int (nI (s_srt (kI (σ 62)) ((L.take k).filter pr)).length)), some (.int ((nI k) + (1 : Int32))), some (.int (nI x)), none], [], (x_up σ 74 g)) rfl ?_ ?_
        · trivial
        rw [nI_1]
        refine ev_drop 5 ?_
        have hp : pr x = false := (by rw [hpr x hxm, decide_eq_false (Int32.not_le.mpr c38), Bool.and_false])
        have e := hsk hp
        have e2 := ih (k + 1) g (by omega) (by rw [e]; exact hg) ho
        rw [e] at e2
        exact e2
      · rw [hlc] at c38
        rw [hlv] at c38
        rw [hxc] at c38
        rw [hlc]
        rw [hlv]
        refine ev_br 5 [vp_in (nI x) 10] (((σ 80) (nI x).toNatClampNeg) = (-1 : Int32)) 55 52 ([some (.ref 57), some (.int ((0 : Int32))), some (.int (nI t)), some (.int (nI (s_srt (kI (σ 62)) ((L.take k).filter pr)).length)), some (.int (nI k)), some (.int (nI x)), none], [], (x_up σ 74 g)) rfl ?_ (fun c49 => ?_) (fun c49 => ?_)
        · exact (vp_in_nI hx10 (by decide))
        · rw [hxc] at c49
          refine ev_blk 2 [] 58 ([some (.ref 57), some (.int ((0 : Int32))), some (.int (nI t)), some (.int (nI (s_srt (kI (σ 62)) ((L.take k).filter pr)).length)), some (.int (nI k)), some (.int (nI x)), some (.int (nI (s_srt (kI (σ 62)) ((L.take k).filter pr)).length))], [], (x_up σ 74 g)) rfl ?_ ?_
          · trivial
          have hp : pr x = true := by
            rw [hpr x hxm, decide_eq_true (Int32.not_lt.mp c38), Bool.and_true]
            cases hb : bg x with
            | none => rfl
            | some u => rw [h80 x hxm, hb] at c49; exact absurd c49 (nI_oi (by have := hbt x u hb; omega))
          have hnx : s_srt (kI (σ 62)) ((L.take (k + 1)).filter pr) = s_ins (kI (σ 62)) x (s_srt (kI (σ 62)) ((L.take k).filter pr)) := by rw [take_snoc hx, List.filter_append, show [x].filter pr = [x] from by simp [hp], s_srt_snoc]
          refine m_gat0_in σ L bg t ht hl10 hL h66 h67 h80 pr hpr _ k x hx hp (fun g2 h2 h3 => ?_) _ g (Nat.le_refl _) (insR_ini hg) (fun y hy => by rw [List.drop_of_length_le (Nat.le_refl _)] at hy; simp at hy) ho
          have e := ih (k + 1) g2 (by omega) h2 h3
          rw [hnx, s_ins_len] at e
          exact e
        · rw [hxc] at c49
          refine ev_blk 3 [] 5 ([some (.ref 57), some (.int ((0 : Int32))), some (.int (nI t)), some (.int (nI (s_srt (kI (σ 62)) ((L.take k).filter pr)).length)), some (.int ((nI k) + (1 : Int32))), some (.int (nI x)), none], [], (x_up σ 74 g)) rfl ?_ ?_
          · trivial
          rw [nI_1]
          refine ev_drop 5 ?_
          have hp : pr x = false := (by rw [hpr x hxm]; cases hb : bg x with | none => (rw [h80 x hxm, hb] at c49; exact absurd rfl c49) | some u => rfl)
          have e := hsk hp
          have e2 := ih (k + 1) g (by omega) (by rw [e]; exact hg) ho
          rw [e] at e2
          exact e2
set_option maxRecDepth 100000 in
theorem m_gat0 (σ : xSg) (L : List Nat) (bg : Nat → Option Nat) (t : Nat) (ht : t < 2 ^ 31) (hl10 : L.length ≤ 10) (hL : ∀ x ∈ L, x < 10) (h66 : ∀ (i x : Nat), L[i]? = some x → σ 66 (i) = nI x) (h67 : σ 67 0 = nI L.length) (h80 : ∀ x ∈ L, σ 80 x = s_oi (bg x)) (pr : Nat → Bool) (hpr : ∀ x ∈ L, pr x = ((bg x).isNone && decide (σ 62 x ≤ nI t))) (hbt : ∀ x u, bg x = some u → u < 2 ^ 31) : xCtr M_X6_gathers [.ref 57, .int ((0 : Int32)), .int (nI t)] σ (fun r σ' => r = none ∧ rowL (σ' 74) 0 (s_srt (kI (σ 62)) (L.filter pr)) ∧ (∀ j, (j < 0 ∨ 10 ≤ j) → σ' 74 j = σ 74 j) ∧ σ' 75 = upd (σ 75) 0 (nI (s_srt (kI (σ 62)) (L.filter pr)).length) ∧ xFm [74, 75] [] σ σ') := by
  refine ctr_ev ok_X6_gathers (by decide +kernel) rfl rfl rfl ?_
  show xEv (.inl 0) M_X6_gathers _ 0 ([some (.ref 57), some (.int ((0 : Int32))), some (.int (nI t)), none, none, none, none], [], σ)
  refine ev_blk 4 [] 5 ([some (.ref 57), some (.int ((0 : Int32))), some (.int (nI t)), some (.int ((0 : Int32))), some (.int ((0 : Int32))), none, none], [], σ) rfl ?_ ?_
  · trivial
  have h := m_gat0_lp σ L bg t ht hl10 hL h66 h67 h80 pr hpr hbt L.length 0 (σ 74) (by omega) (fun j x hj => by simp [s_srt] at hj) (fun j _ => rfl)
  rw [x_up_self] at h
  exact h
set_option maxRecDepth 100000 in
theorem m_gat1_in (σ : xSg) (L : List Nat) (bg : Nat → Option Nat) (t : Nat) (ht : t < 2 ^ 31) (hl10 : L.length ≤ 10) (hL : ∀ x ∈ L, x < 10) (h66 : ∀ (i x : Nat), L[i]? = some x → σ 66 (10 + i) = nI x) (h67 : σ 67 1 = nI L.length) (h80 : ∀ x ∈ L, σ 80 x = s_oi (bg x)) (pr : Nat → Bool) (hpr : ∀ x ∈ L, pr x = ((bg x).isNone && decide (σ 62 x ≤ nI t))) (Q : Option Value → xSg → Prop) (k x : Nat) (hx : L[k]? = some x) (hp : pr x = true) (kK : ∀ g2 : Nat → Int32, rowL g2 10 (s_srt (kI (σ 62)) ((L.take (k + 1)).filter pr)) → (∀ j, (j < 10 ∨ 20 ≤ j) → g2 j = σ 74 j) → xEv (.inl 0) M_X6_gathers Q 5 ([some (.ref 57), some (.int ((1 : Int32))), some (.int (nI t)), some (.int (nI ((s_srt (kI (σ 62)) ((L.take k).filter pr)).length + 1))), some (.int (nI (k + 1))), none, none], [], (x_up σ 74 g2))) : ∀ (i : Nat) (g : Nat → Int32), i ≤ (s_srt (kI (σ 62)) ((L.take k).filter pr)).length → insR g 10 (s_srt (kI (σ 62)) ((L.take k).filter pr)) i → (∀ y ∈ (s_srt (kI (σ 62)) ((L.take k).filter pr)).drop i, kI (σ 62) x < kI (σ 62) y) → (∀ j, (j < 10 ∨ 20 ≤ j) → g j = σ 74 j) → xEv (.inl 0) M_X6_gathers Q 58 ([some (.ref 57), some (.int ((1 : Int32))), some (.int (nI t)), some (.int (nI (s_srt (kI (σ 62)) ((L.take k).filter pr)).length)), some (.int (nI k)), some (.int (nI x)), some (.int (nI i))], [], (x_up σ 74 g)) := by
  have hPl : (s_srt (kI (σ 62)) ((L.take k).filter pr)).length ≤ k := by rw [s_srt_len]; have := List.length_filter_le pr (L.take k); rw [List.length_take] at this; omega
  have hkl : k < L.length := (List.getElem?_eq_some_iff.mp hx).1
  have hx10 : x < 10 := hL x (List.mem_of_getElem? hx)
  have hxc : (nI x).toNatClampNeg = x := nI_clamp (by omega)
  have hnx : s_srt (kI (σ 62)) ((L.take (k + 1)).filter pr) = s_ins (kI (σ 62)) x (s_srt (kI (σ 62)) ((L.take k).filter pr)) := by rw [take_snoc hx, List.filter_append, show [x].filter pr = [x] from by simp [hp], s_srt_snoc]
  have hPm : ∀ y ∈ (s_srt (kI (σ 62)) ((L.take k).filter pr)), y < 10 := fun y hy => hL y (List.mem_of_mem_take (List.mem_filter.mp (s_srt_mem.mp hy)).1)
  have fin : ∀ (i : Nat) (g : Nat → Int32), i ≤ (s_srt (kI (σ 62)) ((L.take k).filter pr)).length → insR g 10 (s_srt (kI (σ 62)) ((L.take k).filter pr)) i → (∀ y ∈ (s_srt (kI (σ 62)) ((L.take k).filter pr)).drop i, kI (σ 62) x < kI (σ 62) y) → (∀ y ∈ (s_srt (kI (σ 62)) ((L.take k).filter pr)).take i, kI (σ 62) y ≤ kI (σ 62) x) → (∀ j, (j < 10 ∨ 20 ≤ j) → g j = σ 74 j) → xEv (.inl 0) M_X6_gathers Q 124 ([some (.ref 57), some (.int ((1 : Int32))), some (.int (nI t)), some (.int (nI (s_srt (kI (σ 62)) ((L.take k).filter pr)).length)), some (.int (nI k)), some (.int (nI x)), some (.int (nI i))], [], (x_up σ 74 g)) := by
    intro i g hi hR hd ht2 ho
    have hix : (10 : Int32) + (nI i) = nI (10 + i) := by rw [show (10 : Int32) = nI 10 from rfl, nI_add]
    have hic : ((10 : Int32) + (nI i)).toNatClampNeg = 10 + i := by rw [hix, nI_clamp (by omega)]
    refine ev_blk 12 [vp_in ((10 : Int32) + (nI i)) 20] 5 ([some (.ref 57), some (.int ((1 : Int32))), some (.int (nI t)), some (.int ((nI (s_srt (kI (σ 62)) ((L.take k).filter pr)).length) + (1 : Int32))), some (.int ((nI k) + (1 : Int32))), some (.int (nI x)), some (.int (nI i))], [], (x_up (x_up σ 74 g) 74 (upd g ((10 : Int32) + (nI i)).toNatClampNeg (nI x)))) rfl ?_ ?_
    · rw [hix]; exact vp_in_nI (by omega) (by decide)
    rw [hic]
    rw [nI_1, nI_1, x_up_up]
    refine ev_drop 5 ?_
    refine ev_drop 6 ?_
    refine kK _ ?_ (fun j hj => by rw [upd_ne (by omega)]; exact ho j hj)
    rw [hnx, s_ins_split hd ht2]
    exact insR_end (x := x) hR hi
  intro i
  induction i with
  | zero =>
    intro g hi hR hd ho
    refine ev_br 1 [] ((nI 0) ≤ 0) 124 63 ([some (.ref 57), some (.int ((1 : Int32))), some (.int (nI t)), some (.int (nI (s_srt (kI (σ 62)) ((L.take k).filter pr)).length)), some (.int (nI k)), some (.int (nI x)), some (.int (nI 0))], [], (x_up σ 74 g)) rfl ?_ (fun c60 => ?_) (fun c60 => ?_)
    · trivial
    · exact fin 0 g hi hR hd (by simp) ho
    · exact absurd (by decide) c60
  | succ a ih =>
    intro g hi hR hd ho
    have hi1 : (10 : Int32) + (nI (a + 1)) = nI (10 + (a + 1)) := by rw [show (10 : Int32) = nI 10 from rfl, nI_add]
    have hi2 : ((10 : Int32) + (nI (a + 1))) - (1 : Int32) = nI (10 + a) := by rw [hi1, show 10 + (a + 1) = (10 + a) + 1 by omega]; exact i_m1 (by omega)
    have hc1 : ((10 : Int32) + (nI (a + 1))).toNatClampNeg = 10 + (a + 1) := by rw [hi1, nI_clamp (by omega)]
    have hc2 : (((10 : Int32) + (nI (a + 1))) - (1 : Int32)).toNatClampNeg = 10 + a := by rw [hi2, nI_clamp (by omega)]
    obtain ⟨y, hy⟩ : ∃ y, (s_srt (kI (σ 62)) ((L.take k).filter pr))[a]? = some y := ⟨_, List.getElem?_eq_getElem (by omega)⟩
    have hy10 : y < 10 := hPm y (List.mem_of_getElem? hy)
    have hgy : g (10 + a) = nI y := hR.1 a y hy (by omega)
    have hgs : g (((10 : Int32) + (nI (a + 1))) - (1 : Int32)).toNatClampNeg = nI y := by rw [hc2]; exact hgy
    have hyc : (g (((10 : Int32) + (nI (a + 1))) - (1 : Int32)).toNatClampNeg).toNatClampNeg = y := by rw [hgs, nI_clamp (by omega)]
    refine ev_br 1 [] ((nI (a + 1)) ≤ 0) 124 63 ([some (.ref 57), some (.int ((1 : Int32))), some (.int (nI t)), some (.int (nI (s_srt (kI (σ 62)) ((L.take k).filter pr)).length)), some (.int (nI k)), some (.int (nI x)), some (.int (nI (a + 1)))], [], (x_up σ 74 g)) rfl ?_ (fun c60 => ?_) (fun c60 => ?_)
    · trivial
    · exact absurd c60 (nI_nle (by omega) (by omega))
    · refine ev_br 17 [vp_in (((10 : Int32) + (nI (a + 1))) - (1 : Int32)) 20, vp_in (g (((10 : Int32) + (nI (a + 1))) - (1 : Int32)).toNatClampNeg) 10, vp_in (nI x) 10] (((σ 62) (g (((10 : Int32) + (nI (a + 1))) - (1 : Int32)).toNatClampNeg).toNatClampNeg) ≤ ((σ 62) (nI x).toNatClampNeg)) 124 92 ([some (.ref 57), some (.int ((1 : Int32))), some (.int (nI t)), some (.int (nI (s_srt (kI (σ 62)) ((L.take k).filter pr)).length)), some (.int (nI k)), some (.int (nI x)), some (.int (nI (a + 1)))], [], (x_up σ 74 g)) rfl ?_ (fun c89 => ?_) (fun c89 => ?_)
      · exact ⟨(by rw [hi2]; exact vp_in_nI (by omega) (by decide)), (by rw [hgs]; exact vp_in_nI hy10 (by decide)), (vp_in_nI hx10 (by decide))⟩
      · rw [hyc] at c89
        rw [hxc] at c89
        refine fin (a + 1) g hi hR hd (fun z hz => ?_) ho
        exact Int.le_trans (Sd_take s_srt_sd hy z hz) (Int32.le_iff_toInt_le.mp c89)
      · rw [hyc] at c89
        rw [hxc] at c89
        refine ev_blk 20 [vp_in (((10 : Int32) + (nI (a + 1))) - (1 : Int32)) 20, vp_in ((10 : Int32) + (nI (a + 1))) 20] 58 ([some (.ref 57), some (.int ((1 : Int32))), some (.int (nI t)), some (.int (nI (s_srt (kI (σ 62)) ((L.take k).filter pr)).length)), some (.int (nI k)), some (.int (nI x)), some (.int ((nI (a + 1)) + (-1 : Int32)))], [], (x_up (x_up σ 74 g) 74 (upd g ((10 : Int32) + (nI (a + 1))).toNatClampNeg (g (((10 : Int32) + (nI (a + 1))) - (1 : Int32)).toNatClampNeg)))) rfl ?_ ?_
        · exact ⟨(by rw [hi2]; exact vp_in_nI (by omega) (by decide)), (by rw [hi1]; exact vp_in_nI (by omega) (by decide))⟩
        rw [hc2]
        rw [hc1]
        rw [i_p1m (by omega), x_up_up]
        refine ih _ (by omega) (insR_stp hR) (drop_gt hd hy (Int32.lt_iff_toInt_lt.mp (Int32.not_le.mp c89))) (fun j hj => by rw [upd_ne (by omega)]; exact ho j hj)
set_option maxRecDepth 100000 in
theorem m_gat1_lp (σ : xSg) (L : List Nat) (bg : Nat → Option Nat) (t : Nat) (ht : t < 2 ^ 31) (hl10 : L.length ≤ 10) (hL : ∀ x ∈ L, x < 10) (h66 : ∀ (i x : Nat), L[i]? = some x → σ 66 (10 + i) = nI x) (h67 : σ 67 1 = nI L.length) (h80 : ∀ x ∈ L, σ 80 x = s_oi (bg x)) (pr : Nat → Bool) (hpr : ∀ x ∈ L, pr x = ((bg x).isNone && decide (σ 62 x ≤ nI t))) (hbt : ∀ x u, bg x = some u → u < 2 ^ 31) : ∀ (m k : Nat) (g : Nat → Int32), k + m = L.length → rowL g 10 (s_srt (kI (σ 62)) ((L.take k).filter pr)) → (∀ j, (j < 10 ∨ 20 ≤ j) → g j = σ 74 j) → xEv (.inl 0) M_X6_gathers (fun r σ' => r = none ∧ rowL (σ' 74) 10 (s_srt (kI (σ 62)) (L.filter pr)) ∧ (∀ j, (j < 10 ∨ 20 ≤ j) → σ' 74 j = σ 74 j) ∧ σ' 75 = upd (σ 75) 1 (nI (s_srt (kI (σ 62)) (L.filter pr)).length) ∧ xFm [74, 75] [] σ σ') 5 ([some (.ref 57), some (.int ((1 : Int32))), some (.int (nI t)), some (.int (nI (s_srt (kI (σ 62)) ((L.take k).filter pr)).length)), some (.int (nI k)), none, none], [], (x_up σ 74 g)) := by
  intro m
  induction m with
  | zero =>
    intro k g hk hg ho
    refine ev_br 5 [vp_in ((1 : Int32)) 2] (((σ 67) 1) ≤ (nI k)) 147 16 ([some (.ref 57), some (.int ((1 : Int32))), some (.int (nI t)), some (.int (nI (s_srt (kI (σ 62)) ((L.take k).filter pr)).length)), some (.int (nI k)), none, none], [], (x_up σ 74 g)) rfl ?_ (fun c13 => ?_) (fun c13 => ?_)
    · exact vp_in_nI (n := 1) (by decide) (by decide)
    · refine ev_blk 5 [vp_in ((1 : Int32)) 2] 154 ([some (.ref 57), some (.int ((1 : Int32))), some (.int (nI t)), some (.int (nI (s_srt (kI (σ 62)) ((L.take k).filter pr)).length)), some (.int (nI k)), none, none], [], (x_up (x_up σ 74 g) 75 (upd (σ 75) 1 (nI (s_srt (kI (σ 62)) ((L.take k).filter pr)).length)))) rfl ?_ ?_
      · exact vp_in_nI (n := 1) (by decide) (by decide)
      have hk2 : L.take k = L := List.take_of_length_le (by omega)
      rw [hk2] at hg ⊢
      refine ev_vret rfl rfl ⟨rfl, ?_, ?_, ?_, ⟨fun c hc hn => ?_, fun i _ => ?_⟩⟩
      · rw [x_up_ne (by decide), x_up_eq]; exact hg
      · intro j hj; rw [x_up_ne (by decide), x_up_eq]; exact ho j hj
      · rw [x_up_eq]
      · have h74 : c ≠ 74 := fun z => hc (by rw [z]; decide)
        have h75 : c ≠ 75 := fun z => hc (by rw [z]; decide)
        simp [x_up, h74, h75]
      · simp [x_up]
    · exact absurd (show (σ 67) 1 ≤ nI k by rw [h67]; exact nI_le (by omega) (by omega)) c13
  | succ m ih =>
    intro k g hk hg ho
    obtain ⟨x, hx⟩ : ∃ x, L[k]? = some x := ⟨_, List.getElem?_eq_getElem (by omega)⟩
    have hxm := List.mem_of_getElem? hx
    have hx10 : x < 10 := hL x hxm
    have hxc : (nI x).toNatClampNeg = x := nI_clamp (by omega)
    have hil : (10 : Int32) + (nI k) = nI (10 + k) := by rw [show (10 : Int32) = nI 10 from rfl, nI_add]
    have hlc : ((10 : Int32) + (nI k)).toNatClampNeg = 10 + k := by rw [hil, nI_clamp (by omega)]
    have hlv : (σ 66) (10 + k) = nI x := by exact h66 k x hx
    have hsk : pr x = false → s_srt (kI (σ 62)) ((L.take (k + 1)).filter pr) = (s_srt (kI (σ 62)) ((L.take k).filter pr)) := fun hp => by rw [take_snoc hx, List.filter_append, show [x].filter pr = [] from by simp [hp], List.append_nil]
    refine ev_br 5 [vp_in ((1 : Int32)) 2] (((σ 67) 1) ≤ (nI k)) 147 16 ([some (.ref 57), some (.int ((1 : Int32))), some (.int (nI t)), some (.int (nI (s_srt (kI (σ 62)) ((L.take k).filter pr)).length)), some (.int (nI k)), none, none], [], (x_up σ 74 g)) rfl ?_ (fun c13 => ?_) (fun c13 => ?_)
    · exact (vp_in_nI (n := 1) (by decide) (by decide))
    · exact absurd c13 (show ¬ (σ 67) 1 ≤ nI k by rw [h67]; exact nI_ge (by omega) (by omega))
    · refine ev_br 14 [vp_in ((10 : Int32) + (nI k)) 20, vp_in ((σ 66) ((10 : Int32) + (nI k)).toNatClampNeg) 10] ((nI t) < ((σ 62) ((σ 66) ((10 : Int32) + (nI k)).toNatClampNeg).toNatClampNeg)) 141 41 ([some (.ref 57), some (.int ((1 : Int32))), some (.int (nI t)), some (.int (nI (s_srt (kI (σ 62)) ((L.take k).filter pr)).length)), some (.int (nI k)), some (.int ((σ 66) ((10 : Int32) + (nI k)).toNatClampNeg)), none], [], (x_up σ 74 g)) rfl ?_ (fun c38 => ?_) (fun c38 => ?_)
      · exact ⟨(by rw [hil]; exact vp_in_nI (by omega) (by decide)), (by rw [hlc, hlv]; exact vp_in_nI hx10 (by decide))⟩
      · rw [hlc] at c38
        rw [hlv] at c38
        rw [hxc] at c38
        rw [hlc]
        rw [hlv]
        refine ev_blk 2 [] 5 ([some (.ref 57), some (.int ((1 : Int32))), some (.int (nI t)), some (.int (nI (s_srt (kI (σ 62)) ((L.take k).filter pr)).length)), some (.int ((nI k) + (1 : Int32))), some (.int (nI x)), none], [], (x_up σ 74 g)) rfl ?_ ?_
        · trivial
        rw [nI_1]
        refine ev_drop 5 ?_
        have hp : pr x = false := (by rw [hpr x hxm, decide_eq_false (Int32.not_le.mpr c38), Bool.and_false])
        have e := hsk hp
        have e2 := ih (k + 1) g (by omega) (by rw [e]; exact hg) ho
        rw [e] at e2
        exact e2
      · rw [hlc] at c38
        rw [hlv] at c38
        rw [hxc] at c38
        rw [hlc]
        rw [hlv]
        refine ev_br 5 [vp_in (nI x) 10] (((σ 80) (nI x).toNatClampNeg) = (-1 : Int32)) 55 52 ([some (.ref 57), some (.int ((1 : Int32))), some (.int (nI t)), some (.int (nI (s_srt (kI (σ 62)) ((L.take k).filter pr)).length)), some (.int (nI k)), some (.int (nI x)), none], [], (x_up σ 74 g)) rfl ?_ (fun c49 => ?_) (fun c49 => ?_)
        · exact (vp_in_nI hx10 (by decide))
        · rw [hxc] at c49
          refine ev_blk 2 [] 58 ([some (.ref 57), some (.int ((1 : Int32))), some (.int (nI t)), some (.int (nI (s_srt (kI (σ 62)) ((L.take k).filter pr)).length)), some (.int (nI k)), some (.int (nI x)), some (.int (nI (s_srt (kI (σ 62)) ((L.take k).filter pr)).length))], [], (x_up σ 74 g)) rfl ?_ ?_
          · trivial
          have hp : pr x = true := by
            rw [hpr x hxm, decide_eq_true (Int32.not_lt.mp c38), Bool.and_true]
            cases hb : bg x with
            | none => rfl
            | some u => rw [h80 x hxm, hb] at c49; exact absurd c49 (nI_oi (by have := hbt x u hb; omega))
          have hnx : s_srt (kI (σ 62)) ((L.take (k + 1)).filter pr) = s_ins (kI (σ 62)) x (s_srt (kI (σ 62)) ((L.take k).filter pr)) := by rw [take_snoc hx, List.filter_append, show [x].filter pr = [x] from by simp [hp], s_srt_snoc]
          refine m_gat1_in σ L bg t ht hl10 hL h66 h67 h80 pr hpr _ k x hx hp (fun g2 h2 h3 => ?_) _ g (Nat.le_refl _) (insR_ini hg) (fun y hy => by rw [List.drop_of_length_le (Nat.le_refl _)] at hy; simp at hy) ho
          have e := ih (k + 1) g2 (by omega) h2 h3
          rw [hnx, s_ins_len] at e
          exact e
        · rw [hxc] at c49
          refine ev_blk 3 [] 5 ([some (.ref 57), some (.int ((1 : Int32))), some (.int (nI t)), some (.int (nI (s_srt (kI (σ 62)) ((L.take k).filter pr)).length)), some (.int ((nI k) + (1 : Int32))), some (.int (nI x)), none], [], (x_up σ 74 g)) rfl ?_ ?_
          · trivial
          rw [nI_1]
          refine ev_drop 5 ?_
          have hp : pr x = false := (by rw [hpr x hxm]; cases hb : bg x with | none => (rw [h80 x hxm, hb] at c49; exact absurd rfl c49) | some u => rfl)
          have e := hsk hp
          have e2 := ih (k + 1) g (by omega) (by rw [e]; exact hg) ho
          rw [e] at e2
          exact e2
set_option maxRecDepth 100000 in
theorem m_gat1 (σ : xSg) (L : List Nat) (bg : Nat → Option Nat) (t : Nat) (ht : t < 2 ^ 31) (hl10 : L.length ≤ 10) (hL : ∀ x ∈ L, x < 10) (h66 : ∀ (i x : Nat), L[i]? = some x → σ 66 (10 + i) = nI x) (h67 : σ 67 1 = nI L.length) (h80 : ∀ x ∈ L, σ 80 x = s_oi (bg x)) (pr : Nat → Bool) (hpr : ∀ x ∈ L, pr x = ((bg x).isNone && decide (σ 62 x ≤ nI t))) (hbt : ∀ x u, bg x = some u → u < 2 ^ 31) : xCtr M_X6_gathers [.ref 57, .int ((1 : Int32)), .int (nI t)] σ (fun r σ' => r = none ∧ rowL (σ' 74) 10 (s_srt (kI (σ 62)) (L.filter pr)) ∧ (∀ j, (j < 10 ∨ 20 ≤ j) → σ' 74 j = σ 74 j) ∧ σ' 75 = upd (σ 75) 1 (nI (s_srt (kI (σ 62)) (L.filter pr)).length) ∧ xFm [74, 75] [] σ σ') := by
  refine ctr_ev ok_X6_gathers (by decide +kernel) rfl rfl rfl ?_
  show xEv (.inl 0) M_X6_gathers _ 0 ([some (.ref 57), some (.int ((1 : Int32))), some (.int (nI t)), none, none, none, none], [], σ)
  refine ev_blk 4 [] 5 ([some (.ref 57), some (.int ((1 : Int32))), some (.int (nI t)), some (.int ((0 : Int32))), some (.int ((0 : Int32))), none, none], [], σ) rfl ?_ ?_
  · trivial
  have h := m_gat1_lp σ L bg t ht hl10 hL h66 h67 h80 pr hpr hbt L.length 0 (σ 74) (by omega) (fun j x hj => by simp [s_srt] at hj) (fun j _ => rfl)
  rw [x_up_self] at h
  exact h
