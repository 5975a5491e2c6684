/-! a ship comes; the image -/
section WS
variable {τ σ' : xSg} {S : zS} {r : Option Value}
def pSh (P : sKp) (la k ln fi lc : Int32) : sKp := (P.1 + 1, (upd (aK (kA P)) P.1 k, upd (aLn (kA P)) P.1 ln, upd (aFi (kA P)) P.1 fi, upd (aLo (kA P)) P.1 (lc / 1000), upd (aCo (kA P)) P.1 (lc - lc / 1000 * 1000), upd (aLa (kA P)) P.1 la, aS (kA P)), kT P, kC P, kL P, (cW P ||| ((1 : Int32) <<< (nI P.1 &&& 31)), cG P, upd (cB P) P.1 (-1), cL P))
def zShip (S : zS) (la k ln fi lc : Int32) : Int32 × zS := if ¬ shV la k ln fi lc then (-2, S) else if S.1.1 = 10 then (-4, S) else (nI S.1.1, (pSh S.1 la k ln fi lc, S.2.1, [], S.2.2.2))
theorem ran_sp {n : Nat} (hn : n < 10) : List.range 10 = List.range n ++ ([n] ++ List.range' (n + 1) (9 - n)) := by
  have e1 : List.range 10 = List.range n ++ List.range' n (10 - n) := by
    rw [List.range_eq_range', List.range_eq_range', show List.range' n (10 - n) = List.range' (0 + 1 * n) (10 - n) by simp, List.range'_append]
    congr 1
    omega
  rw [e1, show 10 - n = (9 - n) + 1 by omega]
  rfl
theorem laneL_ship {n : Nat} {w la l : Int32} {La : Nat → Int32} (hn : n < 10) : laneL (n + 1) (w ||| ((1 : Int32) <<< (nI n &&& 31))) (upd La n la) l = laneL n w La l ++ (if la = l then [n] else []) := by
  unfold laneL
  have e1 : (List.range n).filter (s_lnp (n + 1) (w ||| ((1 : Int32) <<< (nI n &&& 31))) (upd La n la) l) = (List.range n).filter (s_lnp n w La l) := List.filter_congr (fun y hy => by
    have hyn := List.mem_range.mp hy
    unfold s_lnp
    rw [b_setb (by omega) (by omega), upd_ne (by omega)]
    simp [hyn, show y < n + 1 by omega, show ¬ y = n by omega])
  have e2 : [n].filter (s_lnp (n + 1) (w ||| ((1 : Int32) <<< (nI n &&& 31))) (upd La n la) l) = if la = l then [n] else [] := by
    have : s_lnp (n + 1) (w ||| ((1 : Int32) <<< (nI n &&& 31))) (upd La n la) l n = decide (la = l) := by
      unfold s_lnp
      rw [b_setb (by omega) (by omega), upd_eq]
      simp
    by_cases q : la = l
    · rw [if_pos q, List.filter_cons_of_pos (by rw [this]; exact decide_eq_true q)]; rfl
    · rw [if_neg q, List.filter_cons_of_neg (by rw [this, decide_eq_false q]; decide)]; rfl
  have e3 : (List.range' (n + 1) (9 - n)).filter (s_lnp (n + 1) (w ||| ((1 : Int32) <<< (nI n &&& 31))) (upd La n la) l) = [] := List.filter_eq_nil_iff.mpr (fun y hy => by
    have := List.mem_range'_1.mp hy
    unfold s_lnp
    simp [show ¬ y < n + 1 by omega])
  have e4 : [n].filter (s_lnp n w La l) = [] := by
    rw [List.filter_cons_of_neg]
    · rfl
    · unfold s_lnp; simp
  have e5 : (List.range' (n + 1) (9 - n)).filter (s_lnp n w La l) = [] := List.filter_eq_nil_iff.mpr (fun y hy => by
    have := List.mem_range'_1.mp hy
    unfold s_lnp
    simp [show ¬ y < n by omega])
  rw [ran_sp hn, List.filter_append, List.filter_append, List.filter_append, List.filter_append, e1, e2, e3, e4, e5]
  simp
theorem laneL_cnt {n : Nat} {w l : Int32} {La : Nat → Int32} (hn : n ≤ 10) : (laneL n w La l).length ≤ n := by
  have h := fl_perm (laneL_nodup n w La l) (fun x hx => by have := (lnp_lt hx).1; omega)
  have h2 : ((List.range 10).filter (fun x => decide (x ∈ laneL n w La l))).length ≤ ((List.range 10).filter (fun x => decide (x < n))).length := fl_mono (fun x _ hp => decide_eq_true (lnp_lt (of_decide_eq_true hp)).1)
  have h3 : ∀ m, m ≤ 10 → ((List.range 10).filter (fun x => decide (x < m))).length = m := by decide +kernel
  rw [h3 n hn] at h2
  omega
theorem zShip_2 {la k ln fi lc : Int32} (h : ¬ shV la k ln fi lc) : zShip S la k ln fi lc = (-2, S) := by unfold zShip; rw [if_pos h]
theorem zShip_4 {la k ln fi lc : Int32} (h : shV la k ln fi lc) (hn : S.1.1 = 10) : zShip S la k ln fi lc = (-4, S) := by unfold zShip; rw [if_neg (fun z => z h), if_pos hn]
theorem zShip_y {la k ln fi lc : Int32} (h : shV la k ln fi lc) (hn : S.1.1 < 10) : zShip S la k ln fi lc = (nI S.1.1, (pSh S.1 la k ln fi lc, S.2.1, [], S.2.2.2)) := by unfold zShip; rw [if_neg (fun z => z h), if_neg (by omega)]
theorem kc_ship (h : CH0 τ S) {la k ln fi lc : Int32} (q : shQ S.1.1 τ (cShip τ S.1.1 la k ln fi lc) la k ln fi lc r σ') : zC τ (zShip S la k ln fi lc) r σ' := by
  rcases q with ⟨h1, h2, h3⟩ | ⟨h1, hn, h2, h3⟩ | ⟨h1, hn, h2, h3⟩
  · rw [zShip_2 h1]; subst h3; exact ⟨h2, h, fun _ _ => rfl⟩
  · rw [zShip_4 h1 hn]; subst h3; exact ⟨h2, h, fun _ _ => rfl⟩
  · rw [zShip_y h1 hn]
    obtain ⟨⟨a1, a2, a3, a4, a5, a6, a7, a8, a9⟩, b2, b3, b4, b5, b6⟩ := h
    have o : ∀ c, (c = 9 ∨ 10 ≤ c) → σ' c = τ c := fun c hc => by
      rw [h3]
      unfold cShip
      rw [x_up_ne (by omega), x_up_ne (by omega), x_up_ne (by omega), x_up_ne (by omega), x_up_ne (by omega), x_up_ne (by omega), x_up_ne (by omega), x_up_ne (by omega), x_up_ne (by omega), x_up_ne (by omega)]
    have u : ∀ (f : Nat → Int32) (g : Nat → Int32) (x : Int32), (∀ i, i < 10 → f i = g i) → ∀ i, i < 10 → upd f S.1.1 x i = upd g S.1.1 x i := fun f g x hfg i hi => by
      unfold upd
      split
      · rfl
      · exact hfg i hi
    refine ⟨h2, ⟨⟨?_, ?_, ?_, ?_, ⟨fun i hi => ⟨?_, ?_, ?_, ?_, ?_, ?_⟩, fun i hi => ?_⟩, fun i hi => ?_, fun r q hr hq => ?_, fun i hi => ?_, fun i hi => ?_⟩, ?_, fun P hP => ?_, ?_, fun k e he => by simp [zDs] at he, fun i hi => ?_⟩, fun c hc => o c (by omega)⟩
    · rw [h3]; unfold cShip; simp [x_up, upd, nI_1]; rfl
    · rw [h3]; unfold cShip; simp [x_up, upd, a2]; rfl
    · rw [h3]; unfold cShip; simp [x_up, upd]; exact a3
    · rw [h3]; unfold cShip; simp [x_up, upd]; exact a4
    · rw [h3]; unfold cShip; simp only [x_up, if_true, if_false, Nat.reduceEqDiff, Nat.reduceEqDiff]; exact u _ _ _ (fun i hi => (a5.1 i hi).1) i hi
    · rw [h3]; unfold cShip; simp only [x_up, if_true, if_false, Nat.reduceEqDiff, Nat.reduceEqDiff]; exact u _ _ _ (fun i hi => (a5.1 i hi).2.1) i hi
    · rw [h3]; unfold cShip; simp only [x_up, if_true, if_false, Nat.reduceEqDiff, Nat.reduceEqDiff]; exact u _ _ _ (fun i hi => (a5.1 i hi).2.2.1) i hi
    · rw [h3]; unfold cShip; simp only [x_up, if_true, if_false, Nat.reduceEqDiff, Nat.reduceEqDiff]; exact u _ _ _ (fun i hi => (a5.1 i hi).2.2.2.1) i hi
    · rw [h3]; unfold cShip; simp only [x_up, if_true, if_false, Nat.reduceEqDiff, Nat.reduceEqDiff]; exact u _ _ _ (fun i hi => (a5.1 i hi).2.2.2.2.1) i hi
    · rw [h3]; unfold cShip; simp only [x_up, if_true, if_false, Nat.reduceEqDiff, Nat.reduceEqDiff]; exact u _ _ _ (fun i hi => (a5.1 i hi).2.2.2.2.2) i hi
    · rw [o 9 (Or.inl rfl)]; exact a5.2 i hi
    · rw [h3]; unfold cShip; simp only [x_up, if_true, if_false, Nat.reduceEqDiff, Nat.reduceEqDiff]; exact u _ _ _ a6 i hi
    · rw [o 10 (by omega)]; exact a7 r q hr hq
    · rw [o 11 (by omega)]; exact a8 i hi
    · rw [o 12 (by omega)]; exact a9 i hi
    · rw [h3]; unfold cShip; simp [x_up, upd]; exact b2
    · have := b3 P hP
      unfold CK13 at this ⊢
      rw [o 13 (by omega), o 14 (by omega), o 15 (by omega), o 16 (by omega), o 17 (by omega), o 18 (by omega), o 19 (by omega), o 20 (by omega), o 21 (by omega), o 22 (by omega), o 23 (by omega), o 24 (by omega)]
      exact this
    · rw [h3]; unfold cShip; simp [x_up, upd]; rfl
    · rw [o _ (by omega), o _ (by omega)]; exact b6 i hi
theorem rowL_snoc {f : Nat → Int32} {b : Nat} {L : List Nat} {x : Nat} (h : rowL f b L) : rowL (upd f (b + L.length) (nI x)) b (L ++ [x]) := by
  intro j y hj
  rcases Nat.lt_trichotomy j L.length with q | q | q
  · rw [List.getElem?_append_left q] at hj
    rw [upd_ne (by omega)]
    exact h j y hj
  · subst q
    simp at hj
    rw [upd_eq, hj]
  · have := (List.getElem?_eq_some_iff.mp hj).1
    simp at this
    omega
theorem rowL_keep {f : Nat → Int32} {b k : Nat} {L : List Nat} {x : Int32} (h : rowL f b L) (hk : k < b ∨ b + L.length ≤ k) : rowL (upd f k x) b L := by
  intro j y hj
  have := (List.getElem?_eq_some_iff.mp hj).1
  rw [upd_ne (by omega)]
  exact h j y hj
theorem km_ship (ok : sOk S) (h : RH0 τ S) {la k ln fi lc : Int32} (q : shQ S.1.1 τ (mShip τ S.1.1 (lA S.1).length (lB S.1).length la k ln fi lc) la k ln fi lc r σ') : zM τ (zShip S la k ln fi lc) r σ' := by
  rcases q with ⟨h1, h2, h3⟩ | ⟨h1, hn, h2, h3⟩ | ⟨h1, hn, h2, h3⟩
  · rw [zShip_2 h1]; subst h3; exact ⟨h2, h, fun _ _ => rfl⟩
  · rw [zShip_4 h1 hn]; subst h3; exact ⟨h2, h, fun _ _ => rfl⟩
  · rw [zShip_y h1 hn]
    obtain ⟨⟨a1, a2, a3, a4, a5, a6⟩, b2, b3, b4, b5, b6⟩ := h
    obtain ⟨c1, c2, c3, c4, c5, c6, c7⟩ := a6
    have hlen : (lA S.1).length + (lB S.1).length ≤ 10 := laneL_len
    have u : ∀ (f : Nat → Int32) (g : Nat → Int32) (x : Int32), (∀ i, i < 10 → f i = g i) → ∀ i, i < 10 → upd f S.1.1 x i = upd g S.1.1 x i := fun f g x hfg i hi => by
      unfold upd
      split
      · rfl
      · exact hfg i hi
    have st : ∀ j, j < S.1.1 + 1 → upd (τ 64) S.1.1 0 j = s_st (cW S.1 ||| ((1 : Int32) <<< (nI S.1.1 &&& 31))) (cG S.1) j := fun j hj => by
      by_cases e : j = S.1.1
      · rw [e, upd_eq]
        exact (st_0.mpr (by rw [b_setb (by omega) (by omega)]; simp)).symm
      · rw [upd_ne e, c1 j (by omega)]
        unfold s_st
        rw [b_setb (by omega) (by omega)]
        simp [e]
    have hla : la = 0 ∨ la = 1 := by
      obtain ⟨j, hj, e⟩ := nI_of h1.1.1
      have := mt (fun z => nI_le (a := 2) (b := j) z hj) (by rw [← e]; exact h1.1.2)
      rcases (show j = 0 ∨ j = 1 by omega) with z | z
      · exact Or.inl (by rw [e, z]; rfl)
      · exact Or.inr (by rw [e, z]; rfl)
    rcases hla with rfl | rfl
    · have e3 : σ' = mShip0 τ S.1.1 (lA S.1).length k ln fi lc := by rw [h3, mShip, if_pos rfl]
      have o : ∀ c, (c < 57 ∨ 68 ≤ c) → σ' c = τ c := fun c hc => by
        rw [e3]
        unfold mShip0
        rw [x_up_ne (by omega), x_up_ne (by omega), x_up_ne (by omega), x_up_ne (by omega), x_up_ne (by omega), x_up_ne (by omega), x_up_ne (by omega), x_up_ne (by omega), x_up_ne (by omega), x_up_ne (by omega), x_up_ne (by omega), x_up_ne (by omega)]
      have l0 : laneL (S.1.1 + 1) (cW S.1 ||| ((1 : Int32) <<< (nI S.1.1 &&& 31))) (upd (aLa (kA S.1)) S.1.1 0) 0 = lA S.1 ++ [S.1.1] := by rw [laneL_ship hn, if_pos rfl]
      have l1 : laneL (S.1.1 + 1) (cW S.1 ||| ((1 : Int32) <<< (nI S.1.1 &&& 31))) (upd (aLa (kA S.1)) S.1.1 0) 1 = lB S.1 := by rw [laneL_ship hn, if_neg (by decide), List.append_nil]
      refine ⟨h2, ⟨⟨?_, ⟨fun i hi => ⟨?_, ?_, ?_, ?_, ?_, ?_⟩, fun i hi => ?_⟩, fun r q hr hq => ?_, fun i hi => ?_, fun i hi => ?_, ⟨?_, ?_, ?_, ?_, ?_, ?_, ?_⟩⟩, ?_, fun P hP => ?_, ?_, fun k e he => by simp [zDs] at he, fun i hi => ?_⟩, fun c hc => o c (by omega)⟩
      · rw [e3]; unfold mShip0; simp [x_up, upd, nI_1]; rfl
      · rw [e3]; unfold mShip0; simp only [x_up, if_true, if_false, Nat.reduceEqDiff]; exact u _ _ _ (fun i hi => (a2.1 i hi).1) i hi
      · rw [e3]; unfold mShip0; simp only [x_up, if_true, if_false, Nat.reduceEqDiff]; exact u _ _ _ (fun i hi => (a2.1 i hi).2.1) i hi
      · rw [e3]; unfold mShip0; simp only [x_up, if_true, if_false, Nat.reduceEqDiff]; exact u _ _ _ (fun i hi => (a2.1 i hi).2.2.1) i hi
      · rw [e3]; unfold mShip0; simp only [x_up, if_true, if_false, Nat.reduceEqDiff]; exact u _ _ _ (fun i hi => (a2.1 i hi).2.2.2.1) i hi
      · rw [e3]; unfold mShip0; simp only [x_up, if_true, if_false, Nat.reduceEqDiff]; exact u _ _ _ (fun i hi => (a2.1 i hi).2.2.2.2.1) i hi
      · rw [e3]; unfold mShip0; simp only [x_up, if_true, if_false, Nat.reduceEqDiff]; exact u _ _ _ (fun i hi => (a2.1 i hi).2.2.2.2.2) i hi
      · rw [o 68 (by omega)]; exact a2.2 i hi
      · rw [o 69 (by omega)]; exact a3 r q hr hq
      · rw [o 70 (by omega)]; exact a4 i hi
      · rw [o 71 (by omega)]; exact a5 i hi
      · intro j hj
        rw [e3]; unfold mShip0; simp only [x_up, if_true, if_false, Nat.reduceEqDiff]; exact st j hj
      · intro j hj
        rw [e3]; unfold mShip0; simp only [x_up, if_true, if_false, Nat.reduceEqDiff]; exact u _ _ _ c2 j hj
      · dsimp only [pSh]
        rw [l0, e3]
        unfold mShip0
        simp only [x_up, if_true, if_false, Nat.reduceEqDiff]
        exact rowL_snoc c3
      · dsimp only [pSh]
        rw [l1, e3]
        unfold mShip0
        simp only [x_up, if_true, if_false, Nat.reduceEqDiff]
        exact rowL_keep c4 (by have : (lA S.1).length ≤ S.1.1 := by
                                 have := laneL_cnt (n := S.1.1) (w := cW S.1) (La := aLa (kA S.1)) (l := 0) (by omega)
                                 exact this
                               omega)
      · dsimp only [pSh]
        rw [l0, e3]
        unfold mShip0
        simp [x_up, upd, nI_1]
      · dsimp only [pSh]
        rw [l1, e3]
        unfold mShip0
        simp only [x_up, if_true, if_false, Nat.reduceEqDiff]
        rw [upd_ne (by decide)]
        exact c6
      · rw [e3]; unfold mShip0; simp [x_up, upd]; exact c7
      · rw [e3]; unfold mShip0; simp [x_up, upd]; exact b2
      · have := b3 P hP
        unfold RIm at this ⊢
        rw [o 73 (by omega)]
        exact this
      · rw [e3]; unfold mShip0; simp [x_up, upd]; rfl
      · rw [o 86 (by omega), o 87 (by omega), o 88 (by omega)]; exact b6 i hi
    · have e3 : σ' = mShip1 τ S.1.1 (lB S.1).length k ln fi lc := by rw [h3, mShip, if_neg (by decide)]
      have o : ∀ c, (c < 57 ∨ 68 ≤ c) → σ' c = τ c := fun c hc => by
        rw [e3]
        unfold mShip1
        rw [x_up_ne (by omega), x_up_ne (by omega), x_up_ne (by omega), x_up_ne (by omega), x_up_ne (by omega), x_up_ne (by omega), x_up_ne (by omega), x_up_ne (by omega), x_up_ne (by omega), x_up_ne (by omega), x_up_ne (by omega), x_up_ne (by omega)]
      have l0 : laneL (S.1.1 + 1) (cW S.1 ||| ((1 : Int32) <<< (nI S.1.1 &&& 31))) (upd (aLa (kA S.1)) S.1.1 1) 0 = lA S.1 := by rw [laneL_ship hn, if_neg (by decide), List.append_nil]
      have l1 : laneL (S.1.1 + 1) (cW S.1 ||| ((1 : Int32) <<< (nI S.1.1 &&& 31))) (upd (aLa (kA S.1)) S.1.1 1) 1 = lB S.1 ++ [S.1.1] := by rw [laneL_ship hn, if_pos rfl]
      refine ⟨h2, ⟨⟨?_, ⟨fun i hi => ⟨?_, ?_, ?_, ?_, ?_, ?_⟩, fun i hi => ?_⟩, fun r q hr hq => ?_, fun i hi => ?_, fun i hi => ?_, ⟨?_, ?_, ?_, ?_, ?_, ?_, ?_⟩⟩, ?_, fun P hP => ?_, ?_, fun k e he => by simp [zDs] at he, fun i hi => ?_⟩, fun c hc => o c (by omega)⟩
      · rw [e3]; unfold mShip1; simp [x_up, upd, nI_1]; rfl
      · rw [e3]; unfold mShip1; simp only [x_up, if_true, if_false, Nat.reduceEqDiff]; exact u _ _ _ (fun i hi => (a2.1 i hi).1) i hi
      · rw [e3]; unfold mShip1; simp only [x_up, if_true, if_false, Nat.reduceEqDiff]; exact u _ _ _ (fun i hi => (a2.1 i hi).2.1) i hi
      · rw [e3]; unfold mShip1; simp only [x_up, if_true, if_false, Nat.reduceEqDiff]; exact u _ _ _ (fun i hi => (a2.1 i hi).2.2.1) i hi
      · rw [e3]; unfold mShip1; simp only [x_up, if_true, if_false, Nat.reduceEqDiff]; exact u _ _ _ (fun i hi => (a2.1 i hi).2.2.2.1) i hi
      · rw [e3]; unfold mShip1; simp only [x_up, if_true, if_false, Nat.reduceEqDiff]; exact u _ _ _ (fun i hi => (a2.1 i hi).2.2.2.2.1) i hi
      · rw [e3]; unfold mShip1; simp only [x_up, if_true, if_false, Nat.reduceEqDiff]; exact u _ _ _ (fun i hi => (a2.1 i hi).2.2.2.2.2) i hi
      · rw [o 68 (by omega)]; exact a2.2 i hi
      · rw [o 69 (by omega)]; exact a3 r q hr hq
      · rw [o 70 (by omega)]; exact a4 i hi
      · rw [o 71 (by omega)]; exact a5 i hi
      · intro j hj
        rw [e3]; unfold mShip1; simp only [x_up, if_true, if_false, Nat.reduceEqDiff]; exact st j hj
      · intro j hj
        rw [e3]; unfold mShip1; simp only [x_up, if_true, if_false, Nat.reduceEqDiff]; exact u _ _ _ c2 j hj
      · dsimp only [pSh]
        rw [l0, e3]
        unfold mShip1
        simp only [x_up, if_true, if_false, Nat.reduceEqDiff]
        exact rowL_keep c3 (by omega)
      · dsimp only [pSh]
        rw [l1, e3]
        unfold mShip1
        simp only [x_up, if_true, if_false, Nat.reduceEqDiff]
        exact rowL_snoc c4
      · dsimp only [pSh]
        rw [l0, e3]
        unfold mShip1
        simp only [x_up, if_true, if_false, Nat.reduceEqDiff]
        rw [upd_ne (by decide)]
        exact c5
      · dsimp only [pSh]
        rw [l1, e3]
        unfold mShip1
        simp [x_up, upd, nI_1]
      · rw [e3]; unfold mShip1; simp [x_up, upd]; exact c7
      · rw [e3]; unfold mShip1; simp [x_up, upd]; exact b2
      · have := b3 P hP
        unfold RIm at this ⊢
        rw [o 73 (by omega)]
        exact this
      · rw [e3]; unfold mShip1; simp [x_up, upd]; rfl
      · rw [o 86 (by omega), o 87 (by omega), o 88 (by omega)]; exact b6 i hi
theorem so_ship (ok : sOk S) (la k ln fi lc : Int32) : sOk (zShip S la k ln fi lc).2 := by
  by_cases h1 : shV la k ln fi lc
  · by_cases hn : S.1.1 = 10
    · rw [zShip_4 h1 hn]; exact ok
    · have hn10 := ok.1.1.1
      have hlt : S.1.1 < 10 := by omega
      rw [zShip_y h1 hlt]
      obtain ⟨⟨d1, d2, d3⟩, ⟨e1, e2⟩, ⟨f1, f2, f3, f4, f5, f6⟩, g1, g2, g3⟩ := ok.1
      obtain ⟨m, hm, rfl⟩ := nI_of h1.2.2.2.2.2.2.1
      have hm6 : m < 1000000 := (nI_ltI (b := 1000000) hm (by decide)).mp h1.2.2.2.2.2.2.2
      have hdv : nI m / (1000 : Int32) = nI (m / 1000) := pk_div (d := 1000) hm (by decide) (by decide)
      have hrm : nI m - nI m / (1000 : Int32) * 1000 = nI (m % 1000) := pk_rem (d := 1000) hm (by decide) (by decide)
      have rr : ∀ {x : Int32} {lo hi : Nat} (f : Nat → Int32) (i : Nat), (i < S.1.1 → rg (f i) lo hi) → rg x lo hi → i < S.1.1 + 1 → rg (upd f S.1.1 x i) lo hi := fun f i h2 h3 hi => by
        by_cases e : i = S.1.1
        · rw [e, upd_eq]; exact h3
        · rw [upd_ne e]; exact h2 (by omega)
      refine ⟨⟨⟨by show S.1.1 + 1 ≤ 10; omega, fun i hi => ?_, d3⟩, ⟨fun i hi => ?_, e2⟩, ⟨fun j hj hb => ?_, fun j hj hb => ?_, fun j hj hb => ?_, fun j hj hb => ?_, fun j hj => ?_, f6⟩, g1, g2, g3⟩, ok.2.1, trivial, Nat.zero_le _⟩
      · refine ⟨rr _ i (fun z => (d2 i z).1) (rg_of (lo := 0) (hi := 5) (by decide) h1.2.1.1 h1.2.1.2 (by decide)) hi, rr _ i (fun z => (d2 i z).2.1) (rg_of (lo := 1) (hi := 9) (by decide) h1.2.2.1 (Int32.not_lt.mpr h1.2.2.2.1) (by decide)) hi, rr _ i (fun z => (d2 i z).2.2.1) (rg_of (lo := 0) (hi := 9) (by decide) h1.2.2.2.2.1 (Int32.not_lt.mpr h1.2.2.2.2.2.1) (by decide)) hi, rr _ i (fun z => (d2 i z).2.2.2.1) (by rw [hdv]; exact rg_nI (Nat.zero_le _) (by omega)) hi, rr _ i (fun z => (d2 i z).2.2.2.2.1) (by rw [hrm]; exact rg_nI (Nat.zero_le _) (by omega)) hi, rr _ i (fun z => (d2 i z).2.2.2.2.2) ?_ hi⟩
        exact rg_of (lo := 0) (hi := 1) (by decide) h1.1.1 (fun z => h1.1.2 (i_21.mpr z)) (by decide)
      · obtain ⟨k1, k2, k3, k4, k5, k6⟩ := e1 i hi
        refine ⟨?_, ?_, ?_, ?_, ?_, ?_⟩
        · show upd _ _ _ i = 0; rw [upd_ne (by omega)]; exact k1
        · show upd _ _ _ i = 0; rw [upd_ne (by omega)]; exact k2
        · show upd _ _ _ i = 0; rw [upd_ne (by omega)]; exact k3
        · show upd _ _ _ i = 0; rw [upd_ne (by omega)]; exact k4
        · show upd _ _ _ i = 0; rw [upd_ne (by omega)]; exact k5
        · show upd _ _ _ i = 0; rw [upd_ne (by omega)]; exact k6
      · dsimp only [pSh] at hb ⊢
        rw [b_setb (by omega) hj, Bool.or_eq_true] at hb
        rcases hb with hb | hb
        · have := f1 j hj hb; omega
        · have := of_decide_eq_true hb; omega
      · have := f2 j hj hb
        show j < S.1.1 + 1
        omega
      · dsimp only [pSh] at hb ⊢
        rw [b_setb (by omega) hj, Bool.or_eq_true] at hb
        rcases hb with hb | hb
        · exact f3 j hj hb
        · have := of_decide_eq_true hb
          subst this
          cases hg : bt (cG S.1) S.1.1 with
          | false => rfl
          | true => have := f2 _ hj hg; omega
      · dsimp only [pSh] at hb ⊢
        rw [b_setb (by omega) (by omega), Bool.or_eq_true] at hb
        by_cases e : j = S.1.1
        · rw [e, upd_eq]
        · rw [upd_ne e]
          rcases hb with hb | hb
          · exact f4 j hj hb
          · exact absurd (of_decide_eq_true hb) e
      · dsimp only [pSh]
        rw [upd_ne (by omega)]
        exact f5 j hj
  · rw [zShip_2 h1]; exact ok
end WS
