/-! a deed is undone; a ship left, in one value -/
section LV
variable {τ σ' : xSg} {S : zS} {r : Option Value}
def pO (P : sKp) (c : sCo) : sKp := (P.1, P.2.1, P.2.2.1, P.2.2.2.1, P.2.2.2.2.1, c)
def zUn (S : zS) : Int32 × zS := match zDs S with
  | [] => (-3, S)
  | e :: t => (nI t.length, (pO S.1 e.2, S.2.1, t, S.2.2.2))
theorem tbk_l {c c' : sCo} {d : Int32} (h : tbk c d c') : c'.2.2.2 ≤ c.2.2.2 := by
  have := h.2.2.2
  split at this <;> omega
theorem so_undo (ok : sOk S) : sOk (zUn S).2 := by
  unfold zUn
  cases hds : zDs S with
  | nil => exact ok
  | cons e t =>
    obtain ⟨k1, k2, k3, k4⟩ := ok
    rw [hds] at k3 k4
    obtain ⟨c1, c2, c3⟩ := k3
    have hle := tbk_l c2
    exact ⟨⟨k1.1, k1.2.1, c1, fun k hk => k1.2.2.2.1 k (Nat.lt_of_lt_of_le hk hle), k1.2.2.2.2.1, k1.2.2.2.2.2⟩, k2, c3, by simp at k4; show t.length ≤ 6; omega⟩
theorem kc_undo (ok : sOk S) (h : CH0 τ S) (q : udQ τ (zDs S).length r σ') : zC τ (zUn S) r σ' := by
  obtain ⟨⟨a1, a2, a3, a4, a5, a6, a7, a8, a9⟩, b2, b3, b4, b5, b6⟩ := id h
  unfold zUn
  cases hds : zDs S with
  | nil =>
    rw [hds] at q
    rcases q with ⟨_, q2, q3⟩ | ⟨q1, _⟩
    · subst q3; exact ⟨q2, h, fun _ _ => rfl⟩
    · simp at q1
  | cons e t =>
    rw [hds] at q
    rcases q with ⟨q1, _⟩ | ⟨_, q2, q3, q4, σ1, q5, q6, _, ⟨f1, f2, f3⟩, q7, q8, q9, q10⟩
    · simp at q1
    · have hlen : (e :: t).length - 1 = t.length := by simp
      rw [hlen] at q2 q3
      have hch := ok.2.2.1
      rw [hds] at hch
      obtain ⟨c1, ⟨t1, t2, t3, t4⟩, c3⟩ := hch
      have hle := tbk_l (c := kO S.1) (d := e.1) (c' := e.2) ⟨t1, t2, t3, t4⟩
      have e0 : τ 25 t.length = e.1 := by
        have := b5 0 e (by rw [hds]; rfl)
        rw [hds] at this
        rw [← this]
        congr 1
      rw [show (e :: t).length - 1 = t.length from hlen, e0] at q7 q8 q9 q10
      have o1 : σ1 1 = τ 1 := q5 1 (by decide)
      rw [o1] at q7 q8 q9
      have o : ∀ c, c ≠ 8 → c ≠ 0 → c ≠ 1 → σ' c = τ c := fun c h8 h0 h1 => (f1 c (by simpa using h8) h0 h1).trans (q5 c h0)
      refine ⟨q2, ⟨⟨?_, ?_, ?_, ?_, ⟨fun i hi => ?_, fun i hi => ?_⟩, fun i hi => ?_, fun r q hr hq => ?_, fun i hi => ?_, fun i hi => ?_⟩, ?_, fun P hP => ?_, q3, fun k d hd => ?_, fun i hi => by rw [o (49 + 2 * i) (by omega) (by omega) (by omega), o (50 + 2 * i) (by omega) (by omega) (by omega)]; exact b6 i hi⟩, fun c hc => o c (by omega) (by omega) (by omega)⟩
      · rw [f3 0 (by decide), o1]; exact a1
      · rw [q7, a2]; exact t1.symm
      · rw [q8, a3]; exact t2.symm
      · rw [q9, a3, a4]
        by_cases hz : e.1 &&& (kO S.1).2.1 = 0
        · rw [if_pos hz] at t4 ⊢
          show nI (cL S.1) = nI e.2.2.2.2
          rw [t4]
        · rw [if_neg hz] at t4 ⊢
          show nI (kO S.1).2.2.2 - 1 = nI e.2.2.2.2
          rw [t4]
          exact i_sub (b := 1) (by omega)
      · rw [o 2 (by decide) (by decide) (by decide), o 3 (by decide) (by decide) (by decide), o 4 (by decide) (by decide) (by decide), o 5 (by decide) (by decide) (by decide), o 6 (by decide) (by decide) (by decide), o 7 (by decide) (by decide) (by decide)]; exact a5.1 i hi
      · rw [o 9 (by decide) (by decide) (by decide)]; exact a5.2 i hi
      · rw [q10 i hi, q5 8 (by decide), a6 i hi]; exact (t3 i hi).symm
      · rw [o 10 (by decide) (by decide) (by decide)]; exact a7 r q hr hq
      · rw [o 11 (by decide) (by decide) (by decide)]; exact a8 i hi
      · rw [o 12 (by decide) (by decide) (by decide)]; exact a9 i (Nat.lt_of_lt_of_le hi hle)
      · rw [q4 2 (by decide)]; exact b2
      · have := b3 P hP
        unfold CK13 at this ⊢
        rw [o 13 (by decide) (by decide) (by decide), o 14 (by decide) (by decide) (by decide), o 15 (by decide) (by decide) (by decide), o 16 (by decide) (by decide) (by decide), o 17 (by decide) (by decide) (by decide), o 18 (by decide) (by decide) (by decide), o 19 (by decide) (by decide) (by decide), o 20 (by decide) (by decide) (by decide), o 21 (by decide) (by decide) (by decide), o 22 (by decide) (by decide) (by decide), o 23 (by decide) (by decide) (by decide), o 24 (by decide) (by decide) (by decide)]
        exact this
      · rw [o 25 (by decide) (by decide) (by decide)]
        have hk := b5 (k + 1) d (by rw [hds]; exact hd)
        rw [hds] at hk
        rw [← hk]
        congr 1
        show t.length - 1 - k = (e :: t).length - 1 - (k + 1)
        simp
        omega
theorem km_undo (ok : sOk S) (h : RH0 τ S) (q : udM τ (zDs S).length r σ') : zM τ (zUn S) r σ' := by
  obtain ⟨⟨a1, a2, a3, a4, a5, a6⟩, b2, b3, b4, b5, b6⟩ := id h
  unfold zUn
  cases hds : zDs S with
  | nil =>
    rw [hds] at q
    rcases q with ⟨_, q2, q3⟩ | ⟨q1, _⟩
    · subst q3; exact ⟨q2, h, fun _ _ => rfl⟩
    · simp at q1
  | cons e t =>
    rw [hds] at q
    rcases q with ⟨q1, _⟩ | ⟨_, q2, q3, ⟨p1, p2, p3, p4, p5⟩, q5⟩
    · simp at q1
    · have hlen : (e :: t).length - 1 = t.length := by simp
      rw [hlen] at q2 q3 p1 p2 p3 p4 p5
      have hch := ok.2.2.1
      rw [hds] at hch
      obtain ⟨c1, c2, c3⟩ := hch
      have hle := tbk_l c2
      have o : ∀ c, (c < 57 ∨ (58 ≤ c ∧ c ≤ 63) ∨ 68 ≤ c) → σ' c = τ c := fun c hc => q5.1 c (by simp only [List.mem_cons, List.not_mem_nil, or_false]; omega) (by omega)
      have hsn := b5 0 e (by rw [hds]; rfl)
      rw [hds, show (e :: t).length - 1 - 0 = t.length from hlen] at hsn
      refine ⟨q2, ⟨⟨?_, ⟨fun i hi => ?_, fun i hi => ?_⟩, fun r q hr hq => ?_, fun i hi => ?_, fun i hi => ?_, ?_⟩, ?_, fun P hP => ?_, q3, fun k d hd => ?_, fun i hi => by rw [o 86 (by omega), o 87 (by omega), o 88 (by omega)]; exact b6 i hi⟩, fun c hc => o c (by omega)⟩
      · rw [q5.2 0 (by decide)]; exact a1
      · rw [o 58 (by omega), o 59 (by omega), o 60 (by omega), o 61 (by omega), o 62 (by omega), o 63 (by omega)]; exact a2.1 i hi
      · rw [o 68 (by omega)]; exact a2.2 i hi
      · rw [o 69 (by omega)]; exact a3 r q hr hq
      · rw [o 70 (by omega)]; exact a4 i hi
      · rw [o 71 (by omega)]; exact a5 i (Nat.lt_of_lt_of_le hi hle)
      · exact coM_c hsn ok.1.1.1 (fun j hj => (p1 j hj).1.symm) (fun j hj => (p1 j hj).2.symm) (fun j hj => (p2 j hj).symm) (fun j hj => by rcases (show j = 0 ∨ j = 1 by omega) with rfl | rfl; exact p3.symm; exact p4.symm) p5.symm
      · rw [q5.2 18 (by decide)]; exact b2
      · have := b3 P hP
        unfold RIm at this ⊢
        rw [o 73 (by omega)]
        exact this
      · have hk := b5 (k + 1) d (by rw [hds]; exact hd)
        rw [hds] at hk
        have e1 : (e :: t).length - 1 - (k + 1) = t.length - 1 - k := by simp; omega
        rw [e1] at hk
        show coM S.1.1 (aLa (kA S.1)) d.2 (sh_ (σ' 72) (43 * (t.length - 1 - k))) (sh_ (σ' 72) (43 * (t.length - 1 - k) + 10)) (sh_ (σ' 72) (43 * (t.length - 1 - k) + 20)) (sh_ (σ' 72) (43 * (t.length - 1 - k) + 40)) (σ' 72 (43 * (t.length - 1 - k) + 42))
        rw [o 72 (by omega)]
        exact hk
/- leave -/
abbrev wlv (w : Int32) (j : Nat) : Int32 := w &&& ((1 : Int32) <<< (nI j &&& 31) ^^^ -1)
abbrev pLv (P : sKp) (j : Nat) : sKp := pO P (wlv (cW P) j, cG P, cB P, cL P)
def zLv (S : zS) (x : Int32) : Int32 × zS := if ¬ iN S.1.1 x then (-2, S) else if bt (cW S.1) x.toNatClampNeg = false then (-3, S) else
  (nI ((lA (pLv S.1 x.toNatClampNeg)).length + (lB (pLv S.1 x.toNatClampNeg)).length), (pLv S.1 x.toNatClampNeg, S.2.1, dpush (zDs S) ((1 : Int32) <<< (nI x.toNatClampNeg &&& 31), kO S.1), S.2.2.2))
theorem zLv_2 {x : Int32} (h : ¬ iN S.1.1 x) : zLv S x = (-2, S) := by unfold zLv; rw [if_pos h]
theorem zLv_3 {j : Nat} (hn : S.1.1 ≤ 10) (hj : j < S.1.1) (h : bt (cW S.1) j = false) : zLv S (nI j) = (-3, S) := by
  have e : (nI j).toNatClampNeg = j := nI_clamp (by omega)
  unfold zLv
  rw [e, if_neg (fun z => z (iN_nI hj (by omega))), if_pos h]
theorem zLv_y {j : Nat} (hn : S.1.1 ≤ 10) (hj : j < S.1.1) (h : bt (cW S.1) j = true) : zLv S (nI j) = (nI ((lA (pLv S.1 j)).length + (lB (pLv S.1 j)).length), (pLv S.1 j, S.2.1, dpush (zDs S) ((1 : Int32) <<< (nI j &&& 31), kO S.1), S.2.2.2)) := by
  have e : (nI j).toNatClampNeg = j := nI_clamp (by omega)
  unfold zLv
  rw [e, if_neg (fun z => z (iN_nI hj (by omega))), if_neg (by rw [h]; decide)]
theorem lv_tbk {j : Nat} (ok : sOk S) (hj : j < S.1.1) (h : bt (cW S.1) j = true) : tbk (wlv (cW S.1) j, cG S.1, cB S.1, cL S.1) ((1 : Int32) <<< (nI j &&& 31)) (kO S.1) := by
  have hn := ok.1.1.1
  obtain ⟨f1, f2, f3, f4, f5, f6⟩ := ok.1.2.2.1
  have hg := f3 j (by omega) h
  refine ⟨b_ext (fun i hi => ?_), b_ext (fun i hi => ?_), fun i hi => ?_, ?_⟩
  · dsimp only
    rw [b_setb (by omega) hi, b_clr (by omega) hi]
    by_cases e : i = j
    · subst e; simp [h]
    · simp [e]
  · dsimp only
    rw [b_and, b_not hi, b_bit j (by omega) i hi]
    by_cases e : i = j
    · subst e; simp [hg]
    · simp [e]
  · dsimp only
    rw [b_bit j (by omega) i (by omega)]
    by_cases e : i = j
    · subst e; simp; exact f4 i hi h
    · simp [e]
  · have : (1 : Int32) <<< (nI j &&& 31) &&& cG S.1 = 0 := b_zero.mpr (fun i hi => by
      rw [b_and, b_bit j (by omega) i hi]
      by_cases e : i = j
      · subst e; simp [hg]
      · simp [e])
    dsimp only
    rw [if_pos this]
theorem lv_lane {n j : Nat} {w l : Int32} {La : Nat → Int32} (hn : n ≤ 10) (hj : j < n) : laneL n (wlv w j) La l = (laneL n w La l).filter (fun z => !decide (z = j)) := by
  unfold laneL
  rw [List.filter_filter]
  refine List.filter_congr (fun y hy => ?_)
  rw [lnp_clr hn (by omega), Bool.and_comm]
theorem bc_ll {a : sAt} {n : Nat} {w : Int32} (hA : aOk a n) (hw : ∀ j, j < 32 → bt w j = true → j < n) : bcI w = nI ((laneL n w (aLa a) 0).length + (laneL n w (aLa a) 1).length) := by
  have hn := hA.1
  have h1 : ∀ j, j < 32 → bt w j = decide (j ∈ laneL n w (aLa a) 0 ++ laneL n w (aLa a) 1) := fun j hj => by
    have := laneL_or (a := a) hA hw hj
    cases hb : bt w j with
    | true => exact (decide_eq_true (List.mem_append.mpr (this.mpr hb))).symm
    | false => exact (decide_eq_false (fun q => by have := this.mp (List.mem_append.mp q); rw [hb] at this; cases this)).symm
  have h2 : (laneL n w (aLa a) 0 ++ laneL n w (aLa a) 1).Nodup := List.nodup_append.mpr ⟨laneL_nodup _ _ _ _, laneL_nodup _ _ _ _, fun x hx y hy e => laneL_apart x hx (by rw [e]; exact hy)⟩
  rw [bc_in h1 h2 (fun y hy => ?_), List.length_append]
  rcases List.mem_append.mp hy with q | q
  · have := (lnp_lt q).1; omega
  · have := (lnp_lt q).1; omega
theorem lv_bc (ok : sOk S) {j : Nat} (hj : j < S.1.1) : bcI (wlv (cW S.1) j) = nI ((lA (pLv S.1 j)).length + (lB (pLv S.1 j)).length) := by
  have hn := ok.1.1.1
  exact bc_ll (a := kA S.1) (n := S.1.1) (w := wlv (cW S.1) j) ok.1.1 (fun i hi hb => by
    rw [b_clr (by omega) hi, Bool.and_eq_true] at hb
    exact ok.1.2.2.1.1 i hi hb.1)
theorem so_leave (ok : sOk S) (x : Int32) : sOk (zLv S x).2 := by
  have hn := ok.1.1.1
  by_cases h1 : iN S.1.1 x
  · obtain ⟨j, hj, _, rfl⟩ := iN_of h1
    cases h2 : bt (cW S.1) j with
    | false => rw [zLv_3 hn hj h2]; exact ok
    | true =>
      rw [zLv_y hn hj h2]
      obtain ⟨f1, f2, f3, f4, f5, f6⟩ := ok.1.2.2.1
      have hs : ∀ i, i < 32 → bt (wlv (cW S.1) j) i = true → bt (cW S.1) i = true := fun i hi hb => by
        rw [b_clr (by omega) hi, Bool.and_eq_true] at hb
        exact hb.1
      have h6 := dpush_len (e := ((1 : Int32) <<< (nI j &&& 31), kO S.1)) ok.2.2.2
      refine ⟨⟨ok.1.1, ok.1.2.1, ⟨fun i hi hb => f1 i hi (hs i hi hb), f2, fun i hi hb => f3 i hi (hs i hi hb), fun i hi hb => f4 i hi (hs i (by omega) hb), f5, f6⟩, ok.1.2.2.2⟩, ok.2.1, chOk_push ok.2.2.1 ok.1.2.2.1 (lv_tbk ok hj h2), ?_⟩
      show (dpush (zDs S) _).length ≤ 6
      rw [h6]
      split
      · omega
      · exact Nat.le_refl _
  · rw [zLv_2 h1]; exact ok
theorem kc_leave (ok : sOk S) (h : CH0 τ S) {x : Int32} (q : lvQ τ S.1.1 (zDs S).length x r σ') : zC τ (zLv S x) r σ' := by
  have hn := ok.1.1.1
  obtain ⟨⟨a1, a2, a3, a4, a5, a6, a7, a8, a9⟩, b2, b3, b4, b5, b6⟩ := id h
  rcases q with ⟨q1, q2, q3⟩ | ⟨j, hj, rfl, ⟨q1, q2, q3⟩ | ⟨q1, q2, _, ⟨f1, f2, f3⟩, q3, q4⟩⟩
  · rw [zLv_2 q1]; subst q3; exact ⟨q2, h, fun _ _ => rfl⟩
  · rw [a2] at q1; rw [zLv_3 hn hj q1]; subst q3; exact ⟨q2, h, fun _ _ => rfl⟩
  · rw [a2] at q1
    have okn := so_leave ok (nI j)
    rw [zLv_y hn hj q1] at okn ⊢
    have o : ∀ c, c ≠ 25 → c ≠ 0 → c ≠ 1 → σ' c = τ c := fun c h25 h0 h1 => (f1 c (by simpa using h25) h0 h1).trans (x_up_ne h1)
    have o1 : σ' 1 = upd (τ 1) 1 (wlv (cW S.1) j) := by
      funext i
      rw [f3 i (by simp), x_up_eq, a2]
    have hb2 : bcI (wlv (cW S.1) j) = nI ((lA (pLv S.1 j)).length + (lB (pLv S.1 j)).length) := lv_bc ok hj
    refine ⟨?_, ⟨⟨by rw [o1, upd_ne (by decide)]; exact a1, by rw [o1, upd_eq]; rfl, by rw [o1, upd_ne (by decide)]; exact a3, by rw [o1, upd_ne (by decide)]; exact a4, ⟨fun i hi => ?_, fun i hi => ?_⟩, fun i hi => ?_, fun r q hr hq => ?_, fun i hi => ?_, fun i hi => ?_⟩, ?_, fun P hP => ?_, ?_, ?_, fun i hi => by rw [o (49 + 2 * i) (by omega) (by omega) (by omega), o (50 + 2 * i) (by omega) (by omega) (by omega)]; exact b6 i hi⟩, fun c hc => o c (by omega) (by omega) (by omega)⟩
    · rw [q2, a2, hb2]
    · rw [o 2 (by decide) (by decide) (by decide), o 3 (by decide) (by decide) (by decide), o 4 (by decide) (by decide) (by decide), o 5 (by decide) (by decide) (by decide), o 6 (by decide) (by decide) (by decide), o 7 (by decide) (by decide) (by decide)]; exact a5.1 i hi
    · rw [o 9 (by decide) (by decide) (by decide)]; exact a5.2 i hi
    · rw [o 8 (by decide) (by decide) (by decide)]; exact a6 i hi
    · rw [o 10 (by decide) (by decide) (by decide)]; exact a7 r q hr hq
    · rw [o 11 (by decide) (by decide) (by decide)]; exact a8 i hi
    · rw [o 12 (by decide) (by decide) (by decide)]; exact a9 i hi
    · rw [f2 2 (by decide), x_up_ne (by decide)]; exact b2
    · have := b3 P hP
      unfold CK13 at this ⊢
      rw [o 13 (by decide) (by decide) (by decide), o 14 (by decide) (by decide) (by decide), o 15 (by decide) (by decide) (by decide), o 16 (by decide) (by decide) (by decide), o 17 (by decide) (by decide) (by decide), o 18 (by decide) (by decide) (by decide), o 19 (by decide) (by decide) (by decide), o 20 (by decide) (by decide) (by decide), o 21 (by decide) (by decide) (by decide), o 22 (by decide) (by decide) (by decide), o 23 (by decide) (by decide) (by decide), o 24 (by decide) (by decide) (by decide)]
      exact this
    · rw [q3]
      show _ = nI (dpush (zDs S) _).length
      rw [dpush_len ok.2.2.2]
    · exact CDe_push ok.2.2.2 b5 (fun k hk => by rw [q4 k hk, x_up_ne (by decide)])
theorem km_leave (ok : sOk S) (h : RH0 τ S) {x : Int32} (q : lvM τ S.1.1 (zDs S).length (lA S.1) (lB S.1) x r σ') : zM τ (zLv S x) r σ' := by
  have hn := ok.1.1.1
  obtain ⟨⟨a1, a2, a3, a4, a5, a6⟩, b2, b3, b4, b5, b6⟩ := id h
  rcases q with ⟨q1, q2, q3⟩ | ⟨j, hj, rfl, ⟨q1, q2, q3⟩ | ⟨q0, q1, q2, q3, q4, σ1, hk, q5, q6⟩⟩
  · rw [zLv_2 q1]; subst q3; exact ⟨q2, h, fun _ _ => rfl⟩
  · rw [a6.1 j hj] at q1
    rw [zLv_3 hn hj (st_0f.mp q1)]; subst q3; exact ⟨q2, h, fun _ _ => rfl⟩
  · rw [a6.1 j hj] at q0
    have hb := st_0.mp q0
    rw [zLv_y hn hj hb]
    have eA : lA (pLv S.1 j) = (lA S.1).filter (fun z => !decide (z = j)) := lv_lane hn hj
    have eB : lB (pLv S.1 j) = (lB S.1).filter (fun z => !decide (z = j)) := lv_lane hn hj
    have o : ∀ c, (c < 57 ∨ (58 ≤ c ∧ c ≤ 63) ∨ c = 65 ∨ (68 ≤ c ∧ c ≤ 71) ∨ 73 ≤ c) → σ' c = τ c := fun c hc => q4.1 c (by simp only [List.mem_cons, List.not_mem_nil, or_false]; omega) (by omega)
    obtain ⟨l1, l2, l3, l4, l5, l6⟩ := q3
    have hg := ok.1.2.2.1.2.2.1 j (by omega) hb
    refine ⟨by rw [q1, eA, eB], ⟨⟨by rw [q4.2 0 (by decide)]; exact a1, ⟨fun i hi => ?_, fun i hi => ?_⟩, fun r q hr hq => ?_, fun i hi => ?_, fun i hi => ?_, ⟨fun i hi => ?_, fun i hi => ?_, ?_, ?_, ?_, ?_, ?_⟩⟩, by rw [q4.2 18 (by decide)]; exact b2, fun P hP => ?_, ?_, ?_, fun i hi => by rw [o 86 (by omega), o 87 (by omega), o 88 (by omega)]; exact b6 i hi⟩, fun c hc => o c (by omega)⟩
    · rw [o 58 (by omega), o 59 (by omega), o 60 (by omega), o 61 (by omega), o 62 (by omega), o 63 (by omega)]; exact a2.1 i hi
    · rw [o 68 (by omega)]; exact a2.2 i hi
    · rw [o 69 (by omega)]; exact a3 r q hr hq
    · rw [o 70 (by omega)]; exact a4 i hi
    · rw [o 71 (by omega)]; exact a5 i hi
    · have hi : i < S.1.1 := hi
      rw [q2]
      show upd (τ 64) j 2 i = s_st (wlv (cW S.1) j) (cG S.1) i
      unfold s_st
      rw [b_clr (by omega) (by omega)]
      by_cases e : i = j
      · subst e; rw [upd_eq]; simp [hg]
      · rw [upd_ne e, a6.1 i hi]; unfold s_st; simp [e]
    · rw [o 65 (by omega)]; exact a6.2.1 i hi
    · show rowL (σ' 66) 0 (lA (pLv S.1 j))
      rw [eA]
      exact fun i x hx => by rw [Nat.zero_add]; exact l3 i x hx
    · show rowL (σ' 66) 10 (lB (pLv S.1 j))
      rw [eB]
      exact l4
    · show σ' 67 0 = nI (lA (pLv S.1 j)).length
      rw [eA]
      exact l5
    · show σ' 67 1 = nI (lB (pLv S.1 j)).length
      rw [eB]
      exact l6
    · rw [q4.2 14 (by decide)]; exact a6.2.2.2.2.2.2
    · have := b3 P hP
      unfold RIm at this ⊢
      rw [o 73 (by omega)]
      exact this
    · show σ' 57 16 = nI (dpush (zDs S) _).length
      rw [q6, hk.2.1, dpush_len ok.2.2.2]
      split <;> rfl
    · exact RDe_push hn ok.2.2.2 b5 a6 ⟨by rw [q6]; exact hk.2.1, by rw [q5]; exact hk.2.2.2.1, fun k hk2 => by rw [q5]; exact hk.2.2.2.2 k hk2⟩
end LV
