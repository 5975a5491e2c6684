/-! fill, in one value -/
section FL
variable {τ σ' : xSg} {S : zS} {r : Option Value}
def mkI : List Nat → Int32
  | [] => 0
  | x :: t => mkI t ||| ((1 : Int32) <<< (nI x &&& 31))
theorem mkI_bt : ∀ {L : List Nat}, (∀ x ∈ L, x < 32) → ∀ j, j < 32 → bt (mkI L) j = decide (j ∈ L)
  | [], _, j, hj => by unfold mkI; rw [b_0]; simp
  | x :: t, h, j, hj => by
    unfold mkI
    rw [b_setb (h x (by simp)) hj, mkI_bt (fun y hy => h y (by simp [hy])) j hj]
    by_cases e : j = x <;> simp [e]
theorem lds_nI {a : sAt} {n : Nat} (hA : aOk a n) : ∀ {W : List (Nat × Nat × Nat)}, (∀ q ∈ W, q.1 < n) → ∃ m, s_lds a W = nI m ∧ m ≤ 999 * W.length
  | [], _ => ⟨0, rfl, Nat.zero_le _⟩
  | q :: t, h => by
    obtain ⟨m, e, hm⟩ := lds_nI hA (W := t) (fun x hx => h x (by simp [hx]))
    obtain ⟨j, ej, -, hj⟩ := (hA.2.1 q.1 (h q (by simp))).2.2.2.1
    refine ⟨j + m, ?_, ?_⟩
    · unfold s_lds
      rw [e, ej, nI_add]
    · rw [List.length_cons]; omega
theorem nI_mulN (i j : Nat) : nI i * nI j = nI (i * j) := (Int32.ofNat_mul i j).symm
theorem mx_sub {p m : Nat} (hp : p ≤ 5940) (hm : m ≤ 9990) : ∃ k, x_mx 0 (nI p - nI m) = nI k ∧ k ≤ 5940 := by
  rcases Nat.le_total m p with h | h
  · refine ⟨p - m, ?_, by omega⟩
    have e : nI p - nI m = nI (p - m) := by
      rw [show nI p = nI (p - m) + nI m by rw [nI_add]; congr 1; omega, Int32.add_sub_cancel]
    rw [e]
    unfold x_mx
    by_cases q : 0 < nI (p - m)
    · rw [if_pos q]
    · rw [if_neg q]
      have : ¬ 0 < p - m := fun z => q (nI_lt (a := 0) z (by omega))
      rw [show p - m = 0 by omega]
      rfl
  · refine ⟨0, ?_, Nat.zero_le _⟩
    unfold x_mx
    rw [if_neg]
    · rfl
    · rw [Int32.lt_iff_toInt_lt, Int32.toInt_sub, nI_toInt (by omega), nI_toInt (by omega)]
      show ¬ (0 : Int) < _
      rw [Int.bmod_def]
      split <;> omega
theorem sp_nI {a : sAt} {n : Nat} {W : List (Nat × Nat × Nat)} (hA : aOk a n) (h : ∀ q ∈ W, q.1 < n) (hl : W.length ≤ 10) : ∃ k, s_spend a W = nI k ∧ k ≤ 5940 := by
  obtain ⟨m, e, hm⟩ := lds_nI hA h
  obtain ⟨-, -, ⟨x, ex, -, hx⟩, ⟨y, ey, -, hy⟩, ⟨z, ez, -, hz⟩, -⟩ := hA
  have h1 : x * y * z ≤ 20 * 3 * 99 := Nat.mul_le_mul (Nat.mul_le_mul hx hy) hz
  unfold s_spend
  rw [e, ex, ey, ez, nI_mulN, nI_mulN]
  exact mx_sub (by omega) (by omega)
abbrev zW (S : zS) : List (Nat × Nat × Nat) := s_went (zF S)
abbrev inW (S : zS) : Int32 := mkI ((zW S).map Prod.fst)
abbrev coF (S : zS) : sCo := (cW S.1 &&& (inW S ^^^ -1), cG S.1 ||| inW S, fun j => if j ∈ (zW S).map Prod.fst then nI (cL S.1) else cB S.1 j, cL S.1 + 1)
def pFl (S : zS) : sKp := (S.1.1, kA S.1, kT S.1, kC S.1, (fun k => if k = cL S.1 then (s_spend (kA S.1) (zW S)).toNatClampNeg else kL S.1 k), coF S)
def zFl (S : zS) : Int32 × zS := if zW S = [] then (-3, S) else if cL S.1 = 40 then (-4, S) else (nI (zW S).length, (pFl S, S.2.1, dpush (zDs S) (inW S, kO S.1), S.2.2.2))
theorem fl_in (S : zS) : ∀ x ∈ (zW S).map Prod.fst, x < S.1.1 ∧ bt (cW S.1) x = true := s_flw_in (a := kA S.1) (tk := kT S.1) (n := S.1.1) (w := cW S.1)
theorem fl_bt (ok : sOk S) : ∀ j, j < 32 → bt (inW S) j = decide (j ∈ (zW S).map Prod.fst) := mkI_bt (fun x hx => by have := (fl_in S x hx).1; have := ok.1.1.1; omega)
theorem fl_sp (ok : sOk S) : s_spend (kA S.1) (zW S) = nI (s_spend (kA S.1) (zW S)).toNatClampNeg ∧ (s_spend (kA S.1) (zW S)).toNatClampNeg ≤ 5940 := by
  obtain ⟨k, e, hk⟩ := sp_nI (a := kA S.1) (n := S.1.1) (W := zW S) ok.1.1 (fun q hq => (fl_in S q.1 (List.mem_map_of_mem hq)).1) (flw_len ok.1.1.1)
  rw [e, nI_clamp (by omega)]
  exact ⟨rfl, hk⟩
theorem fl_co (ok : sOk S) (h40 : ¬ cL S.1 = 40) : coOk S.1.1 (coF S) := by
  have hn := ok.1.1.1
  obtain ⟨f1, f2, f3, f4, f5, f6⟩ := ok.1.2.2.1
  have hb := fl_bt ok
  refine ⟨fun j hj h => ?_, fun j hj h => ?_, fun j hj h => ?_, fun j hj h => ?_, fun j hj => ?_, ?_⟩
  · dsimp only at h
    rw [b_and, Bool.and_eq_true] at h
    exact f1 j hj h.1
  · dsimp only at h
    rw [b_or, Bool.or_eq_true] at h
    rcases h with h | h
    · exact f2 j hj h
    · rw [hb j hj] at h
      exact (fl_in S j (of_decide_eq_true h)).1
  · dsimp only at h ⊢
    rw [b_and, b_not hj, Bool.and_eq_true] at h
    rw [b_or, f3 j hj h.1, Bool.false_or]
    have := h.2
    cases hq : bt (inW S) j with
    | false => rfl
    | true => rw [hq] at this; cases this
  · dsimp only at h ⊢
    rw [b_and, b_not (by omega), Bool.and_eq_true, hb j (by omega)] at h
    rw [if_neg (fun z => by have := h.2; rw [decide_eq_true z] at this; cases this)]
    exact f4 j hj h.1
  · dsimp only
    rw [if_neg (fun z => by have := (fl_in S j z).1; omega)]
    exact f5 j hj
  · have : cL S.1 ≤ 40 := f6
    show cL S.1 + 1 ≤ 40
    omega
theorem fl_tbk (ok : sOk S) (h0 : ¬ zW S = []) : tbk (coF S) (inW S) (kO S.1) := by
  have hn := ok.1.1.1
  obtain ⟨f1, f2, f3, f4, f5, f6⟩ := ok.1.2.2.1
  have hb := fl_bt ok
  have hw : ∀ j, j < 32 → bt (inW S) j = true → bt (cW S.1) j = true := fun j hj h => by
    rw [hb j hj] at h
    exact (fl_in S j (of_decide_eq_true h)).2
  refine ⟨b_ext (fun i hi => ?_), b_ext (fun i hi => ?_), fun i hi => ?_, ?_⟩
  · dsimp only
    rw [b_or, b_and, b_not hi]
    cases h : bt (inW S) i with
    | true => have := hw i hi h; simp [this]
    | false => simp
  · dsimp only
    rw [b_and, b_or, b_not hi]
    cases h : bt (inW S) i with
    | true => have := f3 i hi (hw i hi h); simp [this]
    | false => simp
  · dsimp only
    have e := hb i (by omega)
    cases h : bt (inW S) i with
    | true => rw [if_pos rfl]; exact f4 i hi (hw i (by omega) h)
    | false =>
      rw [h] at e
      rw [if_neg (by decide), if_neg (of_decide_eq_false e.symm)]
  · have : ¬ inW S &&& (cG S.1 ||| inW S) = 0 := fun z => by
      have hz : inW S = 0 := b_zero.mpr (fun i hi => by
        have := b_zero.mp z i hi
        rw [b_and, b_or] at this
        cases h : bt (inW S) i with
        | false => rfl
        | true => rw [h] at this; simp at this)
      exact h0 ((in_zero hb (fun x hx => by have := (fl_in S x hx).1; omega)).mp hz)
    dsimp only
    rw [if_neg this]
theorem zFl_3 (h : zW S = []) : zFl S = (-3, S) := by unfold zFl; rw [if_pos h]
theorem zFl_4 (h : ¬ zW S = []) (h4 : cL S.1 = 40) : zFl S = (-4, S) := by unfold zFl; rw [if_neg h, if_pos h4]
theorem zFl_y (h : ¬ zW S = []) (h4 : ¬ cL S.1 = 40) : zFl S = (nI (zW S).length, (pFl S, S.2.1, dpush (zDs S) (inW S, kO S.1), S.2.2.2)) := by unfold zFl; rw [if_neg h, if_neg h4]
theorem so_fill (ok : sOk S) : sOk (zFl S).2 := by
  by_cases h : zW S = []
  · rw [zFl_3 h]; exact ok
  · by_cases h4 : cL S.1 = 40
    · rw [zFl_4 h h4]; exact ok
    · rw [zFl_y h h4]
      have h6 := dpush_len (e := (inW S, kO S.1)) ok.2.2.2
      refine ⟨⟨ok.1.1, ok.1.2.1, fl_co ok h4, fun k hk => ?_, ok.1.2.2.2.2⟩, ok.2.1, chOk_push ok.2.2.1 ok.1.2.2.1 (fl_tbk ok h), ?_⟩
      · show (if k = cL S.1 then (s_spend (kA S.1) (zW S)).toNatClampNeg else kL S.1 k) ≤ 5940
        have hk : k < cL S.1 + 1 := hk
        by_cases e : k = cL S.1
        · rw [if_pos e]; exact (fl_sp ok).2
        · rw [if_neg e]; exact ok.1.2.2.2.1 k (by omega)
      · show (dpush (zDs S) _).length ≤ 6
        rw [h6]
        split
        · omega
        · exact Nat.le_refl _
theorem fl_lane (ok : sOk S) : lA (pFl S) = (zF S).1 ∧ lB (pFl S) = (zF S).2.1 := s_flw_nx (a := kA S.1) (tk := kT S.1) (n := S.1.1) (w := cW S.1) (inm := inW S) ok.1.1.1 (fl_bt ok)
theorem fl_bc (ok : sOk S) : bcI (inW S) = nI (zW S).length := bc_flw (a := kA S.1) (tk := kT S.1) (n := S.1.1) (w := cW S.1) (inm := inW S) ok.1.1.1 (fl_bt ok)
theorem kc_fill (hτ : nrm τ = τ) (ok : sOk S) (h : CH0 τ S) (q : flQ τ (atC τ) (s_went (s_flw (atC τ) (tkC τ) S.1.1 (τ 1 1))) (zDs S).length (cL S.1) r σ') : zC τ (zFl S) r σ' := by
  have hn := ok.1.1.1
  rw [c_flw hτ ok h, ch_at hτ ok h] at q
  obtain ⟨inm, σ1, e1, fr, q⟩ := q
  have ei : inm = inW S := b_ext (fun i hi => by rw [e1 i hi, fl_bt ok i hi])
  subst ei
  have k : ∀ c, (c ≤ 25 ∨ 48 ≤ c) → σ1 c = τ c := fun c hc => fr c (by unfold scC; simp only [List.mem_cons, List.not_mem_nil, or_false]; omega)
  rcases q with ⟨q1, q2, q3⟩ | ⟨q1, q2, q3, q4⟩ | ⟨q1, q2, q3, σ2, ⟨-, ⟨g1, g2, g3⟩, g4, g5, g6, g7, g8⟩, -, ⟨t1, t2, t3⟩, t4, t5⟩
  · rw [zFl_3 q1]; subst q3; exact ⟨q2, CH0_fr h (fun c hc => k c (by omega)), fun c hc => k c (by omega)⟩
  · rw [zFl_4 q1 q2]; subst q4; exact ⟨q3, CH0_fr h (fun c hc => k c (by omega)), fun c hc => k c (by omega)⟩
  · have h4 : ¬ cL S.1 = 40 := by omega
    obtain ⟨⟨a1, a2, a3, a4, a5, a6, a7, a8, a9⟩, b2, b3, b4, b5, b6⟩ := id h
    have o : ∀ c, (c ≤ 25 ∨ 48 ≤ c) → c ≠ 25 → c ≠ 0 → c ≠ 1 → c ≠ 8 → c ≠ 12 → σ' c = τ c := fun c hc h25 h0 h1 h8 h12 => (t1 c (by simpa using h25) h0 h1).trans ((g1 c (by simp only [List.mem_cons, List.not_mem_nil, or_false]; omega) h0 h1).trans (k c hc))
    have o1 : ∀ i, i ≠ 1 → i ≠ 2 → i ≠ 13 → σ' 1 i = τ 1 i := fun i x1 x2 x3 => (t3 i (by simp)).trans ((g3 i (by simp only [List.mem_cons, List.not_mem_nil, or_false]; omega)).trans (congrFun (k 1 (by omega)) i))
    have hs := fl_sp ok
    have h8 : ∀ j, j < 10 → σ' 8 j = if j ∈ (zW S).map Prod.fst then nI (cL S.1) else cB S.1 j := fun j hj => by
      rw [t1 8 (by decide) (by decide) (by decide), g8 j hj, k 8 (by omega), a6 j hj, fl_bt ok j (by omega)]
      by_cases e : j ∈ (zW S).map Prod.fst
      · rw [if_pos e, if_pos (decide_eq_true e)]
      · rw [if_neg e, if_neg (by rw [decide_eq_false e]; decide)]
    rw [zFl_y q1 h4]
    refine ⟨by rw [q3, fl_bc ok], ⟨⟨by rw [o1 0 (by decide) (by decide) (by decide)]; exact a1, ?_, ?_, ?_, ⟨fun i hi => ?_, fun i hi => ?_⟩, h8, fun r q hr hq => ?_, fun i hi => ?_, fun i hi => ?_⟩, ?_, fun P hP => ?_, ?_, ?_, fun i hi => ?_⟩, fun c hc => o c (by omega) (by omega) (by omega) (by omega) (by omega) (by omega)⟩
    · rw [t3 1 (by simp), g4, k 1 (by omega), a2]; rfl
    · rw [t3 2 (by simp), g5, k 1 (by omega), a3]; rfl
    · rw [t3 13 (by simp), g6]; rfl
    · rw [o 2 (by omega) (by decide) (by decide) (by decide) (by decide) (by decide), o 3 (by omega) (by decide) (by decide) (by decide) (by decide) (by decide), o 4 (by omega) (by decide) (by decide) (by decide) (by decide) (by decide), o 5 (by omega) (by decide) (by decide) (by decide) (by decide) (by decide), o 6 (by omega) (by decide) (by decide) (by decide) (by decide) (by decide), o 7 (by omega) (by decide) (by decide) (by decide) (by decide) (by decide)]; exact a5.1 i hi
    · rw [o 9 (by omega) (by decide) (by decide) (by decide) (by decide) (by decide)]; exact a5.2 i hi
    · rw [o 10 (by omega) (by decide) (by decide) (by decide) (by decide) (by decide)]; exact a7 r q hr hq
    · rw [o 11 (by omega) (by decide) (by decide) (by decide) (by decide) (by decide)]; exact a8 i hi
    · have hi : i < cL S.1 + 1 := hi
      rw [t1 12 (by decide) (by decide) (by decide), g7, k 12 (by omega)]
      show _ = nI (if i = cL S.1 then (s_spend (kA S.1) (zW S)).toNatClampNeg else kL S.1 i)
      by_cases e : i = cL S.1
      · rw [if_pos e, e, upd_eq]; exact hs.1
      · rw [if_neg e, upd_ne e]; exact a9 i (by omega)
    · rw [t2 2 (by decide), g2 2 (by simp), k 0 (by omega)]; exact b2
    · have := b3 P hP
      unfold CK13 at this ⊢
      have o' : ∀ c, 13 ≤ c → c ≤ 24 → σ' c = τ c := fun c h1 h2 => o c (by omega) (by omega) (by omega) (by omega) (by omega) (by omega)
      rw [o' 13 (by decide) (by decide), o' 14 (by decide) (by decide), o' 15 (by decide) (by decide), o' 16 (by decide) (by decide), o' 17 (by decide) (by decide), o' 18 (by decide) (by decide), o' 19 (by decide) (by decide), o' 20 (by decide) (by decide), o' 21 (by decide) (by decide), o' 22 (by decide) (by decide), o' 23 (by decide) (by decide), o' 24 (by decide) (by decide)]
      exact this
    · rw [t4]
      show _ = nI (dpush (zDs S) _).length
      rw [dpush_len ok.2.2.2]
    · exact CDe_push ok.2.2.2 b5 (fun j hj => by rw [t5 j hj, g1 25 (by decide) (by decide) (by decide), k 25 (by omega)])
    · rw [o (49 + 2 * i) (by omega) (by omega) (by omega) (by omega) (by omega) (by omega), o (50 + 2 * i) (by omega) (by omega) (by omega) (by omega) (by omega) (by omega)]; exact b6 i hi
theorem km_fill (hτ : nrm τ = τ) (ok : sOk S) (h : RH0 τ S) (q : flM τ (atM τ) (s_fill (atM τ) (tkM τ) (lA S.1) (lB S.1)) (zDs S).length (cL S.1) r σ') : zM τ (zFl S) r σ' := by
  have hn := ok.1.1.1
  rw [m_fil hτ ok h, rh_at hτ ok h] at q
  rcases q with ⟨q1, q2, q3⟩ | ⟨q1, q2, q3, q4⟩ | ⟨q1, q2, q3, g1, g2, g3, g4, g5, g6, g7, g8, g9, f1, f2⟩
  · rw [zFl_3 q1]; exact ⟨q2, ro_m h q3⟩
  · rw [zFl_4 q1 q2]; exact ⟨q3, ro_m h q4⟩
  · have h4 : ¬ cL S.1 = 40 := by omega
    obtain ⟨⟨a1, a2, a3, a4, a5, a6⟩, b2, b3, b4, b5, b6⟩ := id h
    have o : ∀ c, (c < 57 ∨ (58 ≤ c ∧ c ≤ 63) ∨ (68 ≤ c ∧ c ≤ 70) ∨ c = 73 ∨ 86 ≤ c) → σ' c = τ c := fun c hc => f1 c (by unfold scM; simp only [List.cons_append, List.nil_append, List.mem_cons, List.not_mem_nil, or_false]; omega) (by omega)
    have o1 : ∀ i, (i = 0 ∨ i = 18) → σ' 57 i = τ 57 i := fun i hi => f2 i (by unfold scP; simp only [List.cons_append, List.nil_append, List.mem_cons, List.not_mem_nil, or_false]; omega)
    have hs := fl_sp ok
    have hl := fl_lane ok
    rw [zFl_y q1 h4]
    refine ⟨q3, ⟨⟨by rw [o1 0 (by decide)]; exact a1, ⟨fun i hi => ?_, fun i hi => ?_⟩, fun r q hr hq => ?_, fun i hi => ?_, fun i hi => ?_, ⟨fun i hi => ?_, fun i hi => ?_, ?_, ?_, ?_, ?_, ?_⟩⟩, by rw [o1 18 (by decide)]; exact b2, fun P hP => ?_, ?_, ?_, fun i hi => by rw [o 86 (by omega), o 87 (by omega), o 88 (by omega)]; exact b6 i hi⟩, fun c hc => o c (by omega)⟩
    · rw [o 58 (by omega), o 59 (by omega), o 60 (by omega), o 61 (by omega), o 62 (by omega), o 63 (by omega)]; exact a2.1 i hi
    · rw [o 68 (by omega)]; exact a2.2 i hi
    · rw [o 69 (by omega)]; exact a3 r q hr hq
    · rw [o 70 (by omega)]; exact a4 i hi
    · have hi : i < cL S.1 + 1 := hi
      rw [g3]
      show _ = nI (if i = cL S.1 then (s_spend (kA S.1) (zW S)).toNatClampNeg else kL S.1 i)
      by_cases e : i = cL S.1
      · rw [if_pos e, e, upd_eq]; exact hs.1
      · rw [if_neg e, upd_ne e]; exact a5 i (by omega)
    · have hi : i < S.1.1 := hi
      rw [g1 i (by omega)]
      show _ = s_st (cW S.1 &&& (inW S ^^^ -1)) (cG S.1 ||| inW S) i
      unfold s_st
      rw [b_and, b_not (by omega), b_or, fl_bt ok i (by omega)]
      by_cases e : i ∈ (zW S).map Prod.fst
      · rw [if_pos e, decide_eq_true e]; simp
      · rw [if_neg e, decide_eq_false e, a6.1 i hi]; unfold s_st; simp
    · rw [g2 i hi]
      show _ = if i ∈ (zW S).map Prod.fst then nI (cL S.1) else cB S.1 i
      rw [a6.2.1 i hi]
    · show rowL (σ' 66) 0 (lA (pFl S))
      rw [hl.1]; exact g4
    · show rowL (σ' 66) 10 (lB (pFl S))
      rw [hl.2]; exact g5
    · show σ' 67 0 = nI (lA (pFl S)).length
      rw [hl.1]; exact g6
    · show σ' 67 1 = nI (lB (pFl S)).length
      rw [hl.2]; exact g7
    · exact g8
    · have := b3 P hP
      unfold RIm at this ⊢
      rw [o 73 (by omega)]
      exact this
    · show σ' 57 16 = nI (dpush (zDs S) _).length
      rw [g9.1, dpush_len ok.2.2.2]
      split <;> rfl
    · exact RDe_push hn ok.2.2.2 b5 a6 g9
end FL
