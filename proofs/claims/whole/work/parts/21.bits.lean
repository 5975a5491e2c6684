/-! what a filling does to the lanes, and counting bits -/
theorem s_step_w {a : sAt} {s s' : sSt} {A0 B0 : List Nat} (hA : A0.Nodup) (hB : B0.Nodup) (hd : ∀ x, x ∈ A0 → x ∈ B0 → False) (h : s_step a s = some s')
    (i1 : s.1 = A0.filter (fun x => !decide (x ∈ (s_went s).map Prod.fst))) (i2 : s.2.1 = B0.filter (fun x => !decide (x ∈ (s_went s).map Prod.fst))) (i3 : ∀ x ∈ (s_went s).map Prod.fst, x ∈ A0 ∨ x ∈ B0) (i4 : ((s_went s).map Prod.fst).Nodup) :
    s'.1 = A0.filter (fun x => !decide (x ∈ (s_went s').map Prod.fst)) ∧ s'.2.1 = B0.filter (fun x => !decide (x ∈ (s_went s').map Prod.fst)) ∧ (∀ x ∈ (s_went s').map Prod.fst, x ∈ A0 ∨ x ∈ B0) ∧ ((s_went s').map Prod.fst).Nodup := by
  obtain ⟨A, B, o0, o1, lt, F⟩ := s
  unfold s_step at h
  dsimp only at h i1 i2
  unfold s_went at i1 i2 i3 i4
  dsimp only at i1 i2 i3 i4
  have grow : ∀ (x r p : Nat) (C : List Nat), C.filter (fun y => !decide (y ∈ (F.2 ++ [(x, r, p)]).map Prod.fst)) = (C.filter (fun y => !decide (y ∈ F.2.map Prod.fst))).filter (fun y => !decide (y = x)) := by
    intro x r p C
    rw [List.filter_filter]
    refine List.filter_congr (fun y _ => ?_)
    rw [wmem, Bool.not_or, Bool.and_comm]
  have keep : ∀ (x r p : Nat) (C : List Nat), x ∉ C → C.filter (fun y => !decide (y ∈ (F.2 ++ [(x, r, p)]).map Prod.fst)) = C.filter (fun y => !decide (y ∈ F.2.map Prod.fst)) := by
    intro x r p C hx
    refine List.filter_congr (fun y hy => ?_)
    rw [wmem]
    have : decide (y = x) = false := decide_eq_false (fun q => hx (q ▸ hy))
    rw [this, Bool.or_false]
  have more : ∀ (x r p : Nat), (x ∈ A0 ∨ x ∈ B0) → x ∉ F.2.map Prod.fst → (∀ y ∈ (F.2 ++ [(x, r, p)]).map Prod.fst, y ∈ A0 ∨ y ∈ B0) ∧ ((F.2 ++ [(x, r, p)]).map Prod.fst).Nodup := by
    intro x r p hx hn
    rw [List.map_append]
    refine ⟨fun y hy => ?_, ?_⟩
    · rcases List.mem_append.mp hy with hy | hy
      · exact i3 y hy
      · rw [List.mem_singleton.mp hy]; exact hx
    · refine List.nodup_append.mpr ⟨i4, by simp, fun y hy z hz => ?_⟩
      rw [List.mem_singleton.mp hz]
      exact fun q => hn (by rw [show y = x from q] at hy; exact hy)
  split at h
  · cases h
  next x hp =>
    obtain ⟨t, ht⟩ := s_pick_0 hp
    obtain ⟨rfl, rfl⟩ := s_opn_c ht
    split at h
    next F2 hF =>
      cases h
      obtain ⟨r, p, hw⟩ := s_in_w hF
      have hxm : x ∈ A0.filter (fun y => !decide (y ∈ F.2.map Prod.fst)) := by rw [← i1]; exact List.mem_cons_self
      have hx0 := (List.mem_filter.mp hxm)
      have hxn : x ∉ F.2.map Prod.fst := by simpa using hx0.2
      have hnd : (x :: t).Nodup := by rw [i1]; exact hA.filter _
      unfold s_went
      dsimp only
      rw [hw]
      refine ⟨?_, ?_, more x r p (Or.inl hx0.1) hxn⟩
      · rw [grow, ← i1, List.filter_cons_of_neg (by simp), List.filter_eq_self.mpr]
        · rfl
        · intro y hy
          have : y ≠ x := fun q => (List.nodup_cons.mp hnd).1 (q ▸ hy)
          simp [this]
      · rw [keep x r p B0 (fun q => hd x hx0.1 q), ← i2]
    next => cases h; exact ⟨i1, i2, i3, i4⟩
  next x hp =>
    obtain ⟨t, ht⟩ := s_pick_1 hp
    obtain ⟨rfl, rfl⟩ := s_opn_c ht
    split at h
    next F2 hF =>
      cases h
      obtain ⟨r, p, hw⟩ := s_in_w hF
      have hxm : x ∈ B0.filter (fun y => !decide (y ∈ F.2.map Prod.fst)) := by rw [← i2]; exact List.mem_cons_self
      have hx0 := (List.mem_filter.mp hxm)
      have hxn : x ∉ F.2.map Prod.fst := by simpa using hx0.2
      have hnd : (x :: t).Nodup := by rw [i2]; exact hB.filter _
      unfold s_went
      dsimp only
      rw [hw]
      refine ⟨?_, ?_, more x r p (Or.inr hx0.1) hxn⟩
      · rw [keep x r p A0 (fun q => hd x q hx0.1), ← i1]
      · rw [grow, ← i2, List.filter_cons_of_neg (by simp), List.filter_eq_self.mpr]
        · rfl
        · intro y hy
          have : y ≠ x := fun q => (List.nodup_cons.mp hnd).1 (q ▸ hy)
          simp [this]
    next => cases h; exact ⟨i1, i2, i3, i4⟩
theorem s_run_w {a : sAt} {A0 B0 : List Nat} (hA : A0.Nodup) (hB : B0.Nodup) (hd : ∀ x, x ∈ A0 → x ∈ B0 → False) : ∀ (n : Nat) (s : sSt), s.1 = A0.filter (fun x => !decide (x ∈ (s_went s).map Prod.fst)) → s.2.1 = B0.filter (fun x => !decide (x ∈ (s_went s).map Prod.fst)) → (∀ x ∈ (s_went s).map Prod.fst, x ∈ A0 ∨ x ∈ B0) → ((s_went s).map Prod.fst).Nodup →
    (s_run a n s).1 = A0.filter (fun x => !decide (x ∈ (s_went (s_run a n s)).map Prod.fst)) ∧ (s_run a n s).2.1 = B0.filter (fun x => !decide (x ∈ (s_went (s_run a n s)).map Prod.fst)) ∧ (∀ x ∈ (s_went (s_run a n s)).map Prod.fst, x ∈ A0 ∨ x ∈ B0) ∧ ((s_went (s_run a n s)).map Prod.fst).Nodup
  | 0, s, i1, i2, i3, i4 => ⟨i1, i2, i3, i4⟩
  | n + 1, s, i1, i2, i3, i4 => by
    cases hs : s_step a s with
    | none => rw [s_run_none hs]; exact ⟨i1, i2, i3, i4⟩
    | some s' =>
      rw [s_run_some hs]
      obtain ⟨j1, j2, j3, j4⟩ := s_step_w hA hB hd hs i1 i2 i3 i4
      exact s_run_w hA hB hd n s' j1 j2 j3 j4
theorem s_fill_w {a : sAt} {tk : sTk} {A B : List Nat} (hA : A.Nodup) (hB : B.Nodup) (hd : ∀ x, x ∈ A → x ∈ B → False) :
    (s_fill a tk A B).1 = A.filter (fun x => !decide (x ∈ (s_went (s_fill a tk A B)).map Prod.fst)) ∧ (s_fill a tk A B).2.1 = B.filter (fun x => !decide (x ∈ (s_went (s_fill a tk A B)).map Prod.fst)) ∧ (∀ x ∈ (s_went (s_fill a tk A B)).map Prod.fst, x ∈ A ∨ x ∈ B) ∧ ((s_went (s_fill a tk A B)).map Prod.fst).Nodup :=
  s_run_w hA hB hd 12 _ (List.filter_eq_self.mpr (fun _ _ => by simp [s_went])).symm (List.filter_eq_self.mpr (fun _ _ => by simp [s_went])).symm (by simp [s_went]) (by simp [s_went])
theorem fl_perm {l : List Nat} (hn : l.Nodup) (hl : ∀ x ∈ l, x < 10) : ((List.range 10).filter (fun x => decide (x ∈ l))).length = l.length := by
  refine List.Perm.length_eq ((List.perm_ext_iff_of_nodup (List.nodup_range.filter _) hn).mpr (fun x => ?_))
  rw [List.mem_filter, List.mem_range]
  exact ⟨fun q => of_decide_eq_true q.2, fun q => ⟨hl x q, decide_eq_true q⟩⟩
def bcI (x : Int32) : Int32 :=
  let x1 := x - ((x.toUInt32 >>> ((1 : Int32).toUInt32 &&& Int32.toUInt32 31)).toInt32 &&& 1431655765)
  let x2 := (x1 &&& 858993459) + ((x1.toUInt32 >>> ((2 : Int32).toUInt32 &&& Int32.toUInt32 31)).toInt32 &&& 858993459)
  let x3 := (x2 + (x2.toUInt32 >>> ((4 : Int32).toUInt32 &&& Int32.toUInt32 31)).toInt32) &&& 252645135
  let x4 := x3 + (x3.toUInt32 >>> ((8 : Int32).toUInt32 &&& Int32.toUInt32 31)).toInt32
  let x5 := x4 + (x4.toUInt32 >>> ((16 : Int32).toUInt32 &&& Int32.toUInt32 31)).toInt32
  x5 &&& 63
def pcn (x : Int32) : Nat := ((List.range 10).filter (bt x)).length
theorem bc_10 : ∀ m, m < 1024 → bcI (nI m) = nI (pcn (nI m)) := by decide +kernel
/-- a number without bits from the tenth on -/
theorem b_lt10 {x : Int32} (h : ∀ j, 10 ≤ j → j < 32 → bt x j = false) : ∃ m, m < 1024 ∧ x = nI m := by
  refine ⟨x.toBitVec.toNat, ?_, ?_⟩
  · refine Nat.lt_pow_two_of_testBit (n := 10) _ (fun i hi => ?_)
    by_cases h32 : i < 32
    · have := h i hi h32
      unfold bt at this
      rwa [BitVec.getLsbD] at this
    · exact Nat.testBit_lt_two_pow (Nat.lt_of_lt_of_le x.toBitVec.isLt (Nat.pow_le_pow_right (by decide) (by omega)))
  · refine Int32.toBitVec_inj.mp ?_
    show x.toBitVec = BitVec.ofNat 32 x.toBitVec.toNat
    simp
theorem bc_ok {x : Int32} (h : ∀ j, 10 ≤ j → j < 32 → bt x j = false) : bcI x = nI (pcn x) := by
  obtain ⟨m, hm, rfl⟩ := b_lt10 h
  exact bc_10 m hm
theorem bc_in {x : Int32} {l : List Nat} (hx : ∀ j, j < 32 → bt x j = decide (j ∈ l)) (hn : l.Nodup) (hl : ∀ y ∈ l, y < 10) : bcI x = nI l.length := by
  rw [bc_ok (fun j h1 h2 => by rw [hx j h2]; exact decide_eq_false (fun q => by have := hl j q; omega))]
  congr 1
  rw [← fl_perm hn hl]
  unfold pcn
  congr 1
  exact List.filter_congr (fun y hy => hx y (by have := List.mem_range.mp hy; omega))
set_option maxRecDepth 100000 in
theorem c_bitCount (σ : xSg) (x : Int32) : xPu M_J6_bitCount_0f7a4 [.int (x)] σ (.int (bcI x)) := by
  refine ctr_ev ok_J6_bitCount_0f7a4 (by decide +kernel) rfl rfl rfl ?_
  show xEv (.inl 0) M_J6_bitCount_0f7a4 _ 0 ([some (.int (x))], [], σ)
  refine ev_blk 41 [] 52 ([some (.int (((((((x - (((x.toUInt32 >>> ((1 : Int32).toUInt32 &&& Int32.toUInt32 31)).toInt32) &&& (1431655765 : Int32))) &&& (858993459 : Int32)) + ((((x - (((x.toUInt32 >>> ((1 : Int32).toUInt32 &&& Int32.toUInt32 31)).toInt32) &&& (1431655765 : Int32))).toUInt32 >>> ((2 : Int32).toUInt32 &&& Int32.toUInt32 31)).toInt32) &&& (858993459 : Int32))) + (((((x - (((x.toUInt32 >>> ((1 : Int32).toUInt32 &&& Int32.toUInt32 31)).toInt32) &&& (1431655765 : Int32))) &&& (858993459 : Int32)) + ((((x - (((x.toUInt32 >>> ((1 : Int32).toUInt32 &&& Int32.toUInt32 31)).toInt32) &&& (1431655765 : Int32))).toUInt32 >>> ((2 : Int32).toUInt32 &&& Int32.toUInt32 31)).toInt32) &&& (858993459 : Int32))).toUInt32 >>> ((4 : Int32).toUInt32 &&& Int32.toUInt32 31)).toInt32)) &&& (252645135 : Int32)) + (((((((x - (((x.toUInt32 >>> ((1 : Int32).toUInt32 &&& Int32.toUInt32 31)).toInt32) &&& (1431655765 : Int32))) &&& (858993459 : Int32)) + ((((x - (((x.toUInt32 >>> ((1 : Int32).toUInt32 &&& Int32.toUInt32 31)).toInt32) &&& (1431655765 : Int32))).toUInt32 >>> ((2 : Int32).toUInt32 &&& Int32.toUInt32 31)).toInt32) &&& (858993459 : Int32))) + (((((x - (((x.toUInt32 >>> ((1 : Int32).toUInt32 &&& Int32.toUInt32 31)).toInt32) &&& (1431655765 : Int32))) &&& (858993459 : Int32)) + ((((x - (((x.toUInt32 >>> ((1 : Int32).toUInt32 &&& Int32.toUInt32 31)).toInt32) &&& (1431655765 : Int32))).toUInt32 >>> ((2 : Int32).toUInt32 &&& Int32.toUInt32 31)).toInt32) &&& (858993459 : Int32))).toUInt32 >>> ((4 : Int32).toUInt32 &&& Int32.toUInt32 31)).toInt32)) &&& (252645135 : Int32)).toUInt32 >>> ((8 : Int32).toUInt32 &&& Int32.toUInt32 31)).toInt32)) + ((((((((x - (((x.toUInt32 >>> ((1 : Int32).toUInt32 &&& Int32.toUInt32 31)).toInt32) &&& (1431655765 : Int32))) &&& (858993459 : Int32)) + ((((x - (((x.toUInt32 >>> ((1 : Int32).toUInt32 &&& Int32.toUInt32 31)).toInt32) &&& (1431655765 : Int32))).toUInt32 >>> ((2 : Int32).toUInt32 &&& Int32.toUInt32 31)).toInt32) &&& (858993459 : Int32))) + (((((x - (((x.toUInt32 >>> ((1 : Int32).toUInt32 &&& Int32.toUInt32 31)).toInt32) &&& (1431655765 : Int32))) &&& (858993459 : Int32)) + ((((x - (((x.toUInt32 >>> ((1 : Int32).toUInt32 &&& Int32.toUInt32 31)).toInt32) &&& (1431655765 : Int32))).toUInt32 >>> ((2 : Int32).toUInt32 &&& Int32.toUInt32 31)).toInt32) &&& (858993459 : Int32))).toUInt32 >>> ((4 : Int32).toUInt32 &&& Int32.toUInt32 31)).toInt32)) &&& (252645135 : Int32)) + (((((((x - (((x.toUInt32 >>> ((1 : Int32).toUInt32 &&& Int32.toUInt32 31)).toInt32) &&& (1431655765 : Int32))) &&& (858993459 : Int32)) + ((((x - (((x.toUInt32 >>> ((1 : Int32).toUInt32 &&& Int32.toUInt32 31)).toInt32) &&& (1431655765 : Int32))).toUInt32 >>> ((2 : Int32).toUInt32 &&& Int32.toUInt32 31)).toInt32) &&& (858993459 : Int32))) + (((((x - (((x.toUInt32 >>> ((1 : Int32).toUInt32 &&& Int32.toUInt32 31)).toInt32) &&& (1431655765 : Int32))) &&& (858993459 : Int32)) + ((((x - (((x.toUInt32 >>> ((1 : Int32).toUInt32 &&& Int32.toUInt32 31)).toInt32) &&& (1431655765 : Int32))).toUInt32 >>> ((2 : Int32).toUInt32 &&& Int32.toUInt32 31)).toInt32) &&& (858993459 : Int32))).toUInt32 >>> ((4 : Int32).toUInt32 &&& Int32.toUInt32 31)).toInt32)) &&& (252645135 : Int32)).toUInt32 >>> ((8 : Int32).toUInt32 &&& Int32.toUInt32 31)).toInt32)).toUInt32 >>> ((16 : Int32).toUInt32 &&& Int32.toUInt32 31)).toInt32)))], [.int ((((((((x - (((x.toUInt32 >>> ((1 : Int32).toUInt32 &&& Int32.toUInt32 31)).toInt32) &&& (1431655765 : Int32))) &&& (858993459 : Int32)) + ((((x - (((x.toUInt32 >>> ((1 : Int32).toUInt32 &&& Int32.toUInt32 31)).toInt32) &&& (1431655765 : Int32))).toUInt32 >>> ((2 : Int32).toUInt32 &&& Int32.toUInt32 31)).toInt32) &&& (858993459 : Int32))) + (((((x - (((x.toUInt32 >>> ((1 : Int32).toUInt32 &&& Int32.toUInt32 31)).toInt32) &&& (1431655765 : Int32))) &&& (858993459 : Int32)) + ((((x - (((x.toUInt32 >>> ((1 : Int32).toUInt32 &&& Int32.toUInt32 31)).toInt32) &&& (1431655765 : Int32))).toUInt32 >>> ((2 : Int32).toUInt32 &&& Int32.toUInt32 31)).toInt32) &&& (858993459 : Int32))).toUInt32 >>> ((4 : Int32).toUInt32 &&& Int32.toUInt32 31)).toInt32)) &&& (252645135 : Int32)) + (((((((x - (((x.toUInt32 >>> ((1 : Int32).toUInt32 &&& Int32.toUInt32 31)).toInt32) &&& (1431655765 : Int32))) &&& (858993459 : Int32)) + ((((x - (((x.toUInt32 >>> ((1 : Int32).toUInt32 &&& Int32.toUInt32 31)).toInt32) &&& (1431655765 : Int32))).toUInt32 >>> ((2 : Int32).toUInt32 &&& Int32.toUInt32 31)).toInt32) &&& (858993459 : Int32))) + (((((x - (((x.toUInt32 >>> ((1 : Int32).toUInt32 &&& Int32.toUInt32 31)).toInt32) &&& (1431655765 : Int32))) &&& (858993459 : Int32)) + ((((x - (((x.toUInt32 >>> ((1 : Int32).toUInt32 &&& Int32.toUInt32 31)).toInt32) &&& (1431655765 : Int32))).toUInt32 >>> ((2 : Int32).toUInt32 &&& Int32.toUInt32 31)).toInt32) &&& (858993459 : Int32))).toUInt32 >>> ((4 : Int32).toUInt32 &&& Int32.toUInt32 31)).toInt32)) &&& (252645135 : Int32)).toUInt32 >>> ((8 : Int32).toUInt32 &&& Int32.toUInt32 31)).toInt32)) + ((((((((x - (((x.toUInt32 >>> ((1 : Int32).toUInt32 &&& Int32.toUInt32 31)).toInt32) &&& (1431655765 : Int32))) &&& (858993459 : Int32)) + ((((x - (((x.toUInt32 >>> ((1 : Int32).toUInt32 &&& Int32.toUInt32 31)).toInt32) &&& (1431655765 : Int32))).toUInt32 >>> ((2 : Int32).toUInt32 &&& Int32.toUInt32 31)).toInt32) &&& (858993459 : Int32))) + (((((x - (((x.toUInt32 >>> ((1 : Int32).toUInt32 &&& Int32.toUInt32 31)).toInt32) &&& (1431655765 : Int32))) &&& (858993459 : Int32)) + ((((x - (((x.toUInt32 >>> ((1 : Int32).toUInt32 &&& Int32.toUInt32 31)).toInt32) &&& (1431655765 : Int32))).toUInt32 >>> ((2 : Int32).toUInt32 &&& Int32.toUInt32 31)).toInt32) &&& (858993459 : Int32))).toUInt32 >>> ((4 : Int32).toUInt32 &&& Int32.toUInt32 31)).toInt32)) &&& (252645135 : Int32)) + (((((((x - (((x.toUInt32 >>> ((1 : Int32).toUInt32 &&& Int32.toUInt32 31)).toInt32) &&& (1431655765 : Int32))) &&& (858993459 : Int32)) + ((((x - (((x.toUInt32 >>> ((1 : Int32).toUInt32 &&& Int32.toUInt32 31)).toInt32) &&& (1431655765 : Int32))).toUInt32 >>> ((2 : Int32).toUInt32 &&& Int32.toUInt32 31)).toInt32) &&& (858993459 : Int32))) + (((((x - (((x.toUInt32 >>> ((1 : Int32).toUInt32 &&& Int32.toUInt32 31)).toInt32) &&& (1431655765 : Int32))) &&& (858993459 : Int32)) + ((((x - (((x.toUInt32 >>> ((1 : Int32).toUInt32 &&& Int32.toUInt32 31)).toInt32) &&& (1431655765 : Int32))).toUInt32 >>> ((2 : Int32).toUInt32 &&& Int32.toUInt32 31)).toInt32) &&& (858993459 : Int32))).toUInt32 >>> ((4 : Int32).toUInt32 &&& Int32.toUInt32 31)).toInt32)) &&& (252645135 : Int32)).toUInt32 >>> ((8 : Int32).toUInt32 &&& Int32.toUInt32 31)).toInt32)).toUInt32 >>> ((16 : Int32).toUInt32 &&& Int32.toUInt32 31)).toInt32)) &&& (63 : Int32))], σ) rfl ?_ ?_
  · trivial
  exact ev_iret rfl rfl rfl ⟨rfl, rfl⟩
