theorem x_mem (i : Nat) {w : Cond} (h : lw_tbl[i]? = some w) (hg : goodWord w = true) : w ∈ x_tbl := List.mem_filter.mpr ⟨List.mem_of_getElem? h, hg⟩
def x_fokB (own : String) (q : Nat × Nat × Nat × Nat) : Bool := match vwCl[q.2.1]? with
  | some (_, T, N) => decide (q.2.2.1 < N) && decide (Cond.fieldLink own q.1 (T q.2.2.1).1 (T q.2.2.1).2.1 (T q.2.2.1).2.2.1 ∈ x_tbl) && (!(Nat.beq q.2.2.2 0) || (decide ((T q.2.2.1).2.2.1 = "I") && decide ((T q.2.2.1).2.2.2 = false))) && (!(Nat.beq q.2.2.2 1) || (decide ((T q.2.2.1).2.2.1 = "Z") && decide ((T q.2.2.1).2.2.2 = false)))
  | none => false
theorem x_fok_of {own : String} {q : Nat × Nat × Nat × Nat} (h : x_fokB own q = true) : x_fok own q := by
  unfold x_fokB at h
  split at h
  next C T N hc =>
    simp only [Bool.and_eq_true, decide_eq_true_eq, Bool.or_eq_true, Bool.not_eq_true'] at h
    obtain ⟨⟨⟨h1, h2⟩, h3⟩, h4⟩ := h
    exact ⟨C, T, N, hc, h1, h2, fun e => by rw [e] at h3; exact h3.resolve_left (by decide), fun e => by rw [e] at h4; exact h4.resolve_left (by decide)⟩
  next => cases h
def x_kokB (own : String) (q : Nat × Value) : Bool := match q.2 with
  | .int v => decide (Cond.constant own q.1 v ∈ x_tbl)
  | .long v => decide (Cond.constantLong own q.1 v ∈ x_tbl)
  | _ => false
theorem x_kok_of {own : String} {q : Nat × Value} (h : x_kokB own q = true) : x_kok own q := by
  unfold x_kokB at h
  unfold x_kok
  split at h
  next v hv => rw [hv]; exact of_decide_eq_true h
  next v hv => rw [hv]; exact of_decide_eq_true h
  next => cases h
def x_nokB (own : String) (q : Nat × Nat) : Bool := match q.2 with
  | 0 => decide (Cond.methodLink own q.1 Lib.Math.max.name ∈ x_tbl)
  | 1 => decide (Cond.methodLink own q.1 Lib.Math.min.name ∈ x_tbl)
  | _ => decide (Cond.methodLink own q.1 arraycopyName ∈ x_tbl)
theorem x_nok_of {own : String} {q : Nat × Nat} (h : x_nokB own q = true) : x_nok own q := by
  unfold x_nokB at h
  unfold x_nok
  split at h
  next hv => have h2 := of_decide_eq_true h; rw [hv]; exact h2
  next hv => have h2 := of_decide_eq_true h; rw [hv]; exact h2
  next n1 n2 =>
    split
    next e => exact absurd e n1
    next e => exact absurd e n2
    next => exact of_decide_eq_true h
def x_sokB (own : String) (q : Nat × Nat) : Bool := match x_nth x_csn q.2, x_nth x_cst q.2 with
  | some nm, some _ => decide (Cond.fieldLink own q.1 "LaneLock" nm "[I" ∈ x_tbl)
  | _, _ => false
theorem x_sok_of {own : String} {q : Nat × Nat} (h : x_sokB own q = true) : x_sok own q := by
  unfold x_sokB at h
  split at h
  next nm l h1 h2 => exact ⟨nm, h1, ⟨l, h2⟩, of_decide_eq_true h⟩
  next => cases h
theorem x_lkok_of {own : String} {X : xLK} (h : (X.1.all (x_fokB own) && X.2.1.all (x_sokB own) && X.2.2.1.all (x_kokB own) && X.2.2.2.all (x_nokB own)) = true) : x_lkok own X := by
  simp only [Bool.and_eq_true, List.all_eq_true] at h
  exact ⟨fun q hq => x_fok_of (h.1.1.1 q hq), fun q hq => x_sok_of (h.1.1.2 q hq), fun q hq => x_kok_of (h.1.2 q hq), fun q hq => x_nok_of (h.2 q hq)⟩
theorem x_ok_of {M : xM} (h1 : x_lkok (xM_own M) (xM_lk M)) (h2 : ((xM_tb M).all fun q => decide (decode (xM_code M) q.1 = .ok q.2)) = true) : x_ok M := by
  simp only [List.all_eq_true, decide_eq_true_eq] at h2
  exact ⟨h1, h2⟩
def lk_X0 : xLK := ([(9, 0, 2, 2), (15, 0, 3, 2), (18, 0, 0, 2), (22, 0, 1, 2), (35, 0, 4, 0), (39, 0, 5, 0), (42, 3, 1, 0), (61, 3, 10, 2), (67, 3, 7, 2)], [], [], [(70, 0)])
set_option maxRecDepth 20000 in
theorem lkok_X0 : x_lkok RX0 lk_X0 := x_lkok_of (by decide +kernel)
def lk_X1 : xLK := ([(9, 1, 3, 2), (15, 1, 4, 2), (18, 1, 5, 2), (21, 1, 0, 2), (30, 1, 1, 2), (34, 1, 2, 2), (47, 1, 6, 0), (51, 1, 7, 0), (54, 1, 8, 0), (57, 1, 9, 0)], [], [], [])
set_option maxRecDepth 20000 in
theorem lkok_X1 : x_lkok RX1 lk_X1 := x_lkok_of (by decide +kernel)
def lk_X2 : xLK := ([(9, 2, 1, 2), (15, 2, 2, 2), (18, 2, 3, 2), (21, 2, 4, 2), (24, 2, 0, 2), (28, 3, 11, 2), (39, 2, 5, 0), (43, 2, 6, 0), (46, 2, 7, 1), (50, 3, 10, 2), (63, 3, 3, 2), (76, 3, 6, 2), (88, 3, 8, 2), (102, 3, 7, 2)], [], [], [(33, 2), (53, 0)])
set_option maxRecDepth 20000 in
theorem lkok_X2 : x_lkok RX2 lk_X2 := x_lkok_of (by decide +kernel)
def lk_X3 : xLK := ([(9, 3, 3, 2), (15, 3, 4, 2), (18, 3, 5, 2), (21, 3, 6, 2), (24, 3, 7, 2), (27, 3, 8, 2), (30, 3, 9, 2), (41, 3, 10, 2), (44, 3, 11, 2), (47, 3, 12, 2), (50, 3, 14, 2), (59, 3, 0, 0), (63, 3, 1, 0), (66, 3, 2, 0), (69, 3, 13, 0)], [], [], [(72, 2), (85, 0), (97, 1)])
set_option maxRecDepth 20000 in
theorem lkok_X3 : x_lkok RX3 lk_X3 := x_lkok_of (by decide +kernel)
def lk_X4 : xLK := ([(9, 4, 0, 0), (15, 4, 2, 2), (19, 4, 1, 0)], [], [], [(22, 1), (28, 0)])
set_option maxRecDepth 20000 in
theorem lkok_X4 : x_lkok RX4 lk_X4 := x_lkok_of (by decide +kernel)
def lk_X5 : xLK := ([(12, 5, 0, 2), (18, 5, 1, 2), (21, 5, 3, 2), (30, 5, 5, 2), (39, 5, 6, 2), (46, 5, 7, 2), (52, 5, 8, 2), (65, 3, 0, 0), (69, 3, 3, 2), (72, 3, 4, 2), (75, 3, 5, 2), (78, 3, 6, 2), (81, 3, 7, 2), (84, 3, 8, 2), (87, 3, 9, 2), (90, 3, 1, 0), (93, 5, 4, 0), (105, 3, 10, 2), (108, 3, 11, 2), (112, 3, 12, 2), (143, 3, 13, 0), (172, 2, 5, 0), (175, 2, 2, 2), (178, 2, 3, 2), (181, 2, 4, 2), (190, 3, 14, 2), (212, 0, 4, 0), (213, 0, 5, 0), (217, 1, 6, 0), (220, 1, 7, 0), (223, 1, 8, 0), (226, 1, 9, 0), (236, 4, 1, 0), (253, 5, 2, 1), (263, 4, 0, 0), (269, 4, 2, 2)], [(99, 1), (102, 2), (154, 4), (282, 0)], [(64, .int (1000000)), (111, .int (99999)), (184, .long (-9223372036854775808))], [(272, 2)])
set_option maxRecDepth 20000 in
theorem lkok_X5 : x_lkok RX5 lk_X5 := x_lkok_of (by decide +kernel)
def lk_X6 : xLK := ([(9, 6, 1, 2), (15, 6, 2, 2), (18, 6, 3, 2), (21, 6, 4, 2), (24, 6, 5, 2), (27, 6, 6, 2), (30, 6, 7, 2), (33, 6, 8, 2), (36, 6, 9, 2), (39, 6, 10, 2), (42, 6, 11, 2), (45, 6, 12, 2), (49, 6, 13, 2), (52, 6, 15, 2), (55, 6, 17, 2), (58, 6, 19, 2), (61, 6, 20, 2), (64, 6, 21, 2), (67, 6, 22, 2), (70, 6, 24, 2), (73, 6, 25, 2), (76, 6, 26, 2), (79, 6, 28, 2), (82, 6, 31, 2), (85, 6, 32, 2), (88, 6, 33, 2), (91, 6, 34, 2), (94, 6, 35, 2), (97, 6, 36, 2), (100, 6, 37, 2), (103, 6, 38, 2), (106, 6, 0, 0), (115, 6, 16, 0), (146, 6, 14, 0), (153, 6, 23, 0), (183, 6, 29, 0), (186, 6, 30, 0), (213, 6, 18, 1)], [], [(114, .int (999999)), (122, .int (99999)), (181, .long (-9223372036854775808)), (221, .long (5)), (223, .long (4))], [(123, 1), (133, 0)])
set_option maxRecDepth 20000 in
theorem lkok_X6 : x_lkok RX6 lk_X6 := x_lkok_of (by decide +kernel)
def lk_J6 : xLK := ([], [], [(265, .int (1431655765)), (266, .int (858993459)), (267, .int (252645135))], [])
set_option maxRecDepth 20000 in
theorem lkok_J6 : x_lkok RJ6 lk_J6 := x_lkok_of (by decide +kernel)
def lk_J7 : xLK := ([], [], [], [])
set_option maxRecDepth 20000 in
theorem lkok_J7 : x_lkok RJ7 lk_J7 := x_lkok_of (by decide +kernel)
