/-! the five statics at the start -/
theorem ws_size {args : Array Value} {s : State} {tm : Term} {N t : Nat} {cell : Cell} (hN : N < 2 ^ 31) (ht : tm.eval args s none [] s = some (.ref t)) (hc : s.heap[t]? = some cell) (hlen : (Term.length tm).eval args s none [] s = some (.int (Int32.ofNat N))) : cell.slots.size = N := by
  have hv := hlen
  obtain ⟨b, cell2, h1, harr, h3⟩ := Term.length_spec hlen
  obtain ⟨hcell, -, -, -⟩ := State.arrayAt?_spec harr
  cases ht.symm.trans h1
  cases hc.symm.trans hcell
  have hsz : cell.slots.size < 2 ^ 31 := by
    simp only [Term.eval, ht, harr, Option.bind_eq_bind, Option.bind_some] at hv
    by_cases hlt : cell.slots.size < 2147483648
    · exact hlt
    · simp [hlt] at hv
  have e : cell.slots.size.toInt32 = Int32.ofNat N := (Value.int.inj h3).symm
  have e2 := congrArg Int32.toNatClampNeg e
  rwa [show cell.slots.size.toInt32 = Int32.ofNat cell.slots.size from rfl, Int32.toNatClampNeg_ofNat_of_lt hsz, Int32.toNatClampNeg_ofNat_of_lt hN] at e2
theorem ws_st {s : State} {b : Nat} {A : Nat → Prop} (hfl : ∀ c ∈ flatC (Jvm.Cond.and given_1 narrow_1), c.before #[Value.ref b] s = true) (hts : ∀ w ∈ lw_tbl, w.before #[Value.ref b] s = true) (hA : ∀ a : Nat, a < s.heap.size → ¬ A a) (nm : String) (lv : List Int32) (n31 : lv.length < 2 ^ 31)
    (h1 : Cond.arrayOf (.static "LaneLock" nm "[I") .int ∈ flatC (Jvm.Cond.and given_1 narrow_1)) (h2 : Cond.eq (.length (.static "LaneLock" nm "[I")) (.int (Int32.ofNat lv.length)) ∈ flatC (Jvm.Cond.and given_1 narrow_1))
    (h3 : ∀ j : Nat, j < lv.length → Cond.eq (.elem (.static "LaneLock" nm "[I") (.int (Int32.ofNat j))) (.int (lv.getD j 0)) ∈ flatC (Jvm.Cond.and given_1 narrow_1)) (h4 : Cond.laysStatic "LaneLock" nm "[I" ∈ lw_tbl) :
    ∃ t : Nat, (Term.static "LaneLock" nm "[I").eval #[Value.ref b] s none [] s = some (.ref t) ∧ va_T .int t lv.length (fun i => .int (lv.getD i 0)) A s s.heap ∧ va_Z "LaneLock" nm "[I" (.ref t) A s s.heap := by
  obtain ⟨t, ht, hT⟩ := va_Tof (f := fun i => .int (lv.getD i 0)) n31 (hfl _ h1) (va_eqt (hfl _ h2)) (fun j hj => va_eqt (hfl _ (h3 j hj))) hA
  exact ⟨t, ht, hT, va_Zof (hts _ h4) (hts (.initialized "LaneLock") (List.mem_of_getElem? (i := 36) (by decide +kernel))) ht hA⟩
theorem ws_slots {sl : Array Value} {f : Nat → Value} {N : Nat} (h : sl.size = N) (hj : ∀ j : Nat, j < N → sl[j]? = some (f j)) (cI : ClassId) : sl = (arrV cI N f).slots := by
  apply Array.ext
  · rw [arrV_size, h]
  · intro i h1 h2
    have e1 := hj i (by omega)
    have e2 := arrV_read cI f (show i < N by omega)
    rw [Array.getElem?_eq_getElem h1] at e1
    rw [Array.getElem?_eq_getElem h2] at e2
    exact Option.some.inj (e1.trans e2.symm)
/-! all five: their places, their contents; and of the first settings what its copy wants -/
set_option maxHeartbeats 4000000 in
set_option maxRecDepth 100000 in
theorem ws_five {s : State} {b : Nat} (hgv : (Jvm.Cond.and given_1 narrow_1).before #[Value.ref b] s = true) (hts : ∀ w ∈ lw_tbl, w.before #[Value.ref b] s = true) :
    ∃ (ts : Nat → Nat) (cell : Cell), (∀ (j : Nat) (lv : List Int32), x_nth x_cst j = some lv → va_T .int (ts j) lv.length (fun i => .int (lv.getD i 0)) (fun q => s.heap.size ≤ q) s s.heap ∧ ∀ nm, x_nth x_csn j = some nm → va_Z "LaneLock" nm "[I" (.ref (ts j)) (fun q => s.heap.size ≤ q) s s.heap) ∧ cFS cell ∧ kFA (ts 3) cell (fun q => s.heap.size ≤ q) s := by
  have hfl := flat_of_before _ hgv
  have hA : ∀ a : Nat, a < s.heap.size → ¬ (fun q => s.heap.size ≤ q) a := fun a h => Nat.not_le.mpr h
  obtain ⟨t0, -, T0, Z0⟩ := ws_st hfl hts hA "UNDER" [-1, 0, 1, 0, 3, 1] (by decide) (by decide +kernel) (by decide +kernel) (by decide +kernel) (List.mem_of_getElem? (i := 398) (by decide +kernel))
  obtain ⟨t1, -, T1, Z1⟩ := ws_st hfl hts hA "LEAST_SETTING" [1, 1, 1, 1, 0] (by decide) (by decide +kernel) (by decide +kernel) (by decide +kernel) (List.mem_of_getElem? (i := 315) (by decide +kernel))
  obtain ⟨t2, -, T2, Z2⟩ := ws_st hfl hts hA "MOST_SETTING" [20, 3, 99, 60, 4] (by decide) (by decide +kernel) (by decide +kernel) (by decide +kernel) (List.mem_of_getElem? (i := 317) (by decide +kernel))
  obtain ⟨t3, e3, T3, Z3⟩ := ws_st hfl hts hA "FIRST_SETTING" [10, 2, 5, 10, 0] (by decide) (by decide +kernel) (by decide +kernel) (by decide +kernel) (List.mem_of_getElem? (i := 62) (by decide +kernel))
  obtain ⟨t4, -, T4, Z4⟩ := ws_st hfl hts hA "BY_NUMBER" [0, 1, 2, 3, 4, 5, 6, 7, 8, 9] (by decide) (by decide +kernel) (by decide +kernel) (by decide +kernel) (List.mem_of_getElem? (i := 404) (by decide +kernel))
  obtain ⟨cell, c1, c2, c3, -, -, c6, c7⟩ := id T3
  have hsz : cell.slots.size = 5 := ws_size (N := 5) (by decide) e3 c1 (va_eqt (hfl _ (by decide +kernel)))
  obtain ⟨a, cI, cell', kI, x1, x2, x3, -, -, x6, -⟩ := Cond.exactly_spec (hfl (.exactly (.static "LaneLock" "FIRST_SETTING" "[I") "[I") (by decide +kernel))
  cases e3.symm.trans x1
  cases c1.symm.trans x3
  refine ⟨fun j => match j with | 0 => t0 | 1 => t1 | 2 => t2 | 3 => t3 | _ => t4, cell, ?_, ⟨c3, ws_slots hsz c6 cell.cls⟩, ⟨⟨⟨Z3, c1, c2, by rw [x6]; exact x2, c7⟩, va_Nw.of rfl (hts _ (List.mem_of_getElem? (i := 61) (by decide +kernel))), va_Nw.of rfl (hts _ (List.mem_of_getElem? (i := 68) (by decide +kernel)))⟩, va_AO.of (hts _ (List.mem_of_getElem? (i := 249) (by decide +kernel))), va_Nw.of rfl (hts _ (List.mem_of_getElem? (i := 251) (by decide +kernel)))⟩⟩
  intro j lv hj
  match j, hj with
  | 0, hj => cases hj; exact ⟨T0, fun nm h => by cases h; exact Z0⟩
  | 1, hj => cases hj; exact ⟨T1, fun nm h => by cases h; exact Z1⟩
  | 2, hj => cases hj; exact ⟨T2, fun nm h => by cases h; exact Z2⟩
  | 3, hj => cases hj; exact ⟨T3, fun nm h => by cases h; exact Z3⟩
  | 4, hj => cases hj; exact ⟨T4, fun nm h => by cases h; exact Z4⟩
  | j + 5, hj => simp [x_nth, x_cst] at hj
