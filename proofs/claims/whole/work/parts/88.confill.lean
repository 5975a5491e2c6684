/-! Arrays.fill, an array's clone, the first settings: for Keep's constructor -/
theorem vD1 {A : Nat → Prop} {q : Nat} (h : A q) (e : va_E) : va_D A [(q, e)] := by
  refine ⟨fun i j x y hx hy _ => ?_, fun k x hx => ?_⟩
  · have h1 := (List.getElem?_eq_some_iff.mp hx).1
    have h2 := (List.getElem?_eq_some_iff.mp hy).1
    simp at h1 h2
    omega
  · have h1 := (List.getElem?_eq_some_iff.mp hx).1
    simp at h1
    subst h1
    cases hx
    exact h
theorem fill_lp {p : Program} {l : Launch} {e : Env} {R : Room} {s : State} {m : MethodId} {args : Array Value} {below : List Frame} {meth : Method} {c : Code} {Q : State → Prop} (hx : p.tables.exec = Jvm.exec) (hb : c.code = cJ7_fill_53178) {D : va_G} {A : Nat → Prop} {q : Nat} {cA : ClassId} {n : Nat} (hn : n < 2 ^ 31) {f : Nat → Int32} {v : Int32} (hK : va_K D vwCl [(cA, .int)] s) (hAq : A q) {H0 : Heap}
    (kk : ∀ (H : Heap) (locs : List Loc) (ls : Array Slot), va_P D vwCl [(q, .inl (cA, n, .inl (fun j => if j < n then v else f j)))] H → va_S A H0 H locs → W p l e R s m args below meth c H locs 0 0 Q (F0 m 20 ls [])) :
    ∀ (k i : Nat) (ls : Array Slot) (H : Heap) (locs : List Loc), i + k = n → lv_has ls 4 [(2, .int (nI i)), (3, .int (nI n)), (0, .ref q), (1, .int v)] → va_P D vwCl [(q, .inl (cA, n, .inl (fun j => if j < i then v else f j)))] H → va_S A H0 H locs → W p l e R s m args below meth c H locs 0 0 Q (F0 m 5 ls []) := by
  have ok := ok_J7_fill_53178
  intro k
  induction k with
  | zero =>
    intro i ls H locs hi hl hP hS
    have hi : i = n := by omega
    subst hi
    refine lv_iload_n hx hb (x_tbd (i := .iload_n 2) ok rfl) rfl (lv_at hl 0 rfl) ?_
    refine lv_iload_n hx hb (x_tbd (i := .iload_n 3) ok rfl) rfl (lv_at hl 1 rfl) ?_
    refine lv_icmp_ge (tgt := 20) hx hb (x_tbd (i := .if_icmp .ge 13) ok rfl) (by decide) (fun _ => ?_) (fun h => absurd (nI_le (Nat.le_refl i) hn) h)
    exact kk H locs ls hP hS
  | succ k ih =>
    intro i ls H locs hi hl hP hS
    refine lv_iload_n hx hb (x_tbd (i := .iload_n 2) ok rfl) rfl (lv_at hl 0 rfl) ?_
    refine lv_iload_n hx hb (x_tbd (i := .iload_n 3) ok rfl) rfl (lv_at hl 1 rfl) ?_
    refine lv_icmp_ge (tgt := 20) hx hb (x_tbd (i := .if_icmp .ge 13) ok rfl) (by decide) (fun h => absurd h (nI_ge (by omega) hn)) (fun _ => ?_)
    refine lv_aload_n hx hb (x_tbd (i := .aload_n 0) ok rfl) rfl (lv_at hl 2 rfl) ?_
    refine lv_iload_n hx hb (x_tbd (i := .iload_n 2) ok rfl) rfl (lv_at hl 0 rfl) ?_
    refine lv_iload_n hx hb (x_tbd (i := .iload_n 1) ok rfl) rfl (lv_at hl 3 rfl) ?_
    refine va_iast hx hb hK hP (vD1 hAq _) hS 0 0 rfl rfl (vp_in_nI (by omega) hn) (x_tbd (i := .iastore) ok rfl) (fun H locs hP hD hS => ?_)
    refine lv_iinc (v := nI (i + 1)) (lv' := [(2, .int (nI (i + 1))), (3, .int (nI n)), (0, .ref q), (1, .int v)]) hx hb (x_tbd (i := .iinc 2 1) ok rfl) hl (k := 0) rfl (nI_1 i) (by decide) rfl (fun ls hl => ?_)
    refine lv_goto (tgt := 5) hx hb (x_tbd (i := .goto (-12)) ok rfl) (by decide) ?_
    refine ih (i + 1) ls H locs (by omega) hl ?_ hS
    have e : upd (fun j => if j < i then v else f j) (nI i).toNatClampNeg v = fun j => if j < i + 1 then v else f j := by
      funext j
      rw [nI_clamp (by omega)]
      unfold upd
      by_cases h1 : j = i
      · rw [if_pos h1, if_pos (by omega)]
      · by_cases h2 : j < i
        · rw [if_neg h1]; dsimp only; rw [if_pos h2, if_pos (by omega)]
        · rw [if_neg h1]; dsimp only; rw [if_neg h2, if_neg (by omega)]
    rw [← e]
    exact hP
set_option maxHeartbeats 4000000 in
set_option maxRecDepth 100000 in
theorem ci_fill (l : Launch) (D : va_G) (q sz : Nat) (cA : ClassId) (n : Nat) (hn : n < 2 ^ 31) (f : Nat → Int32) (v : Int32) : Met l yJ7_fill_53178 (x_ws M_J7_fill_53178) ({ frames := 0, cells := 0, slots := 0, locals := 0 }) (va_Pc [.ref q, .int v] (fun U => U.heap.size = sz ∧ va_P D vwCl [(q, .inl (cA, n, .inl f))] U.heap ∧ va_K D vwCl [(cA, .int)] U ∧ va_D (fun _ => True) [(q, .inl (cA, n, .inl f))])) (va_Qv (fun _ : Unit => True) (fun _ t => va_P D vwCl [(q, .inl (cA, n, .inl (fun j => if j < n then v else f j)))] t.heap ∧ va_K D vwCl [(cA, .int)] t ∧ va_D (va_A [(q, .inl (cA, n, .inl f))] sz) [(q, .inl (cA, n, .inl (fun j => if j < n then v else f j)))]) (va_A [(q, .inl (cA, n, .inl f))] sz)) 0 0 (va_A [(q, .inl (cA, n, .inl f))] sz) := by
  refine Met.ofW (cc := cJ7_fill_53178) (maxL := 4) (ret := none) (by decide) rfl ?_
  intro p e s m args below meth c s₁ B hml hv
  obtain ⟨rfl, hsz, hP, hK, hD0⟩ := hv
  have hx := B.exec
  have hb := B.bytes
  have hr := B.returns
  have hlocks := B.notSynchronized
  have ok := ok_J7_fill_53178
  subst hsz
  have hAq : va_A [(q, .inl (cA, n, .inl f))] s.heap.size q := Or.inl ⟨0, _, rfl⟩
  generalize hAe : va_A [(q, .inl (cA, n, .inl f))] s.heap.size = A at hAq ⊢
  have hl := lv_entry ([.ref q, .int v]) (n := 4) (Nat.le_of_ble_eq_true rfl)
  rw [lg_entry_eq]
  generalize (lg_sl ([.ref q, .int v]) ++ List.replicate (4 - (lg_sl ([.ref q, .int v])).length) Slot.unset).toArray = ls at hl ⊢
  have hl : lv_has ls 4 [(0, .ref q), (1, .int v)] := hl
  refine lv_iconst (v := nI 0) hx hb (x_tbd (pc := 0) (i := .iconst 0) ok rfl) (by decide) ?_
  refine lv_istore_n (lv' := [(2, .int (nI 0)), (0, .ref q), (1, .int v)]) hx hb (x_tbd (pc := 1) (i := .istore_n 2) ok rfl) rfl hl (by decide) rfl (fun ls hl => ?_)
  refine lv_aload_n hx hb (x_tbd (pc := 2) (i := .aload_n 0) ok rfl) rfl (lv_at hl 1 rfl) ?_
  refine va_alen hx hb hK hP 0 0 rfl rfl (v := nI n) rfl (x_tbd (pc := 3) (i := .arraylength) ok rfl) ?_
  refine lv_istore_n (lv' := [(3, .int (nI n)), (2, .int (nI 0)), (0, .ref q), (1, .int v)]) hx hb (x_tbd (pc := 4) (i := .istore_n 3) ok rfl) rfl hl (by decide) rfl (fun ls hl => ?_)
  have hl2 : lv_has ls 4 [(2, .int (nI 0)), (3, .int (nI n)), (0, .ref q), (1, .int v)] := lv_sub hl [1, 0, 2, 3] rfl
  refine fill_lp (D := D) (f := f) hx hb hn hK hAq (fun H locs ls hP hS => ?_) n 0 ls s.heap [] (Nat.zero_add n) hl2 ?_ va_S.rf
  · exact W.vret hx hb hr (fun t ht hW => ⟨⟨(), rfl, trivial, by rw [ht]; exact hP, va_K.moved hW.alike hK, vD1 hAq _⟩, hS.F ht⟩) hS.2.2 (x_tbd (pc := 20) (i := .return_) ok rfl)
  · rw [show (fun j => if j < 0 then v else f j) = f from funext fun j => if_neg (by omega)]
    exact hP
/-! the array of the first settings: a static that nobody writes; its clone -/
def fFS : Nat → Int32 := fun i => ([10, 2, 5, 10, 0] : List Int32).getD i 0
def kFS (t : Nat) (cell : Cell) (A : Nat → Prop) (U : State) : Prop := va_Z "LaneLock" "FIRST_SETTING" "[I" (.ref t) A U U.heap ∧ U.heap[t]? = some cell ∧ U.isArrayOf cell .int ∧ U.vm.findClass "[I" = some cell.cls ∧ ¬ A t
def cFS (cell : Cell) : Prop := cell.vm ≠ .unknown ∧ cell.slots = (vp_cell cell.cls (5, .inl fFS)).slots
theorem kFS.to {t : Nat} {cell : Cell} {A B : Nat → Prop} {u U : State} (h : kFS t cell A u) (hAB : ∀ q, B q → A q) (hvm : u.vm.Alike U.vm) (hq : ∀ a : Nat, a < u.heap.size → ¬ A a → U.heap[a]? = u.heap[a]?) : kFS t cell B U := by
  obtain ⟨h1, h2, h3, h4, h5⟩ := h
  exact ⟨((h1.kept hq).moved hvm).narrow hAB, by rw [hq t (Array.getElem?_eq_some_iff.mp h2).1 h5]; exact h2, State.isArrayOf_alike hvm h3, by rw [hvm.findClass]; exact h4, fun z => h5 (hAB t z)⟩
section CL2
variable {p : Program} {l : Launch} {e : Env} {R : Room} {s : State} {m : MethodId} {args : Array Value} {below : List Frame} {meth : Method} {c : Code} {H : Heap} {locs : List Loc} {cells slots : Nat} {Q : State → Prop}
variable {cc : ByteArray} {pc : Nat} {ls : Array Slot} {rest : List Value} {D : va_G} {cl : List vw_C} {A : Nat → Prop} {tys : List (ClassId × FieldType)} {ws : va_W} {H0 : Heap}
theorem va_clone2 (hexec : p.tables.exec = Jvm.exec) (hb : c.code = cc) (hml : c.maxLocals = ls.size) {own : String} {index : Nat} (hown : s.vm.findClass own = some m.cls)
    (hlink : (Cond.methodLink own index ⟨"[I", "clone", "()Ljava/lang/Object;"⟩).before args s = true) (hsame : (Cond.sameMethod "[I" "java/lang/Object" "clone" "()Ljava/lang/Object;").before args s = true)
    (hnat : (Cond.native ⟨"java/lang/Object", "clone", "()Ljava/lang/Object;"⟩).before args s = true) (hinst : (Cond.instanceMethod ⟨"java/lang/Object", "clone", "()Ljava/lang/Object;"⟩).before args s = true)
    (hsel : (Cond.selects "[I" ⟨"[I", "clone", "()Ljava/lang/Object;"⟩ ⟨"java/lang/Object", "clone", "()Ljava/lang/Object;"⟩).before args s = true) (hcl : va_Nw (.castable "[I" "java/lang/Cloneable") s)
    (hK : va_K D cl tys s) (hP : va_P D cl ws H) (hD : va_D A ws) (hS : va_S A H0 H locs) (hA : ∀ q, H0.size ≤ q → A q) {t : Nat} {cell : Cell} {x : vp_A} (hc : H[t]? = some cell) (hof : s.isArrayOf cell .int) (hkn : cell.vm ≠ .unknown) (hnm : s.vm.findClass "[I" = some cell.cls) (hsl : cell.slots = (vp_cell cell.cls x).slots)
    (hsz : (vp_cell cell.cls x).slots.size = x.1) (hE : ({ cls := cell.cls, slots := (vp_cell cell.cls x).slots } : Cell) = vp_cell cell.cls x) (hfit : ∀ (i : Nat) (v : Value), (vp_cell cell.cls x).slots[i]? = some v → fits .int v = true)
    (hframes : 1 ≤ R.frames) (hlocals : (rest.map fun v => v.category).sum + 14 ≤ R.locals) (hcells : cells + 1 ≤ R.cells) (hslots : slots + x.1 ≤ R.slots) (hdg : decode cc pc = .ok (.invokevirtual index, 3))
    (kk : ∀ (q : Nat) (H1 : Heap), va_K D cl (tys ++ [(cell.cls, .int)]) s → va_P D cl (ws ++ [(q, .inl (cell.cls, x))]) H1 → va_D A (ws ++ [(q, .inl (cell.cls, x))]) → va_S A H0 H1 locs →
      W p l e R s m args below meth c H1 locs (cells + 1) (slots + x.1) Q (F0 m (pc + 3) ls (.ref q :: rest))) : W p l e R s m args below meth c H locs cells slots Q (F0 m pc ls (.ref t :: rest)) := by
  obtain ⟨c0, t0', f1, f2, f3⟩ := Cond.castable_spec (va_Nw.use (A := args) rfl hcl)
  cases hnm.symm.trans f1
  intro T hT X
  have hcellT : T.heap[t]? = some cell := by rw [hT]; exact hc
  obtain ⟨-, kA, hkA, comp, hkind⟩ := State.isArrayOf_alike X.warmed.alike hof
  obtain ⟨hob, kS, hkS, compS, hkindS⟩ := hof
  have harr : ArrOfT s cell.cls .int := fun n z => ⟨fun k h => (by cases h), kS, hkS, compS, hkindS⟩
  have hRA : va_RA s cell.cls .int := by
    show s.vm.findClass ("[" ++ FieldType.int.toString) = some cell.cls
    rw [show "[" ++ FieldType.int.toString = "[I" by decide +kernel]
    exact hnm
  obtain ⟨vm', X', st⟩ := X.cloneArray hexec hown hlink hsame hnat hinst hsel (a := t) (cell := cell) hcellT hob hkn hnm f2 f3
    (fun i v hv => by
      rw [hsl] at hv
      have hk' : T.vm.classes[cell.cls]? = some kA := hkA
      simpa [State.fitsSlot, State.slotType?, hk', hkind] using hfit i v hv)
    (g := F0 m pc ls (.ref t :: rest)) rfl (by rw [hml]) rfl (by rw [hb]; exact hdg) hframes (by show 2 * 0 + _ + 14 ≤ _; omega) hcells (by rw [hsl, hsz]; exact hslots) (hloader := Vm.clonesLoader_of_array hkS hkindS)
  rw [hsl, hE, hsz] at X'
  generalize hH1 : H.push (vp_cell cell.cls x) = H1
  have z1 : H1.size = H.size + 1 := by rw [← hH1, Array.size_push]
  have e1 : H1[H.size]? = some (vp_cell cell.cls x) := by rw [← hH1, Array.getElem?_push_size]
  have o1 : ∀ q : Nat, q < H.size → H1[q]? = H[q]? := fun q hq => by rw [← hH1, Array.getElem?_push, if_neg (Nat.ne_of_lt hq)]
  have hk : ∀ (k : Nat) (y : Nat × va_E), ws[k]? = some y → H1[y.1]? = H[y.1]? := fun k y hy => o1 y.1 ((hP k y hy).lt)
  obtain ⟨t9, b1, b2⟩ := kk H.size H1 ⟨hK.1, fun k y hy => by
      by_cases hl : k < tys.length
      · rw [List.getElem?_append_left hl] at hy
        exact hK.2 k y hy
      · rw [List.getElem?_append_right (by omega)] at hy
        have hz : k - tys.length < 1 := (List.getElem?_eq_some_iff.mp hy).1
        rw [show k - tys.length = 0 by omega] at hy
        cases hy
        exact ⟨harr, hRA⟩⟩ ((hP.kept hk).app (fun k y hy => by
      have hz : k < 1 := (List.getElem?_eq_some_iff.mp hy).1
      rw [show k = 0 by omega] at hy
      cases hy
      exact e1)) (hD.push hP rfl (hA _ hS.1)) ⟨Nat.le_trans hS.1 (by omega), fun y h1 h2 => (o1 y (Nat.lt_of_lt_of_le h1 hS.1)).trans (hS.2.1 y h1 h2), hS.2.2⟩
    ((T.setVm vm').pushCell (vp_cell cell.cls x)) (by rw [← hH1, ← hT]; rfl) X'
  refine ⟨t9, st t9 ?_, b2⟩
  rw [hsl, hE, hT]
  exact b1
end CL2
