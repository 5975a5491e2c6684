/-! the judgement -/
def x_Qc (Q : Option Value → xSg → Prop) (ad : Nat → Nat) (ca : Nat → ClassId) (D : va_G) : Array Value → State → Outcome → State → Prop := fun _ st oc t => (∃ (r : Option Value) (σ' : xSg), oc = .returned (r.map (x_cv ad)) ∧ Q r σ' ∧ va_P D vwCl (x_wl ca ad σ') t.heap) ∧ va_F (x_AA ad) st t
def x_fin (o : xO) (Q : Option Value → xSg → Prop) (below : List Frame) (args : Array Value) (s : State) (ad : Nat → Nat) (ca : Nat → ClassId) (D : va_G) : State → Prop := match o with
  | .inl _ => MQ below (x_Qc Q ad ca D) args s 0 0 (x_AA ad)
  | .inr _ => lw_Z below args s
def xEv (o : xO) (M : xM) (Q : Option Value → xSg → Prop) (pc : Nat) (f : xF) : Prop := x_ok M → ∀ (p : Program) (l : Launch) (e : Env) (s : State) (m : MethodId) (args : Array Value) (below : List Frame) (meth : Method) (c : Code) (ad : Nat → Nat) (ca : Nat → ClassId) (D : va_G), x_Cx o M p s m args meth c ad ca D → x_G o M p l e s m args below meth c ad ca D (x_fin o Q below args s ad ca D) pc f
def x_Pre (ad : Nat → Nat) (ca : Nat → ClassId) (D : va_G) (σ : xSg) (U : State) : Prop := va_P D vwCl (x_wl ca ad σ) U.heap ∧ va_K D vwCl (x_tys ca) U ∧ x_Cst ad (x_AA ad) U
def x_ws (M : xM) : List Cond := .code (xM_y M) (xM_code M) (xM_maxL M) (xM_ret M) :: x_tbl
def xCtr (M : xM) (As : List Value) (σ : xSg) (Q : Option Value → xSg → Prop) : Prop := ∀ (l : Launch) (ad : Nat → Nat) (ca : Nat → ClassId) (D : va_G), x_Inj ad → Met l (xM_y M) (x_ws M) (x_Rm (.inl (xM_lev M))) (va_Pc (As.map (x_cv ad)) (x_Pre ad ca D σ)) (x_Qc Q ad ca D) 0 0 (x_AA ad)
section XE
variable {o : xO} {M : xM} {Q : Option Value → xSg → Prop} {pc pc' : Nat} {f f' : xF} {Ps : List Prop}
theorem ev_blk (n : Nat) (Ps : List Prop) (pc' : Nat) (f' : xF) (h : x_blk o M n pc f = some (Ps, pc', f')) (hc : x_conj Ps) (k : xEv o M Q pc' f') : xEv o M Q pc f :=
  fun ok p l e s m args below meth c ad ca D X => x_blk_ok X ok n (x_conj_all hc) h (k ok p l e s m args below meth c ad ca D X)
theorem ev_br (n : Nat) (Ps : List Prop) (P : Prop) (t nx : Nat) (f' : xF) (h : x_bbr o M n pc f = some (Ps, P, t, nx, f')) (hc : x_conj Ps) (kt : P → xEv o M Q t f') (kf : ¬ P → xEv o M Q nx f') : xEv o M Q pc f := by
  intro ok p l e s m args below meth c ad ca D X
  unfold x_bbr at h
  split at h
  next => cases h
  next Ps1 pc1 f1 h1 =>
    split at h
    next => cases h
    next i len hlk =>
      cases hb : Nat.beq len 3 with
      | false => rw [hb] at h; cases h
      | true =>
        rw [hb] at h
        have hlen : len = 3 := Nat.eq_of_beq_eq_true hb
        subst hlen
        dsimp only [cond_true] at h
        split at h
        next => cases h
        next P1 off st h2 =>
          split at h
          next t1 ht =>
            cases h
            exact x_blk_ok X ok n (x_conj_all hc) h1 (x_br_ok X.1 X.2.1 (x_tbd ok hlk) h2 ht (fun q => kt q ok p l e s m args below meth c ad ca D X) (fun q => kf q ok p l e s m args below meth c ad ca D X))
          next => cases h
/-- the end of a method with an int -/
theorem ev_iret {d : Nat} {v : Int32} {ty : FieldType} {L : List (Option Value)} {σ : xSg} (hi : x_lk (xM_tb M) pc = some (.ireturn, 1)) (hr : xM_ret M = some ty) (hn : narrow ty (.int v) = .int v) (hq : Q (some (.int v)) σ) : xEv (.inl d) M Q pc (L, [.int v], σ) := by
  intro ok p l e s m args below meth c ad ca D X H locs ls hP hS hL
  exact W.zret (hlocks := X.2.2.2.2.1) X.1 X.2.1 (X.2.2.2.1.trans hr) hn (fun t ht _ => ⟨⟨some (.int v), σ, rfl, hq, by rw [ht]; exact hP⟩, hS.F ht⟩) hS.2.2 (x_tbd ok hi)
theorem ev_lret {d : Nat} {v : Int64} {L : List (Option Value)} {σ : xSg} (hi : x_lk (xM_tb M) pc = some (.lreturn, 1)) (hr : xM_ret M = some .long) (hq : Q (some (.long v)) σ) : xEv (.inl d) M Q pc (L, [.long v], σ) := by
  intro ok p l e s m args below meth c ad ca D X H locs ls hP hS hL
  exact W.lret (hlocks := X.2.2.2.2.1) X.1 X.2.1 (X.2.2.2.1.trans hr) (fun t ht _ => ⟨⟨some (.long v), σ, rfl, hq, by rw [ht]; exact hP⟩, hS.F ht⟩) hS.2.2 (x_tbd ok hi)
theorem ev_vret {d : Nat} {L : List (Option Value)} {σ : xSg} (hi : x_lk (xM_tb M) pc = some (.return_, 1)) (hr : xM_ret M = none) (hq : Q none σ) : xEv (.inl d) M Q pc (L, [], σ) := by
  intro ok p l e s m args below meth c ad ca D X H locs ls hP hS hL
  exact W.vret (hlocks := X.2.2.2.2.1) X.1 X.2.1 (X.2.2.2.1.trans hr) (fun t ht _ => ⟨⟨none, σ, rfl, hq, by rw [ht]; exact hP⟩, hS.F ht⟩) hS.2.2 (x_tbd ok hi)
/-- from the body to the contract -/
def x_ini : Nat → List Value → List (Option Value)
  | 0, _ => []
  | n + 1, [] => none :: x_ini n []
  | n + 1, v :: vs => some v :: x_ini n vs
theorem x_ini_nil : ∀ (n i : Nat), x_get (x_ini n []) i = none
  | 0, i => by simp [x_ini, x_get]
  | n + 1, 0 => by simp [x_ini, x_get]
  | n + 1, i + 1 => by
    show x_get (x_ini n []) i = none
    exact x_ini_nil n i
theorem x_ini_get (ad : Nat → Nat) : ∀ (n : Nat) (As : List Value) (j i : Nat) (v : Value), (∀ a ∈ As, a.category = 1) → x_get (x_ini n As) i = some v → (j + i, x_cv ad v) ∈ lv_args j (As.map (x_cv ad))
  | 0, _, _, _, _, _, h => by simp [x_ini, x_get] at h
  | n + 1, [], j, i, v, _, h => by rw [x_ini_nil] at h; cases h
  | n + 1, a :: As, j, 0, v, hc, h => by
    simp only [x_ini, x_get, Option.some.injEq] at h
    subst h
    simp [lv_args]
  | n + 1, a :: As, j, i + 1, v, hc, h => by
    have h1 := x_ini_get ad n As (j + 1) i v (fun b hb => hc b (List.mem_cons_of_mem _ hb)) h
    have hca : ¬ (x_cv ad a).category = 2 := by rw [x_cv_cat, hc a List.mem_cons_self]; decide
    simp only [List.map_cons, lv_args, if_neg hca, List.mem_cons]
    exact Or.inr (by rw [show j + (i + 1) = j + 1 + i by omega]; exact h1)
theorem x_sl_len : ∀ (vs : List Value), (∀ a ∈ vs, a.category = 1) → (lg_sl vs).length = vs.length
  | [], _ => rfl
  | a :: vs, h => by
    have h1 := x_sl_len vs (fun b hb => h b (List.mem_cons_of_mem _ hb))
    have h2 : ¬ a.category = 2 := by rw [h a List.mem_cons_self]; decide
    unfold lg_sl at h1 ⊢
    rw [List.flatMap_cons, List.length_append, h1, if_neg h2, List.length_cons]
    simp [Nat.add_comm]
theorem x_Cst.to {ad : Nat → Nat} {A B : Nat → Prop} {u U : State} (h : x_Cst ad A u) (hAB : ∀ q, B q → A q) (hvm : u.vm.Alike U.vm) (hq : ∀ a : Nat, a < u.heap.size → ¬ A a → U.heap[a]? = u.heap[a]?) : x_Cst ad B U := by
  intro j lc hj
  obtain ⟨h1, h2⟩ := h j lc hj
  exact ⟨((h1.kept hq).moved hvm).narrow hAB, fun nm hn => (((h2 nm hn).kept hq).moved hvm).narrow hAB⟩
theorem ctr_of_ev {As : List Value} {σ : xSg} (ok : x_ok M) (hpl : plainName (xM_y M).cls = true) (how : (xM_y M).cls = xM_own M) (hcat : ∀ a ∈ As, a.category = 1) (hlen : As.length ≤ xM_maxL M)
    (h : xEv (.inl (xM_lev M)) M Q 0 (x_ini (xM_maxL M) As, [], σ)) : xCtr M As σ Q := by
  intro l ad ca D hinj
  refine Met.ofW (cc := xM_code M) (maxL := xM_maxL M) (ret := xM_ret M) hpl rfl ?_
  intro p e s m args below meth c s₁ B hml hv
  obtain ⟨rfl, hP, hK, hC⟩ := hv
  have hts := atoms_spec (ws := x_ws M) B.pre
  have hown : s.vm.findClass (xM_own M) = some m.cls := by rw [← how]; exact findClass_of_methodNamed B.named
  have hcat' : ∀ a ∈ As.map (x_cv ad), a.category = 1 := fun a ha => by
    obtain ⟨b, hb, rfl⟩ := List.mem_map.mp ha
    rw [x_cv_cat]
    exact hcat b hb
  have hsl := x_sl_len (As.map (x_cv ad)) hcat'
  have hl := lv_entry (As.map (x_cv ad)) (n := xM_maxL M) (by rw [hsl, List.length_map]; exact hlen)
  have X : x_Cx (.inl (xM_lev M)) M p s m (As.map (x_cv ad)).toArray meth c ad ca D := ⟨B.exec, B.bytes, hml, B.returns, B.notSynchronized, hown, fun w hw => hts w (List.mem_cons_of_mem _ hw), hK, hC, hinj, fun k hk => ⟨k, hk, rfl⟩, trivial⟩
  rw [lg_entry_eq]
  refine h ok p l e s m _ below meth c ad ca D X s.heap [] _ hP va_S.rf ⟨hl.1, hl.2.1, fun i v hi => ?_⟩
  have := hl.2.2 _ (x_ini_get ad (xM_maxL M) As 0 i v hcat hi)
  rwa [Nat.zero_add] at this
/-! calls -/
def x_cal (M : xM) (n : Nat) : Prop := Cond.code (xM_y M) (xM_code M) (xM_maxL M) (xM_ret M) ∈ x_tbl ∧ Cond.initialized (xM_y M).cls ∈ x_tbl ∧ (xM_y M).cls ≠ "java/lang/invoke/MethodHandle" ∧ (xM_y M).cls ≠ "java/lang/invoke/VarHandle" ∧ (parseMethodDescriptor (xM_y M).desc).map (fun d => d.parameters.length) = some n
def x_calV (M : xM) (n : Nat) : Prop := x_cal M n ∧ Cond.instanceMethod (xM_y M) ∈ x_tbl ∧ Cond.selects (xM_y M).cls (xM_y M) (xM_y M) ∈ x_tbl
def x_calS (M : xM) (n : Nat) : Prop := x_cal M n ∧ Cond.static (xM_y M) ∈ x_tbl
def x_fit (o : xO) (lev maxL : Nat) : Bool := Nat.ble (lev + 1) (x_Rm o).frames && Nat.ble (8 + (maxL + 11) + 36 * lev) (x_Rm o).locals
theorem x_wsG (M' : xM) (h : Cond.code (xM_y M') (xM_code M') (xM_maxL M') (xM_ret M') ∈ x_tbl) : GoodIn x_tbl (x_ws M') := by
  intro w hw
  have hm : w ∈ x_tbl := by
    rcases List.mem_cons.mp hw with rfl | hw
    · exact h
    · exact hw
  exact ⟨hm, good_of_word (List.mem_filter.mp hm).2⟩
theorem x_mapcat (ad : Nat → Nat) (st : List Value) : ((st.map (x_cv ad)).map fun v => v.category).sum = x_cat st := by
  unfold x_cat
  congr 1
  rw [List.map_map]
  exact List.map_congr_left (fun v _ => x_cv_cat ad v)
theorem x_AAA (o : xO) {ad : Nat → Nat} {s : State} (h : ∀ k, k < x_K → x_A o ad s (ad k)) : ∀ q, x_AA ad q → x_A o ad s q := by
  rintro q ⟨k, hk, rfl⟩
  exact h k hk
theorem x_PreU {p : Program} {s : State} {m : MethodId} {args : Array Value} {meth : Method} {c : Code} {ad : Nat → Nat} {ca : Nat → ClassId} {D : va_G} {H : Heap} {locs : List Loc} {σ : xSg} (X : x_Cx o M p s m args meth c ad ca D) (hP : va_P D vwCl (x_wl ca ad σ) H) (hS : va_S (x_A o ad s) s.heap H locs) {U : State} (hU : U.heap = H) (hW : s.WarmedH U.vm) : x_Pre ad ca D σ U :=
  ⟨by rw [hU]; exact hP, va_K.moved hW.alike X.2.2.2.2.2.2.2.1, X.2.2.2.2.2.2.2.2.1.to (x_AAA o X.2.2.2.2.2.2.2.2.2.2.1) hW.alike (fun a h1 h2 => by rw [hU]; exact hS.2.1 a h1 h2)⟩
theorem x_blind {As : List Value} {ad : Nat → Nat} {ca : Nat → ClassId} {D : va_G} {σ : xSg} : FrameBlind (va_Pc As (x_Pre ad ca D σ)) := fun a U g mk q => by
  obtain ⟨h1, hP, hK, hC⟩ := q
  exact ⟨h1, hP, va_K.moved (u := U) (U := U.calling g mk a) (Vm.Alike.refl U.vm) hK, hC.to (fun _ h => h) (Vm.Alike.refl U.vm) (fun _ _ _ => rfl)⟩
theorem x_after {p : Program} {l : Launch} {e : Env} {s : State} {m : MethodId} {args : Array Value} {below : List Frame} {meth : Method} {c : Code} {ad : Nat → Nat} {ca : Nat → ClassId} {D : va_G} {H : Heap} {locs : List Loc} {ls : Array Slot} {Qf : State → Prop} {Q' : Option Value → xSg → Prop} {L : List (Option Value)} {rest st : List Value} {ax : Array Value}
    (X : x_Cx o M p s m args meth c ad ca D) (hS : va_S (x_A o ad s) s.heap H locs) (hL : x_L ad ls (xM_maxL M) L)
    (hr : va_Run p l e (x_Rm o) s m args below meth c H locs (x_Cc o) (x_Cs o) 0 0 (F0 m pc ls st) (rest.map (x_cv ad)) (x_Qc Q' ad ca D ax) (x_AA ad))
    (kk : ∀ (r : Option Value) (σ' : xSg), Q' r σ' → x_G o M p l e s m args below meth c ad ca D Qf (pc + 3) (L, r.toList ++ rest, σ')) : W p l e (x_Rm o) s m args below meth c H locs (x_Cc o) (x_Cs o) Qf (F0 m pc ls st) := by
  intro T hT Xs
  obtain ⟨v, st₀, t, T', Lq, h0, X', hLq, e1, e2, ⟨⟨r, σ', hv, hq, hP'⟩, hz, hk⟩, stp⟩ := hr T hT Xs
  cases hv
  rw [h0] at hz hk
  have hAA := x_AAA o X.2.2.2.2.2.2.2.2.2.2.1
  have hS' : va_S (x_A o ad s) s.heap T'.heap (locs ++ Lq) := ⟨Nat.le_trans hS.1 (by rw [e1]; exact hz), fun q h1 h2 => by
    rw [e1, hk q (Nat.lt_of_lt_of_le h1 hS.1) (fun z => h2 (hAA q z))]
    exact hS.2.1 q h1 h2, fun q hq => by
      rcases List.mem_append.mp hq with h | h
      · exact hS.2.2 q h
      · exact hAA _ (hLq q h)⟩
  obtain ⟨t2, a1, b1⟩ := kk r σ' hq T'.heap (locs ++ Lq) ls (by rw [e1]; exact hP') hS' hL T' rfl X'
  refine ⟨t2, stp t2 ?_, b1⟩
  have e3 : (r.toList ++ rest).map (x_cv ad) = (r.map (x_cv ad)).toList ++ rest.map (x_cv ad) := by cases r <;> simp
  rw [← e3]
  exact a1
theorem x_fitH {o : xO} {lev maxL : Nat} (h : x_fit o lev maxL = true) : lev + 1 ≤ (x_Rm o).frames ∧ 8 + (maxL + 11) + 36 * lev ≤ (x_Rm o).locals := by
  unfold x_fit at h
  rw [Bool.and_eq_true] at h
  exact ⟨Nat.le_of_ble_eq_true h.1, Nat.le_of_ble_eq_true h.2⟩
theorem x_room (o : xO) : x_Cc o + 0 ≤ (x_Rm o).cells ∧ x_Cs o + 0 ≤ (x_Rm o).slots := by
  cases o with
  | inl d => exact ⟨Nat.le_refl _, Nat.le_refl _⟩
  | inr q => exact ⟨Nat.le_of_ble_eq_true rfl, Nat.le_of_ble_eq_true rfl⟩
/-- a call of a method with a receiver -/
theorem ev_callV (M' : xM) (As rest : List Value) (kc : Nat) {idx cI nf n : Nat} {rs : List (Option Nat)} {L : List (Option Value)} {st : List Value} {σ : xSg} {Q' : Option Value → xSg → Prop} {C : String} {T : u_T}
    (hi : x_lk (xM_tb M) pc = some (.invokevirtual idx, 3)) (hst : st = As.reverse ++ .ref kc :: rest) (hl : Cond.methodLink (xM_own M) idx (xM_y M') ∈ x_tbl) (hcal : x_calV M' n) (hn : As.length = n)
    (hsh : x_sh kc = (0, cI, rs)) (hcl : vwCl[cI]? = some (C, T, nf)) (hC : (xM_y M').cls = C) (hcat : Nat.ble (x_cat rest) 8 = true) (hfit : x_fit o (xM_lev M') (xM_maxL M') = true)
    (hct : xCtr M' (.ref kc :: As) σ Q') (kk : ∀ (r : Option Value) (σ' : xSg), Q' r σ' → xEv o M Q (pc + 3) (L, r.toList ++ rest, σ')) : xEv o M Q pc (L, st, σ) := by
  intro ok p l e s m args below meth c ad ca D X H locs ls hP hS hL
  obtain ⟨⟨c1, c2, c3, c4, c5⟩, c6, c7⟩ := hcal
  obtain ⟨f1, f2⟩ := x_fitH hfit
  have hts := X.2.2.2.2.2.2.1
  have hk : kc < x_K := x_sh_lt hsh (by decide)
  have cw : CallW (x_Rm o) s args (xM_own M) C idx (xM_y M') (xM_code M') (xM_maxL M') (xM_ret M') (x_ws M') (x_Rm (.inl (xM_lev M'))) 0 0 n :=
    ⟨callB_of n hts (x_wsG M' c1) rfl rfl rfl (hts _ c2) (hts _ hl) ⟨c3, c4, c5⟩ ⟨f1, f2⟩, hts _ c6, by rw [← hC]; exact hts _ c7⟩
  have hmap : (st.map (x_cv ad)) = (As.map (x_cv ad)).reverse ++ .ref (ad kc) :: rest.map (x_cv ad) := by
    rw [hst, List.map_append, List.map_reverse, List.map_cons]
    rfl
  refine x_after X hS hL (va_runV (As := As.map (x_cv ad)) (rest := rest.map (x_cv ad)) (b := ad kc) (C := C) ⟨X.1, X.2.1, X.2.2.1, X.2.2.2.2.2.1, hts⟩ (hct l ad ca D X.2.2.2.2.2.2.2.2.2.1) cw
    ⟨x_blind, va_recv X.2.2.2.2.2.2.2.1 hP (q0 := kc) hcl (by rw [x_wl_at hk, x_ent0 hsh]), fun U hU hW => ⟨rfl, x_PreU X hP hS hU hW⟩⟩ rfl (by rw [List.length_map]; exact hn) hL.1 hmap (lv_room (by rw [x_mapcat]; exact Nat.le_of_ble_eq_true hcat)) (x_tbd ok hi) (x_room o)) ?_
  intro r σ' hq
  exact kk r σ' hq ok p l e s m args below meth c ad ca D X
/-- a call of a static method -/
theorem ev_callS (M' : xM) (As rest : List Value) {idx n : Nat} {L : List (Option Value)} {st : List Value} {σ : xSg} {Q' : Option Value → xSg → Prop}
    (hi : x_lk (xM_tb M) pc = some (.invokestatic idx, 3)) (hst : st = As.reverse ++ rest) (hl : Cond.methodLink (xM_own M) idx (xM_y M') ∈ x_tbl) (hcal : x_calS M' n) (hn : As.length = n)
    (hcat : Nat.ble (x_cat rest) 8 = true) (hfit : x_fit o (xM_lev M') (xM_maxL M') = true)
    (hct : xCtr M' As σ Q') (kk : ∀ (r : Option Value) (σ' : xSg), Q' r σ' → xEv o M Q (pc + 3) (L, r.toList ++ rest, σ')) : xEv o M Q pc (L, st, σ) := by
  intro ok p l e s m args below meth c ad ca D X H locs ls hP hS hL
  obtain ⟨⟨c1, c2, c3, c4, c5⟩, c6⟩ := hcal
  obtain ⟨f1, f2⟩ := x_fitH hfit
  have hts := X.2.2.2.2.2.2.1
  have cw : CallB (x_Rm o) s args (xM_own M) idx (xM_y M') (xM_code M') (xM_maxL M') (xM_ret M') (x_ws M') (x_Rm (.inl (xM_lev M'))) 0 0 n ∧ (Cond.static (xM_y M')).before args s = true :=
    ⟨callB_of n hts (x_wsG M' c1) rfl rfl rfl (hts _ c2) (hts _ hl) ⟨c3, c4, c5⟩ ⟨f1, f2⟩, hts _ c6⟩
  have hmap : (st.map (x_cv ad)) = (As.map (x_cv ad)).reverse ++ rest.map (x_cv ad) := by
    rw [hst, List.map_append, List.map_reverse]
  refine x_after X hS hL (va_runS (As := As.map (x_cv ad)) (rest := rest.map (x_cv ad)) ⟨X.1, X.2.1, X.2.2.1, X.2.2.2.2.2.1, hts⟩ (hct l ad ca D X.2.2.2.2.2.2.2.2.2.1) cw
    ⟨x_blind, fun U hU hW => ⟨rfl, x_PreU X hP hS hU hW⟩⟩ rfl (by rw [List.length_map]; exact hn) hL.1 hmap (lv_room (by rw [x_mapcat]; exact Nat.le_of_ble_eq_true hcat)) (x_tbd ok hi) (x_room o)) ?_
  intro r σ' hq
  exact kk r σ' hq ok p l e s m args below meth c ad ca D X
end XE
/-! switches -/
def x_prs (pc : Nat) : Int → List Int → Option (List (Int32 × Nat))
  | _, [] => some []
  | v, off :: l => match (pc : Int) + off with
    | .ofNat t => match x_prs pc (v + 1) l with
      | some r => some ((Int32.ofInt v, t) :: r)
      | none => none
    | _ => none
def x_chn (x : Int32) : List (Int32 × Nat) → Nat → (Nat → Prop) → Prop
  | [], d, E => E d
  | (v, t) :: l, d, E => (x = v → E t) ∧ (¬ x = v → x_chn x l d E)
def x_lks (pc : Nat) : List (Int × Int) → Option (List (Int32 × Nat))
  | [] => some []
  | (v, off) :: l => match (pc : Int) + off with
    | .ofNat t => match x_lks pc l with
      | some r => some ((Int32.ofInt v, t) :: r)
      | none => none
    | _ => none
def x_bsw (o : xO) (M : xM) (n pc : Nat) (f : xF) : Option (List Prop × Int32 × List (Int32 × Nat) × Nat × xF) := match x_blk o M n pc f with
  | none => none
  | some (Ps, pc', f') => match f'.2.1 with
    | .int x :: st => match x_lk (xM_tb M) pc' with
      | some (.tableswitch d lo hi offs, _) => bif decide (-2147483648 ≤ lo) && decide (hi < 2147483648) && decide (hi + 1 = lo + (offs.toList.length : Int)) then (match (pc' : Int) + d with
        | .ofNat td => match x_prs pc' lo offs.toList with
          | some r => some (Ps, x, r, td, (f'.1, st, f'.2.2))
          | none => none
        | _ => none) else none
      | some (.lookupswitch d ps, _) => bif ((ps.toList.zip (ps.toList.drop 1)).all (fun (a, next) => a.1 < next.1)) && ps.toList.all (fun a => decide (-2147483648 ≤ a.1) && decide (a.1 < 2147483648)) then (match (pc' : Int) + d with
        | .ofNat td => match x_lks pc' ps.toList with
          | some r => some (Ps, x, r, td, (f'.1, st, f'.2.2))
          | none => none
        | _ => none) else none
      | _ => none
    | _ => none
theorem x_ofI {x : Int32} {v : Int} (h1 : -2147483648 ≤ v) (h2 : v < 2147483648) : x = Int32.ofInt v ↔ x.toInt = v := by
  have hv : (Int32.ofInt v).toInt = v := Int32.toInt_ofInt_of_le (by omega) (by omega)
  constructor
  · intro h; rw [h]; exact hv
  · intro h; exact Int32.toInt_inj.mp (by rw [h, hv])
theorem x_prs_in {pc : Nat} {x : Int32} {E : Nat → Prop} : ∀ {offs : List Int} {v : Int} {r : List (Int32 × Nat)} {d : Nat}, -2147483648 ≤ v → v + offs.length ≤ 2147483648 → x_prs pc v offs = some r → x_chn x r d E →
    (∀ (j : Nat) (off : Int), offs[j]? = some off → x.toInt = v + j → ∃ t : Nat, (pc : Int) + off = (t : Int) ∧ E t) ∧ ((x.toInt < v ∨ v + offs.length ≤ x.toInt) → E d)
  | [], v, r, d, _, _, h, k => by
    unfold x_prs at h
    cases h
    exact ⟨fun j off hj => by simp at hj, fun _ => k⟩
  | off :: l, v, r, d, h1, h2, h, k => by
    unfold x_prs at h
    split at h
    next t ht =>
      split at h
      next r2 hr2 =>
        cases h
        simp only [List.length_cons, Int.natCast_add, Int.natCast_one] at h2
        obtain ⟨k1, k2⟩ := k
        have hv : x = Int32.ofInt v ↔ x.toInt = v := x_ofI h1 (by omega)
        refine ⟨fun j off' hj hx => ?_, fun hx => ?_⟩
        · cases j with
          | zero =>
            simp only [List.getElem?_cons_zero, Option.some.injEq] at hj
            subst hj
            exact ⟨t, ht, k1 (hv.mpr (by rw [hx]; simp))⟩
          | succ j =>
            have hne : ¬ x = Int32.ofInt v := fun q => by
              have := hv.mp q
              rw [this] at hx
              simp at hx
              omega
            exact (x_prs_in (by omega) (by omega) hr2 (k2 hne)).1 j off' (by simpa using hj) (by rw [hx]; simp; omega)
        · simp only [List.length_cons, Int.natCast_add, Int.natCast_one] at hx
          have hne : ¬ x = Int32.ofInt v := fun q => by
            have := hv.mp q
            omega
          exact (x_prs_in (by omega) (by omega) hr2 (k2 hne)).2 (by omega)
      next => cases h
    next => cases h
theorem x_lks_in {pc : Nat} {x : Int32} {E : Nat → Prop} {dflt : Int} {d : Nat} (hd : (pc : Int) + dflt = (d : Int)) : ∀ {ps : List (Int × Int)} {r : List (Int32 × Nat)}, (ps.all (fun a => decide (-2147483648 ≤ a.1) && decide (a.1 < 2147483648)) = true) → x_lks pc ps = some r → x_chn x r d E → ∃ t : Nat, (pc : Int) + Op.lookupswitch.offset ps dflt x.toInt = (t : Int) ∧ E t
  | [], r, _, h, k => by
    unfold x_lks at h
    cases h
    exact ⟨d, hd, k⟩
  | (v, off) :: l, r, ha, h, k => by
    simp only [List.all_cons, Bool.and_eq_true, decide_eq_true_eq] at ha
    unfold x_lks at h
    split at h
    next t ht =>
      split at h
      next r2 hr2 =>
        cases h
        obtain ⟨k1, k2⟩ := k
        have hv : x = Int32.ofInt v ↔ x.toInt = v := x_ofI ha.1.1 ha.1.2
        by_cases hx : x.toInt = v
        · refine ⟨t, ?_, k1 (hv.mpr hx)⟩
          show (pc : Int) + (if v = x.toInt then off else Op.lookupswitch.offset l dflt x.toInt) = (t : Int)
          rw [if_pos hx.symm]
          exact ht
        · obtain ⟨t2, a1, a2⟩ := x_lks_in hd (by simpa using ha.2) hr2 (k2 (fun q => hx (hv.mp q)))
          refine ⟨t2, ?_, a2⟩
          show (pc : Int) + (if v = x.toInt then off else Op.lookupswitch.offset l dflt x.toInt) = (t2 : Int)
          rw [if_neg (Ne.symm hx)]
          exact a1
      next => cases h
    next => cases h
section XW
variable {o : xO} {M : xM} {Q : Option Value → xSg → Prop} {pc : Nat} {f : xF}
theorem ev_sw (n : Nat) (Ps : List Prop) (x : Int32) (r : List (Int32 × Nat)) (d : Nat) (f' : xF) (h : x_bsw o M n pc f = some (Ps, x, r, d, f')) (hc : x_conj Ps) (k : x_chn x r d (fun t => xEv o M Q t f')) : xEv o M Q pc f := by
  intro ok p l e s m args below meth c ad ca D X
  unfold x_bsw at h
  split at h
  next => cases h
  next Ps1 pc1 f1 h1 =>
    split at h
    next x1 st heq =>
      split at h
      next d1 lo hi offs len hlk =>
        cases hb : (decide (-2147483648 ≤ lo) && decide (hi < 2147483648) && decide (hi + 1 = lo + (offs.toList.length : Int))) with
        | false => rw [hb] at h; cases h
        | true =>
          rw [hb] at h
          simp only [Bool.and_eq_true, decide_eq_true_eq] at hb
          obtain ⟨⟨b1, b2⟩, b3⟩ := hb
          dsimp only [cond_true] at h
          split at h
          next td htd =>
            split at h
            next r1 hr1 =>
              cases h
              refine x_blk_ok X ok n (x_conj_all hc) h1 ?_
              intro H locs ls hP hS hL
              rw [heq]
              have hd := x_tbd ok hlk
              obtain ⟨g1, g2⟩ := x_prs_in b1 (by omega) hr1 k
              by_cases hout : x.toInt < lo ∨ hi < x.toInt
              · exact lv_tableOut X.1 X.2.1 hd hout htd (g2 (by omega) ok p l e s m args below meth c ad ca D X H locs ls hP hS hL)
              · have h3 : ¬ x.toInt < lo := fun q => hout (Or.inl q)
                have h4 : ¬ hi < x.toInt := fun q => hout (Or.inr q)
                have hj : (x.toInt - lo).toNat < offs.toList.length := by omega
                have hjo : offs.toList[(x.toInt - lo).toNat]? = some offs.toList[(x.toInt - lo).toNat] := List.getElem?_eq_getElem hj
                obtain ⟨t, ht, hE⟩ := g1 (x.toInt - lo).toNat _ hjo (by omega)
                exact lv_tableIn X.1 X.2.1 hd h3 h4 (by rw [← Array.getElem?_toList]; exact hjo) ht (hE ok p l e s m args below meth c ad ca D X H locs ls hP hS hL)
            next => cases h
          next => cases h
      next d1 ps len hlk =>
        cases hb : (((ps.toList.zip (ps.toList.drop 1)).all (fun (a, next) => a.1 < next.1)) && ps.toList.all (fun a => decide (-2147483648 ≤ a.1) && decide (a.1 < 2147483648))) with
        | false => rw [hb] at h; cases h
        | true =>
          rw [hb] at h
          rw [Bool.and_eq_true] at hb
          dsimp only [cond_true] at h
          split at h
          next td htd =>
            split at h
            next r1 hr1 =>
              cases h
              refine x_blk_ok X ok n (x_conj_all hc) h1 ?_
              intro H locs ls hP hS hL
              rw [heq]
              have hd := x_tbd ok hlk
              obtain ⟨t, ht, hE⟩ := x_lks_in htd hb.2 hr1 k
              exact lv_lookup X.1 X.2.1 hd hb.1 rfl ht (hE ok p l e s m args below meth c ad ca D X H locs ls hP hS hL)
            next => cases h
          next => cases h
      next => cases h
    next => cases h
end XW
