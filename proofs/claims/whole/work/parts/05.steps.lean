/-! each instruction over the machine -/
section XS
variable {o : xO} {M : xM} {p : Program} {l : Launch} {e : Env} {s : State} {m : MethodId} {args : Array Value} {below : List Frame} {meth : Method} {c : Code} {ad : Nat → Nat} {ca : Nat → ClassId} {D : va_G} {Qf : State → Prop}
def x_G (o : xO) (M : xM) (p : Program) (l : Launch) (e : Env) (s : State) (m : MethodId) (args : Array Value) (below : List Frame) (meth : Method) (c : Code) (ad : Nat → Nat) (ca : Nat → ClassId) (D : va_G) (Qf : State → Prop) (pc : Nat) (f : xF) : Prop :=
  ∀ (H : Heap) (locs : List Loc) (ls : Array Slot), va_P D vwCl (x_wl ca ad f.2.2) H → va_S (x_A o ad s) s.heap H locs → x_L ad ls (xM_maxL M) f.1 → W p l e (x_Rm o) s m args below meth c H locs (x_Cc o) (x_Cs o) Qf (F0 m pc ls (f.2.1.map (x_cv ad)))
variable {pc pc' : Nat} {f f' : xF} {Ps : List Prop}
theorem x_psh_ok {v : Value} {n : Nat} (hv : x_cv ad v = v)
    (row : ∀ (H : Heap) (locs : List Loc) (ls : Array Slot) (rest : List Value), W p l e (x_Rm o) s m args below meth c H locs (x_Cc o) (x_Cs o) Qf (F0 m n ls (v :: rest)) → W p l e (x_Rm o) s m args below meth c H locs (x_Cc o) (x_Cs o) Qf (F0 m pc ls rest))
    (h : x_psh v n f = some (Ps, pc', f')) (k : x_G o M p l e s m args below meth c ad ca D Qf pc' f') : x_G o M p l e s m args below meth c ad ca D Qf pc f := by
  unfold x_psh at h
  cases h
  intro H locs ls hP hS hL
  refine row H locs ls _ ?_
  have := k H locs ls hP hS hL
  rw [List.map_cons, hv] at this
  exact this
theorem x_bin_ok {g : Int32 → Int32 → Int32}
    (row : ∀ (H : Heap) (locs : List Loc) (ls : Array Slot) (rest : List Value) (x y : Int32), W p l e (x_Rm o) s m args below meth c H locs (x_Cc o) (x_Cs o) Qf (F0 m (pc + 1) ls (.int (g x y) :: rest)) → W p l e (x_Rm o) s m args below meth c H locs (x_Cc o) (x_Cs o) Qf (F0 m pc ls (.int y :: .int x :: rest)))
    (h : x_bin g pc f = some (Ps, pc', f')) (k : x_G o M p l e s m args below meth c ad ca D Qf pc' f') : x_G o M p l e s m args below meth c ad ca D Qf pc f := by
  unfold x_bin at h
  split at h
  next y x st heq =>
    cases h
    intro H locs ls hP hS hL
    rw [heq]
    exact row H locs ls _ x y (k H locs ls hP hS hL)
  next => cases h
theorem x_dv_ok {g : Int32 → Int32 → Int32} (hp : ∀ P ∈ Ps, P)
    (row : ∀ (H : Heap) (locs : List Loc) (ls : Array Slot) (rest : List Value) (x y : Int32), ¬ y = 0 → W p l e (x_Rm o) s m args below meth c H locs (x_Cc o) (x_Cs o) Qf (F0 m (pc + 1) ls (.int (g x y) :: rest)) → W p l e (x_Rm o) s m args below meth c H locs (x_Cc o) (x_Cs o) Qf (F0 m pc ls (.int y :: .int x :: rest)))
    (h : x_dv g pc f = some (Ps, pc', f')) (k : x_G o M p l e s m args below meth c ad ca D Qf pc' f') : x_G o M p l e s m args below meth c ad ca D Qf pc f := by
  unfold x_dv at h
  split at h
  next y x st heq =>
    cases h
    intro H locs ls hP hS hL
    rw [heq]
    exact row H locs ls _ x y (hp _ List.mem_cons_self) (k H locs ls hP hS hL)
  next => cases h
theorem x_bil_ok {g : Int64 → Int64 → Value} (hv : ∀ x y, x_cv ad (g x y) = g x y)
    (row : ∀ (H : Heap) (locs : List Loc) (ls : Array Slot) (rest : List Value) (x y : Int64), W p l e (x_Rm o) s m args below meth c H locs (x_Cc o) (x_Cs o) Qf (F0 m (pc + 1) ls (g x y :: rest)) → W p l e (x_Rm o) s m args below meth c H locs (x_Cc o) (x_Cs o) Qf (F0 m pc ls (.long y :: .long x :: rest)))
    (h : x_bil g pc f = some (Ps, pc', f')) (k : x_G o M p l e s m args below meth c ad ca D Qf pc' f') : x_G o M p l e s m args below meth c ad ca D Qf pc f := by
  unfold x_bil at h
  split at h
  next y x st heq =>
    cases h
    intro H locs ls hP hS hL
    rw [heq]
    refine row H locs ls _ x y ?_
    have := k H locs ls hP hS hL
    rw [List.map_cons, hv] at this
    exact this
  next => cases h
theorem x_uni_ok {g : Int32 → Value} (hv : ∀ x, x_cv ad (g x) = g x)
    (row : ∀ (H : Heap) (locs : List Loc) (ls : Array Slot) (rest : List Value) (x : Int32), W p l e (x_Rm o) s m args below meth c H locs (x_Cc o) (x_Cs o) Qf (F0 m (pc + 1) ls (g x :: rest)) → W p l e (x_Rm o) s m args below meth c H locs (x_Cc o) (x_Cs o) Qf (F0 m pc ls (.int x :: rest)))
    (h : x_uni g pc f = some (Ps, pc', f')) (k : x_G o M p l e s m args below meth c ad ca D Qf pc' f') : x_G o M p l e s m args below meth c ad ca D Qf pc f := by
  unfold x_uni at h
  split at h
  next x st heq =>
    cases h
    intro H locs ls hP hS hL
    rw [heq]
    refine row H locs ls _ x ?_
    have := k H locs ls hP hS hL
    rw [List.map_cons, hv] at this
    exact this
  next => cases h
theorem x_l2i_ok
    (row : ∀ (H : Heap) (locs : List Loc) (ls : Array Slot) (rest : List Value) (x : Int64), W p l e (x_Rm o) s m args below meth c H locs (x_Cc o) (x_Cs o) Qf (F0 m (pc + 1) ls (.int x.toInt32 :: rest)) → W p l e (x_Rm o) s m args below meth c H locs (x_Cc o) (x_Cs o) Qf (F0 m pc ls (.long x :: rest)))
    (h : x_l2i pc f = some (Ps, pc', f')) (k : x_G o M p l e s m args below meth c ad ca D Qf pc' f') : x_G o M p l e s m args below meth c ad ca D Qf pc f := by
  unfold x_l2i at h
  split at h
  next x st heq =>
    cases h
    intro H locs ls hP hS hL
    rw [heq]
    exact row H locs ls _ x (k H locs ls hP hS hL)
  next => cases h
theorem x_ldi_ok {i n : Nat}
    (row : ∀ (H : Heap) (locs : List Loc) (ls : Array Slot) (rest : List Value) (x : Int32), ls[i]? = some (.val (.int x)) → W p l e (x_Rm o) s m args below meth c H locs (x_Cc o) (x_Cs o) Qf (F0 m n ls (.int x :: rest)) → W p l e (x_Rm o) s m args below meth c H locs (x_Cc o) (x_Cs o) Qf (F0 m pc ls rest))
    (h : x_ldi i n f = some (Ps, pc', f')) (k : x_G o M p l e s m args below meth c ad ca D Qf pc' f') : x_G o M p l e s m args below meth c ad ca D Qf pc f := by
  unfold x_ldi at h
  split at h
  next x heq =>
    cases h
    intro H locs ls hP hS hL
    exact row H locs ls _ x (hL.2.2 _ _ heq) (k H locs ls hP hS hL)
  next => cases h
theorem x_ldl_ok {i n : Nat}
    (row : ∀ (H : Heap) (locs : List Loc) (ls : Array Slot) (rest : List Value) (x : Int64), ls[i]? = some (.val (.long x)) → W p l e (x_Rm o) s m args below meth c H locs (x_Cc o) (x_Cs o) Qf (F0 m n ls (.long x :: rest)) → W p l e (x_Rm o) s m args below meth c H locs (x_Cc o) (x_Cs o) Qf (F0 m pc ls rest))
    (h : x_ldl i n f = some (Ps, pc', f')) (k : x_G o M p l e s m args below meth c ad ca D Qf pc' f') : x_G o M p l e s m args below meth c ad ca D Qf pc f := by
  unfold x_ldl at h
  split at h
  next x heq =>
    cases h
    intro H locs ls hP hS hL
    exact row H locs ls _ x (hL.2.2 _ _ heq) (k H locs ls hP hS hL)
  next => cases h
theorem x_lda_ok {i n : Nat}
    (row : ∀ (H : Heap) (locs : List Loc) (ls : Array Slot) (rest : List Value) (x : Nat), ls[i]? = some (.val (.ref x)) → W p l e (x_Rm o) s m args below meth c H locs (x_Cc o) (x_Cs o) Qf (F0 m n ls (.ref x :: rest)) → W p l e (x_Rm o) s m args below meth c H locs (x_Cc o) (x_Cs o) Qf (F0 m pc ls rest))
    (h : x_lda i n f = some (Ps, pc', f')) (k : x_G o M p l e s m args below meth c ad ca D Qf pc' f') : x_G o M p l e s m args below meth c ad ca D Qf pc f := by
  unfold x_lda at h
  split at h
  next x heq =>
    cases h
    intro H locs ls hP hS hL
    exact row H locs ls _ (ad x) (hL.2.2 _ _ heq) (k H locs ls hP hS hL)
  next => cases h
theorem x_blt {a b : Nat} {P : Bool} (h : (Nat.blt a b && P) = true) : a < b ∧ P = true := by
  rw [Bool.and_eq_true] at h
  exact ⟨Nat.le_of_ble_eq_true h.1, h.2⟩
theorem x_notT {P : Bool} (h : (!P) = true) : P = false := by cases P <;> simp_all
theorem x_sti_ok {i n : Nat}
    (row : ∀ (H : Heap) (locs : List Loc) (ls : Array Slot) (rest : List Value) (x : Int32) (lv lv' : List (Nat × Value)), lv_has ls (xM_maxL M) lv → i < xM_maxL M → (i, Value.int x) :: lv.filter (fun q => !(q.1 == i) && !(q.1 + 1 == i && q.2.category == 2)) = lv' → (∀ ls' : Array Slot, lv_has ls' (xM_maxL M) lv' → W p l e (x_Rm o) s m args below meth c H locs (x_Cc o) (x_Cs o) Qf (F0 m n ls' rest)) → W p l e (x_Rm o) s m args below meth c H locs (x_Cc o) (x_Cs o) Qf (F0 m pc ls (.int x :: rest)))
    (h : x_sti (xM_maxL M) i n f = some (Ps, pc', f')) (k : x_G o M p l e s m args below meth c ad ca D Qf pc' f') : x_G o M p l e s m args below meth c ad ca D Qf pc f := by
  unfold x_sti at h
  split at h
  next x st heq =>
    cases hb : (Nat.blt i (xM_maxL M) && !x_plg f.1 i) with
    | false => rw [hb] at h; cases h
    | true =>
      rw [hb] at h
      cases h
      obtain ⟨hlt, hp⟩ := x_blt hb
      intro H locs ls hP hS hL
      rw [heq]
      exact row H locs ls _ x _ _ hL.has hlt rfl (fun ls' hl => k H locs ls' hP hS (x_L.st1 (v := .int x) (x_notT hp) hl))
  next => cases h
theorem x_sta_ok {i n : Nat}
    (row : ∀ (H : Heap) (locs : List Loc) (ls : Array Slot) (rest : List Value) (x : Nat) (lv lv' : List (Nat × Value)), lv_has ls (xM_maxL M) lv → i < xM_maxL M → (i, Value.ref x) :: lv.filter (fun q => !(q.1 == i) && !(q.1 + 1 == i && q.2.category == 2)) = lv' → (∀ ls' : Array Slot, lv_has ls' (xM_maxL M) lv' → W p l e (x_Rm o) s m args below meth c H locs (x_Cc o) (x_Cs o) Qf (F0 m n ls' rest)) → W p l e (x_Rm o) s m args below meth c H locs (x_Cc o) (x_Cs o) Qf (F0 m pc ls (.ref x :: rest)))
    (h : x_sta (xM_maxL M) i n f = some (Ps, pc', f')) (k : x_G o M p l e s m args below meth c ad ca D Qf pc' f') : x_G o M p l e s m args below meth c ad ca D Qf pc f := by
  unfold x_sta at h
  split at h
  next x st heq =>
    cases hb : (Nat.blt i (xM_maxL M) && !x_plg f.1 i) with
    | false => rw [hb] at h; cases h
    | true =>
      rw [hb] at h
      cases h
      obtain ⟨hlt, hp⟩ := x_blt hb
      intro H locs ls hP hS hL
      rw [heq]
      exact row H locs ls _ (ad x) _ _ hL.has hlt rfl (fun ls' hl => k H locs ls' hP hS (x_L.st1 (v := .ref x) (x_notT hp) hl))
  next => cases h
theorem x_stl_ok {i n : Nat}
    (row : ∀ (H : Heap) (locs : List Loc) (ls : Array Slot) (rest : List Value) (x : Int64) (lv lv' : List (Nat × Value)), lv_has ls (xM_maxL M) lv → i + 1 < xM_maxL M → (i, Value.long x) :: lv.filter (fun q => !(q.1 == i) && (!(q.1 == i + 1) && !(q.1 + 1 == i && q.2.category == 2))) = lv' → (∀ ls' : Array Slot, lv_has ls' (xM_maxL M) lv' → W p l e (x_Rm o) s m args below meth c H locs (x_Cc o) (x_Cs o) Qf (F0 m n ls' rest)) → W p l e (x_Rm o) s m args below meth c H locs (x_Cc o) (x_Cs o) Qf (F0 m pc ls (.long x :: rest)))
    (h : x_stl (xM_maxL M) i n f = some (Ps, pc', f')) (k : x_G o M p l e s m args below meth c ad ca D Qf pc' f') : x_G o M p l e s m args below meth c ad ca D Qf pc f := by
  unfold x_stl at h
  split at h
  next x st heq =>
    cases hb : (Nat.blt (i + 1) (xM_maxL M) && !x_plg f.1 i) with
    | false => rw [hb] at h; cases h
    | true =>
      rw [hb] at h
      cases h
      obtain ⟨hlt, hp⟩ := x_blt hb
      intro H locs ls hP hS hL
      rw [heq]
      exact row H locs ls _ x _ _ hL.has hlt rfl (fun ls' hl => k H locs ls' hP hS (x_L.st2 (v := .long x) (x_notT hp) hl))
  next => cases h
theorem x_inc_ok (hx : p.tables.exec = Jvm.exec) (hb : c.code = xM_code M) {i : Nat} {n : Int} (hd : decode (xM_code M) pc = .ok (.iinc i n, 3))
    (h : x_inc (xM_maxL M) i n pc f = some (Ps, pc', f')) (k : x_G o M p l e s m args below meth c ad ca D Qf pc' f') : x_G o M p l e s m args below meth c ad ca D Qf pc f := by
  unfold x_inc at h
  split at h
  next x heq =>
    cases hb2 : (Nat.blt i (xM_maxL M) && !x_plg f.1 i) with
    | false => rw [hb2] at h; cases h
    | true =>
      rw [hb2] at h
      cases h
      obtain ⟨hlt, hp⟩ := x_blt hb2
      intro H locs ls hP hS hL
      have hm : (i, Value.int x) ∈ x_lvl ad 0 f.1 := (x_lvl_mem ad f.1 0 _).mpr ⟨i, .int x, heq, by rw [Nat.zero_add]; rfl⟩
      obtain ⟨kk, hk⟩ := List.getElem?_of_mem hm
      exact lv_iinc hx hb hd hL.has hk rfl hlt rfl (fun ls' hl => k H locs ls' hP hS (x_L.st1 (v := .int (x + Int32.ofInt n)) (x_notT hp) hl))
  next => cases h
theorem x_oneC {v : Value} (h : x_one v = true) : (x_cv ad v).category = 1 := by rw [x_cv_cat]; exact Nat.eq_of_beq_eq_true h
theorem x_dup_ok (hx : p.tables.exec = Jvm.exec) (hb : c.code = xM_code M) (hd : decode (xM_code M) pc = .ok (.dup, 1))
    (h : x_dup pc f = some (Ps, pc', f')) (k : x_G o M p l e s m args below meth c ad ca D Qf pc' f') : x_G o M p l e s m args below meth c ad ca D Qf pc f := by
  unfold x_dup at h
  split at h
  next a st heq =>
    cases h1 : x_one a with
    | false => rw [h1] at h; cases h
    | true =>
      rw [h1] at h
      cases h
      intro H locs ls hP hS hL
      rw [heq]
      exact lv_dup hx hb hd (x_oneC h1) (k H locs ls hP hS hL)
  next => cases h
theorem x_pop_ok (hx : p.tables.exec = Jvm.exec) (hb : c.code = xM_code M) (hd : decode (xM_code M) pc = .ok (.pop, 1))
    (h : x_pop pc f = some (Ps, pc', f')) (k : x_G o M p l e s m args below meth c ad ca D Qf pc' f') : x_G o M p l e s m args below meth c ad ca D Qf pc f := by
  unfold x_pop at h
  split at h
  next a st heq =>
    cases h1 : x_one a with
    | false => rw [h1] at h; cases h
    | true =>
      rw [h1] at h
      cases h
      intro H locs ls hP hS hL
      rw [heq]
      exact lv_pop hx hb hd (x_oneC h1) (k H locs ls hP hS hL)
  next => cases h
theorem x_dup2_ok (hx : p.tables.exec = Jvm.exec) (hb : c.code = xM_code M) (hd : decode (xM_code M) pc = .ok (.dup2, 1))
    (h : x_dup2 pc f = some (Ps, pc', f')) (k : x_G o M p l e s m args below meth c ad ca D Qf pc' f') : x_G o M p l e s m args below meth c ad ca D Qf pc f := by
  unfold x_dup2 at h
  split at h
  next a b st heq =>
    cases h1 : (x_one a && x_one b) with
    | false => rw [h1] at h; cases h
    | true =>
      rw [h1] at h
      cases h
      rw [Bool.and_eq_true] at h1
      intro H locs ls hP hS hL
      rw [heq]
      exact lv_dup2_11 hx hb hd (x_oneC h1.1) (x_oneC h1.2) (k H locs ls hP hS hL)
  next => cases h
theorem x_dpx_ok (hx : p.tables.exec = Jvm.exec) (hb : c.code = xM_code M) (hd : decode (xM_code M) pc = .ok (.dup_x1, 1))
    (h : x_dpx pc f = some (Ps, pc', f')) (k : x_G o M p l e s m args below meth c ad ca D Qf pc' f') : x_G o M p l e s m args below meth c ad ca D Qf pc f := by
  unfold x_dpx at h
  split at h
  next a b st heq =>
    cases h1 : (x_one a && x_one b) with
    | false => rw [h1] at h; cases h
    | true =>
      rw [h1] at h
      cases h
      rw [Bool.and_eq_true] at h1
      intro H locs ls hP hS hL
      rw [heq]
      exact lv_dup_x1 hx hb hd (x_oneC h1.1) (x_oneC h1.2) (k H locs ls hP hS hL)
  next => cases h
theorem x_ent0 {σ : xSg} {k cI : Nat} {rs : List (Option Nat)} (h : x_sh k = (0, cI, rs)) : x_ent ca ad σ k = .inr (cI, x_fs ad (σ k) 0 rs) := by
  unfold x_ent; rw [h]; rfl
theorem x_ent1 {σ : xSg} {k n : Nat} {rs : List (Option Nat)} (h : x_sh k = (1, n, rs)) : x_ent ca ad σ k = .inl (ca k, n, .inl (σ k)) := by
  unfold x_ent; rw [h]; rfl
theorem x_ent2 {σ : xSg} {k n : Nat} {rs : List (Option Nat)} (h : x_sh k = (2, n, rs)) : x_ent ca ad σ k = .inl (ca k, n, .inl (σ k)) := by
  unfold x_ent; rw [h]; rfl
theorem x_ent3 {σ : xSg} {k n : Nat} {rs : List (Option Nat)} (h : x_sh k = (3, n, rs)) : x_ent ca ad σ k = .inl (ca k, n, .inr (.inr (.inr (.inr (x_rf ad rs))))) := by
  unfold x_ent; rw [h]; rfl
theorem x_gf_ok (X : x_Cx o M p s m args meth c ad ca D) (ok : x_lkok (xM_own M) (xM_lk M)) {idx : Nat} (hd : decode (xM_code M) pc = .ok (.getfield idx, 3))
    (h : x_gf (xM_lk M) idx pc f = some (Ps, pc', f')) (k : x_G o M p l e s m args below meth c ad ca D Qf pc' f') : x_G o M p l e s m args below meth c ad ca D Qf pc f := by
  unfold x_gf at h
  split at h
  next kc st heq =>
    split at h
    next cI i t hlk =>
      obtain ⟨C, T, N, hcl, hiN, hfl, -, -⟩ := ok.1 _ (x_lk_mem hlk)
      dsimp only at hcl hiN hfl
      split at h
      next c2 rs hsh =>
        cases hb : Nat.beq cI c2 with
        | false => rw [hb] at h; cases h
        | true =>
          rw [hb] at h
          have hc2 : cI = c2 := Nat.eq_of_beq_eq_true hb
          subst hc2
          have hk : kc < x_K := x_sh_lt hsh (by decide)
          dsimp only [cond_true] at h
          split at h
          next r hr =>
            cases h
            intro H locs ls hP hS hL
            rw [heq]
            exact va_get X.1 X.2.1 X.2.2.2.2.2.2.1 (x_inCl hcl) X.2.2.2.2.2.1 X.2.2.2.2.2.2.2.1 hP kc (by rw [x_wl_at hk, x_ent0 hsh]) hcl i hiN (X.2.2.2.2.2.2.1 _ hfl) (fun x hx => hx) (x_fs_ref ad _ rs 0 i r hr) hd (k H locs ls hP hS hL)
          next hr =>
            cases h
            intro H locs ls hP hS hL
            rw [heq]
            have hv := x_fs_int ad (f.2.2 kc) rs 0 i hr
            rw [Nat.zero_add] at hv
            exact va_get X.1 X.2.1 X.2.2.2.2.2.2.1 (x_inCl hcl) X.2.2.2.2.2.1 X.2.2.2.2.2.2.2.1 hP kc (by rw [x_wl_at hk, x_ent0 hsh]) hcl i hiN (X.2.2.2.2.2.2.1 _ hfl) (fun x hx => hx) hv hd (k H locs ls hP hS hL)
          next => cases h
      next => cases h
    next => cases h
  next => cases h
theorem x_pfl (X : x_Cx o M p s m args meth c ad ca D) {idx cI i kc : Nat} {C : String} {T : u_T} {N : Nat} {rs : List (Option Nat)} {x : Int32} {ty : FieldType} {rest : List Value} {σ : xSg} {H : Heap} {locs : List Loc} {ls : Array Slot}
    (hd : decode (xM_code M) pc = .ok (.putfield idx, 3)) (hcl : vwCl[cI]? = some (C, T, N)) (hiN : i < N) (hfl : Cond.fieldLink (xM_own M) idx (T i).1 (T i).2.1 (T i).2.2.1 ∈ x_tbl) (hfin : (T i).2.2.2 = false) (hty : parseFieldDescriptor (T i).2.2.1 = some ty) (hn : narrow ty (.int x) = .int x) (hf : fits ty (.int x) = true)
    (hsh : x_sh kc = (0, cI, rs)) (hr : x_nth rs i = some none) (hP : va_P D vwCl (x_wl ca ad σ) H) (hS : va_S (x_A o ad s) s.heap H locs)
    (kk : ∀ (H1 : Heap) (locs1 : List Loc), va_P D vwCl (x_wl ca ad (x_up σ kc (upd (σ kc) i x))) H1 → va_S (x_A o ad s) s.heap H1 locs1 → W p l e (x_Rm o) s m args below meth c H1 locs1 (x_Cc o) (x_Cs o) Qf (F0 m (pc + 3) ls rest)) :
    W p l e (x_Rm o) s m args below meth c H locs (x_Cc o) (x_Cs o) Qf (F0 m pc ls (.int x :: .ref (ad kc) :: rest)) := by
  have hk : kc < x_K := x_sh_lt hsh (by decide)
  obtain ⟨ty0, hty0⟩ := x_tyCl hcl
  refine va_put X.1 X.2.1 X.2.2.2.2.2.2.1 (x_inCl hcl) ty0 hty0 (x_nmCl hcl) X.2.2.2.2.2.1 X.2.2.2.2.2.2.2.1 hP (x_wD X.2.2.2.2.2.2.2.2.2.1 X.2.2.2.2.2.2.2.2.2.2.1) hS kc (by rw [x_wl_at hk, x_ent0 hsh]) hcl i hiN (X.2.2.2.2.2.2.1 _ hfl) (fun x hx => hx) hfin hty hn hf (x_fs_lt ad _ rs 0 i hr) hd ?_
  intro H1 locs1 hP1 hD1 hS1
  refine kk H1 locs1 ?_ hS1
  have hset := x_fs_set ad (σ kc) x rs 0 i hr
  rw [Nat.zero_add] at hset
  rw [x_wl_set (σ' := x_up σ kc (upd (σ kc) i x)) hk (fun j hj => x_up_ne hj) (by rw [x_ent0 hsh, hset, x_up_eq])] at hP1
  exact hP1
theorem x_fitI (x : Int32) : fits .int (.int x) = true := rfl
theorem x_narZ {x : Int32} (h : x = 0 ∨ x = 1) : narrow .boolean (.int x) = .int x ∧ fits .boolean (.int x) = true := by
  rcases h with rfl | rfl <;> exact ⟨by decide +kernel, by decide +kernel⟩
theorem x_pf_ok (X : x_Cx o M p s m args meth c ad ca D) (ok : x_lkok (xM_own M) (xM_lk M)) (hp : ∀ P ∈ Ps, P) {idx : Nat} (hd : decode (xM_code M) pc = .ok (.putfield idx, 3))
    (h : x_pf (xM_lk M) idx pc f = some (Ps, pc', f')) (k : x_G o M p l e s m args below meth c ad ca D Qf pc' f') : x_G o M p l e s m args below meth c ad ca D Qf pc f := by
  unfold x_pf at h
  split at h
  next x kc st heq =>
    split at h
    next cI i t hlk =>
      obtain ⟨C, T, N, hcl, hiN, hfl, ht0, ht1⟩ := ok.1 _ (x_lk_mem hlk)
      dsimp only at hcl hiN hfl ht0 ht1
      split at h
      next c2 rs hsh =>
        cases hb : Nat.beq cI c2 with
        | false => rw [hb] at h; cases h
        | true =>
          rw [hb] at h
          have hc2 : cI = c2 := Nat.eq_of_beq_eq_true hb
          subst hc2
          dsimp only [cond_true] at h
          split at h
          next hr =>
            split at h
            next =>
              cases h
              intro H locs ls hP hS hL
              rw [heq]
              obtain ⟨e1, e2⟩ := ht0 rfl
              exact x_pfl X hd hcl hiN hfl e2 (ty := .int) (by rw [e1]; decide +kernel) (vp_nar_int x) (x_fitI x) hsh hr hP hS (fun H1 locs1 hP1 hS1 => k H1 locs1 ls hP1 hS1 hL)
            next =>
              cases h
              intro H locs ls hP hS hL
              rw [heq]
              obtain ⟨e1, e2⟩ := ht1 rfl
              obtain ⟨n1, n2⟩ := x_narZ (hp _ List.mem_cons_self)
              exact x_pfl X hd hcl hiN hfl e2 (ty := .boolean) (by rw [e1]; decide +kernel) n1 n2 hsh hr hP hS (fun H1 locs1 hP1 hS1 => k H1 locs1 ls hP1 hS1 hL)
            next => cases h
          next => cases h
      next => cases h
    next => cases h
  next => cases h
theorem x_gs_ok (X : x_Cx o M p s m args meth c ad ca D) (ok : x_lkok (xM_own M) (xM_lk M)) {idx : Nat} (hd : decode (xM_code M) pc = .ok (.getstatic idx, 3))
    (h : x_gs (xM_lk M) idx pc f = some (Ps, pc', f')) (k : x_G o M p l e s m args below meth c ad ca D Qf pc' f') : x_G o M p l e s m args below meth c ad ca D Qf pc f := by
  unfold x_gs at h
  split at h
  next j hlk =>
    obtain ⟨nm, h1, ⟨lc, h2⟩, h3⟩ := ok.2.1 _ (x_lk_mem hlk)
    cases h
    intro H locs ls hP hS hL
    exact va_gets X.1 X.2.1 ((X.2.2.2.2.2.2.2.2.1 j lc h2).2 nm h1) hS X.2.2.2.2.2.1 (X.2.2.2.2.2.2.1 _ h3) (fun x hx => hx) hd (k H locs ls hP hS hL)
  next => cases h
theorem x_ldc_ok (X : x_Cx o M p s m args meth c ad ca D) (ok : x_lkok (xM_own M) (xM_lk M)) {idx : Nat} (hd : decode (xM_code M) pc = .ok (.ldc idx, 2))
    (h : x_ldc (xM_lk M) idx pc f = some (Ps, pc', f')) (k : x_G o M p l e s m args below meth c ad ca D Qf pc' f') : x_G o M p l e s m args below meth c ad ca D Qf pc f := by
  unfold x_ldc at h
  split at h
  next v hlk =>
    have h1 : Cond.constant (xM_own M) idx v ∈ x_tbl := ok.2.2.1 _ (x_lk_mem hlk)
    cases h
    intro H locs ls hP hS hL
    exact lv_ldc X.1 X.2.1 X.2.2.2.2.2.1 (X.2.2.2.2.2.2.1 _ h1) hd (k H locs ls hP hS hL)
  next => cases h
theorem x_ldw_ok (X : x_Cx o M p s m args meth c ad ca D) (ok : x_lkok (xM_own M) (xM_lk M)) {idx : Nat} (hd : decode (xM_code M) pc = .ok (.ldc_w idx, 3))
    (h : x_ldw (xM_lk M) idx pc f = some (Ps, pc', f')) (k : x_G o M p l e s m args below meth c ad ca D Qf pc' f') : x_G o M p l e s m args below meth c ad ca D Qf pc f := by
  unfold x_ldw at h
  split at h
  next v hlk =>
    have h1 : Cond.constant (xM_own M) idx v ∈ x_tbl := ok.2.2.1 _ (x_lk_mem hlk)
    cases h
    intro H locs ls hP hS hL
    exact lv_ldcw X.1 X.2.1 X.2.2.2.2.2.1 (X.2.2.2.2.2.2.1 _ h1) hd (k H locs ls hP hS hL)
  next => cases h
theorem x_ldc2_ok (X : x_Cx o M p s m args meth c ad ca D) (ok : x_lkok (xM_own M) (xM_lk M)) {idx : Nat} (hd : decode (xM_code M) pc = .ok (.ldc2_w idx, 3))
    (h : x_ldc2 (xM_lk M) idx pc f = some (Ps, pc', f')) (k : x_G o M p l e s m args below meth c ad ca D Qf pc' f') : x_G o M p l e s m args below meth c ad ca D Qf pc f := by
  unfold x_ldc2 at h
  split at h
  next v hlk =>
    have h1 : Cond.constantLong (xM_own M) idx v ∈ x_tbl := ok.2.2.1 _ (x_lk_mem hlk)
    cases h
    intro H locs ls hP hS hL
    exact lv_ldc2 X.1 X.2.1 X.2.2.2.2.2.1 (X.2.2.2.2.2.2.1 _ h1) hd (k H locs ls hP hS hL)
  next => cases h
theorem x_ety1 {k n : Nat} {rs : List (Option Nat)} (h : x_sh k = (1, n, rs)) : x_ety k = .int := by unfold x_ety; rw [h]; rfl
theorem x_ety2 {k n : Nat} {rs : List (Option Nat)} (h : x_sh k = (2, n, rs)) : x_ety k = .boolean := by unfold x_ety; rw [h]; rfl
theorem x_ety3 {k n : Nat} {rs : List (Option Nat)} (h : x_sh k = (3, n, rs)) : x_ety k = .object "LaneLock$Sheet" := by unfold x_ety; rw [h]; rfl
theorem x_ial_ok (X : x_Cx o M p s m args meth c ad ca D) (hp : ∀ P ∈ Ps, P) (hd : decode (xM_code M) pc = .ok (.iaload, 1))
    (h : x_ial o pc f = some (Ps, pc', f')) (k : x_G o M p l e s m args below meth c ad ca D Qf pc' f') : x_G o M p l e s m args below meth c ad ca D Qf pc f := by
  unfold x_ial at h
  split at h
  next i kc st heq =>
    split at h
    next n g hrd =>
      cases h
      have hin := hp _ List.mem_cons_self
      intro H locs ls hP hS hL
      rw [heq]
      unfold x_rd at hrd
      split at hrd
      next n2 rs hsh =>
        cases hrd
        obtain ⟨t0, ht⟩ := x_tys_at ca hsh (by decide) (by decide)
        rw [x_ety1 hsh] at ht
        exact va_iald X.1 X.2.1 X.2.2.2.2.2.2.2.1 hP kc t0 (by rw [x_wl_at (x_sh_lt hsh (by decide)), x_ent1 hsh]) ht hin hd (k H locs ls hP hS hL)
      next =>
        cases h99 : Nat.beq kc 99 with
        | true =>
          rw [h99] at hrd
          have e99 : kc = 99 := Nat.eq_of_beq_eq_true h99
          subst e99
          dsimp only [cond_true] at hrd
          split at hrd
          next n3 xs =>
            cases hrd
            obtain ⟨hX, hlt⟩ : va_X (ad 99) n g s s.heap ∧ ad 99 < s.heap.size := X.2.2.2.2.2.2.2.2.2.2.2
            exact va_sld X.1 X.2.1 hX hlt (A := x_A (.inr (n, g)) ad s) (Nat.not_le.mpr hlt) hS hin hd (k H locs ls hP hS hL)
          next => cases hrd
        | false =>
          rw [h99] at hrd
          dsimp only [cond_false] at hrd
          cases h100 : Nat.ble 100 kc with
          | false => rw [h100] at hrd; cases hrd
          | true =>
            rw [h100] at hrd
            dsimp only [cond_true] at hrd
            split at hrd
            next lc hlc =>
              cases hrd
              have hT := (X.2.2.2.2.2.2.2.2.1 (kc - 100) lc hlc).1
              have e1 : 100 + (kc - 100) = kc := Nat.add_sub_cancel' (Nat.le_of_ble_eq_true h100)
              rw [e1] at hT
              exact va_ti X.1 X.2.1 hT hS hin rfl hd (k H locs ls hP hS hL)
            next => cases hrd
    next => cases h
  next => cases h
theorem x_len_ok (X : x_Cx o M p s m args meth c ad ca D) (hd : decode (xM_code M) pc = .ok (.arraylength, 1))
    (h : x_len o pc f = some (Ps, pc', f')) (k : x_G o M p l e s m args below meth c ad ca D Qf pc' f') : x_G o M p l e s m args below meth c ad ca D Qf pc f := by
  unfold x_len at h
  split at h
  next kc st heq =>
    split at h
    next n g hrd =>
      cases h
      intro H locs ls hP hS hL
      rw [heq]
      unfold x_rd at hrd
      split at hrd
      next n2 rs hsh =>
        cases hrd
        obtain ⟨t0, ht⟩ := x_tys_at ca hsh (by decide) (by decide)
        exact va_alen (x := (n, .inl (f.2.2 kc))) X.1 X.2.1 X.2.2.2.2.2.2.2.1 hP kc t0 (by rw [x_wl_at (x_sh_lt hsh (by decide)), x_ent1 hsh]) ht rfl hd (k H locs ls hP hS hL)
      next =>
        cases h99 : Nat.beq kc 99 with
        | true =>
          rw [h99] at hrd
          have e99 : kc = 99 := Nat.eq_of_beq_eq_true h99
          subst e99
          dsimp only [cond_true] at hrd
          split at hrd
          next n3 xs =>
            cases hrd
            obtain ⟨hX, hlt⟩ : va_X (ad 99) n g s s.heap ∧ ad 99 < s.heap.size := X.2.2.2.2.2.2.2.2.2.2.2
            exact va_slen X.1 X.2.1 hX hlt (A := x_A (.inr (n, g)) ad s) (Nat.not_le.mpr hlt) hS hd (k H locs ls hP hS hL)
          next => cases hrd
        | false =>
          rw [h99] at hrd
          dsimp only [cond_false] at hrd
          cases h100 : Nat.ble 100 kc with
          | false => rw [h100] at hrd; cases hrd
          | true =>
            rw [h100] at hrd
            dsimp only [cond_true] at hrd
            split at hrd
            next lc hlc =>
              cases hrd
              have hT := (X.2.2.2.2.2.2.2.2.1 (kc - 100) lc hlc).1
              have e1 : 100 + (kc - 100) = kc := Nat.add_sub_cancel' (Nat.le_of_ble_eq_true h100)
              rw [e1] at hT
              exact va_tlen X.1 X.2.1 hT hS rfl hd (k H locs ls hP hS hL)
            next => cases hrd
    next => cases h
  next => cases h
theorem x_bal_ok (X : x_Cx o M p s m args meth c ad ca D) (hp : ∀ P ∈ Ps, P) (hd : decode (xM_code M) pc = .ok (.baload, 1))
    (h : x_bal pc f = some (Ps, pc', f')) (k : x_G o M p l e s m args below meth c ad ca D Qf pc' f') : x_G o M p l e s m args below meth c ad ca D Qf pc f := by
  unfold x_bal at h
  split at h
  next i kc st heq =>
    split at h
    next n rs hsh =>
      cases h
      have hin := hp _ List.mem_cons_self
      intro H locs ls hP hS hL
      rw [heq]
      obtain ⟨t0, ht⟩ := x_tys_at ca hsh (by decide) (by decide)
      rw [x_ety2 hsh] at ht
      exact va_zald X.1 X.2.1 X.2.2.2.2.2.2.2.1 hP kc t0 (by rw [x_wl_at (x_sh_lt hsh (by decide)), x_ent2 hsh]) ht hin hd (k H locs ls hP hS hL)
    next => cases h
  next => cases h
theorem x_ias_ok (X : x_Cx o M p s m args meth c ad ca D) (hp : ∀ P ∈ Ps, P) (hd : decode (xM_code M) pc = .ok (.iastore, 1))
    (h : x_ias pc f = some (Ps, pc', f')) (k : x_G o M p l e s m args below meth c ad ca D Qf pc' f') : x_G o M p l e s m args below meth c ad ca D Qf pc f := by
  unfold x_ias at h
  split at h
  next x i kc st heq =>
    split at h
    next n rs hsh =>
      cases h
      have hin := hp _ List.mem_cons_self
      intro H locs ls hP hS hL
      rw [heq]
      have hk : kc < x_K := x_sh_lt hsh (by decide)
      obtain ⟨t0, ht⟩ := x_tys_at ca hsh (by decide) (by decide)
      rw [x_ety1 hsh] at ht
      refine va_iast X.1 X.2.1 X.2.2.2.2.2.2.2.1 hP (x_wD X.2.2.2.2.2.2.2.2.2.1 X.2.2.2.2.2.2.2.2.2.2.1) hS kc t0 (by rw [x_wl_at hk, x_ent1 hsh]) ht hin hd ?_
      intro H1 locs1 hP1 hD1 hS1
      rw [x_wl_set (σ' := x_up f.2.2 kc (upd (f.2.2 kc) i.toNatClampNeg x)) hk (fun j hj => x_up_ne hj) (by rw [x_ent1 hsh, x_up_eq])] at hP1
      exact k H1 locs1 ls hP1 hS1 hL
    next => cases h
  next => cases h
theorem x_narB {x : Int32} (h : x = 0 ∨ x = 1) : vp_nar .boolean x = x := by rcases h with rfl | rfl <;> decide +kernel
theorem x_bas_ok (X : x_Cx o M p s m args meth c ad ca D) (hp : ∀ P ∈ Ps, P) (hd : decode (xM_code M) pc = .ok (.bastore, 1))
    (h : x_bas pc f = some (Ps, pc', f')) (k : x_G o M p l e s m args below meth c ad ca D Qf pc' f') : x_G o M p l e s m args below meth c ad ca D Qf pc f := by
  unfold x_bas at h
  split at h
  next x i kc st heq =>
    split at h
    next n rs hsh =>
      cases h
      have hin := hp _ List.mem_cons_self
      have hz := hp _ (List.mem_cons_of_mem _ List.mem_cons_self)
      intro H locs ls hP hS hL
      rw [heq]
      have hk : kc < x_K := x_sh_lt hsh (by decide)
      obtain ⟨t0, ht⟩ := x_tys_at ca hsh (by decide) (by decide)
      rw [x_ety2 hsh] at ht
      refine va_zast X.1 X.2.1 X.2.2.2.2.2.2.2.1 hP (x_wD X.2.2.2.2.2.2.2.2.2.1 X.2.2.2.2.2.2.2.2.2.2.1) hS kc t0 (by rw [x_wl_at hk, x_ent2 hsh]) ht hin hd ?_
      intro H1 locs1 hP1 hD1 hS1
      rw [x_narB hz] at hP1
      rw [x_wl_set (σ' := x_up f.2.2 kc (upd (f.2.2 kc) i.toNatClampNeg x)) hk (fun j hj => x_up_ne hj) (by rw [x_ent2 hsh, x_up_eq])] at hP1
      exact k H1 locs1 ls hP1 hS1 hL
    next => cases h
  next => cases h
theorem x_aal_ok (X : x_Cx o M p s m args meth c ad ca D) (hp : ∀ P ∈ Ps, P) (hd : decode (xM_code M) pc = .ok (.aaload, 1))
    (h : x_aal pc f = some (Ps, pc', f')) (k : x_G o M p l e s m args below meth c ad ca D Qf pc' f') : x_G o M p l e s m args below meth c ad ca D Qf pc f := by
  unfold x_aal at h
  split at h
  next i kc st heq =>
    split at h
    next n rs hsh =>
      split at h
      next r hr =>
        cases h
        have hin := hp _ List.mem_cons_self
        intro H locs ls hP hS hL
        rw [heq]
        obtain ⟨t0, ht⟩ := x_tys_at ca hsh (by decide) (by decide)
        rw [x_ety3 hsh] at ht
        refine va_aldq X.1 X.2.1 X.2.2.2.2.2.2.2.1 hP kc t0 (by rw [x_wl_at (x_sh_lt hsh (by decide)), x_ent3 hsh]) ht hin hd ?_
        have e1 : x_rf ad rs i.toNatClampNeg = some (ad r) := by unfold x_rf; rw [hr]; rfl
        rw [e1]
        exact k H locs ls hP hS hL
      next => cases h
    next => cases h
  next => cases h
theorem x_nat_ok (X : x_Cx o M p s m args meth c ad ca D) (ok : x_lkok (xM_own M) (xM_lk M)) (hp : ∀ P ∈ Ps, P) {idx : Nat} (hd : decode (xM_code M) pc = .ok (.invokestatic idx, 3))
    (h : x_nat o (xM_lk M) idx pc f = some (Ps, pc', f')) (k : x_G o M p l e s m args below meth c ad ca D Qf pc' f') : x_G o M p l e s m args below meth c ad ca D Qf pc f := by
  have catm : ∀ st : List Value, ((st.map (x_cv ad)).map fun v => v.category).sum = x_cat st := by
    intro st
    unfold x_cat
    congr 1
    rw [List.map_map]
    exact List.map_congr_left (fun v _ => x_cv_cat ad v)
  unfold x_nat at h
  split at h
  next d =>
    have hfr : 1 ≤ (x_Rm (.inl (d + 1))).frames := by show 1 ≤ d + 1; omega
    have hlo : 36 ≤ (x_Rm (.inl (d + 1))).locals := by show 36 ≤ 36 * (d + 1); omega
    split at h
    next hlk =>
      have hl : Cond.methodLink (xM_own M) idx Lib.Math.max.name ∈ x_tbl := ok.2.2.2 _ (x_lk_mem hlk)
      split at h
      next y x st heq =>
        cases hb : Nat.ble (x_cat st) 8 with
        | false => rw [hb] at h; cases h
        | true =>
          rw [hb] at h
          cases h
          have h8 := Nat.le_of_ble_eq_true hb
          intro H locs ls hP hS hL
          rw [heq]
          exact va_mmax X.1 X.2.1 (X.2.2.1.trans hL.1.symm) X.2.2.2.2.2.1 (X.2.2.2.2.2.2.1 _ hl) (X.2.2.2.2.2.2.1 _ x_w_max.1) (X.2.2.2.2.2.2.1 _ x_w_max.2.1) (X.2.2.2.2.2.2.1 _ x_w_max.2.2) hfr (by rw [catm]; omega) (Nat.zero_le _) (Nat.zero_le _) hd (k H locs ls hP hS hL)
      next => cases h
    next hlk =>
      have hl : Cond.methodLink (xM_own M) idx Lib.Math.min.name ∈ x_tbl := ok.2.2.2 _ (x_lk_mem hlk)
      split at h
      next y x st heq =>
        cases hb : Nat.ble (x_cat st) 8 with
        | false => rw [hb] at h; cases h
        | true =>
          rw [hb] at h
          cases h
          have h8 := Nat.le_of_ble_eq_true hb
          intro H locs ls hP hS hL
          rw [heq]
          exact va_mmin X.1 X.2.1 (X.2.2.1.trans hL.1.symm) X.2.2.2.2.2.1 (X.2.2.2.2.2.2.1 _ hl) (X.2.2.2.2.2.2.1 _ x_w_min.1) (X.2.2.2.2.2.2.1 _ x_w_min.2.1) (X.2.2.2.2.2.2.1 _ x_w_min.2.2) hfr (by rw [catm]; omega) (Nat.zero_le _) (Nat.zero_le _) hd (k H locs ls hP hS hL)
      next => cases h
    next hlk =>
      have hl : Cond.methodLink (xM_own M) idx arraycopyName ∈ x_tbl := ok.2.2.2 _ (x_lk_mem hlk)
      split at h
      next n dp k1 sp k0 st heq =>
        split at h
        next n0 rs0 n1 rs1 hsh0 hsh1 =>
          cases hb : Nat.ble (x_cat st) 8 with
          | false => rw [hb] at h; cases h
          | true =>
            rw [hb] at h
            cases h
            have h8 := Nat.le_of_ble_eq_true hb
            intro H locs ls hP hS hL
            rw [heq]
            have hk0 : k0 < x_K := x_sh_lt hsh0 (by decide)
            have hk1 : k1 < x_K := x_sh_lt hsh1 (by decide)
            obtain ⟨t0, ht0⟩ := x_tys_at ca hsh0 (by decide) (by decide)
            obtain ⟨t1, ht1⟩ := x_tys_at ca hsh1 (by decide) (by decide)
            rw [x_ety1 hsh0] at ht0
            rw [x_ety1 hsh1] at ht1
            have hnf := x_w_nfw
            refine va_copyi X.1 X.2.1 (X.2.2.1.trans hL.1.symm) X.2.2.2.2.2.1 (X.2.2.2.2.2.2.1 _ hl) (X.2.2.2.2.2.2.1 _ x_w_cpy.1) (X.2.2.2.2.2.2.1 _ x_w_cpy.2.1) (X.2.2.2.2.2.2.1 _ x_w_cpy.2.2)
              X.2.2.2.2.2.2.2.1 hP (x_wD X.2.2.2.2.2.2.2.2.2.1 X.2.2.2.2.2.2.2.2.2.2.1) hS k0 k1 t0 t1 (by rw [x_wl_at hk0, x_ent1 hsh0]) (by rw [x_wl_at hk1, x_ent1 hsh1]) ht0 ht1 rfl
              (hp _ (by simp)) (hp _ (by simp)) (hp _ (by simp)) (hp _ (by simp)) (hp _ (by simp)) (fun i _ => rfl) hfr (Nat.le_trans (show _ ≤ 36 by rw [catm]; omega) hlo) hd ?_
            intro H1 locs1 hP1 hD1 hS1
            rw [x_wl_set (σ' := x_up f.2.2 k1 (va_cpy (f.2.2 k0) (f.2.2 k1) sp.toNatClampNeg dp.toNatClampNeg n.toNatClampNeg)) hk1 (fun j hj => x_up_ne hj) (by rw [x_ent1 hsh1, x_up_eq])] at hP1
            exact k H1 locs1 ls hP1 hS1 hL
        next => cases h
      next => cases h
    next => cases h
  next => cases h
theorem x_gt_ok (hx : p.tables.exec = Jvm.exec) (hb : c.code = xM_code M) {off : Int} (hd : decode (xM_code M) pc = .ok (.goto off, 3))
    (h : x_gt off pc f = some (Ps, pc', f')) (k : x_G o M p l e s m args below meth c ad ca D Qf pc' f') : x_G o M p l e s m args below meth c ad ca D Qf pc f := by
  unfold x_gt at h
  split at h
  next t ht =>
    cases h
    intro H locs ls hP hS hL
    exact lv_goto hx hb hd ht (k H locs ls hP hS hL)
  next => cases h
end XS
