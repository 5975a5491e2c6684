/-! constructors: Sheet, Filling, Arrivals, Choice -/
theorem dX4_init_0 : decode cX4_init 0 = .ok (.aload_n 0, 1) := by decide +kernel
theorem dX4_init_1 : decode cX4_init 1 = .ok (.invokespecial 3, 3) := by decide +kernel
theorem dX4_init_4 : decode cX4_init 4 = .ok (.aload_n 0, 1) := by decide +kernel
theorem dX4_init_5 : decode cX4_init 5 = .ok (.iconst (-1), 1) := by decide +kernel
theorem dX4_init_6 : decode cX4_init 6 = .ok (.putfield 9, 3) := by decide +kernel
theorem dX4_init_9 : decode cX4_init 9 = .ok (.aload_n 0, 1) := by decide +kernel
theorem dX4_init_10 : decode cX4_init 10 = .ok (.bipush 40, 2) := by decide +kernel
theorem dX4_init_12 : decode cX4_init 12 = .ok (.newarray .int, 2) := by decide +kernel
theorem dX4_init_14 : decode cX4_init 14 = .ok (.putfield 15, 3) := by decide +kernel
theorem dX4_init_17 : decode cX4_init 17 = .ok (.return_, 1) := by decide +kernel
abbrev MI_X4 : xM := (RX4, yX4_init, cX4_init, 1, none, 0, lk_X4, [])
set_option maxRecDepth 20000 in
theorem cI_X4 : Cond.code yX4_init cX4_init 1 none ∈ x_tbl := x_mem 253 rfl rfl
set_option maxHeartbeats 4000000 in
set_option maxRecDepth 100000 in
theorem ci_X4 (l : Launch) (D : va_G) (h0 sz : Nat) : Met l yX4_init (x_ws MI_X4) ({ frames := 1, cells := 1, slots := 40, locals := 12 }) (va_Pc [.ref h0] (fun U => U.heap.size = sz ∧ va_P D vwCl [(h0, .inr (4, [.int 0, .int 0, .null]))] U.heap ∧ va_K D vwCl [] U ∧ va_D (fun _ => True) [(h0, .inr (4, [.int 0, .int 0, .null]))])) (va_Qv (fun _ : (Nat → Nat) × (Nat → ClassId) => True) (fun u t => va_P D vwCl [(h0, .inr (4, [.int (-1), .int 0, .ref (u.1 0)])), ((u.1 0), .inl ((u.2 0), 40, .inl (fun _ => 0)))] t.heap ∧ va_K D vwCl [((u.2 0), .int)] t ∧ va_D (va_A [(h0, .inr (4, [.int 0, .int 0, .null]))] sz) [(h0, .inr (4, [.int (-1), .int 0, .ref (u.1 0)])), ((u.1 0), .inl ((u.2 0), 40, .inl (fun _ => 0)))]) (va_A [(h0, .inr (4, [.int 0, .int 0, .null]))] sz)) 1 40 (va_A [(h0, .inr (4, [.int 0, .int 0, .null]))] sz) := by
  refine Met.ofW (cc := cX4_init) (maxL := 1) (ret := none) (by decide) rfl ?_
  intro p e s m args below meth c s₁ B hml hv
  obtain ⟨rfl, hsz, hP, hK, hD0⟩ := hv
  have hx := B.exec
  have hb := B.bytes
  have hr := B.returns
  have hts0 := atoms_spec (ws := x_ws MI_X4) B.pre
  have hts := fun w (h : w ∈ x_tbl) => hts0 w (List.mem_cons_of_mem _ h)
  have hown : s.vm.findClass RX4 = some m.cls := findClass_of_methodNamed B.named
  have hlocks := B.notSynchronized
  have hin : meth.name = "<init>" := (name_of_methodNamed B.named B.method).1
  subst hsz
  have hD := hD0.self (sz := s.heap.size)
  generalize hAe : va_A [(h0, .inr (4, [.int 0, .int 0, .null]))] s.heap.size = A at hD ⊢
  have hA : ∀ q : Nat, s.heap.size ≤ q → A q := fun q h => by rw [← hAe]; exact Or.inr h
  have hS : va_S A s.heap s.heap [] := va_S.rf
  have hP : va_P D vwCl [(h0, .inr (4, [.int 0, .int 0, .null]))] s.heap := hP
  have hl := lv_entry ([.ref h0]) (n := 1) (Nat.le_of_ble_eq_true rfl)
  rw [lg_entry_eq]
  generalize (lg_sl ([.ref h0]) ++ List.replicate (1 - (lg_sl ([.ref h0])).length) Slot.unset).toArray = ls at hl ⊢
  have hl : lv_has ls 1 [(0, .ref h0)] := hl
  refine lv_aload_n hx hb dX4_init_0 rfl (lv_at hl 0 rfl) ?_
  refine W.objInit hx hb hown (hts (.methodLink RX4 3 objectInit) (x_mem 254 (by decide +kernel) rfl)) (hts (.instanceMethod objectInit) (x_mem 53 (by decide +kernel) rfl)) (hts (.code objectInit ⟨#[0xb1]⟩ 1 none) (x_mem 54 (by decide +kernel) rfl)) rfl (by rw [hml]; exact hl.1) rfl dX4_init_1 (Nat.le_of_ble_eq_true rfl) (Nat.le_of_ble_eq_true rfl) ?_
  refine W.eq (g2 := F0 m 4 ls []) rfl ?_
  refine lv_aload_n hx hb dX4_init_4 rfl (lv_at hl 0 rfl) ?_
  refine lv_iconst (v := -1) hx hb dX4_init_5 (by decide) ?_
  refine va_put (D := D) (ci := 4) (v := .int (-1)) (ty := tyX4 0) (C := RX4) (T := TX4) (N := 3) hx hb hts x_in4 tyX4 tyX4_ok nmX4 hown hK hP hD hS 0 rfl rfl 0 (by decide) (hts (.fieldLink RX4 9 "LaneLock$Sheet" "sort" "I") (x_mem 255 (by decide +kernel) rfl)) (fun _ h9 => h9) rfl (tyX4_ok 0 (by decide)) rfl rfl (Nat.le_of_ble_eq_true rfl) dX4_init_6 (fun H locs hP hD hS => ?_)
  have hP : va_P D vwCl [(h0, .inr (4, [.int (-1), .int 0, .null]))] H := hP
  have hD : va_D A [(h0, .inr (4, [.int (-1), .int 0, .null]))] := hD
  refine lv_aload_n hx hb dX4_init_9 rfl (lv_at hl 0 rfl) ?_
  refine lv_bipush (v := 40) hx hb dX4_init_10 (by decide) ?_
  refine va_newa (atype := .int) hx hb (hts (.arrayClass .int) (x_mem 142 (by decide +kernel) rfl)) rfl hK hP hD hS hA (n := 40) (N' := 40) (a0 := (40, .inl (fun _ => 0))) (fun _ => rfl) (by decide) (by decide) (Nat.le_of_ble_eq_true rfl) (Nat.le_of_ble_eq_true rfl) (Nat.le_of_ble_eq_true rfl) dX4_init_12 (fun q12 c12 H hK hP hD hS => ?_)
  have hP : va_P D vwCl [(h0, .inr (4, [.int (-1), .int 0, .null])), (q12, .inl (c12, 40, .inl (fun _ => 0)))] H := hP
  have hD : va_D A [(h0, .inr (4, [.int (-1), .int 0, .null])), (q12, .inl (c12, 40, .inl (fun _ => 0)))] := hD
  have hK : va_K D vwCl [(c12, .int)] s := hK
  refine va_putF (D := D) (ci := 4) (v := .ref q12) (ty := tyX4 2) (C := RX4) (T := TX4) (N := 3) hx hb hts x_in4 tyX4 tyX4_ok nmX4 hown hK hP hD hS 0 rfl rfl 2 (by decide) (hts (.fieldLink RX4 15 "LaneLock$Sheet" "items" "[I") (x_mem 259 (by decide +kernel) rfl)) (fun _ h9 => h9) rfl hin rfl (tyX4_ok 2 (by decide)) rfl rfl (Nat.le_of_ble_eq_true rfl) dX4_init_14 (fun H locs hP hD hS => ?_)
  have hP : va_P D vwCl [(h0, .inr (4, [.int (-1), .int 0, .ref q12])), (q12, .inl (c12, 40, .inl (fun _ => 0)))] H := hP
  have hD : va_D A [(h0, .inr (4, [.int (-1), .int 0, .ref q12])), (q12, .inl (c12, 40, .inl (fun _ => 0)))] := hD
  exact W.vret hx hb hr (fun t ht hW => ⟨⟨(fun i => match i with | 0 => q12 | _ => 0, fun i => match i with | 0 => c12 | _ => c12), rfl, trivial, by rw [ht]; exact hP, va_K.moved hW.alike hK, hD⟩, hS.F ht⟩) hS.2.2 dX4_init_17
theorem dX2_init_0 : decode cX2_init 0 = .ok (.aload_n 0, 1) := by decide +kernel
theorem dX2_init_1 : decode cX2_init 1 = .ok (.invokespecial 3, 3) := by decide +kernel
theorem dX2_init_4 : decode cX2_init 4 = .ok (.aload_n 0, 1) := by decide +kernel
theorem dX2_init_5 : decode cX2_init 5 = .ok (.iconst 3, 1) := by decide +kernel
theorem dX2_init_6 : decode cX2_init 6 = .ok (.newarray .int, 2) := by decide +kernel
theorem dX2_init_8 : decode cX2_init 8 = .ok (.putfield 9, 3) := by decide +kernel
theorem dX2_init_11 : decode cX2_init 11 = .ok (.aload_n 0, 1) := by decide +kernel
theorem dX2_init_12 : decode cX2_init 12 = .ok (.bipush 10, 2) := by decide +kernel
theorem dX2_init_14 : decode cX2_init 14 = .ok (.newarray .int, 2) := by decide +kernel
theorem dX2_init_16 : decode cX2_init 16 = .ok (.putfield 15, 3) := by decide +kernel
theorem dX2_init_19 : decode cX2_init 19 = .ok (.aload_n 0, 1) := by decide +kernel
theorem dX2_init_20 : decode cX2_init 20 = .ok (.bipush 10, 2) := by decide +kernel
theorem dX2_init_22 : decode cX2_init 22 = .ok (.newarray .int, 2) := by decide +kernel
theorem dX2_init_24 : decode cX2_init 24 = .ok (.putfield 18, 3) := by decide +kernel
theorem dX2_init_27 : decode cX2_init 27 = .ok (.aload_n 0, 1) := by decide +kernel
theorem dX2_init_28 : decode cX2_init 28 = .ok (.bipush 10, 2) := by decide +kernel
theorem dX2_init_30 : decode cX2_init 30 = .ok (.newarray .int, 2) := by decide +kernel
theorem dX2_init_32 : decode cX2_init 32 = .ok (.putfield 21, 3) := by decide +kernel
theorem dX2_init_35 : decode cX2_init 35 = .ok (.aload_n 0, 1) := by decide +kernel
theorem dX2_init_36 : decode cX2_init 36 = .ok (.aload_n 1, 1) := by decide +kernel
theorem dX2_init_37 : decode cX2_init 37 = .ok (.putfield 24, 3) := by decide +kernel
theorem dX2_init_40 : decode cX2_init 40 = .ok (.return_, 1) := by decide +kernel
abbrev MI_X2 : xM := (RX2, yX2_init, cX2_init, 2, none, 0, lk_X2, [])
set_option maxRecDepth 20000 in
theorem cI_X2 : Cond.code yX2_init cX2_init 2 none ∈ x_tbl := x_mem 147 rfl rfl
set_option maxHeartbeats 4000000 in
set_option maxRecDepth 100000 in
theorem ci_X2 (l : Launch) (D : va_G) (h0 sz : Nat) (a1 : Nat) : Met l yX2_init (x_ws MI_X2) ({ frames := 1, cells := 4, slots := 33, locals := 12 }) (va_Pc [.ref h0, .ref a1] (fun U => U.heap.size = sz ∧ va_P D vwCl [(h0, .inr (2, [.null, .null, .null, .null, .null, .int 0, .int 0, .int 0]))] U.heap ∧ va_K D vwCl [] U ∧ va_D (fun _ => True) [(h0, .inr (2, [.null, .null, .null, .null, .null, .int 0, .int 0, .int 0]))])) (va_Qv (fun _ : (Nat → Nat) × (Nat → ClassId) => True) (fun u t => va_P D vwCl [(h0, .inr (2, [.ref a1, .ref (u.1 0), .ref (u.1 1), .ref (u.1 2), .ref (u.1 3), .int 0, .int 0, .int 0])), ((u.1 0), .inl ((u.2 0), 3, .inl (fun _ => 0))), ((u.1 1), .inl ((u.2 1), 10, .inl (fun _ => 0))), ((u.1 2), .inl ((u.2 2), 10, .inl (fun _ => 0))), ((u.1 3), .inl ((u.2 3), 10, .inl (fun _ => 0)))] t.heap ∧ va_K D vwCl [((u.2 0), .int), ((u.2 1), .int), ((u.2 2), .int), ((u.2 3), .int)] t ∧ va_D (va_A [(h0, .inr (2, [.null, .null, .null, .null, .null, .int 0, .int 0, .int 0]))] sz) [(h0, .inr (2, [.ref a1, .ref (u.1 0), .ref (u.1 1), .ref (u.1 2), .ref (u.1 3), .int 0, .int 0, .int 0])), ((u.1 0), .inl ((u.2 0), 3, .inl (fun _ => 0))), ((u.1 1), .inl ((u.2 1), 10, .inl (fun _ => 0))), ((u.1 2), .inl ((u.2 2), 10, .inl (fun _ => 0))), ((u.1 3), .inl ((u.2 3), 10, .inl (fun _ => 0)))]) (va_A [(h0, .inr (2, [.null, .null, .null, .null, .null, .int 0, .int 0, .int 0]))] sz)) 4 33 (va_A [(h0, .inr (2, [.null, .null, .null, .null, .null, .int 0, .int 0, .int 0]))] sz) := by
  refine Met.ofW (cc := cX2_init) (maxL := 2) (ret := none) (by decide) rfl ?_
  intro p e s m args below meth c s₁ B hml hv
  obtain ⟨rfl, hsz, hP, hK, hD0⟩ := hv
  have hx := B.exec
  have hb := B.bytes
  have hr := B.returns
  have hts0 := atoms_spec (ws := x_ws MI_X2) B.pre
  have hts := fun w (h : w ∈ x_tbl) => hts0 w (List.mem_cons_of_mem _ h)
  have hown : s.vm.findClass RX2 = some m.cls := findClass_of_methodNamed B.named
  have hlocks := B.notSynchronized
  have hin : meth.name = "<init>" := (name_of_methodNamed B.named B.method).1
  subst hsz
  have hD := hD0.self (sz := s.heap.size)
  generalize hAe : va_A [(h0, .inr (2, [.null, .null, .null, .null, .null, .int 0, .int 0, .int 0]))] s.heap.size = A at hD ⊢
  have hA : ∀ q : Nat, s.heap.size ≤ q → A q := fun q h => by rw [← hAe]; exact Or.inr h
  have hS : va_S A s.heap s.heap [] := va_S.rf
  have hP : va_P D vwCl [(h0, .inr (2, [.null, .null, .null, .null, .null, .int 0, .int 0, .int 0]))] s.heap := hP
  have hl := lv_entry ([.ref h0, .ref a1]) (n := 2) (Nat.le_of_ble_eq_true rfl)
  rw [lg_entry_eq]
  generalize (lg_sl ([.ref h0, .ref a1]) ++ List.replicate (2 - (lg_sl ([.ref h0, .ref a1])).length) Slot.unset).toArray = ls at hl ⊢
  have hl : lv_has ls 2 [(0, .ref h0), (1, .ref a1)] := hl
  refine lv_aload_n hx hb dX2_init_0 rfl (lv_at hl 0 rfl) ?_
  refine W.objInit hx hb hown (hts (.methodLink RX2 3 objectInit) (x_mem 148 (by decide +kernel) rfl)) (hts (.instanceMethod objectInit) (x_mem 53 (by decide +kernel) rfl)) (hts (.code objectInit ⟨#[0xb1]⟩ 1 none) (x_mem 54 (by decide +kernel) rfl)) rfl (by rw [hml]; exact hl.1) rfl dX2_init_1 (Nat.le_of_ble_eq_true rfl) (Nat.le_of_ble_eq_true rfl) ?_
  refine W.eq (g2 := F0 m 4 ls []) rfl ?_
  refine lv_aload_n hx hb dX2_init_4 rfl (lv_at hl 0 rfl) ?_
  refine lv_iconst (v := 3) hx hb dX2_init_5 (by decide) ?_
  refine va_newa (atype := .int) hx hb (hts (.arrayClass .int) (x_mem 142 (by decide +kernel) rfl)) rfl hK hP hD hS hA (n := 3) (N' := 3) (a0 := (3, .inl (fun _ => 0))) (fun _ => rfl) (by decide) (by decide) (Nat.le_of_ble_eq_true rfl) (Nat.le_of_ble_eq_true rfl) (Nat.le_of_ble_eq_true rfl) dX2_init_6 (fun q6 c6 H hK hP hD hS => ?_)
  have hP : va_P D vwCl [(h0, .inr (2, [.null, .null, .null, .null, .null, .int 0, .int 0, .int 0])), (q6, .inl (c6, 3, .inl (fun _ => 0)))] H := hP
  have hD : va_D A [(h0, .inr (2, [.null, .null, .null, .null, .null, .int 0, .int 0, .int 0])), (q6, .inl (c6, 3, .inl (fun _ => 0)))] := hD
  have hK : va_K D vwCl [(c6, .int)] s := hK
  refine va_putF (D := D) (ci := 2) (v := .ref q6) (ty := tyX2 1) (C := RX2) (T := TX2) (N := 8) hx hb hts x_in2 tyX2 tyX2_ok nmX2 hown hK hP hD hS 0 rfl rfl 1 (by decide) (hts (.fieldLink RX2 9 "LaneLock$Filling" "closed" "[I") (x_mem 150 (by decide +kernel) rfl)) (fun _ h9 => h9) rfl hin rfl (tyX2_ok 1 (by decide)) rfl rfl (Nat.le_of_ble_eq_true rfl) dX2_init_8 (fun H locs hP hD hS => ?_)
  have hP : va_P D vwCl [(h0, .inr (2, [.null, .ref q6, .null, .null, .null, .int 0, .int 0, .int 0])), (q6, .inl (c6, 3, .inl (fun _ => 0)))] H := hP
  have hD : va_D A [(h0, .inr (2, [.null, .ref q6, .null, .null, .null, .int 0, .int 0, .int 0])), (q6, .inl (c6, 3, .inl (fun _ => 0)))] := hD
  refine lv_aload_n hx hb dX2_init_11 rfl (lv_at hl 0 rfl) ?_
  refine lv_bipush (v := 10) hx hb dX2_init_12 (by decide) ?_
  refine va_newa (atype := .int) hx hb (hts (.arrayClass .int) (x_mem 142 (by decide +kernel) rfl)) rfl hK hP hD hS hA (n := 10) (N' := 10) (a0 := (10, .inl (fun _ => 0))) (fun _ => rfl) (by decide) (by decide) (Nat.le_of_ble_eq_true rfl) (Nat.le_of_ble_eq_true rfl) (Nat.le_of_ble_eq_true rfl) dX2_init_14 (fun q14 c14 H hK hP hD hS => ?_)
  have hP : va_P D vwCl [(h0, .inr (2, [.null, .ref q6, .null, .null, .null, .int 0, .int 0, .int 0])), (q6, .inl (c6, 3, .inl (fun _ => 0))), (q14, .inl (c14, 10, .inl (fun _ => 0)))] H := hP
  have hD : va_D A [(h0, .inr (2, [.null, .ref q6, .null, .null, .null, .int 0, .int 0, .int 0])), (q6, .inl (c6, 3, .inl (fun _ => 0))), (q14, .inl (c14, 10, .inl (fun _ => 0)))] := hD
  have hK : va_K D vwCl [(c6, .int), (c14, .int)] s := hK
  refine va_putF (D := D) (ci := 2) (v := .ref q14) (ty := tyX2 2) (C := RX2) (T := TX2) (N := 8) hx hb hts x_in2 tyX2 tyX2_ok nmX2 hown hK hP hD hS 0 rfl rfl 2 (by decide) (hts (.fieldLink RX2 15 "LaneLock$Filling" "who" "[I") (x_mem 151 (by decide +kernel) rfl)) (fun _ h9 => h9) rfl hin rfl (tyX2_ok 2 (by decide)) rfl rfl (Nat.le_of_ble_eq_true rfl) dX2_init_16 (fun H locs hP hD hS => ?_)
  have hP : va_P D vwCl [(h0, .inr (2, [.null, .ref q6, .ref q14, .null, .null, .int 0, .int 0, .int 0])), (q6, .inl (c6, 3, .inl (fun _ => 0))), (q14, .inl (c14, 10, .inl (fun _ => 0)))] H := hP
  have hD : va_D A [(h0, .inr (2, [.null, .ref q6, .ref q14, .null, .null, .int 0, .int 0, .int 0])), (q6, .inl (c6, 3, .inl (fun _ => 0))), (q14, .inl (c14, 10, .inl (fun _ => 0)))] := hD
  refine lv_aload_n hx hb dX2_init_19 rfl (lv_at hl 0 rfl) ?_
  refine lv_bipush (v := 10) hx hb dX2_init_20 (by decide) ?_
  refine va_newa (atype := .int) hx hb (hts (.arrayClass .int) (x_mem 142 (by decide +kernel) rfl)) rfl hK hP hD hS hA (n := 10) (N' := 10) (a0 := (10, .inl (fun _ => 0))) (fun _ => rfl) (by decide) (by decide) (Nat.le_of_ble_eq_true rfl) (Nat.le_of_ble_eq_true rfl) (Nat.le_of_ble_eq_true rfl) dX2_init_22 (fun q22 c22 H hK hP hD hS => ?_)
  have hP : va_P D vwCl [(h0, .inr (2, [.null, .ref q6, .ref q14, .null, .null, .int 0, .int 0, .int 0])), (q6, .inl (c6, 3, .inl (fun _ => 0))), (q14, .inl (c14, 10, .inl (fun _ => 0))), (q22, .inl (c22, 10, .inl (fun _ => 0)))] H := hP
  have hD : va_D A [(h0, .inr (2, [.null, .ref q6, .ref q14, .null, .null, .int 0, .int 0, .int 0])), (q6, .inl (c6, 3, .inl (fun _ => 0))), (q14, .inl (c14, 10, .inl (fun _ => 0))), (q22, .inl (c22, 10, .inl (fun _ => 0)))] := hD
  have hK : va_K D vwCl [(c6, .int), (c14, .int), (c22, .int)] s := hK
  refine va_putF (D := D) (ci := 2) (v := .ref q22) (ty := tyX2 3) (C := RX2) (T := TX2) (N := 8) hx hb hts x_in2 tyX2 tyX2_ok nmX2 hown hK hP hD hS 0 rfl rfl 3 (by decide) (hts (.fieldLink RX2 18 "LaneLock$Filling" "rows" "[I") (x_mem 153 (by decide +kernel) rfl)) (fun _ h9 => h9) rfl hin rfl (tyX2_ok 3 (by decide)) rfl rfl (Nat.le_of_ble_eq_true rfl) dX2_init_24 (fun H locs hP hD hS => ?_)
  have hP : va_P D vwCl [(h0, .inr (2, [.null, .ref q6, .ref q14, .ref q22, .null, .int 0, .int 0, .int 0])), (q6, .inl (c6, 3, .inl (fun _ => 0))), (q14, .inl (c14, 10, .inl (fun _ => 0))), (q22, .inl (c22, 10, .inl (fun _ => 0)))] H := hP
  have hD : va_D A [(h0, .inr (2, [.null, .ref q6, .ref q14, .ref q22, .null, .int 0, .int 0, .int 0])), (q6, .inl (c6, 3, .inl (fun _ => 0))), (q14, .inl (c14, 10, .inl (fun _ => 0))), (q22, .inl (c22, 10, .inl (fun _ => 0)))] := hD
  refine lv_aload_n hx hb dX2_init_27 rfl (lv_at hl 0 rfl) ?_
  refine lv_bipush (v := 10) hx hb dX2_init_28 (by decide) ?_
  refine va_newa (atype := .int) hx hb (hts (.arrayClass .int) (x_mem 142 (by decide +kernel) rfl)) rfl hK hP hD hS hA (n := 10) (N' := 10) (a0 := (10, .inl (fun _ => 0))) (fun _ => rfl) (by decide) (by decide) (Nat.le_of_ble_eq_true rfl) (Nat.le_of_ble_eq_true rfl) (Nat.le_of_ble_eq_true rfl) dX2_init_30 (fun q30 c30 H hK hP hD hS => ?_)
  have hP : va_P D vwCl [(h0, .inr (2, [.null, .ref q6, .ref q14, .ref q22, .null, .int 0, .int 0, .int 0])), (q6, .inl (c6, 3, .inl (fun _ => 0))), (q14, .inl (c14, 10, .inl (fun _ => 0))), (q22, .inl (c22, 10, .inl (fun _ => 0))), (q30, .inl (c30, 10, .inl (fun _ => 0)))] H := hP
  have hD : va_D A [(h0, .inr (2, [.null, .ref q6, .ref q14, .ref q22, .null, .int 0, .int 0, .int 0])), (q6, .inl (c6, 3, .inl (fun _ => 0))), (q14, .inl (c14, 10, .inl (fun _ => 0))), (q22, .inl (c22, 10, .inl (fun _ => 0))), (q30, .inl (c30, 10, .inl (fun _ => 0)))] := hD
  have hK : va_K D vwCl [(c6, .int), (c14, .int), (c22, .int), (c30, .int)] s := hK
  refine va_putF (D := D) (ci := 2) (v := .ref q30) (ty := tyX2 4) (C := RX2) (T := TX2) (N := 8) hx hb hts x_in2 tyX2 tyX2_ok nmX2 hown hK hP hD hS 0 rfl rfl 4 (by decide) (hts (.fieldLink RX2 21 "LaneLock$Filling" "places" "[I") (x_mem 155 (by decide +kernel) rfl)) (fun _ h9 => h9) rfl hin rfl (tyX2_ok 4 (by decide)) rfl rfl (Nat.le_of_ble_eq_true rfl) dX2_init_32 (fun H locs hP hD hS => ?_)
  have hP : va_P D vwCl [(h0, .inr (2, [.null, .ref q6, .ref q14, .ref q22, .ref q30, .int 0, .int 0, .int 0])), (q6, .inl (c6, 3, .inl (fun _ => 0))), (q14, .inl (c14, 10, .inl (fun _ => 0))), (q22, .inl (c22, 10, .inl (fun _ => 0))), (q30, .inl (c30, 10, .inl (fun _ => 0)))] H := hP
  have hD : va_D A [(h0, .inr (2, [.null, .ref q6, .ref q14, .ref q22, .ref q30, .int 0, .int 0, .int 0])), (q6, .inl (c6, 3, .inl (fun _ => 0))), (q14, .inl (c14, 10, .inl (fun _ => 0))), (q22, .inl (c22, 10, .inl (fun _ => 0))), (q30, .inl (c30, 10, .inl (fun _ => 0)))] := hD
  refine lv_aload_n hx hb dX2_init_35 rfl (lv_at hl 0 rfl) ?_
  refine lv_aload_n hx hb dX2_init_36 rfl (lv_at hl 1 rfl) ?_
  refine va_putF (D := D) (ci := 2) (v := .ref a1) (ty := tyX2 0) (C := RX2) (T := TX2) (N := 8) hx hb hts x_in2 tyX2 tyX2_ok nmX2 hown hK hP hD hS 0 rfl rfl 0 (by decide) (hts (.fieldLink RX2 24 "LaneLock$Filling" "keep" "LLaneLock$Keep;") (x_mem 149 (by decide +kernel) rfl)) (fun _ h9 => h9) rfl hin rfl (tyX2_ok 0 (by decide)) rfl rfl (Nat.le_of_ble_eq_true rfl) dX2_init_37 (fun H locs hP hD hS => ?_)
  have hP : va_P D vwCl [(h0, .inr (2, [.ref a1, .ref q6, .ref q14, .ref q22, .ref q30, .int 0, .int 0, .int 0])), (q6, .inl (c6, 3, .inl (fun _ => 0))), (q14, .inl (c14, 10, .inl (fun _ => 0))), (q22, .inl (c22, 10, .inl (fun _ => 0))), (q30, .inl (c30, 10, .inl (fun _ => 0)))] H := hP
  have hD : va_D A [(h0, .inr (2, [.ref a1, .ref q6, .ref q14, .ref q22, .ref q30, .int 0, .int 0, .int 0])), (q6, .inl (c6, 3, .inl (fun _ => 0))), (q14, .inl (c14, 10, .inl (fun _ => 0))), (q22, .inl (c22, 10, .inl (fun _ => 0))), (q30, .inl (c30, 10, .inl (fun _ => 0)))] := hD
  exact W.vret hx hb hr (fun t ht hW => ⟨⟨(fun i => match i with | 0 => q6 | 1 => q14 | 2 => q22 | 3 => q30 | _ => 0, fun i => match i with | 0 => c6 | 1 => c14 | 2 => c22 | 3 => c30 | _ => c6), rfl, trivial, by rw [ht]; exact hP, va_K.moved hW.alike hK, hD⟩, hS.F ht⟩) hS.2.2 dX2_init_40
theorem dX0_init_0 : decode cX0_init 0 = .ok (.aload_n 0, 1) := by decide +kernel
theorem dX0_init_1 : decode cX0_init 1 = .ok (.invokespecial 3, 3) := by decide +kernel
theorem dX0_init_4 : decode cX0_init 4 = .ok (.aload_n 0, 1) := by decide +kernel
theorem dX0_init_5 : decode cX0_init 5 = .ok (.bipush 10, 2) := by decide +kernel
theorem dX0_init_7 : decode cX0_init 7 = .ok (.newarray .int, 2) := by decide +kernel
theorem dX0_init_9 : decode cX0_init 9 = .ok (.putfield 9, 3) := by decide +kernel
theorem dX0_init_12 : decode cX0_init 12 = .ok (.aload_n 0, 1) := by decide +kernel
theorem dX0_init_13 : decode cX0_init 13 = .ok (.bipush 10, 2) := by decide +kernel
theorem dX0_init_15 : decode cX0_init 15 = .ok (.newarray .int, 2) := by decide +kernel
theorem dX0_init_17 : decode cX0_init 17 = .ok (.putfield 15, 3) := by decide +kernel
theorem dX0_init_20 : decode cX0_init 20 = .ok (.aload_n 0, 1) := by decide +kernel
theorem dX0_init_21 : decode cX0_init 21 = .ok (.aload_n 1, 1) := by decide +kernel
theorem dX0_init_22 : decode cX0_init 22 = .ok (.putfield 18, 3) := by decide +kernel
theorem dX0_init_25 : decode cX0_init 25 = .ok (.aload_n 0, 1) := by decide +kernel
theorem dX0_init_26 : decode cX0_init 26 = .ok (.aload_n 2, 1) := by decide +kernel
theorem dX0_init_27 : decode cX0_init 27 = .ok (.putfield 22, 3) := by decide +kernel
theorem dX0_init_30 : decode cX0_init 30 = .ok (.return_, 1) := by decide +kernel
abbrev MI_X0 : xM := (RX0, yX0_init, cX0_init, 3, none, 0, lk_X0, [])
set_option maxRecDepth 20000 in
theorem cI_X0 : Cond.code yX0_init cX0_init 3 none ∈ x_tbl := x_mem 182 rfl rfl
set_option maxHeartbeats 4000000 in
set_option maxRecDepth 100000 in
theorem ci_X0 (l : Launch) (D : va_G) (h0 sz : Nat) (a1 : Nat) (a2 : Nat) : Met l yX0_init (x_ws MI_X0) ({ frames := 1, cells := 2, slots := 20, locals := 12 }) (va_Pc [.ref h0, .ref a1, .ref a2] (fun U => U.heap.size = sz ∧ va_P D vwCl [(h0, .inr (0, [.null, .null, .null, .null, .int 0, .int 0]))] U.heap ∧ va_K D vwCl [] U ∧ va_D (fun _ => True) [(h0, .inr (0, [.null, .null, .null, .null, .int 0, .int 0]))])) (va_Qv (fun _ : (Nat → Nat) × (Nat → ClassId) => True) (fun u t => va_P D vwCl [(h0, .inr (0, [.ref a1, .ref a2, .ref (u.1 0), .ref (u.1 1), .int 0, .int 0])), ((u.1 0), .inl ((u.2 0), 10, .inl (fun _ => 0))), ((u.1 1), .inl ((u.2 1), 10, .inl (fun _ => 0)))] t.heap ∧ va_K D vwCl [((u.2 0), .int), ((u.2 1), .int)] t ∧ va_D (va_A [(h0, .inr (0, [.null, .null, .null, .null, .int 0, .int 0]))] sz) [(h0, .inr (0, [.ref a1, .ref a2, .ref (u.1 0), .ref (u.1 1), .int 0, .int 0])), ((u.1 0), .inl ((u.2 0), 10, .inl (fun _ => 0))), ((u.1 1), .inl ((u.2 1), 10, .inl (fun _ => 0)))]) (va_A [(h0, .inr (0, [.null, .null, .null, .null, .int 0, .int 0]))] sz)) 2 20 (va_A [(h0, .inr (0, [.null, .null, .null, .null, .int 0, .int 0]))] sz) := by
  refine Met.ofW (cc := cX0_init) (maxL := 3) (ret := none) (by decide) rfl ?_
  intro p e s m args below meth c s₁ B hml hv
  obtain ⟨rfl, hsz, hP, hK, hD0⟩ := hv
  have hx := B.exec
  have hb := B.bytes
  have hr := B.returns
  have hts0 := atoms_spec (ws := x_ws MI_X0) B.pre
  have hts := fun w (h : w ∈ x_tbl) => hts0 w (List.mem_cons_of_mem _ h)
  have hown : s.vm.findClass RX0 = some m.cls := findClass_of_methodNamed B.named
  have hlocks := B.notSynchronized
  have hin : meth.name = "<init>" := (name_of_methodNamed B.named B.method).1
  subst hsz
  have hD := hD0.self (sz := s.heap.size)
  generalize hAe : va_A [(h0, .inr (0, [.null, .null, .null, .null, .int 0, .int 0]))] s.heap.size = A at hD ⊢
  have hA : ∀ q : Nat, s.heap.size ≤ q → A q := fun q h => by rw [← hAe]; exact Or.inr h
  have hS : va_S A s.heap s.heap [] := va_S.rf
  have hP : va_P D vwCl [(h0, .inr (0, [.null, .null, .null, .null, .int 0, .int 0]))] s.heap := hP
  have hl := lv_entry ([.ref h0, .ref a1, .ref a2]) (n := 3) (Nat.le_of_ble_eq_true rfl)
  rw [lg_entry_eq]
  generalize (lg_sl ([.ref h0, .ref a1, .ref a2]) ++ List.replicate (3 - (lg_sl ([.ref h0, .ref a1, .ref a2])).length) Slot.unset).toArray = ls at hl ⊢
  have hl : lv_has ls 3 [(0, .ref h0), (1, .ref a1), (2, .ref a2)] := hl
  refine lv_aload_n hx hb dX0_init_0 rfl (lv_at hl 0 rfl) ?_
  refine W.objInit hx hb hown (hts (.methodLink RX0 3 objectInit) (x_mem 183 (by decide +kernel) rfl)) (hts (.instanceMethod objectInit) (x_mem 53 (by decide +kernel) rfl)) (hts (.code objectInit ⟨#[0xb1]⟩ 1 none) (x_mem 54 (by decide +kernel) rfl)) rfl (by rw [hml]; exact hl.1) rfl dX0_init_1 (Nat.le_of_ble_eq_true rfl) (Nat.le_of_ble_eq_true rfl) ?_
  refine W.eq (g2 := F0 m 4 ls []) rfl ?_
  refine lv_aload_n hx hb dX0_init_4 rfl (lv_at hl 0 rfl) ?_
  refine lv_bipush (v := 10) hx hb dX0_init_5 (by decide) ?_
  refine va_newa (atype := .int) hx hb (hts (.arrayClass .int) (x_mem 142 (by decide +kernel) rfl)) rfl hK hP hD hS hA (n := 10) (N' := 10) (a0 := (10, .inl (fun _ => 0))) (fun _ => rfl) (by decide) (by decide) (Nat.le_of_ble_eq_true rfl) (Nat.le_of_ble_eq_true rfl) (Nat.le_of_ble_eq_true rfl) dX0_init_7 (fun q7 c7 H hK hP hD hS => ?_)
  have hP : va_P D vwCl [(h0, .inr (0, [.null, .null, .null, .null, .int 0, .int 0])), (q7, .inl (c7, 10, .inl (fun _ => 0)))] H := hP
  have hD : va_D A [(h0, .inr (0, [.null, .null, .null, .null, .int 0, .int 0])), (q7, .inl (c7, 10, .inl (fun _ => 0)))] := hD
  have hK : va_K D vwCl [(c7, .int)] s := hK
  refine va_putF (D := D) (ci := 0) (v := .ref q7) (ty := tyX0 2) (C := RX0) (T := TX0) (N := 6) hx hb hts x_in0 tyX0 tyX0_ok nmX0 hown hK hP hD hS 0 rfl rfl 2 (by decide) (hts (.fieldLink RX0 9 "LaneLock$Arrivals" "order" "[I") (x_mem 186 (by decide +kernel) rfl)) (fun _ h9 => h9) rfl hin rfl (tyX0_ok 2 (by decide)) rfl rfl (Nat.le_of_ble_eq_true rfl) dX0_init_9 (fun H locs hP hD hS => ?_)
  have hP : va_P D vwCl [(h0, .inr (0, [.null, .null, .ref q7, .null, .int 0, .int 0])), (q7, .inl (c7, 10, .inl (fun _ => 0)))] H := hP
  have hD : va_D A [(h0, .inr (0, [.null, .null, .ref q7, .null, .int 0, .int 0])), (q7, .inl (c7, 10, .inl (fun _ => 0)))] := hD
  refine lv_aload_n hx hb dX0_init_12 rfl (lv_at hl 0 rfl) ?_
  refine lv_bipush (v := 10) hx hb dX0_init_13 (by decide) ?_
  refine va_newa (atype := .int) hx hb (hts (.arrayClass .int) (x_mem 142 (by decide +kernel) rfl)) rfl hK hP hD hS hA (n := 10) (N' := 10) (a0 := (10, .inl (fun _ => 0))) (fun _ => rfl) (by decide) (by decide) (Nat.le_of_ble_eq_true rfl) (Nat.le_of_ble_eq_true rfl) (Nat.le_of_ble_eq_true rfl) dX0_init_15 (fun q15 c15 H hK hP hD hS => ?_)
  have hP : va_P D vwCl [(h0, .inr (0, [.null, .null, .ref q7, .null, .int 0, .int 0])), (q7, .inl (c7, 10, .inl (fun _ => 0))), (q15, .inl (c15, 10, .inl (fun _ => 0)))] H := hP
  have hD : va_D A [(h0, .inr (0, [.null, .null, .ref q7, .null, .int 0, .int 0])), (q7, .inl (c7, 10, .inl (fun _ => 0))), (q15, .inl (c15, 10, .inl (fun _ => 0)))] := hD
  have hK : va_K D vwCl [(c7, .int), (c15, .int)] s := hK
  refine va_putF (D := D) (ci := 0) (v := .ref q15) (ty := tyX0 3) (C := RX0) (T := TX0) (N := 6) hx hb hts x_in0 tyX0 tyX0_ok nmX0 hown hK hP hD hS 0 rfl rfl 3 (by decide) (hts (.fieldLink RX0 15 "LaneLock$Arrivals" "waits" "[I") (x_mem 187 (by decide +kernel) rfl)) (fun _ h9 => h9) rfl hin rfl (tyX0_ok 3 (by decide)) rfl rfl (Nat.le_of_ble_eq_true rfl) dX0_init_17 (fun H locs hP hD hS => ?_)
  have hP : va_P D vwCl [(h0, .inr (0, [.null, .null, .ref q7, .ref q15, .int 0, .int 0])), (q7, .inl (c7, 10, .inl (fun _ => 0))), (q15, .inl (c15, 10, .inl (fun _ => 0)))] H := hP
  have hD : va_D A [(h0, .inr (0, [.null, .null, .ref q7, .ref q15, .int 0, .int 0])), (q7, .inl (c7, 10, .inl (fun _ => 0))), (q15, .inl (c15, 10, .inl (fun _ => 0)))] := hD
  refine lv_aload_n hx hb dX0_init_20 rfl (lv_at hl 0 rfl) ?_
  refine lv_aload_n hx hb dX0_init_21 rfl (lv_at hl 1 rfl) ?_
  refine va_putF (D := D) (ci := 0) (v := .ref a1) (ty := tyX0 0) (C := RX0) (T := TX0) (N := 6) hx hb hts x_in0 tyX0 tyX0_ok nmX0 hown hK hP hD hS 0 rfl rfl 0 (by decide) (hts (.fieldLink RX0 18 "LaneLock$Arrivals" "keep" "LLaneLock$Keep;") (x_mem 184 (by decide +kernel) rfl)) (fun _ h9 => h9) rfl hin rfl (tyX0_ok 0 (by decide)) rfl rfl (Nat.le_of_ble_eq_true rfl) dX0_init_22 (fun H locs hP hD hS => ?_)
  have hP : va_P D vwCl [(h0, .inr (0, [.ref a1, .null, .ref q7, .ref q15, .int 0, .int 0])), (q7, .inl (c7, 10, .inl (fun _ => 0))), (q15, .inl (c15, 10, .inl (fun _ => 0)))] H := hP
  have hD : va_D A [(h0, .inr (0, [.ref a1, .null, .ref q7, .ref q15, .int 0, .int 0])), (q7, .inl (c7, 10, .inl (fun _ => 0))), (q15, .inl (c15, 10, .inl (fun _ => 0)))] := hD
  refine lv_aload_n hx hb dX0_init_25 rfl (lv_at hl 0 rfl) ?_
  refine lv_aload_n hx hb dX0_init_26 rfl (lv_at hl 2 rfl) ?_
  refine va_putF (D := D) (ci := 0) (v := .ref a2) (ty := tyX0 1) (C := RX0) (T := TX0) (N := 6) hx hb hts x_in0 tyX0 tyX0_ok nmX0 hown hK hP hD hS 0 rfl rfl 1 (by decide) (hts (.fieldLink RX0 22 "LaneLock$Arrivals" "filling" "LLaneLock$Filling;") (x_mem 185 (by decide +kernel) rfl)) (fun _ h9 => h9) rfl hin rfl (tyX0_ok 1 (by decide)) rfl rfl (Nat.le_of_ble_eq_true rfl) dX0_init_27 (fun H locs hP hD hS => ?_)
  have hP : va_P D vwCl [(h0, .inr (0, [.ref a1, .ref a2, .ref q7, .ref q15, .int 0, .int 0])), (q7, .inl (c7, 10, .inl (fun _ => 0))), (q15, .inl (c15, 10, .inl (fun _ => 0)))] H := hP
  have hD : va_D A [(h0, .inr (0, [.ref a1, .ref a2, .ref q7, .ref q15, .int 0, .int 0])), (q7, .inl (c7, 10, .inl (fun _ => 0))), (q15, .inl (c15, 10, .inl (fun _ => 0)))] := hD
  exact W.vret hx hb hr (fun t ht hW => ⟨⟨(fun i => match i with | 0 => q7 | 1 => q15 | _ => 0, fun i => match i with | 0 => c7 | 1 => c15 | _ => c7), rfl, trivial, by rw [ht]; exact hP, va_K.moved hW.alike hK, hD⟩, hS.F ht⟩) hS.2.2 dX0_init_30
theorem dX1_init_0 : decode cX1_init 0 = .ok (.aload_n 0, 1) := by decide +kernel
theorem dX1_init_1 : decode cX1_init 1 = .ok (.invokespecial 3, 3) := by decide +kernel
theorem dX1_init_4 : decode cX1_init 4 = .ok (.aload_n 0, 1) := by decide +kernel
theorem dX1_init_5 : decode cX1_init 5 = .ok (.iconst 2, 1) := by decide +kernel
theorem dX1_init_6 : decode cX1_init 6 = .ok (.newarray .int, 2) := by decide +kernel
theorem dX1_init_8 : decode cX1_init 8 = .ok (.putfield 9, 3) := by decide +kernel
theorem dX1_init_11 : decode cX1_init 11 = .ok (.aload_n 0, 1) := by decide +kernel
theorem dX1_init_12 : decode cX1_init 12 = .ok (.bipush 121, 2) := by decide +kernel
theorem dX1_init_14 : decode cX1_init 14 = .ok (.newarray .int, 2) := by decide +kernel
theorem dX1_init_16 : decode cX1_init 16 = .ok (.putfield 15, 3) := by decide +kernel
theorem dX1_init_19 : decode cX1_init 19 = .ok (.aload_n 0, 1) := by decide +kernel
theorem dX1_init_20 : decode cX1_init 20 = .ok (.bipush 121, 2) := by decide +kernel
theorem dX1_init_22 : decode cX1_init 22 = .ok (.newarray .int, 2) := by decide +kernel
theorem dX1_init_24 : decode cX1_init 24 = .ok (.putfield 18, 3) := by decide +kernel
theorem dX1_init_27 : decode cX1_init 27 = .ok (.aload_n 0, 1) := by decide +kernel
theorem dX1_init_28 : decode cX1_init 28 = .ok (.aload_n 1, 1) := by decide +kernel
theorem dX1_init_29 : decode cX1_init 29 = .ok (.putfield 21, 3) := by decide +kernel
theorem dX1_init_32 : decode cX1_init 32 = .ok (.aload_n 0, 1) := by decide +kernel
theorem dX1_init_33 : decode cX1_init 33 = .ok (.new 25, 3) := by decide +kernel
theorem dX1_init_36 : decode cX1_init 36 = .ok (.dup, 1) := by decide +kernel
theorem dX1_init_37 : decode cX1_init 37 = .ok (.aload_n 1, 1) := by decide +kernel
theorem dX1_init_38 : decode cX1_init 38 = .ok (.invokespecial 27, 3) := by decide +kernel
theorem dX1_init_41 : decode cX1_init 41 = .ok (.putfield 30, 3) := by decide +kernel
theorem dX1_init_44 : decode cX1_init 44 = .ok (.aload_n 0, 1) := by decide +kernel
theorem dX1_init_45 : decode cX1_init 45 = .ok (.new 25, 3) := by decide +kernel
theorem dX1_init_48 : decode cX1_init 48 = .ok (.dup, 1) := by decide +kernel
theorem dX1_init_49 : decode cX1_init 49 = .ok (.aload_n 1, 1) := by decide +kernel
theorem dX1_init_50 : decode cX1_init 50 = .ok (.invokespecial 27, 3) := by decide +kernel
theorem dX1_init_53 : decode cX1_init 53 = .ok (.putfield 34, 3) := by decide +kernel
theorem dX1_init_56 : decode cX1_init 56 = .ok (.return_, 1) := by decide +kernel
abbrev MI_X1 : xM := (RX1, yX1_init, cX1_init, 2, none, 0, lk_X1, [])
set_option maxRecDepth 20000 in
theorem cI_X1 : Cond.code yX1_init cX1_init 2 none ∈ x_tbl := x_mem 209 rfl rfl
set_option maxHeartbeats 4000000 in
set_option maxRecDepth 100000 in
theorem ci_X1 (l : Launch) (D : va_G) (h0 sz : Nat) (a1 : Nat) : Met l yX1_init (x_ws MI_X1) ({ frames := 2, cells := 13, slots := 326, locals := 40 }) (va_Pc [.ref h0, .ref a1] (fun U => U.heap.size = sz ∧ va_P D vwCl [(h0, .inr (1, [.null, .null, .null, .null, .null, .null, .int 0, .int 0, .int 0, .int 0]))] U.heap ∧ va_K D vwCl [] U ∧ va_D (fun _ => True) [(h0, .inr (1, [.null, .null, .null, .null, .null, .null, .int 0, .int 0, .int 0, .int 0]))])) (va_Qv (fun _ : (Nat → Nat) × (Nat → ClassId) => True) (fun u t => va_P D vwCl [(h0, .inr (1, [.ref a1, .ref (u.1 3), .ref (u.1 8), .ref (u.1 0), .ref (u.1 1), .ref (u.1 2), .int 0, .int 0, .int 0, .int 0])), ((u.1 0), .inl ((u.2 0), 2, .inl (fun _ => 0))), ((u.1 1), .inl ((u.2 1), 121, .inl (fun _ => 0))), ((u.1 2), .inl ((u.2 2), 121, .inl (fun _ => 0))), ((u.1 3), .inr (2, [.ref a1, .ref (u.1 4), .ref (u.1 5), .ref (u.1 6), .ref (u.1 7), .int 0, .int 0, .int 0])), ((u.1 4), .inl ((u.2 4), 3, .inl (fun _ => 0))), ((u.1 5), .inl ((u.2 5), 10, .inl (fun _ => 0))), ((u.1 6), .inl ((u.2 6), 10, .inl (fun _ => 0))), ((u.1 7), .inl ((u.2 7), 10, .inl (fun _ => 0))), ((u.1 8), .inr (2, [.ref a1, .ref (u.1 9), .ref (u.1 10), .ref (u.1 11), .ref (u.1 12), .int 0, .int 0, .int 0])), ((u.1 9), .inl ((u.2 9), 3, .inl (fun _ => 0))), ((u.1 10), .inl ((u.2 10), 10, .inl (fun _ => 0))), ((u.1 11), .inl ((u.2 11), 10, .inl (fun _ => 0))), ((u.1 12), .inl ((u.2 12), 10, .inl (fun _ => 0)))] t.heap ∧ va_K D vwCl [((u.2 0), .int), ((u.2 1), .int), ((u.2 2), .int), ((u.2 4), .int), ((u.2 5), .int), ((u.2 6), .int), ((u.2 7), .int), ((u.2 9), .int), ((u.2 10), .int), ((u.2 11), .int), ((u.2 12), .int)] t ∧ va_D (va_A [(h0, .inr (1, [.null, .null, .null, .null, .null, .null, .int 0, .int 0, .int 0, .int 0]))] sz) [(h0, .inr (1, [.ref a1, .ref (u.1 3), .ref (u.1 8), .ref (u.1 0), .ref (u.1 1), .ref (u.1 2), .int 0, .int 0, .int 0, .int 0])), ((u.1 0), .inl ((u.2 0), 2, .inl (fun _ => 0))), ((u.1 1), .inl ((u.2 1), 121, .inl (fun _ => 0))), ((u.1 2), .inl ((u.2 2), 121, .inl (fun _ => 0))), ((u.1 3), .inr (2, [.ref a1, .ref (u.1 4), .ref (u.1 5), .ref (u.1 6), .ref (u.1 7), .int 0, .int 0, .int 0])), ((u.1 4), .inl ((u.2 4), 3, .inl (fun _ => 0))), ((u.1 5), .inl ((u.2 5), 10, .inl (fun _ => 0))), ((u.1 6), .inl ((u.2 6), 10, .inl (fun _ => 0))), ((u.1 7), .inl ((u.2 7), 10, .inl (fun _ => 0))), ((u.1 8), .inr (2, [.ref a1, .ref (u.1 9), .ref (u.1 10), .ref (u.1 11), .ref (u.1 12), .int 0, .int 0, .int 0])), ((u.1 9), .inl ((u.2 9), 3, .inl (fun _ => 0))), ((u.1 10), .inl ((u.2 10), 10, .inl (fun _ => 0))), ((u.1 11), .inl ((u.2 11), 10, .inl (fun _ => 0))), ((u.1 12), .inl ((u.2 12), 10, .inl (fun _ => 0)))]) (va_A [(h0, .inr (1, [.null, .null, .null, .null, .null, .null, .int 0, .int 0, .int 0, .int 0]))] sz)) 13 326 (va_A [(h0, .inr (1, [.null, .null, .null, .null, .null, .null, .int 0, .int 0, .int 0, .int 0]))] sz) := by
  refine Met.ofW (cc := cX1_init) (maxL := 2) (ret := none) (by decide) rfl ?_
  intro p e s m args below meth c s₁ B hml hv
  obtain ⟨rfl, hsz, hP, hK, hD0⟩ := hv
  have hx := B.exec
  have hb := B.bytes
  have hr := B.returns
  have hts0 := atoms_spec (ws := x_ws MI_X1) B.pre
  have hts := fun w (h : w ∈ x_tbl) => hts0 w (List.mem_cons_of_mem _ h)
  have hown : s.vm.findClass RX1 = some m.cls := findClass_of_methodNamed B.named
  have hlocks := B.notSynchronized
  have hin : meth.name = "<init>" := (name_of_methodNamed B.named B.method).1
  subst hsz
  have hD := hD0.self (sz := s.heap.size)
  generalize hAe : va_A [(h0, .inr (1, [.null, .null, .null, .null, .null, .null, .int 0, .int 0, .int 0, .int 0]))] s.heap.size = A at hD ⊢
  have hA : ∀ q : Nat, s.heap.size ≤ q → A q := fun q h => by rw [← hAe]; exact Or.inr h
  have hS : va_S A s.heap s.heap [] := va_S.rf
  have hP : va_P D vwCl [(h0, .inr (1, [.null, .null, .null, .null, .null, .null, .int 0, .int 0, .int 0, .int 0]))] s.heap := hP
  have hl := lv_entry ([.ref h0, .ref a1]) (n := 2) (Nat.le_of_ble_eq_true rfl)
  rw [lg_entry_eq]
  generalize (lg_sl ([.ref h0, .ref a1]) ++ List.replicate (2 - (lg_sl ([.ref h0, .ref a1])).length) Slot.unset).toArray = ls at hl ⊢
  have hl : lv_has ls 2 [(0, .ref h0), (1, .ref a1)] := hl
  refine lv_aload_n hx hb dX1_init_0 rfl (lv_at hl 0 rfl) ?_
  refine W.objInit hx hb hown (hts (.methodLink RX1 3 objectInit) (x_mem 210 (by decide +kernel) rfl)) (hts (.instanceMethod objectInit) (x_mem 53 (by decide +kernel) rfl)) (hts (.code objectInit ⟨#[0xb1]⟩ 1 none) (x_mem 54 (by decide +kernel) rfl)) rfl (by rw [hml]; exact hl.1) rfl dX1_init_1 (Nat.le_of_ble_eq_true rfl) (Nat.le_of_ble_eq_true rfl) ?_
  refine W.eq (g2 := F0 m 4 ls []) rfl ?_
  refine lv_aload_n hx hb dX1_init_4 rfl (lv_at hl 0 rfl) ?_
  refine lv_iconst (v := 2) hx hb dX1_init_5 (by decide) ?_
  refine va_newa (atype := .int) hx hb (hts (.arrayClass .int) (x_mem 142 (by decide +kernel) rfl)) rfl hK hP hD hS hA (n := 2) (N' := 2) (a0 := (2, .inl (fun _ => 0))) (fun _ => rfl) (by decide) (by decide) (Nat.le_of_ble_eq_true rfl) (Nat.le_of_ble_eq_true rfl) (Nat.le_of_ble_eq_true rfl) dX1_init_6 (fun q6 c6 H hK hP hD hS => ?_)
  have hP : va_P D vwCl [(h0, .inr (1, [.null, .null, .null, .null, .null, .null, .int 0, .int 0, .int 0, .int 0])), (q6, .inl (c6, 2, .inl (fun _ => 0)))] H := hP
  have hD : va_D A [(h0, .inr (1, [.null, .null, .null, .null, .null, .null, .int 0, .int 0, .int 0, .int 0])), (q6, .inl (c6, 2, .inl (fun _ => 0)))] := hD
  have hK : va_K D vwCl [(c6, .int)] s := hK
  refine va_putF (D := D) (ci := 1) (v := .ref q6) (ty := tyX1 3) (C := RX1) (T := TX1) (N := 10) hx hb hts x_in1 tyX1 tyX1_ok nmX1 hown hK hP hD hS 0 rfl rfl 3 (by decide) (hts (.fieldLink RX1 9 "LaneLock$Choice" "lanes" "[I") (x_mem 216 (by decide +kernel) rfl)) (fun _ h9 => h9) rfl hin rfl (tyX1_ok 3 (by decide)) rfl rfl (Nat.le_of_ble_eq_true rfl) dX1_init_8 (fun H locs hP hD hS => ?_)
  have hP : va_P D vwCl [(h0, .inr (1, [.null, .null, .null, .ref q6, .null, .null, .int 0, .int 0, .int 0, .int 0])), (q6, .inl (c6, 2, .inl (fun _ => 0)))] H := hP
  have hD : va_D A [(h0, .inr (1, [.null, .null, .null, .ref q6, .null, .null, .int 0, .int 0, .int 0, .int 0])), (q6, .inl (c6, 2, .inl (fun _ => 0)))] := hD
  refine lv_aload_n hx hb dX1_init_11 rfl (lv_at hl 0 rfl) ?_
  refine lv_bipush (v := 121) hx hb dX1_init_12 (by decide) ?_
  refine va_newa (atype := .int) hx hb (hts (.arrayClass .int) (x_mem 142 (by decide +kernel) rfl)) rfl hK hP hD hS hA (n := 121) (N' := 121) (a0 := (121, .inl (fun _ => 0))) (fun _ => rfl) (by decide) (by decide) (Nat.le_of_ble_eq_true rfl) (Nat.le_of_ble_eq_true rfl) (Nat.le_of_ble_eq_true rfl) dX1_init_14 (fun q14 c14 H hK hP hD hS => ?_)
  have hP : va_P D vwCl [(h0, .inr (1, [.null, .null, .null, .ref q6, .null, .null, .int 0, .int 0, .int 0, .int 0])), (q6, .inl (c6, 2, .inl (fun _ => 0))), (q14, .inl (c14, 121, .inl (fun _ => 0)))] H := hP
  have hD : va_D A [(h0, .inr (1, [.null, .null, .null, .ref q6, .null, .null, .int 0, .int 0, .int 0, .int 0])), (q6, .inl (c6, 2, .inl (fun _ => 0))), (q14, .inl (c14, 121, .inl (fun _ => 0)))] := hD
  have hK : va_K D vwCl [(c6, .int), (c14, .int)] s := hK
  refine va_putF (D := D) (ci := 1) (v := .ref q14) (ty := tyX1 4) (C := RX1) (T := TX1) (N := 10) hx hb hts x_in1 tyX1 tyX1_ok nmX1 hown hK hP hD hS 0 rfl rfl 4 (by decide) (hts (.fieldLink RX1 15 "LaneLock$Choice" "fewestFrom" "[I") (x_mem 217 (by decide +kernel) rfl)) (fun _ h9 => h9) rfl hin rfl (tyX1_ok 4 (by decide)) rfl rfl (Nat.le_of_ble_eq_true rfl) dX1_init_16 (fun H locs hP hD hS => ?_)
  have hP : va_P D vwCl [(h0, .inr (1, [.null, .null, .null, .ref q6, .ref q14, .null, .int 0, .int 0, .int 0, .int 0])), (q6, .inl (c6, 2, .inl (fun _ => 0))), (q14, .inl (c14, 121, .inl (fun _ => 0)))] H := hP
  have hD : va_D A [(h0, .inr (1, [.null, .null, .null, .ref q6, .ref q14, .null, .int 0, .int 0, .int 0, .int 0])), (q6, .inl (c6, 2, .inl (fun _ => 0))), (q14, .inl (c14, 121, .inl (fun _ => 0)))] := hD
  refine lv_aload_n hx hb dX1_init_19 rfl (lv_at hl 0 rfl) ?_
  refine lv_bipush (v := 121) hx hb dX1_init_20 (by decide) ?_
  refine va_newa (atype := .int) hx hb (hts (.arrayClass .int) (x_mem 142 (by decide +kernel) rfl)) rfl hK hP hD hS hA (n := 121) (N' := 121) (a0 := (121, .inl (fun _ => 0))) (fun _ => rfl) (by decide) (by decide) (Nat.le_of_ble_eq_true rfl) (Nat.le_of_ble_eq_true rfl) (Nat.le_of_ble_eq_true rfl) dX1_init_22 (fun q22 c22 H hK hP hD hS => ?_)
  have hP : va_P D vwCl [(h0, .inr (1, [.null, .null, .null, .ref q6, .ref q14, .null, .int 0, .int 0, .int 0, .int 0])), (q6, .inl (c6, 2, .inl (fun _ => 0))), (q14, .inl (c14, 121, .inl (fun _ => 0))), (q22, .inl (c22, 121, .inl (fun _ => 0)))] H := hP
  have hD : va_D A [(h0, .inr (1, [.null, .null, .null, .ref q6, .ref q14, .null, .int 0, .int 0, .int 0, .int 0])), (q6, .inl (c6, 2, .inl (fun _ => 0))), (q14, .inl (c14, 121, .inl (fun _ => 0))), (q22, .inl (c22, 121, .inl (fun _ => 0)))] := hD
  have hK : va_K D vwCl [(c6, .int), (c14, .int), (c22, .int)] s := hK
  refine va_putF (D := D) (ci := 1) (v := .ref q22) (ty := tyX1 5) (C := RX1) (T := TX1) (N := 10) hx hb hts x_in1 tyX1 tyX1_ok nmX1 hown hK hP hD hS 0 rfl rfl 5 (by decide) (hts (.fieldLink RX1 18 "LaneLock$Choice" "leastFrom" "[I") (x_mem 218 (by decide +kernel) rfl)) (fun _ h9 => h9) rfl hin rfl (tyX1_ok 5 (by decide)) rfl rfl (Nat.le_of_ble_eq_true rfl) dX1_init_24 (fun H locs hP hD hS => ?_)
  have hP : va_P D vwCl [(h0, .inr (1, [.null, .null, .null, .ref q6, .ref q14, .ref q22, .int 0, .int 0, .int 0, .int 0])), (q6, .inl (c6, 2, .inl (fun _ => 0))), (q14, .inl (c14, 121, .inl (fun _ => 0))), (q22, .inl (c22, 121, .inl (fun _ => 0)))] H := hP
  have hD : va_D A [(h0, .inr (1, [.null, .null, .null, .ref q6, .ref q14, .ref q22, .int 0, .int 0, .int 0, .int 0])), (q6, .inl (c6, 2, .inl (fun _ => 0))), (q14, .inl (c14, 121, .inl (fun _ => 0))), (q22, .inl (c22, 121, .inl (fun _ => 0)))] := hD
  refine lv_aload_n hx hb dX1_init_27 rfl (lv_at hl 0 rfl) ?_
  refine lv_aload_n hx hb dX1_init_28 rfl (lv_at hl 1 rfl) ?_
  refine va_putF (D := D) (ci := 1) (v := .ref a1) (ty := tyX1 0) (C := RX1) (T := TX1) (N := 10) hx hb hts x_in1 tyX1 tyX1_ok nmX1 hown hK hP hD hS 0 rfl rfl 0 (by decide) (hts (.fieldLink RX1 21 "LaneLock$Choice" "keep" "LLaneLock$Keep;") (x_mem 213 (by decide +kernel) rfl)) (fun _ h9 => h9) rfl hin rfl (tyX1_ok 0 (by decide)) rfl rfl (Nat.le_of_ble_eq_true rfl) dX1_init_29 (fun H locs hP hD hS => ?_)
  have hP : va_P D vwCl [(h0, .inr (1, [.ref a1, .null, .null, .ref q6, .ref q14, .ref q22, .int 0, .int 0, .int 0, .int 0])), (q6, .inl (c6, 2, .inl (fun _ => 0))), (q14, .inl (c14, 121, .inl (fun _ => 0))), (q22, .inl (c22, 121, .inl (fun _ => 0)))] H := hP
  have hD : va_D A [(h0, .inr (1, [.ref a1, .null, .null, .ref q6, .ref q14, .ref q22, .int 0, .int 0, .int 0, .int 0])), (q6, .inl (c6, 2, .inl (fun _ => 0))), (q14, .inl (c14, 121, .inl (fun _ => 0))), (q22, .inl (c22, 121, .inl (fun _ => 0)))] := hD
  refine lv_aload_n hx hb dX1_init_32 rfl (lv_at hl 0 rfl) ?_
  refine va_new (ci := 2) (fs := [.null, .null, .null, .null, .null, .int 0, .int 0, .int 0]) (C := RX2) (T := TX2) (N := 8) hx hb hts x_in2 tyX2 tyX2_ok hown (hts (.classLink RX1 25 RX2) (x_mem 211 (by decide +kernel) rfl)) (hts (.instantiable RX2 8) (x_mem 144 (by decide +kernel) rfl)) (hts (.initialized RX2) (x_mem 39 (by decide +kernel) rfl)) hK hP hD hS hA rfl (fun j hj => by rcases (show j = 0 ∨ j = 1 ∨ j = 2 ∨ j = 3 ∨ j = 4 ∨ j = 5 ∨ j = 6 ∨ j = 7 by omega) with rfl | rfl | rfl | rfl | rfl | rfl | rfl | rfl <;> rfl) (Nat.le_of_ble_eq_true rfl) (Nat.le_of_ble_eq_true rfl) dX1_init_33 (fun q33 H hP hD hS => ?_)
  have hP : va_P D vwCl [(h0, .inr (1, [.ref a1, .null, .null, .ref q6, .ref q14, .ref q22, .int 0, .int 0, .int 0, .int 0])), (q6, .inl (c6, 2, .inl (fun _ => 0))), (q14, .inl (c14, 121, .inl (fun _ => 0))), (q22, .inl (c22, 121, .inl (fun _ => 0))), (q33, .inr (2, [.null, .null, .null, .null, .null, .int 0, .int 0, .int 0]))] H := hP
  have hD : va_D A [(h0, .inr (1, [.ref a1, .null, .null, .ref q6, .ref q14, .ref q22, .int 0, .int 0, .int 0, .int 0])), (q6, .inl (c6, 2, .inl (fun _ => 0))), (q14, .inl (c14, 121, .inl (fun _ => 0))), (q22, .inl (c22, 121, .inl (fun _ => 0))), (q33, .inr (2, [.null, .null, .null, .null, .null, .int 0, .int 0, .int 0]))] := hD
  refine lv_dup hx hb dX1_init_36 rfl ?_
  refine lv_aload_n hx hb dX1_init_37 rfl (lv_at hl 1 rfl) ?_
  have hPc := hP.sub (ws' := [(q33, .inr (2, [.null, .null, .null, .null, .null, .int 0, .int 0, .int 0]))]) [4] rfl
  have hDc := hD.sub (ws' := [(q33, .inr (2, [.null, .null, .null, .null, .null, .int 0, .int 0, .int 0]))]) [4] (by decide) rfl
  have hKc := hK.sub (tys' := []) [] rfl
  have hFc := va_free (wc := [(q33, .inr (2, [.null, .null, .null, .null, .null, .int 0, .int 0, .int 0]))]) hD hS hA [4] rfl
  refine va_callv (va_runI (As := [.ref a1]) (rest := [.ref q33, .ref h0]) ⟨hx, hb, hml, hown, hts⟩ (ci_X2 l D q33 H.size a1) (cwI 1 hts (x_wsG MI_X2 cI_X2) rfl rfl rfl (hts (.initialized RX2) (x_mem 39 (by decide +kernel) rfl)) (hts (.methodLink RX1 27 yX2_init) (x_mem 212 (by decide +kernel) rfl)) (hts (.instanceMethod yX2_init) (x_mem 146 (by decide +kernel) rfl)) rfl (by decide +kernel) ⟨Nat.le_of_ble_eq_true rfl, Nat.le_of_ble_eq_true rfl⟩) ⟨fun a U g mk q => by obtain ⟨q0, q1, qP, qK, qD⟩ := q; exact ⟨q0, q1, qP, va_K.moved (u := U) (U := U.calling g mk a) (Vm.Alike.refl U.vm) qK, qD⟩, fun U hU hW => ⟨rfl, by rw [hU], by rw [hU]; exact hPc, va_K.moved hW.alike hKc, hDc.weaken (fun _ _ _ _ => trivial)⟩⟩ rfl rfl hl.1 rfl (lv_room (Nat.le_of_ble_eq_true rfl)) dX1_init_38 ⟨Nat.le_of_ble_eq_true rfl, Nat.le_of_ble_eq_true rfl⟩) hS (fun q _ h => hFc q h) hFc (fun u38 t9 H1 locs ht hvm _ hB hz1 hk1 hS => ?_)
  obtain ⟨hP1, hK1, hD1⟩ := hB
  rw [ht] at hP1
  have hK1 := va_K.moved hvm.symm hK1
  obtain ⟨hP, hD⟩ := va_join (wr := [(h0, .inr (1, [.ref a1, .null, .null, .ref q6, .ref q14, .ref q22, .int 0, .int 0, .int 0, .int 0])), (q6, .inl (c6, 2, .inl (fun _ => 0))), (q14, .inl (c14, 121, .inl (fun _ => 0))), (q22, .inl (c22, 121, .inl (fun _ => 0)))]) (w1 := [(q33, .inr (2, [.ref a1, .ref (u38.1 0), .ref (u38.1 1), .ref (u38.1 2), .ref (u38.1 3), .int 0, .int 0, .int 0])), ((u38.1 0), .inl ((u38.2 0), 3, .inl (fun _ => 0))), ((u38.1 1), .inl ((u38.2 1), 10, .inl (fun _ => 0))), ((u38.1 2), .inl ((u38.2 2), 10, .inl (fun _ => 0))), ((u38.1 3), .inl ((u38.2 3), 10, .inl (fun _ => 0)))]) hP hD [4] [0, 1, 2, 3] rfl rfl (by decide) (by decide) hk1 hFc hP1 hD1
  have hK := (hK.sub (tys' := [(c6, .int), (c14, .int), (c22, .int)]) [0, 1, 2] rfl).app hK1
  generalize H1 = H at hP hS ⊢
  have hP : va_P D vwCl [(h0, .inr (1, [.ref a1, .null, .null, .ref q6, .ref q14, .ref q22, .int 0, .int 0, .int 0, .int 0])), (q6, .inl (c6, 2, .inl (fun _ => 0))), (q14, .inl (c14, 121, .inl (fun _ => 0))), (q22, .inl (c22, 121, .inl (fun _ => 0))), (q33, .inr (2, [.ref a1, .ref (u38.1 0), .ref (u38.1 1), .ref (u38.1 2), .ref (u38.1 3), .int 0, .int 0, .int 0])), ((u38.1 0), .inl ((u38.2 0), 3, .inl (fun _ => 0))), ((u38.1 1), .inl ((u38.2 1), 10, .inl (fun _ => 0))), ((u38.1 2), .inl ((u38.2 2), 10, .inl (fun _ => 0))), ((u38.1 3), .inl ((u38.2 3), 10, .inl (fun _ => 0)))] H := hP
  have hD : va_D A [(h0, .inr (1, [.ref a1, .null, .null, .ref q6, .ref q14, .ref q22, .int 0, .int 0, .int 0, .int 0])), (q6, .inl (c6, 2, .inl (fun _ => 0))), (q14, .inl (c14, 121, .inl (fun _ => 0))), (q22, .inl (c22, 121, .inl (fun _ => 0))), (q33, .inr (2, [.ref a1, .ref (u38.1 0), .ref (u38.1 1), .ref (u38.1 2), .ref (u38.1 3), .int 0, .int 0, .int 0])), ((u38.1 0), .inl ((u38.2 0), 3, .inl (fun _ => 0))), ((u38.1 1), .inl ((u38.2 1), 10, .inl (fun _ => 0))), ((u38.1 2), .inl ((u38.2 2), 10, .inl (fun _ => 0))), ((u38.1 3), .inl ((u38.2 3), 10, .inl (fun _ => 0)))] := hD
  have hK : va_K D vwCl [(c6, .int), (c14, .int), (c22, .int), ((u38.2 0), .int), ((u38.2 1), .int), ((u38.2 2), .int), ((u38.2 3), .int)] s := hK
  refine va_putF (D := D) (ci := 1) (v := .ref q33) (ty := tyX1 1) (C := RX1) (T := TX1) (N := 10) hx hb hts x_in1 tyX1 tyX1_ok nmX1 hown hK hP hD hS 0 rfl rfl 1 (by decide) (hts (.fieldLink RX1 30 "LaneLock$Choice" "ofOne" "LLaneLock$Filling;") (x_mem 214 (by decide +kernel) rfl)) (fun _ h9 => h9) rfl hin rfl (tyX1_ok 1 (by decide)) rfl rfl (Nat.le_of_ble_eq_true rfl) dX1_init_41 (fun H locs hP hD hS => ?_)
  have hP : va_P D vwCl [(h0, .inr (1, [.ref a1, .ref q33, .null, .ref q6, .ref q14, .ref q22, .int 0, .int 0, .int 0, .int 0])), (q6, .inl (c6, 2, .inl (fun _ => 0))), (q14, .inl (c14, 121, .inl (fun _ => 0))), (q22, .inl (c22, 121, .inl (fun _ => 0))), (q33, .inr (2, [.ref a1, .ref (u38.1 0), .ref (u38.1 1), .ref (u38.1 2), .ref (u38.1 3), .int 0, .int 0, .int 0])), ((u38.1 0), .inl ((u38.2 0), 3, .inl (fun _ => 0))), ((u38.1 1), .inl ((u38.2 1), 10, .inl (fun _ => 0))), ((u38.1 2), .inl ((u38.2 2), 10, .inl (fun _ => 0))), ((u38.1 3), .inl ((u38.2 3), 10, .inl (fun _ => 0)))] H := hP
  have hD : va_D A [(h0, .inr (1, [.ref a1, .ref q33, .null, .ref q6, .ref q14, .ref q22, .int 0, .int 0, .int 0, .int 0])), (q6, .inl (c6, 2, .inl (fun _ => 0))), (q14, .inl (c14, 121, .inl (fun _ => 0))), (q22, .inl (c22, 121, .inl (fun _ => 0))), (q33, .inr (2, [.ref a1, .ref (u38.1 0), .ref (u38.1 1), .ref (u38.1 2), .ref (u38.1 3), .int 0, .int 0, .int 0])), ((u38.1 0), .inl ((u38.2 0), 3, .inl (fun _ => 0))), ((u38.1 1), .inl ((u38.2 1), 10, .inl (fun _ => 0))), ((u38.1 2), .inl ((u38.2 2), 10, .inl (fun _ => 0))), ((u38.1 3), .inl ((u38.2 3), 10, .inl (fun _ => 0)))] := hD
  refine lv_aload_n hx hb dX1_init_44 rfl (lv_at hl 0 rfl) ?_
  refine va_new (ci := 2) (fs := [.null, .null, .null, .null, .null, .int 0, .int 0, .int 0]) (C := RX2) (T := TX2) (N := 8) hx hb hts x_in2 tyX2 tyX2_ok hown (hts (.classLink RX1 25 RX2) (x_mem 211 (by decide +kernel) rfl)) (hts (.instantiable RX2 8) (x_mem 144 (by decide +kernel) rfl)) (hts (.initialized RX2) (x_mem 39 (by decide +kernel) rfl)) hK hP hD hS hA rfl (fun j hj => by rcases (show j = 0 ∨ j = 1 ∨ j = 2 ∨ j = 3 ∨ j = 4 ∨ j = 5 ∨ j = 6 ∨ j = 7 by omega) with rfl | rfl | rfl | rfl | rfl | rfl | rfl | rfl <;> rfl) (Nat.le_of_ble_eq_true rfl) (Nat.le_of_ble_eq_true rfl) dX1_init_45 (fun q45 H hP hD hS => ?_)
  have hP : va_P D vwCl [(h0, .inr (1, [.ref a1, .ref q33, .null, .ref q6, .ref q14, .ref q22, .int 0, .int 0, .int 0, .int 0])), (q6, .inl (c6, 2, .inl (fun _ => 0))), (q14, .inl (c14, 121, .inl (fun _ => 0))), (q22, .inl (c22, 121, .inl (fun _ => 0))), (q33, .inr (2, [.ref a1, .ref (u38.1 0), .ref (u38.1 1), .ref (u38.1 2), .ref (u38.1 3), .int 0, .int 0, .int 0])), ((u38.1 0), .inl ((u38.2 0), 3, .inl (fun _ => 0))), ((u38.1 1), .inl ((u38.2 1), 10, .inl (fun _ => 0))), ((u38.1 2), .inl ((u38.2 2), 10, .inl (fun _ => 0))), ((u38.1 3), .inl ((u38.2 3), 10, .inl (fun _ => 0))), (q45, .inr (2, [.null, .null, .null, .null, .null, .int 0, .int 0, .int 0]))] H := hP
  have hD : va_D A [(h0, .inr (1, [.ref a1, .ref q33, .null, .ref q6, .ref q14, .ref q22, .int 0, .int 0, .int 0, .int 0])), (q6, .inl (c6, 2, .inl (fun _ => 0))), (q14, .inl (c14, 121, .inl (fun _ => 0))), (q22, .inl (c22, 121, .inl (fun _ => 0))), (q33, .inr (2, [.ref a1, .ref (u38.1 0), .ref (u38.1 1), .ref (u38.1 2), .ref (u38.1 3), .int 0, .int 0, .int 0])), ((u38.1 0), .inl ((u38.2 0), 3, .inl (fun _ => 0))), ((u38.1 1), .inl ((u38.2 1), 10, .inl (fun _ => 0))), ((u38.1 2), .inl ((u38.2 2), 10, .inl (fun _ => 0))), ((u38.1 3), .inl ((u38.2 3), 10, .inl (fun _ => 0))), (q45, .inr (2, [.null, .null, .null, .null, .null, .int 0, .int 0, .int 0]))] := hD
  refine lv_dup hx hb dX1_init_48 rfl ?_
  refine lv_aload_n hx hb dX1_init_49 rfl (lv_at hl 1 rfl) ?_
  have hPc := hP.sub (ws' := [(q45, .inr (2, [.null, .null, .null, .null, .null, .int 0, .int 0, .int 0]))]) [9] rfl
  have hDc := hD.sub (ws' := [(q45, .inr (2, [.null, .null, .null, .null, .null, .int 0, .int 0, .int 0]))]) [9] (by decide) rfl
  have hKc := hK.sub (tys' := []) [] rfl
  have hFc := va_free (wc := [(q45, .inr (2, [.null, .null, .null, .null, .null, .int 0, .int 0, .int 0]))]) hD hS hA [9] rfl
  refine va_callv (va_runI (As := [.ref a1]) (rest := [.ref q45, .ref h0]) ⟨hx, hb, hml, hown, hts⟩ (ci_X2 l D q45 H.size a1) (cwI 1 hts (x_wsG MI_X2 cI_X2) rfl rfl rfl (hts (.initialized RX2) (x_mem 39 (by decide +kernel) rfl)) (hts (.methodLink RX1 27 yX2_init) (x_mem 212 (by decide +kernel) rfl)) (hts (.instanceMethod yX2_init) (x_mem 146 (by decide +kernel) rfl)) rfl (by decide +kernel) ⟨Nat.le_of_ble_eq_true rfl, Nat.le_of_ble_eq_true rfl⟩) ⟨fun a U g mk q => by obtain ⟨q0, q1, qP, qK, qD⟩ := q; exact ⟨q0, q1, qP, va_K.moved (u := U) (U := U.calling g mk a) (Vm.Alike.refl U.vm) qK, qD⟩, fun U hU hW => ⟨rfl, by rw [hU], by rw [hU]; exact hPc, va_K.moved hW.alike hKc, hDc.weaken (fun _ _ _ _ => trivial)⟩⟩ rfl rfl hl.1 rfl (lv_room (Nat.le_of_ble_eq_true rfl)) dX1_init_50 ⟨Nat.le_of_ble_eq_true rfl, Nat.le_of_ble_eq_true rfl⟩) hS (fun q _ h => hFc q h) hFc (fun u50 t9 H1 locs ht hvm _ hB hz1 hk1 hS => ?_)
  obtain ⟨hP1, hK1, hD1⟩ := hB
  rw [ht] at hP1
  have hK1 := va_K.moved hvm.symm hK1
  obtain ⟨hP, hD⟩ := va_join (wr := [(h0, .inr (1, [.ref a1, .ref q33, .null, .ref q6, .ref q14, .ref q22, .int 0, .int 0, .int 0, .int 0])), (q6, .inl (c6, 2, .inl (fun _ => 0))), (q14, .inl (c14, 121, .inl (fun _ => 0))), (q22, .inl (c22, 121, .inl (fun _ => 0))), (q33, .inr (2, [.ref a1, .ref (u38.1 0), .ref (u38.1 1), .ref (u38.1 2), .ref (u38.1 3), .int 0, .int 0, .int 0])), ((u38.1 0), .inl ((u38.2 0), 3, .inl (fun _ => 0))), ((u38.1 1), .inl ((u38.2 1), 10, .inl (fun _ => 0))), ((u38.1 2), .inl ((u38.2 2), 10, .inl (fun _ => 0))), ((u38.1 3), .inl ((u38.2 3), 10, .inl (fun _ => 0)))]) (w1 := [(q45, .inr (2, [.ref a1, .ref (u50.1 0), .ref (u50.1 1), .ref (u50.1 2), .ref (u50.1 3), .int 0, .int 0, .int 0])), ((u50.1 0), .inl ((u50.2 0), 3, .inl (fun _ => 0))), ((u50.1 1), .inl ((u50.2 1), 10, .inl (fun _ => 0))), ((u50.1 2), .inl ((u50.2 2), 10, .inl (fun _ => 0))), ((u50.1 3), .inl ((u50.2 3), 10, .inl (fun _ => 0)))]) hP hD [9] [0, 1, 2, 3, 4, 5, 6, 7, 8] rfl rfl (by decide) (by decide) hk1 hFc hP1 hD1
  have hK := (hK.sub (tys' := [(c6, .int), (c14, .int), (c22, .int), ((u38.2 0), .int), ((u38.2 1), .int), ((u38.2 2), .int), ((u38.2 3), .int)]) [0, 1, 2, 3, 4, 5, 6] rfl).app hK1
  generalize H1 = H at hP hS ⊢
  have hP : va_P D vwCl [(h0, .inr (1, [.ref a1, .ref q33, .null, .ref q6, .ref q14, .ref q22, .int 0, .int 0, .int 0, .int 0])), (q6, .inl (c6, 2, .inl (fun _ => 0))), (q14, .inl (c14, 121, .inl (fun _ => 0))), (q22, .inl (c22, 121, .inl (fun _ => 0))), (q33, .inr (2, [.ref a1, .ref (u38.1 0), .ref (u38.1 1), .ref (u38.1 2), .ref (u38.1 3), .int 0, .int 0, .int 0])), ((u38.1 0), .inl ((u38.2 0), 3, .inl (fun _ => 0))), ((u38.1 1), .inl ((u38.2 1), 10, .inl (fun _ => 0))), ((u38.1 2), .inl ((u38.2 2), 10, .inl (fun _ => 0))), ((u38.1 3), .inl ((u38.2 3), 10, .inl (fun _ => 0))), (q45, .inr (2, [.ref a1, .ref (u50.1 0), .ref (u50.1 1), .ref (u50.1 2), .ref (u50.1 3), .int 0, .int 0, .int 0])), ((u50.1 0), .inl ((u50.2 0), 3, .inl (fun _ => 0))), ((u50.1 1), .inl ((u50.2 1), 10, .inl (fun _ => 0))), ((u50.1 2), .inl ((u50.2 2), 10, .inl (fun _ => 0))), ((u50.1 3), .inl ((u50.2 3), 10, .inl (fun _ => 0)))] H := hP
  have hD : va_D A [(h0, .inr (1, [.ref a1, .ref q33, .null, .ref q6, .ref q14, .ref q22, .int 0, .int 0, .int 0, .int 0])), (q6, .inl (c6, 2, .inl (fun _ => 0))), (q14, .inl (c14, 121, .inl (fun _ => 0))), (q22, .inl (c22, 121, .inl (fun _ => 0))), (q33, .inr (2, [.ref a1, .ref (u38.1 0), .ref (u38.1 1), .ref (u38.1 2), .ref (u38.1 3), .int 0, .int 0, .int 0])), ((u38.1 0), .inl ((u38.2 0), 3, .inl (fun _ => 0))), ((u38.1 1), .inl ((u38.2 1), 10, .inl (fun _ => 0))), ((u38.1 2), .inl ((u38.2 2), 10, .inl (fun _ => 0))), ((u38.1 3), .inl ((u38.2 3), 10, .inl (fun _ => 0))), (q45, .inr (2, [.ref a1, .ref (u50.1 0), .ref (u50.1 1), .ref (u50.1 2), .ref (u50.1 3), .int 0, .int 0, .int 0])), ((u50.1 0), .inl ((u50.2 0), 3, .inl (fun _ => 0))), ((u50.1 1), .inl ((u50.2 1), 10, .inl (fun _ => 0))), ((u50.1 2), .inl ((u50.2 2), 10, .inl (fun _ => 0))), ((u50.1 3), .inl ((u50.2 3), 10, .inl (fun _ => 0)))] := hD
  have hK : va_K D vwCl [(c6, .int), (c14, .int), (c22, .int), ((u38.2 0), .int), ((u38.2 1), .int), ((u38.2 2), .int), ((u38.2 3), .int), ((u50.2 0), .int), ((u50.2 1), .int), ((u50.2 2), .int), ((u50.2 3), .int)] s := hK
  refine va_putF (D := D) (ci := 1) (v := .ref q45) (ty := tyX1 2) (C := RX1) (T := TX1) (N := 10) hx hb hts x_in1 tyX1 tyX1_ok nmX1 hown hK hP hD hS 0 rfl rfl 2 (by decide) (hts (.fieldLink RX1 34 "LaneLock$Choice" "ofBoth" "LLaneLock$Filling;") (x_mem 215 (by decide +kernel) rfl)) (fun _ h9 => h9) rfl hin rfl (tyX1_ok 2 (by decide)) rfl rfl (Nat.le_of_ble_eq_true rfl) dX1_init_53 (fun H locs hP hD hS => ?_)
  have hP : va_P D vwCl [(h0, .inr (1, [.ref a1, .ref q33, .ref q45, .ref q6, .ref q14, .ref q22, .int 0, .int 0, .int 0, .int 0])), (q6, .inl (c6, 2, .inl (fun _ => 0))), (q14, .inl (c14, 121, .inl (fun _ => 0))), (q22, .inl (c22, 121, .inl (fun _ => 0))), (q33, .inr (2, [.ref a1, .ref (u38.1 0), .ref (u38.1 1), .ref (u38.1 2), .ref (u38.1 3), .int 0, .int 0, .int 0])), ((u38.1 0), .inl ((u38.2 0), 3, .inl (fun _ => 0))), ((u38.1 1), .inl ((u38.2 1), 10, .inl (fun _ => 0))), ((u38.1 2), .inl ((u38.2 2), 10, .inl (fun _ => 0))), ((u38.1 3), .inl ((u38.2 3), 10, .inl (fun _ => 0))), (q45, .inr (2, [.ref a1, .ref (u50.1 0), .ref (u50.1 1), .ref (u50.1 2), .ref (u50.1 3), .int 0, .int 0, .int 0])), ((u50.1 0), .inl ((u50.2 0), 3, .inl (fun _ => 0))), ((u50.1 1), .inl ((u50.2 1), 10, .inl (fun _ => 0))), ((u50.1 2), .inl ((u50.2 2), 10, .inl (fun _ => 0))), ((u50.1 3), .inl ((u50.2 3), 10, .inl (fun _ => 0)))] H := hP
  have hD : va_D A [(h0, .inr (1, [.ref a1, .ref q33, .ref q45, .ref q6, .ref q14, .ref q22, .int 0, .int 0, .int 0, .int 0])), (q6, .inl (c6, 2, .inl (fun _ => 0))), (q14, .inl (c14, 121, .inl (fun _ => 0))), (q22, .inl (c22, 121, .inl (fun _ => 0))), (q33, .inr (2, [.ref a1, .ref (u38.1 0), .ref (u38.1 1), .ref (u38.1 2), .ref (u38.1 3), .int 0, .int 0, .int 0])), ((u38.1 0), .inl ((u38.2 0), 3, .inl (fun _ => 0))), ((u38.1 1), .inl ((u38.2 1), 10, .inl (fun _ => 0))), ((u38.1 2), .inl ((u38.2 2), 10, .inl (fun _ => 0))), ((u38.1 3), .inl ((u38.2 3), 10, .inl (fun _ => 0))), (q45, .inr (2, [.ref a1, .ref (u50.1 0), .ref (u50.1 1), .ref (u50.1 2), .ref (u50.1 3), .int 0, .int 0, .int 0])), ((u50.1 0), .inl ((u50.2 0), 3, .inl (fun _ => 0))), ((u50.1 1), .inl ((u50.2 1), 10, .inl (fun _ => 0))), ((u50.1 2), .inl ((u50.2 2), 10, .inl (fun _ => 0))), ((u50.1 3), .inl ((u50.2 3), 10, .inl (fun _ => 0)))] := hD
  exact W.vret hx hb hr (fun t ht hW => ⟨⟨(fun i => match i with | 0 => q6 | 1 => q14 | 2 => q22 | 3 => q33 | 4 => (u38.1 0) | 5 => (u38.1 1) | 6 => (u38.1 2) | 7 => (u38.1 3) | 8 => q45 | 9 => (u50.1 0) | 10 => (u50.1 1) | 11 => (u50.1 2) | 12 => (u50.1 3) | _ => 0, fun i => match i with | 0 => c6 | 1 => c14 | 2 => c22 | 4 => (u38.2 0) | 5 => (u38.2 1) | 6 => (u38.2 2) | 7 => (u38.2 3) | 9 => (u50.2 0) | 10 => (u50.2 1) | 11 => (u50.2 2) | 12 => (u50.2 3) | _ => c6), rfl, trivial, by rw [ht]; exact hP, va_K.moved hW.alike hK, hD⟩, hS.F ht⟩) hS.2.2 dX1_init_56
