/-! the judgement on frames, its rules -/
section XR
variable {o : xO} {M : xM} {p : Program} {l : Launch} {e : Env} {s : State} {m : MethodId} {args : Array Value} {below : List Frame} {meth : Method} {c : Code} {ad : Nat → Nat} {ca : Nat → ClassId} {D : va_G} {Qf : State → Prop}
variable {pc pc' : Nat} {f f' : xF} {Ps : List Prop}
set_option maxHeartbeats 4000000 in
theorem x_stp_ok (X : x_Cx o M p s m args meth c ad ca D) (ok : x_lkok (xM_own M) (xM_lk M)) (hp : ∀ P ∈ Ps, P) {i : Instr} (hd : decode (xM_code M) pc = .ok (i, x_ln i))
    (h : x_stp o (xM_maxL M) (xM_lk M) pc i f = some (Ps, pc', f')) (k : x_G o M p l e s m args below meth c ad ca D Qf pc' f') : x_G o M p l e s m args below meth c ad ca D Qf pc f := by
  have hx := X.1
  have hb := X.2.1
  unfold x_stp at h
  split at h
  · exact x_psh_ok rfl (fun H locs ls rest kk => lv_iconst hx hb hd rfl kk) h k
  · exact x_psh_ok rfl (fun H locs ls rest kk => lv_bipush hx hb hd rfl kk) h k
  · exact x_psh_ok rfl (fun H locs ls rest kk => lv_sipush hx hb hd rfl kk) h k
  · exact x_psh_ok rfl (fun H locs ls rest kk => lv_lconst hx hb hd rfl kk) h k
  · exact x_ldc_ok X ok hd h k
  · exact x_ldw_ok X ok hd h k
  · exact x_ldc2_ok X ok hd h k
  · exact x_ldi_ok (fun H locs ls rest x hl kk => lv_iload hx hb hd hl kk) h k
  · exact x_ldi_ok (fun H locs ls rest x hl kk => lv_iload_n hx hb hd rfl hl kk) h k
  · exact x_ldl_ok (fun H locs ls rest x hl kk => lv_lload hx hb hd hl kk) h k
  · exact x_ldl_ok (fun H locs ls rest x hl kk => lv_lload_n hx hb hd rfl hl kk) h k
  · exact x_lda_ok (fun H locs ls rest x hl kk => lv_aload hx hb hd hl kk) h k
  · exact x_lda_ok (fun H locs ls rest x hl kk => lv_aload_n hx hb hd rfl hl kk) h k
  · exact x_sti_ok (fun H locs ls rest x lv lv' hl hn he kk => lv_istore hx hb hd hl hn he kk) h k
  · exact x_sti_ok (fun H locs ls rest x lv lv' hl hn he kk => lv_istore_n hx hb hd rfl hl hn he kk) h k
  · exact x_stl_ok (fun H locs ls rest x lv lv' hl hn he kk => lv_lstore hx hb hd hl hn he kk) h k
  · exact x_stl_ok (fun H locs ls rest x lv lv' hl hn he kk => lv_lstore_n hx hb hd rfl hl hn he kk) h k
  · exact x_sta_ok (fun H locs ls rest x lv lv' hl hn he kk => lv_astore hx hb hd hl hn he kk) h k
  · exact x_sta_ok (fun H locs ls rest x lv lv' hl hn he kk => lv_astore_n hx hb hd rfl hl hn he kk) h k
  · exact x_inc_ok hx hb hd h k
  · exact x_bin_ok (fun H locs ls rest x y kk => lv_iadd hx hb hd kk) h k
  · exact x_bin_ok (fun H locs ls rest x y kk => lv_isub hx hb hd kk) h k
  · exact x_bin_ok (fun H locs ls rest x y kk => lv_imul hx hb hd kk) h k
  · exact x_bin_ok (fun H locs ls rest x y kk => lv_iand hx hb hd kk) h k
  · exact x_bin_ok (fun H locs ls rest x y kk => lv_ior hx hb hd kk) h k
  · exact x_bin_ok (fun H locs ls rest x y kk => lv_ixor hx hb hd kk) h k
  · exact x_bin_ok (fun H locs ls rest x y kk => lv_ishl hx hb hd kk) h k
  · exact x_bin_ok (fun H locs ls rest x y kk => lv_ishr hx hb hd kk) h k
  · exact x_bin_ok (fun H locs ls rest x y kk => lv_iushr hx hb hd rfl kk) h k
  · exact x_dv_ok hp (fun H locs ls rest x y hy kk => lv_idiv hx hb hd hy kk) h k
  · exact x_dv_ok hp (fun H locs ls rest x y hy kk => lv_irem hx hb hd hy kk) h k
  · exact x_bil_ok (fun _ _ => rfl) (fun H locs ls rest x y kk => lv_ladd hx hb hd kk) h k
  · exact x_bil_ok (fun _ _ => rfl) (fun H locs ls rest x y kk => lv_lmul hx hb hd kk) h k
  · exact x_bil_ok (fun _ _ => rfl) (fun H locs ls rest x y kk => W.lcmp hx hb hd kk) h k
  · exact x_uni_ok (fun _ => rfl) (fun H locs ls rest x kk => lv_i2l hx hb hd rfl kk) h k
  · exact x_uni_ok (fun _ => rfl) (fun H locs ls rest x kk => lv_i2b hx hb hd rfl kk) h k
  · exact x_l2i_ok (fun H locs ls rest x kk => lv_l2i hx hb hd rfl kk) h k
  · exact x_dup_ok hx hb hd h k
  · exact x_pop_ok hx hb hd h k
  · exact x_dup2_ok hx hb hd h k
  · exact x_dpx_ok hx hb hd h k
  · exact x_gf_ok X ok hd h k
  · exact x_pf_ok X ok hp hd h k
  · exact x_gs_ok X ok hd h k
  · exact x_ial_ok X hp hd h k
  · exact x_len_ok X hd h k
  · exact x_bal_ok X hp hd h k
  · exact x_ias_ok X hp hd h k
  · exact x_bas_ok X hp hd h k
  · exact x_aal_ok X hp hd h k
  · exact x_nat_ok X ok hp hd h k
  · exact x_gt_ok hx hb hd h k
  · cases h
theorem x_tbd {M : xM} {pc len : Nat} {i : Instr} (ok : x_ok M) (h : x_lk (xM_tb M) pc = some (i, len)) : decode (xM_code M) pc = .ok (i, len) := ok.2 (pc, i, len) (x_lk_mem h)
theorem x_blk_ok (X : x_Cx o M p s m args meth c ad ca D) (ok : x_ok M) : ∀ (n : Nat) {pc pc' : Nat} {f f' : xF} {Ps : List Prop}, (∀ P ∈ Ps, P) → x_blk o M n pc f = some (Ps, pc', f') → x_G o M p l e s m args below meth c ad ca D Qf pc' f' → x_G o M p l e s m args below meth c ad ca D Qf pc f
  | 0, pc, pc', f, f', Ps, hp, h, k => by
    unfold x_blk at h
    cases h
    exact k
  | n + 1, pc, pc', f, f', Ps, hp, h, k => by
    unfold x_blk at h
    split at h
    next => cases h
    next i len hlk =>
      cases hb : Nat.beq len (x_ln i) with
      | false => rw [hb] at h; cases h
      | true =>
        rw [hb] at h
        have hlen : len = x_ln i := Nat.eq_of_beq_eq_true hb
        subst hlen
        dsimp only [cond_true] at h
        split at h
        next => cases h
        next P pc1 f1 h1 =>
          split at h
          next => cases h
          next Ps2 r h2 =>
            cases h
            exact x_stp_ok X ok.1 (fun Q hQ => hp Q (List.mem_append_left _ hQ)) (x_tbd ok hlk) h1 (x_blk_ok X ok n (fun Q hQ => hp Q (List.mem_append_right _ hQ)) h2 k)
theorem x_conj_all : ∀ {Ps : List Prop}, x_conj Ps → ∀ P ∈ Ps, P
  | [], _, P, hP => by cases hP
  | [a], h, P, hP => by
    rcases List.mem_cons.mp hP with rfl | hP
    · exact h
    · cases hP
  | a :: b :: l, h, P, hP => by
    rcases List.mem_cons.mp hP with rfl | hP
    · exact h.1
    · exact x_conj_all h.2 P hP
theorem x_br_ok (hx : p.tables.exec = Jvm.exec) (hb : c.code = xM_code M) {i : Instr} {P : Prop} {off : Int} {t : Nat} {st' : List Value} (hd : decode (xM_code M) pc = .ok (i, 3)) (h : x_br i f.2.1 = some (P, off, st')) (ht : (pc : Int) + off = (t : Int))
    (kt : P → x_G o M p l e s m args below meth c ad ca D Qf t (f.1, st', f.2.2)) (kf : ¬ P → x_G o M p l e s m args below meth c ad ca D Qf (pc + 3) (f.1, st', f.2.2)) : x_G o M p l e s m args below meth c ad ca D Qf pc f := by
  unfold x_br at h
  split at h
  next k off2 =>
    split at h
    next y x st heq =>
      cases h
      intro H locs ls hP hS hL
      rw [heq]
      cases k with
      | eq => exact lv_icmp_eq hx hb hd ht (fun q => kt q H locs ls hP hS hL) (fun q => kf q H locs ls hP hS hL)
      | ne => exact lv_icmp_ne hx hb hd ht (fun q => kt q H locs ls hP hS hL) (fun q => kf (fun z => z q) H locs ls hP hS hL)
      | lt => exact lv_icmp_lt hx hb hd ht (fun q => kt q H locs ls hP hS hL) (fun q => kf q H locs ls hP hS hL)
      | ge => exact lv_icmp_ge hx hb hd ht (fun q => kt q H locs ls hP hS hL) (fun q => kf q H locs ls hP hS hL)
      | gt => exact lv_icmp_gt hx hb hd ht (fun q => kt q H locs ls hP hS hL) (fun q => kf q H locs ls hP hS hL)
      | le => exact lv_icmp_le hx hb hd ht (fun q => kt q H locs ls hP hS hL) (fun q => kf q H locs ls hP hS hL)
    next => cases h
  next k off2 =>
    split at h
    next x st heq =>
      cases h
      intro H locs ls hP hS hL
      rw [heq]
      cases k with
      | eq => exact lv_if_eq hx hb hd ht (fun q => kt q H locs ls hP hS hL) (fun q => kf q H locs ls hP hS hL)
      | ne => exact lv_if_ne hx hb hd ht (fun q => kt q H locs ls hP hS hL) (fun q => kf (fun z => z q) H locs ls hP hS hL)
      | lt => exact lv_if_lt hx hb hd ht (fun q => kt q H locs ls hP hS hL) (fun q => kf q H locs ls hP hS hL)
      | ge => exact lv_if_ge hx hb hd ht (fun q => kt q H locs ls hP hS hL) (fun q => kf q H locs ls hP hS hL)
      | gt => exact lv_if_gt hx hb hd ht (fun q => kt q H locs ls hP hS hL) (fun q => kf q H locs ls hP hS hL)
      | le => exact lv_if_le hx hb hd ht (fun q => kt q H locs ls hP hS hL) (fun q => kf q H locs ls hP hS hL)
    next => cases h
  next => cases h
end XR
