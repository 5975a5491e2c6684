def tkM (σ : xSg) : sTk := fun r q => decide (r < 3) && decide (q < 20) && decide (σ 69 (20 * r + q) = 1)
def MR (σ : xSg) (F : sFl) : Prop := F.2.length ≤ 10 ∧ (∀ r q, r < 3 → q < 20 → σ 76 (20 * r + q) = zi (F.1 r q = true)) ∧ σ 57 23 = nI F.2.length ∧
  ∀ (i x r p : Nat), F.2[i]? = some (x, r, p) → σ 77 i = nI x ∧ σ 78 i = nI r ∧ σ 79 i = nI p
/-- nothing has changed but these cells, and these places of the reference's own object -/
def xFm (S P : List Nat) (σ σ' : xSg) : Prop := (∀ c, c ∉ S → c ≠ 57 → σ' c = σ c) ∧ ∀ i, i ∉ P → σ' 57 i = σ 57 i
theorem xFm.rf {S P : List Nat} {σ : xSg} : xFm S P σ σ := ⟨fun _ _ _ => rfl, fun _ _ => rfl⟩
theorem xFm.tr {S P : List Nat} {σ σ1 σ2 : xSg} (h1 : xFm S P σ σ1) (h2 : xFm S P σ1 σ2) : xFm S P σ σ2 := ⟨fun c hc hn => (h2.1 c hc hn).trans (h1.1 c hc hn), fun i hi => (h2.2 i hi).trans (h1.2 i hi)⟩
theorem xFm.mono {S P S' P' : List Nat} {σ σ1 : xSg} (h : xFm S P σ σ1) (hS : (S.all fun c => S'.contains c) = true) (hP : (P.all fun c => P'.contains c) = true) : xFm S' P' σ σ1 :=
  ⟨fun c hc hn => h.1 c (fun q => hc (by have := List.all_eq_true.mp hS c q; simpa using this)) hn, fun i hi => h.2 i (fun q => hi (by have := List.all_eq_true.mp hP i q; simpa using this))⟩
theorem x_up_up {σ : xSg} {k : Nat} {f g : Nat → Int32} : x_up (x_up σ k f) k g = x_up σ k g := by
  funext c
  unfold x_up
  by_cases h : c = k
  · rw [if_pos h, if_pos h]
  · rw [if_neg h, if_neg h, if_neg h]
theorem x_up_self {σ : xSg} {k : Nat} : x_up σ k (σ k) = σ := by
  funext c
  unfold x_up
  by_cases h : c = k
  · rw [if_pos h, h]
  · rw [if_neg h]
theorem vpi60 {r q : Nat} (hr : r < 3) (hq : q < 20) : vp_in (((20 : Int32) * (nI r)) + (nI q)) 60 := by
  rw [show (20 : Int32) = nI 20 from rfl, pk_mul, nI_add]
  exact vp_in_nI (by omega) (by decide)
theorem idx60 {r q : Nat} (hr : r < 3) (hq : q < 20) : (((20 : Int32) * (nI r)) + (nI q)).toNatClampNeg = 20 * r + q := by
  rw [show (20 : Int32) = nI 20 from rfl, pk_mul, nI_add, nI_clamp (by omega)]
theorem zi_b (b : Bool) : zi (b = true) = 0 ∨ zi (b = true) = 1 := by
  by_cases h : b = true
  · exact Or.inr (zi_t h)
  · exact Or.inl (zi_f h)
theorem p_s1 {p sp : Nat} (h : sp ≤ p + 1) : ((nI p) - (nI sp)) + (1 : Int32) = nI (p + 1 - sp) := by
  have e : nI p + 1 = nI (p + 1 - sp) + nI sp := by rw [nI_1, nI_add]; congr 1; omega
  have e2 : nI p - nI sp + 1 = nI p + 1 - nI sp := by
    rw [Int32.sub_eq_add_neg, Int32.sub_eq_add_neg, Int32.add_assoc, Int32.add_comm (-nI sp) 1, ← Int32.add_assoc]
  rw [e2, e, Int32.add_sub_cancel]
def rInv (tk : sTk) (r p ρ : Nat) : Prop := ρ ≤ p ∧ (∀ q, p - ρ ≤ q → q < p → tk r q = false) ∧ (ρ < p → tk r (p - ρ - 1) = true)
theorem rInv_t {tk : sTk} {r p : Nat} (h : tk r p = true) : rInv tk r (p + 1) 0 := ⟨Nat.zero_le _, fun q h1 h2 => by omega, fun _ => by rw [show p + 1 - 0 - 1 = p by omega]; exact h⟩
theorem rInv_f {tk : sTk} {r p ρ : Nat} (h : rInv tk r p ρ) (hf : tk r p = false) : rInv tk r (p + 1) (ρ + 1) := by
  obtain ⟨h1, h2, h3⟩ := h
  refine ⟨by omega, fun q a b => ?_, fun a => ?_⟩
  · by_cases hq : q = p
    · rw [hq]; exact hf
    · exact h2 q (by omega) (by omega)
  · rw [show p + 1 - (ρ + 1) - 1 = p - ρ - 1 by omega]
    exact h3 (by omega)
theorem rInv_fit {tk : sTk} {r p sp : Nat} (h : rInv tk r p sp) : s_fit tk sp r (p - sp) = true := by
  rw [s_fit_iff]
  intro q a b
  exact h.2.1 q a (by have := h.1; omega)
theorem rInv_no {tk : sTk} {r p ρ sp : Nat} (h : rInv tk r p ρ) (hl : ρ < sp) (hp : sp ≤ p) : ¬ s_fit tk sp r (p - sp) = true := by
  intro hf
  rw [s_fit_iff] at hf
  have h1 := h.2.2 (by omega)
  rw [hf (p - ρ - 1) (by omega) (by omega)] at h1
  cases h1
theorem s_plr_min {tk : sTk} {sp r q : Nat} (hf : s_fit tk sp r q = true) : ∀ {n p : Nat}, p ≤ q → q < p + n → (∀ s, p ≤ s → s < q → ¬ s_fit tk sp r s = true) → s_plr tk sp r n p = some q
  | 0, p, h1, h2, _ => by omega
  | n + 1, p, h1, h2, h3 => by
    unfold s_plr
    by_cases hpq : p = q
    · subst hpq; rw [if_pos hf]
    · rw [if_neg (h3 p (Nat.le_refl _) (by omega))]
      exact s_plr_min hf (by omega) (by omega) (fun s a b => h3 s (by omega) b)
theorem s_plr_no {tk : sTk} {sp r : Nat} : ∀ {n p : Nat}, (∀ s, p ≤ s → s < p + n → ¬ s_fit tk sp r s = true) → s_plr tk sp r n p = none
  | 0, _, _ => rfl
  | n + 1, p, h => by
    unfold s_plr
    rw [if_neg (h p (Nat.le_refl _) (by omega))]
    exact s_plr_no (fun s a b => h s (by omega) (by omega))
def gQ (a : sAt) (σ : xSg) (x : Nat) (F : sFl) : Option Value → xSg → Prop := fun r σ' => (∃ F', s_in a x F = some F' ∧ r = some (.int 1) ∧ MR σ' F' ∧ xFm [76, 77, 78, 79] [23] σ σ') ∨ (s_in a x F = none ∧ r = some (.int 0) ∧ σ' = σ)
theorem MR_put {σ σ' : xSg} {x r p sp : Nat} {F : sFl} (h : MR σ F) (hl : F.2.length < 10) (e23 : σ' 57 23 = nI F.2.length + 1)
    (ec : ∀ r' q, r' < 3 → q < 20 → σ' 76 (20 * r' + q) = if r' = r ∧ p ≤ q ∧ q < p + sp then 1 else σ 76 (20 * r' + q)) (ew : σ' 77 = upd (σ 77) F.2.length (nI x)) (er : σ' 78 = upd (σ 78) F.2.length (nI r)) (ep : σ' 79 = upd (σ 79) F.2.length (nI p)) :
    MR σ' (s_mark F.1 r p sp, F.2 ++ [(x, r, p)]) := by
  obtain ⟨h1, h2, h3, h6⟩ := h
  refine ⟨by simp; omega, fun r' q hr' hq => ?_, by rw [e23, nI_1]; simp, fun i y r' p' hi => ?_⟩
  · rw [ec r' q hr' hq]
    unfold s_mark
    by_cases hx : r' = r ∧ p ≤ q ∧ q < p + sp
    · rw [if_pos hx, zi_t (by simp [hx.1, hx.2.1, hx.2.2])]
    · rw [if_neg hx, h2 r' q hr' hq]
      have : (decide (r' = r) && decide (p ≤ q) && decide (q < p + sp)) = false := by
        rw [← Bool.not_eq_true]
        intro z
        simp only [Bool.and_eq_true, decide_eq_true_eq] at z
        exact hx ⟨z.1.1, z.1.2, z.2⟩
      simp only [this, Bool.or_false]
  · rw [ew, er, ep]
    by_cases hil : i < F.2.length
    · dsimp only at hi
      rw [List.getElem?_append_left hil] at hi
      rw [upd_ne (by omega), upd_ne (by omega), upd_ne (by omega)]
      exact h6 i y r' p' hi
    · dsimp only at hi
      rw [List.getElem?_append_right (by omega)] at hi
      have hi1 : i - F.2.length < 1 := (List.getElem?_eq_some_iff.mp hi).1
      have hi0 : i = F.2.length := by omega
      subst hi0
      rw [Nat.sub_self] at hi
      cases hi
      rw [upd_eq, upd_eq, upd_eq]
      exact ⟨rfl, rfl, rfl⟩
set_option maxRecDepth 100000 in
theorem m_empties_lp (σ : xSg) (hz : ∀ i, i < 60 → σ 69 i = 0 ∨ σ 69 i = 1) : ∀ (m i : Nat) (σ1 : xSg), i + m = 60 → σ1 57 23 = 0 → xFm [76] [23] σ σ1 → (∀ j, j < i → σ1 76 j = σ 69 j) → xEv (.inl 0) M_X6_empties (fun r σ2 => r = none ∧ MR σ2 (tkM σ, []) ∧ xFm [76] [23] σ σ2) 7 ([some (.ref 57), some (.int (nI i))], [], σ1) := by
  intro m
  induction m with
  | zero =>
    intro i σ1 hi h23 hfr hc
    refine ev_br 2 [] ((60 : Int32) ≤ (nI i)) 31 13 ([some (.ref 57), some (.int (nI i))], [], σ1) rfl ?_ (fun c10 => ?_) (fun c10 => ?_)
    · trivial
    · refine ev_vret rfl rfl ⟨rfl, ⟨by simp, fun r q hr hq => ?_, h23, fun i x r p h => by simp at h⟩, hfr⟩
      rw [hc (20 * r + q) (by omega)]
      rcases hz (20 * r + q) (by omega) with h | h
      · rw [h]; exact (zi_f (by simp [tkM, h])).symm
      · rw [h]; exact (zi_t (by simp [tkM, h, hr, hq])).symm
    · exact absurd (show (60 : Int32) ≤ nI i by rw [show i = 60 by omega]; decide) c10
  | succ m ih =>
    intro i σ1 hi h23 hfr hc
    have hic : (nI i).toNatClampNeg = i := nI_clamp (by omega)
    have e69 : σ1 69 = σ 69 := hfr.1 69 (by decide) (by decide)
    refine ev_br 2 [] ((60 : Int32) ≤ (nI i)) 31 13 ([some (.ref 57), some (.int (nI i))], [], σ1) rfl ?_ (fun c10 => ?_) (fun c10 => ?_)
    · trivial
    · exact absurd c10 (nI_ge (b := 60) (by omega) (by decide))
    · refine ev_blk 10 [vp_in (nI i) 60, vp_in (nI i) 60, ((σ1 69) (nI i).toNatClampNeg) = 0 ∨ ((σ1 69) (nI i).toNatClampNeg) = 1] 7 ([some (.ref 57), some (.int ((nI i) + (1 : Int32)))], [], (x_up σ1 76 (upd (σ1 76) (nI i).toNatClampNeg ((σ1 69) (nI i).toNatClampNeg)))) rfl ?_ ?_
      · refine ⟨vp_in_nI (by omega) (by decide), vp_in_nI (by omega) (by decide), ?_⟩
        rw [hic, e69]
        exact hz i (by omega)
      rw [hic]
      rw [nI_1]
      refine ih (i + 1) _ (by omega) h23 ⟨fun c hc hn => ?_, hfr.2⟩ (fun j hj => ?_)
      · have h76 : c ≠ 76 := fun q => hc (by simp [q])
        exact (x_up_ne h76).trans (hfr.1 c hc hn)
      · show upd (σ1 76) i (σ1 69 i) j = σ 69 j
        by_cases hji : j = i
        · rw [hji, upd_eq, e69]
        · rw [upd_ne hji]; exact hc j (by omega)
set_option maxRecDepth 100000 in
theorem m_empties (σ : xSg) (hz : ∀ i, i < 60 → σ 69 i = 0 ∨ σ 69 i = 1) : xCtr M_X6_empties [.ref 57] σ (fun r σ2 => r = none ∧ MR σ2 (tkM σ, []) ∧ xFm [76] [23] σ σ2) := by
  refine ctr_ev ok_X6_empties (by decide +kernel) rfl rfl rfl ?_
  show xEv (.inl 0) M_X6_empties _ 0 ([some (.ref 57), none], [], σ)
  refine ev_blk 5 [] 7 ([some (.ref 57), some (.int ((0 : Int32)))], [], (x_up σ 57 (upd (σ 57) 23 ((0 : Int32))))) rfl ?_ ?_
  · trivial
  refine m_empties_lp σ hz 60 0 _ rfl rfl ⟨fun c hc hn => x_up_ne hn, fun i hi => ?_⟩ (fun j hj => absurd hj (Nat.not_lt_zero j))
  have h23 : i ≠ 23 := fun q => hi (by simp [q])
  exact upd_ne h23
set_option maxRecDepth 100000 in
theorem m_goesIn_l3 (σ : xSg) (x : Nat) (F : sFl) (n : Nat) (hok : aOk (atM σ) n) (hx : x < n) (hF : MR σ F) (hl : F.2.length < 10) (hFn : ∀ q ∈ F.2, q.1 < n) (hb : s_bar (atM σ) x F.2 = false) (r p st : Nat) (ru : Int32) (hr : r < 3) (hp : p < 20) (hst : st + s_sp (atM σ) x = p + 1) (hpl : s_plc (atM σ) F.1 (s_sp (atM σ) x) (s_rows (atM σ)) 0 = some (r, st)) : ∀ (m q : Nat) (g : Nat → Int32), q + m = p + 1 → st ≤ q → (∀ j, g j = if 20 * r + st ≤ j ∧ j < 20 * r + q then 1 else σ 76 j) → xEv (.inl 2) M_X6_goesIn (gQ (atM σ) σ x F) 111 ([some (.ref 57), some (.int (nI x)), some (.int (nI (s_sp (atM σ) x))), some (.int (nI r)), some (.int (ru)), some (.int (nI p)), some (.int (nI q))], [], (x_up σ 76 g)) := by
  have hn10 := hok.1
  obtain ⟨hs0, hs1, hs2⟩ := s_sp_ok hok hx
  obtain ⟨hg0, hg1, hg2⟩ := s_long_ok hok
  obtain ⟨hr0, hr1, hr2⟩ := s_rows_ok hok
  have h23 := hF.2.2.1
  have hxc : (nI x).toNatClampNeg = x := nI_clamp (by omega)
  have h23c : (σ 57 23).toNatClampNeg = F.2.length := by rw [h23, nI_clamp (by omega)]
  intro m
  induction m with
  | zero =>
    intro q g hq hstq hg
    have hqp : q = p + 1 := by omega
    have hpp : nI p - nI (s_sp (atM σ) x) + 1 = nI st := by rw [p_s1 (by omega)]; congr 1; omega
    refine ev_br 2 [] ((nI p) < (nI q)) 137 118 ([some (.ref 57), some (.int (nI x)), some (.int (nI (s_sp (atM σ) x))), some (.int (nI r)), some (.int (ru)), some (.int (nI p)), some (.int (nI q))], [], (x_up σ 76 g)) rfl ?_ (fun c115 => ?_) (fun c115 => ?_)
    · trivial
    · refine ev_blk 29 [vp_in ((σ 57 23)) 10, vp_in ((σ 57 23)) 10, vp_in ((σ 57 23)) 10] 183 ([some (.ref 57), some (.int (nI x)), some (.int (nI (s_sp (atM σ) x))), some (.int (nI r)), some (.int (ru)), some (.int (nI p)), some (.int (nI q))], [.int ((1 : Int32))], (x_up (x_up (x_up (x_up (x_up σ 76 g) 77 (upd (σ 77) (σ 57 23).toNatClampNeg (nI x))) 78 (upd (σ 78) (σ 57 23).toNatClampNeg (nI r))) 79 (upd (σ 79) (σ 57 23).toNatClampNeg (((nI p) - (nI (s_sp (atM σ) x))) + (1 : Int32)))) 57 (upd (σ 57) 23 ((σ 57 23) + (1 : Int32))))) rfl ?_ ?_
      · exact ⟨(by rw [h23]; exact vp_in_nI (by omega) (by decide)), (by rw [h23]; exact vp_in_nI (by omega) (by decide)), (by rw [h23]; exact vp_in_nI (by omega) (by decide))⟩
      rw [h23c]
      refine ev_iret rfl rfl nar1 (Or.inl ⟨_, s_in_some hb hpl, rfl, MR_put hF hl (show σ 57 23 + 1 = _ by rw [h23]) (fun r2 q2 hr2 hq2 => ?_) rfl rfl ?_, ⟨fun c hc hn => by simp at hc; simp [x_up, hc, hn], fun i hi => by simp at hi; simp [x_up, upd, hi]⟩⟩)
      · show g (20 * r2 + q2) = _
        rw [hg, hqp]
        by_cases hz : r2 = r ∧ st ≤ q2 ∧ q2 < st + s_sp (atM σ) x
        · rw [if_pos hz, if_pos (by obtain ⟨z1, z2, z3⟩ := hz; subst z1; omega)]
        · rw [if_neg hz, if_neg (fun z => hz ?_)]
          have : r2 = r := by omega
          exact ⟨this, by omega, by omega⟩
      · show upd (σ 79) F.2.length (((nI p) - (nI (s_sp (atM σ) x))) + (1 : Int32)) = _
        rw [hpp]
    · exact absurd (nI_lt (by omega) (by omega)) c115
  | succ m ih =>
    intro q g hq hstq hg
    have hqi := idx60 hr (show q < 20 by omega)
    refine ev_br 2 [] ((nI p) < (nI q)) 137 118 ([some (.ref 57), some (.int (nI x)), some (.int (nI (s_sp (atM σ) x))), some (.int (nI r)), some (.int (ru)), some (.int (nI p)), some (.int (nI q))], [], (x_up σ 76 g)) rfl ?_ (fun c115 => ?_) (fun c115 => ?_)
    · trivial
    · exact absurd c115 (nI_nlt (by omega) (by omega))
    · refine ev_blk 11 [vp_in (((20 : Int32) * (nI r)) + (nI q)) 60, (1 : Int32) = 0 ∨ (1 : Int32) = 1] 111 ([some (.ref 57), some (.int (nI x)), some (.int (nI (s_sp (atM σ) x))), some (.int (nI r)), some (.int (ru)), some (.int (nI p)), some (.int ((nI q) + (1 : Int32)))], [], (x_up (x_up σ 76 g) 76 (upd g (((20 : Int32) * (nI r)) + (nI q)).toNatClampNeg ((1 : Int32))))) rfl ?_ ?_
      · exact ⟨vpi60 hr (by omega), Or.inr rfl⟩
      rw [hqi]
      rw [nI_1, x_up_up]
      refine ih (q + 1) _ (by omega) (by omega) (fun j => ?_)
      by_cases hj : j = 20 * r + q
      · subst hj
        rw [upd_eq, if_pos (by omega)]
      · rw [upd_ne hj, hg]
        by_cases hz : 20 * r + st ≤ j ∧ j < 20 * r + q
        · rw [if_pos hz, if_pos (by omega)]
        · rw [if_neg hz, if_neg (by omega)]
set_option maxRecDepth 100000 in
theorem m_goesIn_l2 (σ : xSg) (x : Nat) (F : sFl) (n : Nat) (hok : aOk (atM σ) n) (hx : x < n) (hF : MR σ F) (hl : F.2.length < 10) (hFn : ∀ q ∈ F.2, q.1 < n) (hb : s_bar (atM σ) x F.2 = false) (r : Nat) (hr : r < 3) (hpl : ∀ st, s_plr F.1 (s_sp (atM σ) x) r (s_long (atM σ) + 1 - s_sp (atM σ) x) 0 = some st → s_plc (atM σ) F.1 (s_sp (atM σ) x) (s_rows (atM σ)) 0 = some (r, st)) (hnx : s_plr F.1 (s_sp (atM σ) x) r (s_long (atM σ) + 1 - s_sp (atM σ) x) 0 = none → xEv (.inl 2) M_X6_goesIn (gQ (atM σ) σ x F) 42 ([some (.ref 57), some (.int (nI x)), some (.int (nI (s_sp (atM σ) x))), some (.int (nI (r + 1))), none, none, none], [], σ)) : ∀ (m p ρ : Nat), p + m = s_long (atM σ) → rInv F.1 r p ρ → ρ < s_sp (atM σ) x → (∀ s, s + s_sp (atM σ) x ≤ p → ¬ s_fit F.1 (s_sp (atM σ) x) r s = true) → xEv (.inl 2) M_X6_goesIn (gQ (atM σ) σ x F) 58 ([some (.ref 57), some (.int (nI x)), some (.int (nI (s_sp (atM σ) x))), some (.int (nI r)), some (.int (nI ρ)), some (.int (nI p)), none], [], σ) := by
  have hn10 := hok.1
  obtain ⟨hs0, hs1, hs2⟩ := s_sp_ok hok hx
  obtain ⟨hg0, hg1, hg2⟩ := s_long_ok hok
  obtain ⟨hr0, hr1, hr2⟩ := s_rows_ok hok
  have h23 := hF.2.2.1
  have hxc : (nI x).toNatClampNeg = x := nI_clamp (by omega)
  have h23c : (σ 57 23).toNatClampNeg = F.2.length := by rw [h23, nI_clamp (by omega)]
  intro m
  induction m with
  | zero =>
    intro p ρ hp hi hρ hno
    refine ev_br 5 [vp_in ((0 : Int32)) 5] (((σ 68) 0) ≤ (nI p)) 190 69 ([some (.ref 57), some (.int (nI x)), some (.int (nI (s_sp (atM σ) x))), some (.int (nI r)), some (.int (nI ρ)), some (.int (nI p)), none], [], σ) rfl ?_ (fun c66 => ?_) (fun c66 => ?_)
    · exact vp_in_nI (n := 0) (by decide) (by decide)
    · refine ev_blk 2 [] 42 ([some (.ref 57), some (.int (nI x)), some (.int (nI (s_sp (atM σ) x))), some (.int ((nI r) + (1 : Int32))), some (.int (nI ρ)), some (.int (nI p)), none], [], σ) rfl ?_ ?_
      · trivial
      rw [nI_1]
      refine ev_drop 4 ?_
      refine ev_drop 5 ?_
      exact hnx (s_plr_no (fun s _ hs => hno s (by omega)))
    · exact absurd (show aS (atM σ) 0 ≤ nI p by rw [hg0]; exact nI_le (by omega) (by omega)) c66
  | succ m ih =>
    intro p ρ hp hi hρ hno
    have hpi := idx60 hr (show p < 20 by omega)
    have htk := hF.2.1 r p hr (by omega)
    have hρp := hi.1
    have hns : ∀ ρ2, rInv F.1 r (p + 1) ρ2 → ρ2 < s_sp (atM σ) x → ∀ s, s + s_sp (atM σ) x ≤ p + 1 → ¬ s_fit F.1 (s_sp (atM σ) x) r s = true := fun ρ2 h2 h3 s hs => by
      by_cases hsp : s + s_sp (atM σ) x ≤ p
      · exact hno s hsp
      · have e : s = p + 1 - s_sp (atM σ) x := by omega
        rw [e]
        exact rInv_no h2 h3 (by omega)
    refine ev_br 5 [vp_in ((0 : Int32)) 5] (((σ 68) 0) ≤ (nI p)) 190 69 ([some (.ref 57), some (.int (nI x)), some (.int (nI (s_sp (atM σ) x))), some (.int (nI r)), some (.int (nI ρ)), some (.int (nI p)), none], [], σ) rfl ?_ (fun c66 => ?_) (fun c66 => ?_)
    · exact vp_in_nI (n := 0) (by decide) (by decide)
    · exact absurd (show nI (s_long (atM σ)) ≤ nI p by rw [← hg0]; exact c66) (nI_ge (by omega) (by omega))
    · refine ev_br 8 [vp_in (((20 : Int32) * (nI r)) + (nI p)) 60] (((σ 76) (((20 : Int32) * (nI r)) + (nI p)).toNatClampNeg) = 0) 88 84 ([some (.ref 57), some (.int (nI x)), some (.int (nI (s_sp (atM σ) x))), some (.int (nI r)), some (.int (nI ρ)), some (.int (nI p)), none], [], σ) rfl ?_ (fun c81 => ?_) (fun c81 => ?_)
      · exact vpi60 hr (by omega)
      · rw [hpi] at c81
        refine ev_br 6 [] ((nI (s_sp (atM σ) x)) ≤ ((nI ρ) + (1 : Int32))) 103 100 ([some (.ref 57), some (.int (nI x)), some (.int (nI (s_sp (atM σ) x))), some (.int (nI r)), some (.int ((nI ρ) + (1 : Int32))), some (.int (nI p)), none], [], σ) rfl ?_ (fun c97 => ?_) (fun c97 => ?_)
        · trivial
        · refine ev_blk 6 [] 111 ([some (.ref 57), some (.int (nI x)), some (.int (nI (s_sp (atM σ) x))), some (.int (nI r)), some (.int ((nI ρ) + (1 : Int32))), some (.int (nI p)), some (.int (((nI p) - (nI (s_sp (atM σ) x))) + (1 : Int32)))], [], σ) rfl ?_ ?_
          · trivial
          rw [htk] at c81
          have hfr : F.1 r p = false := by simpa using zi_0.mp c81
          have hi2 := rInv_f hi hfr
          have h97 : s_sp (atM σ) x ≤ ρ + 1 := Nat.le_of_not_lt (fun q => nI_ge q (by omega) (by rw [← nI_1]; exact c97))
          have hρ2 : ρ + 1 = s_sp (atM σ) x := by omega
          rw [hρ2] at hi2
          have hfit := rInv_fit hi2
          have hst := hpl _ (s_plr_min hfit (Nat.zero_le _) (by omega) (fun s _ hs => hno s (by omega)))
          rw [show nI p - nI (s_sp (atM σ) x) + 1 = nI (p + 1 - s_sp (atM σ) x) from p_s1 (by omega)]
          have e76 : σ = x_up σ 76 (σ 76) := (x_up_self).symm
          have h3 := m_goesIn_l3 σ x F n hok hx hF hl hFn hb r p (p + 1 - s_sp (atM σ) x) (nI ρ + 1) hr (by omega) (by omega) hst (s_sp (atM σ) x) (p + 1 - s_sp (atM σ) x) (σ 76) (by omega) (by omega) (fun j => by rw [if_neg (by omega)])
          rw [← e76] at h3
          exact h3
        · refine ev_blk 3 [] 58 ([some (.ref 57), some (.int (nI x)), some (.int (nI (s_sp (atM σ) x))), some (.int (nI r)), some (.int ((nI ρ) + (1 : Int32))), some (.int ((nI p) + (1 : Int32))), none], [], σ) rfl ?_ ?_
          · trivial
          rw [htk] at c81
          have hfr : F.1 r p = false := by simpa using zi_0.mp c81
          have hi2 := rInv_f hi hfr
          have h97 : ¬ s_sp (atM σ) x ≤ ρ + 1 := fun q => c97 (by rw [nI_1]; exact nI_le q (by omega))
          rw [nI_1, nI_1]
          exact ih (p + 1) (ρ + 1) (by omega) hi2 (by omega) (hns _ hi2 (by omega))
      · rw [hpi] at c81
        refine ev_br 5 [] ((nI (s_sp (atM σ) x)) ≤ (0 : Int32)) 103 100 ([some (.ref 57), some (.int (nI x)), some (.int (nI (s_sp (atM σ) x))), some (.int (nI r)), some (.int ((0 : Int32))), some (.int (nI p)), none], [], σ) rfl ?_ (fun c97 => ?_) (fun c97 => ?_)
        · trivial
        · exact absurd ((nI_leI (b := 0) (by omega) (by decide)).mp c97) (by omega)
        · refine ev_blk 3 [] 58 ([some (.ref 57), some (.int (nI x)), some (.int (nI (s_sp (atM σ) x))), some (.int (nI r)), some (.int ((0 : Int32))), some (.int ((nI p) + (1 : Int32))), none], [], σ) rfl ?_ ?_
          · trivial
          rw [htk] at c81
          have htr : F.1 r p = true := zi_1.mp c81
          have hi2 := rInv_t htr
          rw [nI_1]
          exact ih (p + 1) 0 (by omega) hi2 (by omega) (hns _ hi2 (by omega))
set_option maxRecDepth 100000 in
theorem m_goesIn_l1 (σ : xSg) (x : Nat) (F : sFl) (n : Nat) (hok : aOk (atM σ) n) (hx : x < n) (hF : MR σ F) (hl : F.2.length < 10) (hFn : ∀ q ∈ F.2, q.1 < n) (hb : s_bar (atM σ) x F.2 = false) : ∀ (m r : Nat), r + m = s_rows (atM σ) → s_plc (atM σ) F.1 (s_sp (atM σ) x) (s_rows (atM σ)) 0 = s_plc (atM σ) F.1 (s_sp (atM σ) x) m r → xEv (.inl 2) M_X6_goesIn (gQ (atM σ) σ x F) 42 ([some (.ref 57), some (.int (nI x)), some (.int (nI (s_sp (atM σ) x))), some (.int (nI r)), none, none, none], [], σ) := by
  have hn10 := hok.1
  obtain ⟨hs0, hs1, hs2⟩ := s_sp_ok hok hx
  obtain ⟨hg0, hg1, hg2⟩ := s_long_ok hok
  obtain ⟨hr0, hr1, hr2⟩ := s_rows_ok hok
  have h23 := hF.2.2.1
  have hxc : (nI x).toNatClampNeg = x := nI_clamp (by omega)
  have h23c : (σ 57 23).toNatClampNeg = F.2.length := by rw [h23, nI_clamp (by omega)]
  intro m
  induction m with
  | zero =>
    intro r hm hp
    refine ev_br 5 [vp_in ((1 : Int32)) 5] (((σ 68) 1) ≤ (nI r)) 196 52 ([some (.ref 57), some (.int (nI x)), some (.int (nI (s_sp (atM σ) x))), some (.int (nI r)), none, none, none], [], σ) rfl ?_ (fun c49 => ?_) (fun c49 => ?_)
    · exact vp_in_nI (n := 1) (by decide) (by decide)
    · refine ev_blk 1 [] 197 ([some (.ref 57), some (.int (nI x)), some (.int (nI (s_sp (atM σ) x))), some (.int (nI r)), none, none, none], [.int ((0 : Int32))], σ) rfl ?_ ?_
      · trivial
      exact ev_iret rfl rfl nar0 (Or.inr ⟨s_in_none hp, rfl, rfl⟩)
    · exact absurd (show aS (atM σ) 1 ≤ nI r by rw [hr0]; exact nI_le (by omega) (by omega)) c49
  | succ m ih =>
    intro r hm hp
    refine ev_br 5 [vp_in ((1 : Int32)) 5] (((σ 68) 1) ≤ (nI r)) 196 52 ([some (.ref 57), some (.int (nI x)), some (.int (nI (s_sp (atM σ) x))), some (.int (nI r)), none, none, none], [], σ) rfl ?_ (fun c49 => ?_) (fun c49 => ?_)
    · exact vp_in_nI (n := 1) (by decide) (by decide)
    · exact absurd (show nI (s_rows (atM σ)) ≤ nI r by rw [← hr0]; exact c49) (nI_ge (by omega) (by omega))
    · refine ev_blk 4 [] 58 ([some (.ref 57), some (.int (nI x)), some (.int (nI (s_sp (atM σ) x))), some (.int (nI r)), some (.int ((0 : Int32))), some (.int ((0 : Int32))), none], [], σ) rfl ?_ ?_
      · trivial
      refine m_goesIn_l2 σ x F n hok hx hF hl hFn hb r (by omega) (fun st hst => by rw [hp, s_plc, hst]) (fun hn => ih (r + 1) (by omega) (by rw [hp, s_plc, hn])) (s_long (atM σ)) 0 0 (by omega) ⟨Nat.le_refl _, fun q h1 h2 => by omega, fun h => by omega⟩ (by omega) (fun s hs => by omega)
set_option maxRecDepth 100000 in
theorem m_goesIn (σ : xSg) (x : Nat) (F : sFl) (n : Nat) (hok : aOk (atM σ) n) (hx : x < n) (hF : MR σ F) (hl : F.2.length < 10) (hFn : ∀ q ∈ F.2, q.1 < n) : xCtr M_X6_goesIn [.ref 57, .int (nI x)] σ (gQ (atM σ) σ x F) := by
  have hn10 := hok.1
  obtain ⟨hs0, hs1, hs2⟩ := s_sp_ok hok hx
  obtain ⟨hg0, hg1, hg2⟩ := s_long_ok hok
  obtain ⟨hr0, hr1, hr2⟩ := s_rows_ok hok
  have h23 := hF.2.2.1
  have hxc : (nI x).toNatClampNeg = x := nI_clamp (by omega)
  have h23c : (σ 57 23).toNatClampNeg = F.2.length := by rw [h23, nI_clamp (by omega)]
  have hvx : vp_in (nI x) 10 := vp_in_nI (by omega) (by decide)
  refine ctr_ev ok_X6_goesIn (by decide +kernel) rfl rfl rfl ?_
  show xEv (.inl 2) M_X6_goesIn _ 0 ([some (.ref 57), some (.int (nI x)), none, none, none, none, none], [], σ)
  cases hwq : F.2 with
  | nil =>
    have hz : σ 57 23 ≤ 0 := by rw [h23, hwq]; decide
    refine ev_br 2 [] ((σ 57 23) ≤ 0) 34 7 ([some (.ref 57), some (.int (nI x)), none, none, none, none, none], [], σ) rfl ?_ (fun c4 => ?_) (fun c4 => ?_)
    · trivial
    · refine ev_blk 2 [] 36 ([some (.ref 57), some (.int (nI x)), none, none, none, none, none], [.int (nI x), .ref 57], σ) rfl ?_ ?_
      · trivial
      refine ev_callV M_X6_spanOf [.int (nI x)] [] 57 rfl rfl ln_X6_140 k_X6_spanOf rfl rfl rfl rfl rfl rfl (m_span _ _ hvx) ?_
      refine pu_k ?_
      show xEv _ _ _ 39 ([some (.ref 57), some (.int (nI x)), none, none, none, none, none], [.int (s_span (σ 58) (σ 59) (nI x).toNatClampNeg)], σ)
      rw [(show s_span (σ 58) (σ 59) (nI x).toNatClampNeg = nI (s_sp (atM σ) x) by rw [hxc]; exact hs0)]
      refine ev_blk 3 [] 42 ([some (.ref 57), some (.int (nI x)), some (.int (nI (s_sp (atM σ) x))), some (.int ((0 : Int32))), none, none, none], [], σ) rfl ?_ ?_
      · trivial
      exact m_goesIn_l1 σ x F n hok hx hF hl hFn (by simp [s_bar, hwq]) _ 0 (by omega) rfl
    · exact absurd hz c4
  | cons q t =>
    have hz : ¬ σ 57 23 ≤ 0 := by rw [h23]; exact nI_nle (by rw [hwq]; simp) (by omega)
    have hq1 : q.1 < n := hFn q (by rw [hwq]; exact List.mem_cons_self)
    have hq0 : σ 77 0 = nI q.1 := (hF.2.2.2 0 q.1 q.2.1 q.2.2 (by rw [hwq]; rfl)).1
    have hw77 : vp_in (σ 77 0) 10 := by rw [hq0]; exact vp_in_nI (by omega) (by decide)
    have hq77 : (σ 77 0).toNatClampNeg = q.1 := by rw [hq0, nI_clamp (by omega)]
    refine ev_br 2 [] ((σ 57 23) ≤ 0) 34 7 ([some (.ref 57), some (.int (nI x)), none, none, none, none, none], [], σ) rfl ?_ (fun c4 => ?_) (fun c4 => ?_)
    · trivial
    · exact absurd c4 hz
    · refine ev_br 5 [vp_in (nI x) 10] (((σ 58) (nI x).toNatClampNeg) = (5 : Int32)) 32 17 ([some (.ref 57), some (.int (nI x)), none, none, none, none, none], [], σ) rfl ?_ (fun c14 => ?_) (fun c14 => ?_)
      · exact hvx
      · rw [hxc] at c14
        refine ev_blk 1 [] 33 ([some (.ref 57), some (.int (nI x)), none, none, none, none, none], [.int ((0 : Int32))], σ) rfl ?_ ?_
        · trivial
        exact ev_iret rfl rfl nar0 (Or.inr ⟨s_bar_f (by unfold s_bar; rw [show decide (aK (atM σ) x = 5) = true from decide_eq_true c14, hwq]; rfl), rfl, rfl⟩)
      · rw [hxc] at c14
        refine ev_br 8 [vp_in ((0 : Int32)) 10, vp_in ((σ 77) 0) 10] (¬ ((σ 58) ((σ 77) 0).toNatClampNeg) = (5 : Int32)) 34 32 ([some (.ref 57), some (.int (nI x)), none, none, none, none, none], [], σ) rfl ?_ (fun c29 => ?_) (fun c29 => ?_)
        · exact ⟨vp_in_nI (n := 0) (by decide) (by decide), hw77⟩
        · refine ev_blk 2 [] 36 ([some (.ref 57), some (.int (nI x)), none, none, none, none, none], [.int (nI x), .ref 57], σ) rfl ?_ ?_
          · trivial
          refine ev_callV M_X6_spanOf [.int (nI x)] [] 57 rfl rfl ln_X6_140 k_X6_spanOf rfl rfl rfl rfl rfl rfl (m_span _ _ hvx) ?_
          refine pu_k ?_
          show xEv _ _ _ 39 ([some (.ref 57), some (.int (nI x)), none, none, none, none, none], [.int (s_span (σ 58) (σ 59) (nI x).toNatClampNeg)], σ)
          rw [(show s_span (σ 58) (σ 59) (nI x).toNatClampNeg = nI (s_sp (atM σ) x) by rw [hxc]; exact hs0)]
          refine ev_blk 3 [] 42 ([some (.ref 57), some (.int (nI x)), some (.int (nI (s_sp (atM σ) x))), some (.int ((0 : Int32))), none, none, none], [], σ) rfl ?_ ?_
          · trivial
          refine m_goesIn_l1 σ x F n hok hx hF hl hFn ?_ _ 0 (by omega) rfl
          unfold s_bar
          have k1 : decide (aK (atM σ) x = 5) = false := decide_eq_false c14
          have k2 : s_tank (atM σ) F.2 = false := by rw [hwq]; exact decide_eq_false (by rw [hq77] at c29; exact c29)
          rw [k1, k2]
          simp
        · refine ev_blk 1 [] 33 ([some (.ref 57), some (.int (nI x)), none, none, none, none, none], [.int ((0 : Int32))], σ) rfl ?_ ?_
          · trivial
          exact ev_iret rfl rfl nar0 (Or.inr ⟨s_bar_f (by unfold s_bar; rw [hwq, show s_tank (atM σ) (q :: t) = true from decide_eq_true (by rw [hq77] at c29; exact Classical.byContradiction c29)]; simp), rfl, rfl⟩)
