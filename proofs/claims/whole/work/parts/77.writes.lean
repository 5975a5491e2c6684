/-! the writing calls, in one value: set, bar, cap, the sheets, the image -/
def zC (τ : xSg) (X : Int32 × zS) (r : Option Value) (σ' : xSg) : Prop := r = some (.int X.1) ∧ CH0 σ' X.2 ∧ ∀ c, 57 ≤ c → σ' c = τ c
def zM (τ : xSg) (X : Int32 × zS) (r : Option Value) (σ' : xSg) : Prop := r = some (.int X.1) ∧ RH0 σ' X.2 ∧ ∀ c, c < 57 → σ' c = τ c
def pS (P : sKp) (f : Nat → Int32) : sKp := (P.1, (aK (kA P), aLn (kA P), aFi (kA P), aLo (kA P), aCo (kA P), aLa (kA P), f), P.2.2)
def pT (P : sKp) (f : sTk) : sKp := (P.1, P.2.1, f, P.2.2.2)
def pC (P : sKp) (f : Nat → Int32) : sKp := (P.1, P.2.1, P.2.2.1, f, P.2.2.2.2)
section WR
variable {τ σ' : xSg} {S : zS} {r : Option Value}
theorem CH0_P {P' : sKp} (h : CH0 τ S) (hf : ∀ c, (c = 0 ∨ (13 ≤ c ∧ c ≤ 25) ∨ (49 ≤ c ∧ c ≤ 56)) → σ' c = τ c) (hk : CK1 σ' P') : CH0 σ' (P', S.2) := by
  obtain ⟨h1, h2, h3, h4, h5, h6⟩ := h
  refine ⟨hk, by rw [hf 0 (by omega)]; exact h2, fun P hP => ?_, by rw [hf 0 (by omega)]; exact h4, fun k e he => by rw [hf 25 (by omega)]; exact h5 k e he, fun i hi => by rw [hf (49 + 2 * i) (by omega), hf (50 + 2 * i) (by omega)]; exact h6 i hi⟩
  have := h3 P hP
  unfold CK13 at this ⊢
  rw [hf 13 (by omega), hf 14 (by omega), hf 15 (by omega), hf 16 (by omega), hf 17 (by omega), hf 18 (by omega), hf 19 (by omega), hf 20 (by omega), hf 21 (by omega), hf 22 (by omega), hf 23 (by omega), hf 24 (by omega)]
  exact this
theorem RH0_P {P' : sKp} (h : RH0 τ S) (hf : ∀ c, (c = 72 ∨ c = 73 ∨ 86 ≤ c) → σ' c = τ c) (h57 : ∀ i, (i = 16 ∨ i = 18) → σ' 57 i = τ 57 i) (hn : P'.1 = S.1.1) (hla : aLa (kA P') = aLa (kA S.1)) (hk : RKc σ' P') : RH0 σ' (P', S.2) := by
  obtain ⟨h1, h2, h3, h4, h5, h6⟩ := h
  refine ⟨hk, by rw [h57 18 (by omega)]; exact h2, fun P hP => ?_, by rw [h57 16 (by omega)]; exact h4, fun k e he => ?_, fun i hi => by rw [hf 86 (by omega), hf 87 (by omega), hf 88 (by omega)]; exact h6 i hi⟩
  · have := h3 P hP
    unfold RIm at this ⊢
    rw [hf 73 (by omega)]
    exact this
  · dsimp only
    rw [hn, hla, hf 72 (by omega)]
    exact h5 k e he
theorem rg_of {v : Int32} {lo hi : Nat} (hhi : hi < 2 ^ 31) (h1 : ¬ v < nI lo) (h2 : ¬ nI hi < v) (hlo : lo ≤ hi) : rg v lo hi := by
  have h0 : ¬ v < 0 := fun z => by
    have h3 : nI lo ≤ v := Int32.not_lt.mp h1
    have h4 : (0 : Int32) ≤ nI lo := nI_le (a := 0) (by omega) (by omega)
    exact absurd z (Int32.not_lt.mpr (Int32.le_trans h4 h3))
  obtain ⟨j, hj, rfl⟩ := nI_of h0
  exact ⟨j, rfl, Nat.le_of_not_lt (fun z => h1 (nI_lt z (by omega))), Nat.le_of_not_lt (fun z => h2 (nI_lt z hj))⟩
/- set -/
def zSet (S : zS) (wh v : Int32) : Int32 × zS := if iN 5 wh ∧ ¬ v < setLo wh.toNatClampNeg ∧ ¬ setHi wh.toNatClampNeg < v then (aS (kA S.1) wh.toNatClampNeg, (pS S.1 (upd (aS (kA S.1)) wh.toNatClampNeg v), S.2)) else (-2, S)
theorem zSet_y {W : Nat} {v : Int32} (hW : W < 5) (h1 : ¬ v < setLo W) (h2 : ¬ setHi W < v) : zSet S (nI W) v = (aS (kA S.1) W, (pS S.1 (upd (aS (kA S.1)) W v), S.2)) := by
  have e : (nI W).toNatClampNeg = W := nI_clamp (by omega)
  unfold zSet
  rw [e, if_pos ⟨iN_nI hW (by decide), h1, h2⟩]
theorem zSet_n {wh v : Int32} (h : ∀ W, W < 5 → wh = nI W → v < setLo W ∨ setHi W < v) : zSet S wh v = (-2, S) := by
  unfold zSet
  rw [if_neg]
  rintro ⟨h1, h2, h3⟩
  obtain ⟨W, hW, h31, rfl⟩ := iN_of h1
  rw [nI_clamp h31] at h2 h3
  rcases h W hW rfl with q | q
  · exact h2 q
  · exact h3 q
theorem kc_set (hτ : nrm τ = τ) (ok : sOk S) (h : CH0 τ S) {wh v : Int32} (q : setQ 9 τ wh v r σ') : zC τ (zSet S wh v) r σ' := by
  rcases q with ⟨W, hW, rfl, h1, h2, h3, h4⟩ | ⟨h1, h2, h3⟩
  · rw [zSet_y hW h1 h2]
    refine ⟨by rw [h3, c_9 hτ ok h], CH0_P h (fun c hc => by rw [h4, x_up_ne (by omega)]) ?_, fun c hc => by rw [h4, x_up_ne (by omega)]⟩
    obtain ⟨a1, a2, a3, a4, a5, a6, a7, a8, a9⟩ := h.1
    subst h4
    refine ⟨a1, a2, a3, a4, ⟨a5.1, fun i hi => ?_⟩, a6, a7, a8, a9⟩
    show upd (τ 9) W v i = upd (aS (kA S.1)) W v i
    rw [c_9 hτ ok h]
  · rw [zSet_n h1]
    subst h3
    exact ⟨h2, h, fun _ _ => rfl⟩
theorem km_set (hτ : nrm τ = τ) (ok : sOk S) (h : RH0 τ S) {wh v : Int32} (q : setQ 68 τ wh v r σ') : zM τ (zSet S wh v) r σ' := by
  rcases q with ⟨W, hW, rfl, h1, h2, h3, h4⟩ | ⟨h1, h2, h3⟩
  · rw [zSet_y hW h1 h2]
    refine ⟨by rw [h3, m_68 hτ ok h], RH0_P h (fun c hc => by rw [h4, x_up_ne (by omega)]) (fun i hi => by rw [h4, x_up_ne (by omega)]) rfl rfl ?_, fun c hc => by rw [h4, x_up_ne (by omega)]⟩
    obtain ⟨a1, a2, a3, a4, a5, a6⟩ := h.1
    subst h4
    refine ⟨a1, ⟨a2.1, fun i hi => ?_⟩, a3, a4, a5, a6⟩
    show upd (τ 68) W v i = upd (aS (kA S.1)) W v i
    rw [m_68 hτ ok h]
  · rw [zSet_n h1]
    subst h3
    exact ⟨h2, h, fun _ _ => rfl⟩
theorem kOk_P {P P' : sKp} (h : kOk P) (h1 : aOk (kA P') P'.1) (h2 : nfA (kA P')) (hn : P'.1 = P.1) (ho : kO P' = kO P) (hl : kL P' = kL P) (h3 : ∀ i, 100 ≤ i → kC P' i = 0) (h4 : ∀ r q, ¬ (r < 3 ∧ q < 20) → kT P' r q = false) : kOk P' := by
  refine ⟨h1, h2, by rw [hn, ho]; exact h.2.2.1, fun k hk => ?_, h3, h4⟩
  rw [hl]
  exact h.2.2.2.1 k (by rw [show cL P' = cL P from congrArg (fun c => c.2.2.2) ho] at hk; exact hk)
theorem sOk_P {P' : sKp} (ok : sOk S) (h : kOk P') (hn : P'.1 = S.1.1) (ho : kO P' = kO S.1) : sOk (P', S.2) := ⟨h, ok.2.1, by rw [hn, ho]; exact ok.2.2.1, ok.2.2.2⟩
theorem so_set (ok : sOk S) (wh v : Int32) : sOk (zSet S wh v).2 := by
  by_cases h : ∀ W, W < 5 → wh = nI W → v < setLo W ∨ setHi W < v
  · rw [zSet_n h]; exact ok
  · simp only [Classical.not_forall, not_or] at h
    obtain ⟨W, hW, rfl, h1, h2⟩ := h
    rw [zSet_y hW h1 h2]
    obtain ⟨b1, b2, b3, b4, b5, b6, b7⟩ := ok.1.1
    refine sOk_P ok (kOk_P ok.1 ?_ ⟨ok.1.2.1.1, fun i hi => ?_⟩ rfl rfl rfl ok.1.2.2.2.2.1 ok.1.2.2.2.2.2) rfl rfl
    · rcases (show W = 0 ∨ W = 1 ∨ W = 2 ∨ W = 3 ∨ W = 4 by omega) with rfl | rfl | rfl | rfl | rfl
      · exact ⟨b1, b2, rg_of (lo := 1) (hi := 20) (by decide) h1 h2 (by decide), b4, b5, b6, b7⟩
      · exact ⟨b1, b2, b3, rg_of (lo := 1) (hi := 3) (by decide) h1 h2 (by decide), b5, b6, b7⟩
      · exact ⟨b1, b2, b3, b4, rg_of (lo := 1) (hi := 99) (by decide) h1 h2 (by decide), b6, b7⟩
      · exact ⟨b1, b2, b3, b4, b5, rg_of (lo := 1) (hi := 60) (by decide) h1 h2 (by decide), b7⟩
      · exact ⟨b1, b2, b3, b4, b5, b6, rg_of (lo := 0) (hi := 4) (by decide) h1 h2 (by decide)⟩
    · show upd (aS (kA S.1)) W v i = 0
      rw [upd_ne (by omega)]
      exact ok.1.2.1.2 i hi
/- cap -/
def zCap (S : zS) (d v : Int32) : Int32 × zS := if iN 100 d ∧ ¬ v < -1 ∧ ¬ 99999 < v then (kC S.1 d.toNatClampNeg, (pC S.1 (upd (kC S.1) d.toNatClampNeg v), S.2)) else (-2, S)
theorem zCap_y {W : Nat} {v : Int32} (hW : W < 100) (h1 : ¬ v < -1) (h2 : ¬ 99999 < v) : zCap S (nI W) v = (kC S.1 W, (pC S.1 (upd (kC S.1) W v), S.2)) := by
  have e : (nI W).toNatClampNeg = W := nI_clamp (by omega)
  unfold zCap
  rw [e, if_pos ⟨iN_nI hW (by decide), h1, h2⟩]
theorem zCap_n {d v : Int32} (h : ∀ W, W < 100 → d = nI W → v < -1 ∨ 99999 < v) : zCap S d v = (-2, S) := by
  unfold zCap
  rw [if_neg]
  rintro ⟨h1, h2, h3⟩
  obtain ⟨W, hW, h31, rfl⟩ := iN_of h1
  rcases h W hW rfl with q | q
  · exact h2 q
  · exact h3 q
theorem kc_cap (hτ : nrm τ = τ) (ok : sOk S) (h : CH0 τ S) {d v : Int32} (q : capQ 11 0 τ d v r σ') : zC τ (zCap S d v) r σ' := by
  rcases q with ⟨W, hW, rfl, h1, h2, h3, h4⟩ | ⟨h1, h2, h3⟩
  · rw [zCap_y hW h1 h2]
    refine ⟨by rw [h3, ch_cap hτ ok h, Int32.sub_zero], CH0_P h (fun c hc => by rw [h4, x_up_ne (by omega)]) ?_, fun c hc => by rw [h4, x_up_ne (by omega)]⟩
    obtain ⟨a1, a2, a3, a4, a5, a6, a7, a8, a9⟩ := h.1
    subst h4
    refine ⟨a1, a2, a3, a4, a5, a6, a7, fun i hi => ?_, a9⟩
    show upd (τ 11) W (v + 0) i = upd (kC S.1) W v i
    rw [ch_cap hτ ok h, Int32.add_zero]
  · rw [zCap_n h1]
    subst h3
    exact ⟨h2, h, fun _ _ => rfl⟩
theorem km_capw (h : RH0 τ S) {d v : Int32} (q : capQ 70 1 τ d v r σ') : zM τ (zCap S d v) r σ' := by
  rcases q with ⟨W, hW, rfl, h1, h2, h3, h4⟩ | ⟨h1, h2, h3⟩
  · rw [zCap_y hW h1 h2]
    refine ⟨by rw [h3, km_cap h W hW, Int32.add_sub_cancel], RH0_P h (fun c hc => by rw [h4, x_up_ne (by omega)]) (fun i hi => by rw [h4, x_up_ne (by omega)]) rfl rfl ?_, fun c hc => by rw [h4, x_up_ne (by omega)]⟩
    obtain ⟨a1, a2, a3, a4, a5, a6⟩ := h.1
    subst h4
    refine ⟨a1, a2, a3, fun i hi => ?_, a5, a6⟩
    show upd (τ 70) W (v + 1) i = upd (kC S.1) W v i + 1
    unfold upd
    split
    · rfl
    · exact a4 i hi
  · rw [zCap_n h1]
    subst h3
    exact ⟨h2, h, fun _ _ => rfl⟩
theorem so_cap (ok : sOk S) (d v : Int32) : sOk (zCap S d v).2 := by
  unfold zCap
  split
  next q =>
    obtain ⟨W, hW, h31, rfl⟩ := iN_of q.1
    rw [nI_clamp h31]
    refine sOk_P ok (kOk_P ok.1 ok.1.1 ok.1.2.1 rfl rfl rfl (fun i hi => ?_) ok.1.2.2.2.2.2) rfl rfl
    show upd (kC S.1) W v i = 0
    rw [upd_ne (by omega)]
    exact ok.1.2.2.2.2.1 i hi
  next => exact ok
/- bar -/
def zBar (S : zS) (rw_ pl is : Int32) : Int32 × zS := if iN 3 rw_ ∧ iN 20 pl then (zi (kT S.1 rw_.toNatClampNeg pl.toNatClampNeg = true), (pT S.1 (fun r q => if r = rw_.toNatClampNeg ∧ q = pl.toNatClampNeg then decide (¬ is = 0) else kT S.1 r q), S.2)) else (-2, S)
theorem zBar_y {R q : Nat} {is : Int32} (hR : R < 3) (hq : q < 20) : zBar S (nI R) (nI q) is = (zi (kT S.1 R q = true), (pT S.1 (fun r p => if r = R ∧ p = q then decide (¬ is = 0) else kT S.1 r p), S.2)) := by
  have e1 : (nI R).toNatClampNeg = R := nI_clamp (by omega)
  have e2 : (nI q).toNatClampNeg = q := nI_clamp (by omega)
  unfold zBar
  rw [e1, e2, if_pos ⟨iN_nI hR (by decide), iN_nI hq (by decide)⟩]
theorem zBar_n {rw_ pl is : Int32} (h : ∀ R q, R < 3 → q < 20 → rw_ = nI R → pl = nI q → False) : zBar S rw_ pl is = (-2, S) := by
  unfold zBar
  rw [if_neg]
  rintro ⟨h1, h2⟩
  obtain ⟨R, hR, _, rfl⟩ := iN_of h1
  obtain ⟨q, hq, _, rfl⟩ := iN_of h2
  exact h R q hR hq rfl rfl
theorem kc_bar (h : CH0 τ S) {rw_ pl is : Int32} (q : barC τ rw_ pl is r σ') : zC τ (zBar S rw_ pl is) r σ' := by
  rcases q with ⟨R, q, hR, hq, rfl, rfl, h3, h4⟩ | ⟨h1, h2, h3⟩
  · rw [zBar_y hR hq]
    obtain ⟨a1, a2, a3, a4, a5, a6, a7, a8, a9⟩ := h.1
    refine ⟨by rw [h3, a7 R q hR hq], CH0_P h (fun c hc => by rw [h4, x_up_ne (by omega)]) ?_, fun c hc => by rw [h4, x_up_ne (by omega)]⟩
    subst h4
    refine ⟨a1, a2, a3, a4, a5, a6, fun r p hr hp => ?_, a8, a9⟩
    show bt (upd (τ 10) R (barV (τ 10 R) q is) r) p = if r = R ∧ p = q then decide (¬ is = 0) else kT S.1 r p
    by_cases e : r = R
    · subst e
      rw [upd_eq]
      unfold barV
      by_cases hz : is = 0
      · rw [if_pos hz, b_clr (by omega) (by omega), a7 r p hR hp]
        by_cases e2 : p = q
        · rw [if_pos ⟨rfl, e2⟩]; simp [e2, hz]
        · rw [if_neg (fun z => e2 z.2)]; simp [e2]
      · rw [if_neg hz, b_setb (by omega) (by omega), a7 r p hR hp]
        by_cases e2 : p = q
        · rw [if_pos ⟨rfl, e2⟩]; simp [e2, hz]
        · rw [if_neg (fun z => e2 z.2)]; simp [e2]
    · rw [upd_ne e, if_neg (fun z => e z.1)]
      exact a7 r p hr hp
  · rw [zBar_n h1]
    subst h3
    exact ⟨h2, h, fun _ _ => rfl⟩
theorem km_bar (h : RH0 τ S) {rw_ pl is : Int32} (his : is = 0 ∨ is = 1) (q : barM τ rw_ pl is r σ') : zM τ (zBar S rw_ pl is) r σ' := by
  rcases q with ⟨R, q, hR, hq, rfl, rfl, h3, h4⟩ | ⟨h1, h2, h3⟩
  · rw [zBar_y hR hq]
    obtain ⟨a1, a2, a3, a4, a5, a6⟩ := h.1
    refine ⟨?_, RH0_P h (fun c hc => by rw [h4, x_up_ne (by omega)]) (fun i hi => by rw [h4, x_up_ne (by omega)]) rfl rfl ?_, fun c hc => by rw [h4, x_up_ne (by omega)]⟩
    · rw [h3, a3 R q hR hq]
      cases hb : kT S.1 R q with
      | false => rw [zi_f (P := (false = true)) (by simp)]; rw [zi_f (by simp)]
      | true => rw [zi_t (P := (true = true)) rfl]; rw [zi_t (by decide)]
    · subst h4
      refine ⟨a1, a2, fun r p hr hp => ?_, a4, a5, a6⟩
      show upd (τ 69) (20 * R + q) is (20 * r + p) = zi ((if r = R ∧ p = q then decide (¬ is = 0) else kT S.1 r p) = true)
      by_cases e : r = R ∧ p = q
      · rw [if_pos e, e.1, e.2, upd_eq]
        rcases his with rfl | rfl
        · rw [zi_f (by simp)]
        · rw [zi_t (by simp)]
      · rw [if_neg e, upd_ne (by omega)]
        exact a3 r p hr hp
  · rw [zBar_n h1]
    subst h3
    exact ⟨h2, h, fun _ _ => rfl⟩
theorem so_bar (ok : sOk S) (rw_ pl is : Int32) : sOk (zBar S rw_ pl is).2 := by
  unfold zBar
  split
  next q =>
    obtain ⟨R, hR, h31, rfl⟩ := iN_of q.1
    obtain ⟨p, hp, p31, rfl⟩ := iN_of q.2
    rw [nI_clamp h31, nI_clamp p31]
    refine sOk_P ok (kOk_P ok.1 ok.1.1 ok.1.2.1 rfl rfl rfl ok.1.2.2.2.2.1 (fun r q hrq => ?_)) rfl rfl
    show (if r = R ∧ q = p then decide (¬ is = 0) else kT S.1 r q) = false
    rw [if_neg (by omega)]
    exact ok.1.2.2.2.2.2 r q hrq
  next => exact ok
/- the sheets -/
abbrev zD (S : zS) (X : Int32 × (Nat → shD)) : Int32 × zS := (X.1, (S.1, S.2.1, S.2.2.1, X.2))
theorem CH0_D {D : Nat → shD} (h : CH0 τ S) (hf : ∀ c, c ≤ 25 → σ' c = τ c) (hD : shC σ' D) : CH0 σ' (S.1, S.2.1, S.2.2.1, D) := by
  obtain ⟨h1, h2, h3, h4, h5, h6⟩ := h
  refine ⟨?_, by rw [hf 0 (by omega)]; exact h2, fun P hP => ?_, by rw [hf 0 (by omega)]; exact h4, fun k e he => by rw [hf 25 (by omega)]; exact h5 k e he, hD⟩
  · unfold CK1
    rw [hf 1 (by omega), hf 2 (by omega), hf 3 (by omega), hf 4 (by omega), hf 5 (by omega), hf 6 (by omega), hf 7 (by omega), hf 8 (by omega), hf 9 (by omega), hf 10 (by omega), hf 11 (by omega), hf 12 (by omega)]
    exact h1
  · have := h3 P hP
    unfold CK13 at this ⊢
    rw [hf 13 (by omega), hf 14 (by omega), hf 15 (by omega), hf 16 (by omega), hf 17 (by omega), hf 18 (by omega), hf 19 (by omega), hf 20 (by omega), hf 21 (by omega), hf 22 (by omega), hf 23 (by omega), hf 24 (by omega)]
    exact this
theorem kc_sh (h : CH0 τ S) {X : Int32 × (Nat → shD)} (q : shPQ scS τ X r σ') : zC τ (zD S X) r σ' := by
  obtain ⟨q1, q2, q3⟩ := q
  have k : ∀ c, (c < 49 ∨ 56 < c) → σ' c = τ c := fun c hc => q3 c (by unfold scS; simp only [List.mem_cons, List.not_mem_nil, or_false]; omega)
  exact ⟨q1, CH0_D h (fun c hc => k c (by omega)) q2, fun c hc => k c (by omega)⟩
theorem kc_shf (h : CH0 τ S) {X : Int32 × (Nat → shD)} (q : shPQ (scC ++ scS) τ X r σ') : zC τ (zD S X) r σ' := by
  obtain ⟨q1, q2, q3⟩ := q
  have k : ∀ c, (c ≤ 25 ∨ 56 < c) → σ' c = τ c := fun c hc => q3 c (by unfold scS scC; simp only [List.mem_append, List.mem_cons, List.not_mem_nil, or_false]; omega)
  exact ⟨q1, CH0_D h (fun c hc => k c (by omega)) q2, fun c hc => k c (by omega)⟩
theorem RH0_D {D : Nat → shD} (h : RH0 τ S) (hf : ∀ c, (58 ≤ c ∧ c ≤ 73) → σ' c = τ c) (h57 : ∀ i, (i = 0 ∨ i = 14 ∨ i = 16 ∨ i = 18) → σ' 57 i = τ 57 i) (hD : shM σ' D) : RH0 σ' (S.1, S.2.1, S.2.2.1, D) := by
  obtain ⟨h1, h2, h3, h4, h5, h6⟩ := h
  refine ⟨?_, by rw [h57 18 (by omega)]; exact h2, fun P hP => ?_, by rw [h57 16 (by omega)]; exact h4, fun k e he => by rw [hf 72 (by omega)]; exact h5 k e he, hD⟩
  · unfold RKc
    rw [h57 0 (by omega), h57 14 (by omega), hf 58 (by omega), hf 59 (by omega), hf 60 (by omega), hf 61 (by omega), hf 62 (by omega), hf 63 (by omega), hf 64 (by omega), hf 65 (by omega), hf 66 (by omega), hf 67 (by omega), hf 68 (by omega), hf 69 (by omega), hf 70 (by omega), hf 71 (by omega)]
    exact h1
  · have := h3 P hP
    unfold RIm at this ⊢
    rw [hf 73 (by omega)]
    exact this
theorem km_sh (h : RH0 τ S) {X : Int32 × (Nat → shD)} (q : shPM [86, 87, 88] [] τ X r σ') : zM τ (zD S X) r σ' := by
  obtain ⟨q1, q2, q3⟩ := q
  have k : ∀ c, (c < 57 ∨ (58 ≤ c ∧ c ≤ 73)) → σ' c = τ c := fun c hc => q3.1 c (by simp only [List.mem_cons, List.not_mem_nil, or_false]; omega) (by omega)
  exact ⟨q1, RH0_D h (fun c hc => k c (by omega)) (fun i _ => q3.2 i (by simp)) q2, fun c hc => k c (by omega)⟩
theorem km_shf (h : RH0 τ S) {X : Int32 × (Nat → shD)} (q : shPM (scM ++ [86, 87, 88]) scP τ X r σ') : zM τ (zD S X) r σ' := by
  obtain ⟨q1, q2, q3⟩ := q
  have k : ∀ c, (c < 57 ∨ (58 ≤ c ∧ c ≤ 73)) → σ' c = τ c := fun c hc => q3.1 c (by unfold scM; simp only [List.mem_append, List.mem_cons, List.not_mem_nil, or_false]; omega) (by omega)
  exact ⟨q1, RH0_D h (fun c hc => k c (by omega)) (fun i hi => q3.2 i (by unfold scP; simp only [List.mem_cons, List.not_mem_nil, or_false]; omega)) q2, fun c hc => k c (by omega)⟩
theorem so_D (ok : sOk S) (X : Int32 × (Nat → shD)) : sOk (zD S X).2 := ok
abbrev zFlm (S : zS) (s n8 : Int32) : Int32 × (Nat → shD) := s_flm (kA S.1) (kT S.1) (lA S.1) (lB S.1) S.2.2.2 s n8
theorem kc_film (hτ : nrm τ = τ) (ok : sOk S) (h : CH0 τ S) {s n8 : Int32} (q : shPQ (scC ++ scS) τ (s_flm (atC τ) (tkC τ) (laneL S.1.1 (τ 1 1) (τ 7) 0) (laneL S.1.1 (τ 1 1) (τ 7) 1) S.2.2.2 s n8) r σ') : zC τ (zD S (zFlm S s n8)) r σ' := by
  rw [ch_at hτ ok h, ch_tk ok h, c_lA hτ ok h, c_lB hτ ok h] at q
  exact kc_shf h q
theorem km_film (hτ : nrm τ = τ) (ok : sOk S) (h : RH0 τ S) {s n8 : Int32} (q : shPM (scM ++ [86, 87, 88]) scP τ (s_flm (atM τ) (tkM τ) (lA S.1) (lB S.1) S.2.2.2 s n8) r σ') : zM τ (zD S (zFlm S s n8)) r σ' := by
  rw [rh_at hτ ok h, rh_tk ok h] at q
  exact km_shf h q
end WR
