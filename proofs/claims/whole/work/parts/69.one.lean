/-! what the two halves hold, in one value -/
abbrev sCo : Type := Int32 × Int32 × (Nat → Int32) × Nat
abbrev sKp : Type := Nat × sAt × sTk × (Nat → Int32) × (Nat → Nat) × sCo
abbrev zS : Type := sKp × Option sKp × List (Int32 × sCo) × (Nat → shD)
abbrev kA (P : sKp) : sAt := P.2.1
abbrev kT (P : sKp) : sTk := P.2.2.1
abbrev kC (P : sKp) : Nat → Int32 := P.2.2.2.1
abbrev kL (P : sKp) : Nat → Nat := P.2.2.2.2.1
abbrev kO (P : sKp) : sCo := P.2.2.2.2.2
abbrev cW (P : sKp) : Int32 := P.2.2.2.2.2.1
abbrev cG (P : sKp) : Int32 := P.2.2.2.2.2.2.1
abbrev cB (P : sKp) : Nat → Int32 := P.2.2.2.2.2.2.2.1
abbrev cL (P : sKp) : Nat := P.2.2.2.2.2.2.2.2
abbrev lA (P : sKp) : List Nat := laneL P.1 (cW P) (aLa (kA P)) 0
abbrev lB (P : sKp) : List Nat := laneL P.1 (cW P) (aLa (kA P)) 1
abbrev zDs (S : zS) : List (Int32 × sCo) := S.2.2.1
def z_len (c : Nat) : Option Nat := match x_sh c with
  | (1, n, _) => some n
  | (2, n, _) => some n
  | _ => none
def nrm (σ : xSg) : xSg := fun c i => match z_len c with
  | some n => if i < n then σ c i else 0
  | none => σ c i
theorem nrm_in {σ : xSg} {c n i : Nat} (h : z_len c = some n) (hi : i < n) : nrm σ c i = σ c i := by
  unfold nrm
  rw [h]
  exact if_pos hi
theorem nrm_o {σ : xSg} {c i : Nat} (h : z_len c = none) : nrm σ c i = σ c i := by
  unfold nrm
  rw [h]
theorem nrm_out {σ : xSg} {c n i : Nat} (h : z_len c = some n) (hi : n ≤ i) : nrm σ c i = 0 := by
  unfold nrm
  rw [h]
  exact if_neg (by omega)
theorem nrm_nrm (σ : xSg) : nrm (nrm σ) = nrm σ := by
  funext c i
  unfold nrm
  cases h : z_len c with
  | none => rfl
  | some n =>
    dsimp only
    by_cases hi : i < n
    · rw [if_pos hi]
    · rw [if_neg hi, if_neg hi]
theorem nrm_nat (σ : xSg) (c : Nat) : nrm σ c = σ c ∨ ∃ n rs t, x_sh c = (t, n, rs) ∧ (t = 1 ∨ t = 2) ∧ ∀ i, i < n → nrm σ c i = σ c i := by
  cases h : z_len c with
  | none => exact Or.inl (funext fun i => nrm_o h)
  | some n =>
    refine Or.inr ?_
    have h2 := h
    unfold z_len at h
    split at h
    next n' rs e => cases h; exact ⟨n, rs, 1, e, Or.inl rfl, fun i hi => nrm_in h2 hi⟩
    next n' rs e => cases h; exact ⟨n, rs, 2, e, Or.inr rfl, fun i hi => nrm_in h2 hi⟩
    next => cases h
theorem arrV_c (cA : ClassId) (n : Nat) {f g : Nat → Int32} (h : ∀ i, i < n → f i = g i) : arrV cA n (fun j => .int (f j)) = arrV cA n (fun j => .int (g j)) := by
  unfold arrV
  congr 1
  congr 1
  funext j
  show Value.int (f j.val) = Value.int (g j.val)
  rw [h j.val j.isLt]
theorem nrm_P {D : va_G} {ca : Nat → ClassId} {ad : Nat → Nat} {σ : xSg} {H : Heap} (h : va_P D vwCl (x_wl ca ad σ) H) : va_P D vwCl (x_wl ca ad (nrm σ)) H := by
  intro k q hq
  have hk : k < x_K := by
    have := (List.getElem?_eq_some_iff.mp hq).1
    rwa [x_wl_len] at this
  rw [x_wl_at hk] at hq
  cases hq
  have h1 := h k _ (x_wl_at hk)
  rcases nrm_nat σ k with e | ⟨n, rs, t, e, ht, hi⟩
  · unfold x_ent at h1 ⊢
    rw [e]
    exact h1
  · unfold x_ent at h1 ⊢
    rw [e] at h1 ⊢
    rcases ht with rfl | rfl
    · have h2 : H[ad k]? = some (arrV (ca k) n (fun j => .int (σ k j))) := h1
      show H[ad k]? = some (arrV (ca k) n (fun j => .int (nrm σ k j)))
      rw [arrV_c (ca k) n hi]
      exact h2
    · have h2 : H[ad k]? = some (arrV (ca k) n (fun j => .int (σ k j))) := h1
      show H[ad k]? = some (arrV (ca k) n (fun j => .int (nrm σ k j)))
      rw [arrV_c (ca k) n hi]
      exact h2
theorem ev_nrm {o : xO} {M : xM} {Q : Option Value → xSg → Prop} {pc : Nat} {L : List (Option Value)} {st : List Value} {σ : xSg} (k : xEv o M Q pc (L, st, nrm σ)) : xEv o M Q pc (L, st, σ) :=
  fun ok p l e s m args below meth c ad ca D X H locs ls hP hS hL => k ok p l e s m args below meth c ad ca D X H locs ls (nrm_P hP) hS hL
/-- attributes, as rows hold them -/
def attR (a : sAt) (f1 f2 f3 f4 f5 f6 f7 : Nat → Int32) : Prop := (∀ i, i < 10 → f1 i = aK a i ∧ f2 i = aLn a i ∧ f3 i = aFi a i ∧ f4 i = aLo a i ∧ f5 i = aCo a i ∧ f6 i = aLa a i) ∧ ∀ i, i < 5 → f7 i = aS a i
def nfA (a : sAt) : Prop := (∀ i, 10 ≤ i → aK a i = 0 ∧ aLn a i = 0 ∧ aFi a i = 0 ∧ aLo a i = 0 ∧ aCo a i = 0 ∧ aLa a i = 0) ∧ ∀ i, 5 ≤ i → aS a i = 0
theorem attR_eq {a : sAt} {f1 f2 f3 f4 f5 f6 f7 : Nat → Int32} (h : attR a f1 f2 f3 f4 f5 f6 f7) (hn : nfA a) (h0 : ∀ i, 10 ≤ i → f1 i = 0 ∧ f2 i = 0 ∧ f3 i = 0 ∧ f4 i = 0 ∧ f5 i = 0 ∧ f6 i = 0) (h1 : ∀ i, 5 ≤ i → f7 i = 0) : (f1, f2, f3, f4, f5, f6, f7) = a := by
  obtain ⟨b1, b2, b3, b4, b5, b6, b7⟩ := a
  have key : ∀ i, f1 i = b1 i ∧ f2 i = b2 i ∧ f3 i = b3 i ∧ f4 i = b4 i ∧ f5 i = b5 i ∧ f6 i = b6 i := fun i => by
    rcases Nat.lt_or_ge i 10 with q | q
    · exact h.1 i q
    · obtain ⟨c1, c2, c3, c4, c5, c6⟩ := h0 i q
      obtain ⟨d1, d2, d3, d4, d5, d6⟩ := hn.1 i q
      exact ⟨c1.trans d1.symm, c2.trans d2.symm, c3.trans d3.symm, c4.trans d4.symm, c5.trans d5.symm, c6.trans d6.symm⟩
  have k7 : ∀ i, f7 i = b7 i := fun i => by
    rcases Nat.lt_or_ge i 5 with q | q
    · exact h.2 i q
    · exact (h1 i q).trans (hn.2 i q).symm
  rw [show f1 = b1 from funext fun i => (key i).1, show f2 = b2 from funext fun i => (key i).2.1, show f3 = b3 from funext fun i => (key i).2.2.1, show f4 = b4 from funext fun i => (key i).2.2.2.1, show f5 = b5 from funext fun i => (key i).2.2.2.2.1, show f6 = b6 from funext fun i => (key i).2.2.2.2.2, show f7 = b7 from funext k7]
def sh_ (f : Nat → Int32) (o : Nat) : Nat → Int32 := fun j => f (o + j)
def coM (n : Nat) (La : Nat → Int32) (c : sCo) (st by_ la mn : Nat → Int32) (lv : Int32) : Prop := (∀ j, j < n → st j = s_st c.1 c.2.1 j) ∧ (∀ j, j < 10 → by_ j = c.2.2.1 j) ∧ rowL la 0 (laneL n c.1 La 0) ∧ rowL la 10 (laneL n c.1 La 1) ∧ mn 0 = nI (laneL n c.1 La 0).length ∧ mn 1 = nI (laneL n c.1 La 1).length ∧ lv = nI c.2.2.2
def CK1 (σ : xSg) (P : sKp) : Prop := σ 1 0 = nI P.1 ∧ σ 1 1 = cW P ∧ σ 1 2 = cG P ∧ σ 1 13 = nI (cL P) ∧ attR (kA P) (σ 2) (σ 3) (σ 4) (σ 5) (σ 6) (σ 7) (σ 9) ∧ (∀ i, i < 10 → σ 8 i = cB P i) ∧ (∀ r q, r < 3 → q < 20 → bt (σ 10 r) q = kT P r q) ∧ (∀ i, i < 100 → σ 11 i = kC P i) ∧ ∀ i, i < cL P → σ 12 i = nI (kL P i)
def CK13 (σ : xSg) (P : sKp) : Prop := σ 13 0 = nI P.1 ∧ σ 13 1 = cW P ∧ σ 13 2 = cG P ∧ σ 13 13 = nI (cL P) ∧ attR (kA P) (σ 14) (σ 15) (σ 16) (σ 17) (σ 18) (σ 19) (σ 21) ∧ (∀ i, i < 10 → σ 20 i = cB P i) ∧ (∀ r q, r < 3 → q < 20 → bt (σ 22 r) q = kT P r q) ∧ (∀ i, i < 100 → σ 23 i = kC P i) ∧ ∀ i, i < cL P → σ 24 i = nI (kL P i)
def RKc (σ : xSg) (P : sKp) : Prop := σ 57 0 = nI P.1 ∧ attR (kA P) (σ 58) (σ 59) (σ 60) (σ 61) (σ 62) (σ 63) (σ 68) ∧ (∀ r q, r < 3 → q < 20 → σ 69 (20 * r + q) = zi (kT P r q = true)) ∧ (∀ i, i < 100 → σ 70 i = kC P i + 1) ∧ (∀ i, i < cL P → σ 71 i = nI (kL P i)) ∧ coM P.1 (aLa (kA P)) (kO P) (σ 64) (σ 65) (σ 66) (σ 67) (σ 57 14)
def RIm (σ : xSg) (P : sKp) : Prop := σ 73 307 = nI P.1 ∧ attR (kA P) (sh_ (σ 73) 0) (sh_ (σ 73) 10) (sh_ (σ 73) 20) (sh_ (σ 73) 30) (sh_ (σ 73) 40) (sh_ (σ 73) 50) (sh_ (σ 73) 102) ∧ (∀ r q, r < 3 → q < 20 → σ 73 (247 + (20 * r + q)) = zi (kT P r q = true)) ∧ (∀ i, i < 100 → σ 73 (107 + i) = kC P i + 1) ∧ (∀ i, i < cL P → σ 73 (207 + i) = nI (kL P i)) ∧ coM P.1 (aLa (kA P)) (kO P) (sh_ (σ 73) 60) (sh_ (σ 73) 70) (sh_ (σ 73) 80) (sh_ (σ 73) 100) (σ 73 308)
def CDe (σ : xSg) (ds : List (Int32 × sCo)) : Prop := ∀ (k : Nat) (e : Int32 × sCo), ds[k]? = some e → σ 25 (ds.length - 1 - k) = e.1
def RDe (σ : xSg) (n : Nat) (La : Nat → Int32) (ds : List (Int32 × sCo)) : Prop := ∀ (k : Nat) (e : Int32 × sCo), ds[k]? = some e → coM n La e.2 (sh_ (σ 72) (43 * (ds.length - 1 - k))) (sh_ (σ 72) (43 * (ds.length - 1 - k) + 10)) (sh_ (σ 72) (43 * (ds.length - 1 - k) + 20)) (sh_ (σ 72) (43 * (ds.length - 1 - k) + 40)) (σ 72 (43 * (ds.length - 1 - k) + 42))
def zIm (x : Option sKp) : Int32 := match x with
  | none => 0
  | some _ => 1
def CH0 (σ : xSg) (S : zS) : Prop := CK1 σ S.1 ∧ σ 0 2 = zIm S.2.1 ∧ (∀ P, S.2.1 = some P → CK13 σ P) ∧ σ 0 4 = nI (zDs S).length ∧ CDe σ (zDs S) ∧ shC σ S.2.2.2
def RH0 (σ : xSg) (S : zS) : Prop := RKc σ S.1 ∧ σ 57 18 = zIm S.2.1 ∧ (∀ P, S.2.1 = some P → RIm σ P) ∧ σ 57 16 = nI (zDs S).length ∧ RDe σ S.1.1 (aLa (kA S.1)) (zDs S) ∧ shM σ S.2.2.2
def coOk (n : Nat) (c : sCo) : Prop := (∀ j, j < 32 → bt c.1 j = true → j < n) ∧ (∀ j, j < 32 → bt c.2.1 j = true → j < n) ∧ (∀ j, j < 32 → bt c.1 j = true → bt c.2.1 j = false) ∧ (∀ j, j < 10 → bt c.1 j = true → c.2.2.1 j = -1) ∧ (∀ j, 10 ≤ j → c.2.2.1 j = 0) ∧ c.2.2.2 ≤ 40
def kOk (P : sKp) : Prop := aOk (kA P) P.1 ∧ nfA (kA P) ∧ coOk P.1 (kO P) ∧ (∀ k, k < cL P → kL P k ≤ 5940) ∧ (∀ i, 100 ≤ i → kC P i = 0) ∧ ∀ r q, ¬ (r < 3 ∧ q < 20) → kT P r q = false
/-- c' is c with the deed d undone -/
def tbk (c : sCo) (d : Int32) (c' : sCo) : Prop := c'.1 = c.1 ||| d ∧ c'.2.1 = c.2.1 &&& (d ^^^ -1) ∧ (∀ j, j < 10 → c'.2.2.1 j = if bt d j = true then -1 else c.2.2.1 j) ∧ (if d &&& c.2.1 = 0 then c'.2.2.2 = c.2.2.2 else c.2.2.2 = c'.2.2.2 + 1)
def chOk (n : Nat) : sCo → List (Int32 × sCo) → Prop
  | _, [] => True
  | c, e :: t => coOk n e.2 ∧ tbk c e.1 e.2 ∧ chOk n e.2 t
def sOk (S : zS) : Prop := kOk S.1 ∧ (∀ P, S.2.1 = some P → kOk P) ∧ chOk S.1.1 (kO S.1) (zDs S) ∧ (zDs S).length ≤ 6
theorem nz {τ : xSg} (h : nrm τ = τ) {c n : Nat} (hc : z_len c = some n) : ∀ i, n ≤ i → τ c i = 0 := fun i hi => by
  rw [← h]
  exact nrm_out hc hi
section CHF
variable {τ : xSg} {S : zS} (hτ : nrm τ = τ) (ok : sOk S) (h : CH0 τ S)
theorem ch_at (hτ : nrm τ = τ) (ok : sOk S) (h : CH0 τ S) : atC τ = kA S.1 := attR_eq h.1.2.2.2.2.1 ok.1.2.1 (fun i hi => ⟨nz hτ (c := 2) rfl i hi, nz hτ (c := 3) rfl i hi, nz hτ (c := 4) rfl i hi, nz hτ (c := 5) rfl i hi, nz hτ (c := 6) rfl i hi, nz hτ (c := 7) rfl i hi⟩) (fun i hi => nz hτ (c := 9) rfl i hi)
theorem ch_by (hτ : nrm τ = τ) (ok : sOk S) (h : CH0 τ S) : τ 8 = cB S.1 := funext fun i => by
  rcases Nat.lt_or_ge i 10 with q | q
  · exact h.1.2.2.2.2.2.1 i q
  · exact (nz hτ (c := 8) rfl i q).trans (ok.1.2.2.1.2.2.2.2.1 i q).symm
theorem ch_cap (hτ : nrm τ = τ) (ok : sOk S) (h : CH0 τ S) : τ 11 = kC S.1 := funext fun i => by
  rcases Nat.lt_or_ge i 100 with q | q
  · exact h.1.2.2.2.2.2.2.2.1 i q
  · exact (nz hτ (c := 11) rfl i q).trans (ok.1.2.2.2.2.1 i q).symm
theorem ch_tk (ok : sOk S) (h : CH0 τ S) : tkC τ = kT S.1 := funext fun r => funext fun q => by
  unfold tkC
  by_cases hr : r < 3
  · by_cases hq : q < 20
    · rw [h.1.2.2.2.2.2.2.1 r q hr hq]; simp [hr, hq]
    · rw [ok.1.2.2.2.2.2 r q (fun z => hq z.2)]; simp [hq]
  · rw [ok.1.2.2.2.2.2 r q (fun z => hr z.1)]; simp [hr]
theorem ch_led (ok : sOk S) (h : CH0 τ S) : ledOk (τ 12) (kL S.1) (cL S.1) := ⟨ok.1.2.2.1.2.2.2.2.2, fun k hk => ⟨h.1.2.2.2.2.2.2.2.2 k hk, ok.1.2.2.2.1 k hk⟩⟩
theorem rh_at (hτ : nrm τ = τ) (ok : sOk S) (h : RH0 τ S) : atM τ = kA S.1 := attR_eq h.1.2.1 ok.1.2.1 (fun i hi => ⟨nz hτ (c := 58) rfl i hi, nz hτ (c := 59) rfl i hi, nz hτ (c := 60) rfl i hi, nz hτ (c := 61) rfl i hi, nz hτ (c := 62) rfl i hi, nz hτ (c := 63) rfl i hi⟩) (fun i hi => nz hτ (c := 68) rfl i hi)
theorem rh_by (hτ : nrm τ = τ) (ok : sOk S) (h : RH0 τ S) : τ 65 = cB S.1 := funext fun i => by
  rcases Nat.lt_or_ge i 10 with q | q
  · exact h.1.2.2.2.2.2.2.1 i q
  · exact (nz hτ (c := 65) rfl i q).trans (ok.1.2.2.1.2.2.2.2.1 i q).symm
theorem rh_tk (ok : sOk S) (h : RH0 τ S) : tkM τ = kT S.1 := funext fun r => funext fun q => by
  unfold tkM
  by_cases hr : r < 3
  · by_cases hq : q < 20
    · rw [h.1.2.2.1 r q hr hq]
      cases hb : kT S.1 r q with
      | false => rw [zi_f (by simp)]; simp [hr, hq]
      | true => rw [zi_t rfl]; simp [hr, hq]
    · rw [ok.1.2.2.2.2.2 r q (fun z => hq z.2)]; simp [hq]
  · rw [ok.1.2.2.2.2.2 r q (fun z => hr z.1)]; simp [hr]
theorem rh_led (ok : sOk S) (h : RH0 τ S) : ledOk (τ 71) (kL S.1) (cL S.1) := ⟨ok.1.2.2.1.2.2.2.2.2, fun k hk => ⟨h.1.2.2.2.2.1 k hk, ok.1.2.2.2.1 k hk⟩⟩
theorem coM_LR {n : Nat} {La : Nat → Int32} {c : sCo} {st by_ : Nat → Int32} {lv : Int32} {σ : xSg} (h : coM n La c st by_ (σ 66) (σ 67) lv) : LR σ (laneL n c.1 La 0) (laneL n c.1 La 1) := by
  have hl := laneL_len (n := n) (w := c.1) (La := La)
  exact ⟨by omega, by omega, fun i x hi => by have := h.2.2.1 i x hi; rwa [Nat.zero_add] at this, h.2.2.2.1, h.2.2.2.2.1, h.2.2.2.2.2.1⟩
theorem rh_LR (h : RH0 τ S) : LR τ (lA S.1) (lB S.1) := coM_LR h.1.2.2.2.2.2
theorem rh_mOk (hτ : nrm τ = τ) (ok : sOk S) (h : RH0 τ S) : mOk τ S.1.1 (lA S.1) (lB S.1) := by
  refine ⟨by rw [rh_at hτ ok h]; exact ok.1.1, fun i hi => ?_, fun x hx => (lnp_lt hx).1, fun x hx => (lnp_lt hx).1, laneL_len, laneL_nodup _ _ _ _, laneL_nodup _ _ _ _, laneL_apart⟩
  have e : i = 20 * (i / 20) + i % 20 := by omega
  rw [e, h.1.2.2.1 (i / 20) (i % 20) (by omega) (by omega)]
  exact zi_b _
end CHF
