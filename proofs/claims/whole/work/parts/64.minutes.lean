/-! as they come, minute by minute, and that it is the same as event by event -/
def a_due (a : sAt) (n t fr : Nat) : Bool := decide (t = fr) || (List.range n).any (fun x => decide (aCo a x = nI t))
def s_mr (a : sAt) (tk : sTk) (A B : List Nat) (n : Nat) : Nat → Nat → Nat → aSt → aSt
  | 0, _, _, s => s
  | m + 1, t, fr, s => if t < fr ∨ a_due a n t fr = false then s_mr a tk A B n m (t + 1) fr s
    else match s_went (a_fl a tk A B s.1 t) with
      | [] => s_mr a tk A B n m (t + 1) fr s
      | q :: l => s_mr a tk A B n m (t + 1) (t + a_mi a) (a_up s.1 (q :: l) t, s.2.1 + 1, some t)
theorem fl_mono {L : List Nat} {p q : Nat → Bool} (h : ∀ x ∈ L, p x = true → q x = true) : (L.filter p).length ≤ (L.filter q).length := by
  induction L with
  | nil => simp
  | cons y L ih =>
    have h1 := ih (fun x hx => h x (List.mem_cons_of_mem _ hx))
    have h2 := h y List.mem_cons_self
    by_cases hp : p y = true
    · rw [List.filter_cons_of_pos hp, List.filter_cons_of_pos (h2 hp)]
      simp only [List.length_cons]
      omega
    · rw [List.filter_cons_of_neg hp]
      by_cases hq : q y = true
      · rw [List.filter_cons_of_pos hq]
        simp only [List.length_cons]
        omega
      · rw [List.filter_cons_of_neg hq]
        exact h1
theorem fl_mono_lt {L : List Nat} {p q : Nat → Bool} {x0 : Nat} (h : ∀ x ∈ L, p x = true → q x = true) (hx : x0 ∈ L) (hq : q x0 = true) (hp : p x0 = false) : (L.filter p).length < (L.filter q).length := by
  induction L with
  | nil => simp at hx
  | cons y L ih =>
    have h1 := fun x hx => h x (List.mem_cons_of_mem _ hx)
    rcases List.mem_cons.mp hx with rfl | hx
    · rw [List.filter_cons_of_neg (by rw [hp]; decide), List.filter_cons_of_pos hq]
      have := fl_mono h1
      simp only [List.length_cons]
      omega
    · have h3 := ih h1 hx
      by_cases hpy : p y = true
      · rw [List.filter_cons_of_pos hpy, List.filter_cons_of_pos (h y List.mem_cons_self hpy)]
        simp only [List.length_cons]
        omega
      · rw [List.filter_cons_of_neg hpy]
        by_cases hqy : q y = true
        · rw [List.filter_cons_of_pos hqy]
          simp only [List.length_cons]
          omega
        · rw [List.filter_cons_of_neg hqy]
          exact h3
/-- what the lanes are -/
def laOk (a : sAt) (n : Nat) (A B : List Nat) : Prop := aOk a n ∧ (∀ x ∈ A, x < n) ∧ (∀ x ∈ B, x < n) ∧ A.length + B.length ≤ 10 ∧ A.Nodup ∧ B.Nodup ∧ ∀ x, x ∈ A → x ∈ B → False
theorem laOk_lt {a : sAt} {n : Nat} {A B : List Nat} (h : laOk a n A B) {x : Nat} (hx : x ∈ A ++ B) : x < n := by
  rcases List.mem_append.mp hx with hx | hx
  · exact h.2.1 x hx
  · exact h.2.2.1 x hx
theorem laOk_co {a : sAt} {n : Nat} {A B : List Nat} (h : laOk a n A B) {x : Nat} (hx : x ∈ A ++ B) : ∃ c, aCo a x = nI c ∧ c ≤ 999 := by
  obtain ⟨c, hc, -, h9⟩ := (h.1.2.1 x (laOk_lt h hx)).2.2.2.2.1
  exact ⟨c, hc, h9⟩
theorem a_gl_eq {a : sAt} {bg : Nat → Option Nat} {t u : Nat} {L : List Nat} (h : ∀ x ∈ L, (bg x).isNone = true → (aCo a x ≤ nI u ↔ aCo a x ≤ nI t)) : a_gl a bg u L = a_gl a bg t L := by
  have e : L.filter (fun x => (bg x).isNone && decide (aCo a x ≤ nI u)) = L.filter (fun x => (bg x).isNone && decide (aCo a x ≤ nI t)) := List.filter_congr (fun x hx => by
    cases hb : (bg x).isNone with
    | false => simp only [Bool.false_and]
    | true =>
      simp only [Bool.true_and]
      exact decide_eq_decide.mpr (h x hx hb))
  unfold a_gl
  rw [e]
theorem a_fl_eq {a : sAt} {tk : sTk} {A B : List Nat} {bg : Nat → Option Nat} {t u : Nat} (h : ∀ x ∈ A ++ B, (bg x).isNone = true → (aCo a x ≤ nI u ↔ aCo a x ≤ nI t)) : a_fl a tk A B bg u = a_fl a tk A B bg t := by
  unfold a_fl
  rw [a_gl_eq (fun x hx => h x (List.mem_append_left _ hx)), a_gl_eq (fun x hx => h x (List.mem_append_right _ hx))]
theorem a_fl_w {a : sAt} {tk : sTk} {n : Nat} {A B : List Nat} {bg : Nat → Option Nat} {t : Nat} (h : laOk a n A B) : ∀ x ∈ (s_went (a_fl a tk A B bg t)).map Prod.fst, x ∈ A ++ B ∧ (bg x).isNone = true ∧ aCo a x ≤ nI t := by
  intro x hx
  obtain ⟨-, -, -, -, h5, h6, h7⟩ := h
  rcases (s_fill_w (a := a) (tk := tk) (A := a_gl a bg t A) (B := a_gl a bg t B) (s_srt_nodup (h5.filter _)) (s_srt_nodup (h6.filter _)) (fun y h1 h2 => h7 y (a_gl_in h1).1 (a_gl_in h2).1)).2.2.1 x hx with z | z
  · exact ⟨List.mem_append_left _ (a_gl_in z).1, (a_gl_in z).2.1, (a_gl_in z).2.2⟩
  · exact ⟨List.mem_append_right _ (a_gl_in z).1, (a_gl_in z).2.1, (a_gl_in z).2.2⟩
theorem mr_skip {a : sAt} {tk : sTk} {A B : List Nat} {n m fr : Nat} {s : aSt} : ∀ (k t : Nat), t + k ≤ fr → s_mr a tk A B n (m + k) t fr s = s_mr a tk A B n m (t + k) fr s
  | 0, _, _ => rfl
  | k + 1, t, h => by
    show s_mr a tk A B n (m + k + 1) t fr s = _
    rw [s_mr, if_pos (Or.inl (by omega)), mr_skip k (t + 1) (by omega)]
    congr 1
    omega
theorem mr_idle {a : sAt} {tk : sTk} {A B : List Nat} {n m fr : Nat} {s : aSt} : ∀ (k t : Nat), (∀ u, t ≤ u → u < t + k → s_went (a_fl a tk A B s.1 u) = []) → s_mr a tk A B n (m + k) t fr s = s_mr a tk A B n m (t + k) fr s
  | 0, _, _ => rfl
  | k + 1, t, h => by
    have ih := mr_idle (a := a) (tk := tk) (A := A) (B := B) (n := n) (m := m) (fr := fr) (s := s) k (t + 1) (fun u h1 h2 => h u (by omega) (by omega))
    show s_mr a tk A B n (m + k + 1) t fr s = _
    rw [s_mr, h t (Nat.le_refl _) (by omega)]
    rw [show t + (k + 1) = t + 1 + k by omega, ← ih]
    split <;> rfl
def a_lf (A B : List Nat) (bg : Nat → Option Nat) : List Nat := (A ++ B).filter fun x => (bg x).isNone
theorem a_nc_none {a : sAt} {bg : Nat → Option Nat} {t : Nat} {L : List Nat} (h : a_nc a bg t L = none) : ∀ x ∈ L, (bg x).isNone = true → ¬ nI t < aCo a x := by
  intro x hx hb hc
  have e : (a_lt a bg t L).map (fun x => (aCo a x).toNatClampNeg) = [] := s_mn_none h
  have e2 : a_lt a bg t L = [] := List.map_eq_nil_iff.mp e
  have : x ∈ a_lt a bg t L := List.mem_filter.mpr ⟨hx, by simp [hb, hc]⟩
  rw [e2] at this
  simp at this
theorem mr_ar {a : sAt} {tk : sTk} {A B : List Nat} {n : Nat} (h : laOk a n A B) : ∀ (f t fr m : Nat) (s : aSt), (a_lf A B s.1).length + (a_lt a s.1 t (A ++ B)).length + 1 ≤ f → fr ≤ t → a_due a n t fr = true → t + m = 2000 → t + 60 * (a_lf A B s.1).length ≤ 1599 → s_mr a tk A B n m t fr s = s_ar a tk A B f t s
  | 0, t, fr, m, s, hf, _, _, _, _ => by omega
  | f + 1, t, fr, m, s, hf, hfr, hd, hm, hb => by
    obtain ⟨m', rfl⟩ : ∃ m', m = m' + 1 := ⟨m - 1, by omega⟩
    have hmi := a_mi_ok h.1
    cases hW : s_went (a_fl a tk A B s.1 t) with
    | nil =>
      have hcmp : ∀ u, t ≤ u → u < 2 ^ 31 → (∀ x ∈ A ++ B, (s.1 x).isNone = true → aCo a x ≤ nI u → aCo a x ≤ nI t) → s_went (a_fl a tk A B s.1 u) = [] := by
        intro u h1 h2 h3
        rw [a_fl_eq (t := t) (fun x hx hbx => ⟨h3 x hx hbx, fun z => Int32.le_trans z (nI_le h1 h2)⟩)]
        exact hW
      cases hn : a_nc a s.1 t (A ++ B) with
      | none =>
        rw [s_ar, hW]
        dsimp only
        rw [hn]
        dsimp only
        have h4 := a_nc_none hn
        have e := mr_idle (a := a) (tk := tk) (A := A) (B := B) (n := n) (m := 0) (fr := fr) (s := s) (m' + 1) t (fun u h1 h2 => hcmp u h1 (by omega) (fun x hx hbx _ => Int32.not_lt.mp (h4 x hx hbx)))
        rw [Nat.zero_add] at e
        rw [e]
        rfl
      | some t' =>
        rw [s_ar, hW]
        dsimp only
        rw [hn]
        dsimp only
        obtain ⟨h5, h6⟩ := s_mn_some hn
        obtain ⟨x0, hx0, e0⟩ := List.mem_map.mp h5
        unfold a_lt at hx0
        obtain ⟨hx1, hx2⟩ := List.mem_filter.mp hx0
        simp only [Bool.and_eq_true, decide_eq_true_eq] at hx2
        obtain ⟨c, hc, hc9⟩ := laOk_co h hx1
        rw [hc, nI_clamp (by omega)] at e0
        subst e0
        have htc : t < c := by have := hx2.2; rw [hc] at this; exact (nI_ltI (by omega) (by omega)).mp this
        have e := mr_idle (a := a) (tk := tk) (A := A) (B := B) (n := n) (m := m' + 1 - (c - t)) (fr := fr) (s := s) (c - t) t (fun u h1 h2 => hcmp u h1 (by omega) (fun x hx hbx hle => by
          refine Int32.not_lt.mp (fun z => ?_)
          obtain ⟨d, hd, hd9⟩ := laOk_co h hx
          have := h6 d (List.mem_map.mpr ⟨x, List.mem_filter.mpr ⟨hx, by simp [hbx, z]⟩, by rw [hd, nI_clamp (by omega)]⟩)
          rw [hd] at hle
          have := (nI_leI (by omega) (by omega)).mp hle
          omega))
        rw [show m' + 1 - (c - t) + (c - t) = m' + 1 by omega, show t + (c - t) = c by omega] at e
        rw [e]
        have hlt : (a_lt a s.1 c (A ++ B)).length < (a_lt a s.1 t (A ++ B)).length := by
          refine fl_mono_lt (x0 := x0) (fun x hx hp => ?_) hx1 (by simp [hx2.1, hx2.2]) (by rw [hc]; simp [Int32.lt_irrefl])
          simp only [Bool.and_eq_true, decide_eq_true_eq] at hp ⊢
          exact ⟨hp.1, Int32.lt_trans (nI_lt htc (by omega)) hp.2⟩
        have hl10 : (a_lf A B s.1).length ≤ 10 := by
          have := List.length_filter_le (fun x => (s.1 x).isNone) (A ++ B)
          rw [List.length_append] at this
          have := h.2.2.2.1
          unfold a_lf
          omega
        refine mr_ar h f c fr _ s (by omega) (by omega) ?_ (by omega) (by omega)
        unfold a_due
        rw [Bool.or_eq_true]
        exact Or.inr (List.any_eq_true.mpr ⟨x0, List.mem_range.mpr (laOk_lt h hx1), by simp [hc]⟩)
    | cons q l =>
      rw [s_ar, hW, s_mr, if_neg (by rw [hd]; rintro (z | z); omega; cases z), hW]
      dsimp only
      have hq := a_fl_w (tk := tk) (t := t) h (bg := s.1) q.1 (by rw [hW]; simp)
      have hw : ∀ x, (a_up s.1 (q :: l) t x).isNone = true → (s.1 x).isNone = true := by
        intro x hx
        unfold a_up at hx
        split at hx
        · cases hx
        · exact hx
      have h1 : (a_lf A B (a_up s.1 (q :: l) t)).length < (a_lf A B s.1).length := fl_mono_lt (x0 := q.1) (fun x _ hp => hw x hp) hq.1 hq.2.1 (by unfold a_up; rw [if_pos (by simp)]; rfl)
      have h2 : (a_lt a (a_up s.1 (q :: l) t) (t + a_mi a) (A ++ B)).length ≤ (a_lt a s.1 t (A ++ B)).length := fl_mono (fun x _ hp => by
        simp only [Bool.and_eq_true, decide_eq_true_eq] at hp ⊢
        exact ⟨hw x hp.1, Int32.lt_of_le_of_lt (nI_le (by omega) (by omega)) hp.2⟩)
      have e := mr_skip (a := a) (tk := tk) (A := A) (B := B) (n := n) (m := m' - (a_mi a - 1)) (fr := t + a_mi a) (s := (a_up s.1 (q :: l) t, s.2.1 + 1, some t)) (a_mi a - 1) (t + 1) (by omega)
      rw [show m' - (a_mi a - 1) + (a_mi a - 1) = m' by omega, show t + 1 + (a_mi a - 1) = t + a_mi a by omega] at e
      rw [e]
      refine mr_ar h f (t + a_mi a) (t + a_mi a) _ _ ?_ (Nat.le_refl _) (by unfold a_due; simp) (by omega) ?_
      · show (a_lf A B (a_up s.1 (q :: l) t)).length + (a_lt a (a_up s.1 (q :: l) t) (t + a_mi a) (A ++ B)).length + 1 ≤ f
        omega
      · show t + a_mi a + 60 * (a_lf A B (a_up s.1 (q :: l) t)).length ≤ 1599
        omega
theorem mr_all {a : sAt} {tk : sTk} {A B : List Nat} {n : Nat} (h : laOk a n A B) : s_mr a tk A B n 2000 0 0 (fun _ => none, 0, none) = s_ar a tk A B 21 0 (fun _ => none, 0, none) := by
  have h10 := h.2.2.2.1
  have l1 : (a_lf A B (fun _ => none)).length ≤ 10 := by
    have := List.length_filter_le (fun x => ((fun _ => none : Nat → Option Nat) x).isNone) (A ++ B)
    rw [List.length_append] at this
    unfold a_lf
    omega
  have l2 : (a_lt a (fun _ => none) 0 (A ++ B)).length ≤ 10 := by
    have := List.length_filter_le (fun x => ((fun _ => none : Nat → Option Nat) x).isNone && decide (nI 0 < aCo a x)) (A ++ B)
    rw [List.length_append] at this
    unfold a_lt
    omega
  exact mr_ar h 21 0 0 2000 _ (by show (a_lf A B (fun _ => none)).length + (a_lt a (fun _ => none) 0 (A ++ B)).length + 1 ≤ 21; omega) (Nat.le_refl _) (by unfold a_due; simp) rfl (by show 0 + 60 * (a_lf A B (fun _ => none)).length ≤ 1599; omega)
/-- who has begun came before -/
def bgOk (a : sAt) (n : Nat) (bg : Nat → Option Nat) : Prop := ∀ x t, bg x = some t → x < n ∧ t < 2000 ∧ aCo a x ≤ nI t
theorem mr_bg {a : sAt} {tk : sTk} {A B : List Nat} {n : Nat} (h : laOk a n A B) : ∀ (m t fr : Nat) (s : aSt), t + m = 2000 → bgOk a n s.1 → bgOk a n (s_mr a tk A B n m t fr s).1
  | 0, _, _, _, _, hs => hs
  | m + 1, t, fr, s, ht, hs => by
    rw [s_mr]
    split
    · exact mr_bg h m (t + 1) fr s (by omega) hs
    · split
      · exact mr_bg h m (t + 1) fr s (by omega) hs
      next q l hW =>
        refine mr_bg h m (t + 1) _ _ (by omega) (fun x u hx => ?_)
        dsimp only [a_up] at hx
        split at hx
        next hm =>
          cases hx
          obtain ⟨k1, k2, k3⟩ := a_fl_w (tk := tk) (t := t) h (bg := s.1) x (by rw [hW]; exact hm)
          exact ⟨laOk_lt h k1, by omega, k3⟩
        next hm => exact hs x u hx
