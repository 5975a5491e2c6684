/-! the first state -/
def fTold : Nat → Int32 := upd (upd (upd (upd (upd (fun _ => 0) 0 10) 1 2) 2 5) 3 10) 4 0
def fCaps : Nat → Int32 := fun j => if j < 100 then -1 else (fun _ => 0) j
def fSh : Nat → Int32 := fun i => match i with
  | 0 => -1
  | _ => 0
def sg0 : xSg := fun k => match k with
  | 9 => fFS
  | 21 => fFS
  | 11 => fCaps
  | 23 => fCaps
  | 68 => fTold
  | 49 => fSh
  | 51 => fSh
  | 53 => fSh
  | 55 => fSh
  | _ => fun _ => 0
def A0 : sAt := (fun _ => 0, fun _ => 0, fun _ => 0, fun _ => 0, fun _ => 0, fun _ => 0, fFS)
def P0 : sKp := (0, A0, fun _ _ => false, fCaps, fun _ => 0, (0, 0, fun _ => 0, 0))
def S0 : zS := (P0, none, [], fun _ => (-1, 0, fun _ => 0))
theorem fFS_o {i : Nat} (h : 5 ≤ i) : fFS i = 0 := by
  unfold fFS
  rw [List.getD_eq_getElem?_getD, List.getElem?_eq_none (by simpa using h)]
  rfl
theorem so_0 : sOk S0 := by
  refine ⟨⟨⟨Nat.zero_le _, fun i hi => absurd hi (Nat.not_lt_zero i), ⟨10, rfl, by decide, by decide⟩, ⟨2, rfl, by decide, by decide⟩, ⟨5, rfl, by decide, by decide⟩, ⟨10, rfl, by decide, by decide⟩, ⟨0, rfl, by decide, by decide⟩⟩, ⟨fun i _ => ⟨rfl, rfl, rfl, rfl, rfl, rfl⟩, fun i hi => fFS_o hi⟩, ⟨fun j _ h => ?_, fun j _ h => ?_, fun j _ h => ?_, fun j _ h => ?_, fun j _ => rfl, Nat.zero_le _⟩, fun k hk => absurd hk (Nat.not_lt_zero k), fun i hi => ?_, fun r q _ => rfl⟩, fun P hP => absurd (show (none : Option sKp) = some P from hP) (by simp), trivial, Nat.zero_le _⟩
  · have h : bt (0 : Int32) j = true := h; rw [b_0] at h; cases h
  · have h : bt (0 : Int32) j = true := h; rw [b_0] at h; cases h
  · have h : bt (0 : Int32) j = true := h; rw [b_0] at h; cases h
  · have h : bt (0 : Int32) j = true := h; rw [b_0] at h; cases h
  · show (if i < 100 then (-1 : Int32) else 0) = 0
    rw [if_neg (by omega)]
theorem bt0f : ∀ j, bt (0 : Int32) j = false := b_0
theorem CH0_0 : CH0 sg0 S0 := by
  refine ⟨⟨rfl, rfl, rfl, rfl, ⟨fun i _ => ⟨rfl, rfl, rfl, rfl, rfl, rfl⟩, fun i _ => rfl⟩, fun i _ => rfl, fun r q _ _ => b_0 q, fun i _ => rfl, fun i hi => absurd hi (Nat.not_lt_zero i)⟩, rfl, fun P hP => absurd (show (none : Option sKp) = some P from hP) (by simp), rfl, fun k e he => by simp [zDs, S0] at he, fun i hi => ?_⟩
  rcases (show i = 0 ∨ i = 1 ∨ i = 2 ∨ i = 3 by omega) with rfl | rfl | rfl | rfl
  all_goals exact ⟨⟨Or.inl rfl, Nat.zero_le _⟩, rfl, rfl, fun _ _ => rfl⟩
theorem RH0_0 : RH0 sg0 S0 := by
  refine ⟨⟨rfl, ⟨fun i _ => ⟨rfl, rfl, rfl, rfl, rfl, rfl⟩, fun i hi => ?_⟩, fun r q _ _ => rfl, fun i hi => ?_, fun i hi => absurd hi (Nat.not_lt_zero i), ⟨fun j hj => absurd hj (Nat.not_lt_zero j), fun j _ => rfl, fun j x hx => ?_, fun j x hx => ?_, ?_, ?_, rfl⟩⟩, rfl, fun P hP => absurd (show (none : Option sKp) = some P from hP) (by simp), rfl, fun k e he => by simp [zDs, S0] at he, fun i hi => ?_⟩
  · rcases (show i = 0 ∨ i = 1 ∨ i = 2 ∨ i = 3 ∨ i = 4 by omega) with rfl | rfl | rfl | rfl | rfl <;> rfl
  · show (0 : Int32) = (if i < 100 then (-1 : Int32) else 0) + 1
    rw [if_pos hi]
    decide
  · have : laneL 0 (0 : Int32) (fun _ => 0) 0 = [] := List.filter_eq_nil_iff.mpr (fun y _ => by unfold s_lnp; simp)
    rw [show laneL S0.1.1 (kO S0.1).1 (aLa (kA S0.1)) 0 = [] from this] at hx
    simp at hx
  · have : laneL 0 (0 : Int32) (fun _ => 0) 1 = [] := List.filter_eq_nil_iff.mpr (fun y _ => by unfold s_lnp; simp)
    rw [show laneL S0.1.1 (kO S0.1).1 (aLa (kA S0.1)) 1 = [] from this] at hx
    simp at hx
  · have : laneL 0 (0 : Int32) (fun _ => 0) 0 = [] := List.filter_eq_nil_iff.mpr (fun y _ => by unfold s_lnp; simp)
    rw [show laneL S0.1.1 (kO S0.1).1 (aLa (kA S0.1)) 0 = [] from this]
    rfl
  · have : laneL 0 (0 : Int32) (fun _ => 0) 1 = [] := List.filter_eq_nil_iff.mpr (fun y _ => by unfold s_lnp; simp)
    rw [show laneL S0.1.1 (kO S0.1).1 (aLa (kA S0.1)) 1 = [] from this]
    rfl
  · exact ⟨⟨Or.inl rfl, Nat.zero_le _⟩, show (0 : Int32) = -1 + 1 by decide, rfl, fun _ _ => rfl⟩
