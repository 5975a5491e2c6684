section
-- ===== PART A: goes FIRST, ahead of the names: the tables' words, and 'selects' of the private methods out of them =====
/-- a private method of a class that the tables say can be made, by its rows of tables_1 -/
def lw_okq (q : MethodName × Nat) : Prop := (q.1.cls ≠ "java/lang/invoke/MethodHandle" ∧ q.1.cls ≠ "java/lang/invoke/VarHandle") ∧ Cond.instantiable q.1.cls q.2 ∈ tables_1 ∧ Cond.privateMethod q.1 ∈ tables_1 ∧ Cond.instanceMethod q.1 ∈ tables_1
theorem lw_p0 : lw_okq (⟨"LaneLock$Filling", "nextHead", "(II[II)I"⟩, 8) := ⟨⟨by decide +kernel, by decide +kernel⟩, List.mem_of_getElem? (i := 109) (by decide +kernel), List.mem_of_getElem? (i := 382) (by decide +kernel), List.mem_of_getElem? (i := 383) (by decide +kernel)⟩
theorem lw_p1 : lw_okq (⟨"LaneLock$Filling", "head", "(II[I)I"⟩, 8) := ⟨⟨by decide +kernel, by decide +kernel⟩, List.mem_of_getElem? (i := 109) (by decide +kernel), List.mem_of_getElem? (i := 386) (by decide +kernel), List.mem_of_getElem? (i := 387) (by decide +kernel)⟩
theorem lw_p2 : lw_okq (⟨"LaneLock$Filling", "isSecondTaken", "(III)Z"⟩, 8) := ⟨⟨by decide +kernel, by decide +kernel⟩, List.mem_of_getElem? (i := 109) (by decide +kernel), List.mem_of_getElem? (i := 391) (by decide +kernel), List.mem_of_getElem? (i := 392) (by decide +kernel)⟩
theorem lw_p3 : lw_okq (⟨"LaneLock$Filling", "firstRun", "(II)I"⟩, 8) := ⟨⟨by decide +kernel, by decide +kernel⟩, List.mem_of_getElem? (i := 109) (by decide +kernel), List.mem_of_getElem? (i := 401) (by decide +kernel), List.mem_of_getElem? (i := 402) (by decide +kernel)⟩
theorem lw_p4 : lw_okq (⟨"LaneLock", "remember", "(I)V"⟩, 9) := ⟨⟨by decide +kernel, by decide +kernel⟩, List.mem_of_getElem? (i := 13) (by decide +kernel), List.mem_of_getElem? (i := 417) (by decide +kernel), List.mem_of_getElem? (i := 418) (by decide +kernel)⟩
theorem lw_p5 : lw_okq (⟨"LaneLock$Arrivals", "sortByComes", "()V"⟩, 6) := ⟨⟨by decide +kernel, by decide +kernel⟩, List.mem_of_getElem? (i := 144) (by decide +kernel), List.mem_of_getElem? (i := 476) (by decide +kernel), List.mem_of_getElem? (i := 477) (by decide +kernel)⟩
theorem lw_p6 : lw_okq (⟨"LaneLock$Arrivals", "comeBy", "(II)I"⟩, 6) := ⟨⟨by decide +kernel, by decide +kernel⟩, List.mem_of_getElem? (i := 144) (by decide +kernel), List.mem_of_getElem? (i := 481) (by decide +kernel), List.mem_of_getElem? (i := 482) (by decide +kernel)⟩
theorem lw_p7 : lw_okq (⟨"LaneLock$Arrivals", "begin", "(II)V"⟩, 6) := ⟨⟨by decide +kernel, by decide +kernel⟩, List.mem_of_getElem? (i := 144) (by decide +kernel), List.mem_of_getElem? (i := 486) (by decide +kernel), List.mem_of_getElem? (i := 487) (by decide +kernel)⟩
theorem lw_p8 : lw_okq (⟨"LaneLock$Arrivals", "nextComes", "(II)I"⟩, 6) := ⟨⟨by decide +kernel, by decide +kernel⟩, List.mem_of_getElem? (i := 144) (by decide +kernel), List.mem_of_getElem? (i := 490) (by decide +kernel), List.mem_of_getElem? (i := 491) (by decide +kernel)⟩
theorem lw_p9 : lw_okq (⟨"LaneLock$Arrivals", "ahead", "(I)I"⟩, 6) := ⟨⟨by decide +kernel, by decide +kernel⟩, List.mem_of_getElem? (i := 144) (by decide +kernel), List.mem_of_getElem? (i := 506) (by decide +kernel), List.mem_of_getElem? (i := 507) (by decide +kernel)⟩
theorem lw_p10 : lw_okq (⟨"LaneLock$Choice", "settle", "(II)V"⟩, 10) := ⟨⟨by decide +kernel, by decide +kernel⟩, List.mem_of_getElem? (i := 171) (by decide +kernel), List.mem_of_getElem? (i := 531) (by decide +kernel), List.mem_of_getElem? (i := 532) (by decide +kernel)⟩
theorem lw_p11 : lw_okq (⟨"LaneLock$Choice", "weigh", "(IIII)V"⟩, 10) := ⟨⟨by decide +kernel, by decide +kernel⟩, List.mem_of_getElem? (i := 171) (by decide +kernel), List.mem_of_getElem? (i := 542) (by decide +kernel), List.mem_of_getElem? (i := 543) (by decide +kernel)⟩
theorem lw_p12 : lw_okq (⟨"LaneLock", "firstOtherwise", "(LLaneLock$Sheet;)I"⟩, 9) := ⟨⟨by decide +kernel, by decide +kernel⟩, List.mem_of_getElem? (i := 13) (by decide +kernel), List.mem_of_getElem? (i := 561) (by decide +kernel), List.mem_of_getElem? (i := 562) (by decide +kernel)⟩
theorem lw_p13 : lw_okq (⟨"LaneLock", "tried", "(LLaneLock$Sheet;[IIII)I"⟩, 9) := ⟨⟨by decide +kernel, by decide +kernel⟩, List.mem_of_getElem? (i := 13) (by decide +kernel), List.mem_of_getElem? (i := 565) (by decide +kernel), List.mem_of_getElem? (i := 566) (by decide +kernel)⟩
theorem lw_p14 : lw_okq (⟨"LaneLockModel", "comesTo", "(IIIII)I"⟩, 39) := ⟨⟨by decide +kernel, by decide +kernel⟩, List.mem_of_getElem? (i := 626) (by decide +kernel), List.mem_of_getElem? (i := 754) (by decide +kernel), List.mem_of_getElem? (i := 755) (by decide +kernel)⟩
theorem lw_p15 : lw_okq (⟨"LaneLockModel", "mayOf", "(I)I"⟩, 39) := ⟨⟨by decide +kernel, by decide +kernel⟩, List.mem_of_getElem? (i := 626) (by decide +kernel), List.mem_of_getElem? (i := 779) (by decide +kernel), List.mem_of_getElem? (i := 780) (by decide +kernel)⟩
def lw_privs_1 : List (MethodName × Nat) := [(⟨"LaneLock$Filling", "nextHead", "(II[II)I"⟩, 8), (⟨"LaneLock$Filling", "head", "(II[I)I"⟩, 8), (⟨"LaneLock$Filling", "isSecondTaken", "(III)Z"⟩, 8), (⟨"LaneLock$Filling", "firstRun", "(II)I"⟩, 8), (⟨"LaneLock", "remember", "(I)V"⟩, 9), (⟨"LaneLock$Arrivals", "sortByComes", "()V"⟩, 6), (⟨"LaneLock$Arrivals", "comeBy", "(II)I"⟩, 6), (⟨"LaneLock$Arrivals", "begin", "(II)V"⟩, 6), (⟨"LaneLock$Arrivals", "nextComes", "(II)I"⟩, 6), (⟨"LaneLock$Arrivals", "ahead", "(I)I"⟩, 6), (⟨"LaneLock$Choice", "settle", "(II)V"⟩, 10), (⟨"LaneLock$Choice", "weigh", "(IIII)V"⟩, 10), (⟨"LaneLock", "firstOtherwise", "(LLaneLock$Sheet;)I"⟩, 9), (⟨"LaneLock", "tried", "(LLaneLock$Sheet;[IIII)I"⟩, 9), (⟨"LaneLockModel", "comesTo", "(IIIII)I"⟩, 39), (⟨"LaneLockModel", "mayOf", "(I)I"⟩, 39)]
theorem lw_r1 : ∀ q ∈ lw_privs_1, lw_okq q := List.forall_mem_cons.mpr ⟨lw_p0, List.forall_mem_cons.mpr ⟨lw_p1, List.forall_mem_cons.mpr ⟨lw_p2, List.forall_mem_cons.mpr ⟨lw_p3, List.forall_mem_cons.mpr ⟨lw_p4, List.forall_mem_cons.mpr ⟨lw_p5, List.forall_mem_cons.mpr ⟨lw_p6, List.forall_mem_cons.mpr ⟨lw_p7, List.forall_mem_cons.mpr ⟨lw_p8, List.forall_mem_cons.mpr ⟨lw_p9, List.forall_mem_cons.mpr ⟨lw_p10, List.forall_mem_cons.mpr ⟨lw_p11, List.forall_mem_cons.mpr ⟨lw_p12, List.forall_mem_cons.mpr ⟨lw_p13, List.forall_mem_cons.mpr ⟨lw_p14, List.forall_mem_cons.mpr ⟨lw_p15, fun _ h => absurd h List.not_mem_nil⟩⟩⟩⟩⟩⟩⟩⟩⟩⟩⟩⟩⟩⟩⟩⟩
theorem lw_p16 : lw_okq (⟨"LaneLockModel", "isShip", "(I)Z"⟩, 39) := ⟨⟨by decide +kernel, by decide +kernel⟩, List.mem_of_getElem? (i := 626) (by decide +kernel), List.mem_of_getElem? (i := 788) (by decide +kernel), List.mem_of_getElem? (i := 789) (by decide +kernel)⟩
theorem lw_p17 : lw_okq (⟨"LaneLockModel", "spanOf", "(I)I"⟩, 39) := ⟨⟨by decide +kernel, by decide +kernel⟩, List.mem_of_getElem? (i := 626) (by decide +kernel), List.mem_of_getElem? (i := 792) (by decide +kernel), List.mem_of_getElem? (i := 793) (by decide +kernel)⟩
theorem lw_p18 : lw_okq (⟨"LaneLockModel", "rankOf", "(I)I"⟩, 39) := ⟨⟨by decide +kernel, by decide +kernel⟩, List.mem_of_getElem? (i := 626) (by decide +kernel), List.mem_of_getElem? (i := 797) (by decide +kernel), List.mem_of_getElem? (i := 798) (by decide +kernel)⟩
theorem lw_p19 : lw_okq (⟨"LaneLockModel", "free", "()I"⟩, 39) := ⟨⟨by decide +kernel, by decide +kernel⟩, List.mem_of_getElem? (i := 626) (by decide +kernel), List.mem_of_getElem? (i := 809) (by decide +kernel), List.mem_of_getElem? (i := 810) (by decide +kernel)⟩
theorem lw_p20 : lw_okq (⟨"LaneLockModel", "all", "()V"⟩, 39) := ⟨⟨by decide +kernel, by decide +kernel⟩, List.mem_of_getElem? (i := 626) (by decide +kernel), List.mem_of_getElem? (i := 821) (by decide +kernel), List.mem_of_getElem? (i := 822) (by decide +kernel)⟩
theorem lw_p21 : lw_okq (⟨"LaneLockModel", "fills", "()I"⟩, 39) := ⟨⟨by decide +kernel, by decide +kernel⟩, List.mem_of_getElem? (i := 626) (by decide +kernel), List.mem_of_getElem? (i := 825) (by decide +kernel), List.mem_of_getElem? (i := 826) (by decide +kernel)⟩
theorem lw_p22 : lw_okq (⟨"LaneLockModel", "empties", "()V"⟩, 39) := ⟨⟨by decide +kernel, by decide +kernel⟩, List.mem_of_getElem? (i := 626) (by decide +kernel), List.mem_of_getElem? (i := 829) (by decide +kernel), List.mem_of_getElem? (i := 830) (by decide +kernel)⟩
theorem lw_p23 : lw_okq (⟨"LaneLockModel", "isOther", "(I)Z"⟩, 39) := ⟨⟨by decide +kernel, by decide +kernel⟩, List.mem_of_getElem? (i := 626) (by decide +kernel), List.mem_of_getElem? (i := 833) (by decide +kernel), List.mem_of_getElem? (i := 834) (by decide +kernel)⟩
theorem lw_p24 : lw_okq (⟨"LaneLockModel", "goesIn", "(I)Z"⟩, 39) := ⟨⟨by decide +kernel, by decide +kernel⟩, List.mem_of_getElem? (i := 626) (by decide +kernel), List.mem_of_getElem? (i := 837) (by decide +kernel), List.mem_of_getElem? (i := 838) (by decide +kernel)⟩
theorem lw_p25 : lw_okq (⟨"LaneLockModel", "stepsOn", "(I)V"⟩, 39) := ⟨⟨by decide +kernel, by decide +kernel⟩, List.mem_of_getElem? (i := 626) (by decide +kernel), List.mem_of_getElem? (i := 841) (by decide +kernel), List.mem_of_getElem? (i := 842) (by decide +kernel)⟩
theorem lw_p26 : lw_okq (⟨"LaneLockModel", "keeps", "()V"⟩, 39) := ⟨⟨by decide +kernel, by decide +kernel⟩, List.mem_of_getElem? (i := 626) (by decide +kernel), List.mem_of_getElem? (i := 845) (by decide +kernel), List.mem_of_getElem? (i := 846) (by decide +kernel)⟩
theorem lw_p27 : lw_okq (⟨"LaneLockModel", "spends", "()I"⟩, 39) := ⟨⟨by decide +kernel, by decide +kernel⟩, List.mem_of_getElem? (i := 626) (by decide +kernel), List.mem_of_getElem? (i := 849) (by decide +kernel), List.mem_of_getElem? (i := 850) (by decide +kernel)⟩
theorem lw_p28 : lw_okq (⟨"LaneLockModel", "goesOn", "()V"⟩, 39) := ⟨⟨by decide +kernel, by decide +kernel⟩, List.mem_of_getElem? (i := 626) (by decide +kernel), List.mem_of_getElem? (i := 886) (by decide +kernel), List.mem_of_getElem? (i := 887) (by decide +kernel)⟩
theorem lw_p29 : lw_okq (⟨"LaneLockModel", "gathers", "(II)V"⟩, 39) := ⟨⟨by decide +kernel, by decide +kernel⟩, List.mem_of_getElem? (i := 626) (by decide +kernel), List.mem_of_getElem? (i := 890) (by decide +kernel), List.mem_of_getElem? (i := 891) (by decide +kernel)⟩
theorem lw_p30 : lw_okq (⟨"LaneLockModel", "frees", "()V"⟩, 39) := ⟨⟨by decide +kernel, by decide +kernel⟩, List.mem_of_getElem? (i := 626) (by decide +kernel), List.mem_of_getElem? (i := 906) (by decide +kernel), List.mem_of_getElem? (i := 907) (by decide +kernel)⟩
theorem lw_p31 : lw_okq (⟨"LaneLockModel", "canGo", "(IIII)Z"⟩, 39) := ⟨⟨by decide +kernel, by decide +kernel⟩, List.mem_of_getElem? (i := 626) (by decide +kernel), List.mem_of_getElem? (i := 910) (by decide +kernel), List.mem_of_getElem? (i := 911) (by decide +kernel)⟩
def lw_privs_2 : List (MethodName × Nat) := [(⟨"LaneLockModel", "isShip", "(I)Z"⟩, 39), (⟨"LaneLockModel", "spanOf", "(I)I"⟩, 39), (⟨"LaneLockModel", "rankOf", "(I)I"⟩, 39), (⟨"LaneLockModel", "free", "()I"⟩, 39), (⟨"LaneLockModel", "all", "()V"⟩, 39), (⟨"LaneLockModel", "fills", "()I"⟩, 39), (⟨"LaneLockModel", "empties", "()V"⟩, 39), (⟨"LaneLockModel", "isOther", "(I)Z"⟩, 39), (⟨"LaneLockModel", "goesIn", "(I)Z"⟩, 39), (⟨"LaneLockModel", "stepsOn", "(I)V"⟩, 39), (⟨"LaneLockModel", "keeps", "()V"⟩, 39), (⟨"LaneLockModel", "spends", "()I"⟩, 39), (⟨"LaneLockModel", "goesOn", "()V"⟩, 39), (⟨"LaneLockModel", "gathers", "(II)V"⟩, 39), (⟨"LaneLockModel", "frees", "()V"⟩, 39), (⟨"LaneLockModel", "canGo", "(IIII)Z"⟩, 39)]
theorem lw_r2 : ∀ q ∈ lw_privs_2, lw_okq q := List.forall_mem_cons.mpr ⟨lw_p16, List.forall_mem_cons.mpr ⟨lw_p17, List.forall_mem_cons.mpr ⟨lw_p18, List.forall_mem_cons.mpr ⟨lw_p19, List.forall_mem_cons.mpr ⟨lw_p20, List.forall_mem_cons.mpr ⟨lw_p21, List.forall_mem_cons.mpr ⟨lw_p22, List.forall_mem_cons.mpr ⟨lw_p23, List.forall_mem_cons.mpr ⟨lw_p24, List.forall_mem_cons.mpr ⟨lw_p25, List.forall_mem_cons.mpr ⟨lw_p26, List.forall_mem_cons.mpr ⟨lw_p27, List.forall_mem_cons.mpr ⟨lw_p28, List.forall_mem_cons.mpr ⟨lw_p29, List.forall_mem_cons.mpr ⟨lw_p30, List.forall_mem_cons.mpr ⟨lw_p31, fun _ h => absurd h List.not_mem_nil⟩⟩⟩⟩⟩⟩⟩⟩⟩⟩⟩⟩⟩⟩⟩⟩
theorem lw_p32 : lw_okq (⟨"LaneLockModel", "unlike", "(I)I"⟩, 39) := ⟨⟨by decide +kernel, by decide +kernel⟩, List.mem_of_getElem? (i := 626) (by decide +kernel), List.mem_of_getElem? (i := 921) (by decide +kernel), List.mem_of_getElem? (i := 922) (by decide +kernel)⟩
theorem lw_p33 : lw_okq (⟨"LaneLockModel", "images", "(Z)V"⟩, 39) := ⟨⟨by decide +kernel, by decide +kernel⟩, List.mem_of_getElem? (i := 626) (by decide +kernel), List.mem_of_getElem? (i := 933) (by decide +kernel), List.mem_of_getElem? (i := 934) (by decide +kernel)⟩
theorem lw_p34 : lw_okq (⟨"LaneLockModel", "moves", "(I[IIZ)I"⟩, 39) := ⟨⟨by decide +kernel, by decide +kernel⟩, List.mem_of_getElem? (i := 626) (by decide +kernel), List.mem_of_getElem? (i := 937) (by decide +kernel), List.mem_of_getElem? (i := 938) (by decide +kernel)⟩
def lw_privs_3 : List (MethodName × Nat) := [(⟨"LaneLockModel", "unlike", "(I)I"⟩, 39), (⟨"LaneLockModel", "images", "(Z)V"⟩, 39), (⟨"LaneLockModel", "moves", "(I[IIZ)I"⟩, 39)]
theorem lw_r3 : ∀ q ∈ lw_privs_3, lw_okq q := List.forall_mem_cons.mpr ⟨lw_p32, List.forall_mem_cons.mpr ⟨lw_p33, List.forall_mem_cons.mpr ⟨lw_p34, fun _ h => absurd h List.not_mem_nil⟩⟩⟩
def lw_privs : List (MethodName × Nat) := lw_privs_1 ++ (lw_privs_2 ++ (lw_privs_3))
def lw_tbl : List Cond := k2_sels lw_privs ++ tables_1
theorem lw_privs_ok : ∀ q ∈ lw_privs, lw_okq q := by
  show ∀ q ∈ lw_privs_1 ++ (lw_privs_2 ++ (lw_privs_3)), lw_okq q
  exact List.forall_mem_append.mpr ⟨lw_r1, List.forall_mem_append.mpr ⟨lw_r2, lw_r3⟩⟩
end
section
def RX0 : String := "LaneLock$Arrivals"
def TX0 : u_T := fun k => match k with
  | 0 => ("LaneLock$Arrivals", "keep", "LLaneLock$Keep;", true)
  | 1 => ("LaneLock$Arrivals", "filling", "LLaneLock$Filling;", true)
  | 2 => ("LaneLock$Arrivals", "order", "[I", true)
  | 3 => ("LaneLock$Arrivals", "waits", "[I", true)
  | 4 => ("LaneLock$Arrivals", "fillings", "I", false)
  | _ => ("LaneLock$Arrivals", "latest", "I", false)
def tyX0 : Nat → FieldType := fun k => match k with
  | 0 => .object "LaneLock$Keep"
  | 1 => .object "LaneLock$Filling"
  | 2 => .array .int
  | 3 => .array .int
  | 4 => .int
  | _ => .int
theorem nmX0 : ∀ a, a < 6 → ∀ b, b < 6 → a ≠ b → (TX0 a).2.1 ≠ (TX0 b).2.1 := by decide +kernel
theorem tyX0_ok : ∀ k, k < 6 → parseFieldDescriptor (TX0 k).2.2.1 = some (tyX0 k) := by decide +kernel
def RX1 : String := "LaneLock$Choice"
def TX1 : u_T := fun k => match k with
  | 0 => ("LaneLock$Choice", "keep", "LLaneLock$Keep;", true)
  | 1 => ("LaneLock$Choice", "ofOne", "LLaneLock$Filling;", true)
  | 2 => ("LaneLock$Choice", "ofBoth", "LLaneLock$Filling;", true)
  | 3 => ("LaneLock$Choice", "lanes", "[I", true)
  | 4 => ("LaneLock$Choice", "fewestFrom", "[I", true)
  | 5 => ("LaneLock$Choice", "leastFrom", "[I", true)
  | 6 => ("LaneLock$Choice", "fewest", "I", false)
  | 7 => ("LaneLock$Choice", "least", "I", false)
  | 8 => ("LaneLock$Choice", "ofFirst", "I", false)
  | _ => ("LaneLock$Choice", "ofSecond", "I", false)
def tyX1 : Nat → FieldType := fun k => match k with
  | 0 => .object "LaneLock$Keep"
  | 1 => .object "LaneLock$Filling"
  | 2 => .object "LaneLock$Filling"
  | 3 => .array .int
  | 4 => .array .int
  | 5 => .array .int
  | 6 => .int
  | 7 => .int
  | 8 => .int
  | _ => .int
theorem nmX1 : ∀ a, a < 10 → ∀ b, b < 10 → a ≠ b → (TX1 a).2.1 ≠ (TX1 b).2.1 := by decide +kernel
theorem tyX1_ok : ∀ k, k < 10 → parseFieldDescriptor (TX1 k).2.2.1 = some (tyX1 k) := by decide +kernel
def RX2 : String := "LaneLock$Filling"
def TX2 : u_T := fun k => match k with
  | 0 => ("LaneLock$Filling", "keep", "LLaneLock$Keep;", true)
  | 1 => ("LaneLock$Filling", "closed", "[I", true)
  | 2 => ("LaneLock$Filling", "who", "[I", true)
  | 3 => ("LaneLock$Filling", "rows", "[I", true)
  | 4 => ("LaneLock$Filling", "places", "[I", true)
  | 5 => ("LaneLock$Filling", "size", "I", false)
  | 6 => ("LaneLock$Filling", "loads", "I", false)
  | _ => ("LaneLock$Filling", "hasTanker", "Z", false)
def tyX2 : Nat → FieldType := fun k => match k with
  | 0 => .object "LaneLock$Keep"
  | 1 => .array .int
  | 2 => .array .int
  | 3 => .array .int
  | 4 => .array .int
  | 5 => .int
  | 6 => .int
  | _ => .boolean
theorem nmX2 : ∀ a, a < 8 → ∀ b, b < 8 → a ≠ b → (TX2 a).2.1 ≠ (TX2 b).2.1 := by decide +kernel
theorem tyX2_ok : ∀ k, k < 8 → parseFieldDescriptor (TX2 k).2.2.1 = some (tyX2 k) := by decide +kernel
def RX3 : String := "LaneLock$Keep"
def TX3 : u_T := fun k => match k with
  | 0 => ("LaneLock$Keep", "ships", "I", false)
  | 1 => ("LaneLock$Keep", "waiting", "I", false)
  | 2 => ("LaneLock$Keep", "gone", "I", false)
  | 3 => ("LaneLock$Keep", "kinds", "[I", true)
  | 4 => ("LaneLock$Keep", "lengths", "[I", true)
  | 5 => ("LaneLock$Keep", "firsts", "[I", true)
  | 6 => ("LaneLock$Keep", "loads", "[I", true)
  | 7 => ("LaneLock$Keep", "comes", "[I", true)
  | 8 => ("LaneLock$Keep", "lanes", "[I", true)
  | 9 => ("LaneLock$Keep", "by", "[I", true)
  | 10 => ("LaneLock$Keep", "settings", "[I", true)
  | 11 => ("LaneLock$Keep", "barred", "[I", true)
  | 12 => ("LaneLock$Keep", "caps", "[I", true)
  | 13 => ("LaneLock$Keep", "fillings", "I", false)
  | _ => ("LaneLock$Keep", "ledger", "[I", true)
def tyX3 : Nat → FieldType := fun k => match k with
  | 0 => .int
  | 1 => .int
  | 2 => .int
  | 3 => .array .int
  | 4 => .array .int
  | 5 => .array .int
  | 6 => .array .int
  | 7 => .array .int
  | 8 => .array .int
  | 9 => .array .int
  | 10 => .array .int
  | 11 => .array .int
  | 12 => .array .int
  | 13 => .int
  | _ => .array .int
theorem nmX3 : ∀ a, a < 15 → ∀ b, b < 15 → a ≠ b → (TX3 a).2.1 ≠ (TX3 b).2.1 := by decide +kernel
theorem tyX3_ok : ∀ k, k < 15 → parseFieldDescriptor (TX3 k).2.2.1 = some (tyX3 k) := by decide +kernel
def RX4 : String := "LaneLock$Sheet"
def TX4 : u_T := fun k => match k with
  | 0 => ("LaneLock$Sheet", "sort", "I", false)
  | 1 => ("LaneLock$Sheet", "size", "I", false)
  | _ => ("LaneLock$Sheet", "items", "[I", true)
def tyX4 : Nat → FieldType := fun k => match k with
  | 0 => .int
  | 1 => .int
  | _ => .array .int
theorem nmX4 : ∀ a, a < 3 → ∀ b, b < 3 → a ≠ b → (TX4 a).2.1 ≠ (TX4 b).2.1 := by decide +kernel
theorem tyX4_ok : ∀ k, k < 3 → parseFieldDescriptor (TX4 k).2.2.1 = some (tyX4 k) := by decide +kernel
def RX5 : String := "LaneLock"
def TX5 : u_T := fun k => match k with
  | 0 => ("LaneLock", "now", "LLaneLock$Keep;", true)
  | 1 => ("LaneLock", "kept", "LLaneLock$Keep;", true)
  | 2 => ("LaneLock", "hasImage", "Z", false)
  | 3 => ("LaneLock", "deeds", "[I", true)
  | 4 => ("LaneLock", "deedCount", "I", false)
  | 5 => ("LaneLock", "filling", "LLaneLock$Filling;", true)
  | 6 => ("LaneLock", "arrivals", "LLaneLock$Arrivals;", true)
  | 7 => ("LaneLock", "choice", "LLaneLock$Choice;", true)
  | _ => ("LaneLock", "sheets", "[LLaneLock$Sheet;", true)
def tyX5 : Nat → FieldType := fun k => match k with
  | 0 => .object "LaneLock$Keep"
  | 1 => .object "LaneLock$Keep"
  | 2 => .boolean
  | 3 => .array .int
  | 4 => .int
  | 5 => .object "LaneLock$Filling"
  | 6 => .object "LaneLock$Arrivals"
  | 7 => .object "LaneLock$Choice"
  | _ => .array (.object "LaneLock$Sheet")
theorem nmX5 : ∀ a, a < 9 → ∀ b, b < 9 → a ≠ b → (TX5 a).2.1 ≠ (TX5 b).2.1 := by decide +kernel
theorem tyX5_ok : ∀ k, k < 9 → parseFieldDescriptor (TX5 k).2.2.1 = some (tyX5 k) := by decide +kernel
def RX6 : String := "LaneLockModel"
def TX6 : u_T := fun k => match k with
  | 0 => ("LaneLockModel", "ships", "I", false)
  | 1 => ("LaneLockModel", "kind", "[I", true)
  | 2 => ("LaneLockModel", "length", "[I", true)
  | 3 => ("LaneLockModel", "first", "[I", true)
  | 4 => ("LaneLockModel", "load", "[I", true)
  | 5 => ("LaneLockModel", "comes", "[I", true)
  | 6 => ("LaneLockModel", "laneOf", "[I", true)
  | 7 => ("LaneLockModel", "state", "[I", true)
  | 8 => ("LaneLockModel", "by", "[I", true)
  | 9 => ("LaneLockModel", "lane", "[I", true)
  | 10 => ("LaneLockModel", "many", "[I", true)
  | 11 => ("LaneLockModel", "told", "[I", true)
  | 12 => ("LaneLockModel", "barred", "[Z", true)
  | 13 => ("LaneLockModel", "caps", "[I", true)
  | 14 => ("LaneLockModel", "ledgers", "I", false)
  | 15 => ("LaneLockModel", "ledger", "[I", true)
  | 16 => ("LaneLockModel", "deeds", "I", false)
  | 17 => ("LaneLockModel", "deed", "[I", true)
  | 18 => ("LaneLockModel", "imaged", "Z", false)
  | 19 => ("LaneLockModel", "old", "[I", true)
  | 20 => ("LaneLockModel", "stand", "[I", true)
  | 21 => ("LaneLockModel", "stands", "[I", true)
  | 22 => ("LaneLockModel", "taken", "[Z", true)
  | 23 => ("LaneLockModel", "went", "I", false)
  | 24 => ("LaneLockModel", "who", "[I", true)
  | 25 => ("LaneLockModel", "row", "[I", true)
  | 26 => ("LaneLockModel", "from", "[I", true)
  | 27 => ("LaneLockModel", "spot", "I", false)
  | 28 => ("LaneLockModel", "begins", "[I", true)
  | 29 => ("LaneLockModel", "begun", "I", false)
  | 30 => ("LaneLockModel", "last", "I", false)
  | 31 => ("LaneLockModel", "line", "[I", true)
  | 32 => ("LaneLockModel", "fewest", "[I", true)
  | 33 => ("LaneLockModel", "least", "[I", true)
  | 34 => ("LaneLockModel", "ofOne", "[I", true)
  | 35 => ("LaneLockModel", "ofOther", "[I", true)
  | 36 => ("LaneLockModel", "sort", "[I", true)
  | 37 => ("LaneLockModel", "size", "[I", true)
  | _ => ("LaneLockModel", "items", "[I", true)
def tyX6 : Nat → FieldType := fun k => match k with
  | 0 => .int
  | 1 => .array .int
  | 2 => .array .int
  | 3 => .array .int
  | 4 => .array .int
  | 5 => .array .int
  | 6 => .array .int
  | 7 => .array .int
  | 8 => .array .int
  | 9 => .array .int
  | 10 => .array .int
  | 11 => .array .int
  | 12 => .array .boolean
  | 13 => .array .int
  | 14 => .int
  | 15 => .array .int
  | 16 => .int
  | 17 => .array .int
  | 18 => .boolean
  | 19 => .array .int
  | 20 => .array .int
  | 21 => .array .int
  | 22 => .array .boolean
  | 23 => .int
  | 24 => .array .int
  | 25 => .array .int
  | 26 => .array .int
  | 27 => .int
  | 28 => .array .int
  | 29 => .int
  | 30 => .int
  | 31 => .array .int
  | 32 => .array .int
  | 33 => .array .int
  | 34 => .array .int
  | 35 => .array .int
  | 36 => .array .int
  | 37 => .array .int
  | _ => .array .int
theorem nmX6 : ∀ a, a < 39 → ∀ b, b < 39 → a ≠ b → (TX6 a).2.1 ≠ (TX6 b).2.1 := by decide +kernel
theorem tyX6_ok : ∀ k, k < 39 → parseFieldDescriptor (TX6 k).2.2.1 = some (tyX6 k) := by decide +kernel
abbrev cX0_init : ByteArray := prog_2_method_1_code
def yX0_init : MethodName := ⟨RX0, "<init>", "(LLaneLock$Keep;LLaneLock$Filling;)V"⟩
abbrev cX0_run : ByteArray := prog_2_method_2_code
def yX0_run : MethodName := ⟨RX0, "run", "()V"⟩
abbrev cX0_sortByComes : ByteArray := prog_2_method_3_code
def yX0_sortByComes : MethodName := ⟨RX0, "sortByComes", "()V"⟩
abbrev cX0_comeBy : ByteArray := prog_2_method_4_code
def yX0_comeBy : MethodName := ⟨RX0, "comeBy", "(II)I"⟩
abbrev cX0_nextComes : ByteArray := prog_2_method_5_code
def yX0_nextComes : MethodName := ⟨RX0, "nextComes", "(II)I"⟩
abbrev cX0_begin : ByteArray := prog_2_method_6_code
def yX0_begin : MethodName := ⟨RX0, "begin", "(II)V"⟩
abbrev cX0_waitOf : ByteArray := prog_2_method_7_code
def yX0_waitOf : MethodName := ⟨RX0, "waitOf", "(I)I"⟩
abbrev cX0_allWaits : ByteArray := prog_2_method_8_code
def yX0_allWaits : MethodName := ⟨RX0, "allWaits", "()I"⟩
abbrev cX0_inLine : ByteArray := prog_2_method_9_code
def yX0_inLine : MethodName := ⟨RX0, "inLine", "(I)I"⟩
abbrev cX0_ahead : ByteArray := prog_2_method_10_code
def yX0_ahead : MethodName := ⟨RX0, "ahead", "(I)I"⟩
abbrev cX1_init : ByteArray := prog_3_method_1_code
def yX1_init : MethodName := ⟨RX1, "<init>", "(LLaneLock$Keep;)V"⟩
abbrev cX1_run : ByteArray := prog_3_method_2_code
def yX1_run : MethodName := ⟨RX1, "run", "()V"⟩
abbrev cX1_settle : ByteArray := prog_3_method_3_code
def yX1_settle : MethodName := ⟨RX1, "settle", "(II)V"⟩
abbrev cX1_weigh : ByteArray := prog_3_method_4_code
def yX1_weigh : MethodName := ⟨RX1, "weigh", "(IIII)V"⟩
abbrev cX1_stateOf : ByteArray := prog_3_method_5_code
def yX1_stateOf : MethodName := ⟨RX1, "stateOf", "(II)I"⟩
abbrev cX2_init : ByteArray := prog_4_method_1_code
def yX2_init : MethodName := ⟨RX2, "<init>", "(LLaneLock$Keep;)V"⟩
abbrev cX2_begin : ByteArray := prog_4_method_2_code
def yX2_begin : MethodName := ⟨RX2, "begin", "()V"⟩
abbrev cX2_become : ByteArray := prog_4_method_3_code
def yX2_become : MethodName := ⟨RX2, "become", "(LLaneLock$Filling;)V"⟩
abbrev cX2_spends : ByteArray := prog_4_method_4_code
def yX2_spends : MethodName := ⟨RX2, "spends", "()I"⟩
abbrev cX2_enter : ByteArray := prog_4_method_5_code
def yX2_enter : MethodName := ⟨RX2, "enter", "(I)Z"⟩
abbrev cX2_run : ByteArray := prog_4_method_6_code
def yX2_run : MethodName := ⟨RX2, "run", "(I)I"⟩
abbrev cX2_firstRun : ByteArray := prog_4_method_7_code
def yX2_firstRun : MethodName := ⟨RX2, "firstRun", "(II)I"⟩
abbrev cX2_byRule : ByteArray := prog_4_method_8_code
def yX2_byRule : MethodName := ⟨RX2, "byRule", "(I[I)I"⟩
abbrev cX2_nextHead : ByteArray := prog_4_method_9_code
def yX2_nextHead : MethodName := ⟨RX2, "nextHead", "(II[II)I"⟩
abbrev cX2_head : ByteArray := prog_4_method_10_code
def yX2_head : MethodName := ⟨RX2, "head", "(II[I)I"⟩
abbrev cX2_isSecondTaken : ByteArray := prog_4_method_11_code
def yX2_isSecondTaken : MethodName := ⟨RX2, "isSecondTaken", "(III)Z"⟩
abbrev cX3_init : ByteArray := prog_5_method_1_code
def yX3_init : MethodName := ⟨RX3, "<init>", "()V"⟩
abbrev cX3_become : ByteArray := prog_5_method_2_code
def yX3_become : MethodName := ⟨RX3, "become", "(LLaneLock$Keep;)V"⟩
abbrev cX3_isShip : ByteArray := prog_5_method_3_code
def yX3_isShip : MethodName := ⟨RX3, "isShip", "(I)Z"⟩
abbrev cX3_isWaiting : ByteArray := prog_5_method_4_code
def yX3_isWaiting : MethodName := ⟨RX3, "isWaiting", "(I)Z"⟩
abbrev cX3_isGone : ByteArray := prog_5_method_5_code
def yX3_isGone : MethodName := ⟨RX3, "isGone", "(I)Z"⟩
abbrev cX3_waiter : ByteArray := prog_5_method_6_code
def yX3_waiter : MethodName := ⟨RX3, "waiter", "(II)I"⟩
abbrev cX3_waitersOf : ByteArray := prog_5_method_7_code
def yX3_waitersOf : MethodName := ⟨RX3, "waitersOf", "(I)I"⟩
abbrev cX3_span : ByteArray := prog_5_method_8_code
def yX3_span : MethodName := ⟨RX3, "span", "(I)I"⟩
abbrev cX3_rank : ByteArray := prog_5_method_9_code
def yX3_rank : MethodName := ⟨RX3, "rank", "(I)I"⟩
abbrev cX3_freePlaces : ByteArray := prog_5_method_10_code
def yX3_freePlaces : MethodName := ⟨RX3, "freePlaces", "()I"⟩
abbrev cX3_bound : ByteArray := prog_5_method_11_code
def yX3_bound : MethodName := ⟨RX3, "bound", "(I)I"⟩
abbrev cX3_allows : ByteArray := prog_5_method_12_code
def yX3_allows : MethodName := ⟨RX3, "allows", "(II)Z"⟩
abbrev cX3_dayFor : ByteArray := prog_5_method_13_code
def yX3_dayFor : MethodName := ⟨RX3, "dayFor", "(III)I"⟩
abbrev cX3_goneBy : ByteArray := prog_5_method_14_code
def yX3_goneBy : MethodName := ⟨RX3, "goneBy", "(II)V"⟩
abbrev cX3_takeBack : ByteArray := prog_5_method_15_code
def yX3_takeBack : MethodName := ⟨RX3, "takeBack", "(I)V"⟩
abbrev cX3_spentInAll : ByteArray := prog_5_method_16_code
def yX3_spentInAll : MethodName := ⟨RX3, "spentInAll", "()J"⟩
abbrev cX4_init : ByteArray := prog_6_method_1_code
def yX4_init : MethodName := ⟨RX4, "<init>", "()V"⟩
abbrev cX4_isMissing : ByteArray := prog_6_method_2_code
def yX4_isMissing : MethodName := ⟨RX4, "isMissing", "()Z"⟩
abbrev cX4_has : ByteArray := prog_6_method_3_code
def yX4_has : MethodName := ⟨RX4, "has", "(I)Z"⟩
abbrev cX4_hasRun : ByteArray := prog_6_method_4_code
def yX4_hasRun : MethodName := ⟨RX4, "hasRun", "(II)Z"⟩
abbrev cX4_become : ByteArray := prog_6_method_5_code
def yX4_become : MethodName := ⟨RX4, "become", "(II)V"⟩
abbrev cX4_write : ByteArray := prog_6_method_6_code
def yX4_write : MethodName := ⟨RX4, "write", "(II)V"⟩
abbrev cX5_init : ByteArray := prog_1_method_1_code
def yX5_init : MethodName := ⟨RX5, "<init>", "()V"⟩
abbrev cX5_ship : ByteArray := prog_1_method_2_code
def yX5_ship : MethodName := ⟨RX5, "ship", "(IIIII)I"⟩
abbrev cX5_set : ByteArray := prog_1_method_3_code
def yX5_set : MethodName := ⟨RX5, "set", "(II)I"⟩
abbrev cX5_bar : ByteArray := prog_1_method_4_code
def yX5_bar : MethodName := ⟨RX5, "bar", "(IIZ)I"⟩
abbrev cX5_cap : ByteArray := prog_1_method_5_code
def yX5_cap : MethodName := ⟨RX5, "cap", "(II)I"⟩
abbrev cX5_may : ByteArray := prog_1_method_6_code
def yX5_may : MethodName := ⟨RX5, "may", "(I)I"⟩
abbrev cX5_told : ByteArray := prog_1_method_7_code
def yX5_told : MethodName := ⟨RX5, "told", "(II)I"⟩
abbrev cX5_lane : ByteArray := prog_1_method_8_code
def yX5_lane : MethodName := ⟨RX5, "lane", "(II)I"⟩
abbrev cX5_count : ByteArray := prog_1_method_9_code
def yX5_count : MethodName := ⟨RX5, "count", "(I)I"⟩
abbrev cX5_taken : ByteArray := prog_1_method_10_code
def yX5_taken : MethodName := ⟨RX5, "taken", "(II)I"⟩
abbrev cX5_fill : ByteArray := prog_1_method_11_code
def yX5_fill : MethodName := ⟨RX5, "fill", "()I"⟩
abbrev cX5_next : ByteArray := prog_1_method_12_code
def yX5_next : MethodName := ⟨RX5, "next", "(II)I"⟩
abbrev cX5_water : ByteArray := prog_1_method_13_code
def yX5_water : MethodName := ⟨RX5, "water", "()J"⟩
abbrev cX5_spent : ByteArray := prog_1_method_14_code
def yX5_spent : MethodName := ⟨RX5, "spent", "(I)J"⟩
abbrev cX5_leave : ByteArray := prog_1_method_15_code
def yX5_leave : MethodName := ⟨RX5, "leave", "(I)I"⟩
abbrev cX5_undo : ByteArray := prog_1_method_16_code
def yX5_undo : MethodName := ⟨RX5, "undo", "()I"⟩
abbrev cX5_plan : ByteArray := prog_1_method_17_code
def yX5_plan : MethodName := ⟨RX5, "plan", "(I)I"⟩
abbrev cX5_drought : ByteArray := prog_1_method_18_code
def yX5_drought : MethodName := ⟨RX5, "drought", "()I"⟩
abbrev cX5_waits : ByteArray := prog_1_method_19_code
def yX5_waits : MethodName := ⟨RX5, "waits", "(I)I"⟩
abbrev cX5_line : ByteArray := prog_1_method_20_code
def yX5_line : MethodName := ⟨RX5, "line", "(I)I"⟩
abbrev cX5_day : ByteArray := prog_1_method_21_code
def yX5_day : MethodName := ⟨RX5, "day", "(I)I"⟩
abbrev cX5_freely : ByteArray := prog_1_method_22_code
def yX5_freely : MethodName := ⟨RX5, "freely", "(I)I"⟩
abbrev cX5_tells : ByteArray := prog_1_method_23_code
def yX5_tells : MethodName := ⟨RX5, "tells", "(III)I"⟩
abbrev cX5_film : ByteArray := prog_1_method_24_code
def yX5_film : MethodName := ⟨RX5, "film", "(II)I"⟩
abbrev cX5_image : ByteArray := prog_1_method_25_code
def yX5_image : MethodName := ⟨RX5, "image", "()I"⟩
abbrev cX5_back : ByteArray := prog_1_method_26_code
def yX5_back : MethodName := ⟨RX5, "back", "()I"⟩
abbrev cX5_sheet : ByteArray := prog_1_method_27_code
def yX5_sheet : MethodName := ⟨RX5, "sheet", "(III)I"⟩
abbrev cX5_put : ByteArray := prog_1_method_28_code
def yX5_put : MethodName := ⟨RX5, "put", "(III)I"⟩
abbrev cX5_copy : ByteArray := prog_1_method_29_code
def yX5_copy : MethodName := ⟨RX5, "copy", "(IIIII)I"⟩
abbrev cX5_load : ByteArray := prog_1_method_30_code
def yX5_load : MethodName := ⟨RX5, "load", "(IIII)I"⟩
abbrev cX5_isLane : ByteArray := prog_1_method_31_code
def yX5_isLane : MethodName := ⟨RX5, "isLane", "(I)Z"⟩
abbrev cX5_isKind : ByteArray := prog_1_method_32_code
def yX5_isKind : MethodName := ⟨RX5, "isKind", "(I)Z"⟩
abbrev cX5_isSetting : ByteArray := prog_1_method_33_code
def yX5_isSetting : MethodName := ⟨RX5, "isSetting", "(I)Z"⟩
abbrev cX5_isSheet : ByteArray := prog_1_method_34_code
def yX5_isSheet : MethodName := ⟨RX5, "isSheet", "(I)Z"⟩
abbrev cX5_isSort : ByteArray := prog_1_method_35_code
def yX5_isSort : MethodName := ⟨RX5, "isSort", "(I)Z"⟩
abbrev cX5_isUnder : ByteArray := prog_1_method_36_code
def yX5_isUnder : MethodName := ⟨RX5, "isUnder", "(II)Z"⟩
abbrev cX5_remember : ByteArray := prog_1_method_37_code
def yX5_remember : MethodName := ⟨RX5, "remember", "(I)V"⟩
abbrev cX5_firstOtherwise : ByteArray := prog_1_method_38_code
def yX5_firstOtherwise : MethodName := ⟨RX5, "firstOtherwise", "(LLaneLock$Sheet;)I"⟩
abbrev cX5_tried : ByteArray := prog_1_method_39_code
def yX5_tried : MethodName := ⟨RX5, "tried", "(LLaneLock$Sheet;[IIII)I"⟩
abbrev cX6_init : ByteArray := prog_8_method_1_code
def yX6_init : MethodName := ⟨RX6, "<init>", "()V"⟩
abbrev cX6_within : ByteArray := prog_8_method_2_code
def yX6_within : MethodName := ⟨RX6, "within", "(III)Z"⟩
abbrev cX6_isShip : ByteArray := prog_8_method_3_code
def yX6_isShip : MethodName := ⟨RX6, "isShip", "(I)Z"⟩
abbrev cX6_comesTo : ByteArray := prog_8_method_4_code
def yX6_comesTo : MethodName := ⟨RX6, "comesTo", "(IIIII)I"⟩
abbrev cX6_ship : ByteArray := prog_8_method_5_code
def yX6_ship : MethodName := ⟨RX6, "ship", "(IIIII)I"⟩
abbrev cX6_set : ByteArray := prog_8_method_6_code
def yX6_set : MethodName := ⟨RX6, "set", "(II)I"⟩
abbrev cX6_bar : ByteArray := prog_8_method_7_code
def yX6_bar : MethodName := ⟨RX6, "bar", "(IIZ)I"⟩
abbrev cX6_cap : ByteArray := prog_8_method_8_code
def yX6_cap : MethodName := ⟨RX6, "cap", "(II)I"⟩
abbrev cX6_mayOf : ByteArray := prog_8_method_9_code
def yX6_mayOf : MethodName := ⟨RX6, "mayOf", "(I)I"⟩
abbrev cX6_may : ByteArray := prog_8_method_10_code
def yX6_may : MethodName := ⟨RX6, "may", "(I)I"⟩
abbrev cX6_spanOf : ByteArray := prog_8_method_11_code
def yX6_spanOf : MethodName := ⟨RX6, "spanOf", "(I)I"⟩
abbrev cX6_rankOf : ByteArray := prog_8_method_12_code
def yX6_rankOf : MethodName := ⟨RX6, "rankOf", "(I)I"⟩
abbrev cX6_told : ByteArray := prog_8_method_13_code
def yX6_told : MethodName := ⟨RX6, "told", "(II)I"⟩
abbrev cX6_lane : ByteArray := prog_8_method_14_code
def yX6_lane : MethodName := ⟨RX6, "lane", "(II)I"⟩
abbrev cX6_free : ByteArray := prog_8_method_15_code
def yX6_free : MethodName := ⟨RX6, "free", "()I"⟩
abbrev cX6_count : ByteArray := prog_8_method_16_code
def yX6_count : MethodName := ⟨RX6, "count", "(I)I"⟩
abbrev cX6_taken : ByteArray := prog_8_method_17_code
def yX6_taken : MethodName := ⟨RX6, "taken", "(II)I"⟩
abbrev cX6_all : ByteArray := prog_8_method_18_code
def yX6_all : MethodName := ⟨RX6, "all", "()V"⟩
abbrev cX6_empties : ByteArray := prog_8_method_19_code
def yX6_empties : MethodName := ⟨RX6, "empties", "()V"⟩
abbrev cX6_goesIn : ByteArray := prog_8_method_20_code
def yX6_goesIn : MethodName := ⟨RX6, "goesIn", "(I)Z"⟩
abbrev cX6_isOther : ByteArray := prog_8_method_21_code
def yX6_isOther : MethodName := ⟨RX6, "isOther", "(I)Z"⟩
abbrev cX6_stepsOn : ByteArray := prog_8_method_22_code
def yX6_stepsOn : MethodName := ⟨RX6, "stepsOn", "(I)V"⟩
abbrev cX6_fills : ByteArray := prog_8_method_23_code
def yX6_fills : MethodName := ⟨RX6, "fills", "()I"⟩
abbrev cX6_spends : ByteArray := prog_8_method_24_code
def yX6_spends : MethodName := ⟨RX6, "spends", "()I"⟩
abbrev cX6_keeps : ByteArray := prog_8_method_25_code
def yX6_keeps : MethodName := ⟨RX6, "keeps", "()V"⟩
abbrev cX6_fill : ByteArray := prog_8_method_26_code
def yX6_fill : MethodName := ⟨RX6, "fill", "()I"⟩
abbrev cX6_next : ByteArray := prog_8_method_27_code
def yX6_next : MethodName := ⟨RX6, "next", "(II)I"⟩
abbrev cX6_water : ByteArray := prog_8_method_28_code
def yX6_water : MethodName := ⟨RX6, "water", "()J"⟩
abbrev cX6_spent : ByteArray := prog_8_method_29_code
def yX6_spent : MethodName := ⟨RX6, "spent", "(I)J"⟩
abbrev cX6_leave : ByteArray := prog_8_method_30_code
def yX6_leave : MethodName := ⟨RX6, "leave", "(I)I"⟩
abbrev cX6_undo : ByteArray := prog_8_method_31_code
def yX6_undo : MethodName := ⟨RX6, "undo", "()I"⟩
abbrev cX6_plan : ByteArray := prog_8_method_32_code
def yX6_plan : MethodName := ⟨RX6, "plan", "(I)I"⟩
abbrev cX6_drought : ByteArray := prog_8_method_33_code
def yX6_drought : MethodName := ⟨RX6, "drought", "()I"⟩
abbrev cX6_gathers : ByteArray := prog_8_method_34_code
def yX6_gathers : MethodName := ⟨RX6, "gathers", "(II)V"⟩
abbrev cX6_goesOn : ByteArray := prog_8_method_35_code
def yX6_goesOn : MethodName := ⟨RX6, "goesOn", "()V"⟩
abbrev cX6_waits : ByteArray := prog_8_method_36_code
def yX6_waits : MethodName := ⟨RX6, "waits", "(I)I"⟩
abbrev cX6_line : ByteArray := prog_8_method_37_code
def yX6_line : MethodName := ⟨RX6, "line", "(I)I"⟩
abbrev cX6_day : ByteArray := prog_8_method_38_code
def yX6_day : MethodName := ⟨RX6, "day", "(I)I"⟩
abbrev cX6_canGo : ByteArray := prog_8_method_39_code
def yX6_canGo : MethodName := ⟨RX6, "canGo", "(IIII)Z"⟩
abbrev cX6_frees : ByteArray := prog_8_method_40_code
def yX6_frees : MethodName := ⟨RX6, "frees", "()V"⟩
abbrev cX6_freely : ByteArray := prog_8_method_41_code
def yX6_freely : MethodName := ⟨RX6, "freely", "(I)I"⟩
abbrev cX6_isSheet : ByteArray := prog_8_method_42_code
def yX6_isSheet : MethodName := ⟨RX6, "isSheet", "(I)Z"⟩
abbrev cX6_unlike : ByteArray := prog_8_method_43_code
def yX6_unlike : MethodName := ⟨RX6, "unlike", "(I)I"⟩
abbrev cX6_tells : ByteArray := prog_8_method_44_code
def yX6_tells : MethodName := ⟨RX6, "tells", "(III)I"⟩
abbrev cX6_film : ByteArray := prog_8_method_45_code
def yX6_film : MethodName := ⟨RX6, "film", "(II)I"⟩
abbrev cX6_moves : ByteArray := prog_8_method_46_code
def yX6_moves : MethodName := ⟨RX6, "moves", "(I[IIZ)I"⟩
abbrev cX6_images : ByteArray := prog_8_method_47_code
def yX6_images : MethodName := ⟨RX6, "images", "(Z)V"⟩
abbrev cX6_image : ByteArray := prog_8_method_48_code
def yX6_image : MethodName := ⟨RX6, "image", "()I"⟩
abbrev cX6_back : ByteArray := prog_8_method_49_code
def yX6_back : MethodName := ⟨RX6, "back", "()I"⟩
abbrev cX6_sheet : ByteArray := prog_8_method_50_code
def yX6_sheet : MethodName := ⟨RX6, "sheet", "(III)I"⟩
abbrev cX6_put : ByteArray := prog_8_method_51_code
def yX6_put : MethodName := ⟨RX6, "put", "(III)I"⟩
abbrev cX6_copy : ByteArray := prog_8_method_52_code
def yX6_copy : MethodName := ⟨RX6, "copy", "(IIIII)I"⟩
abbrev cX6_load : ByteArray := prog_8_method_53_code
def yX6_load : MethodName := ⟨RX6, "load", "(IIII)I"⟩
def RJ6 : String := "java/lang/Integer"
abbrev cJ6_bitCount_0f7a4 : ByteArray := prog_10_method_49_code
def yJ6_bitCount_0f7a4 : MethodName := ⟨RJ6, "bitCount", "(I)I"⟩
def RJ9 : String := "java/lang/Math"
abbrev cJ9_max_7cf53 : ByteArray := prog_11_method_65_code
def yJ9_max_7cf53 : MethodName := ⟨RJ9, "max", "(II)I"⟩
abbrev cJ9_min_7cf53 : ByteArray := prog_11_method_69_code
def yJ9_min_7cf53 : MethodName := ⟨RJ9, "min", "(II)I"⟩
def RJ7 : String := "java/util/Arrays"
abbrev cJ7_fill_53178 : ByteArray := prog_13_method_103_code
def yJ7_fill_53178 : MethodName := ⟨RJ7, "fill", "([II)V"⟩
abbrev vwCl : List vw_C := [(RX0, TX0, 6), (RX1, TX1, 10), (RX2, TX2, 8), (RX3, TX3, 15), (RX4, TX4, 3), (RX5, TX5, 9), (RX6, TX6, 39)]
def x_tbl : List Cond := lw_tbl.filter goodWord
set_option maxRecDepth 20000 in
theorem x_in0 : ∀ w ∈ u_ws RX0 TX0 6, w ∈ x_tbl := by decide +kernel
set_option maxRecDepth 20000 in
theorem x_in1 : ∀ w ∈ u_ws RX1 TX1 10, w ∈ x_tbl := by decide +kernel
set_option maxRecDepth 20000 in
theorem x_in2 : ∀ w ∈ u_ws RX2 TX2 8, w ∈ x_tbl := by decide +kernel
set_option maxRecDepth 20000 in
theorem x_in3 : ∀ w ∈ u_ws RX3 TX3 15, w ∈ x_tbl := by decide +kernel
set_option maxRecDepth 20000 in
theorem x_in4 : ∀ w ∈ u_ws RX4 TX4 3, w ∈ x_tbl := by decide +kernel
set_option maxRecDepth 20000 in
theorem x_in5 : ∀ w ∈ u_ws RX5 TX5 9, w ∈ x_tbl := by decide +kernel
set_option maxRecDepth 20000 in
theorem x_in6 : ∀ w ∈ u_ws RX6 TX6 39, w ∈ x_tbl := by decide +kernel
def R_law : String := "LaneLockLaw"
def lw_P (b : Addr) (xs : List Int32) (args : Array Value) (s : State) : Prop := args = #[.ref b] ∧ s.IntsAt b xs ∧ xs.length ≤ 3072 ∧ (Jvm.Cond.and given_1 narrow_1).before args s = true
def lw_Q (_ : Array Value) (s : State) (o : Outcome) (t : State) : Prop := o = .returned (some (.int 1)) ∧ Framed s o t [] 600000 7302250
def lw_Z (below : List Frame) (a : Array Value) (s : State) : State → Prop := fun t => ∃ o, t.status = .running ∧ Ended t below o ∧ lw_Q a s o t
/-- the law's own end, with 1 on the stack, nothing written that was there before, its room as the claim has it -/
theorem lw_ret {p : Program} {l : Launch} {e : Env} {s : State} {m : MethodId} {below : List Frame} {meth : Method} {c : Code} {b : Nat} (hx : p.tables.exec = Jvm.exec) (hb : c.code = code) (hr : meth.sig.returnType = ret) (hlocks : meth.locks = false) {pc : Nat} {H : Heap} {ls : Array Slot} (hdg : decode code pc = .ok (.ireturn, 1)) : W p l e room_1 s m #[Value.ref b] below meth c H [] 600000 7302250 (lw_Z below #[Value.ref b] s) (F0 m pc ls [.int 1]) := by
  intro T hT X
  obtain ⟨fs, hret, hrun, hended, hW, hframe⟩ := X.leave (v := some (.int 1)) (hlocks := hlocks) (fun h => by rw [hr] at h; cases h)
  have hmeth' : T.vm.method? m = some meth := X.method'
  refine ⟨T.setFrames fs, ?_, .returned (some (.int 1)), hrun, hended, rfl, ⟨_, rfl⟩, hW, hframe⟩
  jvm_step X.here [X.here.top, hx, hb, hdg, hmeth', hr, ret, narrow_b1]
  (try refine ⟨rfl, ?_⟩); (try refine ⟨rfl, ?_⟩)
  first | (intro acts; rw [hret _ acts rfl rfl rfl]) | rw [hret _ _ rfl rfl rfl]
  exact Steps.refl _
/-- what holds at the law's entry: the machine, the code, the tables' words (any of lw_tbl by 'hts w (by decide +kernel)'), the script of L ints xs at the cell b, what the Statement gives of the start (any of its parts by flat_of_before) -/
def lw_At (p : Program) (s : State) (m : MethodId) (meth : Method) (c : Code) (b L : Nat) (xs : Nat → Int32) : Prop :=
  p.tables.exec = Jvm.exec ∧ c.code = code ∧ meth.sig.returnType = ret ∧ c.maxLocals = 4 ∧ s.vm.findClass R_law = some m.cls ∧ (∀ w ∈ lw_tbl, w.before #[Value.ref b] s = true) ∧ va_X b L xs s s.heap ∧ b < s.heap.size ∧ meth.locks = false ∧ (Jvm.Cond.and given_1 narrow_1).before #[Value.ref b] s = true
end
section
/-! own layer: abstract frames over one world of cells with fixed references; all that changes is a table of ints -/
abbrev xSg : Type := Nat → Nat → Int32
abbrev xF : Type := List (Option Value) × List Value × xSg
abbrev xSh : Type := Nat × Nat × List (Option Nat)
abbrev xLK : Type := List (Nat × Nat × Nat × Nat) × List (Nat × Nat) × List (Nat × Value) × List (Nat × Nat)
abbrev xM : Type := String × MethodName × ByteArray × Nat × Option FieldType × Nat × xLK × List (Nat × Instr × Nat)
abbrev xO : Type := Nat ⊕ (Nat × (Nat → Int32))
abbrev xR : Type := Option (List Prop × Nat × xF)
abbrev xM_own (M : xM) : String := M.1
abbrev xM_y (M : xM) : MethodName := M.2.1
abbrev xM_code (M : xM) : ByteArray := M.2.2.1
abbrev xM_maxL (M : xM) : Nat := M.2.2.2.1
abbrev xM_ret (M : xM) : Option FieldType := M.2.2.2.2.1
abbrev xM_lev (M : xM) : Nat := M.2.2.2.2.2.1
abbrev xM_lk (M : xM) : xLK := M.2.2.2.2.2.2.1
abbrev xM_tb (M : xM) : List (Nat × Instr × Nat) := M.2.2.2.2.2.2.2
def x_K : Nat := 89
def x_shl : List xSh := [(0, 5, [some 1, some 13, none, some 25, none, some 26, some 31, some 34, some 48]), (0, 3, [none, none, none, some 2, some 3, some 4, some 5, some 6, some 7, some 8, some 9, some 10, some 11, none, some 12]), (1, 10, []), (1, 10, []), (1, 10, []), (1, 10, []), (1, 10, []), (1, 10, []), (1, 10, []), (1, 5, []), (1, 3, []), (1, 100, []), (1, 40, []), (0, 3, [none, none, none, some 14, some 15, some 16, some 17, some 18, some 19, some 20, some 21, some 22, some 23, none, some 24]), (1, 10, []), (1, 10, []), (1, 10, []), (1, 10, []), (1, 10, []), (1, 10, []), (1, 10, []), (1, 5, []), (1, 3, []), (1, 100, []), (1, 40, []), (1, 6, []), (0, 2, [some 1, some 27, some 28, some 29, some 30, none, none, none]), (1, 3, []), (1, 10, []), (1, 10, []), (1, 10, []), (0, 0, [some 1, some 26, some 32, some 33, none, none]), (1, 10, []), (1, 10, []), (0, 1, [some 1, some 38, some 43, some 35, some 36, some 37, none, none, none, none]), (1, 2, []), (1, 121, []), (1, 121, []), (0, 2, [some 1, some 39, some 40, some 41, some 42, none, none, none]), (1, 3, []), (1, 10, []), (1, 10, []), (1, 10, []), (0, 2, [some 1, some 44, some 45, some 46, some 47, none, none, none]), (1, 3, []), (1, 10, []), (1, 10, []), (1, 10, []), (3, 4, [some 49, some 51, some 53, some 55]), (0, 4, [none, none, some 50]), (1, 40, []), (0, 4, [none, none, some 52]), (1, 40, []), (0, 4, [none, none, some 54]), (1, 40, []), (0, 4, [none, none, some 56]), (1, 40, []), (0, 6, [none, some 58, some 59, some 60, some 61, some 62, some 63, some 64, some 65, some 66, some 67, some 68, some 69, some 70, none, some 71, none, some 72, none, some 73, some 74, some 75, some 76, none, some 77, some 78, some 79, none, some 80, none, none, some 81, some 82, some 83, some 84, some 85, some 86, some 87, some 88]), (1, 10, []), (1, 10, []), (1, 10, []), (1, 10, []), (1, 10, []), (1, 10, []), (1, 10, []), (1, 10, []), (1, 20, []), (1, 2, []), (1, 5, []), (2, 60, []), (1, 100, []), (1, 40, []), (1, 258, []), (1, 320, []), (1, 20, []), (1, 2, []), (2, 60, []), (1, 10, []), (1, 10, []), (1, 10, []), (1, 10, []), (1, 10, []), (1, 121, []), (1, 121, []), (1, 121, []), (1, 121, []), (1, 4, []), (1, 4, []), (1, 160, [])]
def x_cst : List (List Int32) := [[-1, 0, 1, 0, 3, 1], [1, 1, 1, 1, 0], [20, 3, 99, 60, 4], [10, 2, 5, 10, 0], [0, 1, 2, 3, 4, 5, 6, 7, 8, 9]]
def x_csn : List String := ["UNDER", "LEAST_SETTING", "MOST_SETTING", "FIRST_SETTING", "BY_NUMBER"]
def x_nth {α : Type} : List α → Nat → Option α
  | [], _ => none
  | a :: _, 0 => some a
  | _ :: l, i + 1 => x_nth l i
def x_sh (k : Nat) : xSh := match x_nth x_shl k with
  | some r => r
  | none => (9, 0, [])
def x_lk {α : Type} : List (Nat × α) → Nat → Option α
  | [], _ => none
  | (j, a) :: l, i => bif Nat.beq i j then some a else x_lk l i
def x_up (σ : xSg) (k : Nat) (g : Nat → Int32) : xSg := fun k' => if k' = k then g else σ k'
def x_cv (ad : Nat → Nat) : Value → Value
  | .ref k => .ref (ad k)
  | v => v
def x_get : List (Option Value) → Nat → Option Value
  | [], _ => none
  | a :: _, 0 => a
  | _ :: l, i + 1 => x_get l i
def x_set : List (Option Value) → Nat → Option Value → List (Option Value)
  | [], _, _ => []
  | _ :: l, 0, a => a :: l
  | b :: l, i + 1, a => b :: x_set l i a
def x_two (v : Option Value) : Bool := match v with
  | some (.long _) => true
  | some (.double _) => true
  | _ => false
def x_plg (L : List (Option Value)) (i : Nat) : Bool := match i with
  | 0 => false
  | j + 1 => x_two (x_get L j)
def x_cat (st : List Value) : Nat := (st.map fun v => v.category).sum
/-! one instruction -/
def x_psh (v : Value) (pc : Nat) (f : xF) : xR := some ([], pc, f.1, v :: f.2.1, f.2.2)
def x_bin (g : Int32 → Int32 → Int32) (pc : Nat) (f : xF) : xR := match f.2.1 with
  | .int y :: .int x :: st => some ([], pc + 1, f.1, .int (g x y) :: st, f.2.2)
  | _ => none
def x_dv (g : Int32 → Int32 → Int32) (pc : Nat) (f : xF) : xR := match f.2.1 with
  | .int y :: .int x :: st => some ([¬ y = 0], pc + 1, f.1, .int (g x y) :: st, f.2.2)
  | _ => none
def x_bil (g : Int64 → Int64 → Value) (pc : Nat) (f : xF) : xR := match f.2.1 with
  | .long y :: .long x :: st => some ([], pc + 1, f.1, g x y :: st, f.2.2)
  | _ => none
def x_uni (g : Int32 → Value) (pc : Nat) (f : xF) : xR := match f.2.1 with
  | .int x :: st => some ([], pc + 1, f.1, g x :: st, f.2.2)
  | _ => none
def x_l2i (pc : Nat) (f : xF) : xR := match f.2.1 with
  | .long x :: st => some ([], pc + 1, f.1, .int x.toInt32 :: st, f.2.2)
  | _ => none
def x_ldi (i pc : Nat) (f : xF) : xR := match x_get f.1 i with
  | some (.int x) => some ([], pc, f.1, .int x :: f.2.1, f.2.2)
  | _ => none
def x_ldl (i pc : Nat) (f : xF) : xR := match x_get f.1 i with
  | some (.long x) => some ([], pc, f.1, .long x :: f.2.1, f.2.2)
  | _ => none
def x_lda (i pc : Nat) (f : xF) : xR := match x_get f.1 i with
  | some (.ref x) => some ([], pc, f.1, .ref x :: f.2.1, f.2.2)
  | _ => none
def x_sti (nL i pc : Nat) (f : xF) : xR := match f.2.1 with
  | .int x :: st => bif Nat.blt i nL && !x_plg f.1 i then some ([], pc, x_set f.1 i (some (.int x)), st, f.2.2) else none
  | _ => none
def x_stl (nL i pc : Nat) (f : xF) : xR := match f.2.1 with
  | .long x :: st => bif Nat.blt (i + 1) nL && !x_plg f.1 i then some ([], pc, x_set (x_set f.1 i (some (.long x))) (i + 1) none, st, f.2.2) else none
  | _ => none
def x_sta (nL i pc : Nat) (f : xF) : xR := match f.2.1 with
  | .ref x :: st => bif Nat.blt i nL && !x_plg f.1 i then some ([], pc, x_set f.1 i (some (.ref x)), st, f.2.2) else none
  | _ => none
def x_inc (nL i : Nat) (n : Int) (pc : Nat) (f : xF) : xR := match x_get f.1 i with
  | some (.int x) => bif Nat.blt i nL && !x_plg f.1 i then some ([], pc + 3, x_set f.1 i (some (.int (x + Int32.ofInt n))), f.2.1, f.2.2) else none
  | _ => none
def x_one (v : Value) : Bool := Nat.beq v.category 1
def x_dup (pc : Nat) (f : xF) : xR := match f.2.1 with
  | a :: st => bif x_one a then some ([], pc + 1, f.1, a :: a :: st, f.2.2) else none
  | _ => none
def x_pop (pc : Nat) (f : xF) : xR := match f.2.1 with
  | a :: st => bif x_one a then some ([], pc + 1, f.1, st, f.2.2) else none
  | _ => none
def x_dup2 (pc : Nat) (f : xF) : xR := match f.2.1 with
  | a :: b :: st => bif x_one a && x_one b then some ([], pc + 1, f.1, a :: b :: a :: b :: st, f.2.2) else none
  | _ => none
def x_dpx (pc : Nat) (f : xF) : xR := match f.2.1 with
  | a :: b :: st => bif x_one a && x_one b then some ([], pc + 1, f.1, a :: b :: a :: st, f.2.2) else none
  | _ => none
def x_gf (X : xLK) (idx pc : Nat) (f : xF) : xR := match f.2.1 with
  | .ref k :: st => match x_lk X.1 idx with
    | some (c, i, _) => match x_sh k with
      | (0, c', rs) => bif Nat.beq c c' then (match x_nth rs i with
        | some (some r) => some ([], pc + 3, f.1, .ref r :: st, f.2.2)
        | some none => some ([], pc + 3, f.1, .int (f.2.2 k i) :: st, f.2.2)
        | none => none) else none
      | _ => none
    | none => none
  | _ => none
def x_pf (X : xLK) (idx pc : Nat) (f : xF) : xR := match f.2.1 with
  | .int x :: .ref k :: st => match x_lk X.1 idx with
    | some (c, i, t) => match x_sh k with
      | (0, c', rs) => bif Nat.beq c c' then (match x_nth rs i with
        | some none => match t with
          | 0 => some ([], pc + 3, f.1, st, x_up f.2.2 k (upd (f.2.2 k) i x))
          | 1 => some ([x = 0 ∨ x = 1], pc + 3, f.1, st, x_up f.2.2 k (upd (f.2.2 k) i x))
          | _ => none
        | _ => none) else none
      | _ => none
    | none => none
  | _ => none
def x_gs (X : xLK) (idx pc : Nat) (f : xF) : xR := match x_lk X.2.1 idx with
  | some j => some ([], pc + 3, f.1, .ref (100 + j) :: f.2.1, f.2.2)
  | none => none
def x_ldc (X : xLK) (idx pc : Nat) (f : xF) : xR := match x_lk X.2.2.1 idx with
  | some (.int v) => some ([], pc + 2, f.1, .int v :: f.2.1, f.2.2)
  | _ => none
def x_ldw (X : xLK) (idx pc : Nat) (f : xF) : xR := match x_lk X.2.2.1 idx with
  | some (.int v) => some ([], pc + 3, f.1, .int v :: f.2.1, f.2.2)
  | _ => none
def x_ldc2 (X : xLK) (idx pc : Nat) (f : xF) : xR := match x_lk X.2.2.1 idx with
  | some (.long v) => some ([], pc + 3, f.1, .long v :: f.2.1, f.2.2)
  | _ => none
def x_rd (o : xO) (σ : xSg) (k : Nat) : Option (Nat × (Nat → Int32)) := match x_sh k with
  | (1, n, _) => some (n, σ k)
  | _ => bif Nat.beq k 99 then (match o with
      | .inr (n, xs) => some (n, xs)
      | .inl _ => none)
    else bif Nat.ble 100 k then (match x_nth x_cst (k - 100) with
      | some l => some (l.length, fun i => l.getD i 0)
      | none => none)
    else none
def x_ial (o : xO) (pc : Nat) (f : xF) : xR := match f.2.1 with
  | .int i :: .ref k :: st => match x_rd o f.2.2 k with
    | some (n, g) => some ([vp_in i n], pc + 1, f.1, .int (g i.toNatClampNeg) :: st, f.2.2)
    | none => none
  | _ => none
def x_len (o : xO) (pc : Nat) (f : xF) : xR := match f.2.1 with
  | .ref k :: st => match x_rd o f.2.2 k with
    | some (n, _) => some ([], pc + 1, f.1, .int (Int32.ofNat n) :: st, f.2.2)
    | none => none
  | _ => none
def x_bal (pc : Nat) (f : xF) : xR := match f.2.1 with
  | .int i :: .ref k :: st => match x_sh k with
    | (2, n, _) => some ([vp_in i n], pc + 1, f.1, .int (f.2.2 k i.toNatClampNeg) :: st, f.2.2)
    | _ => none
  | _ => none
def x_ias (pc : Nat) (f : xF) : xR := match f.2.1 with
  | .int x :: .int i :: .ref k :: st => match x_sh k with
    | (1, n, _) => some ([vp_in i n], pc + 1, f.1, st, x_up f.2.2 k (upd (f.2.2 k) i.toNatClampNeg x))
    | _ => none
  | _ => none
def x_bas (pc : Nat) (f : xF) : xR := match f.2.1 with
  | .int x :: .int i :: .ref k :: st => match x_sh k with
    | (2, n, _) => some ([vp_in i n, x = 0 ∨ x = 1], pc + 1, f.1, st, x_up f.2.2 k (upd (f.2.2 k) i.toNatClampNeg x))
    | _ => none
  | _ => none
def x_aal (pc : Nat) (f : xF) : xR := match f.2.1 with
  | .int i :: .ref k :: st => match x_sh k with
    | (3, n, rs) => match x_nth rs i.toNatClampNeg with
      | some (some r) => some ([vp_in i n], pc + 1, f.1, .ref r :: st, f.2.2)
      | _ => none
    | _ => none
  | _ => none
def x_mx (x y : Int32) : Int32 := if x < y then y else x
def x_mn (x y : Int32) : Int32 := if y < x then y else x
def x_nat (o : xO) (X : xLK) (idx pc : Nat) (f : xF) : xR := match o with
  | .inl (_ + 1) => match x_lk X.2.2.2 idx with
    | some 0 => match f.2.1 with
      | .int y :: .int x :: st => bif Nat.ble (x_cat st) 8 then some ([], pc + 3, f.1, .int (x_mx x y) :: st, f.2.2) else none
      | _ => none
    | some 1 => match f.2.1 with
      | .int y :: .int x :: st => bif Nat.ble (x_cat st) 8 then some ([], pc + 3, f.1, .int (x_mn x y) :: st, f.2.2) else none
      | _ => none
    | some 2 => match f.2.1 with
      | .int n :: .int dp :: .ref k1 :: .int sp :: .ref k0 :: st => match x_sh k0, x_sh k1 with
        | (1, n0, _), (1, n1, _) => bif Nat.ble (x_cat st) 8 then some ([¬ sp < 0, ¬ dp < 0, ¬ n < 0, sp.toNatClampNeg + n.toNatClampNeg ≤ n0, dp.toNatClampNeg + n.toNatClampNeg ≤ n1], pc + 3, f.1, st, x_up f.2.2 k1 (va_cpy (f.2.2 k0) (f.2.2 k1) sp.toNatClampNeg dp.toNatClampNeg n.toNatClampNeg)) else none
        | _, _ => none
      | _ => none
    | _ => none
  | _ => none
def x_gt (off : Int) (pc : Nat) (f : xF) : xR := match (pc : Int) + off with
  | .ofNat t => some ([], t, f)
  | _ => none
def x_ln : Instr → Nat
  | .bipush _ => 2
  | .sipush _ => 3
  | .ldc _ => 2
  | .ldc_w _ => 3
  | .ldc2_w _ => 3
  | .iload _ => 2
  | .lload _ => 2
  | .aload _ => 2
  | .istore _ => 2
  | .lstore _ => 2
  | .astore _ => 2
  | .iinc _ _ => 3
  | .getfield _ => 3
  | .putfield _ => 3
  | .getstatic _ => 3
  | .invokestatic _ => 3
  | .goto _ => 3
  | _ => 1
def x_stp (o : xO) (nL : Nat) (X : xLK) (pc : Nat) (i : Instr) (f : xF) : xR := match i with
  | .iconst z => x_psh (.int (Int32.ofInt z)) (pc + 1) f
  | .bipush z => x_psh (.int (Int8.ofInt z).toInt32) (pc + 2) f
  | .sipush z => x_psh (.int (Int16.ofInt z).toInt32) (pc + 3) f
  | .lconst k => x_psh (.long (Int64.ofNat (k : Nat))) (pc + 1) f
  | .ldc k => x_ldc X k pc f
  | .ldc_w k => x_ldw X k pc f
  | .ldc2_w k => x_ldc2 X k pc f
  | .iload k => x_ldi k (pc + 2) f
  | .iload_n k => x_ldi (k : Nat) (pc + 1) f
  | .lload k => x_ldl k (pc + 2) f
  | .lload_n k => x_ldl (k : Nat) (pc + 1) f
  | .aload k => x_lda k (pc + 2) f
  | .aload_n k => x_lda (k : Nat) (pc + 1) f
  | .istore k => x_sti nL k (pc + 2) f
  | .istore_n k => x_sti nL (k : Nat) (pc + 1) f
  | .lstore k => x_stl nL k (pc + 2) f
  | .lstore_n k => x_stl nL (k : Nat) (pc + 1) f
  | .astore k => x_sta nL k (pc + 2) f
  | .astore_n k => x_sta nL (k : Nat) (pc + 1) f
  | .iinc k n => x_inc nL k n pc f
  | .iadd => x_bin (fun x y => x + y) pc f
  | .isub => x_bin (fun x y => x - y) pc f
  | .imul => x_bin (fun x y => x * y) pc f
  | .iand => x_bin (fun x y => x &&& y) pc f
  | .ior => x_bin (fun x y => x ||| y) pc f
  | .ixor => x_bin (fun x y => x ^^^ y) pc f
  | .ishl => x_bin (fun x y => x <<< (y &&& 31)) pc f
  | .ishr => x_bin (fun x y => x >>> (y &&& 31)) pc f
  | .iushr => x_bin (fun x y => (x.toUInt32 >>> (y.toUInt32 &&& Int32.toUInt32 31)).toInt32) pc f
  | .idiv => x_dv (fun x y => x / y) pc f
  | .irem => x_dv (fun x y => x - x / y * y) pc f
  | .ladd => x_bil (fun x y => .long (x + y)) pc f
  | .lmul => x_bil (fun x y => .long (x * y)) pc f
  | .lcmp => x_bil (fun x y => .int (lg_cmp x y)) pc f
  | .i2l => x_uni (fun x => .long x.toInt64) pc f
  | .i2b => x_uni (fun x => .int x.toInt8.toInt32) pc f
  | .l2i => x_l2i pc f
  | .dup => x_dup pc f
  | .pop => x_pop pc f
  | .dup2 => x_dup2 pc f
  | .dup_x1 => x_dpx pc f
  | .getfield k => x_gf X k pc f
  | .putfield k => x_pf X k pc f
  | .getstatic k => x_gs X k pc f
  | .iaload => x_ial o pc f
  | .arraylength => x_len o pc f
  | .baload => x_bal pc f
  | .iastore => x_ias pc f
  | .bastore => x_bas pc f
  | .aaload => x_aal pc f
  | .invokestatic k => x_nat o X k pc f
  | .goto off => x_gt off pc f
  | _ => none
def x_blk (o : xO) (M : xM) : Nat → Nat → xF → xR
  | 0, pc, f => some ([], pc, f)
  | n + 1, pc, f => match x_lk (xM_tb M) pc with
    | none => none
    | some (i, len) => bif Nat.beq len (x_ln i) then (match x_stp o (xM_maxL M) (xM_lk M) pc i f with
      | none => none
      | some (P, pc', f') => match x_blk o M n pc' f' with
        | none => none
        | some (Ps, r) => some (P ++ Ps, r)) else none
def x_cmp : Jvm.ClassFile.Cond → Int32 → Int32 → Prop
  | .eq, x, y => x = y
  | .ne, x, y => ¬ x = y
  | .lt, x, y => x < y
  | .ge, x, y => y ≤ x
  | .gt, x, y => y < x
  | .le, x, y => x ≤ y
def x_br (i : Instr) (st : List Value) : Option (Prop × Int × List Value) := match i with
  | .if_icmp k off => match st with
    | .int y :: .int x :: st => some (x_cmp k x y, off, st)
    | _ => none
  | .ifCond k off => match st with
    | .int x :: st => some (x_cmp k x 0, off, st)
    | _ => none
  | _ => none
def x_bbr (o : xO) (M : xM) (n pc : Nat) (f : xF) : Option (List Prop × Prop × Nat × Nat × xF) := match x_blk o M n pc f with
  | none => none
  | some (Ps, pc', f') => match x_lk (xM_tb M) pc' with
    | none => none
    | some (i, len) => bif Nat.beq len 3 then (match x_br i f'.2.1 with
      | none => none
      | some (P, off, st) => match (pc' : Int) + off with
        | .ofNat t => some (Ps, P, t, pc' + 3, (f'.1, st, f'.2.2))
        | _ => none) else none
def x_conj : List Prop → Prop
  | [] => True
  | [a] => a
  | a :: b :: l => a ∧ x_conj (b :: l)
end
section
/-! the world of cells, the locals, what a method's context holds -/
theorem x_nth_eq {α : Type} : ∀ (l : List α) (i : Nat), x_nth l i = l[i]?
  | [], i => by simp [x_nth]
  | a :: l, 0 => by simp [x_nth]
  | a :: l, i + 1 => by simp [x_nth, x_nth_eq l i]
theorem x_lk_mem {α : Type} : ∀ {l : List (Nat × α)} {i : Nat} {a : α}, x_lk l i = some a → (i, a) ∈ l
  | [], _, _, h => by simp [x_lk] at h
  | (j, b) :: l, i, a, h => by
    unfold x_lk at h
    cases hb : Nat.beq i j with
    | true =>
      rw [hb] at h
      have hij : i = j := Nat.eq_of_beq_eq_true hb
      cases h
      rw [hij]
      exact List.mem_cons_self
    | false =>
      rw [hb] at h
      exact List.mem_cons_of_mem _ (x_lk_mem h)
theorem x_shl_len : x_shl.length = x_K := by decide +kernel
theorem x_sh_lt {k t n : Nat} {rs : List (Option Nat)} (h : x_sh k = (t, n, rs)) (ht : t ≠ 9) : k < x_K := by
  unfold x_sh at h
  rw [x_nth_eq] at h
  rw [← x_shl_len]
  cases hk : x_shl[k]? with
  | none =>
    rw [hk] at h
    cases h
    exact absurd rfl ht
  | some r => exact (List.getElem?_eq_some_iff.mp hk).1
def x_fs (ad : Nat → Nat) (f : Nat → Int32) : Nat → List (Option Nat) → List Value
  | _, [] => []
  | i, some r :: l => .ref (ad r) :: x_fs ad f (i + 1) l
  | i, none :: l => .int (f i) :: x_fs ad f (i + 1) l
def x_rf (ad : Nat → Nat) (rs : List (Option Nat)) (i : Nat) : Option Nat := match x_nth rs i with
  | some r => r.map ad
  | none => none
def x_ent (ca : Nat → ClassId) (ad : Nat → Nat) (σ : xSg) (k : Nat) : va_E := match x_sh k with
  | (0, c, rs) => .inr (c, x_fs ad (σ k) 0 rs)
  | (3, n, rs) => .inl (ca k, n, .inr (.inr (.inr (.inr (x_rf ad rs)))))
  | (_, n, _) => .inl (ca k, n, .inl (σ k))
def x_wl (ca : Nat → ClassId) (ad : Nat → Nat) (σ : xSg) : va_W := (List.range x_K).map fun k => (ad k, x_ent ca ad σ k)
def x_ety (k : Nat) : FieldType := match (x_sh k).1 with
  | 2 => .boolean
  | 3 => .object "LaneLock$Sheet"
  | _ => .int
def x_tys (ca : Nat → ClassId) : List (ClassId × FieldType) := ((List.range x_K).filter fun k => !(Nat.beq (x_sh k).1 0)).map fun k => (ca k, x_ety k)
theorem x_wl_at {ca : Nat → ClassId} {ad : Nat → Nat} {σ : xSg} {k : Nat} (h : k < x_K) : (x_wl ca ad σ)[k]? = some (ad k, x_ent ca ad σ k) := by
  unfold x_wl
  rw [List.getElem?_map, List.getElem?_range h]
  rfl
theorem x_wl_len {ca : Nat → ClassId} {ad : Nat → Nat} {σ : xSg} : (x_wl ca ad σ).length = x_K := by simp [x_wl]
theorem x_wl_set {ca : Nat → ClassId} {ad : Nat → Nat} {σ σ' : xSg} {k : Nat} {e : va_E} (h : k < x_K) (ho : ∀ j, j ≠ k → σ' j = σ j) (he : e = x_ent ca ad σ' k) : (x_wl ca ad σ).set k (ad k, e) = x_wl ca ad σ' := by
  apply List.ext_getElem?
  intro j
  by_cases hj : j = k
  · subst hj
    rw [List.getElem?_set_self (by rw [x_wl_len]; exact h), x_wl_at h, he]
  · rw [List.getElem?_set_ne (Ne.symm hj)]
    by_cases hl : j < x_K
    · rw [x_wl_at hl, x_wl_at hl]
      unfold x_ent
      rw [ho j hj]
    · rw [List.getElem?_eq_none (by rw [x_wl_len]; omega), List.getElem?_eq_none (by rw [x_wl_len]; omega)]
theorem x_up_ne {σ : xSg} {k j : Nat} {g : Nat → Int32} (h : j ≠ k) : x_up σ k g j = σ j := by unfold x_up; rw [if_neg h]
theorem x_up_eq {σ : xSg} {k : Nat} {g : Nat → Int32} : x_up σ k g k = g := by unfold x_up; rw [if_pos rfl]
theorem x_tys_at (ca : Nat → ClassId) {k t n : Nat} {rs : List (Option Nat)} (h : x_sh k = (t, n, rs)) (h0 : t ≠ 0) (h9 : t ≠ 9) : ∃ i : Nat, (x_tys ca)[i]? = some (ca k, x_ety k) := by
  have hm : (ca k, x_ety k) ∈ x_tys ca := List.mem_map.mpr ⟨k, List.mem_filter.mpr ⟨List.mem_range.mpr (x_sh_lt h h9), by rw [h]; cases t with
    | zero => exact absurd rfl h0
    | succ t => rfl⟩, rfl⟩
  obtain ⟨i, hi⟩ := List.getElem?_of_mem hm
  exact ⟨i, hi⟩
theorem x_fs_congr (ad : Nat → Nat) {f g : Nat → Int32} : ∀ (rs : List (Option Nat)) (j : Nat), (∀ i, j ≤ i → f i = g i) → x_fs ad f j rs = x_fs ad g j rs
  | [], _, _ => rfl
  | some r :: l, j, h => by simp only [x_fs]; rw [x_fs_congr ad l (j + 1) (fun i hi => h i (by omega))]
  | none :: l, j, h => by simp only [x_fs]; rw [x_fs_congr ad l (j + 1) (fun i hi => h i (by omega)), h j (Nat.le_refl _)]
theorem x_fs_int (ad : Nat → Nat) (f : Nat → Int32) : ∀ (rs : List (Option Nat)) (j i : Nat), x_nth rs i = some none → (x_fs ad f j rs)[i]? = some (.int (f (j + i)))
  | [], _, _, h => by simp [x_nth] at h
  | some r :: l, j, 0, h => by simp [x_nth] at h
  | none :: l, j, 0, h => by simp [x_fs]
  | some r :: l, j, i + 1, h => by
    have := x_fs_int ad f l (j + 1) i (by simpa [x_nth] using h)
    simp only [x_fs, List.getElem?_cons_succ, this]; congr 3; omega
  | none :: l, j, i + 1, h => by
    have := x_fs_int ad f l (j + 1) i (by simpa [x_nth] using h)
    simp only [x_fs, List.getElem?_cons_succ, this]; congr 3; omega
theorem x_fs_ref (ad : Nat → Nat) (f : Nat → Int32) : ∀ (rs : List (Option Nat)) (j i r : Nat), x_nth rs i = some (some r) → (x_fs ad f j rs)[i]? = some (.ref (ad r))
  | [], _, _, _, h => by simp [x_nth] at h
  | some a :: l, j, 0, r, h => by
    simp only [x_nth, Option.some.injEq] at h
    simp [x_fs, h]
  | none :: l, j, 0, r, h => by simp [x_nth] at h
  | some a :: l, j, i + 1, r, h => by
    have := x_fs_ref ad f l (j + 1) i r (by simpa [x_nth] using h)
    simp only [x_fs, List.getElem?_cons_succ, this]
  | none :: l, j, i + 1, r, h => by
    have := x_fs_ref ad f l (j + 1) i r (by simpa [x_nth] using h)
    simp only [x_fs, List.getElem?_cons_succ, this]
theorem x_fs_set (ad : Nat → Nat) (f : Nat → Int32) (x : Int32) : ∀ (rs : List (Option Nat)) (j i : Nat), x_nth rs i = some none → (x_fs ad f j rs).set i (.int x) = x_fs ad (upd f (j + i) x) j rs
  | [], _, _, h => by simp [x_nth] at h
  | some r :: l, j, 0, h => by simp [x_nth] at h
  | none :: l, j, 0, h => by
    simp only [x_fs, List.set_cons_zero, Nat.add_zero]
    rw [x_fs_congr ad l (j + 1) (f := f) (g := upd f j x) (fun i hi => by unfold upd; rw [if_neg (by omega)])]
    simp [upd]
  | some r :: l, j, i + 1, h => by
    have := x_fs_set ad f x l (j + 1) i (by simpa [x_nth] using h)
    simp only [x_fs, List.set_cons_succ, this]
    rw [show j + 1 + i = j + (i + 1) by omega]
  | none :: l, j, i + 1, h => by
    have := x_fs_set ad f x l (j + 1) i (by simpa [x_nth] using h)
    simp only [x_fs, List.set_cons_succ, this]
    rw [show j + 1 + i = j + (i + 1) by omega]
    simp [upd]
theorem x_fs_lt (ad : Nat → Nat) (f : Nat → Int32) (rs : List (Option Nat)) (j i : Nat) (h : x_nth rs i = some none) : i < (x_fs ad f j rs).length :=
  (List.getElem?_eq_some_iff.mp (x_fs_int ad f rs j i h)).1
/-! locals -/
def x_L (ad : Nat → Nat) (ls : Array Slot) (nL : Nat) (L : List (Option Value)) : Prop := ls.size = nL ∧ lv_wf ls ∧ ∀ (i : Nat) (v : Value), x_get L i = some v → ls[i]? = some (.val (x_cv ad v))
def x_lvl (ad : Nat → Nat) : Nat → List (Option Value) → List (Nat × Value)
  | _, [] => []
  | i, none :: l => x_lvl ad (i + 1) l
  | i, some v :: l => (i, x_cv ad v) :: x_lvl ad (i + 1) l
theorem x_cv_cat (ad : Nat → Nat) (v : Value) : (x_cv ad v).category = v.category := by cases v <;> rfl
theorem x_lvl_mem (ad : Nat → Nat) : ∀ (L : List (Option Value)) (i : Nat) (q : Nat × Value), q ∈ x_lvl ad i L ↔ ∃ j v, x_get L j = some v ∧ q = (i + j, x_cv ad v)
  | [], i, q => by simp [x_lvl, x_get]
  | none :: l, i, q => by
    simp only [x_lvl]
    rw [x_lvl_mem ad l (i + 1) q]
    constructor
    · rintro ⟨j, v, h1, rfl⟩
      exact ⟨j + 1, v, h1, by congr 1; omega⟩
    · rintro ⟨j, v, h1, rfl⟩
      cases j with
      | zero => simp [x_get] at h1
      | succ j => exact ⟨j, v, h1, by congr 1; omega⟩
  | some w :: l, i, q => by
    simp only [x_lvl, List.mem_cons]
    rw [x_lvl_mem ad l (i + 1) q]
    constructor
    · rintro (rfl | ⟨j, v, h1, rfl⟩)
      · exact ⟨0, w, rfl, rfl⟩
      · exact ⟨j + 1, v, h1, by congr 1; omega⟩
    · rintro ⟨j, v, h1, rfl⟩
      cases j with
      | zero =>
        simp only [x_get, Option.some.injEq] at h1
        subst h1
        exact Or.inl rfl
      | succ j => exact Or.inr ⟨j, v, h1, by congr 1; omega⟩
theorem x_L.has {ad : Nat → Nat} {ls : Array Slot} {nL : Nat} {L : List (Option Value)} (h : x_L ad ls nL L) : lv_has ls nL (x_lvl ad 0 L) := by
  refine ⟨h.1, h.2.1, fun q hq => ?_⟩
  obtain ⟨j, v, h1, rfl⟩ := (x_lvl_mem ad L 0 q).mp hq
  rw [Nat.zero_add]
  exact h.2.2 j v h1
theorem x_get_set_ne : ∀ (L : List (Option Value)) (i j : Nat) (a : Option Value), j ≠ i → x_get (x_set L i a) j = x_get L j
  | [], _, _, _, _ => rfl
  | _ :: _, 0, 0, _, h => absurd rfl h
  | _ :: _, 0, j + 1, _, _ => rfl
  | _ :: _, i + 1, 0, _, _ => rfl
  | _ :: l, i + 1, j + 1, a, h => x_get_set_ne l i j a (by omega)
theorem x_get_set_eq : ∀ (L : List (Option Value)) (i : Nat) (a : Option Value) (v : Value), x_get (x_set L i a) i = some v → a = some v
  | [], _, _, _, h => by simp [x_set, x_get] at h
  | _ :: _, 0, _, _, h => h
  | _ :: l, i + 1, a, v, h => x_get_set_eq l i a v h
theorem x_two_cat {v : Value} (h : x_two (some v) = false) : v.category = 1 := by cases v <;> simp_all [x_two, Value.category]
theorem x_L.st1 {ad : Nat → Nat} {ls' : Array Slot} {nL i : Nat} {L : List (Option Value)} {v : Value} (hp : x_plg L i = false)
    (h : lv_has ls' nL ((i, x_cv ad v) :: (x_lvl ad 0 L).filter (fun q => !(q.1 == i) && !(q.1 + 1 == i && q.2.category == 2)))) : x_L ad ls' nL (x_set L i (some v)) := by
  refine ⟨h.1, h.2.1, fun j w hj => ?_⟩
  by_cases hji : j = i
  · subst hji
    have := x_get_set_eq L j (some v) w hj
    cases this
    exact h.2.2 _ List.mem_cons_self
  · rw [x_get_set_ne L i j _ hji] at hj
    refine h.2.2 (j, x_cv ad w) (List.mem_cons_of_mem _ (List.mem_filter.mpr ⟨(x_lvl_mem ad L 0 _).mpr ⟨j, w, hj, by rw [Nat.zero_add]⟩, ?_⟩))
    by_cases h1 : j + 1 = i
    · subst h1
      have h2 : x_two (some w) = false := by rw [← hj]; exact hp
      simp [x_cv_cat, x_two_cat h2]
    · simp [hji, h1]
theorem x_L.st2 {ad : Nat → Nat} {ls' : Array Slot} {nL i : Nat} {L : List (Option Value)} {v : Value} (hp : x_plg L i = false)
    (h : lv_has ls' nL ((i, x_cv ad v) :: (x_lvl ad 0 L).filter (fun q => !(q.1 == i) && (!(q.1 == i + 1) && !(q.1 + 1 == i && q.2.category == 2))))) : x_L ad ls' nL (x_set (x_set L i (some v)) (i + 1) none) := by
  refine ⟨h.1, h.2.1, fun j w hj => ?_⟩
  by_cases hj1 : j = i + 1
  · subst hj1
    have := x_get_set_eq _ (i + 1) none w hj
    cases this
  · rw [x_get_set_ne _ (i + 1) j _ hj1] at hj
    by_cases hji : j = i
    · subst hji
      have := x_get_set_eq L j (some v) w hj
      cases this
      exact h.2.2 _ List.mem_cons_self
    · rw [x_get_set_ne L i j _ hji] at hj
      refine h.2.2 (j, x_cv ad w) (List.mem_cons_of_mem _ (List.mem_filter.mpr ⟨(x_lvl_mem ad L 0 _).mpr ⟨j, w, hj, by rw [Nat.zero_add]⟩, ?_⟩))
      by_cases h1 : j + 1 = i
      · subst h1
        have h2 : x_two (some w) = false := by rw [← hj]; exact hp
        simp [x_cv_cat, x_two_cat h2, hj1]
      · simp [hji, h1, hj1]
/-! context -/
def x_AA (ad : Nat → Nat) : Nat → Prop := fun q => ∃ k, k < x_K ∧ ad k = q
def x_A (o : xO) (ad : Nat → Nat) (s : State) : Nat → Prop := match o with
  | .inl _ => x_AA ad
  | .inr _ => fun q => s.heap.size ≤ q
def x_Rm (o : xO) : Room := match o with
  | .inl d => { frames := d, cells := 0, slots := 0, locals := 36 * d }
  | .inr _ => room_1
def x_Cc (o : xO) : Nat := match o with
  | .inl _ => 0
  | .inr _ => 600000
def x_Cs (o : xO) : Nat := match o with
  | .inl _ => 0
  | .inr _ => 7302250
def x_Inj (ad : Nat → Nat) : Prop := ∀ i j, i < x_K → j < x_K → ad i = ad j → i = j
def x_Cst (ad : Nat → Nat) (A : Nat → Prop) (U : State) : Prop := ∀ (j : Nat) (l : List Int32), x_nth x_cst j = some l → va_T .int (ad (100 + j)) l.length (fun i => .int (l.getD i 0)) A U U.heap ∧ ∀ nm, x_nth x_csn j = some nm → va_Z "LaneLock" nm "[I" (.ref (ad (100 + j))) A U U.heap
def x_Scr (o : xO) (ad : Nat → Nat) (s : State) : Prop := match o with
  | .inl _ => True
  | .inr (n, xs) => va_X (ad 99) n xs s s.heap ∧ ad 99 < s.heap.size
def x_Cx (o : xO) (M : xM) (p : Program) (s : State) (m : MethodId) (args : Array Value) (meth : Method) (c : Code) (ad : Nat → Nat) (ca : Nat → ClassId) (D : va_G) : Prop :=
  p.tables.exec = Jvm.exec ∧ c.code = xM_code M ∧ c.maxLocals = xM_maxL M ∧ meth.sig.returnType = xM_ret M ∧ meth.locks = false ∧ s.vm.findClass (xM_own M) = some m.cls ∧ (∀ w ∈ x_tbl, w.before args s = true) ∧ va_K D vwCl (x_tys ca) s ∧ x_Cst ad (x_A o ad s) s ∧ x_Inj ad ∧ (∀ k, k < x_K → x_A o ad s (ad k)) ∧ x_Scr o ad s
def x_fok (own : String) (q : Nat × Nat × Nat × Nat) : Prop := ∃ (C : String) (T : u_T) (N : Nat), vwCl[q.2.1]? = some (C, T, N) ∧ q.2.2.1 < N ∧ Cond.fieldLink own q.1 (T q.2.2.1).1 (T q.2.2.1).2.1 (T q.2.2.1).2.2.1 ∈ x_tbl ∧ (q.2.2.2 = 0 → (T q.2.2.1).2.2.1 = "I" ∧ (T q.2.2.1).2.2.2 = false) ∧ (q.2.2.2 = 1 → (T q.2.2.1).2.2.1 = "Z" ∧ (T q.2.2.1).2.2.2 = false)
def x_sok (own : String) (q : Nat × Nat) : Prop := ∃ nm, x_nth x_csn q.2 = some nm ∧ (∃ l, x_nth x_cst q.2 = some l) ∧ Cond.fieldLink own q.1 "LaneLock" nm "[I" ∈ x_tbl
def x_kok (own : String) (q : Nat × Value) : Prop := match q.2 with
  | .int v => Cond.constant own q.1 v ∈ x_tbl
  | .long v => Cond.constantLong own q.1 v ∈ x_tbl
  | _ => False
def x_nok (own : String) (q : Nat × Nat) : Prop := match q.2 with
  | 0 => Cond.methodLink own q.1 Lib.Math.max.name ∈ x_tbl
  | 1 => Cond.methodLink own q.1 Lib.Math.min.name ∈ x_tbl
  | _ => Cond.methodLink own q.1 arraycopyName ∈ x_tbl
def x_lkok (own : String) (X : xLK) : Prop := (∀ q ∈ X.1, x_fok own q) ∧ (∀ q ∈ X.2.1, x_sok own q) ∧ (∀ q ∈ X.2.2.1, x_kok own q) ∧ ∀ q ∈ X.2.2.2, x_nok own q
def x_ok (M : xM) : Prop := x_lkok (xM_own M) (xM_lk M) ∧ ∀ q ∈ xM_tb M, decode (xM_code M) q.1 = .ok q.2
theorem x_inCl {k : Nat} {q : vw_C} (h : vwCl[k]? = some q) : ∀ w ∈ u_ws q.1 q.2.1 q.2.2, w ∈ x_tbl := by
  match k, h with
  | 0, h => cases h; exact x_in0
  | 1, h => cases h; exact x_in1
  | 2, h => cases h; exact x_in2
  | 3, h => cases h; exact x_in3
  | 4, h => cases h; exact x_in4
  | 5, h => cases h; exact x_in5
  | 6, h => cases h; exact x_in6
  | k + 7, h => simp [vwCl] at h
theorem x_tyCl {k : Nat} {q : vw_C} (h : vwCl[k]? = some q) : ∃ ty0 : Nat → FieldType, ∀ k, k < q.2.2 → parseFieldDescriptor (q.2.1 k).2.2.1 = some (ty0 k) := by
  match k, h with
  | 0, h => cases h; exact ⟨_, tyX0_ok⟩
  | 1, h => cases h; exact ⟨_, tyX1_ok⟩
  | 2, h => cases h; exact ⟨_, tyX2_ok⟩
  | 3, h => cases h; exact ⟨_, tyX3_ok⟩
  | 4, h => cases h; exact ⟨_, tyX4_ok⟩
  | 5, h => cases h; exact ⟨_, tyX5_ok⟩
  | 6, h => cases h; exact ⟨_, tyX6_ok⟩
  | k + 7, h => simp [vwCl] at h
theorem x_nmCl {k : Nat} {q : vw_C} (h : vwCl[k]? = some q) : ∀ a, a < q.2.2 → ∀ b, b < q.2.2 → a ≠ b → (q.2.1 a).2.1 ≠ (q.2.1 b).2.1 := by
  match k, h with
  | 0, h => cases h; exact nmX0
  | 1, h => cases h; exact nmX1
  | 2, h => cases h; exact nmX2
  | 3, h => cases h; exact nmX3
  | 4, h => cases h; exact nmX4
  | 5, h => cases h; exact nmX5
  | 6, h => cases h; exact nmX6
  | k + 7, h => simp [vwCl] at h
set_option maxRecDepth 20000 in
theorem x_w_max : Cond.static Lib.Math.max.name ∈ x_tbl ∧ Cond.initialized "java/lang/Math" ∈ x_tbl ∧ Cond.code Lib.Math.max.name Lib.Math.max.code 2 (some .int) ∈ x_tbl := by decide +kernel
set_option maxRecDepth 20000 in
theorem x_w_min : Cond.static Lib.Math.min.name ∈ x_tbl ∧ Cond.initialized "java/lang/Math" ∈ x_tbl ∧ Cond.code Lib.Math.min.name Lib.Math.min.code 2 (some .int) ∈ x_tbl := by decide +kernel
set_option maxRecDepth 20000 in
theorem x_w_cpy : Cond.native arraycopyName ∈ x_tbl ∧ Cond.static arraycopyName ∈ x_tbl ∧ Cond.initialized "java/lang/System" ∈ x_tbl := by decide +kernel
theorem x_w_nfw : nativeFrameWords "java/lang/System" "arraycopy" 5 + 19 ≤ 36 := by decide +kernel
theorem x_wD {ca : Nat → ClassId} {ad : Nat → Nat} {σ : xSg} {A : Nat → Prop} (hi : x_Inj ad) (hA : ∀ k, k < x_K → A (ad k)) : va_D A (x_wl ca ad σ) := by
  have at' : ∀ {i : Nat} {q : Nat × va_E}, (x_wl ca ad σ)[i]? = some q → i < x_K ∧ q.1 = ad i := by
    intro i q h
    have hl : i < x_K := by
      have := (List.getElem?_eq_some_iff.mp h).1
      rwa [x_wl_len] at this
    rw [x_wl_at hl] at h
    cases h
    exact ⟨hl, rfl⟩
  refine ⟨fun i j x y hx hy hxy => ?_, fun k q hq => ?_⟩
  · obtain ⟨a1, a2⟩ := at' hx
    obtain ⟨b1, b2⟩ := at' hy
    exact hi i j a1 b1 (by rw [← a2, ← b2]; exact hxy)
  · obtain ⟨a1, a2⟩ := at' hq
    rw [a2]
    exact hA k a1
end
section
/-! each instruction over the machine -/
section XS
variable {o : xO} {M : xM} {p : Program} {l : Launch} {e : Env} {s : State} {m : MethodId} {args : Array Value} {below : List Frame} {meth : Method} {c : Code} {ad : Nat → Nat} {ca : Nat → ClassId} {D : va_G} {Qf : State → Prop}
def x_G (o : xO) (M : xM) (p : Program) (l : Launch) (e : Env) (s : State) (m : MethodId) (args : Array Value) (below : List Frame) (meth : Method) (c : Code) (ad : Nat → Nat) (ca : Nat → ClassId) (D : va_G) (Qf : State → Prop) (pc : Nat) (f : xF) : Prop :=
  ∀ (H : Heap) (locs : List Loc) (ls : Array Slot), va_P D vwCl (x_wl ca ad f.2.2) H → va_S (x_A o ad s) s.heap H locs → x_L ad ls (xM_maxL M) f.1 → W p l e (x_Rm o) s m args below meth c H locs (x_Cc o) (x_Cs o) Qf (F0 m pc ls (f.2.1.map (x_cv ad)))
variable {pc pc' : Nat} {f f' : xF} {Ps : List Prop}
theorem x_psh_ok {v : Value} {n : Nat} (hv : x_cv ad v = v)
    (row : ∀ (H : Heap) (locs : List Loc) (ls : Array Slot) (rest : List Value), W p l e (x_Rm o) s m args below meth c H locs (x_Cc o) (x_Cs o) Qf (F0 m n ls (v :: rest)) → W p l e (x_Rm o) s m args below meth c H locs (x_Cc o) (x_Cs o) Qf (F0 m pc ls rest))
    (h : x_psh v n f = some (Ps, pc', f')) (k : x_G o M p l e s m args below meth c ad ca D Qf pc' f') : x_G o M p l e s m args below meth c ad ca D Qf pc f := by
  unfold x_psh at h
  cases h
  intro H locs ls hP hS hL
  refine row H locs ls _ ?_
  have := k H locs ls hP hS hL
  rw [List.map_cons, hv] at this
  exact this
theorem x_bin_ok {g : Int32 → Int32 → Int32}
    (row : ∀ (H : Heap) (locs : List Loc) (ls : Array Slot) (rest : List Value) (x y : Int32), W p l e (x_Rm o) s m args below meth c H locs (x_Cc o) (x_Cs o) Qf (F0 m (pc + 1) ls (.int (g x y) :: rest)) → W p l e (x_Rm o) s m args below meth c H locs (x_Cc o) (x_Cs o) Qf (F0 m pc ls (.int y :: .int x :: rest)))
    (h : x_bin g pc f = some (Ps, pc', f')) (k : x_G o M p l e s m args below meth c ad ca D Qf pc' f') : x_G o M p l e s m args below meth c ad ca D Qf pc f := by
  unfold x_bin at h
  split at h
  next y x st heq =>
    cases h
    intro H locs ls hP hS hL
    rw [heq]
    exact row H locs ls _ x y (k H locs ls hP hS hL)
  next => cases h
theorem x_dv_ok {g : Int32 → Int32 → Int32} (hp : ∀ P ∈ Ps, P)
    (row : ∀ (H : Heap) (locs : List Loc) (ls : Array Slot) (rest : List Value) (x y : Int32), ¬ y = 0 → W p l e (x_Rm o) s m args below meth c H locs (x_Cc o) (x_Cs o) Qf (F0 m (pc + 1) ls (.int (g x y) :: rest)) → W p l e (x_Rm o) s m args below meth c H locs (x_Cc o) (x_Cs o) Qf (F0 m pc ls (.int y :: .int x :: rest)))
    (h : x_dv g pc f = some (Ps, pc', f')) (k : x_G o M p l e s m args below meth c ad ca D Qf pc' f') : x_G o M p l e s m args below meth c ad ca D Qf pc f := by
  unfold x_dv at h
  split at h
  next y x st heq =>
    cases h
    intro H locs ls hP hS hL
    rw [heq]
    exact row H locs ls _ x y (hp _ List.mem_cons_self) (k H locs ls hP hS hL)
  next => cases h
theorem x_bil_ok {g : Int64 → Int64 → Value} (hv : ∀ x y, x_cv ad (g x y) = g x y)
    (row : ∀ (H : Heap) (locs : List Loc) (ls : Array Slot) (rest : List Value) (x y : Int64), W p l e (x_Rm o) s m args below meth c H locs (x_Cc o) (x_Cs o) Qf (F0 m (pc + 1) ls (g x y :: rest)) → W p l e (x_Rm o) s m args below meth c H locs (x_Cc o) (x_Cs o) Qf (F0 m pc ls (.long y :: .long x :: rest)))
    (h : x_bil g pc f = some (Ps, pc', f')) (k : x_G o M p l e s m args below meth c ad ca D Qf pc' f') : x_G o M p l e s m args below meth c ad ca D Qf pc f := by
  unfold x_bil at h
  split at h
  next y x st heq =>
    cases h
    intro H locs ls hP hS hL
    rw [heq]
    refine row H locs ls _ x y ?_
    have := k H locs ls hP hS hL
    rw [List.map_cons, hv] at this
    exact this
  next => cases h
theorem x_uni_ok {g : Int32 → Value} (hv : ∀ x, x_cv ad (g x) = g x)
    (row : ∀ (H : Heap) (locs : List Loc) (ls : Array Slot) (rest : List Value) (x : Int32), W p l e (x_Rm o) s m args below meth c H locs (x_Cc o) (x_Cs o) Qf (F0 m (pc + 1) ls (g x :: rest)) → W p l e (x_Rm o) s m args below meth c H locs (x_Cc o) (x_Cs o) Qf (F0 m pc ls (.int x :: rest)))
    (h : x_uni g pc f = some (Ps, pc', f')) (k : x_G o M p l e s m args below meth c ad ca D Qf pc' f') : x_G o M p l e s m args below meth c ad ca D Qf pc f := by
  unfold x_uni at h
  split at h
  next x st heq =>
    cases h
    intro H locs ls hP hS hL
    rw [heq]
    refine row H locs ls _ x ?_
    have := k H locs ls hP hS hL
    rw [List.map_cons, hv] at this
    exact this
  next => cases h
theorem x_l2i_ok
    (row : ∀ (H : Heap) (locs : List Loc) (ls : Array Slot) (rest : List Value) (x : Int64), W p l e (x_Rm o) s m args below meth c H locs (x_Cc o) (x_Cs o) Qf (F0 m (pc + 1) ls (.int x.toInt32 :: rest)) → W p l e (x_Rm o) s m args below meth c H locs (x_Cc o) (x_Cs o) Qf (F0 m pc ls (.long x :: rest)))
    (h : x_l2i pc f = some (Ps, pc', f')) (k : x_G o M p l e s m args below meth c ad ca D Qf pc' f') : x_G o M p l e s m args below meth c ad ca D Qf pc f := by
  unfold x_l2i at h
  split at h
  next x st heq =>
    cases h
    intro H locs ls hP hS hL
    rw [heq]
    exact row H locs ls _ x (k H locs ls hP hS hL)
  next => cases h
theorem x_ldi_ok {i n : Nat}
    (row : ∀ (H : Heap) (locs : List Loc) (ls : Array Slot) (rest : List Value) (x : Int32), ls[i]? = some (.val (.int x)) → W p l e (x_Rm o) s m args below meth c H locs (x_Cc o) (x_Cs o) Qf (F0 m n ls (.int x :: rest)) → W p l e (x_Rm o) s m args below meth c H locs (x_Cc o) (x_Cs o) Qf (F0 m pc ls rest))
    (h : x_ldi i n f = some (Ps, pc', f')) (k : x_G o M p l e s m args below meth c ad ca D Qf pc' f') : x_G o M p l e s m args below meth c ad ca D Qf pc f := by
  unfold x_ldi at h
  split at h
  next x heq =>
    cases h
    intro H locs ls hP hS hL
    exact row H locs ls _ x (hL.2.2 _ _ heq) (k H locs ls hP hS hL)
  next => cases h
theorem x_ldl_ok {i n : Nat}
    (row : ∀ (H : Heap) (locs : List Loc) (ls : Array Slot) (rest : List Value) (x : Int64), ls[i]? = some (.val (.long x)) → W p l e (x_Rm o) s m args below meth c H locs (x_Cc o) (x_Cs o) Qf (F0 m n ls (.long x :: rest)) → W p l e (x_Rm o) s m args below meth c H locs (x_Cc o) (x_Cs o) Qf (F0 m pc ls rest))
    (h : x_ldl i n f = some (Ps, pc', f')) (k : x_G o M p l e s m args below meth c ad ca D Qf pc' f') : x_G o M p l e s m args below meth c ad ca D Qf pc f := by
  unfold x_ldl at h
  split at h
  next x heq =>
    cases h
    intro H locs ls hP hS hL
    exact row H locs ls _ x (hL.2.2 _ _ heq) (k H locs ls hP hS hL)
  next => cases h
theorem x_lda_ok {i n : Nat}
    (row : ∀ (H : Heap) (locs : List Loc) (ls : Array Slot) (rest : List Value) (x : Nat), ls[i]? = some (.val (.ref x)) → W p l e (x_Rm o) s m args below meth c H locs (x_Cc o) (x_Cs o) Qf (F0 m n ls (.ref x :: rest)) → W p l e (x_Rm o) s m args below meth c H locs (x_Cc o) (x_Cs o) Qf (F0 m pc ls rest))
    (h : x_lda i n f = some (Ps, pc', f')) (k : x_G o M p l e s m args below meth c ad ca D Qf pc' f') : x_G o M p l e s m args below meth c ad ca D Qf pc f := by
  unfold x_lda at h
  split at h
  next x heq =>
    cases h
    intro H locs ls hP hS hL
    exact row H locs ls _ (ad x) (hL.2.2 _ _ heq) (k H locs ls hP hS hL)
  next => cases h
theorem x_blt {a b : Nat} {P : Bool} (h : (Nat.blt a b && P) = true) : a < b ∧ P = true := by
  rw [Bool.and_eq_true] at h
  exact ⟨Nat.le_of_ble_eq_true h.1, h.2⟩
theorem x_notT {P : Bool} (h : (!P) = true) : P = false := by cases P <;> simp_all
theorem x_sti_ok {i n : Nat}
    (row : ∀ (H : Heap) (locs : List Loc) (ls : Array Slot) (rest : List Value) (x : Int32) (lv lv' : List (Nat × Value)), lv_has ls (xM_maxL M) lv → i < xM_maxL M → (i, Value.int x) :: lv.filter (fun q => !(q.1 == i) && !(q.1 + 1 == i && q.2.category == 2)) = lv' → (∀ ls' : Array Slot, lv_has ls' (xM_maxL M) lv' → W p l e (x_Rm o) s m args below meth c H locs (x_Cc o) (x_Cs o) Qf (F0 m n ls' rest)) → W p l e (x_Rm o) s m args below meth c H locs (x_Cc o) (x_Cs o) Qf (F0 m pc ls (.int x :: rest)))
    (h : x_sti (xM_maxL M) i n f = some (Ps, pc', f')) (k : x_G o M p l e s m args below meth c ad ca D Qf pc' f') : x_G o M p l e s m args below meth c ad ca D Qf pc f := by
  unfold x_sti at h
  split at h
  next x st heq =>
    cases hb : (Nat.blt i (xM_maxL M) && !x_plg f.1 i) with
    | false => rw [hb] at h; cases h
    | true =>
      rw [hb] at h
      cases h
      obtain ⟨hlt, hp⟩ := x_blt hb
      intro H locs ls hP hS hL
      rw [heq]
      exact row H locs ls _ x _ _ hL.has hlt rfl (fun ls' hl => k H locs ls' hP hS (x_L.st1 (v := .int x) (x_notT hp) hl))
  next => cases h
theorem x_sta_ok {i n : Nat}
    (row : ∀ (H : Heap) (locs : List Loc) (ls : Array Slot) (rest : List Value) (x : Nat) (lv lv' : List (Nat × Value)), lv_has ls (xM_maxL M) lv → i < xM_maxL M → (i, Value.ref x) :: lv.filter (fun q => !(q.1 == i) && !(q.1 + 1 == i && q.2.category == 2)) = lv' → (∀ ls' : Array Slot, lv_has ls' (xM_maxL M) lv' → W p l e (x_Rm o) s m args below meth c H locs (x_Cc o) (x_Cs o) Qf (F0 m n ls' rest)) → W p l e (x_Rm o) s m args below meth c H locs (x_Cc o) (x_Cs o) Qf (F0 m pc ls (.ref x :: rest)))
    (h : x_sta (xM_maxL M) i n f = some (Ps, pc', f')) (k : x_G o M p l e s m args below meth c ad ca D Qf pc' f') : x_G o M p l e s m args below meth c ad ca D Qf pc f := by
  unfold x_sta at h
  split at h
  next x st heq =>
    cases hb : (Nat.blt i (xM_maxL M) && !x_plg f.1 i) with
    | false => rw [hb] at h; cases h
    | true =>
      rw [hb] at h
      cases h
      obtain ⟨hlt, hp⟩ := x_blt hb
      intro H locs ls hP hS hL
      rw [heq]
      exact row H locs ls _ (ad x) _ _ hL.has hlt rfl (fun ls' hl => k H locs ls' hP hS (x_L.st1 (v := .ref x) (x_notT hp) hl))
  next => cases h
theorem x_stl_ok {i n : Nat}
    (row : ∀ (H : Heap) (locs : List Loc) (ls : Array Slot) (rest : List Value) (x : Int64) (lv lv' : List (Nat × Value)), lv_has ls (xM_maxL M) lv → i + 1 < xM_maxL M → (i, Value.long x) :: lv.filter (fun q => !(q.1 == i) && (!(q.1 == i + 1) && !(q.1 + 1 == i && q.2.category == 2))) = lv' → (∀ ls' : Array Slot, lv_has ls' (xM_maxL M) lv' → W p l e (x_Rm o) s m args below meth c H locs (x_Cc o) (x_Cs o) Qf (F0 m n ls' rest)) → W p l e (x_Rm o) s m args below meth c H locs (x_Cc o) (x_Cs o) Qf (F0 m pc ls (.long x :: rest)))
    (h : x_stl (xM_maxL M) i n f = some (Ps, pc', f')) (k : x_G o M p l e s m args below meth c ad ca D Qf pc' f') : x_G o M p l e s m args below meth c ad ca D Qf pc f := by
  unfold x_stl at h
  split at h
  next x st heq =>
    cases hb : (Nat.blt (i + 1) (xM_maxL M) && !x_plg f.1 i) with
    | false => rw [hb] at h; cases h
    | true =>
      rw [hb] at h
      cases h
      obtain ⟨hlt, hp⟩ := x_blt hb
      intro H locs ls hP hS hL
      rw [heq]
      exact row H locs ls _ x _ _ hL.has hlt rfl (fun ls' hl => k H locs ls' hP hS (x_L.st2 (v := .long x) (x_notT hp) hl))
  next => cases h
theorem x_inc_ok (hx : p.tables.exec = Jvm.exec) (hb : c.code = xM_code M) {i : Nat} {n : Int} (hd : decode (xM_code M) pc = .ok (.iinc i n, 3))
    (h : x_inc (xM_maxL M) i n pc f = some (Ps, pc', f')) (k : x_G o M p l e s m args below meth c ad ca D Qf pc' f') : x_G o M p l e s m args below meth c ad ca D Qf pc f := by
  unfold x_inc at h
  split at h
  next x heq =>
    cases hb2 : (Nat.blt i (xM_maxL M) && !x_plg f.1 i) with
    | false => rw [hb2] at h; cases h
    | true =>
      rw [hb2] at h
      cases h
      obtain ⟨hlt, hp⟩ := x_blt hb2
      intro H locs ls hP hS hL
      have hm : (i, Value.int x) ∈ x_lvl ad 0 f.1 := (x_lvl_mem ad f.1 0 _).mpr ⟨i, .int x, heq, by rw [Nat.zero_add]; rfl⟩
      obtain ⟨kk, hk⟩ := List.getElem?_of_mem hm
      exact lv_iinc hx hb hd hL.has hk rfl hlt rfl (fun ls' hl => k H locs ls' hP hS (x_L.st1 (v := .int (x + Int32.ofInt n)) (x_notT hp) hl))
  next => cases h
theorem x_oneC {v : Value} (h : x_one v = true) : (x_cv ad v).category = 1 := by rw [x_cv_cat]; exact Nat.eq_of_beq_eq_true h
theorem x_dup_ok (hx : p.tables.exec = Jvm.exec) (hb : c.code = xM_code M) (hd : decode (xM_code M) pc = .ok (.dup, 1))
    (h : x_dup pc f = some (Ps, pc', f')) (k : x_G o M p l e s m args below meth c ad ca D Qf pc' f') : x_G o M p l e s m args below meth c ad ca D Qf pc f := by
  unfold x_dup at h
  split at h
  next a st heq =>
    cases h1 : x_one a with
    | false => rw [h1] at h; cases h
    | true =>
      rw [h1] at h
      cases h
      intro H locs ls hP hS hL
      rw [heq]
      exact lv_dup hx hb hd (x_oneC h1) (k H locs ls hP hS hL)
  next => cases h
theorem x_pop_ok (hx : p.tables.exec = Jvm.exec) (hb : c.code = xM_code M) (hd : decode (xM_code M) pc = .ok (.pop, 1))
    (h : x_pop pc f = some (Ps, pc', f')) (k : x_G o M p l e s m args below meth c ad ca D Qf pc' f') : x_G o M p l e s m args below meth c ad ca D Qf pc f := by
  unfold x_pop at h
  split at h
  next a st heq =>
    cases h1 : x_one a with
    | false => rw [h1] at h; cases h
    | true =>
      rw [h1] at h
      cases h
      intro H locs ls hP hS hL
      rw [heq]
      exact lv_pop hx hb hd (x_oneC h1) (k H locs ls hP hS hL)
  next => cases h
theorem x_dup2_ok (hx : p.tables.exec = Jvm.exec) (hb : c.code = xM_code M) (hd : decode (xM_code M) pc = .ok (.dup2, 1))
    (h : x_dup2 pc f = some (Ps, pc', f')) (k : x_G o M p l e s m args below meth c ad ca D Qf pc' f') : x_G o M p l e s m args below meth c ad ca D Qf pc f := by
  unfold x_dup2 at h
  split at h
  next a b st heq =>
    cases h1 : (x_one a && x_one b) with
    | false => rw [h1] at h; cases h
    | true =>
      rw [h1] at h
      cases h
      rw [Bool.and_eq_true] at h1
      intro H locs ls hP hS hL
      rw [heq]
      exact lv_dup2_11 hx hb hd (x_oneC h1.1) (x_oneC h1.2) (k H locs ls hP hS hL)
  next => cases h
theorem x_dpx_ok (hx : p.tables.exec = Jvm.exec) (hb : c.code = xM_code M) (hd : decode (xM_code M) pc = .ok (.dup_x1, 1))
    (h : x_dpx pc f = some (Ps, pc', f')) (k : x_G o M p l e s m args below meth c ad ca D Qf pc' f') : x_G o M p l e s m args below meth c ad ca D Qf pc f := by
  unfold x_dpx at h
  split at h
  next a b st heq =>
    cases h1 : (x_one a && x_one b) with
    | false => rw [h1] at h; cases h
    | true =>
      rw [h1] at h
      cases h
      rw [Bool.and_eq_true] at h1
      intro H locs ls hP hS hL
      rw [heq]
      exact lv_dup_x1 hx hb hd (x_oneC h1.1) (x_oneC h1.2) (k H locs ls hP hS hL)
  next => cases h
theorem x_ent0 {σ : xSg} {k cI : Nat} {rs : List (Option Nat)} (h : x_sh k = (0, cI, rs)) : x_ent ca ad σ k = .inr (cI, x_fs ad (σ k) 0 rs) := by
  unfold x_ent; rw [h]; rfl
theorem x_ent1 {σ : xSg} {k n : Nat} {rs : List (Option Nat)} (h : x_sh k = (1, n, rs)) : x_ent ca ad σ k = .inl (ca k, n, .inl (σ k)) := by
  unfold x_ent; rw [h]; rfl
theorem x_ent2 {σ : xSg} {k n : Nat} {rs : List (Option Nat)} (h : x_sh k = (2, n, rs)) : x_ent ca ad σ k = .inl (ca k, n, .inl (σ k)) := by
  unfold x_ent; rw [h]; rfl
theorem x_ent3 {σ : xSg} {k n : Nat} {rs : List (Option Nat)} (h : x_sh k = (3, n, rs)) : x_ent ca ad σ k = .inl (ca k, n, .inr (.inr (.inr (.inr (x_rf ad rs))))) := by
  unfold x_ent; rw [h]; rfl
theorem x_gf_ok (X : x_Cx o M p s m args meth c ad ca D) (ok : x_lkok (xM_own M) (xM_lk M)) {idx : Nat} (hd : decode (xM_code M) pc = .ok (.getfield idx, 3))
    (h : x_gf (xM_lk M) idx pc f = some (Ps, pc', f')) (k : x_G o M p l e s m args below meth c ad ca D Qf pc' f') : x_G o M p l e s m args below meth c ad ca D Qf pc f := by
  unfold x_gf at h
  split at h
  next kc st heq =>
    split at h
    next cI i t hlk =>
      obtain ⟨C, T, N, hcl, hiN, hfl, -, -⟩ := ok.1 _ (x_lk_mem hlk)
      dsimp only at hcl hiN hfl
      split at h
      next c2 rs hsh =>
        cases hb : Nat.beq cI c2 with
        | false => rw [hb] at h; cases h
        | true =>
          rw [hb] at h
          have hc2 : cI = c2 := Nat.eq_of_beq_eq_true hb
          subst hc2
          have hk : kc < x_K := x_sh_lt hsh (by decide)
          dsimp only [cond_true] at h
          split at h
          next r hr =>
            cases h
            intro H locs ls hP hS hL
            rw [heq]
            exact va_get X.1 X.2.1 X.2.2.2.2.2.2.1 (x_inCl hcl) X.2.2.2.2.2.1 X.2.2.2.2.2.2.2.1 hP kc (by rw [x_wl_at hk, x_ent0 hsh]) hcl i hiN (X.2.2.2.2.2.2.1 _ hfl) (fun x hx => hx) (x_fs_ref ad _ rs 0 i r hr) hd (k H locs ls hP hS hL)
          next hr =>
            cases h
            intro H locs ls hP hS hL
            rw [heq]
            have hv := x_fs_int ad (f.2.2 kc) rs 0 i hr
            rw [Nat.zero_add] at hv
            exact va_get X.1 X.2.1 X.2.2.2.2.2.2.1 (x_inCl hcl) X.2.2.2.2.2.1 X.2.2.2.2.2.2.2.1 hP kc (by rw [x_wl_at hk, x_ent0 hsh]) hcl i hiN (X.2.2.2.2.2.2.1 _ hfl) (fun x hx => hx) hv hd (k H locs ls hP hS hL)
          next => cases h
      next => cases h
    next => cases h
  next => cases h
theorem x_pfl (X : x_Cx o M p s m args meth c ad ca D) {idx cI i kc : Nat} {C : String} {T : u_T} {N : Nat} {rs : List (Option Nat)} {x : Int32} {ty : FieldType} {rest : List Value} {σ : xSg} {H : Heap} {locs : List Loc} {ls : Array Slot}
    (hd : decode (xM_code M) pc = .ok (.putfield idx, 3)) (hcl : vwCl[cI]? = some (C, T, N)) (hiN : i < N) (hfl : Cond.fieldLink (xM_own M) idx (T i).1 (T i).2.1 (T i).2.2.1 ∈ x_tbl) (hfin : (T i).2.2.2 = false) (hty : parseFieldDescriptor (T i).2.2.1 = some ty) (hn : narrow ty (.int x) = .int x) (hf : fits ty (.int x) = true)
    (hsh : x_sh kc = (0, cI, rs)) (hr : x_nth rs i = some none) (hP : va_P D vwCl (x_wl ca ad σ) H) (hS : va_S (x_A o ad s) s.heap H locs)
    (kk : ∀ (H1 : Heap) (locs1 : List Loc), va_P D vwCl (x_wl ca ad (x_up σ kc (upd (σ kc) i x))) H1 → va_S (x_A o ad s) s.heap H1 locs1 → W p l e (x_Rm o) s m args below meth c H1 locs1 (x_Cc o) (x_Cs o) Qf (F0 m (pc + 3) ls rest)) :
    W p l e (x_Rm o) s m args below meth c H locs (x_Cc o) (x_Cs o) Qf (F0 m pc ls (.int x :: .ref (ad kc) :: rest)) := by
  have hk : kc < x_K := x_sh_lt hsh (by decide)
  obtain ⟨ty0, hty0⟩ := x_tyCl hcl
  refine va_put X.1 X.2.1 X.2.2.2.2.2.2.1 (x_inCl hcl) ty0 hty0 (x_nmCl hcl) X.2.2.2.2.2.1 X.2.2.2.2.2.2.2.1 hP (x_wD X.2.2.2.2.2.2.2.2.2.1 X.2.2.2.2.2.2.2.2.2.2.1) hS kc (by rw [x_wl_at hk, x_ent0 hsh]) hcl i hiN (X.2.2.2.2.2.2.1 _ hfl) (fun x hx => hx) hfin hty hn hf (x_fs_lt ad _ rs 0 i hr) hd ?_
  intro H1 locs1 hP1 hD1 hS1
  refine kk H1 locs1 ?_ hS1
  have hset := x_fs_set ad (σ kc) x rs 0 i hr
  rw [Nat.zero_add] at hset
  rw [x_wl_set (σ' := x_up σ kc (upd (σ kc) i x)) hk (fun j hj => x_up_ne hj) (by rw [x_ent0 hsh, hset, x_up_eq])] at hP1
  exact hP1
theorem x_fitI (x : Int32) : fits .int (.int x) = true := rfl
theorem x_narZ {x : Int32} (h : x = 0 ∨ x = 1) : narrow .boolean (.int x) = .int x ∧ fits .boolean (.int x) = true := by
  rcases h with rfl | rfl <;> exact ⟨by decide +kernel, by decide +kernel⟩
theorem x_pf_ok (X : x_Cx o M p s m args meth c ad ca D) (ok : x_lkok (xM_own M) (xM_lk M)) (hp : ∀ P ∈ Ps, P) {idx : Nat} (hd : decode (xM_code M) pc = .ok (.putfield idx, 3))
    (h : x_pf (xM_lk M) idx pc f = some (Ps, pc', f')) (k : x_G o M p l e s m args below meth c ad ca D Qf pc' f') : x_G o M p l e s m args below meth c ad ca D Qf pc f := by
  unfold x_pf at h
  split at h
  next x kc st heq =>
    split at h
    next cI i t hlk =>
      obtain ⟨C, T, N, hcl, hiN, hfl, ht0, ht1⟩ := ok.1 _ (x_lk_mem hlk)
      dsimp only at hcl hiN hfl ht0 ht1
      split at h
      next c2 rs hsh =>
        cases hb : Nat.beq cI c2 with
        | false => rw [hb] at h; cases h
        | true =>
          rw [hb] at h
          have hc2 : cI = c2 := Nat.eq_of_beq_eq_true hb
          subst hc2
          dsimp only [cond_true] at h
          split at h
          next hr =>
            split at h
            next =>
              cases h
              intro H locs ls hP hS hL
              rw [heq]
              obtain ⟨e1, e2⟩ := ht0 rfl
              exact x_pfl X hd hcl hiN hfl e2 (ty := .int) (by rw [e1]; decide +kernel) (vp_nar_int x) (x_fitI x) hsh hr hP hS (fun H1 locs1 hP1 hS1 => k H1 locs1 ls hP1 hS1 hL)
            next =>
              cases h
              intro H locs ls hP hS hL
              rw [heq]
              obtain ⟨e1, e2⟩ := ht1 rfl
              obtain ⟨n1, n2⟩ := x_narZ (hp _ List.mem_cons_self)
              exact x_pfl X hd hcl hiN hfl e2 (ty := .boolean) (by rw [e1]; decide +kernel) n1 n2 hsh hr hP hS (fun H1 locs1 hP1 hS1 => k H1 locs1 ls hP1 hS1 hL)
            next => cases h
          next => cases h
      next => cases h
    next => cases h
  next => cases h
theorem x_gs_ok (X : x_Cx o M p s m args meth c ad ca D) (ok : x_lkok (xM_own M) (xM_lk M)) {idx : Nat} (hd : decode (xM_code M) pc = .ok (.getstatic idx, 3))
    (h : x_gs (xM_lk M) idx pc f = some (Ps, pc', f')) (k : x_G o M p l e s m args below meth c ad ca D Qf pc' f') : x_G o M p l e s m args below meth c ad ca D Qf pc f := by
  unfold x_gs at h
  split at h
  next j hlk =>
    obtain ⟨nm, h1, ⟨lc, h2⟩, h3⟩ := ok.2.1 _ (x_lk_mem hlk)
    cases h
    intro H locs ls hP hS hL
    exact va_gets X.1 X.2.1 ((X.2.2.2.2.2.2.2.2.1 j lc h2).2 nm h1) hS X.2.2.2.2.2.1 (X.2.2.2.2.2.2.1 _ h3) (fun x hx => hx) hd (k H locs ls hP hS hL)
  next => cases h
theorem x_ldc_ok (X : x_Cx o M p s m args meth c ad ca D) (ok : x_lkok (xM_own M) (xM_lk M)) {idx : Nat} (hd : decode (xM_code M) pc = .ok (.ldc idx, 2))
    (h : x_ldc (xM_lk M) idx pc f = some (Ps, pc', f')) (k : x_G o M p l e s m args below meth c ad ca D Qf pc' f') : x_G o M p l e s m args below meth c ad ca D Qf pc f := by
  unfold x_ldc at h
  split at h
  next v hlk =>
    have h1 : Cond.constant (xM_own M) idx v ∈ x_tbl := ok.2.2.1 _ (x_lk_mem hlk)
    cases h
    intro H locs ls hP hS hL
    exact lv_ldc X.1 X.2.1 X.2.2.2.2.2.1 (X.2.2.2.2.2.2.1 _ h1) hd (k H locs ls hP hS hL)
  next => cases h
theorem x_ldw_ok (X : x_Cx o M p s m args meth c ad ca D) (ok : x_lkok (xM_own M) (xM_lk M)) {idx : Nat} (hd : decode (xM_code M) pc = .ok (.ldc_w idx, 3))
    (h : x_ldw (xM_lk M) idx pc f = some (Ps, pc', f')) (k : x_G o M p l e s m args below meth c ad ca D Qf pc' f') : x_G o M p l e s m args below meth c ad ca D Qf pc f := by
  unfold x_ldw at h
  split at h
  next v hlk =>
    have h1 : Cond.constant (xM_own M) idx v ∈ x_tbl := ok.2.2.1 _ (x_lk_mem hlk)
    cases h
    intro H locs ls hP hS hL
    exact lv_ldcw X.1 X.2.1 X.2.2.2.2.2.1 (X.2.2.2.2.2.2.1 _ h1) hd (k H locs ls hP hS hL)
  next => cases h
theorem x_ldc2_ok (X : x_Cx o M p s m args meth c ad ca D) (ok : x_lkok (xM_own M) (xM_lk M)) {idx : Nat} (hd : decode (xM_code M) pc = .ok (.ldc2_w idx, 3))
    (h : x_ldc2 (xM_lk M) idx pc f = some (Ps, pc', f')) (k : x_G o M p l e s m args below meth c ad ca D Qf pc' f') : x_G o M p l e s m args below meth c ad ca D Qf pc f := by
  unfold x_ldc2 at h
  split at h
  next v hlk =>
    have h1 : Cond.constantLong (xM_own M) idx v ∈ x_tbl := ok.2.2.1 _ (x_lk_mem hlk)
    cases h
    intro H locs ls hP hS hL
    exact lv_ldc2 X.1 X.2.1 X.2.2.2.2.2.1 (X.2.2.2.2.2.2.1 _ h1) hd (k H locs ls hP hS hL)
  next => cases h
theorem x_ety1 {k n : Nat} {rs : List (Option Nat)} (h : x_sh k = (1, n, rs)) : x_ety k = .int := by unfold x_ety; rw [h]; rfl
theorem x_ety2 {k n : Nat} {rs : List (Option Nat)} (h : x_sh k = (2, n, rs)) : x_ety k = .boolean := by unfold x_ety; rw [h]; rfl
theorem x_ety3 {k n : Nat} {rs : List (Option Nat)} (h : x_sh k = (3, n, rs)) : x_ety k = .object "LaneLock$Sheet" := by unfold x_ety; rw [h]; rfl
theorem x_ial_ok (X : x_Cx o M p s m args meth c ad ca D) (hp : ∀ P ∈ Ps, P) (hd : decode (xM_code M) pc = .ok (.iaload, 1))
    (h : x_ial o pc f = some (Ps, pc', f')) (k : x_G o M p l e s m args below meth c ad ca D Qf pc' f') : x_G o M p l e s m args below meth c ad ca D Qf pc f := by
  unfold x_ial at h
  split at h
  next i kc st heq =>
    split at h
    next n g hrd =>
      cases h
      have hin := hp _ List.mem_cons_self
      intro H locs ls hP hS hL
      rw [heq]
      unfold x_rd at hrd
      split at hrd
      next n2 rs hsh =>
        cases hrd
        obtain ⟨t0, ht⟩ := x_tys_at ca hsh (by decide) (by decide)
        rw [x_ety1 hsh] at ht
        exact va_iald X.1 X.2.1 X.2.2.2.2.2.2.2.1 hP kc t0 (by rw [x_wl_at (x_sh_lt hsh (by decide)), x_ent1 hsh]) ht hin hd (k H locs ls hP hS hL)
      next =>
        cases h99 : Nat.beq kc 99 with
        | true =>
          rw [h99] at hrd
          have e99 : kc = 99 := Nat.eq_of_beq_eq_true h99
          subst e99
          dsimp only [cond_true] at hrd
          split at hrd
          next n3 xs =>
            cases hrd
            obtain ⟨hX, hlt⟩ : va_X (ad 99) n g s s.heap ∧ ad 99 < s.heap.size := X.2.2.2.2.2.2.2.2.2.2.2
            exact va_sld X.1 X.2.1 hX hlt (A := x_A (.inr (n, g)) ad s) (Nat.not_le.mpr hlt) hS hin hd (k H locs ls hP hS hL)
          next => cases hrd
        | false =>
          rw [h99] at hrd
          dsimp only [cond_false] at hrd
          cases h100 : Nat.ble 100 kc with
          | false => rw [h100] at hrd; cases hrd
          | true =>
            rw [h100] at hrd
            dsimp only [cond_true] at hrd
            split at hrd
            next lc hlc =>
              cases hrd
              have hT := (X.2.2.2.2.2.2.2.2.1 (kc - 100) lc hlc).1
              have e1 : 100 + (kc - 100) = kc := Nat.add_sub_cancel' (Nat.le_of_ble_eq_true h100)
              rw [e1] at hT
              exact va_ti X.1 X.2.1 hT hS hin rfl hd (k H locs ls hP hS hL)
            next => cases hrd
    next => cases h
  next => cases h
theorem x_len_ok (X : x_Cx o M p s m args meth c ad ca D) (hd : decode (xM_code M) pc = .ok (.arraylength, 1))
    (h : x_len o pc f = some (Ps, pc', f')) (k : x_G o M p l e s m args below meth c ad ca D Qf pc' f') : x_G o M p l e s m args below meth c ad ca D Qf pc f := by
  unfold x_len at h
  split at h
  next kc st heq =>
    split at h
    next n g hrd =>
      cases h
      intro H locs ls hP hS hL
      rw [heq]
      unfold x_rd at hrd
      split at hrd
      next n2 rs hsh =>
        cases hrd
        obtain ⟨t0, ht⟩ := x_tys_at ca hsh (by decide) (by decide)
        exact va_alen (x := (n, .inl (f.2.2 kc))) X.1 X.2.1 X.2.2.2.2.2.2.2.1 hP kc t0 (by rw [x_wl_at (x_sh_lt hsh (by decide)), x_ent1 hsh]) ht rfl hd (k H locs ls hP hS hL)
      next =>
        cases h99 : Nat.beq kc 99 with
        | true =>
          rw [h99] at hrd
          have e99 : kc = 99 := Nat.eq_of_beq_eq_true h99
          subst e99
          dsimp only [cond_true] at hrd
          split at hrd
          next n3 xs =>
            cases hrd
            obtain ⟨hX, hlt⟩ : va_X (ad 99) n g s s.heap ∧ ad 99 < s.heap.size := X.2.2.2.2.2.2.2.2.2.2.2
            exact va_slen X.1 X.2.1 hX hlt (A := x_A (.inr (n, g)) ad s) (Nat.not_le.mpr hlt) hS hd (k H locs ls hP hS hL)
          next => cases hrd
        | false =>
          rw [h99] at hrd
          dsimp only [cond_false] at hrd
          cases h100 : Nat.ble 100 kc with
          | false => rw [h100] at hrd; cases hrd
          | true =>
            rw [h100] at hrd
            dsimp only [cond_true] at hrd
            split at hrd
            next lc hlc =>
              cases hrd
              have hT := (X.2.2.2.2.2.2.2.2.1 (kc - 100) lc hlc).1
              have e1 : 100 + (kc - 100) = kc := Nat.add_sub_cancel' (Nat.le_of_ble_eq_true h100)
              rw [e1] at hT
              exact va_tlen X.1 X.2.1 hT hS rfl hd (k H locs ls hP hS hL)
            next => cases hrd
    next => cases h
  next => cases h
theorem x_bal_ok (X : x_Cx o M p s m args meth c ad ca D) (hp : ∀ P ∈ Ps, P) (hd : decode (xM_code M) pc = .ok (.baload, 1))
    (h : x_bal pc f = some (Ps, pc', f')) (k : x_G o M p l e s m args below meth c ad ca D Qf pc' f') : x_G o M p l e s m args below meth c ad ca D Qf pc f := by
  unfold x_bal at h
  split at h
  next i kc st heq =>
    split at h
    next n rs hsh =>
      cases h
      have hin := hp _ List.mem_cons_self
      intro H locs ls hP hS hL
      rw [heq]
      obtain ⟨t0, ht⟩ := x_tys_at ca hsh (by decide) (by decide)
      rw [x_ety2 hsh] at ht
      exact va_zald X.1 X.2.1 X.2.2.2.2.2.2.2.1 hP kc t0 (by rw [x_wl_at (x_sh_lt hsh (by decide)), x_ent2 hsh]) ht hin hd (k H locs ls hP hS hL)
    next => cases h
  next => cases h
theorem x_ias_ok (X : x_Cx o M p s m args meth c ad ca D) (hp : ∀ P ∈ Ps, P) (hd : decode (xM_code M) pc = .ok (.iastore, 1))
    (h : x_ias pc f = some (Ps, pc', f')) (k : x_G o M p l e s m args below meth c ad ca D Qf pc' f') : x_G o M p l e s m args below meth c ad ca D Qf pc f := by
  unfold x_ias at h
  split at h
  next x i kc st heq =>
    split at h
    next n rs hsh =>
      cases h
      have hin := hp _ List.mem_cons_self
      intro H locs ls hP hS hL
      rw [heq]
      have hk : kc < x_K := x_sh_lt hsh (by decide)
      obtain ⟨t0, ht⟩ := x_tys_at ca hsh (by decide) (by decide)
      rw [x_ety1 hsh] at ht
      refine va_iast X.1 X.2.1 X.2.2.2.2.2.2.2.1 hP (x_wD X.2.2.2.2.2.2.2.2.2.1 X.2.2.2.2.2.2.2.2.2.2.1) hS kc t0 (by rw [x_wl_at hk, x_ent1 hsh]) ht hin hd ?_
      intro H1 locs1 hP1 hD1 hS1
      rw [x_wl_set (σ' := x_up f.2.2 kc (upd (f.2.2 kc) i.toNatClampNeg x)) hk (fun j hj => x_up_ne hj) (by rw [x_ent1 hsh, x_up_eq])] at hP1
      exact k H1 locs1 ls hP1 hS1 hL
    next => cases h
  next => cases h
theorem x_narB {x : Int32} (h : x = 0 ∨ x = 1) : vp_nar .boolean x = x := by rcases h with rfl | rfl <;> decide +kernel
theorem x_bas_ok (X : x_Cx o M p s m args meth c ad ca D) (hp : ∀ P ∈ Ps, P) (hd : decode (xM_code M) pc = .ok (.bastore, 1))
    (h : x_bas pc f = some (Ps, pc', f')) (k : x_G o M p l e s m args below meth c ad ca D Qf pc' f') : x_G o M p l e s m args below meth c ad ca D Qf pc f := by
  unfold x_bas at h
  split at h
  next x i kc st heq =>
    split at h
    next n rs hsh =>
      cases h
      have hin := hp _ List.mem_cons_self
      have hz := hp _ (List.mem_cons_of_mem _ List.mem_cons_self)
      intro H locs ls hP hS hL
      rw [heq]
      have hk : kc < x_K := x_sh_lt hsh (by decide)
      obtain ⟨t0, ht⟩ := x_tys_at ca hsh (by decide) (by decide)
      rw [x_ety2 hsh] at ht
      refine va_zast X.1 X.2.1 X.2.2.2.2.2.2.2.1 hP (x_wD X.2.2.2.2.2.2.2.2.2.1 X.2.2.2.2.2.2.2.2.2.2.1) hS kc t0 (by rw [x_wl_at hk, x_ent2 hsh]) ht hin hd ?_
      intro H1 locs1 hP1 hD1 hS1
      rw [x_narB hz] at hP1
      rw [x_wl_set (σ' := x_up f.2.2 kc (upd (f.2.2 kc) i.toNatClampNeg x)) hk (fun j hj => x_up_ne hj) (by rw [x_ent2 hsh, x_up_eq])] at hP1
      exact k H1 locs1 ls hP1 hS1 hL
    next => cases h
  next => cases h
theorem x_aal_ok (X : x_Cx o M p s m args meth c ad ca D) (hp : ∀ P ∈ Ps, P) (hd : decode (xM_code M) pc = .ok (.aaload, 1))
    (h : x_aal pc f = some (Ps, pc', f')) (k : x_G o M p l e s m args below meth c ad ca D Qf pc' f') : x_G o M p l e s m args below meth c ad ca D Qf pc f := by
  unfold x_aal at h
  split at h
  next i kc st heq =>
    split at h
    next n rs hsh =>
      split at h
      next r hr =>
        cases h
        have hin := hp _ List.mem_cons_self
        intro H locs ls hP hS hL
        rw [heq]
        obtain ⟨t0, ht⟩ := x_tys_at ca hsh (by decide) (by decide)
        rw [x_ety3 hsh] at ht
        refine va_aldq X.1 X.2.1 X.2.2.2.2.2.2.2.1 hP kc t0 (by rw [x_wl_at (x_sh_lt hsh (by decide)), x_ent3 hsh]) ht hin hd ?_
        have e1 : x_rf ad rs i.toNatClampNeg = some (ad r) := by unfold x_rf; rw [hr]; rfl
        rw [e1]
        exact k H locs ls hP hS hL
      next => cases h
    next => cases h
  next => cases h
theorem x_nat_ok (X : x_Cx o M p s m args meth c ad ca D) (ok : x_lkok (xM_own M) (xM_lk M)) (hp : ∀ P ∈ Ps, P) {idx : Nat} (hd : decode (xM_code M) pc = .ok (.invokestatic idx, 3))
    (h : x_nat o (xM_lk M) idx pc f = some (Ps, pc', f')) (k : x_G o M p l e s m args below meth c ad ca D Qf pc' f') : x_G o M p l e s m args below meth c ad ca D Qf pc f := by
  have catm : ∀ st : List Value, ((st.map (x_cv ad)).map fun v => v.category).sum = x_cat st := by
    intro st
    unfold x_cat
    congr 1
    rw [List.map_map]
    exact List.map_congr_left (fun v _ => x_cv_cat ad v)
  unfold x_nat at h
  split at h
  next d =>
    have hfr : 1 ≤ (x_Rm (.inl (d + 1))).frames := by show 1 ≤ d + 1; omega
    have hlo : 36 ≤ (x_Rm (.inl (d + 1))).locals := by show 36 ≤ 36 * (d + 1); omega
    split at h
    next hlk =>
      have hl : Cond.methodLink (xM_own M) idx Lib.Math.max.name ∈ x_tbl := ok.2.2.2 _ (x_lk_mem hlk)
      split at h
      next y x st heq =>
        cases hb : Nat.ble (x_cat st) 8 with
        | false => rw [hb] at h; cases h
        | true =>
          rw [hb] at h
          cases h
          have h8 := Nat.le_of_ble_eq_true hb
          intro H locs ls hP hS hL
          rw [heq]
          exact va_mmax X.1 X.2.1 (X.2.2.1.trans hL.1.symm) X.2.2.2.2.2.1 (X.2.2.2.2.2.2.1 _ hl) (X.2.2.2.2.2.2.1 _ x_w_max.1) (X.2.2.2.2.2.2.1 _ x_w_max.2.1) (X.2.2.2.2.2.2.1 _ x_w_max.2.2) hfr (by rw [catm]; omega) (Nat.zero_le _) (Nat.zero_le _) hd (k H locs ls hP hS hL)
      next => cases h
    next hlk =>
      have hl : Cond.methodLink (xM_own M) idx Lib.Math.min.name ∈ x_tbl := ok.2.2.2 _ (x_lk_mem hlk)
      split at h
      next y x st heq =>
        cases hb : Nat.ble (x_cat st) 8 with
        | false => rw [hb] at h; cases h
        | true =>
          rw [hb] at h
          cases h
          have h8 := Nat.le_of_ble_eq_true hb
          intro H locs ls hP hS hL
          rw [heq]
          exact va_mmin X.1 X.2.1 (X.2.2.1.trans hL.1.symm) X.2.2.2.2.2.1 (X.2.2.2.2.2.2.1 _ hl) (X.2.2.2.2.2.2.1 _ x_w_min.1) (X.2.2.2.2.2.2.1 _ x_w_min.2.1) (X.2.2.2.2.2.2.1 _ x_w_min.2.2) hfr (by rw [catm]; omega) (Nat.zero_le _) (Nat.zero_le _) hd (k H locs ls hP hS hL)
      next => cases h
    next hlk =>
      have hl : Cond.methodLink (xM_own M) idx arraycopyName ∈ x_tbl := ok.2.2.2 _ (x_lk_mem hlk)
      split at h
      next n dp k1 sp k0 st heq =>
        split at h
        next n0 rs0 n1 rs1 hsh0 hsh1 =>
          cases hb : Nat.ble (x_cat st) 8 with
          | false => rw [hb] at h; cases h
          | true =>
            rw [hb] at h
            cases h
            have h8 := Nat.le_of_ble_eq_true hb
            intro H locs ls hP hS hL
            rw [heq]
            have hk0 : k0 < x_K := x_sh_lt hsh0 (by decide)
            have hk1 : k1 < x_K := x_sh_lt hsh1 (by decide)
            obtain ⟨t0, ht0⟩ := x_tys_at ca hsh0 (by decide) (by decide)
            obtain ⟨t1, ht1⟩ := x_tys_at ca hsh1 (by decide) (by decide)
            rw [x_ety1 hsh0] at ht0
            rw [x_ety1 hsh1] at ht1
            have hnf := x_w_nfw
            refine va_copyi X.1 X.2.1 (X.2.2.1.trans hL.1.symm) X.2.2.2.2.2.1 (X.2.2.2.2.2.2.1 _ hl) (X.2.2.2.2.2.2.1 _ x_w_cpy.1) (X.2.2.2.2.2.2.1 _ x_w_cpy.2.1) (X.2.2.2.2.2.2.1 _ x_w_cpy.2.2)
              X.2.2.2.2.2.2.2.1 hP (x_wD X.2.2.2.2.2.2.2.2.2.1 X.2.2.2.2.2.2.2.2.2.2.1) hS k0 k1 t0 t1 (by rw [x_wl_at hk0, x_ent1 hsh0]) (by rw [x_wl_at hk1, x_ent1 hsh1]) ht0 ht1 rfl
              (hp _ (by simp)) (hp _ (by simp)) (hp _ (by simp)) (hp _ (by simp)) (hp _ (by simp)) (fun i _ => rfl) hfr (Nat.le_trans (show _ ≤ 36 by rw [catm]; omega) hlo) hd ?_
            intro H1 locs1 hP1 hD1 hS1
            rw [x_wl_set (σ' := x_up f.2.2 k1 (va_cpy (f.2.2 k0) (f.2.2 k1) sp.toNatClampNeg dp.toNatClampNeg n.toNatClampNeg)) hk1 (fun j hj => x_up_ne hj) (by rw [x_ent1 hsh1, x_up_eq])] at hP1
            exact k H1 locs1 ls hP1 hS1 hL
        next => cases h
      next => cases h
    next => cases h
  next => cases h
theorem x_gt_ok (hx : p.tables.exec = Jvm.exec) (hb : c.code = xM_code M) {off : Int} (hd : decode (xM_code M) pc = .ok (.goto off, 3))
    (h : x_gt off pc f = some (Ps, pc', f')) (k : x_G o M p l e s m args below meth c ad ca D Qf pc' f') : x_G o M p l e s m args below meth c ad ca D Qf pc f := by
  unfold x_gt at h
  split at h
  next t ht =>
    cases h
    intro H locs ls hP hS hL
    exact lv_goto hx hb hd ht (k H locs ls hP hS hL)
  next => cases h
end XS
end
section
/-! the judgement on frames, its rules -/
section XR
variable {o : xO} {M : xM} {p : Program} {l : Launch} {e : Env} {s : State} {m : MethodId} {args : Array Value} {below : List Frame} {meth : Method} {c : Code} {ad : Nat → Nat} {ca : Nat → ClassId} {D : va_G} {Qf : State → Prop}
variable {pc pc' : Nat} {f f' : xF} {Ps : List Prop}
set_option maxHeartbeats 4000000 in
theorem x_stp_ok (X : x_Cx o M p s m args meth c ad ca D) (ok : x_lkok (xM_own M) (xM_lk M)) (hp : ∀ P ∈ Ps, P) {i : Instr} (hd : decode (xM_code M) pc = .ok (i, x_ln i))
    (h : x_stp o (xM_maxL M) (xM_lk M) pc i f = some (Ps, pc', f')) (k : x_G o M p l e s m args below meth c ad ca D Qf pc' f') : x_G o M p l e s m args below meth c ad ca D Qf pc f := by
  have hx := X.1
  have hb := X.2.1
  unfold x_stp at h
  split at h
  · exact x_psh_ok rfl (fun H locs ls rest kk => lv_iconst hx hb hd rfl kk) h k
  · exact x_psh_ok rfl (fun H locs ls rest kk => lv_bipush hx hb hd rfl kk) h k
  · exact x_psh_ok rfl (fun H locs ls rest kk => lv_sipush hx hb hd rfl kk) h k
  · exact x_psh_ok rfl (fun H locs ls rest kk => lv_lconst hx hb hd rfl kk) h k
  · exact x_ldc_ok X ok hd h k
  · exact x_ldw_ok X ok hd h k
  · exact x_ldc2_ok X ok hd h k
  · exact x_ldi_ok (fun H locs ls rest x hl kk => lv_iload hx hb hd hl kk) h k
  · exact x_ldi_ok (fun H locs ls rest x hl kk => lv_iload_n hx hb hd rfl hl kk) h k
  · exact x_ldl_ok (fun H locs ls rest x hl kk => lv_lload hx hb hd hl kk) h k
  · exact x_ldl_ok (fun H locs ls rest x hl kk => lv_lload_n hx hb hd rfl hl kk) h k
  · exact x_lda_ok (fun H locs ls rest x hl kk => lv_aload hx hb hd hl kk) h k
  · exact x_lda_ok (fun H locs ls rest x hl kk => lv_aload_n hx hb hd rfl hl kk) h k
  · exact x_sti_ok (fun H locs ls rest x lv lv' hl hn he kk => lv_istore hx hb hd hl hn he kk) h k
  · exact x_sti_ok (fun H locs ls rest x lv lv' hl hn he kk => lv_istore_n hx hb hd rfl hl hn he kk) h k
  · exact x_stl_ok (fun H locs ls rest x lv lv' hl hn he kk => lv_lstore hx hb hd hl hn he kk) h k
  · exact x_stl_ok (fun H locs ls rest x lv lv' hl hn he kk => lv_lstore_n hx hb hd rfl hl hn he kk) h k
  · exact x_sta_ok (fun H locs ls rest x lv lv' hl hn he kk => lv_astore hx hb hd hl hn he kk) h k
  · exact x_sta_ok (fun H locs ls rest x lv lv' hl hn he kk => lv_astore_n hx hb hd rfl hl hn he kk) h k
  · exact x_inc_ok hx hb hd h k
  · exact x_bin_ok (fun H locs ls rest x y kk => lv_iadd hx hb hd kk) h k
  · exact x_bin_ok (fun H locs ls rest x y kk => lv_isub hx hb hd kk) h k
  · exact x_bin_ok (fun H locs ls rest x y kk => lv_imul hx hb hd kk) h k
  · exact x_bin_ok (fun H locs ls rest x y kk => lv_iand hx hb hd kk) h k
  · exact x_bin_ok (fun H locs ls rest x y kk => lv_ior hx hb hd kk) h k
  · exact x_bin_ok (fun H locs ls rest x y kk => lv_ixor hx hb hd kk) h k
  · exact x_bin_ok (fun H locs ls rest x y kk => lv_ishl hx hb hd kk) h k
  · exact x_bin_ok (fun H locs ls rest x y kk => lv_ishr hx hb hd kk) h k
  · exact x_bin_ok (fun H locs ls rest x y kk => lv_iushr hx hb hd rfl kk) h k
  · exact x_dv_ok hp (fun H locs ls rest x y hy kk => lv_idiv hx hb hd hy kk) h k
  · exact x_dv_ok hp (fun H locs ls rest x y hy kk => lv_irem hx hb hd hy kk) h k
  · exact x_bil_ok (fun _ _ => rfl) (fun H locs ls rest x y kk => lv_ladd hx hb hd kk) h k
  · exact x_bil_ok (fun _ _ => rfl) (fun H locs ls rest x y kk => lv_lmul hx hb hd kk) h k
  · exact x_bil_ok (fun _ _ => rfl) (fun H locs ls rest x y kk => W.lcmp hx hb hd kk) h k
  · exact x_uni_ok (fun _ => rfl) (fun H locs ls rest x kk => lv_i2l hx hb hd rfl kk) h k
  · exact x_uni_ok (fun _ => rfl) (fun H locs ls rest x kk => lv_i2b hx hb hd rfl kk) h k
  · exact x_l2i_ok (fun H locs ls rest x kk => lv_l2i hx hb hd rfl kk) h k
  · exact x_dup_ok hx hb hd h k
  · exact x_pop_ok hx hb hd h k
  · exact x_dup2_ok hx hb hd h k
  · exact x_dpx_ok hx hb hd h k
  · exact x_gf_ok X ok hd h k
  · exact x_pf_ok X ok hp hd h k
  · exact x_gs_ok X ok hd h k
  · exact x_ial_ok X hp hd h k
  · exact x_len_ok X hd h k
  · exact x_bal_ok X hp hd h k
  · exact x_ias_ok X hp hd h k
  · exact x_bas_ok X hp hd h k
  · exact x_aal_ok X hp hd h k
  · exact x_nat_ok X ok hp hd h k
  · exact x_gt_ok hx hb hd h k
  · cases h
theorem x_tbd {M : xM} {pc len : Nat} {i : Instr} (ok : x_ok M) (h : x_lk (xM_tb M) pc = some (i, len)) : decode (xM_code M) pc = .ok (i, len) := ok.2 (pc, i, len) (x_lk_mem h)
theorem x_blk_ok (X : x_Cx o M p s m args meth c ad ca D) (ok : x_ok M) : ∀ (n : Nat) {pc pc' : Nat} {f f' : xF} {Ps : List Prop}, (∀ P ∈ Ps, P) → x_blk o M n pc f = some (Ps, pc', f') → x_G o M p l e s m args below meth c ad ca D Qf pc' f' → x_G o M p l e s m args below meth c ad ca D Qf pc f
  | 0, pc, pc', f, f', Ps, hp, h, k => by
    unfold x_blk at h
    cases h
    exact k
  | n + 1, pc, pc', f, f', Ps, hp, h, k => by
    unfold x_blk at h
    split at h
    next => cases h
    next i len hlk =>
      cases hb : Nat.beq len (x_ln i) with
      | false => rw [hb] at h; cases h
      | true =>
        rw [hb] at h
        have hlen : len = x_ln i := Nat.eq_of_beq_eq_true hb
        subst hlen
        dsimp only [cond_true] at h
        split at h
        next => cases h
        next P pc1 f1 h1 =>
          split at h
          next => cases h
          next Ps2 r h2 =>
            cases h
            exact x_stp_ok X ok.1 (fun Q hQ => hp Q (List.mem_append_left _ hQ)) (x_tbd ok hlk) h1 (x_blk_ok X ok n (fun Q hQ => hp Q (List.mem_append_right _ hQ)) h2 k)
theorem x_conj_all : ∀ {Ps : List Prop}, x_conj Ps → ∀ P ∈ Ps, P
  | [], _, P, hP => by cases hP
  | [a], h, P, hP => by
    rcases List.mem_cons.mp hP with rfl | hP
    · exact h
    · cases hP
  | a :: b :: l, h, P, hP => by
    rcases List.mem_cons.mp hP with rfl | hP
    · exact h.1
    · exact x_conj_all h.2 P hP
theorem x_br_ok (hx : p.tables.exec = Jvm.exec) (hb : c.code = xM_code M) {i : Instr} {P : Prop} {off : Int} {t : Nat} {st' : List Value} (hd : decode (xM_code M) pc = .ok (i, 3)) (h : x_br i f.2.1 = some (P, off, st')) (ht : (pc : Int) + off = (t : Int))
    (kt : P → x_G o M p l e s m args below meth c ad ca D Qf t (f.1, st', f.2.2)) (kf : ¬ P → x_G o M p l e s m args below meth c ad ca D Qf (pc + 3) (f.1, st', f.2.2)) : x_G o M p l e s m args below meth c ad ca D Qf pc f := by
  unfold x_br at h
  split at h
  next k off2 =>
    split at h
    next y x st heq =>
      cases h
      intro H locs ls hP hS hL
      rw [heq]
      cases k with
      | eq => exact lv_icmp_eq hx hb hd ht (fun q => kt q H locs ls hP hS hL) (fun q => kf q H locs ls hP hS hL)
      | ne => exact lv_icmp_ne hx hb hd ht (fun q => kt q H locs ls hP hS hL) (fun q => kf (fun z => z q) H locs ls hP hS hL)
      | lt => exact lv_icmp_lt hx hb hd ht (fun q => kt q H locs ls hP hS hL) (fun q => kf q H locs ls hP hS hL)
      | ge => exact lv_icmp_ge hx hb hd ht (fun q => kt q H locs ls hP hS hL) (fun q => kf q H locs ls hP hS hL)
      | gt => exact lv_icmp_gt hx hb hd ht (fun q => kt q H locs ls hP hS hL) (fun q => kf q H locs ls hP hS hL)
      | le => exact lv_icmp_le hx hb hd ht (fun q => kt q H locs ls hP hS hL) (fun q => kf q H locs ls hP hS hL)
    next => cases h
  next k off2 =>
    split at h
    next x st heq =>
      cases h
      intro H locs ls hP hS hL
      rw [heq]
      cases k with
      | eq => exact lv_if_eq hx hb hd ht (fun q => kt q H locs ls hP hS hL) (fun q => kf q H locs ls hP hS hL)
      | ne => exact lv_if_ne hx hb hd ht (fun q => kt q H locs ls hP hS hL) (fun q => kf (fun z => z q) H locs ls hP hS hL)
      | lt => exact lv_if_lt hx hb hd ht (fun q => kt q H locs ls hP hS hL) (fun q => kf q H locs ls hP hS hL)
      | ge => exact lv_if_ge hx hb hd ht (fun q => kt q H locs ls hP hS hL) (fun q => kf q H locs ls hP hS hL)
      | gt => exact lv_if_gt hx hb hd ht (fun q => kt q H locs ls hP hS hL) (fun q => kf q H locs ls hP hS hL)
      | le => exact lv_if_le hx hb hd ht (fun q => kt q H locs ls hP hS hL) (fun q => kf q H locs ls hP hS hL)
    next => cases h
  next => cases h
end XR
end
section
/-! the judgement -/
def x_Qc (Q : Option Value → xSg → Prop) (ad : Nat → Nat) (ca : Nat → ClassId) (D : va_G) : Array Value → State → Outcome → State → Prop := fun _ st oc t => (∃ (r : Option Value) (σ' : xSg), oc = .returned (r.map (x_cv ad)) ∧ Q r σ' ∧ va_P D vwCl (x_wl ca ad σ') t.heap) ∧ va_F (x_AA ad) st t
def x_fin (o : xO) (Q : Option Value → xSg → Prop) (below : List Frame) (args : Array Value) (s : State) (ad : Nat → Nat) (ca : Nat → ClassId) (D : va_G) : State → Prop := match o with
  | .inl _ => MQ below (x_Qc Q ad ca D) args s 0 0 (x_AA ad)
  | .inr _ => lw_Z below args s
def xEv (o : xO) (M : xM) (Q : Option Value → xSg → Prop) (pc : Nat) (f : xF) : Prop := x_ok M → ∀ (p : Program) (l : Launch) (e : Env) (s : State) (m : MethodId) (args : Array Value) (below : List Frame) (meth : Method) (c : Code) (ad : Nat → Nat) (ca : Nat → ClassId) (D : va_G), x_Cx o M p s m args meth c ad ca D → x_G o M p l e s m args below meth c ad ca D (x_fin o Q below args s ad ca D) pc f
def x_Pre (ad : Nat → Nat) (ca : Nat → ClassId) (D : va_G) (σ : xSg) (U : State) : Prop := va_P D vwCl (x_wl ca ad σ) U.heap ∧ va_K D vwCl (x_tys ca) U ∧ x_Cst ad (x_AA ad) U
def x_ws (M : xM) : List Cond := .code (xM_y M) (xM_code M) (xM_maxL M) (xM_ret M) :: x_tbl
def xCtr (M : xM) (As : List Value) (σ : xSg) (Q : Option Value → xSg → Prop) : Prop := ∀ (l : Launch) (ad : Nat → Nat) (ca : Nat → ClassId) (D : va_G), x_Inj ad → Met l (xM_y M) (x_ws M) (x_Rm (.inl (xM_lev M))) (va_Pc (As.map (x_cv ad)) (x_Pre ad ca D σ)) (x_Qc Q ad ca D) 0 0 (x_AA ad)
section XE
variable {o : xO} {M : xM} {Q : Option Value → xSg → Prop} {pc pc' : Nat} {f f' : xF} {Ps : List Prop}
theorem ev_blk (n : Nat) (Ps : List Prop) (pc' : Nat) (f' : xF) (h : x_blk o M n pc f = some (Ps, pc', f')) (hc : x_conj Ps) (k : xEv o M Q pc' f') : xEv o M Q pc f :=
  fun ok p l e s m args below meth c ad ca D X => x_blk_ok X ok n (x_conj_all hc) h (k ok p l e s m args below meth c ad ca D X)
theorem ev_br (n : Nat) (Ps : List Prop) (P : Prop) (t nx : Nat) (f' : xF) (h : x_bbr o M n pc f = some (Ps, P, t, nx, f')) (hc : x_conj Ps) (kt : P → xEv o M Q t f') (kf : ¬ P → xEv o M Q nx f') : xEv o M Q pc f := by
  intro ok p l e s m args below meth c ad ca D X
  unfold x_bbr at h
  split at h
  next => cases h
  next Ps1 pc1 f1 h1 =>
    split at h
    next => cases h
    next i len hlk =>
      cases hb : Nat.beq len 3 with
      | false => rw [hb] at h; cases h
      | true =>
        rw [hb] at h
        have hlen : len = 3 := Nat.eq_of_beq_eq_true hb
        subst hlen
        dsimp only [cond_true] at h
        split at h
        next => cases h
        next P1 off st h2 =>
          split at h
          next t1 ht =>
            cases h
            exact x_blk_ok X ok n (x_conj_all hc) h1 (x_br_ok X.1 X.2.1 (x_tbd ok hlk) h2 ht (fun q => kt q ok p l e s m args below meth c ad ca D X) (fun q => kf q ok p l e s m args below meth c ad ca D X))
          next => cases h
/-- the end of a method with an int -/
theorem ev_iret {d : Nat} {v : Int32} {ty : FieldType} {L : List (Option Value)} {σ : xSg} (hi : x_lk (xM_tb M) pc = some (.ireturn, 1)) (hr : xM_ret M = some ty) (hn : narrow ty (.int v) = .int v) (hq : Q (some (.int v)) σ) : xEv (.inl d) M Q pc (L, [.int v], σ) := by
  intro ok p l e s m args below meth c ad ca D X H locs ls hP hS hL
  exact W.zret (hlocks := X.2.2.2.2.1) X.1 X.2.1 (X.2.2.2.1.trans hr) hn (fun t ht _ => ⟨⟨some (.int v), σ, rfl, hq, by rw [ht]; exact hP⟩, hS.F ht⟩) hS.2.2 (x_tbd ok hi)
theorem ev_lret {d : Nat} {v : Int64} {L : List (Option Value)} {σ : xSg} (hi : x_lk (xM_tb M) pc = some (.lreturn, 1)) (hr : xM_ret M = some .long) (hq : Q (some (.long v)) σ) : xEv (.inl d) M Q pc (L, [.long v], σ) := by
  intro ok p l e s m args below meth c ad ca D X H locs ls hP hS hL
  exact W.lret (hlocks := X.2.2.2.2.1) X.1 X.2.1 (X.2.2.2.1.trans hr) (fun t ht _ => ⟨⟨some (.long v), σ, rfl, hq, by rw [ht]; exact hP⟩, hS.F ht⟩) hS.2.2 (x_tbd ok hi)
theorem ev_vret {d : Nat} {L : List (Option Value)} {σ : xSg} (hi : x_lk (xM_tb M) pc = some (.return_, 1)) (hr : xM_ret M = none) (hq : Q none σ) : xEv (.inl d) M Q pc (L, [], σ) := by
  intro ok p l e s m args below meth c ad ca D X H locs ls hP hS hL
  exact W.vret (hlocks := X.2.2.2.2.1) X.1 X.2.1 (X.2.2.2.1.trans hr) (fun t ht _ => ⟨⟨none, σ, rfl, hq, by rw [ht]; exact hP⟩, hS.F ht⟩) hS.2.2 (x_tbd ok hi)
/-- from the body to the contract -/
def x_ini : Nat → List Value → List (Option Value)
  | 0, _ => []
  | n + 1, [] => none :: x_ini n []
  | n + 1, v :: vs => some v :: x_ini n vs
theorem x_ini_nil : ∀ (n i : Nat), x_get (x_ini n []) i = none
  | 0, i => by simp [x_ini, x_get]
  | n + 1, 0 => by simp [x_ini, x_get]
  | n + 1, i + 1 => by
    show x_get (x_ini n []) i = none
    exact x_ini_nil n i
theorem x_ini_get (ad : Nat → Nat) : ∀ (n : Nat) (As : List Value) (j i : Nat) (v : Value), (∀ a ∈ As, a.category = 1) → x_get (x_ini n As) i = some v → (j + i, x_cv ad v) ∈ lv_args j (As.map (x_cv ad))
  | 0, _, _, _, _, _, h => by simp [x_ini, x_get] at h
  | n + 1, [], j, i, v, _, h => by rw [x_ini_nil] at h; cases h
  | n + 1, a :: As, j, 0, v, hc, h => by
    simp only [x_ini, x_get, Option.some.injEq] at h
    subst h
    simp [lv_args]
  | n + 1, a :: As, j, i + 1, v, hc, h => by
    have h1 := x_ini_get ad n As (j + 1) i v (fun b hb => hc b (List.mem_cons_of_mem _ hb)) h
    have hca : ¬ (x_cv ad a).category = 2 := by rw [x_cv_cat, hc a List.mem_cons_self]; decide
    simp only [List.map_cons, lv_args, if_neg hca, List.mem_cons]
    exact Or.inr (by rw [show j + (i + 1) = j + 1 + i by omega]; exact h1)
theorem x_sl_len : ∀ (vs : List Value), (∀ a ∈ vs, a.category = 1) → (lg_sl vs).length = vs.length
  | [], _ => rfl
  | a :: vs, h => by
    have h1 := x_sl_len vs (fun b hb => h b (List.mem_cons_of_mem _ hb))
    have h2 : ¬ a.category = 2 := by rw [h a List.mem_cons_self]; decide
    unfold lg_sl at h1 ⊢
    rw [List.flatMap_cons, List.length_append, h1, if_neg h2, List.length_cons]
    simp [Nat.add_comm]
theorem x_Cst.to {ad : Nat → Nat} {A B : Nat → Prop} {u U : State} (h : x_Cst ad A u) (hAB : ∀ q, B q → A q) (hvm : u.vm.Alike U.vm) (hq : ∀ a : Nat, a < u.heap.size → ¬ A a → U.heap[a]? = u.heap[a]?) : x_Cst ad B U := by
  intro j lc hj
  obtain ⟨h1, h2⟩ := h j lc hj
  exact ⟨((h1.kept hq).moved hvm).narrow hAB, fun nm hn => (((h2 nm hn).kept hq).moved hvm).narrow hAB⟩
theorem ctr_of_ev {As : List Value} {σ : xSg} (ok : x_ok M) (hpl : plainName (xM_y M).cls = true) (how : (xM_y M).cls = xM_own M) (hcat : ∀ a ∈ As, a.category = 1) (hlen : As.length ≤ xM_maxL M)
    (h : xEv (.inl (xM_lev M)) M Q 0 (x_ini (xM_maxL M) As, [], σ)) : xCtr M As σ Q := by
  intro l ad ca D hinj
  refine Met.ofW (cc := xM_code M) (maxL := xM_maxL M) (ret := xM_ret M) hpl rfl ?_
  intro p e s m args below meth c s₁ B hml hv
  obtain ⟨rfl, hP, hK, hC⟩ := hv
  have hts := atoms_spec (ws := x_ws M) B.pre
  have hown : s.vm.findClass (xM_own M) = some m.cls := by rw [← how]; exact findClass_of_methodNamed B.named
  have hcat' : ∀ a ∈ As.map (x_cv ad), a.category = 1 := fun a ha => by
    obtain ⟨b, hb, rfl⟩ := List.mem_map.mp ha
    rw [x_cv_cat]
    exact hcat b hb
  have hsl := x_sl_len (As.map (x_cv ad)) hcat'
  have hl := lv_entry (As.map (x_cv ad)) (n := xM_maxL M) (by rw [hsl, List.length_map]; exact hlen)
  have X : x_Cx (.inl (xM_lev M)) M p s m (As.map (x_cv ad)).toArray meth c ad ca D := ⟨B.exec, B.bytes, hml, B.returns, B.notSynchronized, hown, fun w hw => hts w (List.mem_cons_of_mem _ hw), hK, hC, hinj, fun k hk => ⟨k, hk, rfl⟩, trivial⟩
  rw [lg_entry_eq]
  refine h ok p l e s m _ below meth c ad ca D X s.heap [] _ hP va_S.rf ⟨hl.1, hl.2.1, fun i v hi => ?_⟩
  have := hl.2.2 _ (x_ini_get ad (xM_maxL M) As 0 i v hcat hi)
  rwa [Nat.zero_add] at this
/-! calls -/
def x_cal (M : xM) (n : Nat) : Prop := Cond.code (xM_y M) (xM_code M) (xM_maxL M) (xM_ret M) ∈ x_tbl ∧ Cond.initialized (xM_y M).cls ∈ x_tbl ∧ (xM_y M).cls ≠ "java/lang/invoke/MethodHandle" ∧ (xM_y M).cls ≠ "java/lang/invoke/VarHandle" ∧ (parseMethodDescriptor (xM_y M).desc).map (fun d => d.parameters.length) = some n
def x_calV (M : xM) (n : Nat) : Prop := x_cal M n ∧ Cond.instanceMethod (xM_y M) ∈ x_tbl ∧ Cond.selects (xM_y M).cls (xM_y M) (xM_y M) ∈ x_tbl
def x_calS (M : xM) (n : Nat) : Prop := x_cal M n ∧ Cond.static (xM_y M) ∈ x_tbl
def x_fit (o : xO) (lev maxL : Nat) : Bool := Nat.ble (lev + 1) (x_Rm o).frames && Nat.ble (8 + (maxL + 11) + 36 * lev) (x_Rm o).locals
theorem x_wsG (M' : xM) (h : Cond.code (xM_y M') (xM_code M') (xM_maxL M') (xM_ret M') ∈ x_tbl) : GoodIn x_tbl (x_ws M') := by
  intro w hw
  have hm : w ∈ x_tbl := by
    rcases List.mem_cons.mp hw with rfl | hw
    · exact h
    · exact hw
  exact ⟨hm, good_of_word (List.mem_filter.mp hm).2⟩
theorem x_mapcat (ad : Nat → Nat) (st : List Value) : ((st.map (x_cv ad)).map fun v => v.category).sum = x_cat st := by
  unfold x_cat
  congr 1
  rw [List.map_map]
  exact List.map_congr_left (fun v _ => x_cv_cat ad v)
theorem x_AAA (o : xO) {ad : Nat → Nat} {s : State} (h : ∀ k, k < x_K → x_A o ad s (ad k)) : ∀ q, x_AA ad q → x_A o ad s q := by
  rintro q ⟨k, hk, rfl⟩
  exact h k hk
theorem x_PreU {p : Program} {s : State} {m : MethodId} {args : Array Value} {meth : Method} {c : Code} {ad : Nat → Nat} {ca : Nat → ClassId} {D : va_G} {H : Heap} {locs : List Loc} {σ : xSg} (X : x_Cx o M p s m args meth c ad ca D) (hP : va_P D vwCl (x_wl ca ad σ) H) (hS : va_S (x_A o ad s) s.heap H locs) {U : State} (hU : U.heap = H) (hW : s.WarmedH U.vm) : x_Pre ad ca D σ U :=
  ⟨by rw [hU]; exact hP, va_K.moved hW.alike X.2.2.2.2.2.2.2.1, X.2.2.2.2.2.2.2.2.1.to (x_AAA o X.2.2.2.2.2.2.2.2.2.2.1) hW.alike (fun a h1 h2 => by rw [hU]; exact hS.2.1 a h1 h2)⟩
theorem x_blind {As : List Value} {ad : Nat → Nat} {ca : Nat → ClassId} {D : va_G} {σ : xSg} : FrameBlind (va_Pc As (x_Pre ad ca D σ)) := fun a U g mk q => by
  obtain ⟨h1, hP, hK, hC⟩ := q
  exact ⟨h1, hP, va_K.moved (u := U) (U := U.calling g mk a) (Vm.Alike.refl U.vm) hK, hC.to (fun _ h => h) (Vm.Alike.refl U.vm) (fun _ _ _ => rfl)⟩
theorem x_after {p : Program} {l : Launch} {e : Env} {s : State} {m : MethodId} {args : Array Value} {below : List Frame} {meth : Method} {c : Code} {ad : Nat → Nat} {ca : Nat → ClassId} {D : va_G} {H : Heap} {locs : List Loc} {ls : Array Slot} {Qf : State → Prop} {Q' : Option Value → xSg → Prop} {L : List (Option Value)} {rest st : List Value} {ax : Array Value}
    (X : x_Cx o M p s m args meth c ad ca D) (hS : va_S (x_A o ad s) s.heap H locs) (hL : x_L ad ls (xM_maxL M) L)
    (hr : va_Run p l e (x_Rm o) s m args below meth c H locs (x_Cc o) (x_Cs o) 0 0 (F0 m pc ls st) (rest.map (x_cv ad)) (x_Qc Q' ad ca D ax) (x_AA ad))
    (kk : ∀ (r : Option Value) (σ' : xSg), Q' r σ' → x_G o M p l e s m args below meth c ad ca D Qf (pc + 3) (L, r.toList ++ rest, σ')) : W p l e (x_Rm o) s m args below meth c H locs (x_Cc o) (x_Cs o) Qf (F0 m pc ls st) := by
  intro T hT Xs
  obtain ⟨v, st₀, t, T', Lq, h0, X', hLq, e1, e2, ⟨⟨r, σ', hv, hq, hP'⟩, hz, hk⟩, stp⟩ := hr T hT Xs
  cases hv
  rw [h0] at hz hk
  have hAA := x_AAA o X.2.2.2.2.2.2.2.2.2.2.1
  have hS' : va_S (x_A o ad s) s.heap T'.heap (locs ++ Lq) := ⟨Nat.le_trans hS.1 (by rw [e1]; exact hz), fun q h1 h2 => by
    rw [e1, hk q (Nat.lt_of_lt_of_le h1 hS.1) (fun z => h2 (hAA q z))]
    exact hS.2.1 q h1 h2, fun q hq => by
      rcases List.mem_append.mp hq with h | h
      · exact hS.2.2 q h
      · exact hAA _ (hLq q h)⟩
  obtain ⟨t2, a1, b1⟩ := kk r σ' hq T'.heap (locs ++ Lq) ls (by rw [e1]; exact hP') hS' hL T' rfl X'
  refine ⟨t2, stp t2 ?_, b1⟩
  have e3 : (r.toList ++ rest).map (x_cv ad) = (r.map (x_cv ad)).toList ++ rest.map (x_cv ad) := by cases r <;> simp
  rw [← e3]
  exact a1
theorem x_fitH {o : xO} {lev maxL : Nat} (h : x_fit o lev maxL = true) : lev + 1 ≤ (x_Rm o).frames ∧ 8 + (maxL + 11) + 36 * lev ≤ (x_Rm o).locals := by
  unfold x_fit at h
  rw [Bool.and_eq_true] at h
  exact ⟨Nat.le_of_ble_eq_true h.1, Nat.le_of_ble_eq_true h.2⟩
theorem x_room (o : xO) : x_Cc o + 0 ≤ (x_Rm o).cells ∧ x_Cs o + 0 ≤ (x_Rm o).slots := by
  cases o with
  | inl d => exact ⟨Nat.le_refl _, Nat.le_refl _⟩
  | inr q => exact ⟨Nat.le_of_ble_eq_true rfl, Nat.le_of_ble_eq_true rfl⟩
/-- a call of a method with a receiver -/
theorem ev_callV (M' : xM) (As rest : List Value) (kc : Nat) {idx cI nf n : Nat} {rs : List (Option Nat)} {L : List (Option Value)} {st : List Value} {σ : xSg} {Q' : Option Value → xSg → Prop} {C : String} {T : u_T}
    (hi : x_lk (xM_tb M) pc = some (.invokevirtual idx, 3)) (hst : st = As.reverse ++ .ref kc :: rest) (hl : Cond.methodLink (xM_own M) idx (xM_y M') ∈ x_tbl) (hcal : x_calV M' n) (hn : As.length = n)
    (hsh : x_sh kc = (0, cI, rs)) (hcl : vwCl[cI]? = some (C, T, nf)) (hC : (xM_y M').cls = C) (hcat : Nat.ble (x_cat rest) 8 = true) (hfit : x_fit o (xM_lev M') (xM_maxL M') = true)
    (hct : xCtr M' (.ref kc :: As) σ Q') (kk : ∀ (r : Option Value) (σ' : xSg), Q' r σ' → xEv o M Q (pc + 3) (L, r.toList ++ rest, σ')) : xEv o M Q pc (L, st, σ) := by
  intro ok p l e s m args below meth c ad ca D X H locs ls hP hS hL
  obtain ⟨⟨c1, c2, c3, c4, c5⟩, c6, c7⟩ := hcal
  obtain ⟨f1, f2⟩ := x_fitH hfit
  have hts := X.2.2.2.2.2.2.1
  have hk : kc < x_K := x_sh_lt hsh (by decide)
  have cw : CallW (x_Rm o) s args (xM_own M) C idx (xM_y M') (xM_code M') (xM_maxL M') (xM_ret M') (x_ws M') (x_Rm (.inl (xM_lev M'))) 0 0 n :=
    ⟨callB_of n hts (x_wsG M' c1) rfl rfl rfl (hts _ c2) (hts _ hl) ⟨c3, c4, c5⟩ ⟨f1, f2⟩, hts _ c6, by rw [← hC]; exact hts _ c7⟩
  have hmap : (st.map (x_cv ad)) = (As.map (x_cv ad)).reverse ++ .ref (ad kc) :: rest.map (x_cv ad) := by
    rw [hst, List.map_append, List.map_reverse, List.map_cons]
    rfl
  refine x_after X hS hL (va_runV (As := As.map (x_cv ad)) (rest := rest.map (x_cv ad)) (b := ad kc) (C := C) ⟨X.1, X.2.1, X.2.2.1, X.2.2.2.2.2.1, hts⟩ (hct l ad ca D X.2.2.2.2.2.2.2.2.2.1) cw
    ⟨x_blind, va_recv X.2.2.2.2.2.2.2.1 hP (q0 := kc) hcl (by rw [x_wl_at hk, x_ent0 hsh]), fun U hU hW => ⟨rfl, x_PreU X hP hS hU hW⟩⟩ rfl (by rw [List.length_map]; exact hn) hL.1 hmap (lv_room (by rw [x_mapcat]; exact Nat.le_of_ble_eq_true hcat)) (x_tbd ok hi) (x_room o)) ?_
  intro r σ' hq
  exact kk r σ' hq ok p l e s m args below meth c ad ca D X
/-- a call of a static method -/
theorem ev_callS (M' : xM) (As rest : List Value) {idx n : Nat} {L : List (Option Value)} {st : List Value} {σ : xSg} {Q' : Option Value → xSg → Prop}
    (hi : x_lk (xM_tb M) pc = some (.invokestatic idx, 3)) (hst : st = As.reverse ++ rest) (hl : Cond.methodLink (xM_own M) idx (xM_y M') ∈ x_tbl) (hcal : x_calS M' n) (hn : As.length = n)
    (hcat : Nat.ble (x_cat rest) 8 = true) (hfit : x_fit o (xM_lev M') (xM_maxL M') = true)
    (hct : xCtr M' As σ Q') (kk : ∀ (r : Option Value) (σ' : xSg), Q' r σ' → xEv o M Q (pc + 3) (L, r.toList ++ rest, σ')) : xEv o M Q pc (L, st, σ) := by
  intro ok p l e s m args below meth c ad ca D X H locs ls hP hS hL
  obtain ⟨⟨c1, c2, c3, c4, c5⟩, c6⟩ := hcal
  obtain ⟨f1, f2⟩ := x_fitH hfit
  have hts := X.2.2.2.2.2.2.1
  have cw : CallB (x_Rm o) s args (xM_own M) idx (xM_y M') (xM_code M') (xM_maxL M') (xM_ret M') (x_ws M') (x_Rm (.inl (xM_lev M'))) 0 0 n ∧ (Cond.static (xM_y M')).before args s = true :=
    ⟨callB_of n hts (x_wsG M' c1) rfl rfl rfl (hts _ c2) (hts _ hl) ⟨c3, c4, c5⟩ ⟨f1, f2⟩, hts _ c6⟩
  have hmap : (st.map (x_cv ad)) = (As.map (x_cv ad)).reverse ++ rest.map (x_cv ad) := by
    rw [hst, List.map_append, List.map_reverse]
  refine x_after X hS hL (va_runS (As := As.map (x_cv ad)) (rest := rest.map (x_cv ad)) ⟨X.1, X.2.1, X.2.2.1, X.2.2.2.2.2.1, hts⟩ (hct l ad ca D X.2.2.2.2.2.2.2.2.2.1) cw
    ⟨x_blind, fun U hU hW => ⟨rfl, x_PreU X hP hS hU hW⟩⟩ rfl (by rw [List.length_map]; exact hn) hL.1 hmap (lv_room (by rw [x_mapcat]; exact Nat.le_of_ble_eq_true hcat)) (x_tbd ok hi) (x_room o)) ?_
  intro r σ' hq
  exact kk r σ' hq ok p l e s m args below meth c ad ca D X
end XE
/-! switches -/
def x_prs (pc : Nat) : Int → List Int → Option (List (Int32 × Nat))
  | _, [] => some []
  | v, off :: l => match (pc : Int) + off with
    | .ofNat t => match x_prs pc (v + 1) l with
      | some r => some ((Int32.ofInt v, t) :: r)
      | none => none
    | _ => none
def x_chn (x : Int32) : List (Int32 × Nat) → Nat → (Nat → Prop) → Prop
  | [], d, E => E d
  | (v, t) :: l, d, E => (x = v → E t) ∧ (¬ x = v → x_chn x l d E)
def x_lks (pc : Nat) : List (Int × Int) → Option (List (Int32 × Nat))
  | [] => some []
  | (v, off) :: l => match (pc : Int) + off with
    | .ofNat t => match x_lks pc l with
      | some r => some ((Int32.ofInt v, t) :: r)
      | none => none
    | _ => none
def x_bsw (o : xO) (M : xM) (n pc : Nat) (f : xF) : Option (List Prop × Int32 × List (Int32 × Nat) × Nat × xF) := match x_blk o M n pc f with
  | none => none
  | some (Ps, pc', f') => match f'.2.1 with
    | .int x :: st => match x_lk (xM_tb M) pc' with
      | some (.tableswitch d lo hi offs, _) => bif decide (-2147483648 ≤ lo) && decide (hi < 2147483648) && decide (hi + 1 = lo + (offs.toList.length : Int)) then (match (pc' : Int) + d with
        | .ofNat td => match x_prs pc' lo offs.toList with
          | some r => some (Ps, x, r, td, (f'.1, st, f'.2.2))
          | none => none
        | _ => none) else none
      | some (.lookupswitch d ps, _) => bif ((ps.toList.zip (ps.toList.drop 1)).all (fun (a, next) => a.1 < next.1)) && ps.toList.all (fun a => decide (-2147483648 ≤ a.1) && decide (a.1 < 2147483648)) then (match (pc' : Int) + d with
        | .ofNat td => match x_lks pc' ps.toList with
          | some r => some (Ps, x, r, td, (f'.1, st, f'.2.2))
          | none => none
        | _ => none) else none
      | _ => none
    | _ => none
theorem x_ofI {x : Int32} {v : Int} (h1 : -2147483648 ≤ v) (h2 : v < 2147483648) : x = Int32.ofInt v ↔ x.toInt = v := by
  have hv : (Int32.ofInt v).toInt = v := Int32.toInt_ofInt_of_le (by omega) (by omega)
  constructor
  · intro h; rw [h]; exact hv
  · intro h; exact Int32.toInt_inj.mp (by rw [h, hv])
theorem x_prs_in {pc : Nat} {x : Int32} {E : Nat → Prop} : ∀ {offs : List Int} {v : Int} {r : List (Int32 × Nat)} {d : Nat}, -2147483648 ≤ v → v + offs.length ≤ 2147483648 → x_prs pc v offs = some r → x_chn x r d E →
    (∀ (j : Nat) (off : Int), offs[j]? = some off → x.toInt = v + j → ∃ t : Nat, (pc : Int) + off = (t : Int) ∧ E t) ∧ ((x.toInt < v ∨ v + offs.length ≤ x.toInt) → E d)
  | [], v, r, d, _, _, h, k => by
    unfold x_prs at h
    cases h
    exact ⟨fun j off hj => by simp at hj, fun _ => k⟩
  | off :: l, v, r, d, h1, h2, h, k => by
    unfold x_prs at h
    split at h
    next t ht =>
      split at h
      next r2 hr2 =>
        cases h
        simp only [List.length_cons, Int.natCast_add, Int.natCast_one] at h2
        obtain ⟨k1, k2⟩ := k
        have hv : x = Int32.ofInt v ↔ x.toInt = v := x_ofI h1 (by omega)
        refine ⟨fun j off' hj hx => ?_, fun hx => ?_⟩
        · cases j with
          | zero =>
            simp only [List.getElem?_cons_zero, Option.some.injEq] at hj
            subst hj
            exact ⟨t, ht, k1 (hv.mpr (by rw [hx]; simp))⟩
          | succ j =>
            have hne : ¬ x = Int32.ofInt v := fun q => by
              have := hv.mp q
              rw [this] at hx
              simp at hx
              omega
            exact (x_prs_in (by omega) (by omega) hr2 (k2 hne)).1 j off' (by simpa using hj) (by rw [hx]; simp; omega)
        · simp only [List.length_cons, Int.natCast_add, Int.natCast_one] at hx
          have hne : ¬ x = Int32.ofInt v := fun q => by
            have := hv.mp q
            omega
          exact (x_prs_in (by omega) (by omega) hr2 (k2 hne)).2 (by omega)
      next => cases h
    next => cases h
theorem x_lks_in {pc : Nat} {x : Int32} {E : Nat → Prop} {dflt : Int} {d : Nat} (hd : (pc : Int) + dflt = (d : Int)) : ∀ {ps : List (Int × Int)} {r : List (Int32 × Nat)}, (ps.all (fun a => decide (-2147483648 ≤ a.1) && decide (a.1 < 2147483648)) = true) → x_lks pc ps = some r → x_chn x r d E → ∃ t : Nat, (pc : Int) + Op.lookupswitch.offset ps dflt x.toInt = (t : Int) ∧ E t
  | [], r, _, h, k => by
    unfold x_lks at h
    cases h
    exact ⟨d, hd, k⟩
  | (v, off) :: l, r, ha, h, k => by
    simp only [List.all_cons, Bool.and_eq_true, decide_eq_true_eq] at ha
    unfold x_lks at h
    split at h
    next t ht =>
      split at h
      next r2 hr2 =>
        cases h
        obtain ⟨k1, k2⟩ := k
        have hv : x = Int32.ofInt v ↔ x.toInt = v := x_ofI ha.1.1 ha.1.2
        by_cases hx : x.toInt = v
        · refine ⟨t, ?_, k1 (hv.mpr hx)⟩
          show (pc : Int) + (if v = x.toInt then off else Op.lookupswitch.offset l dflt x.toInt) = (t : Int)
          rw [if_pos hx.symm]
          exact ht
        · obtain ⟨t2, a1, a2⟩ := x_lks_in hd (by simpa using ha.2) hr2 (k2 (fun q => hx (hv.mp q)))
          refine ⟨t2, ?_, a2⟩
          show (pc : Int) + (if v = x.toInt then off else Op.lookupswitch.offset l dflt x.toInt) = (t2 : Int)
          rw [if_neg (Ne.symm hx)]
          exact a1
      next => cases h
    next => cases h
section XW
variable {o : xO} {M : xM} {Q : Option Value → xSg → Prop} {pc : Nat} {f : xF}
theorem ev_sw (n : Nat) (Ps : List Prop) (x : Int32) (r : List (Int32 × Nat)) (d : Nat) (f' : xF) (h : x_bsw o M n pc f = some (Ps, x, r, d, f')) (hc : x_conj Ps) (k : x_chn x r d (fun t => xEv o M Q t f')) : xEv o M Q pc f := by
  intro ok p l e s m args below meth c ad ca D X
  unfold x_bsw at h
  split at h
  next => cases h
  next Ps1 pc1 f1 h1 =>
    split at h
    next x1 st heq =>
      split at h
      next d1 lo hi offs len hlk =>
        cases hb : (decide (-2147483648 ≤ lo) && decide (hi < 2147483648) && decide (hi + 1 = lo + (offs.toList.length : Int))) with
        | false => rw [hb] at h; cases h
        | true =>
          rw [hb] at h
          simp only [Bool.and_eq_true, decide_eq_true_eq] at hb
          obtain ⟨⟨b1, b2⟩, b3⟩ := hb
          dsimp only [cond_true] at h
          split at h
          next td htd =>
            split at h
            next r1 hr1 =>
              cases h
              refine x_blk_ok X ok n (x_conj_all hc) h1 ?_
              intro H locs ls hP hS hL
              rw [heq]
              have hd := x_tbd ok hlk
              obtain ⟨g1, g2⟩ := x_prs_in b1 (by omega) hr1 k
              by_cases hout : x.toInt < lo ∨ hi < x.toInt
              · exact lv_tableOut X.1 X.2.1 hd hout htd (g2 (by omega) ok p l e s m args below meth c ad ca D X H locs ls hP hS hL)
              · have h3 : ¬ x.toInt < lo := fun q => hout (Or.inl q)
                have h4 : ¬ hi < x.toInt := fun q => hout (Or.inr q)
                have hj : (x.toInt - lo).toNat < offs.toList.length := by omega
                have hjo : offs.toList[(x.toInt - lo).toNat]? = some offs.toList[(x.toInt - lo).toNat] := List.getElem?_eq_getElem hj
                obtain ⟨t, ht, hE⟩ := g1 (x.toInt - lo).toNat _ hjo (by omega)
                exact lv_tableIn X.1 X.2.1 hd h3 h4 (by rw [← Array.getElem?_toList]; exact hjo) ht (hE ok p l e s m args below meth c ad ca D X H locs ls hP hS hL)
            next => cases h
          next => cases h
      next d1 ps len hlk =>
        cases hb : (((ps.toList.zip (ps.toList.drop 1)).all (fun (a, next) => a.1 < next.1)) && ps.toList.all (fun a => decide (-2147483648 ≤ a.1) && decide (a.1 < 2147483648))) with
        | false => rw [hb] at h; cases h
        | true =>
          rw [hb] at h
          rw [Bool.and_eq_true] at hb
          dsimp only [cond_true] at h
          split at h
          next td htd =>
            split at h
            next r1 hr1 =>
              cases h
              refine x_blk_ok X ok n (x_conj_all hc) h1 ?_
              intro H locs ls hP hS hL
              rw [heq]
              have hd := x_tbd ok hlk
              obtain ⟨t, ht, hE⟩ := x_lks_in htd hb.2 hr1 k
              exact lv_lookup X.1 X.2.1 hd hb.1 rfl ht (hE ok p l e s m args below meth c ad ca D X H locs ls hP hS hL)
            next => cases h
          next => cases h
      next => cases h
    next => cases h
end XW
end
section
theorem x_mem (i : Nat) {w : Cond} (h : lw_tbl[i]? = some w) (hg : goodWord w = true) : w ∈ x_tbl := List.mem_filter.mpr ⟨List.mem_of_getElem? h, hg⟩
def x_fokB (own : String) (q : Nat × Nat × Nat × Nat) : Bool := match vwCl[q.2.1]? with
  | some (_, T, N) => decide (q.2.2.1 < N) && decide (Cond.fieldLink own q.1 (T q.2.2.1).1 (T q.2.2.1).2.1 (T q.2.2.1).2.2.1 ∈ x_tbl) && (!(Nat.beq q.2.2.2 0) || (decide ((T q.2.2.1).2.2.1 = "I") && decide ((T q.2.2.1).2.2.2 = false))) && (!(Nat.beq q.2.2.2 1) || (decide ((T q.2.2.1).2.2.1 = "Z") && decide ((T q.2.2.1).2.2.2 = false)))
  | none => false
theorem x_fok_of {own : String} {q : Nat × Nat × Nat × Nat} (h : x_fokB own q = true) : x_fok own q := by
  unfold x_fokB at h
  split at h
  next C T N hc =>
    simp only [Bool.and_eq_true, decide_eq_true_eq, Bool.or_eq_true, Bool.not_eq_true'] at h
    obtain ⟨⟨⟨h1, h2⟩, h3⟩, h4⟩ := h
    exact ⟨C, T, N, hc, h1, h2, fun e => by rw [e] at h3; exact h3.resolve_left (by decide), fun e => by rw [e] at h4; exact h4.resolve_left (by decide)⟩
  next => cases h
def x_kokB (own : String) (q : Nat × Value) : Bool := match q.2 with
  | .int v => decide (Cond.constant own q.1 v ∈ x_tbl)
  | .long v => decide (Cond.constantLong own q.1 v ∈ x_tbl)
  | _ => false
theorem x_kok_of {own : String} {q : Nat × Value} (h : x_kokB own q = true) : x_kok own q := by
  unfold x_kokB at h
  unfold x_kok
  split at h
  next v hv => rw [hv]; exact of_decide_eq_true h
  next v hv => rw [hv]; exact of_decide_eq_true h
  next => cases h
def x_nokB (own : String) (q : Nat × Nat) : Bool := match q.2 with
  | 0 => decide (Cond.methodLink own q.1 Lib.Math.max.name ∈ x_tbl)
  | 1 => decide (Cond.methodLink own q.1 Lib.Math.min.name ∈ x_tbl)
  | _ => decide (Cond.methodLink own q.1 arraycopyName ∈ x_tbl)
theorem x_nok_of {own : String} {q : Nat × Nat} (h : x_nokB own q = true) : x_nok own q := by
  unfold x_nokB at h
  unfold x_nok
  split at h
  next hv => have h2 := of_decide_eq_true h; rw [hv]; exact h2
  next hv => have h2 := of_decide_eq_true h; rw [hv]; exact h2
  next n1 n2 =>
    split
    next e => exact absurd e n1
    next e => exact absurd e n2
    next => exact of_decide_eq_true h
def x_sokB (own : String) (q : Nat × Nat) : Bool := match x_nth x_csn q.2, x_nth x_cst q.2 with
  | some nm, some _ => decide (Cond.fieldLink own q.1 "LaneLock" nm "[I" ∈ x_tbl)
  | _, _ => false
theorem x_sok_of {own : String} {q : Nat × Nat} (h : x_sokB own q = true) : x_sok own q := by
  unfold x_sokB at h
  split at h
  next nm l h1 h2 => exact ⟨nm, h1, ⟨l, h2⟩, of_decide_eq_true h⟩
  next => cases h
theorem x_lkok_of {own : String} {X : xLK} (h : (X.1.all (x_fokB own) && X.2.1.all (x_sokB own) && X.2.2.1.all (x_kokB own) && X.2.2.2.all (x_nokB own)) = true) : x_lkok own X := by
  simp only [Bool.and_eq_true, List.all_eq_true] at h
  exact ⟨fun q hq => x_fok_of (h.1.1.1 q hq), fun q hq => x_sok_of (h.1.1.2 q hq), fun q hq => x_kok_of (h.1.2 q hq), fun q hq => x_nok_of (h.2 q hq)⟩
theorem x_ok_of {M : xM} (h1 : x_lkok (xM_own M) (xM_lk M)) (h2 : ((xM_tb M).all fun q => decide (decode (xM_code M) q.1 = .ok q.2)) = true) : x_ok M := by
  simp only [List.all_eq_true, decide_eq_true_eq] at h2
  exact ⟨h1, h2⟩
def lk_X0 : xLK := ([(9, 0, 2, 2), (15, 0, 3, 2), (18, 0, 0, 2), (22, 0, 1, 2), (35, 0, 4, 0), (39, 0, 5, 0), (42, 3, 1, 0), (61, 3, 10, 2), (67, 3, 7, 2)], [], [], [(70, 0)])
set_option maxRecDepth 20000 in
theorem lkok_X0 : x_lkok RX0 lk_X0 := x_lkok_of (by decide +kernel)
def lk_X1 : xLK := ([(9, 1, 3, 2), (15, 1, 4, 2), (18, 1, 5, 2), (21, 1, 0, 2), (30, 1, 1, 2), (34, 1, 2, 2), (47, 1, 6, 0), (51, 1, 7, 0), (54, 1, 8, 0), (57, 1, 9, 0)], [], [], [])
set_option maxRecDepth 20000 in
theorem lkok_X1 : x_lkok RX1 lk_X1 := x_lkok_of (by decide +kernel)
def lk_X2 : xLK := ([(9, 2, 1, 2), (15, 2, 2, 2), (18, 2, 3, 2), (21, 2, 4, 2), (24, 2, 0, 2), (28, 3, 11, 2), (39, 2, 5, 0), (43, 2, 6, 0), (46, 2, 7, 1), (50, 3, 10, 2), (63, 3, 3, 2), (76, 3, 6, 2), (88, 3, 8, 2), (102, 3, 7, 2)], [], [], [(33, 2), (53, 0)])
set_option maxRecDepth 20000 in
theorem lkok_X2 : x_lkok RX2 lk_X2 := x_lkok_of (by decide +kernel)
def lk_X3 : xLK := ([(9, 3, 3, 2), (15, 3, 4, 2), (18, 3, 5, 2), (21, 3, 6, 2), (24, 3, 7, 2), (27, 3, 8, 2), (30, 3, 9, 2), (41, 3, 10, 2), (44, 3, 11, 2), (47, 3, 12, 2), (50, 3, 14, 2), (59, 3, 0, 0), (63, 3, 1, 0), (66, 3, 2, 0), (69, 3, 13, 0)], [], [], [(72, 2), (85, 0), (97, 1)])
set_option maxRecDepth 20000 in
theorem lkok_X3 : x_lkok RX3 lk_X3 := x_lkok_of (by decide +kernel)
def lk_X4 : xLK := ([(9, 4, 0, 0), (15, 4, 2, 2), (19, 4, 1, 0)], [], [], [(22, 1), (28, 0)])
set_option maxRecDepth 20000 in
theorem lkok_X4 : x_lkok RX4 lk_X4 := x_lkok_of (by decide +kernel)
def lk_X5 : xLK := ([(12, 5, 0, 2), (18, 5, 1, 2), (21, 5, 3, 2), (30, 5, 5, 2), (39, 5, 6, 2), (46, 5, 7, 2), (52, 5, 8, 2), (65, 3, 0, 0), (69, 3, 3, 2), (72, 3, 4, 2), (75, 3, 5, 2), (78, 3, 6, 2), (81, 3, 7, 2), (84, 3, 8, 2), (87, 3, 9, 2), (90, 3, 1, 0), (93, 5, 4, 0), (105, 3, 10, 2), (108, 3, 11, 2), (112, 3, 12, 2), (143, 3, 13, 0), (172, 2, 5, 0), (175, 2, 2, 2), (178, 2, 3, 2), (181, 2, 4, 2), (190, 3, 14, 2), (212, 0, 4, 0), (213, 0, 5, 0), (217, 1, 6, 0), (220, 1, 7, 0), (223, 1, 8, 0), (226, 1, 9, 0), (236, 4, 1, 0), (253, 5, 2, 1), (263, 4, 0, 0), (269, 4, 2, 2)], [(99, 1), (102, 2), (154, 4), (282, 0)], [(64, .int (1000000)), (111, .int (99999)), (184, .long (-9223372036854775808))], [(272, 2)])
set_option maxRecDepth 20000 in
theorem lkok_X5 : x_lkok RX5 lk_X5 := x_lkok_of (by decide +kernel)
def lk_X6 : xLK := ([(9, 6, 1, 2), (15, 6, 2, 2), (18, 6, 3, 2), (21, 6, 4, 2), (24, 6, 5, 2), (27, 6, 6, 2), (30, 6, 7, 2), (33, 6, 8, 2), (36, 6, 9, 2), (39, 6, 10, 2), (42, 6, 11, 2), (45, 6, 12, 2), (49, 6, 13, 2), (52, 6, 15, 2), (55, 6, 17, 2), (58, 6, 19, 2), (61, 6, 20, 2), (64, 6, 21, 2), (67, 6, 22, 2), (70, 6, 24, 2), (73, 6, 25, 2), (76, 6, 26, 2), (79, 6, 28, 2), (82, 6, 31, 2), (85, 6, 32, 2), (88, 6, 33, 2), (91, 6, 34, 2), (94, 6, 35, 2), (97, 6, 36, 2), (100, 6, 37, 2), (103, 6, 38, 2), (106, 6, 0, 0), (115, 6, 16, 0), (146, 6, 14, 0), (153, 6, 23, 0), (183, 6, 29, 0), (186, 6, 30, 0), (213, 6, 18, 1)], [], [(114, .int (999999)), (122, .int (99999)), (181, .long (-9223372036854775808)), (221, .long (5)), (223, .long (4))], [(123, 1), (133, 0)])
set_option maxRecDepth 20000 in
theorem lkok_X6 : x_lkok RX6 lk_X6 := x_lkok_of (by decide +kernel)
def lk_J6 : xLK := ([], [], [(265, .int (1431655765)), (266, .int (858993459)), (267, .int (252645135))], [])
set_option maxRecDepth 20000 in
theorem lkok_J6 : x_lkok RJ6 lk_J6 := x_lkok_of (by decide +kernel)
def lk_J7 : xLK := ([], [], [], [])
set_option maxRecDepth 20000 in
theorem lkok_J7 : x_lkok RJ7 lk_J7 := x_lkok_of (by decide +kernel)
end
section
def M_X0_run : xM := (RX0, yX0_run, cX0_run, 5, none, 5, lk_X0, [(0, .aload_n 0, 1), (1, .invokevirtual 26, 3), (4, .aload_n 0, 1), (5, .getfield 15, 3), (8, .iconst (-1), 1), (9, .invokestatic 29, 3), (12, .aload_n 0, 1), (13, .iconst 0, 1), (14, .putfield 35, 3), (17, .aload_n 0, 1), (18, .iconst (-1), 1), (19, .putfield 39, 3), (22, .aload_n 0, 1), (23, .getfield 18, 3), (26, .getfield 42, 3), (29, .istore_n 1, 1), (30, .iconst 0, 1), (31, .istore_n 2, 1), (32, .iconst 0, 1), (33, .istore_n 3, 1), (34, .iload_n 3, 1), (35, .bipush 20, 2), (37, .if_icmp .gt 74, 3), (40, .iload_n 2, 1), (41, .iconst (-1), 1), (42, .if_icmp .eq 69, 3), (45, .aload_n 0, 1), (46, .getfield 22, 3), (49, .aload_n 0, 1), (50, .iload_n 2, 1), (51, .iload_n 1, 1), (52, .invokevirtual 47, 3), (55, .aload_n 0, 1), (56, .getfield 9, 3), (59, .invokevirtual 51, 3), (62, .istore 4, 2), (64, .iload 4, 2), (66, .ifCond .eq 32, 3), (69, .aload_n 0, 1), (70, .iload 4, 2), (72, .iload_n 2, 1), (73, .invokevirtual 57, 3), (76, .iload_n 1, 1), (77, .iload 4, 2), (79, .iconst (-1), 1), (80, .ixor, 1), (81, .iand, 1), (82, .istore_n 1, 1), (83, .iload_n 2, 1), (84, .aload_n 0, 1), (85, .getfield 18, 3), (88, .getfield 61, 3), (91, .iconst 3, 1), (92, .iaload, 1), (93, .iadd, 1), (94, .istore_n 2, 1), (95, .goto 10, 3), (98, .aload_n 0, 1), (99, .iload_n 2, 1), (100, .iload_n 1, 1), (101, .invokevirtual 64, 3), (104, .istore_n 2, 1), (105, .iinc 3 1, 3), (108, .goto (-74), 3), (111, .return_, 1)])
set_option maxRecDepth 20000 in
theorem ok_X0_run : x_ok M_X0_run := x_ok_of lkok_X0 (by decide +kernel)
set_option maxRecDepth 20000 in
theorem k_X0_run : x_calV M_X0_run 0 := ⟨⟨x_mem 509 rfl rfl, x_mem 40 (by decide +kernel) rfl, by decide +kernel, by decide +kernel, by decide +kernel⟩, x_mem 507 (by decide +kernel) rfl, x_mem 508 (by decide +kernel) rfl⟩
def M_X0_sortByComes : xM := (RX0, yX0_sortByComes, cX0_sortByComes, 3, none, 0, lk_X0, [(0, .iconst 0, 1), (1, .istore_n 1, 1), (2, .iload_n 1, 1), (3, .bipush 10, 2), (5, .if_icmp .ge 70, 3), (8, .iload_n 1, 1), (9, .istore_n 2, 1), (10, .iload_n 2, 1), (11, .ifCond .le 51, 3), (14, .aload_n 0, 1), (15, .getfield 18, 3), (18, .getfield 67, 3), (21, .aload_n 0, 1), (22, .getfield 9, 3), (25, .iload_n 2, 1), (26, .iconst 1, 1), (27, .isub, 1), (28, .iaload, 1), (29, .iaload, 1), (30, .aload_n 0, 1), (31, .getfield 18, 3), (34, .getfield 67, 3), (37, .iload_n 1, 1), (38, .iaload, 1), (39, .if_icmp .le 23, 3), (42, .aload_n 0, 1), (43, .getfield 9, 3), (46, .iload_n 2, 1), (47, .aload_n 0, 1), (48, .getfield 9, 3), (51, .iload_n 2, 1), (52, .iconst 1, 1), (53, .isub, 1), (54, .iaload, 1), (55, .iastore, 1), (56, .iinc 2 (-1), 3), (59, .goto (-49), 3), (62, .aload_n 0, 1), (63, .getfield 9, 3), (66, .iload_n 2, 1), (67, .iload_n 1, 1), (68, .iastore, 1), (69, .iinc 1 1, 3), (72, .goto (-70), 3), (75, .return_, 1)])
set_option maxRecDepth 20000 in
theorem ok_X0_sortByComes : x_ok M_X0_sortByComes := x_ok_of lkok_X0 (by decide +kernel)
set_option maxRecDepth 20000 in
theorem k_X0_sortByComes : x_calV M_X0_sortByComes 0 := ⟨⟨x_mem 513 rfl rfl, x_mem 40 (by decide +kernel) rfl, by decide +kernel, by decide +kernel, by decide +kernel⟩, x_mem 512 (by decide +kernel) rfl, x_mem 5 (by decide +kernel) rfl⟩
def M_X0_comeBy : xM := (RX0, yX0_comeBy, cX0_comeBy, 5, (some .int), 0, lk_X0, [(0, .iconst 0, 1), (1, .istore_n 3, 1), (2, .iconst 0, 1), (3, .istore 4, 2), (5, .iload 4, 2), (7, .bipush 10, 2), (9, .if_icmp .ge 34, 3), (12, .iload_n 3, 1), (13, .aload_n 0, 1), (14, .getfield 18, 3), (17, .getfield 67, 3), (20, .iload 4, 2), (22, .iaload, 1), (23, .iload_n 1, 1), (24, .if_icmp .gt 10, 3), (27, .iconst 1, 1), (28, .iload 4, 2), (30, .ishl, 1), (31, .goto 4, 3), (34, .iconst 0, 1), (35, .ior, 1), (36, .istore_n 3, 1), (37, .iinc 4 1, 3), (40, .goto (-35), 3), (43, .iload_n 3, 1), (44, .iload_n 2, 1), (45, .iand, 1), (46, .ireturn, 1)])
set_option maxRecDepth 20000 in
theorem ok_X0_comeBy : x_ok M_X0_comeBy := x_ok_of lkok_X0 (by decide +kernel)
set_option maxRecDepth 20000 in
theorem k_X0_comeBy : x_calV M_X0_comeBy 2 := ⟨⟨x_mem 518 rfl rfl, x_mem 40 (by decide +kernel) rfl, by decide +kernel, by decide +kernel, by decide +kernel⟩, x_mem 517 (by decide +kernel) rfl, x_mem 6 (by decide +kernel) rfl⟩
def M_X0_nextComes : xM := (RX0, yX0_nextComes, cX0_nextComes, 7, (some .int), 0, lk_X0, [(0, .iconst (-1), 1), (1, .istore_n 3, 1), (2, .iconst 0, 1), (3, .istore 4, 2), (5, .iload 4, 2), (7, .bipush 10, 2), (9, .if_icmp .ge 62, 3), (12, .aload_n 0, 1), (13, .getfield 18, 3), (16, .getfield 67, 3), (19, .iload 4, 2), (21, .iaload, 1), (22, .istore 5, 2), (24, .iload_n 2, 1), (25, .iload 4, 2), (27, .ishr, 1), (28, .iconst 1, 1), (29, .iand, 1), (30, .ifCond .eq 13, 3), (33, .iload 5, 2), (35, .iload_n 1, 1), (36, .if_icmp .le 7, 3), (39, .iconst 1, 1), (40, .goto 4, 3), (43, .iconst 0, 1), (44, .istore 6, 2), (46, .iload 6, 2), (48, .ifCond .eq 17, 3), (51, .iload_n 3, 1), (52, .iconst (-1), 1), (53, .if_icmp .eq 9, 3), (56, .iload 5, 2), (58, .iload_n 3, 1), (59, .if_icmp .ge 6, 3), (62, .iload 5, 2), (64, .istore_n 3, 1), (65, .iinc 4 1, 3), (68, .goto (-63), 3), (71, .iload_n 3, 1), (72, .ireturn, 1)])
set_option maxRecDepth 20000 in
theorem ok_X0_nextComes : x_ok M_X0_nextComes := x_ok_of lkok_X0 (by decide +kernel)
set_option maxRecDepth 20000 in
theorem k_X0_nextComes : x_calV M_X0_nextComes 2 := ⟨⟨x_mem 527 rfl rfl, x_mem 40 (by decide +kernel) rfl, by decide +kernel, by decide +kernel, by decide +kernel⟩, x_mem 526 (by decide +kernel) rfl, x_mem 8 (by decide +kernel) rfl⟩
def M_X0_begin : xM := (RX0, yX0_begin, cX0_begin, 4, none, 0, lk_X0, [(0, .aload_n 0, 1), (1, .dup, 1), (2, .getfield 35, 3), (5, .iconst 1, 1), (6, .iadd, 1), (7, .putfield 35, 3), (10, .aload_n 0, 1), (11, .iload_n 2, 1), (12, .putfield 39, 3), (15, .iconst 0, 1), (16, .istore_n 3, 1), (17, .iload_n 3, 1), (18, .bipush 10, 2), (20, .if_icmp .ge 34, 3), (23, .iload_n 1, 1), (24, .iload_n 3, 1), (25, .ishr, 1), (26, .iconst 1, 1), (27, .iand, 1), (28, .ifCond .eq 20, 3), (31, .aload_n 0, 1), (32, .getfield 15, 3), (35, .iload_n 3, 1), (36, .iload_n 2, 1), (37, .aload_n 0, 1), (38, .getfield 18, 3), (41, .getfield 67, 3), (44, .iload_n 3, 1), (45, .iaload, 1), (46, .isub, 1), (47, .iastore, 1), (48, .iinc 3 1, 3), (51, .goto (-34), 3), (54, .return_, 1)])
set_option maxRecDepth 20000 in
theorem ok_X0_begin : x_ok M_X0_begin := x_ok_of lkok_X0 (by decide +kernel)
set_option maxRecDepth 20000 in
theorem k_X0_begin : x_calV M_X0_begin 2 := ⟨⟨x_mem 523 rfl rfl, x_mem 40 (by decide +kernel) rfl, by decide +kernel, by decide +kernel, by decide +kernel⟩, x_mem 522 (by decide +kernel) rfl, x_mem 7 (by decide +kernel) rfl⟩
def M_X0_waitOf : xM := (RX0, yX0_waitOf, cX0_waitOf, 2, (some .int), 0, lk_X0, [(0, .iload_n 1, 1), (1, .ifCond .lt 9, 3), (4, .iload_n 1, 1), (5, .bipush 10, 2), (7, .if_icmp .lt 7, 3), (10, .iconst (-1), 1), (11, .goto 9, 3), (14, .aload_n 0, 1), (15, .getfield 15, 3), (18, .iload_n 1, 1), (19, .iaload, 1), (20, .ireturn, 1)])
set_option maxRecDepth 20000 in
theorem ok_X0_waitOf : x_ok M_X0_waitOf := x_ok_of lkok_X0 (by decide +kernel)
set_option maxRecDepth 20000 in
theorem k_X0_waitOf : x_calV M_X0_waitOf 1 := ⟨⟨x_mem 531 rfl rfl, x_mem 40 (by decide +kernel) rfl, by decide +kernel, by decide +kernel, by decide +kernel⟩, x_mem 529 (by decide +kernel) rfl, x_mem 530 (by decide +kernel) rfl⟩
def M_X0_allWaits : xM := (RX0, yX0_allWaits, cX0_allWaits, 3, (some .int), 1, lk_X0, [(0, .iconst 0, 1), (1, .istore_n 1, 1), (2, .iconst 0, 1), (3, .istore_n 2, 1), (4, .iload_n 2, 1), (5, .bipush 10, 2), (7, .if_icmp .ge 22, 3), (10, .iload_n 1, 1), (11, .iconst 0, 1), (12, .aload_n 0, 1), (13, .getfield 15, 3), (16, .iload_n 2, 1), (17, .iaload, 1), (18, .invokestatic 70, 3), (21, .iadd, 1), (22, .istore_n 1, 1), (23, .iinc 2 1, 3), (26, .goto (-22), 3), (29, .iload_n 1, 1), (30, .ireturn, 1)])
set_option maxRecDepth 20000 in
theorem ok_X0_allWaits : x_ok M_X0_allWaits := x_ok_of lkok_X0 (by decide +kernel)
set_option maxRecDepth 20000 in
theorem k_X0_allWaits : x_calV M_X0_allWaits 0 := ⟨⟨x_mem 551 rfl rfl, x_mem 40 (by decide +kernel) rfl, by decide +kernel, by decide +kernel, by decide +kernel⟩, x_mem 549 (by decide +kernel) rfl, x_mem 550 (by decide +kernel) rfl⟩
def M_X0_inLine : xM := (RX0, yX0_inLine, cX0_inLine, 3, (some .int), 1, lk_X0, [(0, .iconst 0, 1), (1, .istore_n 2, 1), (2, .iload_n 2, 1), (3, .bipush 10, 2), (5, .if_icmp .ge 30, 3), (8, .aload_n 0, 1), (9, .getfield 15, 3), (12, .iload_n 2, 1), (13, .iaload, 1), (14, .iconst (-1), 1), (15, .if_icmp .eq 14, 3), (18, .aload_n 0, 1), (19, .iload_n 2, 1), (20, .invokevirtual 75, 3), (23, .iload_n 1, 1), (24, .if_icmp .ne 5, 3), (27, .iload_n 2, 1), (28, .ireturn, 1), (29, .iinc 2 1, 3), (32, .goto (-30), 3), (35, .iconst (-1), 1), (36, .ireturn, 1)])
set_option maxRecDepth 20000 in
theorem ok_X0_inLine : x_ok M_X0_inLine := x_ok_of lkok_X0 (by decide +kernel)
set_option maxRecDepth 20000 in
theorem k_X0_inLine : x_calV M_X0_inLine 1 := ⟨⟨x_mem 539 rfl rfl, x_mem 40 (by decide +kernel) rfl, by decide +kernel, by decide +kernel, by decide +kernel⟩, x_mem 537 (by decide +kernel) rfl, x_mem 538 (by decide +kernel) rfl⟩
def M_X0_ahead : xM := (RX0, yX0_ahead, cX0_ahead, 5, (some .int), 0, lk_X0, [(0, .iconst 0, 1), (1, .istore_n 2, 1), (2, .iconst 0, 1), (3, .istore_n 3, 1), (4, .iload_n 3, 1), (5, .bipush 10, 2), (7, .if_icmp .ge 64, 3), (10, .aload_n 0, 1), (11, .getfield 15, 3), (14, .iload_n 3, 1), (15, .iaload, 1), (16, .aload_n 0, 1), (17, .getfield 15, 3), (20, .iload_n 1, 1), (21, .iaload, 1), (22, .if_icmp .ne 12, 3), (25, .iload_n 3, 1), (26, .iload_n 1, 1), (27, .if_icmp .ge 7, 3), (30, .iconst 1, 1), (31, .goto 4, 3), (34, .iconst 0, 1), (35, .istore 4, 2), (37, .iload_n 2, 1), (38, .iload 4, 2), (40, .ifCond .ne 18, 3), (43, .aload_n 0, 1), (44, .getfield 15, 3), (47, .iload_n 3, 1), (48, .iaload, 1), (49, .aload_n 0, 1), (50, .getfield 15, 3), (53, .iload_n 1, 1), (54, .iaload, 1), (55, .if_icmp .le 7, 3), (58, .iconst 1, 1), (59, .goto 4, 3), (62, .iconst 0, 1), (63, .iadd, 1), (64, .istore_n 2, 1), (65, .iinc 3 1, 3), (68, .goto (-64), 3), (71, .iload_n 2, 1), (72, .ireturn, 1)])
set_option maxRecDepth 20000 in
theorem ok_X0_ahead : x_ok M_X0_ahead := x_ok_of lkok_X0 (by decide +kernel)
set_option maxRecDepth 20000 in
theorem k_X0_ahead : x_calV M_X0_ahead 1 := ⟨⟨x_mem 543 rfl rfl, x_mem 40 (by decide +kernel) rfl, by decide +kernel, by decide +kernel, by decide +kernel⟩, x_mem 542 (by decide +kernel) rfl, x_mem 9 (by decide +kernel) rfl⟩
def M_X1_run : xM := (RX1, yX1_run, cX1_run, 3, none, 4, lk_X1, [(0, .iconst 0, 1), (1, .istore_n 1, 1), (2, .iload_n 1, 1), (3, .iconst 2, 1), (4, .if_icmp .ge 23, 3), (7, .aload_n 0, 1), (8, .getfield 9, 3), (11, .iload_n 1, 1), (12, .aload_n 0, 1), (13, .getfield 21, 3), (16, .iload_n 1, 1), (17, .invokevirtual 37, 3), (20, .iastore, 1), (21, .iinc 1 1, 3), (24, .goto (-22), 3), (27, .aload_n 0, 1), (28, .getfield 9, 3), (31, .iconst 0, 1), (32, .iaload, 1), (33, .istore_n 1, 1), (34, .iload_n 1, 1), (35, .ifCond .lt 32, 3), (38, .aload_n 0, 1), (39, .getfield 9, 3), (42, .iconst 1, 1), (43, .iaload, 1), (44, .istore_n 2, 1), (45, .iload_n 2, 1), (46, .ifCond .lt 15, 3), (49, .aload_n 0, 1), (50, .iload_n 1, 1), (51, .iload_n 2, 1), (52, .invokevirtual 43, 3), (55, .iinc 2 (-1), 3), (58, .goto (-13), 3), (61, .iinc 1 (-1), 3), (64, .goto (-30), 3), (67, .return_, 1)])
set_option maxRecDepth 20000 in
theorem ok_X1_run : x_ok M_X1_run := x_ok_of lkok_X1 (by decide +kernel)
set_option maxRecDepth 20000 in
theorem k_X1_run : x_calV M_X1_run 0 := ⟨⟨x_mem 560 rfl rfl, x_mem 41 (by decide +kernel) rfl, by decide +kernel, by decide +kernel, by decide +kernel⟩, x_mem 558 (by decide +kernel) rfl, x_mem 559 (by decide +kernel) rfl⟩
def M_X1_settle : xM := (RX1, yX1_settle, cX1_settle, 6, none, 3, lk_X1, [(0, .iload_n 1, 1), (1, .aload_n 0, 1), (2, .getfield 9, 3), (5, .iconst 0, 1), (6, .iaload, 1), (7, .if_icmp .ne 17, 3), (10, .iload_n 2, 1), (11, .aload_n 0, 1), (12, .getfield 9, 3), (15, .iconst 1, 1), (16, .iaload, 1), (17, .if_icmp .ne 7, 3), (20, .iconst 1, 1), (21, .goto 4, 3), (24, .iconst 0, 1), (25, .istore_n 3, 1), (26, .aload_n 0, 1), (27, .iload_n 3, 1), (28, .ifCond .eq 7, 3), (31, .iconst 0, 1), (32, .goto 4, 3), (35, .iconst (-1), 1), (36, .putfield 47, 3), (39, .aload_n 0, 1), (40, .aload_n 0, 1), (41, .getfield 47, 3), (44, .putfield 51, 3), (47, .aload_n 0, 1), (48, .aload_n 0, 1), (49, .getfield 47, 3), (52, .putfield 54, 3), (55, .aload_n 0, 1), (56, .aload_n 0, 1), (57, .getfield 47, 3), (60, .putfield 57, 3), (63, .aload_n 0, 1), (64, .getfield 30, 3), (67, .invokevirtual 60, 3), (70, .iconst 0, 1), (71, .istore 4, 2), (73, .iload_n 1, 1), (74, .iload 4, 2), (76, .iadd, 1), (77, .aload_n 0, 1), (78, .getfield 9, 3), (81, .iconst 0, 1), (82, .iaload, 1), (83, .if_icmp .gt 116, 3), (86, .iload 4, 2), (88, .ifCond .le 30, 3), (91, .aload_n 0, 1), (92, .getfield 30, 3), (95, .aload_n 0, 1), (96, .getfield 21, 3), (99, .iconst 0, 1), (100, .iload_n 1, 1), (101, .iload 4, 2), (103, .iadd, 1), (104, .iconst 1, 1), (105, .isub, 1), (106, .invokevirtual 63, 3), (109, .invokevirtual 67, 3), (112, .ifCond .ne 6, 3), (115, .goto 84, 3), (118, .aload_n 0, 1), (119, .getfield 34, 3), (122, .aload_n 0, 1), (123, .getfield 30, 3), (126, .invokevirtual 71, 3), (129, .iconst 0, 1), (130, .istore 5, 2), (132, .iload_n 2, 1), (133, .iload 5, 2), (135, .iadd, 1), (136, .aload_n 0, 1), (137, .getfield 9, 3), (140, .iconst 1, 1), (141, .iaload, 1), (142, .if_icmp .gt 51, 3), (145, .iload 5, 2), (147, .ifCond .le 30, 3), (150, .aload_n 0, 1), (151, .getfield 34, 3), (154, .aload_n 0, 1), (155, .getfield 21, 3), (158, .iconst 1, 1), (159, .iload_n 2, 1), (160, .iload 5, 2), (162, .iadd, 1), (163, .iconst 1, 1), (164, .isub, 1), (165, .invokevirtual 63, 3), (168, .invokevirtual 67, 3), (171, .ifCond .ne 6, 3), (174, .goto 19, 3), (177, .aload_n 0, 1), (178, .iload_n 1, 1), (179, .iload_n 2, 1), (180, .iload 4, 2), (182, .iload 5, 2), (184, .invokevirtual 75, 3), (187, .iinc 5 1, 3), (190, .goto (-58), 3), (193, .iinc 4 1, 3), (196, .goto (-123), 3), (199, .iload_n 1, 1), (200, .iload_n 2, 1), (201, .invokestatic 79, 3), (204, .istore 4, 2), (206, .aload_n 0, 1), (207, .getfield 15, 3), (210, .iload 4, 2), (212, .aload_n 0, 1), (213, .getfield 47, 3), (216, .iastore, 1), (217, .aload_n 0, 1), (218, .getfield 18, 3), (221, .iload 4, 2), (223, .aload_n 0, 1), (224, .getfield 51, 3), (227, .iastore, 1), (228, .return_, 1)])
set_option maxRecDepth 20000 in
theorem ok_X1_settle : x_ok M_X1_settle := x_ok_of lkok_X1 (by decide +kernel)
set_option maxRecDepth 20000 in
theorem k_X1_settle : x_calV M_X1_settle 2 := ⟨⟨x_mem 568 rfl rfl, x_mem 41 (by decide +kernel) rfl, by decide +kernel, by decide +kernel, by decide +kernel⟩, x_mem 567 (by decide +kernel) rfl, x_mem 10 (by decide +kernel) rfl⟩
def M_X1_weigh : xM := (RX1, yX1_weigh, cX1_weigh, 8, none, 2, lk_X1, [(0, .iload_n 1, 1), (1, .iload_n 3, 1), (2, .iadd, 1), (3, .iload_n 2, 1), (4, .iload 4, 2), (6, .iadd, 1), (7, .invokestatic 79, 3), (10, .istore 5, 2), (12, .iload_n 3, 1), (13, .iload 4, 2), (15, .iadd, 1), (16, .ifCond .eq 14, 3), (19, .aload_n 0, 1), (20, .getfield 15, 3), (23, .iload 5, 2), (25, .iaload, 1), (26, .iconst (-1), 1), (27, .if_icmp .ne 4, 3), (30, .return_, 1), (31, .aload_n 0, 1), (32, .getfield 15, 3), (35, .iload 5, 2), (37, .iaload, 1), (38, .iconst 1, 1), (39, .iadd, 1), (40, .istore 6, 2), (42, .aload_n 0, 1), (43, .getfield 18, 3), (46, .iload 5, 2), (48, .iaload, 1), (49, .aload_n 0, 1), (50, .getfield 34, 3), (53, .invokevirtual 82, 3), (56, .iadd, 1), (57, .istore 7, 2), (59, .aload_n 0, 1), (60, .getfield 47, 3), (63, .iconst (-1), 1), (64, .if_icmp .eq 30, 3), (67, .iload 6, 2), (69, .aload_n 0, 1), (70, .getfield 47, 3), (73, .if_icmp .lt 21, 3), (76, .iload 6, 2), (78, .aload_n 0, 1), (79, .getfield 47, 3), (82, .if_icmp .ne 35, 3), (85, .iload 7, 2), (87, .aload_n 0, 1), (88, .getfield 51, 3), (91, .if_icmp .gt 26, 3), (94, .aload_n 0, 1), (95, .iload 6, 2), (97, .putfield 47, 3), (100, .aload_n 0, 1), (101, .iload 7, 2), (103, .putfield 51, 3), (106, .aload_n 0, 1), (107, .iload_n 3, 1), (108, .putfield 54, 3), (111, .aload_n 0, 1), (112, .iload 4, 2), (114, .putfield 57, 3), (117, .return_, 1)])
set_option maxRecDepth 20000 in
theorem ok_X1_weigh : x_ok M_X1_weigh := x_ok_of lkok_X1 (by decide +kernel)
set_option maxRecDepth 20000 in
theorem k_X1_weigh : x_calV M_X1_weigh 4 := ⟨⟨x_mem 579 rfl rfl, x_mem 41 (by decide +kernel) rfl, by decide +kernel, by decide +kernel, by decide +kernel⟩, x_mem 578 (by decide +kernel) rfl, x_mem 11 (by decide +kernel) rfl⟩
def M_X1_stateOf : xM := (RX1, yX1_stateOf, cX1_stateOf, 2, (some .int), 0, lk_X1, [(0, .iload_n 0, 1), (1, .bipush 11, 2), (3, .imul, 1), (4, .iload_n 1, 1), (5, .iadd, 1), (6, .ireturn, 1)])
set_option maxRecDepth 20000 in
theorem ok_X1_stateOf : x_ok M_X1_stateOf := x_ok_of lkok_X1 (by decide +kernel)
set_option maxRecDepth 20000 in
theorem k_X1_stateOf : x_calS M_X1_stateOf 2 := ⟨⟨x_mem 582 rfl rfl, x_mem 41 (by decide +kernel) rfl, by decide +kernel, by decide +kernel, by decide +kernel⟩, x_mem 581 (by decide +kernel) rfl⟩
def M_X2_begin : xM := (RX2, yX2_begin, cX2_begin, 1, none, 1, lk_X2, [(0, .aload_n 0, 1), (1, .getfield 24, 3), (4, .getfield 28, 3), (7, .iconst 0, 1), (8, .aload_n 0, 1), (9, .getfield 9, 3), (12, .iconst 0, 1), (13, .iconst 3, 1), (14, .invokestatic 33, 3), (17, .aload_n 0, 1), (18, .iconst 0, 1), (19, .putfield 39, 3), (22, .aload_n 0, 1), (23, .iconst 0, 1), (24, .putfield 43, 3), (27, .aload_n 0, 1), (28, .iconst 0, 1), (29, .putfield 46, 3), (32, .return_, 1)])
set_option maxRecDepth 20000 in
theorem ok_X2_begin : x_ok M_X2_begin := x_ok_of lkok_X2 (by decide +kernel)
set_option maxRecDepth 20000 in
theorem k_X2_begin : x_calV M_X2_begin 0 := ⟨⟨x_mem 412 rfl rfl, x_mem 39 (by decide +kernel) rfl, by decide +kernel, by decide +kernel, by decide +kernel⟩, x_mem 410 (by decide +kernel) rfl, x_mem 411 (by decide +kernel) rfl⟩
def M_X2_become : xM := (RX2, yX2_become, cX2_become, 2, none, 1, lk_X2, [(0, .aload_n 1, 1), (1, .getfield 9, 3), (4, .iconst 0, 1), (5, .aload_n 0, 1), (6, .getfield 9, 3), (9, .iconst 0, 1), (10, .iconst 3, 1), (11, .invokestatic 33, 3), (14, .aload_n 1, 1), (15, .getfield 15, 3), (18, .iconst 0, 1), (19, .aload_n 0, 1), (20, .getfield 15, 3), (23, .iconst 0, 1), (24, .bipush 10, 2), (26, .invokestatic 33, 3), (29, .aload_n 1, 1), (30, .getfield 18, 3), (33, .iconst 0, 1), (34, .aload_n 0, 1), (35, .getfield 18, 3), (38, .iconst 0, 1), (39, .bipush 10, 2), (41, .invokestatic 33, 3), (44, .aload_n 1, 1), (45, .getfield 21, 3), (48, .iconst 0, 1), (49, .aload_n 0, 1), (50, .getfield 21, 3), (53, .iconst 0, 1), (54, .bipush 10, 2), (56, .invokestatic 33, 3), (59, .aload_n 0, 1), (60, .aload_n 1, 1), (61, .getfield 39, 3), (64, .putfield 39, 3), (67, .aload_n 0, 1), (68, .aload_n 1, 1), (69, .getfield 43, 3), (72, .putfield 43, 3), (75, .aload_n 0, 1), (76, .aload_n 1, 1), (77, .getfield 46, 3), (80, .putfield 46, 3), (83, .return_, 1)])
set_option maxRecDepth 20000 in
theorem ok_X2_become : x_ok M_X2_become := x_ok_of lkok_X2 (by decide +kernel)
set_option maxRecDepth 20000 in
theorem k_X2_become : x_calV M_X2_become 1 := ⟨⟨x_mem 575 rfl rfl, x_mem 39 (by decide +kernel) rfl, by decide +kernel, by decide +kernel, by decide +kernel⟩, x_mem 573 (by decide +kernel) rfl, x_mem 574 (by decide +kernel) rfl⟩
def M_X2_spends : xM := (RX2, yX2_spends, cX2_spends, 2, (some .int), 1, lk_X2, [(0, .aload_n 0, 1), (1, .getfield 24, 3), (4, .getfield 50, 3), (7, .astore_n 1, 1), (8, .iconst 0, 1), (9, .aload_n 1, 1), (10, .iconst 0, 1), (11, .iaload, 1), (12, .aload_n 1, 1), (13, .iconst 1, 1), (14, .iaload, 1), (15, .imul, 1), (16, .aload_n 1, 1), (17, .iconst 2, 1), (18, .iaload, 1), (19, .imul, 1), (20, .aload_n 0, 1), (21, .getfield 43, 3), (24, .isub, 1), (25, .invokestatic 53, 3), (28, .ireturn, 1)])
set_option maxRecDepth 20000 in
theorem ok_X2_spends : x_ok M_X2_spends := x_ok_of lkok_X2 (by decide +kernel)
set_option maxRecDepth 20000 in
theorem k_X2_spends : x_calV M_X2_spends 0 := ⟨⟨x_mem 445 rfl rfl, x_mem 39 (by decide +kernel) rfl, by decide +kernel, by decide +kernel, by decide +kernel⟩, x_mem 443 (by decide +kernel) rfl, x_mem 444 (by decide +kernel) rfl⟩
def M_X2_enter : xM := (RX2, yX2_enter, cX2_enter, 6, (some .boolean), 2, lk_X2, [(0, .aload_n 0, 1), (1, .getfield 24, 3), (4, .iload_n 1, 1), (5, .invokevirtual 59, 3), (8, .ifCond .eq 19, 3), (11, .aload_n 0, 1), (12, .getfield 39, 3), (15, .bipush 10, 2), (17, .if_icmp .ge 10, 3), (20, .aload_n 0, 1), (21, .getfield 46, 3), (24, .ifCond .eq 5, 3), (27, .iconst 0, 1), (28, .ireturn, 1), (29, .aload_n 0, 1), (30, .getfield 24, 3), (33, .getfield 63, 3), (36, .iload_n 1, 1), (37, .iaload, 1), (38, .iconst 5, 1), (39, .if_icmp .ne 7, 3), (42, .iconst 1, 1), (43, .goto 4, 3), (46, .iconst 0, 1), (47, .istore_n 2, 1), (48, .iload_n 2, 1), (49, .ifCond .eq 12, 3), (52, .aload_n 0, 1), (53, .getfield 39, 3), (56, .ifCond .le 5, 3), (59, .iconst 0, 1), (60, .ireturn, 1), (61, .aload_n 0, 1), (62, .getfield 24, 3), (65, .iload_n 1, 1), (66, .invokevirtual 66, 3), (69, .istore_n 3, 1), (70, .iconst 0, 1), (71, .istore 4, 2), (73, .iload 4, 2), (75, .aload_n 0, 1), (76, .getfield 24, 3), (79, .getfield 50, 3), (82, .iconst 1, 1), (83, .iaload, 1), (84, .if_icmp .ge 119, 3), (87, .iload 4, 2), (89, .iconst 3, 1), (90, .if_icmp .ge 113, 3), (93, .aload_n 0, 1), (94, .aload_n 0, 1), (95, .getfield 9, 3), (98, .iload 4, 2), (100, .iaload, 1), (101, .iload_n 3, 1), (102, .invokevirtual 70, 3), (105, .istore 5, 2), (107, .iload 5, 2), (109, .iconst (-1), 1), (110, .if_icmp .eq 87, 3), (113, .aload_n 0, 1), (114, .getfield 9, 3), (117, .iload 4, 2), (119, .dup2, 1), (120, .iaload, 1), (121, .iload_n 3, 1), (122, .invokestatic 73, 3), (125, .iload 5, 2), (127, .ishl, 1), (128, .ior, 1), (129, .iastore, 1), (130, .aload_n 0, 1), (131, .getfield 15, 3), (134, .aload_n 0, 1), (135, .getfield 39, 3), (138, .iload_n 1, 1), (139, .iastore, 1), (140, .aload_n 0, 1), (141, .getfield 18, 3), (144, .aload_n 0, 1), (145, .getfield 39, 3), (148, .iload 4, 2), (150, .iastore, 1), (151, .aload_n 0, 1), (152, .getfield 21, 3), (155, .aload_n 0, 1), (156, .getfield 39, 3), (159, .iload 5, 2), (161, .iastore, 1), (162, .aload_n 0, 1), (163, .dup, 1), (164, .getfield 39, 3), (167, .iconst 1, 1), (168, .iadd, 1), (169, .putfield 39, 3), (172, .aload_n 0, 1), (173, .dup, 1), (174, .getfield 43, 3), (177, .aload_n 0, 1), (178, .getfield 24, 3), (181, .getfield 76, 3), (184, .iload_n 1, 1), (185, .iaload, 1), (186, .iadd, 1), (187, .putfield 43, 3), (190, .aload_n 0, 1), (191, .iload_n 2, 1), (192, .putfield 46, 3), (195, .iconst 1, 1), (196, .ireturn, 1), (197, .iinc 4 1, 3), (200, .goto (-127), 3), (203, .iconst 0, 1), (204, .ireturn, 1)])
set_option maxRecDepth 20000 in
theorem ok_X2_enter : x_ok M_X2_enter := x_ok_of lkok_X2 (by decide +kernel)
set_option maxRecDepth 20000 in
theorem k_X2_enter : x_calV M_X2_enter 1 := ⟨⟨x_mem 434 rfl rfl, x_mem 39 (by decide +kernel) rfl, by decide +kernel, by decide +kernel, by decide +kernel⟩, x_mem 432 (by decide +kernel) rfl, x_mem 433 (by decide +kernel) rfl⟩
def M_X2_run : xM := (RX2, yX2_run, cX2_run, 1, (some .int), 0, lk_X2, [(0, .iconst 1, 1), (1, .iload_n 0, 1), (2, .ishl, 1), (3, .iconst 1, 1), (4, .isub, 1), (5, .ireturn, 1)])
set_option maxRecDepth 20000 in
theorem ok_X2_run : x_ok M_X2_run := x_ok_of lkok_X2 (by decide +kernel)
set_option maxRecDepth 20000 in
theorem k_X2_run : x_calS M_X2_run 1 := ⟨⟨x_mem 441 rfl rfl, x_mem 39 (by decide +kernel) rfl, by decide +kernel, by decide +kernel, by decide +kernel⟩, x_mem 440 (by decide +kernel) rfl⟩
def M_X2_firstRun : xM := (RX2, yX2_firstRun, cX2_firstRun, 4, (some .int), 1, lk_X2, [(0, .iconst 0, 1), (1, .istore_n 3, 1), (2, .iload_n 3, 1), (3, .iload_n 2, 1), (4, .iadd, 1), (5, .aload_n 0, 1), (6, .getfield 24, 3), (9, .getfield 50, 3), (12, .iconst 0, 1), (13, .iaload, 1), (14, .if_icmp .gt 22, 3), (17, .iload_n 1, 1), (18, .iload_n 2, 1), (19, .invokestatic 73, 3), (22, .iload_n 3, 1), (23, .ishl, 1), (24, .iand, 1), (25, .ifCond .ne 5, 3), (28, .iload_n 3, 1), (29, .ireturn, 1), (30, .iinc 3 1, 3), (33, .goto (-31), 3), (36, .iconst (-1), 1), (37, .ireturn, 1)])
set_option maxRecDepth 20000 in
theorem ok_X2_firstRun : x_ok M_X2_firstRun := x_ok_of lkok_X2 (by decide +kernel)
set_option maxRecDepth 20000 in
theorem k_X2_firstRun : x_calV M_X2_firstRun 2 := ⟨⟨x_mem 438 rfl rfl, x_mem 39 (by decide +kernel) rfl, by decide +kernel, by decide +kernel, by decide +kernel⟩, x_mem 437 (by decide +kernel) rfl, x_mem 3 (by decide +kernel) rfl⟩
def M_X2_byRule : xM := (RX2, yX2_byRule, cX2_byRule, 8, (some .int), 4, lk_X2, [(0, .aload_n 0, 1), (1, .invokevirtual 78, 3), (4, .iload_n 1, 1), (5, .istore_n 3, 1), (6, .iconst 3, 1), (7, .istore 4, 2), (9, .iconst (-1), 1), (10, .istore 5, 2), (12, .iconst 0, 1), (13, .istore 6, 2), (15, .iload 6, 2), (17, .bipush 12, 2), (19, .if_icmp .ge 88, 3), (22, .aload_n 0, 1), (23, .iload_n 3, 1), (24, .iload 4, 2), (26, .aload_n 2, 1), (27, .iload 5, 2), (29, .invokevirtual 81, 3), (32, .istore 7, 2), (34, .aload_n 0, 1), (35, .getfield 24, 3), (38, .iload 7, 2), (40, .invokevirtual 59, 3), (43, .ifCond .ne 6, 3), (46, .goto 61, 3), (49, .aload_n 0, 1), (50, .iload 7, 2), (52, .invokevirtual 85, 3), (55, .ifCond .eq 27, 3), (58, .iload_n 3, 1), (59, .iconst 1, 1), (60, .iload 7, 2), (62, .ishl, 1), (63, .iconst (-1), 1), (64, .ixor, 1), (65, .iand, 1), (66, .istore_n 3, 1), (67, .aload_n 0, 1), (68, .getfield 24, 3), (71, .getfield 88, 3), (74, .iload 7, 2), (76, .iaload, 1), (77, .istore 5, 2), (79, .goto 22, 3), (82, .iload 4, 2), (84, .iconst 1, 1), (85, .aload_n 0, 1), (86, .getfield 24, 3), (89, .getfield 88, 3), (92, .iload 7, 2), (94, .iaload, 1), (95, .ishl, 1), (96, .iconst (-1), 1), (97, .ixor, 1), (98, .iand, 1), (99, .istore 4, 2), (101, .iinc 6 1, 3), (104, .goto (-89), 3), (107, .iload_n 1, 1), (108, .iload_n 3, 1), (109, .iconst (-1), 1), (110, .ixor, 1), (111, .iand, 1), (112, .ireturn, 1)])
set_option maxRecDepth 20000 in
theorem ok_X2_byRule : x_ok M_X2_byRule := x_ok_of lkok_X2 (by decide +kernel)
set_option maxRecDepth 20000 in
theorem k_X2_byRule : x_calV M_X2_byRule 2 := ⟨⟨x_mem 408 rfl rfl, x_mem 39 (by decide +kernel) rfl, by decide +kernel, by decide +kernel, by decide +kernel⟩, x_mem 406 (by decide +kernel) rfl, x_mem 407 (by decide +kernel) rfl⟩
def M_X2_nextHead : xM := (RX2, yX2_nextHead, cX2_nextHead, 7, (some .int), 3, lk_X2, [(0, .iload_n 2, 1), (1, .iconst 1, 1), (2, .iand, 1), (3, .ifCond .eq 13, 3), (6, .aload_n 0, 1), (7, .iconst 0, 1), (8, .iload_n 1, 1), (9, .aload_n 3, 1), (10, .invokevirtual 91, 3), (13, .goto 4, 3), (16, .iconst (-1), 1), (17, .istore 5, 2), (19, .iload_n 2, 1), (20, .iconst 2, 1), (21, .iand, 1), (22, .ifCond .eq 13, 3), (25, .aload_n 0, 1), (26, .iconst 1, 1), (27, .iload_n 1, 1), (28, .aload_n 3, 1), (29, .invokevirtual 91, 3), (32, .goto 4, 3), (35, .iconst (-1), 1), (36, .istore 6, 2), (38, .iload 5, 2), (40, .iconst (-1), 1), (41, .if_icmp .eq 9, 3), (44, .iload 6, 2), (46, .iconst (-1), 1), (47, .if_icmp .ne 17, 3), (50, .iload 5, 2), (52, .iconst (-1), 1), (53, .if_icmp .ne 8, 3), (56, .iload 6, 2), (58, .goto 5, 3), (61, .iload 5, 2), (63, .ireturn, 1), (64, .aload_n 0, 1), (65, .iload 5, 2), (67, .iload 6, 2), (69, .iload 4, 2), (71, .invokevirtual 95, 3), (74, .ifCond .eq 8, 3), (77, .iload 6, 2), (79, .goto 5, 3), (82, .iload 5, 2), (84, .ireturn, 1)])
set_option maxRecDepth 20000 in
theorem ok_X2_nextHead : x_ok M_X2_nextHead := x_ok_of lkok_X2 (by decide +kernel)
set_option maxRecDepth 20000 in
theorem k_X2_nextHead : x_calV M_X2_nextHead 4 := ⟨⟨x_mem 419 rfl rfl, x_mem 39 (by decide +kernel) rfl, by decide +kernel, by decide +kernel, by decide +kernel⟩, x_mem 418 (by decide +kernel) rfl, x_mem 0 (by decide +kernel) rfl⟩
def M_X2_head : xM := (RX2, yX2_head, cX2_head, 6, (some .int), 1, lk_X2, [(0, .iconst 0, 1), (1, .istore 4, 2), (3, .iload 4, 2), (5, .aload_n 3, 1), (6, .arraylength, 1), (7, .if_icmp .ge 53, 3), (10, .aload_n 3, 1), (11, .iload 4, 2), (13, .iaload, 1), (14, .istore 5, 2), (16, .aload_n 0, 1), (17, .getfield 24, 3), (20, .iload 5, 2), (22, .invokevirtual 59, 3), (25, .ifCond .eq 29, 3), (28, .iload_n 2, 1), (29, .iload 5, 2), (31, .ishr, 1), (32, .iconst 1, 1), (33, .iand, 1), (34, .ifCond .eq 20, 3), (37, .aload_n 0, 1), (38, .getfield 24, 3), (41, .getfield 88, 3), (44, .iload 5, 2), (46, .iaload, 1), (47, .iload_n 1, 1), (48, .if_icmp .ne 6, 3), (51, .iload 5, 2), (53, .ireturn, 1), (54, .iinc 4 1, 3), (57, .goto (-54), 3), (60, .iconst (-1), 1), (61, .ireturn, 1)])
set_option maxRecDepth 20000 in
theorem ok_X2_head : x_ok M_X2_head := x_ok_of lkok_X2 (by decide +kernel)
set_option maxRecDepth 20000 in
theorem k_X2_head : x_calV M_X2_head 3 := ⟨⟨x_mem 423 rfl rfl, x_mem 39 (by decide +kernel) rfl, by decide +kernel, by decide +kernel, by decide +kernel⟩, x_mem 422 (by decide +kernel) rfl, x_mem 1 (by decide +kernel) rfl⟩
def M_X2_isSecondTaken : xM := (RX2, yX2_isSecondTaken, cX2_isSecondTaken, 4, (some .boolean), 2, lk_X2, [(0, .aload_n 0, 1), (1, .getfield 24, 3), (4, .iload_n 1, 1), (5, .invokevirtual 59, 3), (8, .ifCond .eq 14, 3), (11, .aload_n 0, 1), (12, .getfield 24, 3), (15, .iload_n 2, 1), (16, .invokevirtual 59, 3), (19, .ifCond .ne 5, 3), (22, .iconst 0, 1), (23, .ireturn, 1), (24, .aload_n 0, 1), (25, .getfield 24, 3), (28, .getfield 50, 3), (31, .iconst 4, 1), (32, .iaload, 1), (33, .tableswitch 135 1 4 #[31, 56, 81, 108], 31), (64, .aload_n 0, 1), (65, .getfield 24, 3), (68, .iload_n 2, 1), (69, .invokevirtual 99, 3), (72, .aload_n 0, 1), (73, .getfield 24, 3), (76, .iload_n 1, 1), (77, .invokevirtual 99, 3), (80, .if_icmp .le 7, 3), (83, .iconst 1, 1), (84, .goto 4, 3), (87, .iconst 0, 1), (88, .ireturn, 1), (89, .aload_n 0, 1), (90, .getfield 24, 3), (93, .iload_n 2, 1), (94, .invokevirtual 66, 3), (97, .aload_n 0, 1), (98, .getfield 24, 3), (101, .iload_n 1, 1), (102, .invokevirtual 66, 3), (105, .if_icmp .ge 7, 3), (108, .iconst 1, 1), (109, .goto 4, 3), (112, .iconst 0, 1), (113, .ireturn, 1), (114, .aload_n 0, 1), (115, .getfield 24, 3), (118, .getfield 102, 3), (121, .iload_n 2, 1), (122, .iaload, 1), (123, .aload_n 0, 1), (124, .getfield 24, 3), (127, .getfield 102, 3), (130, .iload_n 1, 1), (131, .iaload, 1), (132, .if_icmp .ge 7, 3), (135, .iconst 1, 1), (136, .goto 4, 3), (139, .iconst 0, 1), (140, .ireturn, 1), (141, .aload_n 0, 1), (142, .getfield 24, 3), (145, .getfield 76, 3), (148, .iload_n 2, 1), (149, .iaload, 1), (150, .aload_n 0, 1), (151, .getfield 24, 3), (154, .getfield 76, 3), (157, .iload_n 1, 1), (158, .iaload, 1), (159, .if_icmp .le 7, 3), (162, .iconst 1, 1), (163, .goto 4, 3), (166, .iconst 0, 1), (167, .ireturn, 1), (168, .iload_n 3, 1), (169, .ifCond .ne 7, 3), (172, .iconst 1, 1), (173, .goto 4, 3), (176, .iconst 0, 1), (177, .ireturn, 1)])
set_option maxRecDepth 20000 in
theorem ok_X2_isSecondTaken : x_ok M_X2_isSecondTaken := x_ok_of lkok_X2 (by decide +kernel)
set_option maxRecDepth 20000 in
theorem k_X2_isSecondTaken : x_calV M_X2_isSecondTaken 3 := ⟨⟨x_mem 428 rfl rfl, x_mem 39 (by decide +kernel) rfl, by decide +kernel, by decide +kernel, by decide +kernel⟩, x_mem 427 (by decide +kernel) rfl, x_mem 2 (by decide +kernel) rfl⟩
def M_X3_become : xM := (RX3, yX3_become, cX3_become, 2, none, 1, lk_X3, [(0, .aload_n 0, 1), (1, .aload_n 1, 1), (2, .getfield 59, 3), (5, .putfield 59, 3), (8, .aload_n 0, 1), (9, .aload_n 1, 1), (10, .getfield 63, 3), (13, .putfield 63, 3), (16, .aload_n 0, 1), (17, .aload_n 1, 1), (18, .getfield 66, 3), (21, .putfield 66, 3), (24, .aload_n 0, 1), (25, .aload_n 1, 1), (26, .getfield 69, 3), (29, .putfield 69, 3), (32, .aload_n 1, 1), (33, .getfield 9, 3), (36, .iconst 0, 1), (37, .aload_n 0, 1), (38, .getfield 9, 3), (41, .iconst 0, 1), (42, .bipush 10, 2), (44, .invokestatic 72, 3), (47, .aload_n 1, 1), (48, .getfield 15, 3), (51, .iconst 0, 1), (52, .aload_n 0, 1), (53, .getfield 15, 3), (56, .iconst 0, 1), (57, .bipush 10, 2), (59, .invokestatic 72, 3), (62, .aload_n 1, 1), (63, .getfield 18, 3), (66, .iconst 0, 1), (67, .aload_n 0, 1), (68, .getfield 18, 3), (71, .iconst 0, 1), (72, .bipush 10, 2), (74, .invokestatic 72, 3), (77, .aload_n 1, 1), (78, .getfield 21, 3), (81, .iconst 0, 1), (82, .aload_n 0, 1), (83, .getfield 21, 3), (86, .iconst 0, 1), (87, .bipush 10, 2), (89, .invokestatic 72, 3), (92, .aload_n 1, 1), (93, .getfield 24, 3), (96, .iconst 0, 1), (97, .aload_n 0, 1), (98, .getfield 24, 3), (101, .iconst 0, 1), (102, .bipush 10, 2), (104, .invokestatic 72, 3), (107, .aload_n 1, 1), (108, .getfield 27, 3), (111, .iconst 0, 1), (112, .aload_n 0, 1), (113, .getfield 27, 3), (116, .iconst 0, 1), (117, .bipush 10, 2), (119, .invokestatic 72, 3), (122, .aload_n 1, 1), (123, .getfield 30, 3), (126, .iconst 0, 1), (127, .aload_n 0, 1), (128, .getfield 30, 3), (131, .iconst 0, 1), (132, .bipush 10, 2), (134, .invokestatic 72, 3), (137, .aload_n 1, 1), (138, .getfield 41, 3), (141, .iconst 0, 1), (142, .aload_n 0, 1), (143, .getfield 41, 3), (146, .iconst 0, 1), (147, .iconst 5, 1), (148, .invokestatic 72, 3), (151, .aload_n 1, 1), (152, .getfield 44, 3), (155, .iconst 0, 1), (156, .aload_n 0, 1), (157, .getfield 44, 3), (160, .iconst 0, 1), (161, .iconst 3, 1), (162, .invokestatic 72, 3), (165, .aload_n 1, 1), (166, .getfield 47, 3), (169, .iconst 0, 1), (170, .aload_n 0, 1), (171, .getfield 47, 3), (174, .iconst 0, 1), (175, .bipush 100, 2), (177, .invokestatic 72, 3), (180, .aload_n 1, 1), (181, .getfield 50, 3), (184, .iconst 0, 1), (185, .aload_n 0, 1), (186, .getfield 50, 3), (189, .iconst 0, 1), (190, .bipush 40, 2), (192, .invokestatic 72, 3), (195, .return_, 1)])
set_option maxRecDepth 20000 in
theorem ok_X3_become : x_ok M_X3_become := x_ok_of lkok_X3 (by decide +kernel)
set_option maxRecDepth 20000 in
theorem k_X3_become : x_calV M_X3_become 1 := ⟨⟨x_mem 629 rfl rfl, x_mem 37 (by decide +kernel) rfl, by decide +kernel, by decide +kernel, by decide +kernel⟩, x_mem 627 (by decide +kernel) rfl, x_mem 628 (by decide +kernel) rfl⟩
def M_X3_isShip : xM := (RX3, yX3_isShip, cX3_isShip, 2, (some .boolean), 0, lk_X3, [(0, .iload_n 1, 1), (1, .ifCond .lt 21, 3), (4, .iload_n 1, 1), (5, .aload_n 0, 1), (6, .getfield 59, 3), (9, .if_icmp .ge 13, 3), (12, .iload_n 1, 1), (13, .bipush 10, 2), (15, .if_icmp .ge 7, 3), (18, .iconst 1, 1), (19, .goto 4, 3), (22, .iconst 0, 1), (23, .ireturn, 1)])
set_option maxRecDepth 20000 in
theorem ok_X3_isShip : x_ok M_X3_isShip := x_ok_of lkok_X3 (by decide +kernel)
set_option maxRecDepth 20000 in
theorem k_X3_isShip : x_calV M_X3_isShip 1 := ⟨⟨x_mem 345 rfl rfl, x_mem 37 (by decide +kernel) rfl, by decide +kernel, by decide +kernel, by decide +kernel⟩, x_mem 343 (by decide +kernel) rfl, x_mem 344 (by decide +kernel) rfl⟩
def M_X3_isWaiting : xM := (RX3, yX3_isWaiting, cX3_isWaiting, 2, (some .boolean), 1, lk_X3, [(0, .aload_n 0, 1), (1, .iload_n 1, 1), (2, .invokevirtual 78, 3), (5, .ifCond .eq 18, 3), (8, .aload_n 0, 1), (9, .getfield 63, 3), (12, .iload_n 1, 1), (13, .ishr, 1), (14, .iconst 1, 1), (15, .iand, 1), (16, .ifCond .eq 7, 3), (19, .iconst 1, 1), (20, .goto 4, 3), (23, .iconst 0, 1), (24, .ireturn, 1)])
set_option maxRecDepth 20000 in
theorem ok_X3_isWaiting : x_ok M_X3_isWaiting := x_ok_of lkok_X3 (by decide +kernel)
set_option maxRecDepth 20000 in
theorem k_X3_isWaiting : x_calV M_X3_isWaiting 1 := ⟨⟨x_mem 349 rfl rfl, x_mem 37 (by decide +kernel) rfl, by decide +kernel, by decide +kernel, by decide +kernel⟩, x_mem 347 (by decide +kernel) rfl, x_mem 348 (by decide +kernel) rfl⟩
def M_X3_isGone : xM := (RX3, yX3_isGone, cX3_isGone, 2, (some .boolean), 1, lk_X3, [(0, .aload_n 0, 1), (1, .iload_n 1, 1), (2, .invokevirtual 78, 3), (5, .ifCond .eq 18, 3), (8, .aload_n 0, 1), (9, .getfield 66, 3), (12, .iload_n 1, 1), (13, .ishr, 1), (14, .iconst 1, 1), (15, .iand, 1), (16, .ifCond .eq 7, 3), (19, .iconst 1, 1), (20, .goto 4, 3), (23, .iconst 0, 1), (24, .ireturn, 1)])
set_option maxRecDepth 20000 in
theorem ok_X3_isGone : x_ok M_X3_isGone := x_ok_of lkok_X3 (by decide +kernel)
set_option maxRecDepth 20000 in
theorem k_X3_isGone : x_calV M_X3_isGone 1 := ⟨⟨x_mem 354 rfl rfl, x_mem 37 (by decide +kernel) rfl, by decide +kernel, by decide +kernel, by decide +kernel⟩, x_mem 352 (by decide +kernel) rfl, x_mem 353 (by decide +kernel) rfl⟩
def M_X3_waiter : xM := (RX3, yX3_waiter, cX3_waiter, 5, (some .int), 2, lk_X3, [(0, .iload_n 2, 1), (1, .istore_n 3, 1), (2, .iconst 0, 1), (3, .istore 4, 2), (5, .iload 4, 2), (7, .bipush 10, 2), (9, .if_icmp .ge 39, 3), (12, .aload_n 0, 1), (13, .iload 4, 2), (15, .invokevirtual 82, 3), (18, .ifCond .eq 24, 3), (21, .aload_n 0, 1), (22, .getfield 27, 3), (25, .iload 4, 2), (27, .iaload, 1), (28, .iload_n 1, 1), (29, .if_icmp .ne 13, 3), (32, .iload_n 3, 1), (33, .ifCond .ne 6, 3), (36, .iload 4, 2), (38, .ireturn, 1), (39, .iinc 3 (-1), 3), (42, .iinc 4 1, 3), (45, .goto (-40), 3), (48, .iconst (-1), 1), (49, .ireturn, 1)])
set_option maxRecDepth 20000 in
theorem ok_X3_waiter : x_ok M_X3_waiter := x_ok_of lkok_X3 (by decide +kernel)
set_option maxRecDepth 20000 in
theorem k_X3_waiter : x_calV M_X3_waiter 2 := ⟨⟨x_mem 373 rfl rfl, x_mem 37 (by decide +kernel) rfl, by decide +kernel, by decide +kernel, by decide +kernel⟩, x_mem 371 (by decide +kernel) rfl, x_mem 372 (by decide +kernel) rfl⟩
def M_X3_waitersOf : xM := (RX3, yX3_waitersOf, cX3_waitersOf, 4, (some .int), 2, lk_X3, [(0, .iconst 0, 1), (1, .istore_n 2, 1), (2, .iconst 0, 1), (3, .istore_n 3, 1), (4, .iload_n 3, 1), (5, .bipush 10, 2), (7, .if_icmp .ge 35, 3), (10, .iload_n 2, 1), (11, .aload_n 0, 1), (12, .iload_n 3, 1), (13, .invokevirtual 82, 3), (16, .ifCond .eq 17, 3), (19, .aload_n 0, 1), (20, .getfield 27, 3), (23, .iload_n 3, 1), (24, .iaload, 1), (25, .iload_n 1, 1), (26, .if_icmp .ne 7, 3), (29, .iconst 1, 1), (30, .goto 4, 3), (33, .iconst 0, 1), (34, .iadd, 1), (35, .istore_n 2, 1), (36, .iinc 3 1, 3), (39, .goto (-35), 3), (42, .iload_n 2, 1), (43, .ireturn, 1)])
set_option maxRecDepth 20000 in
theorem ok_X3_waitersOf : x_ok M_X3_waitersOf := x_ok_of lkok_X3 (by decide +kernel)
set_option maxRecDepth 20000 in
theorem k_X3_waitersOf : x_calV M_X3_waitersOf 1 := ⟨⟨x_mem 564 rfl rfl, x_mem 37 (by decide +kernel) rfl, by decide +kernel, by decide +kernel, by decide +kernel⟩, x_mem 562 (by decide +kernel) rfl, x_mem 563 (by decide +kernel) rfl⟩
def M_X3_span : xM := (RX3, yX3_span, cX3_span, 3, (some .int), 1, lk_X3, [(0, .iload_n 1, 1), (1, .ifCond .lt 9, 3), (4, .iload_n 1, 1), (5, .bipush 10, 2), (7, .if_icmp .lt 5, 3), (10, .iconst (-1), 1), (11, .ireturn, 1), (12, .aload_n 0, 1), (13, .getfield 15, 3), (16, .iload_n 1, 1), (17, .iaload, 1), (18, .istore_n 2, 1), (19, .aload_n 0, 1), (20, .getfield 9, 3), (23, .iload_n 1, 1), (24, .iaload, 1), (25, .tableswitch 53 1 5 #[35, 39, 53, 45, 35], 35), (60, .iload_n 2, 1), (61, .iconst 1, 1), (62, .iadd, 1), (63, .ireturn, 1), (64, .iconst 2, 1), (65, .iload_n 2, 1), (66, .iconst 1, 1), (67, .iadd, 1), (68, .imul, 1), (69, .ireturn, 1), (70, .iconst 1, 1), (71, .iload_n 2, 1), (72, .iconst 1, 1), (73, .isub, 1), (74, .invokestatic 85, 3), (77, .ireturn, 1), (78, .iload_n 2, 1), (79, .ireturn, 1)])
set_option maxRecDepth 20000 in
theorem ok_X3_span : x_ok M_X3_span := x_ok_of lkok_X3 (by decide +kernel)
set_option maxRecDepth 20000 in
theorem k_X3_span : x_calV M_X3_span 1 := ⟨⟨x_mem 358 rfl rfl, x_mem 37 (by decide +kernel) rfl, by decide +kernel, by decide +kernel, by decide +kernel⟩, x_mem 356 (by decide +kernel) rfl, x_mem 357 (by decide +kernel) rfl⟩
def M_X3_rank : xM := (RX3, yX3_rank, cX3_rank, 3, (some .int), 0, lk_X3, [(0, .iload_n 1, 1), (1, .ifCond .lt 9, 3), (4, .iload_n 1, 1), (5, .bipush 10, 2), (7, .if_icmp .lt 5, 3), (10, .iconst (-1), 1), (11, .ireturn, 1), (12, .aload_n 0, 1), (13, .getfield 18, 3), (16, .iload_n 1, 1), (17, .iaload, 1), (18, .istore_n 2, 1), (19, .aload_n 0, 1), (20, .getfield 9, 3), (23, .iload_n 1, 1), (24, .iaload, 1), (25, .lookupswitch 39 #[(3, 27), (4, 32)], 27), (52, .iload_n 2, 1), (53, .bipush 10, 2), (55, .iadd, 1), (56, .ireturn, 1), (57, .iconst 2, 1), (58, .iload_n 2, 1), (59, .bipush 10, 2), (61, .iadd, 1), (62, .imul, 1), (63, .ireturn, 1), (64, .iload_n 2, 1), (65, .ireturn, 1)])
set_option maxRecDepth 20000 in
theorem ok_X3_rank : x_ok M_X3_rank := x_ok_of lkok_X3 (by decide +kernel)
set_option maxRecDepth 20000 in
theorem k_X3_rank : x_calV M_X3_rank 1 := ⟨⟨x_mem 365 rfl rfl, x_mem 37 (by decide +kernel) rfl, by decide +kernel, by decide +kernel, by decide +kernel⟩, x_mem 363 (by decide +kernel) rfl, x_mem 364 (by decide +kernel) rfl⟩
def M_X3_freePlaces : xM := (RX3, yX3_freePlaces, cX3_freePlaces, 4, (some .int), 1, lk_X3, [(0, .iconst 1, 1), (1, .aload_n 0, 1), (2, .getfield 41, 3), (5, .iconst 0, 1), (6, .iaload, 1), (7, .ishl, 1), (8, .iconst 1, 1), (9, .isub, 1), (10, .istore_n 1, 1), (11, .iconst 0, 1), (12, .istore_n 2, 1), (13, .iconst 0, 1), (14, .istore_n 3, 1), (15, .iload_n 3, 1), (16, .aload_n 0, 1), (17, .getfield 41, 3), (20, .iconst 1, 1), (21, .iaload, 1), (22, .if_icmp .ge 30, 3), (25, .iload_n 3, 1), (26, .iconst 3, 1), (27, .if_icmp .ge 25, 3), (30, .iload_n 2, 1), (31, .iload_n 1, 1), (32, .aload_n 0, 1), (33, .getfield 44, 3), (36, .iload_n 3, 1), (37, .iaload, 1), (38, .iconst (-1), 1), (39, .ixor, 1), (40, .iand, 1), (41, .invokestatic 91, 3), (44, .iadd, 1), (45, .istore_n 2, 1), (46, .iinc 3 1, 3), (49, .goto (-34), 3), (52, .iload_n 2, 1), (53, .ireturn, 1)])
set_option maxRecDepth 20000 in
theorem ok_X3_freePlaces : x_ok M_X3_freePlaces := x_ok_of lkok_X3 (by decide +kernel)
set_option maxRecDepth 20000 in
theorem k_X3_freePlaces : x_calV M_X3_freePlaces 0 := ⟨⟨x_mem 388 rfl rfl, x_mem 37 (by decide +kernel) rfl, by decide +kernel, by decide +kernel, by decide +kernel⟩, x_mem 386 (by decide +kernel) rfl, x_mem 387 (by decide +kernel) rfl⟩
def M_X3_bound : xM := (RX3, yX3_bound, cX3_bound, 3, (some .int), 1, lk_X3, [(0, .iload_n 1, 1), (1, .bipush 99, 2), (3, .invokestatic 97, 3), (6, .istore_n 2, 1), (7, .iload_n 2, 1), (8, .ifCond .lt 26, 3), (11, .aload_n 0, 1), (12, .getfield 47, 3), (15, .iload_n 2, 1), (16, .iaload, 1), (17, .iconst (-1), 1), (18, .if_icmp .eq 10, 3), (21, .aload_n 0, 1), (22, .getfield 47, 3), (25, .iload_n 2, 1), (26, .iaload, 1), (27, .ireturn, 1), (28, .iinc 2 (-1), 3), (31, .goto (-24), 3), (34, .iconst (-1), 1), (35, .ireturn, 1)])
set_option maxRecDepth 20000 in
theorem ok_X3_bound : x_ok M_X3_bound := x_ok_of lkok_X3 (by decide +kernel)
set_option maxRecDepth 20000 in
theorem k_X3_bound : x_calV M_X3_bound 1 := ⟨⟨x_mem 334 rfl rfl, x_mem 37 (by decide +kernel) rfl, by decide +kernel, by decide +kernel, by decide +kernel⟩, x_mem 332 (by decide +kernel) rfl, x_mem 333 (by decide +kernel) rfl⟩
def M_X3_allows : xM := (RX3, yX3_allows, cX3_allows, 4, (some .boolean), 2, lk_X3, [(0, .aload_n 0, 1), (1, .iload_n 1, 1), (2, .invokevirtual 100, 3), (5, .istore_n 3, 1), (6, .iload_n 3, 1), (7, .iconst (-1), 1), (8, .if_icmp .eq 8, 3), (11, .iload_n 2, 1), (12, .iload_n 3, 1), (13, .if_icmp .gt 7, 3), (16, .iconst 1, 1), (17, .goto 4, 3), (20, .iconst 0, 1), (21, .ireturn, 1)])
set_option maxRecDepth 20000 in
theorem ok_X3_allows : x_ok M_X3_allows := x_ok_of lkok_X3 (by decide +kernel)
set_option maxRecDepth 20000 in
theorem k_X3_allows : x_calV M_X3_allows 2 := ⟨⟨x_mem 500 rfl rfl, x_mem 37 (by decide +kernel) rfl, by decide +kernel, by decide +kernel, by decide +kernel⟩, x_mem 498 (by decide +kernel) rfl, x_mem 499 (by decide +kernel) rfl⟩
def M_X3_dayFor : xM := (RX3, yX3_dayFor, cX3_dayFor, 5, (some .int), 3, lk_X3, [(0, .aload_n 0, 1), (1, .iload_n 1, 1), (2, .iload_n 2, 1), (3, .iload_n 3, 1), (4, .iadd, 1), (5, .invokevirtual 103, 3), (8, .ifCond .eq 5, 3), (11, .iload_n 1, 1), (12, .ireturn, 1), (13, .iload_n 1, 1), (14, .iconst 1, 1), (15, .iadd, 1), (16, .istore 4, 2), (18, .iload 4, 2), (20, .sipush 200, 3), (23, .if_icmp .ge 22, 3), (26, .aload_n 0, 1), (27, .iload 4, 2), (29, .iload_n 3, 1), (30, .invokevirtual 103, 3), (33, .ifCond .eq 6, 3), (36, .iload 4, 2), (38, .ireturn, 1), (39, .iinc 4 1, 3), (42, .goto (-24), 3), (45, .iconst (-1), 1), (46, .ireturn, 1)])
set_option maxRecDepth 20000 in
theorem ok_X3_dayFor : x_ok M_X3_dayFor := x_ok_of lkok_X3 (by decide +kernel)
set_option maxRecDepth 20000 in
theorem k_X3_dayFor : x_calV M_X3_dayFor 3 := ⟨⟨x_mem 496 rfl rfl, x_mem 37 (by decide +kernel) rfl, by decide +kernel, by decide +kernel, by decide +kernel⟩, x_mem 494 (by decide +kernel) rfl, x_mem 495 (by decide +kernel) rfl⟩
def M_X3_goneBy : xM := (RX3, yX3_goneBy, cX3_goneBy, 4, none, 0, lk_X3, [(0, .aload_n 0, 1), (1, .getfield 69, 3), (4, .ifCond .lt 12, 3), (7, .aload_n 0, 1), (8, .getfield 69, 3), (11, .bipush 40, 2), (13, .if_icmp .lt 4, 3), (16, .return_, 1), (17, .iconst 0, 1), (18, .istore_n 3, 1), (19, .iload_n 3, 1), (20, .bipush 10, 2), (22, .if_icmp .ge 27, 3), (25, .iload_n 1, 1), (26, .iload_n 3, 1), (27, .ishr, 1), (28, .iconst 1, 1), (29, .iand, 1), (30, .ifCond .eq 13, 3), (33, .aload_n 0, 1), (34, .getfield 30, 3), (37, .iload_n 3, 1), (38, .aload_n 0, 1), (39, .getfield 69, 3), (42, .iastore, 1), (43, .iinc 3 1, 3), (46, .goto (-27), 3), (49, .aload_n 0, 1), (50, .dup, 1), (51, .getfield 63, 3), (54, .iload_n 1, 1), (55, .iconst (-1), 1), (56, .ixor, 1), (57, .iand, 1), (58, .putfield 63, 3), (61, .aload_n 0, 1), (62, .dup, 1), (63, .getfield 66, 3), (66, .iload_n 1, 1), (67, .ior, 1), (68, .putfield 66, 3), (71, .aload_n 0, 1), (72, .getfield 50, 3), (75, .aload_n 0, 1), (76, .getfield 69, 3), (79, .iload_n 2, 1), (80, .iastore, 1), (81, .aload_n 0, 1), (82, .dup, 1), (83, .getfield 69, 3), (86, .iconst 1, 1), (87, .iadd, 1), (88, .putfield 69, 3), (91, .return_, 1)])
set_option maxRecDepth 20000 in
theorem ok_X3_goneBy : x_ok M_X3_goneBy := x_ok_of lkok_X3 (by decide +kernel)
set_option maxRecDepth 20000 in
theorem k_X3_goneBy : x_calV M_X3_goneBy 2 := ⟨⟨x_mem 450 rfl rfl, x_mem 37 (by decide +kernel) rfl, by decide +kernel, by decide +kernel, by decide +kernel⟩, x_mem 448 (by decide +kernel) rfl, x_mem 449 (by decide +kernel) rfl⟩
def M_X3_takeBack : xM := (RX3, yX3_takeBack, cX3_takeBack, 3, none, 0, lk_X3, [(0, .iload_n 1, 1), (1, .aload_n 0, 1), (2, .getfield 66, 3), (5, .iand, 1), (6, .ifCond .eq 13, 3), (9, .aload_n 0, 1), (10, .dup, 1), (11, .getfield 69, 3), (14, .iconst 1, 1), (15, .isub, 1), (16, .putfield 69, 3), (19, .iconst 0, 1), (20, .istore_n 2, 1), (21, .iload_n 2, 1), (22, .bipush 10, 2), (24, .if_icmp .ge 24, 3), (27, .iload_n 1, 1), (28, .iload_n 2, 1), (29, .ishr, 1), (30, .iconst 1, 1), (31, .iand, 1), (32, .ifCond .eq 10, 3), (35, .aload_n 0, 1), (36, .getfield 30, 3), (39, .iload_n 2, 1), (40, .iconst (-1), 1), (41, .iastore, 1), (42, .iinc 2 1, 3), (45, .goto (-24), 3), (48, .aload_n 0, 1), (49, .dup, 1), (50, .getfield 66, 3), (53, .iload_n 1, 1), (54, .iconst (-1), 1), (55, .ixor, 1), (56, .iand, 1), (57, .putfield 66, 3), (60, .aload_n 0, 1), (61, .dup, 1), (62, .getfield 63, 3), (65, .iload_n 1, 1), (66, .ior, 1), (67, .putfield 63, 3), (70, .return_, 1)])
set_option maxRecDepth 20000 in
theorem ok_X3_takeBack : x_ok M_X3_takeBack := x_ok_of lkok_X3 (by decide +kernel)
set_option maxRecDepth 20000 in
theorem k_X3_takeBack : x_calV M_X3_takeBack 1 := ⟨⟨x_mem 484 rfl rfl, x_mem 37 (by decide +kernel) rfl, by decide +kernel, by decide +kernel, by decide +kernel⟩, x_mem 482 (by decide +kernel) rfl, x_mem 483 (by decide +kernel) rfl⟩
def M_X3_spentInAll : xM := (RX3, yX3_spentInAll, cX3_spentInAll, 4, (some .long), 0, lk_X3, [(0, .lconst 0, 1), (1, .lstore_n 1, 1), (2, .iconst 0, 1), (3, .istore_n 3, 1), (4, .iload_n 3, 1), (5, .aload_n 0, 1), (6, .getfield 69, 3), (9, .if_icmp .ge 25, 3), (12, .iload_n 3, 1), (13, .bipush 40, 2), (15, .if_icmp .ge 19, 3), (18, .lload_n 1, 1), (19, .aload_n 0, 1), (20, .getfield 50, 3), (23, .iload_n 3, 1), (24, .iaload, 1), (25, .i2l, 1), (26, .ladd, 1), (27, .lstore_n 1, 1), (28, .iinc 3 1, 3), (31, .goto (-27), 3), (34, .lload_n 1, 1), (35, .lreturn, 1)])
set_option maxRecDepth 20000 in
theorem ok_X3_spentInAll : x_ok M_X3_spentInAll := x_ok_of lkok_X3 (by decide +kernel)
set_option maxRecDepth 20000 in
theorem k_X3_spentInAll : x_calV M_X3_spentInAll 0 := ⟨⟨x_mem 472 rfl rfl, x_mem 37 (by decide +kernel) rfl, by decide +kernel, by decide +kernel, by decide +kernel⟩, x_mem 470 (by decide +kernel) rfl, x_mem 471 (by decide +kernel) rfl⟩
def M_X4_isMissing : xM := (RX4, yX4_isMissing, cX4_isMissing, 1, (some .boolean), 0, lk_X4, [(0, .aload_n 0, 1), (1, .getfield 9, 3), (4, .iconst (-1), 1), (5, .if_icmp .ne 7, 3), (8, .iconst 1, 1), (9, .goto 4, 3), (12, .iconst 0, 1), (13, .ireturn, 1)])
set_option maxRecDepth 20000 in
theorem ok_X4_isMissing : x_ok M_X4_isMissing := x_ok_of lkok_X4 (by decide +kernel)
set_option maxRecDepth 20000 in
theorem k_X4_isMissing : x_calV M_X4_isMissing 0 := ⟨⟨x_mem 594 rfl rfl, x_mem 42 (by decide +kernel) rfl, by decide +kernel, by decide +kernel, by decide +kernel⟩, x_mem 592 (by decide +kernel) rfl, x_mem 593 (by decide +kernel) rfl⟩
def M_X4_has : xM := (RX4, yX4_has, cX4_has, 2, (some .boolean), 0, lk_X4, [(0, .iload_n 1, 1), (1, .ifCond .lt 15, 3), (4, .iload_n 1, 1), (5, .aload_n 0, 1), (6, .getfield 19, 3), (9, .if_icmp .ge 7, 3), (12, .iconst 1, 1), (13, .goto 4, 3), (16, .iconst 0, 1), (17, .ireturn, 1)])
set_option maxRecDepth 20000 in
theorem ok_X4_has : x_ok M_X4_has := x_ok_of lkok_X4 (by decide +kernel)
set_option maxRecDepth 20000 in
theorem k_X4_has : x_calV M_X4_has 1 := ⟨⟨x_mem 621 rfl rfl, x_mem 42 (by decide +kernel) rfl, by decide +kernel, by decide +kernel, by decide +kernel⟩, x_mem 619 (by decide +kernel) rfl, x_mem 620 (by decide +kernel) rfl⟩
def M_X4_hasRun : xM := (RX4, yX4_hasRun, cX4_hasRun, 3, (some .boolean), 0, lk_X4, [(0, .iload_n 1, 1), (1, .ifCond .lt 29, 3), (4, .iload_n 2, 1), (5, .ifCond .lt 25, 3), (8, .iload_n 1, 1), (9, .aload_n 0, 1), (10, .getfield 19, 3), (13, .if_icmp .gt 17, 3), (16, .iload_n 2, 1), (17, .aload_n 0, 1), (18, .getfield 19, 3), (21, .iload_n 1, 1), (22, .isub, 1), (23, .if_icmp .gt 7, 3), (26, .iconst 1, 1), (27, .goto 4, 3), (30, .iconst 0, 1), (31, .ireturn, 1)])
set_option maxRecDepth 20000 in
theorem ok_X4_hasRun : x_ok M_X4_hasRun := x_ok_of lkok_X4 (by decide +kernel)
set_option maxRecDepth 20000 in
theorem k_X4_hasRun : x_calV M_X4_hasRun 2 := ⟨⟨x_mem 654 rfl rfl, x_mem 42 (by decide +kernel) rfl, by decide +kernel, by decide +kernel, by decide +kernel⟩, x_mem 652 (by decide +kernel) rfl, x_mem 653 (by decide +kernel) rfl⟩
def M_X4_become : xM := (RX4, yX4_become, cX4_become, 3, none, 1, lk_X4, [(0, .aload_n 0, 1), (1, .iload_n 1, 1), (2, .putfield 9, 3), (5, .aload_n 0, 1), (6, .iconst 0, 1), (7, .iload_n 2, 1), (8, .bipush 40, 2), (10, .invokestatic 22, 3), (13, .invokestatic 28, 3), (16, .putfield 19, 3), (19, .aload_n 0, 1), (20, .getfield 15, 3), (23, .iconst 0, 1), (24, .invokestatic 31, 3), (27, .return_, 1)])
set_option maxRecDepth 20000 in
theorem ok_X4_become : x_ok M_X4_become := x_ok_of lkok_X4 (by decide +kernel)
set_option maxRecDepth 20000 in
theorem k_X4_become : x_calV M_X4_become 2 := ⟨⟨x_mem 610 rfl rfl, x_mem 42 (by decide +kernel) rfl, by decide +kernel, by decide +kernel, by decide +kernel⟩, x_mem 608 (by decide +kernel) rfl, x_mem 609 (by decide +kernel) rfl⟩
def M_X4_write : xM := (RX4, yX4_write, cX4_write, 3, none, 1, lk_X4, [(0, .aload_n 0, 1), (1, .iload_n 1, 1), (2, .invokevirtual 37, 3), (5, .ifCond .eq 22, 3), (8, .aload_n 0, 1), (9, .getfield 15, 3), (12, .iload_n 1, 1), (13, .aload_n 0, 1), (14, .getfield 9, 3), (17, .ifCond .ne 8, 3), (20, .iload_n 2, 1), (21, .i2b, 1), (22, .goto 4, 3), (25, .iload_n 2, 1), (26, .iastore, 1), (27, .return_, 1)])
set_option maxRecDepth 20000 in
theorem ok_X4_write : x_ok M_X4_write := x_ok_of lkok_X4 (by decide +kernel)
set_option maxRecDepth 20000 in
theorem k_X4_write : x_calV M_X4_write 2 := ⟨⟨x_mem 617 rfl rfl, x_mem 42 (by decide +kernel) rfl, by decide +kernel, by decide +kernel, by decide +kernel⟩, x_mem 615 (by decide +kernel) rfl, x_mem 616 (by decide +kernel) rfl⟩
def M_X5_ship : xM := (RX5, yX5_ship, cX5_ship, 7, (some .int), 1, lk_X5, [(0, .iload_n 1, 1), (1, .invokestatic 57, 3), (4, .ifCond .eq 21, 3), (7, .iload_n 2, 1), (8, .invokestatic 61, 3), (11, .ifCond .eq 14, 3), (14, .iload_n 3, 1), (15, .iconst 1, 1), (16, .if_icmp .lt 9, 3), (19, .iload_n 3, 1), (20, .bipush 9, 2), (22, .if_icmp .le 6, 3), (25, .bipush (-2), 2), (27, .ireturn, 1), (28, .iload 4, 2), (30, .ifCond .lt 10, 3), (33, .iload 4, 2), (35, .bipush 9, 2), (37, .if_icmp .le 6, 3), (40, .bipush (-2), 2), (42, .ireturn, 1), (43, .iload 5, 2), (45, .ifCond .lt 10, 3), (48, .iload 5, 2), (50, .ldc 64, 2), (52, .if_icmp .lt 6, 3), (55, .bipush (-2), 2), (57, .ireturn, 1), (58, .aload_n 0, 1), (59, .getfield 12, 3), (62, .getfield 65, 3), (65, .bipush 10, 2), (67, .if_icmp .lt 6, 3), (70, .bipush (-4), 2), (72, .ireturn, 1), (73, .aload_n 0, 1), (74, .getfield 12, 3), (77, .getfield 65, 3), (80, .istore 6, 2), (82, .aload_n 0, 1), (83, .getfield 12, 3), (86, .getfield 69, 3), (89, .iload 6, 2), (91, .iload_n 2, 1), (92, .iastore, 1), (93, .aload_n 0, 1), (94, .getfield 12, 3), (97, .getfield 72, 3), (100, .iload 6, 2), (102, .iload_n 3, 1), (103, .iastore, 1), (104, .aload_n 0, 1), (105, .getfield 12, 3), (108, .getfield 75, 3), (111, .iload 6, 2), (113, .iload 4, 2), (115, .iastore, 1), (116, .aload_n 0, 1), (117, .getfield 12, 3), (120, .getfield 78, 3), (123, .iload 6, 2), (125, .iload 5, 2), (127, .sipush 1000, 3), (130, .idiv, 1), (131, .iastore, 1), (132, .aload_n 0, 1), (133, .getfield 12, 3), (136, .getfield 81, 3), (139, .iload 6, 2), (141, .iload 5, 2), (143, .sipush 1000, 3), (146, .irem, 1), (147, .iastore, 1), (148, .aload_n 0, 1), (149, .getfield 12, 3), (152, .getfield 84, 3), (155, .iload 6, 2), (157, .iload_n 1, 1), (158, .iastore, 1), (159, .aload_n 0, 1), (160, .getfield 12, 3), (163, .getfield 87, 3), (166, .iload 6, 2), (168, .iconst (-1), 1), (169, .iastore, 1), (170, .aload_n 0, 1), (171, .getfield 12, 3), (174, .dup, 1), (175, .getfield 90, 3), (178, .iconst 1, 1), (179, .iload 6, 2), (181, .ishl, 1), (182, .ior, 1), (183, .putfield 90, 3), (186, .aload_n 0, 1), (187, .getfield 12, 3), (190, .dup, 1), (191, .getfield 65, 3), (194, .iconst 1, 1), (195, .iadd, 1), (196, .putfield 65, 3), (199, .aload_n 0, 1), (200, .iconst 0, 1), (201, .putfield 93, 3), (204, .iload 6, 2), (206, .ireturn, 1)])
set_option maxRecDepth 20000 in
theorem ok_X5_ship : x_ok M_X5_ship := x_ok_of lkok_X5 (by decide +kernel)
set_option maxRecDepth 20000 in
theorem k_X5_ship : x_calV M_X5_ship 5 := ⟨⟨x_mem 299 rfl rfl, x_mem 36 (by decide +kernel) rfl, by decide +kernel, by decide +kernel, by decide +kernel⟩, x_mem 297 (by decide +kernel) rfl, x_mem 298 (by decide +kernel) rfl⟩
def M_X5_set : xM := (RX5, yX5_set, cX5_set, 4, (some .int), 1, lk_X5, [(0, .iload_n 1, 1), (1, .invokestatic 96, 3), (4, .ifCond .eq 21, 3), (7, .iload_n 2, 1), (8, .getstatic 99, 3), (11, .iload_n 1, 1), (12, .iaload, 1), (13, .if_icmp .lt 12, 3), (16, .iload_n 2, 1), (17, .getstatic 102, 3), (20, .iload_n 1, 1), (21, .iaload, 1), (22, .if_icmp .le 6, 3), (25, .bipush (-2), 2), (27, .ireturn, 1), (28, .aload_n 0, 1), (29, .getfield 12, 3), (32, .getfield 105, 3), (35, .iload_n 1, 1), (36, .iaload, 1), (37, .istore_n 3, 1), (38, .aload_n 0, 1), (39, .getfield 12, 3), (42, .getfield 105, 3), (45, .iload_n 1, 1), (46, .iload_n 2, 1), (47, .iastore, 1), (48, .iload_n 3, 1), (49, .ireturn, 1)])
set_option maxRecDepth 20000 in
theorem ok_X5_set : x_ok M_X5_set := x_ok_of lkok_X5 (by decide +kernel)
set_option maxRecDepth 20000 in
theorem k_X5_set : x_calV M_X5_set 2 := ⟨⟨x_mem 310 rfl rfl, x_mem 36 (by decide +kernel) rfl, by decide +kernel, by decide +kernel, by decide +kernel⟩, x_mem 308 (by decide +kernel) rfl, x_mem 309 (by decide +kernel) rfl⟩
def M_X5_bar : xM := (RX5, yX5_bar, cX5_bar, 5, (some .int), 0, lk_X5, [(0, .iload_n 1, 1), (1, .ifCond .lt 18, 3), (4, .iload_n 1, 1), (5, .iconst 3, 1), (6, .if_icmp .ge 13, 3), (9, .iload_n 2, 1), (10, .ifCond .lt 9, 3), (13, .iload_n 2, 1), (14, .bipush 20, 2), (16, .if_icmp .lt 6, 3), (19, .bipush (-2), 2), (21, .ireturn, 1), (22, .aload_n 0, 1), (23, .getfield 12, 3), (26, .getfield 108, 3), (29, .iload_n 1, 1), (30, .iaload, 1), (31, .iload_n 2, 1), (32, .ishr, 1), (33, .iconst 1, 1), (34, .iand, 1), (35, .istore 4, 2), (37, .iload_n 3, 1), (38, .ifCond .eq 21, 3), (41, .aload_n 0, 1), (42, .getfield 12, 3), (45, .getfield 108, 3), (48, .iload_n 1, 1), (49, .dup2, 1), (50, .iaload, 1), (51, .iconst 1, 1), (52, .iload_n 2, 1), (53, .ishl, 1), (54, .ior, 1), (55, .iastore, 1), (56, .goto 20, 3), (59, .aload_n 0, 1), (60, .getfield 12, 3), (63, .getfield 108, 3), (66, .iload_n 1, 1), (67, .dup2, 1), (68, .iaload, 1), (69, .iconst 1, 1), (70, .iload_n 2, 1), (71, .ishl, 1), (72, .iconst (-1), 1), (73, .ixor, 1), (74, .iand, 1), (75, .iastore, 1), (76, .iload 4, 2), (78, .ireturn, 1)])
set_option maxRecDepth 20000 in
theorem ok_X5_bar : x_ok M_X5_bar := x_ok_of lkok_X5 (by decide +kernel)
set_option maxRecDepth 20000 in
theorem k_X5_bar : x_calV M_X5_bar 3 := ⟨⟨x_mem 321 rfl rfl, x_mem 36 (by decide +kernel) rfl, by decide +kernel, by decide +kernel, by decide +kernel⟩, x_mem 319 (by decide +kernel) rfl, x_mem 320 (by decide +kernel) rfl⟩
def M_X5_cap : xM := (RX5, yX5_cap, cX5_cap, 4, (some .int), 0, lk_X5, [(0, .iload_n 1, 1), (1, .ifCond .lt 20, 3), (4, .iload_n 1, 1), (5, .bipush 100, 2), (7, .if_icmp .ge 14, 3), (10, .iload_n 2, 1), (11, .iconst (-1), 1), (12, .if_icmp .lt 9, 3), (15, .iload_n 2, 1), (16, .ldc 111, 2), (18, .if_icmp .le 6, 3), (21, .bipush (-2), 2), (23, .ireturn, 1), (24, .aload_n 0, 1), (25, .getfield 12, 3), (28, .getfield 112, 3), (31, .iload_n 1, 1), (32, .iaload, 1), (33, .istore_n 3, 1), (34, .aload_n 0, 1), (35, .getfield 12, 3), (38, .getfield 112, 3), (41, .iload_n 1, 1), (42, .iload_n 2, 1), (43, .iastore, 1), (44, .iload_n 3, 1), (45, .ireturn, 1)])
set_option maxRecDepth 20000 in
theorem ok_X5_cap : x_ok M_X5_cap := x_ok_of lkok_X5 (by decide +kernel)
set_option maxRecDepth 20000 in
theorem k_X5_cap : x_calV M_X5_cap 2 := ⟨⟨x_mem 325 rfl rfl, x_mem 36 (by decide +kernel) rfl, by decide +kernel, by decide +kernel, by decide +kernel⟩, x_mem 323 (by decide +kernel) rfl, x_mem 324 (by decide +kernel) rfl⟩
def M_X5_may : xM := (RX5, yX5_may, cX5_may, 2, (some .int), 2, lk_X5, [(0, .iload_n 1, 1), (1, .ifCond .lt 10, 3), (4, .iload_n 1, 1), (5, .sipush 200, 3), (8, .if_icmp .lt 8, 3), (11, .bipush (-2), 2), (13, .goto 11, 3), (16, .aload_n 0, 1), (17, .getfield 12, 3), (20, .iload_n 1, 1), (21, .invokevirtual 115, 3), (24, .ireturn, 1)])
set_option maxRecDepth 20000 in
theorem ok_X5_may : x_ok M_X5_may := x_ok_of lkok_X5 (by decide +kernel)
set_option maxRecDepth 20000 in
theorem k_X5_may : x_calV M_X5_may 1 := ⟨⟨x_mem 330 rfl rfl, x_mem 36 (by decide +kernel) rfl, by decide +kernel, by decide +kernel, by decide +kernel⟩, x_mem 328 (by decide +kernel) rfl, x_mem 329 (by decide +kernel) rfl⟩
def M_X5_told : xM := (RX5, yX5_told, cX5_told, 3, (some .int), 2, lk_X5, [(0, .aload_n 0, 1), (1, .getfield 12, 3), (4, .iload_n 1, 1), (5, .invokevirtual 119, 3), (8, .ifCond .ne 6, 3), (11, .bipush (-2), 2), (13, .ireturn, 1), (14, .iload_n 2, 1), (15, .tableswitch 173 0 9 #[53, 63, 73, 83, 93, 103, 113, 145, 154, 163], 53), (68, .aload_n 0, 1), (69, .getfield 12, 3), (72, .getfield 69, 3), (75, .iload_n 1, 1), (76, .iaload, 1), (77, .ireturn, 1), (78, .aload_n 0, 1), (79, .getfield 12, 3), (82, .getfield 72, 3), (85, .iload_n 1, 1), (86, .iaload, 1), (87, .ireturn, 1), (88, .aload_n 0, 1), (89, .getfield 12, 3), (92, .getfield 75, 3), (95, .iload_n 1, 1), (96, .iaload, 1), (97, .ireturn, 1), (98, .aload_n 0, 1), (99, .getfield 12, 3), (102, .getfield 78, 3), (105, .iload_n 1, 1), (106, .iaload, 1), (107, .ireturn, 1), (108, .aload_n 0, 1), (109, .getfield 12, 3), (112, .getfield 81, 3), (115, .iload_n 1, 1), (116, .iaload, 1), (117, .ireturn, 1), (118, .aload_n 0, 1), (119, .getfield 12, 3), (122, .getfield 84, 3), (125, .iload_n 1, 1), (126, .iaload, 1), (127, .ireturn, 1), (128, .aload_n 0, 1), (129, .getfield 12, 3), (132, .iload_n 1, 1), (133, .invokevirtual 122, 3), (136, .ifCond .eq 7, 3), (139, .iconst 0, 1), (140, .goto 19, 3), (143, .aload_n 0, 1), (144, .getfield 12, 3), (147, .iload_n 1, 1), (148, .invokevirtual 125, 3), (151, .ifCond .eq 7, 3), (154, .iconst 1, 1), (155, .goto 4, 3), (158, .iconst 2, 1), (159, .ireturn, 1), (160, .aload_n 0, 1), (161, .getfield 12, 3), (164, .iload_n 1, 1), (165, .invokevirtual 128, 3), (168, .ireturn, 1), (169, .aload_n 0, 1), (170, .getfield 12, 3), (173, .iload_n 1, 1), (174, .invokevirtual 131, 3), (177, .ireturn, 1), (178, .aload_n 0, 1), (179, .getfield 12, 3), (182, .getfield 87, 3), (185, .iload_n 1, 1), (186, .iaload, 1), (187, .ireturn, 1), (188, .bipush (-2), 2), (190, .ireturn, 1)])
set_option maxRecDepth 20000 in
theorem ok_X5_told : x_ok M_X5_told := x_ok_of lkok_X5 (by decide +kernel)
set_option maxRecDepth 20000 in
theorem k_X5_told : x_calV M_X5_told 2 := ⟨⟨x_mem 341 rfl rfl, x_mem 36 (by decide +kernel) rfl, by decide +kernel, by decide +kernel, by decide +kernel⟩, x_mem 339 (by decide +kernel) rfl, x_mem 340 (by decide +kernel) rfl⟩
def M_X5_lane : xM := (RX5, yX5_lane, cX5_lane, 3, (some .int), 3, lk_X5, [(0, .iload_n 1, 1), (1, .invokestatic 57, 3), (4, .ifCond .ne 8, 3), (7, .bipush (-2), 2), (9, .goto 12, 3), (12, .aload_n 0, 1), (13, .getfield 12, 3), (16, .iload_n 1, 1), (17, .iload_n 2, 1), (18, .invokevirtual 134, 3), (21, .ireturn, 1)])
set_option maxRecDepth 20000 in
theorem ok_X5_lane : x_ok M_X5_lane := x_ok_of lkok_X5 (by decide +kernel)
set_option maxRecDepth 20000 in
theorem k_X5_lane : x_calV M_X5_lane 2 := ⟨⟨x_mem 369 rfl rfl, x_mem 36 (by decide +kernel) rfl, by decide +kernel, by decide +kernel, by decide +kernel⟩, x_mem 367 (by decide +kernel) rfl, x_mem 368 (by decide +kernel) rfl⟩
def M_X5_count : xM := (RX5, yX5_count, cX5_count, 2, (some .int), 2, lk_X5, [(0, .iload_n 1, 1), (1, .invokestatic 96, 3), (4, .ifCond .eq 13, 3), (7, .aload_n 0, 1), (8, .getfield 12, 3), (11, .getfield 105, 3), (14, .iload_n 1, 1), (15, .iaload, 1), (16, .ireturn, 1), (17, .iload_n 1, 1), (18, .tableswitch 74 5 9 #[34, 42, 53, 61, 66], 34), (52, .aload_n 0, 1), (53, .getfield 12, 3), (56, .getfield 65, 3), (59, .ireturn, 1), (60, .aload_n 0, 1), (61, .getfield 12, 3), (64, .getfield 90, 3), (67, .invokestatic 138, 3), (70, .ireturn, 1), (71, .aload_n 0, 1), (72, .getfield 12, 3), (75, .getfield 143, 3), (78, .ireturn, 1), (79, .aload_n 0, 1), (80, .getfield 93, 3), (83, .ireturn, 1), (84, .aload_n 0, 1), (85, .getfield 12, 3), (88, .invokevirtual 146, 3), (91, .ireturn, 1), (92, .bipush (-2), 2), (94, .ireturn, 1)])
set_option maxRecDepth 20000 in
theorem ok_X5_count : x_ok M_X5_count := x_ok_of lkok_X5 (by decide +kernel)
set_option maxRecDepth 20000 in
theorem k_X5_count : x_calV M_X5_count 1 := ⟨⟨x_mem 378 rfl rfl, x_mem 36 (by decide +kernel) rfl, by decide +kernel, by decide +kernel, by decide +kernel⟩, x_mem 376 (by decide +kernel) rfl, x_mem 377 (by decide +kernel) rfl⟩
def M_X5_taken : xM := (RX5, yX5_taken, cX5_taken, 3, (some .int), 2, lk_X5, [(0, .aload_n 0, 1), (1, .getfield 12, 3), (4, .iload_n 1, 1), (5, .invokevirtual 119, 3), (8, .ifCond .eq 10, 3), (11, .iload_n 2, 1), (12, .invokestatic 61, 3), (15, .ifCond .ne 6, 3), (18, .bipush (-2), 2), (20, .ireturn, 1), (21, .aload_n 0, 1), (22, .getfield 12, 3), (25, .getfield 69, 3), (28, .iload_n 1, 1), (29, .iaload, 1), (30, .iload_n 2, 1), (31, .invokestatic 150, 3), (34, .ifCond .eq 15, 3), (37, .aload_n 0, 1), (38, .getfield 12, 3), (41, .getfield 72, 3), (44, .iload_n 1, 1), (45, .iaload, 1), (46, .goto 5, 3), (49, .bipush (-13), 2), (51, .ireturn, 1)])
set_option maxRecDepth 20000 in
theorem ok_X5_taken : x_ok M_X5_taken := x_ok_of lkok_X5 (by decide +kernel)
set_option maxRecDepth 20000 in
theorem k_X5_taken : x_calV M_X5_taken 2 := ⟨⟨x_mem 393 rfl rfl, x_mem 36 (by decide +kernel) rfl, by decide +kernel, by decide +kernel, by decide +kernel⟩, x_mem 391 (by decide +kernel) rfl, x_mem 392 (by decide +kernel) rfl⟩
def M_X5_fill : xM := (RX5, yX5_fill, cX5_fill, 2, (some .int), 5, lk_X5, [(0, .aload_n 0, 1), (1, .getfield 30, 3), (4, .aload_n 0, 1), (5, .getfield 12, 3), (8, .getfield 90, 3), (11, .getstatic 154, 3), (14, .invokevirtual 157, 3), (17, .istore_n 1, 1), (18, .iload_n 1, 1), (19, .ifCond .ne 6, 3), (22, .bipush (-3), 2), (24, .ireturn, 1), (25, .aload_n 0, 1), (26, .getfield 12, 3), (29, .getfield 143, 3), (32, .bipush 40, 2), (34, .if_icmp .lt 6, 3), (37, .bipush (-4), 2), (39, .ireturn, 1), (40, .aload_n 0, 1), (41, .getfield 12, 3), (44, .iload_n 1, 1), (45, .aload_n 0, 1), (46, .getfield 30, 3), (49, .invokevirtual 161, 3), (52, .invokevirtual 164, 3), (55, .aload_n 0, 1), (56, .iload_n 1, 1), (57, .invokevirtual 168, 3), (60, .iload_n 1, 1), (61, .invokestatic 138, 3), (64, .ireturn, 1)])
set_option maxRecDepth 20000 in
theorem ok_X5_fill : x_ok M_X5_fill := x_ok_of lkok_X5 (by decide +kernel)
set_option maxRecDepth 20000 in
theorem k_X5_fill : x_calV M_X5_fill 0 := ⟨⟨x_mem 402 rfl rfl, x_mem 36 (by decide +kernel) rfl, by decide +kernel, by decide +kernel, by decide +kernel⟩, x_mem 400 (by decide +kernel) rfl, x_mem 401 (by decide +kernel) rfl⟩
def M_X5_next : xM := (RX5, yX5_next, cX5_next, 3, (some .int), 5, lk_X5, [(0, .iload_n 1, 1), (1, .ifCond .lt 12, 3), (4, .iload_n 2, 1), (5, .ifCond .lt 8, 3), (8, .iload_n 2, 1), (9, .iconst 2, 1), (10, .if_icmp .le 6, 3), (13, .bipush (-2), 2), (15, .ireturn, 1), (16, .aload_n 0, 1), (17, .getfield 30, 3), (20, .aload_n 0, 1), (21, .getfield 12, 3), (24, .getfield 90, 3), (27, .getstatic 154, 3), (30, .invokevirtual 157, 3), (33, .pop, 1), (34, .iload_n 1, 1), (35, .aload_n 0, 1), (36, .getfield 30, 3), (39, .getfield 172, 3), (42, .if_icmp .lt 5, 3), (45, .iconst (-1), 1), (46, .ireturn, 1), (47, .iload_n 2, 1), (48, .ifCond .ne 15, 3), (51, .aload_n 0, 1), (52, .getfield 30, 3), (55, .getfield 175, 3), (58, .iload_n 1, 1), (59, .iaload, 1), (60, .goto 29, 3), (63, .iload_n 2, 1), (64, .iconst 1, 1), (65, .if_icmp .ne 15, 3), (68, .aload_n 0, 1), (69, .getfield 30, 3), (72, .getfield 178, 3), (75, .iload_n 1, 1), (76, .iaload, 1), (77, .goto 12, 3), (80, .aload_n 0, 1), (81, .getfield 30, 3), (84, .getfield 181, 3), (87, .iload_n 1, 1), (88, .iaload, 1), (89, .ireturn, 1)])
set_option maxRecDepth 20000 in
theorem ok_X5_next : x_ok M_X5_next := x_ok_of lkok_X5 (by decide +kernel)
set_option maxRecDepth 20000 in
theorem k_X5_next : x_calV M_X5_next 2 := ⟨⟨x_mem 459 rfl rfl, x_mem 36 (by decide +kernel) rfl, by decide +kernel, by decide +kernel, by decide +kernel⟩, x_mem 457 (by decide +kernel) rfl, x_mem 458 (by decide +kernel) rfl⟩
def M_X5_water : xM := (RX5, yX5_water, cX5_water, 1, (some .long), 5, lk_X5, [(0, .aload_n 0, 1), (1, .getfield 30, 3), (4, .aload_n 0, 1), (5, .getfield 12, 3), (8, .getfield 90, 3), (11, .getstatic 154, 3), (14, .invokevirtual 157, 3), (17, .ifCond .ne 9, 3), (20, .ldc2_w 184, 3), (23, .goto 11, 3), (26, .aload_n 0, 1), (27, .getfield 30, 3), (30, .invokevirtual 161, 3), (33, .i2l, 1), (34, .lreturn, 1)])
set_option maxRecDepth 20000 in
theorem ok_X5_water : x_ok M_X5_water := x_ok_of lkok_X5 (by decide +kernel)
set_option maxRecDepth 20000 in
theorem k_X5_water : x_calV M_X5_water 0 := ⟨⟨x_mem 463 rfl rfl, x_mem 36 (by decide +kernel) rfl, by decide +kernel, by decide +kernel, by decide +kernel⟩, x_mem 461 (by decide +kernel) rfl, x_mem 462 (by decide +kernel) rfl⟩
def M_X5_spent : xM := (RX5, yX5_spent, cX5_spent, 2, (some .long), 1, lk_X5, [(0, .iload_n 1, 1), (1, .iconst (-1), 1), (2, .if_icmp .lt 14, 3), (5, .iload_n 1, 1), (6, .aload_n 0, 1), (7, .getfield 12, 3), (10, .getfield 143, 3), (13, .if_icmp .lt 7, 3), (16, .ldc2_w 184, 3), (19, .lreturn, 1), (20, .iload_n 1, 1), (21, .iconst (-1), 1), (22, .if_icmp .ne 13, 3), (25, .aload_n 0, 1), (26, .getfield 12, 3), (29, .invokevirtual 186, 3), (32, .goto 13, 3), (35, .aload_n 0, 1), (36, .getfield 12, 3), (39, .getfield 190, 3), (42, .iload_n 1, 1), (43, .iaload, 1), (44, .i2l, 1), (45, .lreturn, 1)])
set_option maxRecDepth 20000 in
theorem ok_X5_spent : x_ok M_X5_spent := x_ok_of lkok_X5 (by decide +kernel)
set_option maxRecDepth 20000 in
theorem k_X5_spent : x_calV M_X5_spent 1 := ⟨⟨x_mem 468 rfl rfl, x_mem 36 (by decide +kernel) rfl, by decide +kernel, by decide +kernel, by decide +kernel⟩, x_mem 466 (by decide +kernel) rfl, x_mem 467 (by decide +kernel) rfl⟩
def M_X5_leave : xM := (RX5, yX5_leave, cX5_leave, 2, (some .int), 2, lk_X5, [(0, .aload_n 0, 1), (1, .getfield 12, 3), (4, .iload_n 1, 1), (5, .invokevirtual 119, 3), (8, .ifCond .ne 6, 3), (11, .bipush (-2), 2), (13, .ireturn, 1), (14, .aload_n 0, 1), (15, .getfield 12, 3), (18, .iload_n 1, 1), (19, .invokevirtual 122, 3), (22, .ifCond .ne 6, 3), (25, .bipush (-3), 2), (27, .ireturn, 1), (28, .aload_n 0, 1), (29, .getfield 12, 3), (32, .dup, 1), (33, .getfield 90, 3), (36, .iconst 1, 1), (37, .iload_n 1, 1), (38, .ishl, 1), (39, .iconst (-1), 1), (40, .ixor, 1), (41, .iand, 1), (42, .putfield 90, 3), (45, .aload_n 0, 1), (46, .iconst 1, 1), (47, .iload_n 1, 1), (48, .ishl, 1), (49, .invokevirtual 168, 3), (52, .aload_n 0, 1), (53, .getfield 12, 3), (56, .getfield 90, 3), (59, .invokestatic 138, 3), (62, .ireturn, 1)])
set_option maxRecDepth 20000 in
theorem ok_X5_leave : x_ok M_X5_leave := x_ok_of lkok_X5 (by decide +kernel)
set_option maxRecDepth 20000 in
theorem k_X5_leave : x_calV M_X5_leave 1 := ⟨⟨x_mem 476 rfl rfl, x_mem 36 (by decide +kernel) rfl, by decide +kernel, by decide +kernel, by decide +kernel⟩, x_mem 474 (by decide +kernel) rfl, x_mem 475 (by decide +kernel) rfl⟩
def M_X5_undo : xM := (RX5, yX5_undo, cX5_undo, 1, (some .int), 1, lk_X5, [(0, .aload_n 0, 1), (1, .getfield 93, 3), (4, .iconst 1, 1), (5, .if_icmp .lt 12, 3), (8, .aload_n 0, 1), (9, .getfield 93, 3), (12, .bipush 6, 2), (14, .if_icmp .le 6, 3), (17, .bipush (-3), 2), (19, .ireturn, 1), (20, .aload_n 0, 1), (21, .dup, 1), (22, .getfield 93, 3), (25, .iconst 1, 1), (26, .isub, 1), (27, .putfield 93, 3), (30, .aload_n 0, 1), (31, .getfield 12, 3), (34, .aload_n 0, 1), (35, .getfield 21, 3), (38, .aload_n 0, 1), (39, .getfield 93, 3), (42, .iaload, 1), (43, .invokevirtual 193, 3), (46, .aload_n 0, 1), (47, .getfield 93, 3), (50, .ireturn, 1)])
set_option maxRecDepth 20000 in
theorem ok_X5_undo : x_ok M_X5_undo := x_ok_of lkok_X5 (by decide +kernel)
set_option maxRecDepth 20000 in
theorem k_X5_undo : x_calV M_X5_undo 0 := ⟨⟨x_mem 480 rfl rfl, x_mem 36 (by decide +kernel) rfl, by decide +kernel, by decide +kernel, by decide +kernel⟩, x_mem 478 (by decide +kernel) rfl, x_mem 479 (by decide +kernel) rfl⟩
def M_X5_plan : xM := (RX5, yX5_plan, cX5_plan, 7, (some .int), 5, lk_X5, [(0, .iload_n 1, 1), (1, .ifCond .lt 8, 3), (4, .iload_n 1, 1), (5, .iconst 2, 1), (6, .if_icmp .le 6, 3), (9, .bipush (-2), 2), (11, .ireturn, 1), (12, .aload_n 0, 1), (13, .getfield 12, 3), (16, .getfield 90, 3), (19, .istore_n 2, 1), (20, .iconst 0, 1), (21, .istore_n 3, 1), (22, .iconst 0, 1), (23, .istore 4, 2), (25, .iconst 0, 1), (26, .istore 5, 2), (28, .iload 5, 2), (30, .bipush 10, 2), (32, .if_icmp .ge 52, 3), (35, .aload_n 0, 1), (36, .getfield 30, 3), (39, .iload_n 2, 1), (40, .getstatic 154, 3), (43, .invokevirtual 157, 3), (46, .istore 6, 2), (48, .iload 6, 2), (50, .ifCond .ne 6, 3), (53, .goto 31, 3), (56, .iload_n 2, 1), (57, .iload 6, 2), (59, .iconst (-1), 1), (60, .ixor, 1), (61, .iand, 1), (62, .istore_n 2, 1), (63, .iinc 3 1, 3), (66, .iload 4, 2), (68, .aload_n 0, 1), (69, .getfield 30, 3), (72, .invokevirtual 161, 3), (75, .iadd, 1), (76, .istore 4, 2), (78, .iinc 5 1, 3), (81, .goto (-53), 3), (84, .iload_n 1, 1), (85, .ifCond .ne 7, 3), (88, .iload_n 3, 1), (89, .goto 14, 3), (92, .iload_n 1, 1), (93, .iconst 1, 1), (94, .if_icmp .ne 7, 3), (97, .iload_n 2, 1), (98, .goto 5, 3), (101, .iload 4, 2), (103, .ireturn, 1)])
set_option maxRecDepth 20000 in
theorem ok_X5_plan : x_ok M_X5_plan := x_ok_of lkok_X5 (by decide +kernel)
set_option maxRecDepth 20000 in
theorem k_X5_plan : x_calV M_X5_plan 1 := ⟨⟨x_mem 488 rfl rfl, x_mem 36 (by decide +kernel) rfl, by decide +kernel, by decide +kernel, by decide +kernel⟩, x_mem 486 (by decide +kernel) rfl, x_mem 487 (by decide +kernel) rfl⟩
def M_X5_drought : xM := (RX5, yX5_drought, cX5_drought, 8, (some .int), 5, lk_X5, [(0, .aload_n 0, 1), (1, .getfield 12, 3), (4, .getfield 90, 3), (7, .istore_n 1, 1), (8, .iconst 0, 1), (9, .istore_n 2, 1), (10, .iconst 0, 1), (11, .istore_n 3, 1), (12, .iconst (-1), 1), (13, .istore 4, 2), (15, .iconst 0, 1), (16, .istore 5, 2), (18, .iload 5, 2), (20, .bipush 10, 2), (22, .if_icmp .ge 86, 3), (25, .aload_n 0, 1), (26, .getfield 30, 3), (29, .iload_n 1, 1), (30, .getstatic 154, 3), (33, .invokevirtual 157, 3), (36, .istore 6, 2), (38, .iload 6, 2), (40, .ifCond .ne 6, 3), (43, .goto 65, 3), (46, .iload_n 1, 1), (47, .iload 6, 2), (49, .iconst (-1), 1), (50, .ixor, 1), (51, .iand, 1), (52, .istore_n 1, 1), (53, .aload_n 0, 1), (54, .getfield 30, 3), (57, .invokevirtual 161, 3), (60, .istore 7, 2), (62, .aload_n 0, 1), (63, .getfield 12, 3), (66, .iload_n 2, 1), (67, .iload_n 3, 1), (68, .iload 7, 2), (70, .invokevirtual 196, 3), (73, .istore 4, 2), (75, .iload 4, 2), (77, .iconst (-1), 1), (78, .if_icmp .ne 5, 3), (81, .iconst (-1), 1), (82, .ireturn, 1), (83, .iload 4, 2), (85, .iload_n 2, 1), (86, .if_icmp .ne 10, 3), (89, .iload_n 3, 1), (90, .iload 7, 2), (92, .iadd, 1), (93, .goto 5, 3), (96, .iload 7, 2), (98, .istore_n 3, 1), (99, .iload 4, 2), (101, .istore_n 2, 1), (102, .iinc 5 1, 3), (105, .goto (-87), 3), (108, .iload 4, 2), (110, .ireturn, 1)])
set_option maxRecDepth 20000 in
theorem ok_X5_drought : x_ok M_X5_drought := x_ok_of lkok_X5 (by decide +kernel)
set_option maxRecDepth 20000 in
theorem k_X5_drought : x_calV M_X5_drought 0 := ⟨⟨x_mem 492 rfl rfl, x_mem 36 (by decide +kernel) rfl, by decide +kernel, by decide +kernel, by decide +kernel⟩, x_mem 490 (by decide +kernel) rfl, x_mem 491 (by decide +kernel) rfl⟩
def M_X5_waits : xM := (RX5, yX5_waits, cX5_waits, 2, (some .int), 6, lk_X5, [(0, .aload_n 0, 1), (1, .getfield 12, 3), (4, .iload_n 1, 1), (5, .invokevirtual 119, 3), (8, .ifCond .ne 6, 3), (11, .bipush (-2), 2), (13, .ireturn, 1), (14, .aload_n 0, 1), (15, .getfield 12, 3), (18, .iload_n 1, 1), (19, .invokevirtual 122, 3), (22, .ifCond .ne 6, 3), (25, .bipush (-3), 2), (27, .ireturn, 1), (28, .aload_n 0, 1), (29, .getfield 39, 3), (32, .invokevirtual 200, 3), (35, .aload_n 0, 1), (36, .getfield 39, 3), (39, .iload_n 1, 1), (40, .invokevirtual 203, 3), (43, .ireturn, 1)])
set_option maxRecDepth 20000 in
theorem ok_X5_waits : x_ok M_X5_waits := x_ok_of lkok_X5 (by decide +kernel)
set_option maxRecDepth 20000 in
theorem k_X5_waits : x_calV M_X5_waits 1 := ⟨⟨x_mem 505 rfl rfl, x_mem 36 (by decide +kernel) rfl, by decide +kernel, by decide +kernel, by decide +kernel⟩, x_mem 503 (by decide +kernel) rfl, x_mem 504 (by decide +kernel) rfl⟩
def M_X5_line : xM := (RX5, yX5_line, cX5_line, 2, (some .int), 6, lk_X5, [(0, .iload_n 1, 1), (1, .ifCond .ge 6, 3), (4, .bipush (-2), 2), (6, .ireturn, 1), (7, .aload_n 0, 1), (8, .getfield 39, 3), (11, .invokevirtual 200, 3), (14, .aload_n 0, 1), (15, .getfield 39, 3), (18, .iload_n 1, 1), (19, .invokevirtual 206, 3), (22, .ireturn, 1)])
set_option maxRecDepth 20000 in
theorem ok_X5_line : x_ok M_X5_line := x_ok_of lkok_X5 (by decide +kernel)
set_option maxRecDepth 20000 in
theorem k_X5_line : x_calV M_X5_line 1 := ⟨⟨x_mem 535 rfl rfl, x_mem 36 (by decide +kernel) rfl, by decide +kernel, by decide +kernel, by decide +kernel⟩, x_mem 533 (by decide +kernel) rfl, x_mem 534 (by decide +kernel) rfl⟩
def M_X5_day : xM := (RX5, yX5_day, cX5_day, 2, (some .int), 6, lk_X5, [(0, .iload_n 1, 1), (1, .ifCond .lt 8, 3), (4, .iload_n 1, 1), (5, .iconst 2, 1), (6, .if_icmp .le 6, 3), (9, .bipush (-2), 2), (11, .ireturn, 1), (12, .aload_n 0, 1), (13, .getfield 39, 3), (16, .invokevirtual 200, 3), (19, .iload_n 1, 1), (20, .ifCond .ne 13, 3), (23, .aload_n 0, 1), (24, .getfield 39, 3), (27, .invokevirtual 209, 3), (30, .goto 25, 3), (33, .iload_n 1, 1), (34, .iconst 1, 1), (35, .if_icmp .ne 13, 3), (38, .aload_n 0, 1), (39, .getfield 39, 3), (42, .getfield 212, 3), (45, .goto 10, 3), (48, .aload_n 0, 1), (49, .getfield 39, 3), (52, .getfield 213, 3), (55, .ireturn, 1)])
set_option maxRecDepth 20000 in
theorem ok_X5_day : x_ok M_X5_day := x_ok_of lkok_X5 (by decide +kernel)
set_option maxRecDepth 20000 in
theorem k_X5_day : x_calV M_X5_day 1 := ⟨⟨x_mem 547 rfl rfl, x_mem 36 (by decide +kernel) rfl, by decide +kernel, by decide +kernel, by decide +kernel⟩, x_mem 545 (by decide +kernel) rfl, x_mem 546 (by decide +kernel) rfl⟩
def M_X5_freely : xM := (RX5, yX5_freely, cX5_freely, 2, (some .int), 5, lk_X5, [(0, .iload_n 1, 1), (1, .ifCond .lt 8, 3), (4, .iload_n 1, 1), (5, .iconst 3, 1), (6, .if_icmp .le 6, 3), (9, .bipush (-2), 2), (11, .ireturn, 1), (12, .aload_n 0, 1), (13, .getfield 46, 3), (16, .invokevirtual 216, 3), (19, .iload_n 1, 1), (20, .tableswitch 52 0 2 #[28, 36, 44], 28), (48, .aload_n 0, 1), (49, .getfield 46, 3), (52, .getfield 217, 3), (55, .ireturn, 1), (56, .aload_n 0, 1), (57, .getfield 46, 3), (60, .getfield 220, 3), (63, .ireturn, 1), (64, .aload_n 0, 1), (65, .getfield 46, 3), (68, .getfield 223, 3), (71, .ireturn, 1), (72, .aload_n 0, 1), (73, .getfield 46, 3), (76, .getfield 226, 3), (79, .ireturn, 1)])
set_option maxRecDepth 20000 in
theorem ok_X5_freely : x_ok M_X5_freely := x_ok_of lkok_X5 (by decide +kernel)
set_option maxRecDepth 20000 in
theorem k_X5_freely : x_calV M_X5_freely 1 := ⟨⟨x_mem 556 rfl rfl, x_mem 36 (by decide +kernel) rfl, by decide +kernel, by decide +kernel, by decide +kernel⟩, x_mem 554 (by decide +kernel) rfl, x_mem 555 (by decide +kernel) rfl⟩
def M_X5_tells : xM := (RX5, yX5_tells, cX5_tells, 6, (some .int), 7, lk_X5, [(0, .iload_n 1, 1), (1, .invokestatic 229, 3), (4, .ifCond .eq 12, 3), (7, .iload_n 3, 1), (8, .ifCond .lt 8, 3), (11, .iload_n 3, 1), (12, .iconst 3, 1), (13, .if_icmp .le 6, 3), (16, .bipush (-2), 2), (18, .ireturn, 1), (19, .iload_n 3, 1), (20, .iconst 2, 1), (21, .if_icmp .lt 7, 3), (24, .iconst 1, 1), (25, .goto 4, 3), (28, .iconst 0, 1), (29, .istore 4, 2), (31, .iload 4, 2), (33, .ifCond .eq 17, 3), (36, .aload_n 0, 1), (37, .getfield 12, 3), (40, .iload_n 2, 1), (41, .invokevirtual 119, 3), (44, .ifCond .ne 6, 3), (47, .bipush (-2), 2), (49, .ireturn, 1), (50, .iload 4, 2), (52, .ifCond .eq 17, 3), (55, .aload_n 0, 1), (56, .getfield 12, 3), (59, .iload_n 2, 1), (60, .invokevirtual 122, 3), (63, .ifCond .ne 6, 3), (66, .bipush (-3), 2), (68, .ireturn, 1), (69, .aload_n 0, 1), (70, .getfield 52, 3), (73, .iload_n 1, 1), (74, .aaload, 1), (75, .astore 5, 2), (77, .aload 5, 2), (79, .invokevirtual 232, 3), (82, .ifCond .eq 6, 3), (85, .bipush (-11), 2), (87, .ireturn, 1), (88, .aload 5, 2), (90, .getfield 236, 3), (93, .bipush 8, 2), (95, .if_icmp .le 6, 3), (98, .bipush (-2), 2), (100, .ireturn, 1), (101, .iload_n 3, 1), (102, .tableswitch 67 0 2 #[26, 33, 50], 26), (128, .aload_n 0, 1), (129, .aload 5, 2), (131, .invokevirtual 237, 3), (134, .ireturn, 1), (135, .aload_n 0, 1), (136, .aload 5, 2), (138, .aload_n 0, 1), (139, .getfield 12, 3), (142, .getfield 105, 3), (145, .iconst 4, 1), (146, .iconst 0, 1), (147, .iconst 4, 1), (148, .invokevirtual 241, 3), (151, .ireturn, 1), (152, .aload_n 0, 1), (153, .aload 5, 2), (155, .aload_n 0, 1), (156, .getfield 12, 3), (159, .getfield 69, 3), (162, .iload_n 2, 1), (163, .iconst 0, 1), (164, .iconst 5, 1), (165, .invokevirtual 241, 3), (168, .ireturn, 1), (169, .aload_n 0, 1), (170, .aload 5, 2), (172, .aload_n 0, 1), (173, .getfield 12, 3), (176, .getfield 72, 3), (179, .iload_n 2, 1), (180, .iconst 1, 1), (181, .bipush 9, 2), (183, .invokevirtual 241, 3), (186, .ireturn, 1)])
set_option maxRecDepth 20000 in
theorem ok_X5_tells : x_ok M_X5_tells := x_ok_of lkok_X5 (by decide +kernel)
set_option maxRecDepth 20000 in
theorem k_X5_tells : x_calV M_X5_tells 3 := ⟨⟨x_mem 587 rfl rfl, x_mem 36 (by decide +kernel) rfl, by decide +kernel, by decide +kernel, by decide +kernel⟩, x_mem 585 (by decide +kernel) rfl, x_mem 586 (by decide +kernel) rfl⟩
def M_X5_film : xM := (RX5, yX5_film, cX5_film, 6, (some .int), 5, lk_X5, [(0, .iload_n 1, 1), (1, .invokestatic 229, 3), (4, .ifCond .eq 13, 3), (7, .iload_n 2, 1), (8, .ifCond .lt 9, 3), (11, .iload_n 2, 1), (12, .bipush 8, 2), (14, .if_icmp .le 6, 3), (17, .bipush (-2), 2), (19, .ireturn, 1), (20, .aload_n 0, 1), (21, .getfield 52, 3), (24, .iload_n 1, 1), (25, .aaload, 1), (26, .iconst 0, 1), (27, .iload_n 2, 1), (28, .invokevirtual 245, 3), (31, .aload_n 0, 1), (32, .getfield 12, 3), (35, .getfield 90, 3), (38, .istore_n 3, 1), (39, .iconst 0, 1), (40, .istore 4, 2), (42, .iload 4, 2), (44, .iload_n 2, 1), (45, .if_icmp .ge 45, 3), (48, .aload_n 0, 1), (49, .getfield 30, 3), (52, .iload_n 3, 1), (53, .getstatic 154, 3), (56, .invokevirtual 157, 3), (59, .istore 5, 2), (61, .iload_n 3, 1), (62, .iload 5, 2), (64, .iconst (-1), 1), (65, .ixor, 1), (66, .iand, 1), (67, .istore_n 3, 1), (68, .aload_n 0, 1), (69, .getfield 52, 3), (72, .iload_n 1, 1), (73, .aaload, 1), (74, .iload 4, 2), (76, .iload 5, 2), (78, .invokestatic 138, 3), (81, .invokevirtual 248, 3), (84, .iinc 4 1, 3), (87, .goto (-45), 3), (90, .iload_n 2, 1), (91, .ireturn, 1)])
set_option maxRecDepth 20000 in
theorem ok_X5_film : x_ok M_X5_film := x_ok_of lkok_X5 (by decide +kernel)
set_option maxRecDepth 20000 in
theorem k_X5_film : x_calV M_X5_film 2 := ⟨⟨x_mem 606 rfl rfl, x_mem 36 (by decide +kernel) rfl, by decide +kernel, by decide +kernel, by decide +kernel⟩, x_mem 604 (by decide +kernel) rfl, x_mem 605 (by decide +kernel) rfl⟩
def M_X5_image : xM := (RX5, yX5_image, cX5_image, 1, (some .int), 2, lk_X5, [(0, .aload_n 0, 1), (1, .getfield 18, 3), (4, .aload_n 0, 1), (5, .getfield 12, 3), (8, .invokevirtual 251, 3), (11, .aload_n 0, 1), (12, .iconst 1, 1), (13, .putfield 253, 3), (16, .aload_n 0, 1), (17, .getfield 18, 3), (20, .getfield 65, 3), (23, .ireturn, 1)])
set_option maxRecDepth 20000 in
theorem ok_X5_image : x_ok M_X5_image := x_ok_of lkok_X5 (by decide +kernel)
set_option maxRecDepth 20000 in
theorem k_X5_image : x_calV M_X5_image 0 := ⟨⟨x_mem 625 rfl rfl, x_mem 36 (by decide +kernel) rfl, by decide +kernel, by decide +kernel, by decide +kernel⟩, x_mem 623 (by decide +kernel) rfl, x_mem 624 (by decide +kernel) rfl⟩
def M_X5_back : xM := (RX5, yX5_back, cX5_back, 1, (some .int), 2, lk_X5, [(0, .aload_n 0, 1), (1, .getfield 253, 3), (4, .ifCond .ne 6, 3), (7, .bipush (-3), 2), (9, .ireturn, 1), (10, .aload_n 0, 1), (11, .getfield 12, 3), (14, .aload_n 0, 1), (15, .getfield 18, 3), (18, .invokevirtual 251, 3), (21, .aload_n 0, 1), (22, .iconst 0, 1), (23, .putfield 93, 3), (26, .aload_n 0, 1), (27, .getfield 12, 3), (30, .getfield 65, 3), (33, .ireturn, 1)])
set_option maxRecDepth 20000 in
theorem ok_X5_back : x_ok M_X5_back := x_ok_of lkok_X5 (by decide +kernel)
set_option maxRecDepth 20000 in
theorem k_X5_back : x_calV M_X5_back 0 := ⟨⟨x_mem 634 rfl rfl, x_mem 36 (by decide +kernel) rfl, by decide +kernel, by decide +kernel, by decide +kernel⟩, x_mem 632 (by decide +kernel) rfl, x_mem 633 (by decide +kernel) rfl⟩
def M_X5_sheet : xM := (RX5, yX5_sheet, cX5_sheet, 4, (some .int), 2, lk_X5, [(0, .iload_n 1, 1), (1, .invokestatic 229, 3), (4, .ifCond .eq 15, 3), (7, .iload_n 2, 1), (8, .iconst (-1), 1), (9, .if_icmp .eq 13, 3), (12, .iload_n 2, 1), (13, .invokestatic 257, 3), (16, .ifCond .ne 6, 3), (19, .bipush (-2), 2), (21, .ireturn, 1), (22, .iload_n 2, 1), (23, .iconst (-1), 1), (24, .if_icmp .ne 16, 3), (27, .aload_n 0, 1), (28, .getfield 52, 3), (31, .iload_n 1, 1), (32, .aaload, 1), (33, .iconst (-1), 1), (34, .iconst 0, 1), (35, .invokevirtual 245, 3), (38, .iconst 1, 1), (39, .ireturn, 1), (40, .iload_n 3, 1), (41, .bipush 40, 2), (43, .if_icmp .le 6, 3), (46, .bipush (-2), 2), (48, .ireturn, 1), (49, .iload_n 3, 1), (50, .ifCond .ge 6, 3), (53, .bipush (-14), 2), (55, .ireturn, 1), (56, .aload_n 0, 1), (57, .getfield 52, 3), (60, .iload_n 1, 1), (61, .aaload, 1), (62, .iload_n 2, 1), (63, .iload_n 3, 1), (64, .invokevirtual 245, 3), (67, .iconst 1, 1), (68, .ireturn, 1)])
set_option maxRecDepth 20000 in
theorem ok_X5_sheet : x_ok M_X5_sheet := x_ok_of lkok_X5 (by decide +kernel)
set_option maxRecDepth 20000 in
theorem k_X5_sheet : x_calV M_X5_sheet 3 := ⟨⟨x_mem 638 rfl rfl, x_mem 36 (by decide +kernel) rfl, by decide +kernel, by decide +kernel, by decide +kernel⟩, x_mem 636 (by decide +kernel) rfl, x_mem 637 (by decide +kernel) rfl⟩
def M_X5_put : xM := (RX5, yX5_put, cX5_put, 4, (some .int), 2, lk_X5, [(0, .iload_n 1, 1), (1, .invokestatic 229, 3), (4, .ifCond .ne 6, 3), (7, .bipush (-2), 2), (9, .ireturn, 1), (10, .aload_n 0, 1), (11, .getfield 52, 3), (14, .iload_n 1, 1), (15, .aaload, 1), (16, .invokevirtual 232, 3), (19, .ifCond .eq 6, 3), (22, .bipush (-11), 2), (24, .ireturn, 1), (25, .aload_n 0, 1), (26, .getfield 52, 3), (29, .iload_n 1, 1), (30, .aaload, 1), (31, .iload_n 2, 1), (32, .invokevirtual 260, 3), (35, .ifCond .ne 6, 3), (38, .bipush (-12), 2), (40, .ireturn, 1), (41, .aload_n 0, 1), (42, .getfield 52, 3), (45, .iload_n 1, 1), (46, .aaload, 1), (47, .iload_n 2, 1), (48, .iload_n 3, 1), (49, .invokevirtual 248, 3), (52, .iconst 1, 1), (53, .ireturn, 1)])
set_option maxRecDepth 20000 in
theorem ok_X5_put : x_ok M_X5_put := x_ok_of lkok_X5 (by decide +kernel)
set_option maxRecDepth 20000 in
theorem k_X5_put : x_calV M_X5_put 3 := ⟨⟨x_mem 645 rfl rfl, x_mem 36 (by decide +kernel) rfl, by decide +kernel, by decide +kernel, by decide +kernel⟩, x_mem 643 (by decide +kernel) rfl, x_mem 644 (by decide +kernel) rfl⟩
def M_X5_copy : xM := (RX5, yX5_copy, cX5_copy, 8, (some .int), 1, lk_X5, [(0, .iload_n 1, 1), (1, .invokestatic 229, 3), (4, .ifCond .eq 10, 3), (7, .iload_n 3, 1), (8, .invokestatic 229, 3), (11, .ifCond .ne 6, 3), (14, .bipush (-2), 2), (16, .ireturn, 1), (17, .aload_n 0, 1), (18, .getfield 52, 3), (21, .iload_n 1, 1), (22, .aaload, 1), (23, .astore 6, 2), (25, .aload_n 0, 1), (26, .getfield 52, 3), (29, .iload_n 3, 1), (30, .aaload, 1), (31, .astore 7, 2), (33, .aload 6, 2), (35, .invokevirtual 232, 3), (38, .ifCond .ne 11, 3), (41, .aload 7, 2), (43, .invokevirtual 232, 3), (46, .ifCond .eq 6, 3), (49, .bipush (-11), 2), (51, .ireturn, 1), (52, .aload 6, 2), (54, .getfield 263, 3), (57, .aload 7, 2), (59, .getfield 263, 3), (62, .if_icmp .eq 6, 3), (65, .bipush (-13), 2), (67, .ireturn, 1), (68, .aload 6, 2), (70, .iload_n 2, 1), (71, .iload 5, 2), (73, .invokevirtual 266, 3), (76, .ifCond .eq 15, 3), (79, .aload 7, 2), (81, .iload 4, 2), (83, .iload 5, 2), (85, .invokevirtual 266, 3), (88, .ifCond .ne 6, 3), (91, .bipush (-12), 2), (93, .ireturn, 1), (94, .aload 6, 2), (96, .getfield 269, 3), (99, .iload_n 2, 1), (100, .aload 7, 2), (102, .getfield 269, 3), (105, .iload 4, 2), (107, .iload 5, 2), (109, .invokestatic 272, 3), (112, .iload 5, 2), (114, .ireturn, 1)])
set_option maxRecDepth 20000 in
theorem ok_X5_copy : x_ok M_X5_copy := x_ok_of lkok_X5 (by decide +kernel)
set_option maxRecDepth 20000 in
theorem k_X5_copy : x_calV M_X5_copy 5 := ⟨⟨x_mem 650 rfl rfl, x_mem 36 (by decide +kernel) rfl, by decide +kernel, by decide +kernel, by decide +kernel⟩, x_mem 648 (by decide +kernel) rfl, x_mem 649 (by decide +kernel) rfl⟩
def M_X5_load : xM := (RX5, yX5_load, cX5_load, 11, (some .int), 2, lk_X5, [(0, .iload_n 1, 1), (1, .invokestatic 229, 3), (4, .ifCond .eq 22, 3), (7, .iload_n 2, 1), (8, .invokestatic 257, 3), (11, .ifCond .eq 15, 3), (14, .iload 4, 2), (16, .ifCond .lt 10, 3), (19, .iload 4, 2), (21, .bipush 10, 2), (23, .if_icmp .le 6, 3), (26, .bipush (-2), 2), (28, .ireturn, 1), (29, .aload_n 0, 1), (30, .getfield 52, 3), (33, .iload_n 1, 1), (34, .aaload, 1), (35, .astore 5, 2), (37, .aload 5, 2), (39, .invokevirtual 232, 3), (42, .ifCond .ne 15, 3), (45, .aload 5, 2), (47, .getfield 263, 3), (50, .iload_n 2, 1), (51, .if_icmp .eq 6, 3), (54, .bipush (-13), 2), (56, .ireturn, 1), (57, .aload 5, 2), (59, .invokevirtual 232, 3), (62, .ifCond .eq 6, 3), (65, .bipush (-11), 2), (67, .ireturn, 1), (68, .iconst 0, 1), (69, .istore 6, 2), (71, .iconst 0, 1), (72, .istore 7, 2), (74, .iload 7, 2), (76, .iload 4, 2), (78, .if_icmp .ge 92, 3), (81, .iload_n 3, 1), (82, .iconst 5, 1), (83, .iload 7, 2), (85, .imul, 1), (86, .iadd, 1), (87, .istore 8, 2), (89, .aload 5, 2), (91, .iload 8, 2), (93, .iconst 5, 1), (94, .invokevirtual 266, 3), (97, .ifCond .ne 6, 3), (100, .bipush (-12), 2), (102, .ireturn, 1), (103, .aload 5, 2), (105, .getfield 269, 3), (108, .astore 9, 2), (110, .aload_n 0, 1), (111, .aload 9, 2), (113, .iload 8, 2), (115, .iaload, 1), (116, .aload 9, 2), (118, .iload 8, 2), (120, .iconst 1, 1), (121, .iadd, 1), (122, .iaload, 1), (123, .aload 9, 2), (125, .iload 8, 2), (127, .iconst 2, 1), (128, .iadd, 1), (129, .iaload, 1), (130, .aload 9, 2), (132, .iload 8, 2), (134, .iconst 3, 1), (135, .iadd, 1), (136, .iaload, 1), (137, .aload 9, 2), (139, .iload 8, 2), (141, .iconst 4, 1), (142, .iadd, 1), (143, .iaload, 1), (144, .invokevirtual 278, 3), (147, .istore 10, 2), (149, .iload 6, 2), (151, .iload 10, 2), (153, .ifCond .lt 7, 3), (156, .iconst 1, 1), (157, .goto 4, 3), (160, .iconst 0, 1), (161, .iadd, 1), (162, .istore 6, 2), (164, .iinc 7 1, 3), (167, .goto (-93), 3), (170, .iload 6, 2), (172, .ireturn, 1)])
set_option maxRecDepth 20000 in
theorem ok_X5_load : x_ok M_X5_load := x_ok_of lkok_X5 (by decide +kernel)
set_option maxRecDepth 20000 in
theorem k_X5_load : x_calV M_X5_load 4 := ⟨⟨x_mem 658 rfl rfl, x_mem 36 (by decide +kernel) rfl, by decide +kernel, by decide +kernel, by decide +kernel⟩, x_mem 656 (by decide +kernel) rfl, x_mem 657 (by decide +kernel) rfl⟩
def M_X5_isLane : xM := (RX5, yX5_isLane, cX5_isLane, 1, (some .boolean), 0, lk_X5, [(0, .iload_n 0, 1), (1, .ifCond .lt 12, 3), (4, .iload_n 0, 1), (5, .iconst 2, 1), (6, .if_icmp .ge 7, 3), (9, .iconst 1, 1), (10, .goto 4, 3), (13, .iconst 0, 1), (14, .ireturn, 1)])
set_option maxRecDepth 20000 in
theorem ok_X5_isLane : x_ok M_X5_isLane := x_ok_of lkok_X5 (by decide +kernel)
set_option maxRecDepth 20000 in
theorem k_X5_isLane : x_calS M_X5_isLane 1 := ⟨⟨x_mem 302 rfl rfl, x_mem 36 (by decide +kernel) rfl, by decide +kernel, by decide +kernel, by decide +kernel⟩, x_mem 301 (by decide +kernel) rfl⟩
def M_X5_isKind : xM := (RX5, yX5_isKind, cX5_isKind, 1, (some .boolean), 0, lk_X5, [(0, .iload_n 0, 1), (1, .ifCond .lt 12, 3), (4, .iload_n 0, 1), (5, .iconst 5, 1), (6, .if_icmp .gt 7, 3), (9, .iconst 1, 1), (10, .goto 4, 3), (13, .iconst 0, 1), (14, .ireturn, 1)])
set_option maxRecDepth 20000 in
theorem ok_X5_isKind : x_ok M_X5_isKind := x_ok_of lkok_X5 (by decide +kernel)
set_option maxRecDepth 20000 in
theorem k_X5_isKind : x_calS M_X5_isKind 1 := ⟨⟨x_mem 305 rfl rfl, x_mem 36 (by decide +kernel) rfl, by decide +kernel, by decide +kernel, by decide +kernel⟩, x_mem 304 (by decide +kernel) rfl⟩
def M_X5_isSetting : xM := (RX5, yX5_isSetting, cX5_isSetting, 1, (some .boolean), 0, lk_X5, [(0, .iload_n 0, 1), (1, .ifCond .lt 12, 3), (4, .iload_n 0, 1), (5, .iconst 4, 1), (6, .if_icmp .gt 7, 3), (9, .iconst 1, 1), (10, .goto 4, 3), (13, .iconst 0, 1), (14, .ireturn, 1)])
set_option maxRecDepth 20000 in
theorem ok_X5_isSetting : x_ok M_X5_isSetting := x_ok_of lkok_X5 (by decide +kernel)
set_option maxRecDepth 20000 in
theorem k_X5_isSetting : x_calS M_X5_isSetting 1 := ⟨⟨x_mem 313 rfl rfl, x_mem 36 (by decide +kernel) rfl, by decide +kernel, by decide +kernel, by decide +kernel⟩, x_mem 312 (by decide +kernel) rfl⟩
def M_X5_isSheet : xM := (RX5, yX5_isSheet, cX5_isSheet, 1, (some .boolean), 0, lk_X5, [(0, .iload_n 0, 1), (1, .ifCond .lt 12, 3), (4, .iload_n 0, 1), (5, .iconst 4, 1), (6, .if_icmp .ge 7, 3), (9, .iconst 1, 1), (10, .goto 4, 3), (13, .iconst 0, 1), (14, .ireturn, 1)])
set_option maxRecDepth 20000 in
theorem ok_X5_isSheet : x_ok M_X5_isSheet := x_ok_of lkok_X5 (by decide +kernel)
set_option maxRecDepth 20000 in
theorem k_X5_isSheet : x_calS M_X5_isSheet 1 := ⟨⟨x_mem 590 rfl rfl, x_mem 36 (by decide +kernel) rfl, by decide +kernel, by decide +kernel, by decide +kernel⟩, x_mem 589 (by decide +kernel) rfl⟩
def M_X5_isSort : xM := (RX5, yX5_isSort, cX5_isSort, 1, (some .boolean), 0, lk_X5, [(0, .iload_n 0, 1), (1, .ifCond .eq 8, 3), (4, .iload_n 0, 1), (5, .iconst 1, 1), (6, .if_icmp .ne 7, 3), (9, .iconst 1, 1), (10, .goto 4, 3), (13, .iconst 0, 1), (14, .ireturn, 1)])
set_option maxRecDepth 20000 in
theorem ok_X5_isSort : x_ok M_X5_isSort := x_ok_of lkok_X5 (by decide +kernel)
set_option maxRecDepth 20000 in
theorem k_X5_isSort : x_calS M_X5_isSort 1 := ⟨⟨x_mem 641 rfl rfl, x_mem 36 (by decide +kernel) rfl, by decide +kernel, by decide +kernel, by decide +kernel⟩, x_mem 640 (by decide +kernel) rfl⟩
def M_X5_isUnder : xM := (RX5, yX5_isUnder, cX5_isUnder, 4, (some .boolean), 1, lk_X5, [(0, .iload_n 0, 1), (1, .istore_n 2, 1), (2, .iconst 0, 1), (3, .istore_n 3, 1), (4, .iload_n 3, 1), (5, .getstatic 282, 3), (8, .arraylength, 1), (9, .if_icmp .ge 29, 3), (12, .iload_n 2, 1), (13, .invokestatic 61, 3), (16, .ifCond .eq 22, 3), (19, .iload_n 2, 1), (20, .iload_n 1, 1), (21, .if_icmp .ne 5, 3), (24, .iconst 1, 1), (25, .ireturn, 1), (26, .getstatic 282, 3), (29, .iload_n 2, 1), (30, .iaload, 1), (31, .istore_n 2, 1), (32, .iinc 3 1, 3), (35, .goto (-31), 3), (38, .iconst 0, 1), (39, .ireturn, 1)])
set_option maxRecDepth 20000 in
theorem ok_X5_isUnder : x_ok M_X5_isUnder := x_ok_of lkok_X5 (by decide +kernel)
set_option maxRecDepth 20000 in
theorem k_X5_isUnder : x_calS M_X5_isUnder 2 := ⟨⟨x_mem 396 rfl rfl, x_mem 36 (by decide +kernel) rfl, by decide +kernel, by decide +kernel, by decide +kernel⟩, x_mem 395 (by decide +kernel) rfl⟩
def M_X5_remember : xM := (RX5, yX5_remember, cX5_remember, 2, none, 1, lk_X5, [(0, .aload_n 0, 1), (1, .getfield 93, 3), (4, .bipush 6, 2), (6, .if_icmp .lt 22, 3), (9, .aload_n 0, 1), (10, .getfield 21, 3), (13, .iconst 1, 1), (14, .aload_n 0, 1), (15, .getfield 21, 3), (18, .iconst 0, 1), (19, .iconst 5, 1), (20, .invokestatic 272, 3), (23, .aload_n 0, 1), (24, .iconst 5, 1), (25, .putfield 93, 3), (28, .aload_n 0, 1), (29, .getfield 21, 3), (32, .aload_n 0, 1), (33, .getfield 93, 3), (36, .iload_n 1, 1), (37, .iastore, 1), (38, .aload_n 0, 1), (39, .dup, 1), (40, .getfield 93, 3), (43, .iconst 1, 1), (44, .iadd, 1), (45, .putfield 93, 3), (48, .return_, 1)])
set_option maxRecDepth 20000 in
theorem ok_X5_remember : x_ok M_X5_remember := x_ok_of lkok_X5 (by decide +kernel)
set_option maxRecDepth 20000 in
theorem k_X5_remember : x_calV M_X5_remember 1 := ⟨⟨x_mem 454 rfl rfl, x_mem 36 (by decide +kernel) rfl, by decide +kernel, by decide +kernel, by decide +kernel⟩, x_mem 453 (by decide +kernel) rfl, x_mem 4 (by decide +kernel) rfl⟩
def M_X5_firstOtherwise : xM := (RX5, yX5_firstOtherwise, cX5_firstOtherwise, 5, (some .int), 5, lk_X5, [(0, .aload_n 0, 1), (1, .getfield 12, 3), (4, .getfield 90, 3), (7, .istore_n 2, 1), (8, .iconst 0, 1), (9, .istore_n 3, 1), (10, .iload_n 3, 1), (11, .aload_n 1, 1), (12, .getfield 236, 3), (15, .if_icmp .ge 51, 3), (18, .iload_n 3, 1), (19, .bipush 8, 2), (21, .if_icmp .ge 45, 3), (24, .aload_n 0, 1), (25, .getfield 30, 3), (28, .iload_n 2, 1), (29, .getstatic 154, 3), (32, .invokevirtual 157, 3), (35, .istore 4, 2), (37, .iload_n 2, 1), (38, .iload 4, 2), (40, .iconst (-1), 1), (41, .ixor, 1), (42, .iand, 1), (43, .istore_n 2, 1), (44, .aload_n 1, 1), (45, .getfield 269, 3), (48, .iload_n 3, 1), (49, .iaload, 1), (50, .iload 4, 2), (52, .invokestatic 138, 3), (55, .if_icmp .eq 5, 3), (58, .iload_n 3, 1), (59, .ireturn, 1), (60, .iinc 3 1, 3), (63, .goto (-53), 3), (66, .iconst (-1), 1), (67, .ireturn, 1)])
set_option maxRecDepth 20000 in
theorem ok_X5_firstOtherwise : x_ok M_X5_firstOtherwise := x_ok_of lkok_X5 (by decide +kernel)
set_option maxRecDepth 20000 in
theorem k_X5_firstOtherwise : x_calV M_X5_firstOtherwise 1 := ⟨⟨x_mem 598 rfl rfl, x_mem 36 (by decide +kernel) rfl, by decide +kernel, by decide +kernel, by decide +kernel⟩, x_mem 597 (by decide +kernel) rfl, x_mem 12 (by decide +kernel) rfl⟩
def M_X5_tried : xM := (RX5, yX5_tried, cX5_tried, 9, (some .int), 6, lk_X5, [(0, .iload_n 3, 1), (1, .ifCond .lt 9, 3), (4, .iload_n 3, 1), (5, .aload_n 2, 1), (6, .arraylength, 1), (7, .if_icmp .lt 5, 3), (10, .iconst 0, 1), (11, .ireturn, 1), (12, .aload_n 2, 1), (13, .iload_n 3, 1), (14, .iaload, 1), (15, .istore 6, 2), (17, .iconst 0, 1), (18, .istore 7, 2), (20, .iload 4, 2), (22, .istore 8, 2), (24, .iload 8, 2), (26, .iload 5, 2), (28, .if_icmp .gt 32, 3), (31, .aload_n 2, 1), (32, .iload_n 3, 1), (33, .iload 8, 2), (35, .iastore, 1), (36, .aload_n 0, 1), (37, .aload_n 1, 1), (38, .invokevirtual 237, 3), (41, .iconst (-1), 1), (42, .if_icmp .ne 12, 3), (45, .iload 7, 2), (47, .iconst 1, 1), (48, .iload 8, 2), (50, .ishl, 1), (51, .ior, 1), (52, .istore 7, 2), (54, .iinc 8 1, 3), (57, .goto (-33), 3), (60, .aload_n 2, 1), (61, .iload_n 3, 1), (62, .iload 6, 2), (64, .iastore, 1), (65, .iload 7, 2), (67, .ireturn, 1)])
set_option maxRecDepth 20000 in
theorem ok_X5_tried : x_ok M_X5_tried := x_ok_of lkok_X5 (by decide +kernel)
set_option maxRecDepth 20000 in
theorem k_X5_tried : x_calV M_X5_tried 5 := ⟨⟨x_mem 602 rfl rfl, x_mem 36 (by decide +kernel) rfl, by decide +kernel, by decide +kernel, by decide +kernel⟩, x_mem 601 (by decide +kernel) rfl, x_mem 13 (by decide +kernel) rfl⟩
def M_X6_within : xM := (RX6, yX6_within, cX6_within, 3, (some .boolean), 0, lk_X6, [(0, .iload_n 0, 1), (1, .iload_n 1, 1), (2, .if_icmp .lt 12, 3), (5, .iload_n 0, 1), (6, .iload_n 2, 1), (7, .if_icmp .gt 7, 3), (10, .iconst 1, 1), (11, .goto 4, 3), (14, .iconst 0, 1), (15, .ireturn, 1)])
set_option maxRecDepth 20000 in
theorem ok_X6_within : x_ok M_X6_within := x_ok_of lkok_X6 (by decide +kernel)
set_option maxRecDepth 20000 in
theorem k_X6_within : x_calS M_X6_within 3 := ⟨⟨x_mem 794 rfl rfl, x_mem 43 (by decide +kernel) rfl, by decide +kernel, by decide +kernel, by decide +kernel⟩, x_mem 793 (by decide +kernel) rfl⟩
def M_X6_isShip : xM := (RX6, yX6_isShip, cX6_isShip, 2, (some .boolean), 1, lk_X6, [(0, .iload_n 1, 1), (1, .iconst 0, 1), (2, .aload_n 0, 1), (3, .getfield 106, 3), (6, .iconst 1, 1), (7, .isub, 1), (8, .invokestatic 110, 3), (11, .ireturn, 1)])
set_option maxRecDepth 20000 in
theorem ok_X6_isShip : x_ok M_X6_isShip := x_ok_of lkok_X6 (by decide +kernel)
set_option maxRecDepth 20000 in
theorem k_X6_isShip : x_calV M_X6_isShip 1 := ⟨⟨x_mem 825 rfl rfl, x_mem 43 (by decide +kernel) rfl, by decide +kernel, by decide +kernel, by decide +kernel⟩, x_mem 824 (by decide +kernel) rfl, x_mem 16 (by decide +kernel) rfl⟩
def M_X6_comesTo : xM := (RX6, yX6_comesTo, cX6_comesTo, 6, (some .int), 1, lk_X6, [(0, .iload_n 1, 1), (1, .iconst 0, 1), (2, .iconst 1, 1), (3, .invokestatic 110, 3), (6, .ifCond .eq 44, 3), (9, .iload_n 2, 1), (10, .iconst 0, 1), (11, .iconst 5, 1), (12, .invokestatic 110, 3), (15, .ifCond .eq 35, 3), (18, .iload_n 3, 1), (19, .iconst 1, 1), (20, .bipush 9, 2), (22, .invokestatic 110, 3), (25, .ifCond .eq 25, 3), (28, .iload 4, 2), (30, .iconst 0, 1), (31, .bipush 9, 2), (33, .invokestatic 110, 3), (36, .ifCond .eq 14, 3), (39, .iload 5, 2), (41, .iconst 0, 1), (42, .ldc 114, 2), (44, .invokestatic 110, 3), (47, .ifCond .ne 6, 3), (50, .bipush (-2), 2), (52, .ireturn, 1), (53, .aload_n 0, 1), (54, .getfield 106, 3), (57, .bipush 10, 2), (59, .if_icmp .ne 6, 3), (62, .bipush (-4), 2), (64, .ireturn, 1), (65, .aload_n 0, 1), (66, .getfield 9, 3), (69, .aload_n 0, 1), (70, .getfield 106, 3), (73, .iload_n 2, 1), (74, .iastore, 1), (75, .aload_n 0, 1), (76, .getfield 15, 3), (79, .aload_n 0, 1), (80, .getfield 106, 3), (83, .iload_n 3, 1), (84, .iastore, 1), (85, .aload_n 0, 1), (86, .getfield 18, 3), (89, .aload_n 0, 1), (90, .getfield 106, 3), (93, .iload 4, 2), (95, .iastore, 1), (96, .aload_n 0, 1), (97, .getfield 21, 3), (100, .aload_n 0, 1), (101, .getfield 106, 3), (104, .iload 5, 2), (106, .sipush 1000, 3), (109, .idiv, 1), (110, .iastore, 1), (111, .aload_n 0, 1), (112, .getfield 24, 3), (115, .aload_n 0, 1), (116, .getfield 106, 3), (119, .iload 5, 2), (121, .sipush 1000, 3), (124, .irem, 1), (125, .iastore, 1), (126, .aload_n 0, 1), (127, .getfield 27, 3), (130, .aload_n 0, 1), (131, .getfield 106, 3), (134, .iload_n 1, 1), (135, .iastore, 1), (136, .aload_n 0, 1), (137, .getfield 30, 3), (140, .aload_n 0, 1), (141, .getfield 106, 3), (144, .iconst 0, 1), (145, .iastore, 1), (146, .aload_n 0, 1), (147, .getfield 33, 3), (150, .aload_n 0, 1), (151, .getfield 106, 3), (154, .iconst (-1), 1), (155, .iastore, 1), (156, .aload_n 0, 1), (157, .getfield 36, 3), (160, .bipush 10, 2), (162, .iload_n 1, 1), (163, .imul, 1), (164, .aload_n 0, 1), (165, .getfield 39, 3), (168, .iload_n 1, 1), (169, .iaload, 1), (170, .iadd, 1), (171, .aload_n 0, 1), (172, .getfield 106, 3), (175, .iastore, 1), (176, .aload_n 0, 1), (177, .getfield 39, 3), (180, .iload_n 1, 1), (181, .dup2, 1), (182, .iaload, 1), (183, .iconst 1, 1), (184, .iadd, 1), (185, .iastore, 1), (186, .aload_n 0, 1), (187, .iconst 0, 1), (188, .putfield 115, 3), (191, .aload_n 0, 1), (192, .dup, 1), (193, .getfield 106, 3), (196, .dup_x1, 1), (197, .iconst 1, 1), (198, .iadd, 1), (199, .putfield 106, 3), (202, .ireturn, 1)])
set_option maxRecDepth 20000 in
theorem ok_X6_comesTo : x_ok M_X6_comesTo := x_ok_of lkok_X6 (by decide +kernel)
set_option maxRecDepth 20000 in
theorem k_X6_comesTo : x_calV M_X6_comesTo 5 := ⟨⟨x_mem 791 rfl rfl, x_mem 43 (by decide +kernel) rfl, by decide +kernel, by decide +kernel, by decide +kernel⟩, x_mem 790 (by decide +kernel) rfl, x_mem 14 (by decide +kernel) rfl⟩
def M_X6_ship : xM := (RX6, yX6_ship, cX6_ship, 6, (some .int), 2, lk_X6, [(0, .aload_n 0, 1), (1, .iload_n 1, 1), (2, .iload_n 2, 1), (3, .iload_n 3, 1), (4, .iload 4, 2), (6, .iload 5, 2), (8, .invokevirtual 118, 3), (11, .ireturn, 1)])
set_option maxRecDepth 20000 in
theorem ok_X6_ship : x_ok M_X6_ship := x_ok_of lkok_X6 (by decide +kernel)
set_option maxRecDepth 20000 in
theorem k_X6_ship : x_calV M_X6_ship 5 := ⟨⟨x_mem 787 rfl rfl, x_mem 43 (by decide +kernel) rfl, by decide +kernel, by decide +kernel, by decide +kernel⟩, x_mem 785 (by decide +kernel) rfl, x_mem 786 (by decide +kernel) rfl⟩
def M_X6_set : xM := (RX6, yX6_set, cX6_set, 5, (some .int), 1, lk_X6, [(0, .iload_n 1, 1), (1, .iconst 0, 1), (2, .iconst 4, 1), (3, .invokestatic 110, 3), (6, .ifCond .ne 6, 3), (9, .bipush (-2), 2), (11, .ireturn, 1), (12, .iload_n 1, 1), (13, .ifCond .ne 8, 3), (16, .bipush 20, 2), (18, .goto 33, 3), (21, .iload_n 1, 1), (22, .iconst 1, 1), (23, .if_icmp .ne 7, 3), (26, .iconst 3, 1), (27, .goto 24, 3), (30, .iload_n 1, 1), (31, .iconst 2, 1), (32, .if_icmp .ne 8, 3), (35, .bipush 99, 2), (37, .goto 14, 3), (40, .iload_n 1, 1), (41, .iconst 3, 1), (42, .if_icmp .ne 8, 3), (45, .bipush 60, 2), (47, .goto 4, 3), (50, .iconst 4, 1), (51, .istore_n 3, 1), (52, .iload_n 2, 1), (53, .iload_n 1, 1), (54, .iconst 4, 1), (55, .if_icmp .ne 7, 3), (58, .iconst 0, 1), (59, .goto 4, 3), (62, .iconst 1, 1), (63, .iload_n 3, 1), (64, .invokestatic 110, 3), (67, .ifCond .ne 6, 3), (70, .bipush (-2), 2), (72, .ireturn, 1), (73, .aload_n 0, 1), (74, .getfield 42, 3), (77, .iload_n 1, 1), (78, .iaload, 1), (79, .istore 4, 2), (81, .aload_n 0, 1), (82, .getfield 42, 3), (85, .iload_n 1, 1), (86, .iload_n 2, 1), (87, .iastore, 1), (88, .iload 4, 2), (90, .ireturn, 1)])
set_option maxRecDepth 20000 in
theorem ok_X6_set : x_ok M_X6_set := x_ok_of lkok_X6 (by decide +kernel)
set_option maxRecDepth 20000 in
theorem k_X6_set : x_calV M_X6_set 2 := ⟨⟨x_mem 799 rfl rfl, x_mem 43 (by decide +kernel) rfl, by decide +kernel, by decide +kernel, by decide +kernel⟩, x_mem 797 (by decide +kernel) rfl, x_mem 798 (by decide +kernel) rfl⟩
def M_X6_bar : xM := (RX6, yX6_bar, cX6_bar, 5, (some .int), 1, lk_X6, [(0, .iload_n 1, 1), (1, .iconst 0, 1), (2, .iconst 2, 1), (3, .invokestatic 110, 3), (6, .ifCond .eq 13, 3), (9, .iload_n 2, 1), (10, .iconst 0, 1), (11, .bipush 19, 2), (13, .invokestatic 110, 3), (16, .ifCond .ne 6, 3), (19, .bipush (-2), 2), (21, .ireturn, 1), (22, .aload_n 0, 1), (23, .getfield 45, 3), (26, .bipush 20, 2), (28, .iload_n 1, 1), (29, .imul, 1), (30, .iload_n 2, 1), (31, .iadd, 1), (32, .baload, 1), (33, .ifCond .eq 7, 3), (36, .iconst 1, 1), (37, .goto 4, 3), (40, .iconst 0, 1), (41, .istore 4, 2), (43, .aload_n 0, 1), (44, .getfield 45, 3), (47, .bipush 20, 2), (49, .iload_n 1, 1), (50, .imul, 1), (51, .iload_n 2, 1), (52, .iadd, 1), (53, .iload_n 3, 1), (54, .bastore, 1), (55, .iload 4, 2), (57, .ireturn, 1)])
set_option maxRecDepth 20000 in
theorem ok_X6_bar : x_ok M_X6_bar := x_ok_of lkok_X6 (by decide +kernel)
set_option maxRecDepth 20000 in
theorem k_X6_bar : x_calV M_X6_bar 3 := ⟨⟨x_mem 803 rfl rfl, x_mem 43 (by decide +kernel) rfl, by decide +kernel, by decide +kernel, by decide +kernel⟩, x_mem 801 (by decide +kernel) rfl, x_mem 802 (by decide +kernel) rfl⟩
def M_X6_cap : xM := (RX6, yX6_cap, cX6_cap, 4, (some .int), 1, lk_X6, [(0, .iload_n 1, 1), (1, .iconst 0, 1), (2, .bipush 99, 2), (4, .invokestatic 110, 3), (7, .ifCond .eq 13, 3), (10, .iload_n 2, 1), (11, .iconst (-1), 1), (12, .ldc 122, 2), (14, .invokestatic 110, 3), (17, .ifCond .ne 6, 3), (20, .bipush (-2), 2), (22, .ireturn, 1), (23, .aload_n 0, 1), (24, .getfield 49, 3), (27, .iload_n 1, 1), (28, .iaload, 1), (29, .iconst 1, 1), (30, .isub, 1), (31, .istore_n 3, 1), (32, .aload_n 0, 1), (33, .getfield 49, 3), (36, .iload_n 1, 1), (37, .iload_n 2, 1), (38, .iconst 1, 1), (39, .iadd, 1), (40, .iastore, 1), (41, .iload_n 3, 1), (42, .ireturn, 1)])
set_option maxRecDepth 20000 in
theorem ok_X6_cap : x_ok M_X6_cap := x_ok_of lkok_X6 (by decide +kernel)
set_option maxRecDepth 20000 in
theorem k_X6_cap : x_calV M_X6_cap 2 := ⟨⟨x_mem 807 rfl rfl, x_mem 43 (by decide +kernel) rfl, by decide +kernel, by decide +kernel, by decide +kernel⟩, x_mem 805 (by decide +kernel) rfl, x_mem 806 (by decide +kernel) rfl⟩
def M_X6_mayOf : xM := (RX6, yX6_mayOf, cX6_mayOf, 3, (some .int), 1, lk_X6, [(0, .iload_n 1, 1), (1, .bipush 99, 2), (3, .invokestatic 123, 3), (6, .istore_n 2, 1), (7, .iload_n 2, 1), (8, .ifCond .le 18, 3), (11, .aload_n 0, 1), (12, .getfield 49, 3), (15, .iload_n 2, 1), (16, .iaload, 1), (17, .ifCond .ne 9, 3), (20, .iinc 2 (-1), 3), (23, .goto (-16), 3), (26, .aload_n 0, 1), (27, .getfield 49, 3), (30, .iload_n 2, 1), (31, .iaload, 1), (32, .iconst 1, 1), (33, .isub, 1), (34, .ireturn, 1)])
set_option maxRecDepth 20000 in
theorem ok_X6_mayOf : x_ok M_X6_mayOf := x_ok_of lkok_X6 (by decide +kernel)
set_option maxRecDepth 20000 in
theorem k_X6_mayOf : x_calV M_X6_mayOf 1 := ⟨⟨x_mem 816 rfl rfl, x_mem 43 (by decide +kernel) rfl, by decide +kernel, by decide +kernel, by decide +kernel⟩, x_mem 815 (by decide +kernel) rfl, x_mem 15 (by decide +kernel) rfl⟩
def M_X6_may : xM := (RX6, yX6_may, cX6_may, 2, (some .int), 2, lk_X6, [(0, .iload_n 1, 1), (1, .iconst 0, 1), (2, .sipush 199, 3), (5, .invokestatic 110, 3), (8, .ifCond .eq 11, 3), (11, .aload_n 0, 1), (12, .iload_n 1, 1), (13, .invokevirtual 129, 3), (16, .goto 5, 3), (19, .bipush (-2), 2), (21, .ireturn, 1)])
set_option maxRecDepth 20000 in
theorem ok_X6_may : x_ok M_X6_may := x_ok_of lkok_X6 (by decide +kernel)
set_option maxRecDepth 20000 in
theorem k_X6_may : x_calV M_X6_may 1 := ⟨⟨x_mem 812 rfl rfl, x_mem 43 (by decide +kernel) rfl, by decide +kernel, by decide +kernel, by decide +kernel⟩, x_mem 810 (by decide +kernel) rfl, x_mem 811 (by decide +kernel) rfl⟩
def M_X6_spanOf : xM := (RX6, yX6_spanOf, cX6_spanOf, 2, (some .int), 1, lk_X6, [(0, .aload_n 0, 1), (1, .getfield 9, 3), (4, .iload_n 1, 1), (5, .iaload, 1), (6, .tableswitch 67 1 5 #[34, 43, 67, 54, 34], 34), (40, .aload_n 0, 1), (41, .getfield 15, 3), (44, .iload_n 1, 1), (45, .iaload, 1), (46, .iconst 1, 1), (47, .iadd, 1), (48, .ireturn, 1), (49, .iconst 2, 1), (50, .aload_n 0, 1), (51, .getfield 15, 3), (54, .iload_n 1, 1), (55, .iaload, 1), (56, .iconst 1, 1), (57, .iadd, 1), (58, .imul, 1), (59, .ireturn, 1), (60, .iconst 1, 1), (61, .aload_n 0, 1), (62, .getfield 15, 3), (65, .iload_n 1, 1), (66, .iaload, 1), (67, .iconst 1, 1), (68, .isub, 1), (69, .invokestatic 133, 3), (72, .ireturn, 1), (73, .aload_n 0, 1), (74, .getfield 15, 3), (77, .iload_n 1, 1), (78, .iaload, 1), (79, .ireturn, 1)])
set_option maxRecDepth 20000 in
theorem ok_X6_spanOf : x_ok M_X6_spanOf := x_ok_of lkok_X6 (by decide +kernel)
set_option maxRecDepth 20000 in
theorem k_X6_spanOf : x_calV M_X6_spanOf 1 := ⟨⟨x_mem 829 rfl rfl, x_mem 43 (by decide +kernel) rfl, by decide +kernel, by decide +kernel, by decide +kernel⟩, x_mem 828 (by decide +kernel) rfl, x_mem 17 (by decide +kernel) rfl⟩
def M_X6_rankOf : xM := (RX6, yX6_rankOf, cX6_rankOf, 2, (some .int), 0, lk_X6, [(0, .aload_n 0, 1), (1, .getfield 9, 3), (4, .iload_n 1, 1), (5, .iaload, 1), (6, .iconst 3, 1), (7, .if_icmp .ne 15, 3), (10, .aload_n 0, 1), (11, .getfield 18, 3), (14, .iload_n 1, 1), (15, .iaload, 1), (16, .bipush 10, 2), (18, .iadd, 1), (19, .goto 33, 3), (22, .aload_n 0, 1), (23, .getfield 9, 3), (26, .iload_n 1, 1), (27, .iaload, 1), (28, .iconst 4, 1), (29, .if_icmp .ne 17, 3), (32, .iconst 2, 1), (33, .aload_n 0, 1), (34, .getfield 18, 3), (37, .iload_n 1, 1), (38, .iaload, 1), (39, .bipush 10, 2), (41, .iadd, 1), (42, .imul, 1), (43, .goto 9, 3), (46, .aload_n 0, 1), (47, .getfield 18, 3), (50, .iload_n 1, 1), (51, .iaload, 1), (52, .ireturn, 1)])
set_option maxRecDepth 20000 in
theorem ok_X6_rankOf : x_ok M_X6_rankOf := x_ok_of lkok_X6 (by decide +kernel)
set_option maxRecDepth 20000 in
theorem k_X6_rankOf : x_calV M_X6_rankOf 1 := ⟨⟨x_mem 834 rfl rfl, x_mem 43 (by decide +kernel) rfl, by decide +kernel, by decide +kernel, by decide +kernel⟩, x_mem 833 (by decide +kernel) rfl, x_mem 18 (by decide +kernel) rfl⟩
def M_X6_told : xM := (RX6, yX6_told, cX6_told, 3, (some .int), 2, lk_X6, [(0, .aload_n 0, 1), (1, .iload_n 1, 1), (2, .invokevirtual 136, 3), (5, .ifCond .ne 6, 3), (8, .bipush (-2), 2), (10, .ireturn, 1), (11, .iload_n 2, 1), (12, .tableswitch 124 0 9 #[56, 63, 70, 77, 84, 91, 98, 105, 111, 117], 56), (68, .aload_n 0, 1), (69, .getfield 9, 3), (72, .iload_n 1, 1), (73, .iaload, 1), (74, .ireturn, 1), (75, .aload_n 0, 1), (76, .getfield 15, 3), (79, .iload_n 1, 1), (80, .iaload, 1), (81, .ireturn, 1), (82, .aload_n 0, 1), (83, .getfield 18, 3), (86, .iload_n 1, 1), (87, .iaload, 1), (88, .ireturn, 1), (89, .aload_n 0, 1), (90, .getfield 21, 3), (93, .iload_n 1, 1), (94, .iaload, 1), (95, .ireturn, 1), (96, .aload_n 0, 1), (97, .getfield 24, 3), (100, .iload_n 1, 1), (101, .iaload, 1), (102, .ireturn, 1), (103, .aload_n 0, 1), (104, .getfield 27, 3), (107, .iload_n 1, 1), (108, .iaload, 1), (109, .ireturn, 1), (110, .aload_n 0, 1), (111, .getfield 30, 3), (114, .iload_n 1, 1), (115, .iaload, 1), (116, .ireturn, 1), (117, .aload_n 0, 1), (118, .iload_n 1, 1), (119, .invokevirtual 140, 3), (122, .ireturn, 1), (123, .aload_n 0, 1), (124, .iload_n 1, 1), (125, .invokevirtual 143, 3), (128, .ireturn, 1), (129, .aload_n 0, 1), (130, .getfield 33, 3), (133, .iload_n 1, 1), (134, .iaload, 1), (135, .ireturn, 1), (136, .bipush (-2), 2), (138, .ireturn, 1)])
set_option maxRecDepth 20000 in
theorem ok_X6_told : x_ok M_X6_told := x_ok_of lkok_X6 (by decide +kernel)
set_option maxRecDepth 20000 in
theorem k_X6_told : x_calV M_X6_told 2 := ⟨⟨x_mem 821 rfl rfl, x_mem 43 (by decide +kernel) rfl, by decide +kernel, by decide +kernel, by decide +kernel⟩, x_mem 819 (by decide +kernel) rfl, x_mem 820 (by decide +kernel) rfl⟩
def M_X6_lane : xM := (RX6, yX6_lane, cX6_lane, 3, (some .int), 1, lk_X6, [(0, .iload_n 1, 1), (1, .iconst 0, 1), (2, .iconst 1, 1), (3, .invokestatic 110, 3), (6, .ifCond .ne 6, 3), (9, .bipush (-2), 2), (11, .ireturn, 1), (12, .iload_n 2, 1), (13, .iconst 0, 1), (14, .aload_n 0, 1), (15, .getfield 39, 3), (18, .iload_n 1, 1), (19, .iaload, 1), (20, .iconst 1, 1), (21, .isub, 1), (22, .invokestatic 110, 3), (25, .ifCond .eq 17, 3), (28, .aload_n 0, 1), (29, .getfield 36, 3), (32, .bipush 10, 2), (34, .iload_n 1, 1), (35, .imul, 1), (36, .iload_n 2, 1), (37, .iadd, 1), (38, .iaload, 1), (39, .goto 4, 3), (42, .iconst (-1), 1), (43, .ireturn, 1)])
set_option maxRecDepth 20000 in
theorem ok_X6_lane : x_ok M_X6_lane := x_ok_of lkok_X6 (by decide +kernel)
set_option maxRecDepth 20000 in
theorem k_X6_lane : x_calV M_X6_lane 2 := ⟨⟨x_mem 838 rfl rfl, x_mem 43 (by decide +kernel) rfl, by decide +kernel, by decide +kernel, by decide +kernel⟩, x_mem 836 (by decide +kernel) rfl, x_mem 837 (by decide +kernel) rfl⟩
def M_X6_free : xM := (RX6, yX6_free, cX6_free, 4, (some .int), 0, lk_X6, [(0, .iconst 0, 1), (1, .istore_n 1, 1), (2, .iconst 0, 1), (3, .istore_n 2, 1), (4, .iload_n 2, 1), (5, .aload_n 0, 1), (6, .getfield 42, 3), (9, .iconst 1, 1), (10, .iaload, 1), (11, .if_icmp .ge 44, 3), (14, .iconst 0, 1), (15, .istore_n 3, 1), (16, .iload_n 3, 1), (17, .aload_n 0, 1), (18, .getfield 42, 3), (21, .iconst 0, 1), (22, .iaload, 1), (23, .if_icmp .ge 26, 3), (26, .aload_n 0, 1), (27, .getfield 45, 3), (30, .bipush 20, 2), (32, .iload_n 2, 1), (33, .imul, 1), (34, .iload_n 3, 1), (35, .iadd, 1), (36, .baload, 1), (37, .ifCond .ne 6, 3), (40, .iinc 1 1, 3), (43, .iinc 3 1, 3), (46, .goto (-30), 3), (49, .iinc 2 1, 3), (52, .goto (-48), 3), (55, .iload_n 1, 1), (56, .ireturn, 1)])
set_option maxRecDepth 20000 in
theorem ok_X6_free : x_ok M_X6_free := x_ok_of lkok_X6 (by decide +kernel)
set_option maxRecDepth 20000 in
theorem k_X6_free : x_calV M_X6_free 0 := ⟨⟨x_mem 846 rfl rfl, x_mem 43 (by decide +kernel) rfl, by decide +kernel, by decide +kernel, by decide +kernel⟩, x_mem 845 (by decide +kernel) rfl, x_mem 19 (by decide +kernel) rfl⟩
def M_X6_count : xM := (RX6, yX6_count, cX6_count, 2, (some .int), 1, lk_X6, [(0, .iload_n 1, 1), (1, .iconst 0, 1), (2, .iconst 4, 1), (3, .invokestatic 110, 3), (6, .ifCond .eq 10, 3), (9, .aload_n 0, 1), (10, .getfield 42, 3), (13, .iload_n 1, 1), (14, .iaload, 1), (15, .ireturn, 1), (16, .iload_n 1, 1), (17, .tableswitch 69 5 9 #[35, 40, 54, 59, 64], 35), (52, .aload_n 0, 1), (53, .getfield 106, 3), (56, .ireturn, 1), (57, .aload_n 0, 1), (58, .getfield 39, 3), (61, .iconst 0, 1), (62, .iaload, 1), (63, .aload_n 0, 1), (64, .getfield 39, 3), (67, .iconst 1, 1), (68, .iaload, 1), (69, .iadd, 1), (70, .ireturn, 1), (71, .aload_n 0, 1), (72, .getfield 146, 3), (75, .ireturn, 1), (76, .aload_n 0, 1), (77, .getfield 115, 3), (80, .ireturn, 1), (81, .aload_n 0, 1), (82, .invokevirtual 149, 3), (85, .ireturn, 1), (86, .bipush (-2), 2), (88, .ireturn, 1)])
set_option maxRecDepth 20000 in
theorem ok_X6_count : x_ok M_X6_count := x_ok_of lkok_X6 (by decide +kernel)
set_option maxRecDepth 20000 in
theorem k_X6_count : x_calV M_X6_count 1 := ⟨⟨x_mem 842 rfl rfl, x_mem 43 (by decide +kernel) rfl, by decide +kernel, by decide +kernel, by decide +kernel⟩, x_mem 840 (by decide +kernel) rfl, x_mem 841 (by decide +kernel) rfl⟩
def M_X6_taken : xM := (RX6, yX6_taken, cX6_taken, 5, (some .int), 2, lk_X6, [(0, .aload_n 0, 1), (1, .iload_n 1, 1), (2, .invokevirtual 136, 3), (5, .ifCond .eq 12, 3), (8, .iload_n 2, 1), (9, .iconst 0, 1), (10, .iconst 5, 1), (11, .invokestatic 110, 3), (14, .ifCond .ne 6, 3), (17, .bipush (-2), 2), (19, .ireturn, 1), (20, .aload_n 0, 1), (21, .getfield 9, 3), (24, .iload_n 1, 1), (25, .iaload, 1), (26, .istore_n 3, 1), (27, .iload_n 2, 1), (28, .ifCond .eq 33, 3), (31, .iload_n 3, 1), (32, .iload_n 2, 1), (33, .if_icmp .eq 28, 3), (36, .iload_n 2, 1), (37, .iconst 1, 1), (38, .if_icmp .ne 13, 3), (41, .iload_n 3, 1), (42, .iconst 2, 1), (43, .if_icmp .eq 18, 3), (46, .iload_n 3, 1), (47, .iconst 5, 1), (48, .if_icmp .eq 13, 3), (51, .iload_n 2, 1), (52, .iconst 3, 1), (53, .if_icmp .ne 12, 3), (56, .iload_n 3, 1), (57, .iconst 4, 1), (58, .if_icmp .ne 7, 3), (61, .iconst 1, 1), (62, .goto 4, 3), (65, .iconst 0, 1), (66, .istore 4, 2), (68, .iload 4, 2), (70, .ifCond .eq 12, 3), (73, .aload_n 0, 1), (74, .getfield 15, 3), (77, .iload_n 1, 1), (78, .iaload, 1), (79, .goto 5, 3), (82, .bipush (-13), 2), (84, .ireturn, 1)])
set_option maxRecDepth 20000 in
theorem ok_X6_taken : x_ok M_X6_taken := x_ok_of lkok_X6 (by decide +kernel)
set_option maxRecDepth 20000 in
theorem k_X6_taken : x_calV M_X6_taken 2 := ⟨⟨x_mem 850 rfl rfl, x_mem 43 (by decide +kernel) rfl, by decide +kernel, by decide +kernel, by decide +kernel⟩, x_mem 848 (by decide +kernel) rfl, x_mem 849 (by decide +kernel) rfl⟩
def M_X6_all : xM := (RX6, yX6_all, cX6_all, 2, none, 0, lk_X6, [(0, .iconst 0, 1), (1, .istore_n 1, 1), (2, .iload_n 1, 1), (3, .bipush 20, 2), (5, .if_icmp .ge 21, 3), (8, .aload_n 0, 1), (9, .getfield 61, 3), (12, .iload_n 1, 1), (13, .aload_n 0, 1), (14, .getfield 36, 3), (17, .iload_n 1, 1), (18, .iaload, 1), (19, .iastore, 1), (20, .iinc 1 1, 3), (23, .goto (-21), 3), (26, .aload_n 0, 1), (27, .getfield 64, 3), (30, .iconst 0, 1), (31, .aload_n 0, 1), (32, .getfield 39, 3), (35, .iconst 0, 1), (36, .iaload, 1), (37, .iastore, 1), (38, .aload_n 0, 1), (39, .getfield 64, 3), (42, .iconst 1, 1), (43, .aload_n 0, 1), (44, .getfield 39, 3), (47, .iconst 1, 1), (48, .iaload, 1), (49, .iastore, 1), (50, .return_, 1)])
set_option maxRecDepth 20000 in
theorem ok_X6_all : x_ok M_X6_all := x_ok_of lkok_X6 (by decide +kernel)
set_option maxRecDepth 20000 in
theorem k_X6_all : x_calV M_X6_all 0 := ⟨⟨x_mem 858 rfl rfl, x_mem 43 (by decide +kernel) rfl, by decide +kernel, by decide +kernel, by decide +kernel⟩, x_mem 857 (by decide +kernel) rfl, x_mem 20 (by decide +kernel) rfl⟩
def M_X6_empties : xM := (RX6, yX6_empties, cX6_empties, 2, none, 0, lk_X6, [(0, .aload_n 0, 1), (1, .iconst 0, 1), (2, .putfield 153, 3), (5, .iconst 0, 1), (6, .istore_n 1, 1), (7, .iload_n 1, 1), (8, .bipush 60, 2), (10, .if_icmp .ge 21, 3), (13, .aload_n 0, 1), (14, .getfield 67, 3), (17, .iload_n 1, 1), (18, .aload_n 0, 1), (19, .getfield 45, 3), (22, .iload_n 1, 1), (23, .baload, 1), (24, .bastore, 1), (25, .iinc 1 1, 3), (28, .goto (-21), 3), (31, .return_, 1)])
set_option maxRecDepth 20000 in
theorem ok_X6_empties : x_ok M_X6_empties := x_ok_of lkok_X6 (by decide +kernel)
set_option maxRecDepth 20000 in
theorem k_X6_empties : x_calV M_X6_empties 0 := ⟨⟨x_mem 866 rfl rfl, x_mem 43 (by decide +kernel) rfl, by decide +kernel, by decide +kernel, by decide +kernel⟩, x_mem 865 (by decide +kernel) rfl, x_mem 22 (by decide +kernel) rfl⟩
def M_X6_goesIn : xM := (RX6, yX6_goesIn, cX6_goesIn, 7, (some .boolean), 2, lk_X6, [(0, .aload_n 0, 1), (1, .getfield 153, 3), (4, .ifCond .le 30, 3), (7, .aload_n 0, 1), (8, .getfield 9, 3), (11, .iload_n 1, 1), (12, .iaload, 1), (13, .iconst 5, 1), (14, .if_icmp .eq 18, 3), (17, .aload_n 0, 1), (18, .getfield 9, 3), (21, .aload_n 0, 1), (22, .getfield 70, 3), (25, .iconst 0, 1), (26, .iaload, 1), (27, .iaload, 1), (28, .iconst 5, 1), (29, .if_icmp .ne 5, 3), (32, .iconst 0, 1), (33, .ireturn, 1), (34, .aload_n 0, 1), (35, .iload_n 1, 1), (36, .invokevirtual 140, 3), (39, .istore_n 2, 1), (40, .iconst 0, 1), (41, .istore_n 3, 1), (42, .iload_n 3, 1), (43, .aload_n 0, 1), (44, .getfield 42, 3), (47, .iconst 1, 1), (48, .iaload, 1), (49, .if_icmp .ge 147, 3), (52, .iconst 0, 1), (53, .istore 4, 2), (55, .iconst 0, 1), (56, .istore 5, 2), (58, .iload 5, 2), (60, .aload_n 0, 1), (61, .getfield 42, 3), (64, .iconst 0, 1), (65, .iaload, 1), (66, .if_icmp .ge 124, 3), (69, .aload_n 0, 1), (70, .getfield 67, 3), (73, .bipush 20, 2), (75, .iload_n 3, 1), (76, .imul, 1), (77, .iload 5, 2), (79, .iadd, 1), (80, .baload, 1), (81, .ifCond .eq 7, 3), (84, .iconst 0, 1), (85, .goto 7, 3), (88, .iload 4, 2), (90, .iconst 1, 1), (91, .iadd, 1), (92, .istore 4, 2), (94, .iload 4, 2), (96, .iload_n 2, 1), (97, .if_icmp .ge 6, 3), (100, .goto 84, 3), (103, .iload 5, 2), (105, .iload_n 2, 1), (106, .isub, 1), (107, .iconst 1, 1), (108, .iadd, 1), (109, .istore 6, 2), (111, .iload 6, 2), (113, .iload 5, 2), (115, .if_icmp .gt 22, 3), (118, .aload_n 0, 1), (119, .getfield 67, 3), (122, .bipush 20, 2), (124, .iload_n 3, 1), (125, .imul, 1), (126, .iload 6, 2), (128, .iadd, 1), (129, .iconst 1, 1), (130, .bastore, 1), (131, .iinc 6 1, 3), (134, .goto (-23), 3), (137, .aload_n 0, 1), (138, .getfield 70, 3), (141, .aload_n 0, 1), (142, .getfield 153, 3), (145, .iload_n 1, 1), (146, .iastore, 1), (147, .aload_n 0, 1), (148, .getfield 73, 3), (151, .aload_n 0, 1), (152, .getfield 153, 3), (155, .iload_n 3, 1), (156, .iastore, 1), (157, .aload_n 0, 1), (158, .getfield 76, 3), (161, .aload_n 0, 1), (162, .getfield 153, 3), (165, .iload 5, 2), (167, .iload_n 2, 1), (168, .isub, 1), (169, .iconst 1, 1), (170, .iadd, 1), (171, .iastore, 1), (172, .aload_n 0, 1), (173, .dup, 1), (174, .getfield 153, 3), (177, .iconst 1, 1), (178, .iadd, 1), (179, .putfield 153, 3), (182, .iconst 1, 1), (183, .ireturn, 1), (184, .iinc 5 1, 3), (187, .goto (-129), 3), (190, .iinc 3 1, 3), (193, .goto (-151), 3), (196, .iconst 0, 1), (197, .ireturn, 1)])
set_option maxRecDepth 20000 in
theorem ok_X6_goesIn : x_ok M_X6_goesIn := x_ok_of lkok_X6 (by decide +kernel)
set_option maxRecDepth 20000 in
theorem k_X6_goesIn : x_calV M_X6_goesIn 1 := ⟨⟨x_mem 874 rfl rfl, x_mem 43 (by decide +kernel) rfl, by decide +kernel, by decide +kernel, by decide +kernel⟩, x_mem 873 (by decide +kernel) rfl, x_mem 24 (by decide +kernel) rfl⟩
def M_X6_isOther : xM := (RX6, yX6_isOther, cX6_isOther, 4, (some .boolean), 2, lk_X6, [(0, .aload_n 0, 1), (1, .getfield 61, 3), (4, .iconst 0, 1), (5, .iaload, 1), (6, .istore_n 2, 1), (7, .aload_n 0, 1), (8, .getfield 61, 3), (11, .bipush 10, 2), (13, .iaload, 1), (14, .istore_n 3, 1), (15, .aload_n 0, 1), (16, .getfield 42, 3), (19, .iconst 4, 1), (20, .iaload, 1), (21, .tableswitch 100 0 3 #[31, 41, 60, 79], 31), (52, .iload_n 1, 1), (53, .ifCond .ne 7, 3), (56, .iconst 1, 1), (57, .goto 4, 3), (60, .iconst 0, 1), (61, .ireturn, 1), (62, .aload_n 0, 1), (63, .iload_n 3, 1), (64, .invokevirtual 143, 3), (67, .aload_n 0, 1), (68, .iload_n 2, 1), (69, .invokevirtual 143, 3), (72, .if_icmp .le 7, 3), (75, .iconst 1, 1), (76, .goto 4, 3), (79, .iconst 0, 1), (80, .ireturn, 1), (81, .aload_n 0, 1), (82, .iload_n 3, 1), (83, .invokevirtual 140, 3), (86, .aload_n 0, 1), (87, .iload_n 2, 1), (88, .invokevirtual 140, 3), (91, .if_icmp .ge 7, 3), (94, .iconst 1, 1), (95, .goto 4, 3), (98, .iconst 0, 1), (99, .ireturn, 1), (100, .aload_n 0, 1), (101, .getfield 24, 3), (104, .iload_n 3, 1), (105, .iaload, 1), (106, .aload_n 0, 1), (107, .getfield 24, 3), (110, .iload_n 2, 1), (111, .iaload, 1), (112, .if_icmp .ge 7, 3), (115, .iconst 1, 1), (116, .goto 4, 3), (119, .iconst 0, 1), (120, .ireturn, 1), (121, .aload_n 0, 1), (122, .getfield 21, 3), (125, .iload_n 3, 1), (126, .iaload, 1), (127, .aload_n 0, 1), (128, .getfield 21, 3), (131, .iload_n 2, 1), (132, .iaload, 1), (133, .if_icmp .le 7, 3), (136, .iconst 1, 1), (137, .goto 4, 3), (140, .iconst 0, 1), (141, .ireturn, 1)])
set_option maxRecDepth 20000 in
theorem ok_X6_isOther : x_ok M_X6_isOther := x_ok_of lkok_X6 (by decide +kernel)
set_option maxRecDepth 20000 in
theorem k_X6_isOther : x_calV M_X6_isOther 1 := ⟨⟨x_mem 870 rfl rfl, x_mem 43 (by decide +kernel) rfl, by decide +kernel, by decide +kernel, by decide +kernel⟩, x_mem 869 (by decide +kernel) rfl, x_mem 23 (by decide +kernel) rfl⟩
def M_X6_stepsOn : xM := (RX6, yX6_stepsOn, cX6_stepsOn, 3, none, 0, lk_X6, [(0, .iconst 1, 1), (1, .istore_n 2, 1), (2, .iload_n 2, 1), (3, .aload_n 0, 1), (4, .getfield 64, 3), (7, .iload_n 1, 1), (8, .iaload, 1), (9, .if_icmp .ge 33, 3), (12, .aload_n 0, 1), (13, .getfield 61, 3), (16, .bipush 10, 2), (18, .iload_n 1, 1), (19, .imul, 1), (20, .iload_n 2, 1), (21, .iadd, 1), (22, .iconst 1, 1), (23, .isub, 1), (24, .aload_n 0, 1), (25, .getfield 61, 3), (28, .bipush 10, 2), (30, .iload_n 1, 1), (31, .imul, 1), (32, .iload_n 2, 1), (33, .iadd, 1), (34, .iaload, 1), (35, .iastore, 1), (36, .iinc 2 1, 3), (39, .goto (-37), 3), (42, .aload_n 0, 1), (43, .getfield 64, 3), (46, .iload_n 1, 1), (47, .dup2, 1), (48, .iaload, 1), (49, .iconst 1, 1), (50, .isub, 1), (51, .iastore, 1), (52, .return_, 1)])
set_option maxRecDepth 20000 in
theorem ok_X6_stepsOn : x_ok M_X6_stepsOn := x_ok_of lkok_X6 (by decide +kernel)
set_option maxRecDepth 20000 in
theorem k_X6_stepsOn : x_calV M_X6_stepsOn 1 := ⟨⟨x_mem 878 rfl rfl, x_mem 43 (by decide +kernel) rfl, by decide +kernel, by decide +kernel, by decide +kernel⟩, x_mem 877 (by decide +kernel) rfl, x_mem 25 (by decide +kernel) rfl⟩
def M_X6_fills : xM := (RX6, yX6_fills, cX6_fills, 7, (some .int), 3, lk_X6, [(0, .aload_n 0, 1), (1, .invokevirtual 156, 3), (4, .iconst 0, 1), (5, .istore_n 1, 1), (6, .iconst 0, 1), (7, .istore_n 2, 1), (8, .iconst (-1), 1), (9, .istore_n 3, 1), (10, .iload_n 1, 1), (11, .ifCond .ne 16, 3), (14, .aload_n 0, 1), (15, .getfield 64, 3), (18, .iconst 0, 1), (19, .iaload, 1), (20, .ifCond .le 7, 3), (23, .iconst 1, 1), (24, .goto 4, 3), (27, .iconst 0, 1), (28, .istore 4, 2), (30, .iload_n 2, 1), (31, .ifCond .ne 16, 3), (34, .aload_n 0, 1), (35, .getfield 64, 3), (38, .iconst 1, 1), (39, .iaload, 1), (40, .ifCond .le 7, 3), (43, .iconst 1, 1), (44, .goto 4, 3), (47, .iconst 0, 1), (48, .istore 5, 2), (50, .iload 4, 2), (52, .ifCond .ne 13, 3), (55, .iload 5, 2), (57, .ifCond .ne 8, 3), (60, .aload_n 0, 1), (61, .getfield 153, 3), (64, .ireturn, 1), (65, .iload 4, 2), (67, .ifCond .eq 24, 3), (70, .iload 5, 2), (72, .ifCond .eq 19, 3), (75, .aload_n 0, 1), (76, .iload_n 3, 1), (77, .invokevirtual 159, 3), (80, .ifCond .eq 7, 3), (83, .iconst 1, 1), (84, .goto 17, 3), (87, .iconst 0, 1), (88, .goto 13, 3), (91, .iload 4, 2), (93, .ifCond .eq 7, 3), (96, .iconst 0, 1), (97, .goto 4, 3), (100, .iconst 1, 1), (101, .istore 6, 2), (103, .aload_n 0, 1), (104, .aload_n 0, 1), (105, .getfield 61, 3), (108, .bipush 10, 2), (110, .iload 6, 2), (112, .imul, 1), (113, .iaload, 1), (114, .invokevirtual 162, 3), (117, .ifCond .eq 15, 3), (120, .aload_n 0, 1), (121, .iload 6, 2), (123, .invokevirtual 165, 3), (126, .iload 6, 2), (128, .istore_n 3, 1), (129, .goto 15, 3), (132, .iload 6, 2), (134, .ifCond .ne 8, 3), (137, .iconst 1, 1), (138, .istore_n 1, 1), (139, .goto 5, 3), (142, .iconst 1, 1), (143, .istore_n 2, 1), (144, .goto (-134), 3)])
set_option maxRecDepth 20000 in
theorem ok_X6_fills : x_ok M_X6_fills := x_ok_of lkok_X6 (by decide +kernel)
set_option maxRecDepth 20000 in
theorem k_X6_fills : x_calV M_X6_fills 0 := ⟨⟨x_mem 862 rfl rfl, x_mem 43 (by decide +kernel) rfl, by decide +kernel, by decide +kernel, by decide +kernel⟩, x_mem 861 (by decide +kernel) rfl, x_mem 21 (by decide +kernel) rfl⟩
def M_X6_spends : xM := (RX6, yX6_spends, cX6_spends, 3, (some .int), 1, lk_X6, [(0, .aload_n 0, 1), (1, .getfield 42, 3), (4, .iconst 0, 1), (5, .iaload, 1), (6, .aload_n 0, 1), (7, .getfield 42, 3), (10, .iconst 1, 1), (11, .iaload, 1), (12, .imul, 1), (13, .aload_n 0, 1), (14, .getfield 42, 3), (17, .iconst 2, 1), (18, .iaload, 1), (19, .imul, 1), (20, .istore_n 1, 1), (21, .iconst 0, 1), (22, .istore_n 2, 1), (23, .iload_n 2, 1), (24, .aload_n 0, 1), (25, .getfield 153, 3), (28, .if_icmp .ge 23, 3), (31, .iload_n 1, 1), (32, .aload_n 0, 1), (33, .getfield 21, 3), (36, .aload_n 0, 1), (37, .getfield 70, 3), (40, .iload_n 2, 1), (41, .iaload, 1), (42, .iaload, 1), (43, .isub, 1), (44, .istore_n 1, 1), (45, .iinc 2 1, 3), (48, .goto (-25), 3), (51, .iconst 0, 1), (52, .iload_n 1, 1), (53, .invokestatic 133, 3), (56, .ireturn, 1)])
set_option maxRecDepth 20000 in
theorem ok_X6_spends : x_ok M_X6_spends := x_ok_of lkok_X6 (by decide +kernel)
set_option maxRecDepth 20000 in
theorem k_X6_spends : x_calV M_X6_spends 0 := ⟨⟨x_mem 886 rfl rfl, x_mem 43 (by decide +kernel) rfl, by decide +kernel, by decide +kernel, by decide +kernel⟩, x_mem 885 (by decide +kernel) rfl, x_mem 27 (by decide +kernel) rfl⟩
def M_X6_keeps : xM := (RX6, yX6_keeps, cX6_keeps, 3, none, 0, lk_X6, [(0, .aload_n 0, 1), (1, .getfield 115, 3), (4, .bipush 6, 2), (6, .if_icmp .ne 44, 3), (9, .bipush 43, 2), (11, .istore_n 1, 1), (12, .iload_n 1, 1), (13, .sipush 258, 3), (16, .if_icmp .ge 24, 3), (19, .aload_n 0, 1), (20, .getfield 55, 3), (23, .iload_n 1, 1), (24, .bipush 43, 2), (26, .isub, 1), (27, .aload_n 0, 1), (28, .getfield 55, 3), (31, .iload_n 1, 1), (32, .iaload, 1), (33, .iastore, 1), (34, .iinc 1 1, 3), (37, .goto (-25), 3), (40, .aload_n 0, 1), (41, .dup, 1), (42, .getfield 115, 3), (45, .iconst 1, 1), (46, .isub, 1), (47, .putfield 115, 3), (50, .bipush 43, 2), (52, .aload_n 0, 1), (53, .getfield 115, 3), (56, .imul, 1), (57, .istore_n 1, 1), (58, .iconst 0, 1), (59, .istore_n 2, 1), (60, .iload_n 2, 1), (61, .bipush 10, 2), (63, .if_icmp .ge 40, 3), (66, .aload_n 0, 1), (67, .getfield 55, 3), (70, .iload_n 1, 1), (71, .iload_n 2, 1), (72, .iadd, 1), (73, .aload_n 0, 1), (74, .getfield 30, 3), (77, .iload_n 2, 1), (78, .iaload, 1), (79, .iastore, 1), (80, .aload_n 0, 1), (81, .getfield 55, 3), (84, .iload_n 1, 1), (85, .bipush 10, 2), (87, .iadd, 1), (88, .iload_n 2, 1), (89, .iadd, 1), (90, .aload_n 0, 1), (91, .getfield 33, 3), (94, .iload_n 2, 1), (95, .iaload, 1), (96, .iastore, 1), (97, .iinc 2 1, 3), (100, .goto (-40), 3), (103, .iconst 0, 1), (104, .istore_n 2, 1), (105, .iload_n 2, 1), (106, .bipush 20, 2), (108, .if_icmp .ge 26, 3), (111, .aload_n 0, 1), (112, .getfield 55, 3), (115, .iload_n 1, 1), (116, .bipush 20, 2), (118, .iadd, 1), (119, .iload_n 2, 1), (120, .iadd, 1), (121, .aload_n 0, 1), (122, .getfield 36, 3), (125, .iload_n 2, 1), (126, .iaload, 1), (127, .iastore, 1), (128, .iinc 2 1, 3), (131, .goto (-26), 3), (134, .aload_n 0, 1), (135, .getfield 55, 3), (138, .iload_n 1, 1), (139, .bipush 40, 2), (141, .iadd, 1), (142, .aload_n 0, 1), (143, .getfield 39, 3), (146, .iconst 0, 1), (147, .iaload, 1), (148, .iastore, 1), (149, .aload_n 0, 1), (150, .getfield 55, 3), (153, .iload_n 1, 1), (154, .bipush 41, 2), (156, .iadd, 1), (157, .aload_n 0, 1), (158, .getfield 39, 3), (161, .iconst 1, 1), (162, .iaload, 1), (163, .iastore, 1), (164, .aload_n 0, 1), (165, .getfield 55, 3), (168, .iload_n 1, 1), (169, .bipush 42, 2), (171, .iadd, 1), (172, .aload_n 0, 1), (173, .getfield 146, 3), (176, .iastore, 1), (177, .aload_n 0, 1), (178, .dup, 1), (179, .getfield 115, 3), (182, .iconst 1, 1), (183, .iadd, 1), (184, .putfield 115, 3), (187, .return_, 1)])
set_option maxRecDepth 20000 in
theorem ok_X6_keeps : x_ok M_X6_keeps := x_ok_of lkok_X6 (by decide +kernel)
set_option maxRecDepth 20000 in
theorem k_X6_keeps : x_calV M_X6_keeps 0 := ⟨⟨x_mem 882 rfl rfl, x_mem 43 (by decide +kernel) rfl, by decide +kernel, by decide +kernel, by decide +kernel⟩, x_mem 881 (by decide +kernel) rfl, x_mem 26 (by decide +kernel) rfl⟩
def M_X6_fill : xM := (RX6, yX6_fill, cX6_fill, 2, (some .int), 4, lk_X6, [(0, .aload_n 0, 1), (1, .invokevirtual 169, 3), (4, .aload_n 0, 1), (5, .invokevirtual 172, 3), (8, .ifCond .ne 6, 3), (11, .bipush (-3), 2), (13, .ireturn, 1), (14, .aload_n 0, 1), (15, .getfield 146, 3), (18, .bipush 40, 2), (20, .if_icmp .ne 6, 3), (23, .bipush (-4), 2), (25, .ireturn, 1), (26, .aload_n 0, 1), (27, .invokevirtual 175, 3), (30, .iconst 0, 1), (31, .istore_n 1, 1), (32, .iload_n 1, 1), (33, .aload_n 0, 1), (34, .getfield 153, 3), (37, .if_icmp .ge 36, 3), (40, .aload_n 0, 1), (41, .getfield 30, 3), (44, .aload_n 0, 1), (45, .getfield 70, 3), (48, .iload_n 1, 1), (49, .iaload, 1), (50, .iconst 1, 1), (51, .iastore, 1), (52, .aload_n 0, 1), (53, .getfield 33, 3), (56, .aload_n 0, 1), (57, .getfield 70, 3), (60, .iload_n 1, 1), (61, .iaload, 1), (62, .aload_n 0, 1), (63, .getfield 146, 3), (66, .iastore, 1), (67, .iinc 1 1, 3), (70, .goto (-38), 3), (73, .aload_n 0, 1), (74, .getfield 52, 3), (77, .aload_n 0, 1), (78, .dup, 1), (79, .getfield 146, 3), (82, .dup_x1, 1), (83, .iconst 1, 1), (84, .iadd, 1), (85, .putfield 146, 3), (88, .aload_n 0, 1), (89, .invokevirtual 178, 3), (92, .iastore, 1), (93, .iconst 0, 1), (94, .istore_n 1, 1), (95, .iload_n 1, 1), (96, .bipush 20, 2), (98, .if_icmp .ge 21, 3), (101, .aload_n 0, 1), (102, .getfield 36, 3), (105, .iload_n 1, 1), (106, .aload_n 0, 1), (107, .getfield 61, 3), (110, .iload_n 1, 1), (111, .iaload, 1), (112, .iastore, 1), (113, .iinc 1 1, 3), (116, .goto (-21), 3), (119, .aload_n 0, 1), (120, .getfield 39, 3), (123, .iconst 0, 1), (124, .aload_n 0, 1), (125, .getfield 64, 3), (128, .iconst 0, 1), (129, .iaload, 1), (130, .iastore, 1), (131, .aload_n 0, 1), (132, .getfield 39, 3), (135, .iconst 1, 1), (136, .aload_n 0, 1), (137, .getfield 64, 3), (140, .iconst 1, 1), (141, .iaload, 1), (142, .iastore, 1), (143, .aload_n 0, 1), (144, .getfield 153, 3), (147, .ireturn, 1)])
set_option maxRecDepth 20000 in
theorem ok_X6_fill : x_ok M_X6_fill := x_ok_of lkok_X6 (by decide +kernel)
set_option maxRecDepth 20000 in
theorem k_X6_fill : x_calV M_X6_fill 0 := ⟨⟨x_mem 854 rfl rfl, x_mem 43 (by decide +kernel) rfl, by decide +kernel, by decide +kernel, by decide +kernel⟩, x_mem 852 (by decide +kernel) rfl, x_mem 853 (by decide +kernel) rfl⟩
def M_X6_next : xM := (RX6, yX6_next, cX6_next, 3, (some .int), 4, lk_X6, [(0, .iload_n 1, 1), (1, .ifCond .lt 12, 3), (4, .iload_n 2, 1), (5, .iconst 0, 1), (6, .iconst 2, 1), (7, .invokestatic 110, 3), (10, .ifCond .ne 6, 3), (13, .bipush (-2), 2), (15, .ireturn, 1), (16, .aload_n 0, 1), (17, .invokevirtual 169, 3), (20, .iload_n 1, 1), (21, .aload_n 0, 1), (22, .invokevirtual 172, 3), (25, .if_icmp .lt 5, 3), (28, .iconst (-1), 1), (29, .ireturn, 1), (30, .iload_n 2, 1), (31, .ifCond .ne 12, 3), (34, .aload_n 0, 1), (35, .getfield 70, 3), (38, .iload_n 1, 1), (39, .iaload, 1), (40, .goto 23, 3), (43, .iload_n 2, 1), (44, .iconst 1, 1), (45, .if_icmp .ne 12, 3), (48, .aload_n 0, 1), (49, .getfield 73, 3), (52, .iload_n 1, 1), (53, .iaload, 1), (54, .goto 9, 3), (57, .aload_n 0, 1), (58, .getfield 76, 3), (61, .iload_n 1, 1), (62, .iaload, 1), (63, .ireturn, 1)])
set_option maxRecDepth 20000 in
theorem ok_X6_next : x_ok M_X6_next := x_ok_of lkok_X6 (by decide +kernel)
set_option maxRecDepth 20000 in
theorem k_X6_next : x_calV M_X6_next 2 := ⟨⟨x_mem 890 rfl rfl, x_mem 43 (by decide +kernel) rfl, by decide +kernel, by decide +kernel, by decide +kernel⟩, x_mem 888 (by decide +kernel) rfl, x_mem 889 (by decide +kernel) rfl⟩
def M_X6_water : xM := (RX6, yX6_water, cX6_water, 1, (some .long), 4, lk_X6, [(0, .aload_n 0, 1), (1, .invokevirtual 169, 3), (4, .aload_n 0, 1), (5, .invokevirtual 172, 3), (8, .ifCond .ne 9, 3), (11, .ldc2_w 181, 3), (14, .goto 8, 3), (17, .aload_n 0, 1), (18, .invokevirtual 178, 3), (21, .i2l, 1), (22, .lreturn, 1)])
set_option maxRecDepth 20000 in
theorem ok_X6_water : x_ok M_X6_water := x_ok_of lkok_X6 (by decide +kernel)
set_option maxRecDepth 20000 in
theorem k_X6_water : x_calV M_X6_water 0 := ⟨⟨x_mem 894 rfl rfl, x_mem 43 (by decide +kernel) rfl, by decide +kernel, by decide +kernel, by decide +kernel⟩, x_mem 892 (by decide +kernel) rfl, x_mem 893 (by decide +kernel) rfl⟩
def M_X6_spent : xM := (RX6, yX6_spent, cX6_spent, 4, (some .long), 1, lk_X6, [(0, .iload_n 1, 1), (1, .iconst (-1), 1), (2, .aload_n 0, 1), (3, .getfield 146, 3), (6, .iconst 1, 1), (7, .isub, 1), (8, .invokestatic 110, 3), (11, .ifCond .ne 7, 3), (14, .ldc2_w 181, 3), (17, .lreturn, 1), (18, .iload_n 1, 1), (19, .ifCond .lt 11, 3), (22, .aload_n 0, 1), (23, .getfield 52, 3), (26, .iload_n 1, 1), (27, .iaload, 1), (28, .i2l, 1), (29, .lreturn, 1), (30, .iconst 0, 1), (31, .istore_n 2, 1), (32, .iconst 0, 1), (33, .istore_n 3, 1), (34, .iload_n 3, 1), (35, .aload_n 0, 1), (36, .getfield 146, 3), (39, .if_icmp .ge 18, 3), (42, .iload_n 2, 1), (43, .aload_n 0, 1), (44, .getfield 52, 3), (47, .iload_n 3, 1), (48, .iaload, 1), (49, .iadd, 1), (50, .istore_n 2, 1), (51, .iinc 3 1, 3), (54, .goto (-20), 3), (57, .iload_n 2, 1), (58, .i2l, 1), (59, .lreturn, 1)])
set_option maxRecDepth 20000 in
theorem ok_X6_spent : x_ok M_X6_spent := x_ok_of lkok_X6 (by decide +kernel)
set_option maxRecDepth 20000 in
theorem k_X6_spent : x_calV M_X6_spent 1 := ⟨⟨x_mem 899 rfl rfl, x_mem 43 (by decide +kernel) rfl, by decide +kernel, by decide +kernel, by decide +kernel⟩, x_mem 897 (by decide +kernel) rfl, x_mem 898 (by decide +kernel) rfl⟩
def M_X6_leave : xM := (RX6, yX6_leave, cX6_leave, 5, (some .int), 2, lk_X6, [(0, .aload_n 0, 1), (1, .iload_n 1, 1), (2, .invokevirtual 136, 3), (5, .ifCond .ne 6, 3), (8, .bipush (-2), 2), (10, .ireturn, 1), (11, .aload_n 0, 1), (12, .getfield 30, 3), (15, .iload_n 1, 1), (16, .iaload, 1), (17, .ifCond .eq 6, 3), (20, .bipush (-3), 2), (22, .ireturn, 1), (23, .aload_n 0, 1), (24, .invokevirtual 175, 3), (27, .aload_n 0, 1), (28, .getfield 30, 3), (31, .iload_n 1, 1), (32, .iconst 2, 1), (33, .iastore, 1), (34, .aload_n 0, 1), (35, .getfield 27, 3), (38, .iload_n 1, 1), (39, .iaload, 1), (40, .istore_n 2, 1), (41, .iconst 0, 1), (42, .istore_n 3, 1), (43, .iconst 0, 1), (44, .istore 4, 2), (46, .iload 4, 2), (48, .aload_n 0, 1), (49, .getfield 39, 3), (52, .iload_n 2, 1), (53, .iaload, 1), (54, .if_icmp .ge 51, 3), (57, .aload_n 0, 1), (58, .getfield 36, 3), (61, .bipush 10, 2), (63, .iload_n 2, 1), (64, .imul, 1), (65, .iload 4, 2), (67, .iadd, 1), (68, .iaload, 1), (69, .iload_n 1, 1), (70, .if_icmp .eq 29, 3), (73, .aload_n 0, 1), (74, .getfield 36, 3), (77, .bipush 10, 2), (79, .iload_n 2, 1), (80, .imul, 1), (81, .iload_n 3, 1), (82, .iinc 3 1, 3), (85, .iadd, 1), (86, .aload_n 0, 1), (87, .getfield 36, 3), (90, .bipush 10, 2), (92, .iload_n 2, 1), (93, .imul, 1), (94, .iload 4, 2), (96, .iadd, 1), (97, .iaload, 1), (98, .iastore, 1), (99, .iinc 4 1, 3), (102, .goto (-56), 3), (105, .aload_n 0, 1), (106, .getfield 39, 3), (109, .iload_n 2, 1), (110, .iload_n 3, 1), (111, .iastore, 1), (112, .aload_n 0, 1), (113, .getfield 39, 3), (116, .iconst 0, 1), (117, .iaload, 1), (118, .aload_n 0, 1), (119, .getfield 39, 3), (122, .iconst 1, 1), (123, .iaload, 1), (124, .iadd, 1), (125, .ireturn, 1)])
set_option maxRecDepth 20000 in
theorem ok_X6_leave : x_ok M_X6_leave := x_ok_of lkok_X6 (by decide +kernel)
set_option maxRecDepth 20000 in
theorem k_X6_leave : x_calV M_X6_leave 1 := ⟨⟨x_mem 903 rfl rfl, x_mem 43 (by decide +kernel) rfl, by decide +kernel, by decide +kernel, by decide +kernel⟩, x_mem 901 (by decide +kernel) rfl, x_mem 902 (by decide +kernel) rfl⟩
def M_X6_undo : xM := (RX6, yX6_undo, cX6_undo, 3, (some .int), 0, lk_X6, [(0, .aload_n 0, 1), (1, .getfield 115, 3), (4, .ifCond .ne 6, 3), (7, .bipush (-3), 2), (9, .ireturn, 1), (10, .aload_n 0, 1), (11, .dup, 1), (12, .getfield 115, 3), (15, .iconst 1, 1), (16, .isub, 1), (17, .putfield 115, 3), (20, .bipush 43, 2), (22, .aload_n 0, 1), (23, .getfield 115, 3), (26, .imul, 1), (27, .istore_n 1, 1), (28, .iconst 0, 1), (29, .istore_n 2, 1), (30, .iload_n 2, 1), (31, .bipush 10, 2), (33, .if_icmp .ge 40, 3), (36, .aload_n 0, 1), (37, .getfield 30, 3), (40, .iload_n 2, 1), (41, .aload_n 0, 1), (42, .getfield 55, 3), (45, .iload_n 1, 1), (46, .iload_n 2, 1), (47, .iadd, 1), (48, .iaload, 1), (49, .iastore, 1), (50, .aload_n 0, 1), (51, .getfield 33, 3), (54, .iload_n 2, 1), (55, .aload_n 0, 1), (56, .getfield 55, 3), (59, .iload_n 1, 1), (60, .bipush 10, 2), (62, .iadd, 1), (63, .iload_n 2, 1), (64, .iadd, 1), (65, .iaload, 1), (66, .iastore, 1), (67, .iinc 2 1, 3), (70, .goto (-40), 3), (73, .iconst 0, 1), (74, .istore_n 2, 1), (75, .iload_n 2, 1), (76, .bipush 20, 2), (78, .if_icmp .ge 26, 3), (81, .aload_n 0, 1), (82, .getfield 36, 3), (85, .iload_n 2, 1), (86, .aload_n 0, 1), (87, .getfield 55, 3), (90, .iload_n 1, 1), (91, .bipush 20, 2), (93, .iadd, 1), (94, .iload_n 2, 1), (95, .iadd, 1), (96, .iaload, 1), (97, .iastore, 1), (98, .iinc 2 1, 3), (101, .goto (-26), 3), (104, .aload_n 0, 1), (105, .getfield 39, 3), (108, .iconst 0, 1), (109, .aload_n 0, 1), (110, .getfield 55, 3), (113, .iload_n 1, 1), (114, .bipush 40, 2), (116, .iadd, 1), (117, .iaload, 1), (118, .iastore, 1), (119, .aload_n 0, 1), (120, .getfield 39, 3), (123, .iconst 1, 1), (124, .aload_n 0, 1), (125, .getfield 55, 3), (128, .iload_n 1, 1), (129, .bipush 41, 2), (131, .iadd, 1), (132, .iaload, 1), (133, .iastore, 1), (134, .aload_n 0, 1), (135, .aload_n 0, 1), (136, .getfield 55, 3), (139, .iload_n 1, 1), (140, .bipush 42, 2), (142, .iadd, 1), (143, .iaload, 1), (144, .putfield 146, 3), (147, .aload_n 0, 1), (148, .getfield 115, 3), (151, .ireturn, 1)])
set_option maxRecDepth 20000 in
theorem ok_X6_undo : x_ok M_X6_undo := x_ok_of lkok_X6 (by decide +kernel)
set_option maxRecDepth 20000 in
theorem k_X6_undo : x_calV M_X6_undo 0 := ⟨⟨x_mem 907 rfl rfl, x_mem 43 (by decide +kernel) rfl, by decide +kernel, by decide +kernel, by decide +kernel⟩, x_mem 905 (by decide +kernel) rfl, x_mem 906 (by decide +kernel) rfl⟩
def M_X6_plan : xM := (RX6, yX6_plan, cX6_plan, 7, (some .int), 4, lk_X6, [(0, .iload_n 1, 1), (1, .iconst 0, 1), (2, .iconst 2, 1), (3, .invokestatic 110, 3), (6, .ifCond .ne 6, 3), (9, .bipush (-2), 2), (11, .ireturn, 1), (12, .aload_n 0, 1), (13, .invokevirtual 169, 3), (16, .iconst 0, 1), (17, .istore_n 2, 1), (18, .iconst 0, 1), (19, .istore_n 3, 1), (20, .aload_n 0, 1), (21, .invokevirtual 172, 3), (24, .ifCond .le 16, 3), (27, .iinc 2 1, 3), (30, .iload_n 3, 1), (31, .aload_n 0, 1), (32, .invokevirtual 178, 3), (35, .iadd, 1), (36, .istore_n 3, 1), (37, .goto (-17), 3), (40, .iconst 0, 1), (41, .istore 4, 2), (43, .iconst 0, 1), (44, .istore 5, 2), (46, .iload 5, 2), (48, .iconst 2, 1), (49, .if_icmp .ge 50, 3), (52, .iconst 0, 1), (53, .istore 6, 2), (55, .iload 6, 2), (57, .aload_n 0, 1), (58, .getfield 64, 3), (61, .iload 5, 2), (63, .iaload, 1), (64, .if_icmp .ge 29, 3), (67, .iload 4, 2), (69, .iconst 1, 1), (70, .aload_n 0, 1), (71, .getfield 61, 3), (74, .bipush 10, 2), (76, .iload 5, 2), (78, .imul, 1), (79, .iload 6, 2), (81, .iadd, 1), (82, .iaload, 1), (83, .ishl, 1), (84, .ior, 1), (85, .istore 4, 2), (87, .iinc 6 1, 3), (90, .goto (-35), 3), (93, .iinc 5 1, 3), (96, .goto (-50), 3), (99, .iload_n 1, 1), (100, .ifCond .ne 7, 3), (103, .iload_n 2, 1), (104, .goto 14, 3), (107, .iload_n 1, 1), (108, .iconst 1, 1), (109, .if_icmp .ne 8, 3), (112, .iload 4, 2), (114, .goto 4, 3), (117, .iload_n 3, 1), (118, .ireturn, 1)])
set_option maxRecDepth 20000 in
theorem ok_X6_plan : x_ok M_X6_plan := x_ok_of lkok_X6 (by decide +kernel)
set_option maxRecDepth 20000 in
theorem k_X6_plan : x_calV M_X6_plan 1 := ⟨⟨x_mem 911 rfl rfl, x_mem 43 (by decide +kernel) rfl, by decide +kernel, by decide +kernel, by decide +kernel⟩, x_mem 909 (by decide +kernel) rfl, x_mem 910 (by decide +kernel) rfl⟩
def M_X6_drought : xM := (RX6, yX6_drought, cX6_drought, 5, (some .int), 4, lk_X6, [(0, .aload_n 0, 1), (1, .invokevirtual 169, 3), (4, .iconst 0, 1), (5, .istore_n 1, 1), (6, .iconst 0, 1), (7, .istore_n 2, 1), (8, .iconst (-1), 1), (9, .istore_n 3, 1), (10, .aload_n 0, 1), (11, .invokevirtual 172, 3), (14, .ifCond .le 64, 3), (17, .aload_n 0, 1), (18, .invokevirtual 178, 3), (21, .istore 4, 2), (23, .iload_n 1, 1), (24, .sipush 200, 3), (27, .if_icmp .ge 32, 3), (30, .aload_n 0, 1), (31, .iload_n 1, 1), (32, .invokevirtual 129, 3), (35, .iconst (-1), 1), (36, .if_icmp .eq 23, 3), (39, .iload_n 2, 1), (40, .iload 4, 2), (42, .iadd, 1), (43, .aload_n 0, 1), (44, .iload_n 1, 1), (45, .invokevirtual 129, 3), (48, .if_icmp .le 11, 3), (51, .iinc 1 1, 3), (54, .iconst 0, 1), (55, .istore_n 2, 1), (56, .goto (-33), 3), (59, .iload_n 1, 1), (60, .sipush 200, 3), (63, .if_icmp .ne 5, 3), (66, .iconst (-1), 1), (67, .ireturn, 1), (68, .iload_n 2, 1), (69, .iload 4, 2), (71, .iadd, 1), (72, .istore_n 2, 1), (73, .iload_n 1, 1), (74, .istore_n 3, 1), (75, .goto (-65), 3), (78, .iload_n 3, 1), (79, .ireturn, 1)])
set_option maxRecDepth 20000 in
theorem ok_X6_drought : x_ok M_X6_drought := x_ok_of lkok_X6 (by decide +kernel)
set_option maxRecDepth 20000 in
theorem k_X6_drought : x_calV M_X6_drought 0 := ⟨⟨x_mem 915 rfl rfl, x_mem 43 (by decide +kernel) rfl, by decide +kernel, by decide +kernel, by decide +kernel⟩, x_mem 913 (by decide +kernel) rfl, x_mem 914 (by decide +kernel) rfl⟩
def M_X6_gathers : xM := (RX6, yX6_gathers, cX6_gathers, 7, none, 0, lk_X6, [(0, .iconst 0, 1), (1, .istore_n 3, 1), (2, .iconst 0, 1), (3, .istore 4, 2), (5, .iload 4, 2), (7, .aload_n 0, 1), (8, .getfield 39, 3), (11, .iload_n 1, 1), (12, .iaload, 1), (13, .if_icmp .ge 134, 3), (16, .aload_n 0, 1), (17, .getfield 36, 3), (20, .bipush 10, 2), (22, .iload_n 1, 1), (23, .imul, 1), (24, .iload 4, 2), (26, .iadd, 1), (27, .iaload, 1), (28, .istore 5, 2), (30, .aload_n 0, 1), (31, .getfield 24, 3), (34, .iload 5, 2), (36, .iaload, 1), (37, .iload_n 2, 1), (38, .if_icmp .gt 103, 3), (41, .aload_n 0, 1), (42, .getfield 79, 3), (45, .iload 5, 2), (47, .iaload, 1), (48, .iconst (-1), 1), (49, .if_icmp .eq 6, 3), (52, .goto 89, 3), (55, .iload_n 3, 1), (56, .istore 6, 2), (58, .iload 6, 2), (60, .ifCond .le 64, 3), (63, .aload_n 0, 1), (64, .getfield 24, 3), (67, .aload_n 0, 1), (68, .getfield 61, 3), (71, .bipush 10, 2), (73, .iload_n 1, 1), (74, .imul, 1), (75, .iload 6, 2), (77, .iadd, 1), (78, .iconst 1, 1), (79, .isub, 1), (80, .iaload, 1), (81, .iaload, 1), (82, .aload_n 0, 1), (83, .getfield 24, 3), (86, .iload 5, 2), (88, .iaload, 1), (89, .if_icmp .le 35, 3), (92, .aload_n 0, 1), (93, .getfield 61, 3), (96, .bipush 10, 2), (98, .iload_n 1, 1), (99, .imul, 1), (100, .iload 6, 2), (102, .iadd, 1), (103, .aload_n 0, 1), (104, .getfield 61, 3), (107, .bipush 10, 2), (109, .iload_n 1, 1), (110, .imul, 1), (111, .iload 6, 2), (113, .iadd, 1), (114, .iconst 1, 1), (115, .isub, 1), (116, .iaload, 1), (117, .iastore, 1), (118, .iinc 6 (-1), 3), (121, .goto (-63), 3), (124, .aload_n 0, 1), (125, .getfield 61, 3), (128, .bipush 10, 2), (130, .iload_n 1, 1), (131, .imul, 1), (132, .iload 6, 2), (134, .iadd, 1), (135, .iload 5, 2), (137, .iastore, 1), (138, .iinc 3 1, 3), (141, .iinc 4 1, 3), (144, .goto (-139), 3), (147, .aload_n 0, 1), (148, .getfield 64, 3), (151, .iload_n 1, 1), (152, .iload_n 3, 1), (153, .iastore, 1), (154, .return_, 1)])
set_option maxRecDepth 20000 in
theorem ok_X6_gathers : x_ok M_X6_gathers := x_ok_of lkok_X6 (by decide +kernel)
set_option maxRecDepth 20000 in
theorem k_X6_gathers : x_calV M_X6_gathers 2 := ⟨⟨x_mem 927 rfl rfl, x_mem 43 (by decide +kernel) rfl, by decide +kernel, by decide +kernel, by decide +kernel⟩, x_mem 926 (by decide +kernel) rfl, x_mem 29 (by decide +kernel) rfl⟩
def M_X6_goesOn : xM := (RX6, yX6_goesOn, cX6_goesOn, 5, none, 4, lk_X6, [(0, .iconst 0, 1), (1, .istore_n 1, 1), (2, .iload_n 1, 1), (3, .bipush 10, 2), (5, .if_icmp .ge 16, 3), (8, .aload_n 0, 1), (9, .getfield 79, 3), (12, .iload_n 1, 1), (13, .iconst (-1), 1), (14, .iastore, 1), (15, .iinc 1 1, 3), (18, .goto (-16), 3), (21, .aload_n 0, 1), (22, .iconst 0, 1), (23, .putfield 183, 3), (26, .aload_n 0, 1), (27, .iconst (-1), 1), (28, .putfield 186, 3), (31, .iconst 0, 1), (32, .istore_n 1, 1), (33, .iconst 0, 1), (34, .istore_n 2, 1), (35, .iload_n 2, 1), (36, .sipush 2000, 3), (39, .if_icmp .ge 140, 3), (42, .iload_n 2, 1), (43, .iload_n 1, 1), (44, .if_icmp .ne 7, 3), (47, .iconst 1, 1), (48, .goto 4, 3), (51, .iconst 0, 1), (52, .istore_n 3, 1), (53, .iconst 0, 1), (54, .istore 4, 2), (56, .iload 4, 2), (58, .aload_n 0, 1), (59, .getfield 106, 3), (62, .if_icmp .ge 22, 3), (65, .aload_n 0, 1), (66, .getfield 24, 3), (69, .iload 4, 2), (71, .iaload, 1), (72, .iload_n 2, 1), (73, .if_icmp .ne 5, 3), (76, .iconst 1, 1), (77, .istore_n 3, 1), (78, .iinc 4 1, 3), (81, .goto (-25), 3), (84, .iload_n 2, 1), (85, .iload_n 1, 1), (86, .if_icmp .lt 87, 3), (89, .iload_n 3, 1), (90, .ifCond .ne 6, 3), (93, .goto 80, 3), (96, .aload_n 0, 1), (97, .iconst 0, 1), (98, .iload_n 2, 1), (99, .invokevirtual 189, 3), (102, .aload_n 0, 1), (103, .iconst 1, 1), (104, .iload_n 2, 1), (105, .invokevirtual 189, 3), (108, .aload_n 0, 1), (109, .invokevirtual 172, 3), (112, .ifCond .ne 6, 3), (115, .goto 58, 3), (118, .iconst 0, 1), (119, .istore 4, 2), (121, .iload 4, 2), (123, .aload_n 0, 1), (124, .getfield 153, 3), (127, .if_icmp .ge 22, 3), (130, .aload_n 0, 1), (131, .getfield 79, 3), (134, .aload_n 0, 1), (135, .getfield 70, 3), (138, .iload 4, 2), (140, .iaload, 1), (141, .iload_n 2, 1), (142, .iastore, 1), (143, .iinc 4 1, 3), (146, .goto (-25), 3), (149, .aload_n 0, 1), (150, .dup, 1), (151, .getfield 183, 3), (154, .iconst 1, 1), (155, .iadd, 1), (156, .putfield 183, 3), (159, .aload_n 0, 1), (160, .iload_n 2, 1), (161, .putfield 186, 3), (164, .iload_n 2, 1), (165, .aload_n 0, 1), (166, .getfield 42, 3), (169, .iconst 3, 1), (170, .iaload, 1), (171, .iadd, 1), (172, .istore_n 1, 1), (173, .iinc 2 1, 3), (176, .goto (-141), 3), (179, .return_, 1)])
set_option maxRecDepth 20000 in
theorem ok_X6_goesOn : x_ok M_X6_goesOn := x_ok_of lkok_X6 (by decide +kernel)
set_option maxRecDepth 20000 in
theorem k_X6_goesOn : x_calV M_X6_goesOn 0 := ⟨⟨x_mem 923 rfl rfl, x_mem 43 (by decide +kernel) rfl, by decide +kernel, by decide +kernel, by decide +kernel⟩, x_mem 922 (by decide +kernel) rfl, x_mem 28 (by decide +kernel) rfl⟩
def M_X6_waits : xM := (RX6, yX6_waits, cX6_waits, 2, (some .int), 5, lk_X6, [(0, .aload_n 0, 1), (1, .iload_n 1, 1), (2, .invokevirtual 136, 3), (5, .ifCond .ne 6, 3), (8, .bipush (-2), 2), (10, .ireturn, 1), (11, .aload_n 0, 1), (12, .getfield 30, 3), (15, .iload_n 1, 1), (16, .iaload, 1), (17, .ifCond .eq 6, 3), (20, .bipush (-3), 2), (22, .ireturn, 1), (23, .aload_n 0, 1), (24, .invokevirtual 193, 3), (27, .aload_n 0, 1), (28, .getfield 79, 3), (31, .iload_n 1, 1), (32, .iaload, 1), (33, .iconst (-1), 1), (34, .if_icmp .ne 7, 3), (37, .iconst (-1), 1), (38, .goto 16, 3), (41, .aload_n 0, 1), (42, .getfield 79, 3), (45, .iload_n 1, 1), (46, .iaload, 1), (47, .aload_n 0, 1), (48, .getfield 24, 3), (51, .iload_n 1, 1), (52, .iaload, 1), (53, .isub, 1), (54, .ireturn, 1)])
set_option maxRecDepth 20000 in
theorem ok_X6_waits : x_ok M_X6_waits := x_ok_of lkok_X6 (by decide +kernel)
set_option maxRecDepth 20000 in
theorem k_X6_waits : x_calV M_X6_waits 1 := ⟨⟨x_mem 919 rfl rfl, x_mem 43 (by decide +kernel) rfl, by decide +kernel, by decide +kernel, by decide +kernel⟩, x_mem 917 (by decide +kernel) rfl, x_mem 918 (by decide +kernel) rfl⟩
def M_X6_line : xM := (RX6, yX6_line, cX6_line, 5, (some .int), 5, lk_X6, [(0, .iload_n 1, 1), (1, .ifCond .ge 6, 3), (4, .bipush (-2), 2), (6, .ireturn, 1), (7, .aload_n 0, 1), (8, .invokevirtual 193, 3), (11, .iconst 0, 1), (12, .istore_n 2, 1), (13, .iconst 0, 1), (14, .istore_n 3, 1), (15, .iload_n 3, 1), (16, .aload_n 0, 1), (17, .getfield 106, 3), (20, .if_icmp .ge 108, 3), (23, .aload_n 0, 1), (24, .getfield 79, 3), (27, .iload_n 3, 1), (28, .iaload, 1), (29, .iconst (-1), 1), (30, .if_icmp .ne 6, 3), (33, .goto 89, 3), (36, .iload_n 2, 1), (37, .istore 4, 2), (39, .iload 4, 2), (41, .ifCond .le 70, 3), (44, .aload_n 0, 1), (45, .getfield 79, 3), (48, .aload_n 0, 1), (49, .getfield 82, 3), (52, .iload 4, 2), (54, .iconst 1, 1), (55, .isub, 1), (56, .iaload, 1), (57, .iaload, 1), (58, .aload_n 0, 1), (59, .getfield 24, 3), (62, .aload_n 0, 1), (63, .getfield 82, 3), (66, .iload 4, 2), (68, .iconst 1, 1), (69, .isub, 1), (70, .iaload, 1), (71, .iaload, 1), (72, .isub, 1), (73, .aload_n 0, 1), (74, .getfield 79, 3), (77, .iload_n 3, 1), (78, .iaload, 1), (79, .aload_n 0, 1), (80, .getfield 24, 3), (83, .iload_n 3, 1), (84, .iaload, 1), (85, .isub, 1), (86, .if_icmp .ge 25, 3), (89, .aload_n 0, 1), (90, .getfield 82, 3), (93, .iload 4, 2), (95, .aload_n 0, 1), (96, .getfield 82, 3), (99, .iload 4, 2), (101, .iconst 1, 1), (102, .isub, 1), (103, .iaload, 1), (104, .iastore, 1), (105, .iinc 4 (-1), 3), (108, .goto (-69), 3), (111, .aload_n 0, 1), (112, .getfield 82, 3), (115, .iload 4, 2), (117, .iload_n 3, 1), (118, .iastore, 1), (119, .iinc 2 1, 3), (122, .iinc 3 1, 3), (125, .goto (-110), 3), (128, .iload_n 1, 1), (129, .iload_n 2, 1), (130, .if_icmp .ge 12, 3), (133, .aload_n 0, 1), (134, .getfield 82, 3), (137, .iload_n 1, 1), (138, .iaload, 1), (139, .goto 4, 3), (142, .iconst (-1), 1), (143, .ireturn, 1)])
set_option maxRecDepth 20000 in
theorem ok_X6_line : x_ok M_X6_line := x_ok_of lkok_X6 (by decide +kernel)
set_option maxRecDepth 20000 in
theorem k_X6_line : x_calV M_X6_line 1 := ⟨⟨x_mem 931 rfl rfl, x_mem 43 (by decide +kernel) rfl, by decide +kernel, by decide +kernel, by decide +kernel⟩, x_mem 929 (by decide +kernel) rfl, x_mem 930 (by decide +kernel) rfl⟩
def M_X6_day : xM := (RX6, yX6_day, cX6_day, 4, (some .int), 5, lk_X6, [(0, .iload_n 1, 1), (1, .iconst 0, 1), (2, .iconst 2, 1), (3, .invokestatic 110, 3), (6, .ifCond .ne 6, 3), (9, .bipush (-2), 2), (11, .ireturn, 1), (12, .aload_n 0, 1), (13, .invokevirtual 193, 3), (16, .iconst 0, 1), (17, .istore_n 2, 1), (18, .iconst 0, 1), (19, .istore_n 3, 1), (20, .iload_n 3, 1), (21, .aload_n 0, 1), (22, .getfield 106, 3), (25, .if_icmp .ge 35, 3), (28, .aload_n 0, 1), (29, .getfield 79, 3), (32, .iload_n 3, 1), (33, .iaload, 1), (34, .iconst (-1), 1), (35, .if_icmp .eq 19, 3), (38, .iload_n 2, 1), (39, .aload_n 0, 1), (40, .getfield 79, 3), (43, .iload_n 3, 1), (44, .iaload, 1), (45, .aload_n 0, 1), (46, .getfield 24, 3), (49, .iload_n 3, 1), (50, .iaload, 1), (51, .isub, 1), (52, .iadd, 1), (53, .istore_n 2, 1), (54, .iinc 3 1, 3), (57, .goto (-37), 3), (60, .iload_n 1, 1), (61, .ifCond .ne 7, 3), (64, .iload_n 2, 1), (65, .goto 19, 3), (68, .iload_n 1, 1), (69, .iconst 1, 1), (70, .if_icmp .ne 10, 3), (73, .aload_n 0, 1), (74, .getfield 183, 3), (77, .goto 7, 3), (80, .aload_n 0, 1), (81, .getfield 186, 3), (84, .ireturn, 1)])
set_option maxRecDepth 20000 in
theorem ok_X6_day : x_ok M_X6_day := x_ok_of lkok_X6 (by decide +kernel)
set_option maxRecDepth 20000 in
theorem k_X6_day : x_calV M_X6_day 1 := ⟨⟨x_mem 935 rfl rfl, x_mem 43 (by decide +kernel) rfl, by decide +kernel, by decide +kernel, by decide +kernel⟩, x_mem 933 (by decide +kernel) rfl, x_mem 934 (by decide +kernel) rfl⟩
def M_X6_canGo : xM := (RX6, yX6_canGo, cX6_canGo, 6, (some .boolean), 3, lk_X6, [(0, .aload_n 0, 1), (1, .invokevirtual 156, 3), (4, .iconst 0, 1), (5, .istore 5, 2), (7, .iload 5, 2), (9, .iload_n 2, 1), (10, .if_icmp .ge 27, 3), (13, .aload_n 0, 1), (14, .aload_n 0, 1), (15, .getfield 36, 3), (18, .iload_n 1, 1), (19, .iload 5, 2), (21, .iadd, 1), (22, .iaload, 1), (23, .invokevirtual 162, 3), (26, .ifCond .ne 5, 3), (29, .iconst 0, 1), (30, .ireturn, 1), (31, .iinc 5 1, 3), (34, .goto (-27), 3), (37, .iconst 0, 1), (38, .istore 5, 2), (40, .iload 5, 2), (42, .iload 4, 2), (44, .if_icmp .ge 30, 3), (47, .aload_n 0, 1), (48, .aload_n 0, 1), (49, .getfield 36, 3), (52, .bipush 10, 2), (54, .iload_n 3, 1), (55, .iadd, 1), (56, .iload 5, 2), (58, .iadd, 1), (59, .iaload, 1), (60, .invokevirtual 162, 3), (63, .ifCond .ne 5, 3), (66, .iconst 0, 1), (67, .ireturn, 1), (68, .iinc 5 1, 3), (71, .goto (-31), 3), (74, .iload_n 2, 1), (75, .iload 4, 2), (77, .iadd, 1), (78, .ifCond .le 7, 3), (81, .iconst 1, 1), (82, .goto 4, 3), (85, .iconst 0, 1), (86, .ireturn, 1)])
set_option maxRecDepth 20000 in
theorem ok_X6_canGo : x_ok M_X6_canGo := x_ok_of lkok_X6 (by decide +kernel)
set_option maxRecDepth 20000 in
theorem k_X6_canGo : x_calV M_X6_canGo 4 := ⟨⟨x_mem 947 rfl rfl, x_mem 43 (by decide +kernel) rfl, by decide +kernel, by decide +kernel, by decide +kernel⟩, x_mem 946 (by decide +kernel) rfl, x_mem 31 (by decide +kernel) rfl⟩
def M_X6_frees : xM := (RX6, yX6_frees, cX6_frees, 10, none, 4, lk_X6, [(0, .aload_n 0, 1), (1, .getfield 39, 3), (4, .iconst 0, 1), (5, .iaload, 1), (6, .istore_n 1, 1), (7, .iload_n 1, 1), (8, .ifCond .lt 310, 3), (11, .aload_n 0, 1), (12, .getfield 39, 3), (15, .iconst 1, 1), (16, .iaload, 1), (17, .istore_n 2, 1), (18, .iload_n 2, 1), (19, .ifCond .lt 293, 3), (22, .bipush 11, 2), (24, .iload_n 1, 1), (25, .imul, 1), (26, .iload_n 2, 1), (27, .iadd, 1), (28, .istore_n 3, 1), (29, .iload_n 1, 1), (30, .aload_n 0, 1), (31, .getfield 39, 3), (34, .iconst 0, 1), (35, .iaload, 1), (36, .if_icmp .ne 17, 3), (39, .iload_n 2, 1), (40, .aload_n 0, 1), (41, .getfield 39, 3), (44, .iconst 1, 1), (45, .iaload, 1), (46, .if_icmp .ne 7, 3), (49, .iconst 1, 1), (50, .goto 4, 3), (53, .iconst 0, 1), (54, .istore 4, 2), (56, .aload_n 0, 1), (57, .getfield 85, 3), (60, .iload_n 3, 1), (61, .iload 4, 2), (63, .ifCond .eq 7, 3), (66, .iconst 0, 1), (67, .goto 4, 3), (70, .iconst (-1), 1), (71, .iastore, 1), (72, .aload_n 0, 1), (73, .getfield 88, 3), (76, .iload_n 3, 1), (77, .iload 4, 2), (79, .ifCond .eq 7, 3), (82, .iconst 0, 1), (83, .goto 4, 3), (86, .iconst (-1), 1), (87, .iastore, 1), (88, .aload_n 0, 1), (89, .getfield 91, 3), (92, .iload_n 3, 1), (93, .iload 4, 2), (95, .ifCond .eq 7, 3), (98, .iconst 0, 1), (99, .goto 4, 3), (102, .iconst (-1), 1), (103, .iastore, 1), (104, .aload_n 0, 1), (105, .getfield 94, 3), (108, .iload_n 3, 1), (109, .iload 4, 2), (111, .ifCond .eq 7, 3), (114, .iconst 0, 1), (115, .goto 4, 3), (118, .iconst (-1), 1), (119, .iastore, 1), (120, .aload_n 0, 1), (121, .getfield 39, 3), (124, .iconst 0, 1), (125, .iaload, 1), (126, .iload_n 1, 1), (127, .isub, 1), (128, .istore 5, 2), (130, .iload 5, 2), (132, .ifCond .lt 174, 3), (135, .aload_n 0, 1), (136, .getfield 39, 3), (139, .iconst 1, 1), (140, .iaload, 1), (141, .iload_n 2, 1), (142, .isub, 1), (143, .istore 6, 2), (145, .iload 6, 2), (147, .ifCond .lt 153, 3), (150, .bipush 11, 2), (152, .iload_n 1, 1), (153, .iload 5, 2), (155, .iadd, 1), (156, .imul, 1), (157, .iload_n 2, 1), (158, .iadd, 1), (159, .iload 6, 2), (161, .iadd, 1), (162, .istore 7, 2), (164, .aload_n 0, 1), (165, .iload_n 1, 1), (166, .iload 5, 2), (168, .iload_n 2, 1), (169, .iload 6, 2), (171, .invokevirtual 196, 3), (174, .ifCond .eq 120, 3), (177, .aload_n 0, 1), (178, .getfield 85, 3), (181, .iload 7, 2), (183, .iaload, 1), (184, .iconst (-1), 1), (185, .if_icmp .ne 6, 3), (188, .goto 106, 3), (191, .aload_n 0, 1), (192, .getfield 85, 3), (195, .iload 7, 2), (197, .iaload, 1), (198, .iconst 1, 1), (199, .iadd, 1), (200, .istore 8, 2), (202, .aload_n 0, 1), (203, .getfield 88, 3), (206, .iload 7, 2), (208, .iaload, 1), (209, .aload_n 0, 1), (210, .invokevirtual 178, 3), (213, .iadd, 1), (214, .istore 9, 2), (216, .aload_n 0, 1), (217, .getfield 85, 3), (220, .iload_n 3, 1), (221, .iaload, 1), (222, .iconst (-1), 1), (223, .if_icmp .eq 39, 3), (226, .iload 8, 2), (228, .aload_n 0, 1), (229, .getfield 85, 3), (232, .iload_n 3, 1), (233, .iaload, 1), (234, .if_icmp .gt 60, 3), (237, .iload 8, 2), (239, .aload_n 0, 1), (240, .getfield 85, 3), (243, .iload_n 3, 1), (244, .iaload, 1), (245, .if_icmp .ne 17, 3), (248, .iload 9, 2), (250, .aload_n 0, 1), (251, .getfield 88, 3), (254, .iload_n 3, 1), (255, .iaload, 1), (256, .if_icmp .lt 6, 3), (259, .goto 35, 3), (262, .aload_n 0, 1), (263, .getfield 85, 3), (266, .iload_n 3, 1), (267, .iload 8, 2), (269, .iastore, 1), (270, .aload_n 0, 1), (271, .getfield 88, 3), (274, .iload_n 3, 1), (275, .iload 9, 2), (277, .iastore, 1), (278, .aload_n 0, 1), (279, .getfield 91, 3), (282, .iload_n 3, 1), (283, .iload 5, 2), (285, .iastore, 1), (286, .aload_n 0, 1), (287, .getfield 94, 3), (290, .iload_n 3, 1), (291, .iload 6, 2), (293, .iastore, 1), (294, .iinc 6 (-1), 3), (297, .goto (-152), 3), (300, .iinc 5 (-1), 3), (303, .goto (-173), 3), (306, .iinc 2 (-1), 3), (309, .goto (-291), 3), (312, .iinc 1 (-1), 3), (315, .goto (-308), 3), (318, .return_, 1)])
set_option maxRecDepth 20000 in
theorem ok_X6_frees : x_ok M_X6_frees := x_ok_of lkok_X6 (by decide +kernel)
set_option maxRecDepth 20000 in
theorem k_X6_frees : x_calV M_X6_frees 0 := ⟨⟨x_mem 943 rfl rfl, x_mem 43 (by decide +kernel) rfl, by decide +kernel, by decide +kernel, by decide +kernel⟩, x_mem 942 (by decide +kernel) rfl, x_mem 30 (by decide +kernel) rfl⟩
def M_X6_freely : xM := (RX6, yX6_freely, cX6_freely, 2, (some .int), 5, lk_X6, [(0, .iload_n 1, 1), (1, .iconst 0, 1), (2, .iconst 3, 1), (3, .invokestatic 110, 3), (6, .ifCond .ne 6, 3), (9, .bipush (-2), 2), (11, .ireturn, 1), (12, .aload_n 0, 1), (13, .invokevirtual 200, 3), (16, .iload_n 1, 1), (17, .ifCond .ne 12, 3), (20, .aload_n 0, 1), (21, .getfield 85, 3), (24, .iconst 0, 1), (25, .iaload, 1), (26, .goto 37, 3), (29, .iload_n 1, 1), (30, .iconst 1, 1), (31, .if_icmp .ne 12, 3), (34, .aload_n 0, 1), (35, .getfield 88, 3), (38, .iconst 0, 1), (39, .iaload, 1), (40, .goto 23, 3), (43, .iload_n 1, 1), (44, .iconst 2, 1), (45, .if_icmp .ne 12, 3), (48, .aload_n 0, 1), (49, .getfield 91, 3), (52, .iconst 0, 1), (53, .iaload, 1), (54, .goto 9, 3), (57, .aload_n 0, 1), (58, .getfield 94, 3), (61, .iconst 0, 1), (62, .iaload, 1), (63, .ireturn, 1)])
set_option maxRecDepth 20000 in
theorem ok_X6_freely : x_ok M_X6_freely := x_ok_of lkok_X6 (by decide +kernel)
set_option maxRecDepth 20000 in
theorem k_X6_freely : x_calV M_X6_freely 1 := ⟨⟨x_mem 939 rfl rfl, x_mem 43 (by decide +kernel) rfl, by decide +kernel, by decide +kernel, by decide +kernel⟩, x_mem 937 (by decide +kernel) rfl, x_mem 938 (by decide +kernel) rfl⟩
def M_X6_isSheet : xM := (RX6, yX6_isSheet, cX6_isSheet, 1, (some .boolean), 1, lk_X6, [(0, .iload_n 0, 1), (1, .iconst 0, 1), (2, .iconst 3, 1), (3, .invokestatic 110, 3), (6, .ireturn, 1)])
set_option maxRecDepth 20000 in
theorem ok_X6_isSheet : x_ok M_X6_isSheet := x_ok_of lkok_X6 (by decide +kernel)
set_option maxRecDepth 20000 in
theorem k_X6_isSheet : x_calS M_X6_isSheet 1 := ⟨⟨x_mem 954 rfl rfl, x_mem 43 (by decide +kernel) rfl, by decide +kernel, by decide +kernel, by decide +kernel⟩, x_mem 953 (by decide +kernel) rfl⟩
def M_X6_unlike : xM := (RX6, yX6_unlike, cX6_unlike, 3, (some .int), 4, lk_X6, [(0, .aload_n 0, 1), (1, .invokevirtual 169, 3), (4, .iconst 0, 1), (5, .istore_n 2, 1), (6, .iload_n 2, 1), (7, .aload_n 0, 1), (8, .getfield 100, 3), (11, .iload_n 1, 1), (12, .iaload, 1), (13, .if_icmp .ge 29, 3), (16, .aload_n 0, 1), (17, .invokevirtual 172, 3), (20, .aload_n 0, 1), (21, .getfield 103, 3), (24, .bipush 40, 2), (26, .iload_n 1, 1), (27, .imul, 1), (28, .iload_n 2, 1), (29, .iadd, 1), (30, .iaload, 1), (31, .if_icmp .eq 5, 3), (34, .iload_n 2, 1), (35, .ireturn, 1), (36, .iinc 2 1, 3), (39, .goto (-33), 3), (42, .iconst (-1), 1), (43, .ireturn, 1)])
set_option maxRecDepth 20000 in
theorem ok_X6_unlike : x_ok M_X6_unlike := x_ok_of lkok_X6 (by decide +kernel)
set_option maxRecDepth 20000 in
theorem k_X6_unlike : x_calV M_X6_unlike 1 := ⟨⟨x_mem 958 rfl rfl, x_mem 43 (by decide +kernel) rfl, by decide +kernel, by decide +kernel, by decide +kernel⟩, x_mem 957 (by decide +kernel) rfl, x_mem 32 (by decide +kernel) rfl⟩
def M_X6_tells : xM := (RX6, yX6_tells, cX6_tells, 7, (some .int), 5, lk_X6, [(0, .iload_n 1, 1), (1, .invokestatic 203, 3), (4, .ifCond .eq 25, 3), (7, .iload_n 3, 1), (8, .iconst 0, 1), (9, .iconst 3, 1), (10, .invokestatic 110, 3), (13, .ifCond .eq 16, 3), (16, .iload_n 3, 1), (17, .iconst 1, 1), (18, .if_icmp .le 14, 3), (21, .aload_n 0, 1), (22, .iload_n 2, 1), (23, .invokevirtual 136, 3), (26, .ifCond .ne 6, 3), (29, .bipush (-2), 2), (31, .ireturn, 1), (32, .iload_n 3, 1), (33, .iconst 1, 1), (34, .if_icmp .le 15, 3), (37, .aload_n 0, 1), (38, .getfield 30, 3), (41, .iload_n 2, 1), (42, .iaload, 1), (43, .ifCond .eq 6, 3), (46, .bipush (-3), 2), (48, .ireturn, 1), (49, .aload_n 0, 1), (50, .getfield 97, 3), (53, .iload_n 1, 1), (54, .iaload, 1), (55, .ifCond .ne 6, 3), (58, .bipush (-11), 2), (60, .ireturn, 1), (61, .aload_n 0, 1), (62, .getfield 100, 3), (65, .iload_n 1, 1), (66, .iaload, 1), (67, .bipush 8, 2), (69, .if_icmp .le 6, 3), (72, .bipush (-2), 2), (74, .ireturn, 1), (75, .iload_n 3, 1), (76, .ifCond .ne 9, 3), (79, .aload_n 0, 1), (80, .iload_n 1, 1), (81, .invokevirtual 206, 3), (84, .ireturn, 1), (85, .iconst 0, 1), (86, .istore 4, 2), (88, .iload_n 3, 1), (89, .iconst 1, 1), (90, .if_icmp .ne 63, 3), (93, .aload_n 0, 1), (94, .getfield 42, 3), (97, .iconst 4, 1), (98, .iaload, 1), (99, .istore 5, 2), (101, .iconst 0, 1), (102, .istore 6, 2), (104, .iload 6, 2), (106, .iconst 5, 1), (107, .if_icmp .ge 35, 3), (110, .aload_n 0, 1), (111, .getfield 42, 3), (114, .iconst 4, 1), (115, .iload 6, 2), (117, .iastore, 1), (118, .aload_n 0, 1), (119, .iload_n 1, 1), (120, .invokevirtual 206, 3), (123, .iconst (-1), 1), (124, .if_icmp .ne 12, 3), (127, .iload 4, 2), (129, .iconst 1, 1), (130, .iload 6, 2), (132, .ishl, 1), (133, .ior, 1), (134, .istore 4, 2), (136, .iinc 6 1, 3), (139, .goto (-35), 3), (142, .aload_n 0, 1), (143, .getfield 42, 3), (146, .iconst 4, 1), (147, .iload 5, 2), (149, .iastore, 1), (150, .goto 127, 3), (153, .iload_n 3, 1), (154, .iconst 2, 1), (155, .if_icmp .ne 64, 3), (158, .aload_n 0, 1), (159, .getfield 9, 3), (162, .iload_n 2, 1), (163, .iaload, 1), (164, .istore 5, 2), (166, .iconst 0, 1), (167, .istore 6, 2), (169, .iload 6, 2), (171, .bipush 6, 2), (173, .if_icmp .ge 35, 3), (176, .aload_n 0, 1), (177, .getfield 9, 3), (180, .iload_n 2, 1), (181, .iload 6, 2), (183, .iastore, 1), (184, .aload_n 0, 1), (185, .iload_n 1, 1), (186, .invokevirtual 206, 3), (189, .iconst (-1), 1), (190, .if_icmp .ne 12, 3), (193, .iload 4, 2), (195, .iconst 1, 1), (196, .iload 6, 2), (198, .ishl, 1), (199, .ior, 1), (200, .istore 4, 2), (202, .iinc 6 1, 3), (205, .goto (-36), 3), (208, .aload_n 0, 1), (209, .getfield 9, 3), (212, .iload_n 2, 1), (213, .iload 5, 2), (215, .iastore, 1), (216, .goto 61, 3), (219, .aload_n 0, 1), (220, .getfield 15, 3), (223, .iload_n 2, 1), (224, .iaload, 1), (225, .istore 5, 2), (227, .iconst 1, 1), (228, .istore 6, 2), (230, .iload 6, 2), (232, .bipush 10, 2), (234, .if_icmp .ge 35, 3), (237, .aload_n 0, 1), (238, .getfield 15, 3), (241, .iload_n 2, 1), (242, .iload 6, 2), (244, .iastore, 1), (245, .aload_n 0, 1), (246, .iload_n 1, 1), (247, .invokevirtual 206, 3), (250, .iconst (-1), 1), (251, .if_icmp .ne 12, 3), (254, .iload 4, 2), (256, .iconst 1, 1), (257, .iload 6, 2), (259, .ishl, 1), (260, .ior, 1), (261, .istore 4, 2), (263, .iinc 6 1, 3), (266, .goto (-36), 3), (269, .aload_n 0, 1), (270, .getfield 15, 3), (273, .iload_n 2, 1), (274, .iload 5, 2), (276, .iastore, 1), (277, .iload 4, 2), (279, .ireturn, 1)])
set_option maxRecDepth 20000 in
theorem ok_X6_tells : x_ok M_X6_tells := x_ok_of lkok_X6 (by decide +kernel)
set_option maxRecDepth 20000 in
theorem k_X6_tells : x_calV M_X6_tells 3 := ⟨⟨x_mem 951 rfl rfl, x_mem 43 (by decide +kernel) rfl, by decide +kernel, by decide +kernel, by decide +kernel⟩, x_mem 949 (by decide +kernel) rfl, x_mem 950 (by decide +kernel) rfl⟩
def M_X6_film : xM := (RX6, yX6_film, cX6_film, 4, (some .int), 4, lk_X6, [(0, .iload_n 1, 1), (1, .invokestatic 203, 3), (4, .ifCond .eq 13, 3), (7, .iload_n 2, 1), (8, .iconst 0, 1), (9, .bipush 8, 2), (11, .invokestatic 110, 3), (14, .ifCond .ne 6, 3), (17, .bipush (-2), 2), (19, .ireturn, 1), (20, .aload_n 0, 1), (21, .invokevirtual 169, 3), (24, .aload_n 0, 1), (25, .getfield 97, 3), (28, .iload_n 1, 1), (29, .iconst 1, 1), (30, .iastore, 1), (31, .aload_n 0, 1), (32, .getfield 100, 3), (35, .iload_n 1, 1), (36, .iload_n 2, 1), (37, .iastore, 1), (38, .iconst 0, 1), (39, .istore_n 3, 1), (40, .iload_n 3, 1), (41, .bipush 40, 2), (43, .if_icmp .ge 33, 3), (46, .aload_n 0, 1), (47, .getfield 103, 3), (50, .bipush 40, 2), (52, .iload_n 1, 1), (53, .imul, 1), (54, .iload_n 3, 1), (55, .iadd, 1), (56, .iload_n 3, 1), (57, .iload_n 2, 1), (58, .if_icmp .ge 10, 3), (61, .aload_n 0, 1), (62, .invokevirtual 172, 3), (65, .goto 4, 3), (68, .iconst 0, 1), (69, .iastore, 1), (70, .iinc 3 1, 3), (73, .goto (-33), 3), (76, .iload_n 2, 1), (77, .ireturn, 1)])
set_option maxRecDepth 20000 in
theorem ok_X6_film : x_ok M_X6_film := x_ok_of lkok_X6 (by decide +kernel)
set_option maxRecDepth 20000 in
theorem k_X6_film : x_calV M_X6_film 2 := ⟨⟨x_mem 962 rfl rfl, x_mem 43 (by decide +kernel) rfl, by decide +kernel, by decide +kernel, by decide +kernel⟩, x_mem 960 (by decide +kernel) rfl, x_mem 961 (by decide +kernel) rfl⟩
def M_X6_moves : xM := (RX6, yX6_moves, cX6_moves, 6, (some .int), 0, lk_X6, [(0, .iconst 0, 1), (1, .istore 5, 2), (3, .iload 5, 2), (5, .iload_n 3, 1), (6, .if_icmp .ge 43, 3), (9, .iload 4, 2), (11, .ifCond .eq 19, 3), (14, .aload_n 2, 1), (15, .iload 5, 2), (17, .aload_n 0, 1), (18, .getfield 58, 3), (21, .iload_n 1, 1), (22, .iload 5, 2), (24, .iadd, 1), (25, .iaload, 1), (26, .iastore, 1), (27, .goto 16, 3), (30, .aload_n 0, 1), (31, .getfield 58, 3), (34, .iload_n 1, 1), (35, .iload 5, 2), (37, .iadd, 1), (38, .aload_n 2, 1), (39, .iload 5, 2), (41, .iaload, 1), (42, .iastore, 1), (43, .iinc 5 1, 3), (46, .goto (-43), 3), (49, .iload_n 1, 1), (50, .iload_n 3, 1), (51, .iadd, 1), (52, .ireturn, 1)])
set_option maxRecDepth 20000 in
theorem ok_X6_moves : x_ok M_X6_moves := x_ok_of lkok_X6 (by decide +kernel)
set_option maxRecDepth 20000 in
theorem k_X6_moves : x_calV M_X6_moves 4 := ⟨⟨x_mem 974 rfl rfl, x_mem 43 (by decide +kernel) rfl, by decide +kernel, by decide +kernel, by decide +kernel⟩, x_mem 973 (by decide +kernel) rfl, x_mem 34 (by decide +kernel) rfl⟩
def M_X6_images : xM := (RX6, yX6_images, cX6_images, 4, none, 1, lk_X6, [(0, .aload_n 0, 1), (1, .iconst 0, 1), (2, .aload_n 0, 1), (3, .getfield 9, 3), (6, .bipush 10, 2), (8, .iload_n 1, 1), (9, .invokevirtual 209, 3), (12, .istore_n 2, 1), (13, .aload_n 0, 1), (14, .iload_n 2, 1), (15, .aload_n 0, 1), (16, .getfield 15, 3), (19, .bipush 10, 2), (21, .iload_n 1, 1), (22, .invokevirtual 209, 3), (25, .istore_n 2, 1), (26, .aload_n 0, 1), (27, .iload_n 2, 1), (28, .aload_n 0, 1), (29, .getfield 18, 3), (32, .bipush 10, 2), (34, .iload_n 1, 1), (35, .invokevirtual 209, 3), (38, .istore_n 2, 1), (39, .aload_n 0, 1), (40, .iload_n 2, 1), (41, .aload_n 0, 1), (42, .getfield 21, 3), (45, .bipush 10, 2), (47, .iload_n 1, 1), (48, .invokevirtual 209, 3), (51, .istore_n 2, 1), (52, .aload_n 0, 1), (53, .iload_n 2, 1), (54, .aload_n 0, 1), (55, .getfield 24, 3), (58, .bipush 10, 2), (60, .iload_n 1, 1), (61, .invokevirtual 209, 3), (64, .istore_n 2, 1), (65, .aload_n 0, 1), (66, .iload_n 2, 1), (67, .aload_n 0, 1), (68, .getfield 27, 3), (71, .bipush 10, 2), (73, .iload_n 1, 1), (74, .invokevirtual 209, 3), (77, .istore_n 2, 1), (78, .aload_n 0, 1), (79, .iload_n 2, 1), (80, .aload_n 0, 1), (81, .getfield 30, 3), (84, .bipush 10, 2), (86, .iload_n 1, 1), (87, .invokevirtual 209, 3), (90, .istore_n 2, 1), (91, .aload_n 0, 1), (92, .iload_n 2, 1), (93, .aload_n 0, 1), (94, .getfield 33, 3), (97, .bipush 10, 2), (99, .iload_n 1, 1), (100, .invokevirtual 209, 3), (103, .istore_n 2, 1), (104, .aload_n 0, 1), (105, .iload_n 2, 1), (106, .aload_n 0, 1), (107, .getfield 36, 3), (110, .bipush 20, 2), (112, .iload_n 1, 1), (113, .invokevirtual 209, 3), (116, .istore_n 2, 1), (117, .aload_n 0, 1), (118, .iload_n 2, 1), (119, .aload_n 0, 1), (120, .getfield 39, 3), (123, .iconst 2, 1), (124, .iload_n 1, 1), (125, .invokevirtual 209, 3), (128, .istore_n 2, 1), (129, .aload_n 0, 1), (130, .iload_n 2, 1), (131, .aload_n 0, 1), (132, .getfield 42, 3), (135, .iconst 5, 1), (136, .iload_n 1, 1), (137, .invokevirtual 209, 3), (140, .istore_n 2, 1), (141, .aload_n 0, 1), (142, .iload_n 2, 1), (143, .aload_n 0, 1), (144, .getfield 49, 3), (147, .bipush 100, 2), (149, .iload_n 1, 1), (150, .invokevirtual 209, 3), (153, .istore_n 2, 1), (154, .aload_n 0, 1), (155, .iload_n 2, 1), (156, .aload_n 0, 1), (157, .getfield 52, 3), (160, .bipush 40, 2), (162, .iload_n 1, 1), (163, .invokevirtual 209, 3), (166, .istore_n 2, 1), (167, .iconst 0, 1), (168, .istore_n 3, 1), (169, .iload_n 3, 1), (170, .bipush 60, 2), (172, .if_icmp .ge 61, 3), (175, .iload_n 1, 1), (176, .ifCond .eq 29, 3), (179, .aload_n 0, 1), (180, .getfield 45, 3), (183, .iload_n 3, 1), (184, .aload_n 0, 1), (185, .getfield 58, 3), (188, .iload_n 2, 1), (189, .iload_n 3, 1), (190, .iadd, 1), (191, .iaload, 1), (192, .iconst 1, 1), (193, .if_icmp .ne 7, 3), (196, .iconst 1, 1), (197, .goto 4, 3), (200, .iconst 0, 1), (201, .bastore, 1), (202, .goto 25, 3), (205, .aload_n 0, 1), (206, .getfield 58, 3), (209, .iload_n 2, 1), (210, .iload_n 3, 1), (211, .iadd, 1), (212, .aload_n 0, 1), (213, .getfield 45, 3), (216, .iload_n 3, 1), (217, .baload, 1), (218, .ifCond .eq 7, 3), (221, .iconst 1, 1), (222, .goto 4, 3), (225, .iconst 0, 1), (226, .iastore, 1), (227, .iinc 3 1, 3), (230, .goto (-61), 3), (233, .iinc 2 60, 3), (236, .iload_n 1, 1), (237, .ifCond .eq 28, 3), (240, .aload_n 0, 1), (241, .aload_n 0, 1), (242, .getfield 58, 3), (245, .iload_n 2, 1), (246, .iaload, 1), (247, .putfield 106, 3), (250, .aload_n 0, 1), (251, .aload_n 0, 1), (252, .getfield 58, 3), (255, .iload_n 2, 1), (256, .iconst 1, 1), (257, .iadd, 1), (258, .iaload, 1), (259, .putfield 146, 3), (262, .goto 25, 3), (265, .aload_n 0, 1), (266, .getfield 58, 3), (269, .iload_n 2, 1), (270, .aload_n 0, 1), (271, .getfield 106, 3), (274, .iastore, 1), (275, .aload_n 0, 1), (276, .getfield 58, 3), (279, .iload_n 2, 1), (280, .iconst 1, 1), (281, .iadd, 1), (282, .aload_n 0, 1), (283, .getfield 146, 3), (286, .iastore, 1), (287, .return_, 1)])
set_option maxRecDepth 20000 in
theorem ok_X6_images : x_ok M_X6_images := x_ok_of lkok_X6 (by decide +kernel)
set_option maxRecDepth 20000 in
theorem k_X6_images : x_calV M_X6_images 1 := ⟨⟨x_mem 970 rfl rfl, x_mem 43 (by decide +kernel) rfl, by decide +kernel, by decide +kernel, by decide +kernel⟩, x_mem 969 (by decide +kernel) rfl, x_mem 33 (by decide +kernel) rfl⟩
def M_X6_image : xM := (RX6, yX6_image, cX6_image, 1, (some .int), 2, lk_X6, [(0, .aload_n 0, 1), (1, .iconst 1, 1), (2, .putfield 213, 3), (5, .aload_n 0, 1), (6, .iconst 0, 1), (7, .invokevirtual 217, 3), (10, .aload_n 0, 1), (11, .getfield 106, 3), (14, .ireturn, 1)])
set_option maxRecDepth 20000 in
theorem ok_X6_image : x_ok M_X6_image := x_ok_of lkok_X6 (by decide +kernel)
set_option maxRecDepth 20000 in
theorem k_X6_image : x_calV M_X6_image 0 := ⟨⟨x_mem 966 rfl rfl, x_mem 43 (by decide +kernel) rfl, by decide +kernel, by decide +kernel, by decide +kernel⟩, x_mem 964 (by decide +kernel) rfl, x_mem 965 (by decide +kernel) rfl⟩
def M_X6_back : xM := (RX6, yX6_back, cX6_back, 1, (some .int), 2, lk_X6, [(0, .aload_n 0, 1), (1, .getfield 213, 3), (4, .ifCond .ne 6, 3), (7, .bipush (-3), 2), (9, .ireturn, 1), (10, .aload_n 0, 1), (11, .iconst 1, 1), (12, .invokevirtual 217, 3), (15, .aload_n 0, 1), (16, .iconst 0, 1), (17, .putfield 115, 3), (20, .aload_n 0, 1), (21, .getfield 106, 3), (24, .ireturn, 1)])
set_option maxRecDepth 20000 in
theorem ok_X6_back : x_ok M_X6_back := x_ok_of lkok_X6 (by decide +kernel)
set_option maxRecDepth 20000 in
theorem k_X6_back : x_calV M_X6_back 0 := ⟨⟨x_mem 978 rfl rfl, x_mem 43 (by decide +kernel) rfl, by decide +kernel, by decide +kernel, by decide +kernel⟩, x_mem 976 (by decide +kernel) rfl, x_mem 977 (by decide +kernel) rfl⟩
def M_X6_sheet : xM := (RX6, yX6_sheet, cX6_sheet, 5, (some .int), 2, lk_X6, [(0, .iload_n 1, 1), (1, .invokestatic 203, 3), (4, .ifCond .eq 22, 3), (7, .iload_n 2, 1), (8, .iconst (-1), 1), (9, .iconst 1, 1), (10, .invokestatic 110, 3), (13, .ifCond .eq 13, 3), (16, .iload_n 2, 1), (17, .ifCond .lt 12, 3), (20, .iload_n 3, 1), (21, .bipush 40, 2), (23, .if_icmp .le 6, 3), (26, .bipush (-2), 2), (28, .ireturn, 1), (29, .iload_n 2, 1), (30, .ifCond .lt 10, 3), (33, .iload_n 3, 1), (34, .ifCond .ge 6, 3), (37, .bipush (-14), 2), (39, .ireturn, 1), (40, .aload_n 0, 1), (41, .getfield 97, 3), (44, .iload_n 1, 1), (45, .iload_n 2, 1), (46, .iconst 1, 1), (47, .iadd, 1), (48, .iastore, 1), (49, .aload_n 0, 1), (50, .getfield 100, 3), (53, .iload_n 1, 1), (54, .iload_n 2, 1), (55, .ifCond .ge 7, 3), (58, .iconst 0, 1), (59, .goto 4, 3), (62, .iload_n 3, 1), (63, .iastore, 1), (64, .iconst 0, 1), (65, .istore 4, 2), (67, .iload 4, 2), (69, .bipush 40, 2), (71, .if_icmp .ge 22, 3), (74, .aload_n 0, 1), (75, .getfield 103, 3), (78, .bipush 40, 2), (80, .iload_n 1, 1), (81, .imul, 1), (82, .iload 4, 2), (84, .iadd, 1), (85, .iconst 0, 1), (86, .iastore, 1), (87, .iinc 4 1, 3), (90, .goto (-23), 3), (93, .iconst 1, 1), (94, .ireturn, 1)])
set_option maxRecDepth 20000 in
theorem ok_X6_sheet : x_ok M_X6_sheet := x_ok_of lkok_X6 (by decide +kernel)
set_option maxRecDepth 20000 in
theorem k_X6_sheet : x_calV M_X6_sheet 3 := ⟨⟨x_mem 982 rfl rfl, x_mem 43 (by decide +kernel) rfl, by decide +kernel, by decide +kernel, by decide +kernel⟩, x_mem 980 (by decide +kernel) rfl, x_mem 981 (by decide +kernel) rfl⟩
def M_X6_put : xM := (RX6, yX6_put, cX6_put, 4, (some .int), 2, lk_X6, [(0, .iload_n 1, 1), (1, .invokestatic 203, 3), (4, .ifCond .ne 6, 3), (7, .bipush (-2), 2), (9, .ireturn, 1), (10, .aload_n 0, 1), (11, .getfield 97, 3), (14, .iload_n 1, 1), (15, .iaload, 1), (16, .ifCond .ne 6, 3), (19, .bipush (-11), 2), (21, .ireturn, 1), (22, .iload_n 2, 1), (23, .iconst 0, 1), (24, .aload_n 0, 1), (25, .getfield 100, 3), (28, .iload_n 1, 1), (29, .iaload, 1), (30, .iconst 1, 1), (31, .isub, 1), (32, .invokestatic 110, 3), (35, .ifCond .ne 6, 3), (38, .bipush (-12), 2), (40, .ireturn, 1), (41, .aload_n 0, 1), (42, .getfield 103, 3), (45, .bipush 40, 2), (47, .iload_n 1, 1), (48, .imul, 1), (49, .iload_n 2, 1), (50, .iadd, 1), (51, .aload_n 0, 1), (52, .getfield 97, 3), (55, .iload_n 1, 1), (56, .iaload, 1), (57, .iconst 1, 1), (58, .if_icmp .ne 8, 3), (61, .iload_n 3, 1), (62, .i2b, 1), (63, .goto 4, 3), (66, .iload_n 3, 1), (67, .iastore, 1), (68, .iconst 1, 1), (69, .ireturn, 1)])
set_option maxRecDepth 20000 in
theorem ok_X6_put : x_ok M_X6_put := x_ok_of lkok_X6 (by decide +kernel)
set_option maxRecDepth 20000 in
theorem k_X6_put : x_calV M_X6_put 3 := ⟨⟨x_mem 986 rfl rfl, x_mem 43 (by decide +kernel) rfl, by decide +kernel, by decide +kernel, by decide +kernel⟩, x_mem 984 (by decide +kernel) rfl, x_mem 985 (by decide +kernel) rfl⟩
def M_X6_copy : xM := (RX6, yX6_copy, cX6_copy, 7, (some .int), 2, lk_X6, [(0, .iload_n 1, 1), (1, .invokestatic 203, 3), (4, .ifCond .eq 10, 3), (7, .iload_n 3, 1), (8, .invokestatic 203, 3), (11, .ifCond .ne 6, 3), (14, .bipush (-2), 2), (16, .ireturn, 1), (17, .aload_n 0, 1), (18, .getfield 97, 3), (21, .iload_n 1, 1), (22, .iaload, 1), (23, .ifCond .eq 12, 3), (26, .aload_n 0, 1), (27, .getfield 97, 3), (30, .iload_n 3, 1), (31, .iaload, 1), (32, .ifCond .ne 6, 3), (35, .bipush (-11), 2), (37, .ireturn, 1), (38, .aload_n 0, 1), (39, .getfield 97, 3), (42, .iload_n 1, 1), (43, .iaload, 1), (44, .aload_n 0, 1), (45, .getfield 97, 3), (48, .iload_n 3, 1), (49, .iaload, 1), (50, .if_icmp .eq 6, 3), (53, .bipush (-13), 2), (55, .ireturn, 1), (56, .iload 5, 2), (58, .ifCond .lt 47, 3), (61, .iload_n 2, 1), (62, .ifCond .lt 43, 3), (65, .iload 4, 2), (67, .ifCond .lt 38, 3), (70, .iload_n 2, 1), (71, .i2l, 1), (72, .iload 5, 2), (74, .i2l, 1), (75, .ladd, 1), (76, .aload_n 0, 1), (77, .getfield 100, 3), (80, .iload_n 1, 1), (81, .iaload, 1), (82, .i2l, 1), (83, .lcmp, 1), (84, .ifCond .gt 21, 3), (87, .iload 4, 2), (89, .i2l, 1), (90, .iload 5, 2), (92, .i2l, 1), (93, .ladd, 1), (94, .aload_n 0, 1), (95, .getfield 100, 3), (98, .iload_n 3, 1), (99, .iaload, 1), (100, .i2l, 1), (101, .lcmp, 1), (102, .ifCond .le 6, 3), (105, .bipush (-12), 2), (107, .ireturn, 1), (108, .iload_n 1, 1), (109, .iload_n 3, 1), (110, .if_icmp .ne 58, 3), (113, .iload_n 2, 1), (114, .iload 4, 2), (116, .if_icmp .ge 52, 3), (119, .iload 5, 2), (121, .iconst 1, 1), (122, .isub, 1), (123, .istore 6, 2), (125, .iload 6, 2), (127, .ifCond .lt 38, 3), (130, .aload_n 0, 1), (131, .getfield 103, 3), (134, .bipush 40, 2), (136, .iload_n 3, 1), (137, .imul, 1), (138, .iload 4, 2), (140, .iadd, 1), (141, .iload 6, 2), (143, .iadd, 1), (144, .aload_n 0, 1), (145, .getfield 103, 3), (148, .bipush 40, 2), (150, .iload_n 1, 1), (151, .imul, 1), (152, .iload_n 2, 1), (153, .iadd, 1), (154, .iload 6, 2), (156, .iadd, 1), (157, .iaload, 1), (158, .iastore, 1), (159, .iinc 6 (-1), 3), (162, .goto (-37), 3), (165, .goto 48, 3), (168, .iconst 0, 1), (169, .istore 6, 2), (171, .iload 6, 2), (173, .iload 5, 2), (175, .if_icmp .ge 38, 3), (178, .aload_n 0, 1), (179, .getfield 103, 3), (182, .bipush 40, 2), (184, .iload_n 3, 1), (185, .imul, 1), (186, .iload 4, 2), (188, .iadd, 1), (189, .iload 6, 2), (191, .iadd, 1), (192, .aload_n 0, 1), (193, .getfield 103, 3), (196, .bipush 40, 2), (198, .iload_n 1, 1), (199, .imul, 1), (200, .iload_n 2, 1), (201, .iadd, 1), (202, .iload 6, 2), (204, .iadd, 1), (205, .iaload, 1), (206, .iastore, 1), (207, .iinc 6 1, 3), (210, .goto (-39), 3), (213, .iload 5, 2), (215, .ireturn, 1)])
set_option maxRecDepth 20000 in
theorem ok_X6_copy : x_ok M_X6_copy := x_ok_of lkok_X6 (by decide +kernel)
set_option maxRecDepth 20000 in
theorem k_X6_copy : x_calV M_X6_copy 5 := ⟨⟨x_mem 990 rfl rfl, x_mem 43 (by decide +kernel) rfl, by decide +kernel, by decide +kernel, by decide +kernel⟩, x_mem 988 (by decide +kernel) rfl, x_mem 989 (by decide +kernel) rfl⟩
def M_X6_load : xM := (RX6, yX6_load, cX6_load, 10, (some .int), 2, lk_X6, [(0, .iload_n 1, 1), (1, .invokestatic 203, 3), (4, .ifCond .eq 23, 3), (7, .iload_n 2, 1), (8, .iconst 0, 1), (9, .iconst 1, 1), (10, .invokestatic 110, 3), (13, .ifCond .eq 14, 3), (16, .iload 4, 2), (18, .iconst 0, 1), (19, .bipush 10, 2), (21, .invokestatic 110, 3), (24, .ifCond .ne 6, 3), (27, .bipush (-2), 2), (29, .ireturn, 1), (30, .aload_n 0, 1), (31, .getfield 97, 3), (34, .iload_n 1, 1), (35, .iaload, 1), (36, .ifCond .eq 18, 3), (39, .aload_n 0, 1), (40, .getfield 97, 3), (43, .iload_n 1, 1), (44, .iaload, 1), (45, .iload_n 2, 1), (46, .iconst 1, 1), (47, .iadd, 1), (48, .if_icmp .eq 6, 3), (51, .bipush (-13), 2), (53, .ireturn, 1), (54, .aload_n 0, 1), (55, .getfield 97, 3), (58, .iload_n 1, 1), (59, .iaload, 1), (60, .ifCond .ne 6, 3), (63, .bipush (-11), 2), (65, .ireturn, 1), (66, .iconst 0, 1), (67, .istore 5, 2), (69, .iconst 0, 1), (70, .istore 6, 2), (72, .iload 6, 2), (74, .iload 4, 2), (76, .if_icmp .ge 111, 3), (79, .iload_n 3, 1), (80, .i2l, 1), (81, .ldc2_w 221, 3), (84, .iload 6, 2), (86, .i2l, 1), (87, .lmul, 1), (88, .ladd, 1), (89, .lstore 7, 2), (91, .lload 7, 2), (93, .lconst 0, 1), (94, .lcmp, 1), (95, .ifCond .lt 20, 3), (98, .lload 7, 2), (100, .ldc2_w 223, 3), (103, .ladd, 1), (104, .aload_n 0, 1), (105, .getfield 100, 3), (108, .iload_n 1, 1), (109, .iaload, 1), (110, .i2l, 1), (111, .lcmp, 1), (112, .ifCond .lt 6, 3), (115, .bipush (-12), 2), (117, .ireturn, 1), (118, .bipush 40, 2), (120, .iload_n 1, 1), (121, .imul, 1), (122, .lload 7, 2), (124, .l2i, 1), (125, .iadd, 1), (126, .istore 9, 2), (128, .aload_n 0, 1), (129, .aload_n 0, 1), (130, .getfield 103, 3), (133, .iload 9, 2), (135, .iaload, 1), (136, .aload_n 0, 1), (137, .getfield 103, 3), (140, .iload 9, 2), (142, .iconst 1, 1), (143, .iadd, 1), (144, .iaload, 1), (145, .aload_n 0, 1), (146, .getfield 103, 3), (149, .iload 9, 2), (151, .iconst 2, 1), (152, .iadd, 1), (153, .iaload, 1), (154, .aload_n 0, 1), (155, .getfield 103, 3), (158, .iload 9, 2), (160, .iconst 3, 1), (161, .iadd, 1), (162, .iaload, 1), (163, .aload_n 0, 1), (164, .getfield 103, 3), (167, .iload 9, 2), (169, .iconst 4, 1), (170, .iadd, 1), (171, .iaload, 1), (172, .invokevirtual 118, 3), (175, .ifCond .lt 6, 3), (178, .iinc 5 1, 3), (181, .iinc 6 1, 3), (184, .goto (-112), 3), (187, .iload 5, 2), (189, .ireturn, 1)])
set_option maxRecDepth 20000 in
theorem ok_X6_load : x_ok M_X6_load := x_ok_of lkok_X6 (by decide +kernel)
set_option maxRecDepth 20000 in
theorem k_X6_load : x_calV M_X6_load 4 := ⟨⟨x_mem 994 rfl rfl, x_mem 43 (by decide +kernel) rfl, by decide +kernel, by decide +kernel, by decide +kernel⟩, x_mem 992 (by decide +kernel) rfl, x_mem 993 (by decide +kernel) rfl⟩
def M_J6_bitCount_0f7a4 : xM := (RJ6, yJ6_bitCount_0f7a4, cJ6_bitCount_0f7a4, 1, (some .int), 0, lk_J6, [(0, .iload_n 0, 1), (1, .iload_n 0, 1), (2, .iconst 1, 1), (3, .iushr, 1), (4, .ldc_w 265, 3), (7, .iand, 1), (8, .isub, 1), (9, .istore_n 0, 1), (10, .iload_n 0, 1), (11, .ldc_w 266, 3), (14, .iand, 1), (15, .iload_n 0, 1), (16, .iconst 2, 1), (17, .iushr, 1), (18, .ldc_w 266, 3), (21, .iand, 1), (22, .iadd, 1), (23, .istore_n 0, 1), (24, .iload_n 0, 1), (25, .iload_n 0, 1), (26, .iconst 4, 1), (27, .iushr, 1), (28, .iadd, 1), (29, .ldc_w 267, 3), (32, .iand, 1), (33, .istore_n 0, 1), (34, .iload_n 0, 1), (35, .iload_n 0, 1), (36, .bipush 8, 2), (38, .iushr, 1), (39, .iadd, 1), (40, .istore_n 0, 1), (41, .iload_n 0, 1), (42, .iload_n 0, 1), (43, .bipush 16, 2), (45, .iushr, 1), (46, .iadd, 1), (47, .istore_n 0, 1), (48, .iload_n 0, 1), (49, .bipush 63, 2), (51, .iand, 1), (52, .ireturn, 1)])
set_option maxRecDepth 20000 in
theorem ok_J6_bitCount_0f7a4 : x_ok M_J6_bitCount_0f7a4 := x_ok_of lkok_J6 (by decide +kernel)
set_option maxRecDepth 20000 in
theorem k_J6_bitCount_0f7a4 : x_calS M_J6_bitCount_0f7a4 1 := ⟨⟨x_mem 381 rfl rfl, x_mem 45 (by decide +kernel) rfl, by decide +kernel, by decide +kernel, by decide +kernel⟩, x_mem 380 (by decide +kernel) rfl⟩
def M_J7_fill_53178 : xM := (RJ7, yJ7_fill_53178, cJ7_fill_53178, 4, none, 0, lk_J7, [(0, .iconst 0, 1), (1, .istore_n 2, 1), (2, .aload_n 0, 1), (3, .arraylength, 1), (4, .istore_n 3, 1), (5, .iload_n 2, 1), (6, .iload_n 3, 1), (7, .if_icmp .ge 13, 3), (10, .aload_n 0, 1), (11, .iload_n 2, 1), (12, .iload_n 1, 1), (13, .iastore, 1), (14, .iinc 2 1, 3), (17, .goto (-12), 3), (20, .return_, 1)])
set_option maxRecDepth 20000 in
theorem ok_J7_fill_53178 : x_ok M_J7_fill_53178 := x_ok_of lkok_J7 (by decide +kernel)
set_option maxRecDepth 20000 in
theorem k_J7_fill_53178 : x_calS M_J7_fill_53178 2 := ⟨⟨x_mem 72 rfl rfl, x_mem 38 (by decide +kernel) rfl, by decide +kernel, by decide +kernel, by decide +kernel⟩, x_mem 71 (by decide +kernel) rfl⟩
end
section
set_option maxRecDepth 20000 in
theorem ln_X0_26 : Cond.methodLink RX0 26 yX0_sortByComes ∈ x_tbl := x_mem 510 (by decide +kernel) rfl
set_option maxRecDepth 20000 in
theorem ln_X0_29 : Cond.methodLink RX0 29 yJ7_fill_53178 ∈ x_tbl := x_mem 514 (by decide +kernel) rfl
set_option maxRecDepth 20000 in
theorem ln_X0_47 : Cond.methodLink RX0 47 yX0_comeBy ∈ x_tbl := x_mem 515 (by decide +kernel) rfl
set_option maxRecDepth 20000 in
theorem ln_X0_51 : Cond.methodLink RX0 51 yX2_byRule ∈ x_tbl := x_mem 519 (by decide +kernel) rfl
set_option maxRecDepth 20000 in
theorem ln_X0_57 : Cond.methodLink RX0 57 yX0_begin ∈ x_tbl := x_mem 520 (by decide +kernel) rfl
set_option maxRecDepth 20000 in
theorem ln_X0_64 : Cond.methodLink RX0 64 yX0_nextComes ∈ x_tbl := x_mem 524 (by decide +kernel) rfl
set_option maxRecDepth 20000 in
theorem ln_X0_75 : Cond.methodLink RX0 75 yX0_ahead ∈ x_tbl := x_mem 540 (by decide +kernel) rfl
set_option maxRecDepth 20000 in
theorem ln_X1_37 : Cond.methodLink RX1 37 yX3_waitersOf ∈ x_tbl := x_mem 561 (by decide +kernel) rfl
set_option maxRecDepth 20000 in
theorem ln_X1_43 : Cond.methodLink RX1 43 yX1_settle ∈ x_tbl := x_mem 565 (by decide +kernel) rfl
set_option maxRecDepth 20000 in
theorem ln_X1_60 : Cond.methodLink RX1 60 yX2_begin ∈ x_tbl := x_mem 569 (by decide +kernel) rfl
set_option maxRecDepth 20000 in
theorem ln_X1_63 : Cond.methodLink RX1 63 yX3_waiter ∈ x_tbl := x_mem 570 (by decide +kernel) rfl
set_option maxRecDepth 20000 in
theorem ln_X1_67 : Cond.methodLink RX1 67 yX2_enter ∈ x_tbl := x_mem 571 (by decide +kernel) rfl
set_option maxRecDepth 20000 in
theorem ln_X1_71 : Cond.methodLink RX1 71 yX2_become ∈ x_tbl := x_mem 572 (by decide +kernel) rfl
set_option maxRecDepth 20000 in
theorem ln_X1_75 : Cond.methodLink RX1 75 yX1_weigh ∈ x_tbl := x_mem 576 (by decide +kernel) rfl
set_option maxRecDepth 20000 in
theorem ln_X1_79 : Cond.methodLink RX1 79 yX1_stateOf ∈ x_tbl := x_mem 580 (by decide +kernel) rfl
set_option maxRecDepth 20000 in
theorem ln_X1_82 : Cond.methodLink RX1 82 yX2_spends ∈ x_tbl := x_mem 583 (by decide +kernel) rfl
set_option maxRecDepth 20000 in
theorem ln_X2_59 : Cond.methodLink RX2 59 yX3_isShip ∈ x_tbl := x_mem 424 (by decide +kernel) rfl
set_option maxRecDepth 20000 in
theorem ln_X2_66 : Cond.methodLink RX2 66 yX3_span ∈ x_tbl := x_mem 430 (by decide +kernel) rfl
set_option maxRecDepth 20000 in
theorem ln_X2_70 : Cond.methodLink RX2 70 yX2_firstRun ∈ x_tbl := x_mem 435 (by decide +kernel) rfl
set_option maxRecDepth 20000 in
theorem ln_X2_73 : Cond.methodLink RX2 73 yX2_run ∈ x_tbl := x_mem 439 (by decide +kernel) rfl
set_option maxRecDepth 20000 in
theorem ln_X2_78 : Cond.methodLink RX2 78 yX2_begin ∈ x_tbl := x_mem 409 (by decide +kernel) rfl
set_option maxRecDepth 20000 in
theorem ln_X2_81 : Cond.methodLink RX2 81 yX2_nextHead ∈ x_tbl := x_mem 416 (by decide +kernel) rfl
set_option maxRecDepth 20000 in
theorem ln_X2_85 : Cond.methodLink RX2 85 yX2_enter ∈ x_tbl := x_mem 431 (by decide +kernel) rfl
set_option maxRecDepth 20000 in
theorem ln_X2_91 : Cond.methodLink RX2 91 yX2_head ∈ x_tbl := x_mem 420 (by decide +kernel) rfl
set_option maxRecDepth 20000 in
theorem ln_X2_95 : Cond.methodLink RX2 95 yX2_isSecondTaken ∈ x_tbl := x_mem 425 (by decide +kernel) rfl
set_option maxRecDepth 20000 in
theorem ln_X2_99 : Cond.methodLink RX2 99 yX3_rank ∈ x_tbl := x_mem 429 (by decide +kernel) rfl
set_option maxRecDepth 20000 in
theorem ln_X3_53 : Cond.methodLink RX3 53 yJ7_fill_53178 ∈ x_tbl := x_mem 70 (by decide +kernel) rfl
set_option maxRecDepth 20000 in
theorem ln_X3_78 : Cond.methodLink RX3 78 yX3_isShip ∈ x_tbl := x_mem 350 (by decide +kernel) rfl
set_option maxRecDepth 20000 in
theorem ln_X3_82 : Cond.methodLink RX3 82 yX3_isWaiting ∈ x_tbl := x_mem 374 (by decide +kernel) rfl
set_option maxRecDepth 20000 in
theorem ln_X3_91 : Cond.methodLink RX3 91 yJ6_bitCount_0f7a4 ∈ x_tbl := x_mem 389 (by decide +kernel) rfl
set_option maxRecDepth 20000 in
theorem ln_X3_100 : Cond.methodLink RX3 100 yX3_bound ∈ x_tbl := x_mem 501 (by decide +kernel) rfl
set_option maxRecDepth 20000 in
theorem ln_X3_103 : Cond.methodLink RX3 103 yX3_allows ∈ x_tbl := x_mem 497 (by decide +kernel) rfl
set_option maxRecDepth 20000 in
theorem ln_X4_31 : Cond.methodLink RX4 31 yJ7_fill_53178 ∈ x_tbl := x_mem 613 (by decide +kernel) rfl
set_option maxRecDepth 20000 in
theorem ln_X4_37 : Cond.methodLink RX4 37 yX4_has ∈ x_tbl := x_mem 618 (by decide +kernel) rfl
set_option maxRecDepth 20000 in
theorem ln_X5_57 : Cond.methodLink RX5 57 yX5_isLane ∈ x_tbl := x_mem 300 (by decide +kernel) rfl
set_option maxRecDepth 20000 in
theorem ln_X5_61 : Cond.methodLink RX5 61 yX5_isKind ∈ x_tbl := x_mem 303 (by decide +kernel) rfl
set_option maxRecDepth 20000 in
theorem ln_X5_96 : Cond.methodLink RX5 96 yX5_isSetting ∈ x_tbl := x_mem 311 (by decide +kernel) rfl
set_option maxRecDepth 20000 in
theorem ln_X5_115 : Cond.methodLink RX5 115 yX3_bound ∈ x_tbl := x_mem 331 (by decide +kernel) rfl
set_option maxRecDepth 20000 in
theorem ln_X5_119 : Cond.methodLink RX5 119 yX3_isShip ∈ x_tbl := x_mem 342 (by decide +kernel) rfl
set_option maxRecDepth 20000 in
theorem ln_X5_122 : Cond.methodLink RX5 122 yX3_isWaiting ∈ x_tbl := x_mem 346 (by decide +kernel) rfl
set_option maxRecDepth 20000 in
theorem ln_X5_125 : Cond.methodLink RX5 125 yX3_isGone ∈ x_tbl := x_mem 351 (by decide +kernel) rfl
set_option maxRecDepth 20000 in
theorem ln_X5_128 : Cond.methodLink RX5 128 yX3_span ∈ x_tbl := x_mem 355 (by decide +kernel) rfl
set_option maxRecDepth 20000 in
theorem ln_X5_131 : Cond.methodLink RX5 131 yX3_rank ∈ x_tbl := x_mem 362 (by decide +kernel) rfl
set_option maxRecDepth 20000 in
theorem ln_X5_134 : Cond.methodLink RX5 134 yX3_waiter ∈ x_tbl := x_mem 370 (by decide +kernel) rfl
set_option maxRecDepth 20000 in
theorem ln_X5_138 : Cond.methodLink RX5 138 yJ6_bitCount_0f7a4 ∈ x_tbl := x_mem 379 (by decide +kernel) rfl
set_option maxRecDepth 20000 in
theorem ln_X5_146 : Cond.methodLink RX5 146 yX3_freePlaces ∈ x_tbl := x_mem 385 (by decide +kernel) rfl
set_option maxRecDepth 20000 in
theorem ln_X5_150 : Cond.methodLink RX5 150 yX5_isUnder ∈ x_tbl := x_mem 394 (by decide +kernel) rfl
set_option maxRecDepth 20000 in
theorem ln_X5_157 : Cond.methodLink RX5 157 yX2_byRule ∈ x_tbl := x_mem 405 (by decide +kernel) rfl
set_option maxRecDepth 20000 in
theorem ln_X5_161 : Cond.methodLink RX5 161 yX2_spends ∈ x_tbl := x_mem 442 (by decide +kernel) rfl
set_option maxRecDepth 20000 in
theorem ln_X5_164 : Cond.methodLink RX5 164 yX3_goneBy ∈ x_tbl := x_mem 447 (by decide +kernel) rfl
set_option maxRecDepth 20000 in
theorem ln_X5_168 : Cond.methodLink RX5 168 yX5_remember ∈ x_tbl := x_mem 451 (by decide +kernel) rfl
set_option maxRecDepth 20000 in
theorem ln_X5_186 : Cond.methodLink RX5 186 yX3_spentInAll ∈ x_tbl := x_mem 469 (by decide +kernel) rfl
set_option maxRecDepth 20000 in
theorem ln_X5_193 : Cond.methodLink RX5 193 yX3_takeBack ∈ x_tbl := x_mem 481 (by decide +kernel) rfl
set_option maxRecDepth 20000 in
theorem ln_X5_196 : Cond.methodLink RX5 196 yX3_dayFor ∈ x_tbl := x_mem 493 (by decide +kernel) rfl
set_option maxRecDepth 20000 in
theorem ln_X5_200 : Cond.methodLink RX5 200 yX0_run ∈ x_tbl := x_mem 506 (by decide +kernel) rfl
set_option maxRecDepth 20000 in
theorem ln_X5_203 : Cond.methodLink RX5 203 yX0_waitOf ∈ x_tbl := x_mem 528 (by decide +kernel) rfl
set_option maxRecDepth 20000 in
theorem ln_X5_206 : Cond.methodLink RX5 206 yX0_inLine ∈ x_tbl := x_mem 536 (by decide +kernel) rfl
set_option maxRecDepth 20000 in
theorem ln_X5_209 : Cond.methodLink RX5 209 yX0_allWaits ∈ x_tbl := x_mem 548 (by decide +kernel) rfl
set_option maxRecDepth 20000 in
theorem ln_X5_216 : Cond.methodLink RX5 216 yX1_run ∈ x_tbl := x_mem 557 (by decide +kernel) rfl
set_option maxRecDepth 20000 in
theorem ln_X5_229 : Cond.methodLink RX5 229 yX5_isSheet ∈ x_tbl := x_mem 588 (by decide +kernel) rfl
set_option maxRecDepth 20000 in
theorem ln_X5_232 : Cond.methodLink RX5 232 yX4_isMissing ∈ x_tbl := x_mem 591 (by decide +kernel) rfl
set_option maxRecDepth 20000 in
theorem ln_X5_237 : Cond.methodLink RX5 237 yX5_firstOtherwise ∈ x_tbl := x_mem 595 (by decide +kernel) rfl
set_option maxRecDepth 20000 in
theorem ln_X5_241 : Cond.methodLink RX5 241 yX5_tried ∈ x_tbl := x_mem 599 (by decide +kernel) rfl
set_option maxRecDepth 20000 in
theorem ln_X5_245 : Cond.methodLink RX5 245 yX4_become ∈ x_tbl := x_mem 607 (by decide +kernel) rfl
set_option maxRecDepth 20000 in
theorem ln_X5_248 : Cond.methodLink RX5 248 yX4_write ∈ x_tbl := x_mem 614 (by decide +kernel) rfl
set_option maxRecDepth 20000 in
theorem ln_X5_251 : Cond.methodLink RX5 251 yX3_become ∈ x_tbl := x_mem 626 (by decide +kernel) rfl
set_option maxRecDepth 20000 in
theorem ln_X5_257 : Cond.methodLink RX5 257 yX5_isSort ∈ x_tbl := x_mem 639 (by decide +kernel) rfl
set_option maxRecDepth 20000 in
theorem ln_X5_260 : Cond.methodLink RX5 260 yX4_has ∈ x_tbl := x_mem 646 (by decide +kernel) rfl
set_option maxRecDepth 20000 in
theorem ln_X5_266 : Cond.methodLink RX5 266 yX4_hasRun ∈ x_tbl := x_mem 651 (by decide +kernel) rfl
set_option maxRecDepth 20000 in
theorem ln_X5_278 : Cond.methodLink RX5 278 yX5_ship ∈ x_tbl := x_mem 659 (by decide +kernel) rfl
set_option maxRecDepth 20000 in
theorem ln_X6_110 : Cond.methodLink RX6 110 yX6_within ∈ x_tbl := x_mem 792 (by decide +kernel) rfl
set_option maxRecDepth 20000 in
theorem ln_X6_118 : Cond.methodLink RX6 118 yX6_comesTo ∈ x_tbl := x_mem 788 (by decide +kernel) rfl
set_option maxRecDepth 20000 in
theorem ln_X6_129 : Cond.methodLink RX6 129 yX6_mayOf ∈ x_tbl := x_mem 813 (by decide +kernel) rfl
set_option maxRecDepth 20000 in
theorem ln_X6_136 : Cond.methodLink RX6 136 yX6_isShip ∈ x_tbl := x_mem 822 (by decide +kernel) rfl
set_option maxRecDepth 20000 in
theorem ln_X6_140 : Cond.methodLink RX6 140 yX6_spanOf ∈ x_tbl := x_mem 826 (by decide +kernel) rfl
set_option maxRecDepth 20000 in
theorem ln_X6_143 : Cond.methodLink RX6 143 yX6_rankOf ∈ x_tbl := x_mem 831 (by decide +kernel) rfl
set_option maxRecDepth 20000 in
theorem ln_X6_149 : Cond.methodLink RX6 149 yX6_free ∈ x_tbl := x_mem 843 (by decide +kernel) rfl
set_option maxRecDepth 20000 in
theorem ln_X6_156 : Cond.methodLink RX6 156 yX6_empties ∈ x_tbl := x_mem 863 (by decide +kernel) rfl
set_option maxRecDepth 20000 in
theorem ln_X6_159 : Cond.methodLink RX6 159 yX6_isOther ∈ x_tbl := x_mem 867 (by decide +kernel) rfl
set_option maxRecDepth 20000 in
theorem ln_X6_162 : Cond.methodLink RX6 162 yX6_goesIn ∈ x_tbl := x_mem 871 (by decide +kernel) rfl
set_option maxRecDepth 20000 in
theorem ln_X6_165 : Cond.methodLink RX6 165 yX6_stepsOn ∈ x_tbl := x_mem 875 (by decide +kernel) rfl
set_option maxRecDepth 20000 in
theorem ln_X6_169 : Cond.methodLink RX6 169 yX6_all ∈ x_tbl := x_mem 855 (by decide +kernel) rfl
set_option maxRecDepth 20000 in
theorem ln_X6_172 : Cond.methodLink RX6 172 yX6_fills ∈ x_tbl := x_mem 859 (by decide +kernel) rfl
set_option maxRecDepth 20000 in
theorem ln_X6_175 : Cond.methodLink RX6 175 yX6_keeps ∈ x_tbl := x_mem 879 (by decide +kernel) rfl
set_option maxRecDepth 20000 in
theorem ln_X6_178 : Cond.methodLink RX6 178 yX6_spends ∈ x_tbl := x_mem 883 (by decide +kernel) rfl
set_option maxRecDepth 20000 in
theorem ln_X6_189 : Cond.methodLink RX6 189 yX6_gathers ∈ x_tbl := x_mem 924 (by decide +kernel) rfl
set_option maxRecDepth 20000 in
theorem ln_X6_193 : Cond.methodLink RX6 193 yX6_goesOn ∈ x_tbl := x_mem 920 (by decide +kernel) rfl
set_option maxRecDepth 20000 in
theorem ln_X6_196 : Cond.methodLink RX6 196 yX6_canGo ∈ x_tbl := x_mem 944 (by decide +kernel) rfl
set_option maxRecDepth 20000 in
theorem ln_X6_200 : Cond.methodLink RX6 200 yX6_frees ∈ x_tbl := x_mem 940 (by decide +kernel) rfl
set_option maxRecDepth 20000 in
theorem ln_X6_203 : Cond.methodLink RX6 203 yX6_isSheet ∈ x_tbl := x_mem 952 (by decide +kernel) rfl
set_option maxRecDepth 20000 in
theorem ln_X6_206 : Cond.methodLink RX6 206 yX6_unlike ∈ x_tbl := x_mem 955 (by decide +kernel) rfl
set_option maxRecDepth 20000 in
theorem ln_X6_209 : Cond.methodLink RX6 209 yX6_moves ∈ x_tbl := x_mem 971 (by decide +kernel) rfl
set_option maxRecDepth 20000 in
theorem ln_X6_217 : Cond.methodLink RX6 217 yX6_images ∈ x_tbl := x_mem 967 (by decide +kernel) rfl
end
section
theorem ctr_ev {M : xM} {Q : Option Value → xSg → Prop} {As : List Value} {σ : xSg} (ok : x_ok M) (hpl : plainName (xM_y M).cls = true) (how : (xM_y M).cls = xM_own M) (hcat : As.all x_one = true) (hlen : Nat.ble As.length (xM_maxL M) = true)
    (h : xEv (.inl (xM_lev M)) M Q 0 (x_ini (xM_maxL M) As, [], σ)) : xCtr M As σ Q :=
  ctr_of_ev ok hpl how (fun a ha => Nat.eq_of_beq_eq_true (List.all_eq_true.mp hcat a ha)) (Nat.le_of_ble_eq_true hlen) h
def zi (P : Prop) [Decidable P] : Int32 := if P then 1 else 0
theorem zi_t {P : Prop} [Decidable P] (h : P) : zi P = 1 := by unfold zi; rw [if_pos h]
theorem zi_f {P : Prop} [Decidable P] (h : ¬ P) : zi P = 0 := by unfold zi; rw [if_neg h]
theorem zi_0 {P : Prop} [Decidable P] : zi P = 0 ↔ ¬ P := ⟨fun h q => by rw [zi_t q] at h; exact absurd h (by decide), zi_f⟩
theorem zi_1 {P : Prop} [Decidable P] : ¬ zi P = 0 ↔ P := ⟨fun h => Classical.byContradiction fun q => h (zi_f q), fun h q => zi_0.mp q h⟩
theorem zi_n {P : Prop} [Decidable P] : ¬ ¬ zi P = 0 ↔ ¬ P := ⟨fun h => zi_0.mp (Classical.byContradiction h), fun h q => q (zi_f h)⟩
/-- a call that changes nothing and answers v -/
def xPu (M : xM) (As : List Value) (σ : xSg) (v : Value) : Prop := xCtr M As σ (fun r σ' => r = some v ∧ σ' = σ)
theorem pu_k {o : xO} {M : xM} {Q : Option Value → xSg → Prop} {pc : Nat} {L : List (Option Value)} {rest : List Value} {σ : xSg} {v : Value} (k : xEv o M Q pc (L, v :: rest, σ)) : ∀ (r : Option Value) (σ' : xSg), (r = some v ∧ σ' = σ) → xEv o M Q pc (L, r.toList ++ rest, σ') := by
  rintro r σ' ⟨rfl, rfl⟩
  exact k
theorem pu_t {P : Prop} [Decidable P] {σ : xSg} (h : P) : some (Value.int 1) = some (Value.int (zi P)) ∧ σ = σ := ⟨by rw [zi_t h], rfl⟩
theorem pu_f {P : Prop} [Decidable P] {σ : xSg} (h : ¬ P) : some (Value.int 0) = some (Value.int (zi P)) ∧ σ = σ := ⟨by rw [zi_f h], rfl⟩
theorem nar1 : narrow .boolean (.int 1) = .int 1 := by decide +kernel
theorem nar0 : narrow .boolean (.int 0) = .int 0 := by decide +kernel
theorem zi_nar {P : Prop} [Decidable P] : narrow .boolean (.int (zi P)) = .int (zi P) := by
  by_cases h : P
  · rw [zi_t h]; exact nar1
  · rw [zi_f h]; exact nar0
abbrev iSh (σ : xSg) (x : Int32) : Prop := ¬ x < 0 ∧ ¬ σ 1 0 ≤ x ∧ ¬ (10 : Int32) ≤ x
theorem vpi {x c : Int32} (n : Nat) (hc : c = nI n) (hn : n < 2 ^ 31) (h1 : ¬ x < 0) (h2 : ¬ c ≤ x) : vp_in x n := by
  subst hc
  rw [vp_in_iff]
  rw [Int32.lt_iff_toInt_lt] at h1
  rw [Int32.le_iff_toInt_le, nI_toInt hn] at h2
  have h0 : (0 : Int32).toInt = 0 := by decide
  omega
theorem vpi10 {x : Int32} (h1 : ¬ x < 0) (h2 : ¬ (10 : Int32) ≤ x) : vp_in x 10 := vpi 10 rfl (by decide) h1 h2
theorem vpi10' {x : Int32} (h1 : ¬ x < 0) (h2 : x < 10) : vp_in x 10 := vpi10 h1 (Int32.not_le.mpr h2)
def s_span (K Ln : Nat → Int32) (x : Nat) : Int32 := if K x = 1 then Ln x + 1 else if K x = 2 then 2 * (Ln x + 1) else if K x = 4 then x_mx 1 (Ln x - 1) else if K x = 5 then Ln x + 1 else Ln x
def s_rank (K Fi : Nat → Int32) (x : Nat) : Int32 := if K x = 3 then Fi x + 10 else if K x = 4 then 2 * (Fi x + 10) else Fi x
set_option maxRecDepth 100000 in
theorem c_isShip (σ : xSg) (x : Int32) : xPu M_X3_isShip [.ref 1, .int (x)] σ (.int (zi (iSh σ x))) := by
  refine ctr_ev ok_X3_isShip (by decide +kernel) rfl rfl rfl ?_
  show xEv (.inl 0) M_X3_isShip _ 0 ([some (.ref 1), some (.int (x))], [], σ)
  refine ev_br 1 [] (x < 0) 22 4 ([some (.ref 1), some (.int (x))], [], σ) rfl ?_ (fun c1 => ?_) (fun c1 => ?_)
  · trivial
  · refine ev_blk 1 [] 23 ([some (.ref 1), some (.int (x))], [.int ((0 : Int32))], σ) rfl ?_ ?_
    · trivial
    exact ev_iret rfl rfl nar0 (pu_f (by first | (intro h; exact absurd h.1 (by assumption)) | (simp_all; done) | (simp_all [iSh]; done)))
  · refine ev_br 3 [] ((σ 1 0) ≤ x) 22 12 ([some (.ref 1), some (.int (x))], [], σ) rfl ?_ (fun c9 => ?_) (fun c9 => ?_)
    · trivial
    · refine ev_blk 1 [] 23 ([some (.ref 1), some (.int (x))], [.int ((0 : Int32))], σ) rfl ?_ ?_
      · trivial
      exact ev_iret rfl rfl nar0 (pu_f (by first | (intro h; exact absurd h.1 (by assumption)) | (simp_all; done) | (simp_all [iSh]; done)))
    · refine ev_br 2 [] ((10 : Int32) ≤ x) 22 18 ([some (.ref 1), some (.int (x))], [], σ) rfl ?_ (fun c15 => ?_) (fun c15 => ?_)
      · trivial
      · refine ev_blk 1 [] 23 ([some (.ref 1), some (.int (x))], [.int ((0 : Int32))], σ) rfl ?_ ?_
        · trivial
        exact ev_iret rfl rfl nar0 (pu_f (by first | (intro h; exact absurd h.1 (by assumption)) | (simp_all; done) | (simp_all [iSh]; done)))
      · refine ev_blk 2 [] 23 ([some (.ref 1), some (.int (x))], [.int ((1 : Int32))], σ) rfl ?_ ?_
        · trivial
        exact ev_iret rfl rfl nar1 (pu_t (by first | (intro h; exact absurd h.1 (by assumption)) | (simp_all; done) | (simp_all [iSh]; done)))
set_option maxRecDepth 100000 in
theorem c_isLane (σ : xSg) (x : Int32) : xPu M_X5_isLane [.int (x)] σ (.int (zi (¬ x < 0 ∧ ¬ (2 : Int32) ≤ x))) := by
  refine ctr_ev ok_X5_isLane (by decide +kernel) rfl rfl rfl ?_
  show xEv (.inl 0) M_X5_isLane _ 0 ([some (.int (x))], [], σ)
  refine ev_br 1 [] (x < 0) 13 4 ([some (.int (x))], [], σ) rfl ?_ (fun c1 => ?_) (fun c1 => ?_)
  · trivial
  · refine ev_blk 1 [] 14 ([some (.int (x))], [.int ((0 : Int32))], σ) rfl ?_ ?_
    · trivial
    exact ev_iret rfl rfl nar0 (pu_f (by first | (intro h; exact absurd h.1 (by assumption)) | (simp_all; done) | (simp_all [iSh]; done)))
  · refine ev_br 2 [] ((2 : Int32) ≤ x) 13 9 ([some (.int (x))], [], σ) rfl ?_ (fun c6 => ?_) (fun c6 => ?_)
    · trivial
    · refine ev_blk 1 [] 14 ([some (.int (x))], [.int ((0 : Int32))], σ) rfl ?_ ?_
      · trivial
      exact ev_iret rfl rfl nar0 (pu_f (by first | (intro h; exact absurd h.1 (by assumption)) | (simp_all; done) | (simp_all [iSh]; done)))
    · refine ev_blk 2 [] 14 ([some (.int (x))], [.int ((1 : Int32))], σ) rfl ?_ ?_
      · trivial
      exact ev_iret rfl rfl nar1 (pu_t (by first | (intro h; exact absurd h.1 (by assumption)) | (simp_all; done) | (simp_all [iSh]; done)))
set_option maxRecDepth 100000 in
theorem c_isKind (σ : xSg) (x : Int32) : xPu M_X5_isKind [.int (x)] σ (.int (zi (¬ x < 0 ∧ ¬ (5 : Int32) < x))) := by
  refine ctr_ev ok_X5_isKind (by decide +kernel) rfl rfl rfl ?_
  show xEv (.inl 0) M_X5_isKind _ 0 ([some (.int (x))], [], σ)
  refine ev_br 1 [] (x < 0) 13 4 ([some (.int (x))], [], σ) rfl ?_ (fun c1 => ?_) (fun c1 => ?_)
  · trivial
  · refine ev_blk 1 [] 14 ([some (.int (x))], [.int ((0 : Int32))], σ) rfl ?_ ?_
    · trivial
    exact ev_iret rfl rfl nar0 (pu_f (by first | (intro h; exact absurd h.1 (by assumption)) | (simp_all; done) | (simp_all [iSh]; done)))
  · refine ev_br 2 [] ((5 : Int32) < x) 13 9 ([some (.int (x))], [], σ) rfl ?_ (fun c6 => ?_) (fun c6 => ?_)
    · trivial
    · refine ev_blk 1 [] 14 ([some (.int (x))], [.int ((0 : Int32))], σ) rfl ?_ ?_
      · trivial
      exact ev_iret rfl rfl nar0 (pu_f (by first | (intro h; exact absurd h.1 (by assumption)) | (simp_all; done) | (simp_all [iSh]; done)))
    · refine ev_blk 2 [] 14 ([some (.int (x))], [.int ((1 : Int32))], σ) rfl ?_ ?_
      · trivial
      exact ev_iret rfl rfl nar1 (pu_t (by first | (intro h; exact absurd h.1 (by assumption)) | (simp_all; done) | (simp_all [iSh]; done)))
set_option maxRecDepth 100000 in
theorem c_isSetting (σ : xSg) (x : Int32) : xPu M_X5_isSetting [.int (x)] σ (.int (zi (¬ x < 0 ∧ ¬ (4 : Int32) < x))) := by
  refine ctr_ev ok_X5_isSetting (by decide +kernel) rfl rfl rfl ?_
  show xEv (.inl 0) M_X5_isSetting _ 0 ([some (.int (x))], [], σ)
  refine ev_br 1 [] (x < 0) 13 4 ([some (.int (x))], [], σ) rfl ?_ (fun c1 => ?_) (fun c1 => ?_)
  · trivial
  · refine ev_blk 1 [] 14 ([some (.int (x))], [.int ((0 : Int32))], σ) rfl ?_ ?_
    · trivial
    exact ev_iret rfl rfl nar0 (pu_f (by first | (intro h; exact absurd h.1 (by assumption)) | (simp_all; done) | (simp_all [iSh]; done)))
  · refine ev_br 2 [] ((4 : Int32) < x) 13 9 ([some (.int (x))], [], σ) rfl ?_ (fun c6 => ?_) (fun c6 => ?_)
    · trivial
    · refine ev_blk 1 [] 14 ([some (.int (x))], [.int ((0 : Int32))], σ) rfl ?_ ?_
      · trivial
      exact ev_iret rfl rfl nar0 (pu_f (by first | (intro h; exact absurd h.1 (by assumption)) | (simp_all; done) | (simp_all [iSh]; done)))
    · refine ev_blk 2 [] 14 ([some (.int (x))], [.int ((1 : Int32))], σ) rfl ?_ ?_
      · trivial
      exact ev_iret rfl rfl nar1 (pu_t (by first | (intro h; exact absurd h.1 (by assumption)) | (simp_all; done) | (simp_all [iSh]; done)))
set_option maxRecDepth 100000 in
theorem c_isSheet (σ : xSg) (x : Int32) : xPu M_X5_isSheet [.int (x)] σ (.int (zi (¬ x < 0 ∧ ¬ (4 : Int32) ≤ x))) := by
  refine ctr_ev ok_X5_isSheet (by decide +kernel) rfl rfl rfl ?_
  show xEv (.inl 0) M_X5_isSheet _ 0 ([some (.int (x))], [], σ)
  refine ev_br 1 [] (x < 0) 13 4 ([some (.int (x))], [], σ) rfl ?_ (fun c1 => ?_) (fun c1 => ?_)
  · trivial
  · refine ev_blk 1 [] 14 ([some (.int (x))], [.int ((0 : Int32))], σ) rfl ?_ ?_
    · trivial
    exact ev_iret rfl rfl nar0 (pu_f (by first | (intro h; exact absurd h.1 (by assumption)) | (simp_all; done) | (simp_all [iSh]; done)))
  · refine ev_br 2 [] ((4 : Int32) ≤ x) 13 9 ([some (.int (x))], [], σ) rfl ?_ (fun c6 => ?_) (fun c6 => ?_)
    · trivial
    · refine ev_blk 1 [] 14 ([some (.int (x))], [.int ((0 : Int32))], σ) rfl ?_ ?_
      · trivial
      exact ev_iret rfl rfl nar0 (pu_f (by first | (intro h; exact absurd h.1 (by assumption)) | (simp_all; done) | (simp_all [iSh]; done)))
    · refine ev_blk 2 [] 14 ([some (.int (x))], [.int ((1 : Int32))], σ) rfl ?_ ?_
      · trivial
      exact ev_iret rfl rfl nar1 (pu_t (by first | (intro h; exact absurd h.1 (by assumption)) | (simp_all; done) | (simp_all [iSh]; done)))
set_option maxRecDepth 100000 in
theorem c_isSort (σ : xSg) (x : Int32) : xPu M_X5_isSort [.int (x)] σ (.int (zi (x = 0 ∨ x = 1))) := by
  refine ctr_ev ok_X5_isSort (by decide +kernel) rfl rfl rfl ?_
  show xEv (.inl 0) M_X5_isSort _ 0 ([some (.int (x))], [], σ)
  refine ev_br 1 [] (x = 0) 9 4 ([some (.int (x))], [], σ) rfl ?_ (fun c1 => ?_) (fun c1 => ?_)
  · trivial
  · refine ev_blk 2 [] 14 ([some (.int (x))], [.int ((1 : Int32))], σ) rfl ?_ ?_
    · trivial
    exact ev_iret rfl rfl nar1 (pu_t (by first | (intro h; exact absurd h.1 (by assumption)) | (simp_all; done) | (simp_all [iSh]; done)))
  · refine ev_br 2 [] (¬ x = (1 : Int32)) 13 9 ([some (.int (x))], [], σ) rfl ?_ (fun c6 => ?_) (fun c6 => ?_)
    · trivial
    · refine ev_blk 1 [] 14 ([some (.int (x))], [.int ((0 : Int32))], σ) rfl ?_ ?_
      · trivial
      exact ev_iret rfl rfl nar0 (pu_f (by first | (intro h; exact absurd h.1 (by assumption)) | (simp_all; done) | (simp_all [iSh]; done)))
    · refine ev_blk 2 [] 14 ([some (.int (x))], [.int ((1 : Int32))], σ) rfl ?_ ?_
      · trivial
      exact ev_iret rfl rfl nar1 (pu_t (by first | (intro h; exact absurd h.1 (by assumption)) | (simp_all; done) | (simp_all [iSh]; done)))
set_option maxRecDepth 100000 in
theorem m_within (σ : xSg) (x lo hi : Int32) : xPu M_X6_within [.int (x), .int (lo), .int (hi)] σ (.int (zi (¬ x < lo ∧ ¬ hi < x))) := by
  refine ctr_ev ok_X6_within (by decide +kernel) rfl rfl rfl ?_
  show xEv (.inl 0) M_X6_within _ 0 ([some (.int (x)), some (.int (lo)), some (.int (hi))], [], σ)
  refine ev_br 2 [] (x < lo) 14 5 ([some (.int (x)), some (.int (lo)), some (.int (hi))], [], σ) rfl ?_ (fun c2 => ?_) (fun c2 => ?_)
  · trivial
  · refine ev_blk 1 [] 15 ([some (.int (x)), some (.int (lo)), some (.int (hi))], [.int ((0 : Int32))], σ) rfl ?_ ?_
    · trivial
    exact ev_iret rfl rfl nar0 (pu_f (by first | (intro h; exact absurd h.1 (by assumption)) | (simp_all; done) | (simp_all [iSh]; done)))
  · refine ev_br 2 [] (hi < x) 14 10 ([some (.int (x)), some (.int (lo)), some (.int (hi))], [], σ) rfl ?_ (fun c7 => ?_) (fun c7 => ?_)
    · trivial
    · refine ev_blk 1 [] 15 ([some (.int (x)), some (.int (lo)), some (.int (hi))], [.int ((0 : Int32))], σ) rfl ?_ ?_
      · trivial
      exact ev_iret rfl rfl nar0 (pu_f (by first | (intro h; exact absurd h.1 (by assumption)) | (simp_all; done) | (simp_all [iSh]; done)))
    · refine ev_blk 2 [] 15 ([some (.int (x)), some (.int (lo)), some (.int (hi))], [.int ((1 : Int32))], σ) rfl ?_ ?_
      · trivial
      exact ev_iret rfl rfl nar1 (pu_t (by first | (intro h; exact absurd h.1 (by assumption)) | (simp_all; done) | (simp_all [iSh]; done)))
set_option maxRecDepth 100000 in
theorem c_isWaiting (σ : xSg) (x : Int32) : xPu M_X3_isWaiting [.ref 1, .int (x)] σ (.int (zi (iSh σ x ∧ ¬ (σ 1 1 >>> (x &&& 31)) &&& 1 = 0))) := by
  refine ctr_ev ok_X3_isWaiting (by decide +kernel) rfl rfl rfl ?_
  show xEv (.inl 1) M_X3_isWaiting _ 0 ([some (.ref 1), some (.int (x))], [], σ)
  refine ev_blk 2 [] 2 ([some (.ref 1), some (.int (x))], [.int (x), .ref 1], σ) rfl ?_ ?_
  · trivial
  refine ev_callV M_X3_isShip [.int (x)] [] 1 rfl rfl ln_X3_78 k_X3_isShip rfl rfl rfl rfl rfl rfl (c_isShip _ _) ?_
  refine pu_k ?_
  show xEv _ _ _ 5 ([some (.ref 1), some (.int (x))], [.int (zi (iSh σ x))], σ)
  refine ev_br 0 [] ((zi (iSh σ x)) = 0) 23 8 ([some (.ref 1), some (.int (x))], [], σ) rfl ?_ (fun c5 => ?_) (fun c5 => ?_)
  · trivial
  · replace c5 := zi_0.mp c5
    refine ev_blk 1 [] 24 ([some (.ref 1), some (.int (x))], [.int ((0 : Int32))], σ) rfl ?_ ?_
    · trivial
    exact ev_iret rfl rfl nar0 (pu_f (by first | (intro h; exact absurd h.1 (by assumption)) | (simp_all; done) | (simp_all [iSh]; done)))
  · replace c5 := zi_1.mp c5
    refine ev_br 6 [] ((((σ 1 1) >>> (x &&& 31)) &&& (1 : Int32)) = 0) 23 19 ([some (.ref 1), some (.int (x))], [], σ) rfl ?_ (fun c16 => ?_) (fun c16 => ?_)
    · trivial
    · refine ev_blk 1 [] 24 ([some (.ref 1), some (.int (x))], [.int ((0 : Int32))], σ) rfl ?_ ?_
      · trivial
      exact ev_iret rfl rfl nar0 (pu_f (by first | (intro h; exact absurd h.1 (by assumption)) | (simp_all; done) | (simp_all [iSh]; done)))
    · refine ev_blk 2 [] 24 ([some (.ref 1), some (.int (x))], [.int ((1 : Int32))], σ) rfl ?_ ?_
      · trivial
      exact ev_iret rfl rfl nar1 (pu_t (by first | (intro h; exact absurd h.1 (by assumption)) | (simp_all; done) | (simp_all [iSh]; done)))
set_option maxRecDepth 100000 in
theorem c_isGone (σ : xSg) (x : Int32) : xPu M_X3_isGone [.ref 1, .int (x)] σ (.int (zi (iSh σ x ∧ ¬ (σ 1 2 >>> (x &&& 31)) &&& 1 = 0))) := by
  refine ctr_ev ok_X3_isGone (by decide +kernel) rfl rfl rfl ?_
  show xEv (.inl 1) M_X3_isGone _ 0 ([some (.ref 1), some (.int (x))], [], σ)
  refine ev_blk 2 [] 2 ([some (.ref 1), some (.int (x))], [.int (x), .ref 1], σ) rfl ?_ ?_
  · trivial
  refine ev_callV M_X3_isShip [.int (x)] [] 1 rfl rfl ln_X3_78 k_X3_isShip rfl rfl rfl rfl rfl rfl (c_isShip _ _) ?_
  refine pu_k ?_
  show xEv _ _ _ 5 ([some (.ref 1), some (.int (x))], [.int (zi (iSh σ x))], σ)
  refine ev_br 0 [] ((zi (iSh σ x)) = 0) 23 8 ([some (.ref 1), some (.int (x))], [], σ) rfl ?_ (fun c5 => ?_) (fun c5 => ?_)
  · trivial
  · replace c5 := zi_0.mp c5
    refine ev_blk 1 [] 24 ([some (.ref 1), some (.int (x))], [.int ((0 : Int32))], σ) rfl ?_ ?_
    · trivial
    exact ev_iret rfl rfl nar0 (pu_f (by first | (intro h; exact absurd h.1 (by assumption)) | (simp_all; done) | (simp_all [iSh]; done)))
  · replace c5 := zi_1.mp c5
    refine ev_br 6 [] ((((σ 1 2) >>> (x &&& 31)) &&& (1 : Int32)) = 0) 23 19 ([some (.ref 1), some (.int (x))], [], σ) rfl ?_ (fun c16 => ?_) (fun c16 => ?_)
    · trivial
    · refine ev_blk 1 [] 24 ([some (.ref 1), some (.int (x))], [.int ((0 : Int32))], σ) rfl ?_ ?_
      · trivial
      exact ev_iret rfl rfl nar0 (pu_f (by first | (intro h; exact absurd h.1 (by assumption)) | (simp_all; done) | (simp_all [iSh]; done)))
    · refine ev_blk 2 [] 24 ([some (.ref 1), some (.int (x))], [.int ((1 : Int32))], σ) rfl ?_ ?_
      · trivial
      exact ev_iret rfl rfl nar1 (pu_t (by first | (intro h; exact absurd h.1 (by assumption)) | (simp_all; done) | (simp_all [iSh]; done)))
set_option maxRecDepth 100000 in
theorem c_span (σ : xSg) (x : Int32) (h : ¬ x < 0 ∧ x < 10) : xPu M_X3_span [.ref 1, .int (x)] σ (.int (s_span (σ 2) (σ 3) x.toNatClampNeg)) := by
  refine ctr_ev ok_X3_span (by decide +kernel) rfl rfl rfl ?_
  show xEv (.inl 1) M_X3_span _ 0 ([some (.ref 1), some (.int (x)), none], [], σ)
  refine ev_br 1 [] (x < 0) 10 4 ([some (.ref 1), some (.int (x)), none], [], σ) rfl ?_ (fun c1 => ?_) (fun c1 => ?_)
  · trivial
  · exact absurd c1 h.1
  · refine ev_br 2 [] (x < (10 : Int32)) 12 10 ([some (.ref 1), some (.int (x)), none], [], σ) rfl ?_ (fun c7 => ?_) (fun c7 => ?_)
    · trivial
    · refine ev_sw 9 [vp_in (x) 10, vp_in (x) 10] ((σ 2) x.toNatClampNeg) [((1 : Int32), 60), ((2 : Int32), 64), ((3 : Int32), 78), ((4 : Int32), 70), ((5 : Int32), 60)] 78 ([some (.ref 1), some (.int (x)), some (.int ((σ 3) x.toNatClampNeg))], [], σ) rfl ?_ ?_
      · first | exact vpi10' h.1 h.2 | exact ⟨vpi10' h.1 h.2, vpi10' h.1 h.2⟩
      refine ⟨fun c25_1 => ?_, fun c25_1 => ?_⟩
      · refine ev_blk 3 [] 63 ([some (.ref 1), some (.int (x)), some (.int ((σ 3) x.toNatClampNeg))], [.int (((σ 3) x.toNatClampNeg) + (1 : Int32))], σ) rfl ?_ ?_
        · trivial
        exact ev_iret rfl rfl rfl ⟨by simp_all [s_span, s_rank], rfl⟩
      refine ⟨fun c25_2 => ?_, fun c25_2 => ?_⟩
      · refine ev_blk 5 [] 69 ([some (.ref 1), some (.int (x)), some (.int ((σ 3) x.toNatClampNeg))], [.int ((2 : Int32) * (((σ 3) x.toNatClampNeg) + (1 : Int32)))], σ) rfl ?_ ?_
        · trivial
        exact ev_iret rfl rfl rfl ⟨by simp_all [s_span, s_rank], rfl⟩
      refine ⟨fun c25_3 => ?_, fun c25_3 => ?_⟩
      · refine ev_blk 1 [] 79 ([some (.ref 1), some (.int (x)), some (.int ((σ 3) x.toNatClampNeg))], [.int ((σ 3) x.toNatClampNeg)], σ) rfl ?_ ?_
        · trivial
        exact ev_iret rfl rfl rfl ⟨by simp_all [s_span, s_rank], rfl⟩
      refine ⟨fun c25_4 => ?_, fun c25_4 => ?_⟩
      · refine ev_blk 5 [] 77 ([some (.ref 1), some (.int (x)), some (.int ((σ 3) x.toNatClampNeg))], [.int (x_mx (1 : Int32) (((σ 3) x.toNatClampNeg) - (1 : Int32)))], σ) rfl ?_ ?_
        · trivial
        exact ev_iret rfl rfl rfl ⟨by simp_all [s_span, s_rank], rfl⟩
      refine ⟨fun c25_5 => ?_, fun c25_5 => ?_⟩
      · refine ev_blk 3 [] 63 ([some (.ref 1), some (.int (x)), some (.int ((σ 3) x.toNatClampNeg))], [.int (((σ 3) x.toNatClampNeg) + (1 : Int32))], σ) rfl ?_ ?_
        · trivial
        exact ev_iret rfl rfl rfl ⟨by simp_all [s_span, s_rank], rfl⟩
      show xEv _ _ _ 78 ([some (.ref 1), some (.int (x)), some (.int ((σ 3) x.toNatClampNeg))], [], σ)
      refine ev_blk 1 [] 79 ([some (.ref 1), some (.int (x)), some (.int ((σ 3) x.toNatClampNeg))], [.int ((σ 3) x.toNatClampNeg)], σ) rfl ?_ ?_
      · trivial
      exact ev_iret rfl rfl rfl ⟨by simp_all [s_span, s_rank], rfl⟩
    · exact absurd h.2 c7
set_option maxRecDepth 100000 in
theorem c_rank (σ : xSg) (x : Int32) (h : ¬ x < 0 ∧ x < 10) : xPu M_X3_rank [.ref 1, .int (x)] σ (.int (s_rank (σ 2) (σ 4) x.toNatClampNeg)) := by
  refine ctr_ev ok_X3_rank (by decide +kernel) rfl rfl rfl ?_
  show xEv (.inl 0) M_X3_rank _ 0 ([some (.ref 1), some (.int (x)), none], [], σ)
  refine ev_br 1 [] (x < 0) 10 4 ([some (.ref 1), some (.int (x)), none], [], σ) rfl ?_ (fun c1 => ?_) (fun c1 => ?_)
  · trivial
  · exact absurd c1 h.1
  · refine ev_br 2 [] (x < (10 : Int32)) 12 10 ([some (.ref 1), some (.int (x)), none], [], σ) rfl ?_ (fun c7 => ?_) (fun c7 => ?_)
    · trivial
    · refine ev_sw 9 [vp_in (x) 10, vp_in (x) 10] ((σ 2) x.toNatClampNeg) [((3 : Int32), 52), ((4 : Int32), 57)] 64 ([some (.ref 1), some (.int (x)), some (.int ((σ 4) x.toNatClampNeg))], [], σ) rfl ?_ ?_
      · first | exact vpi10' h.1 h.2 | exact ⟨vpi10' h.1 h.2, vpi10' h.1 h.2⟩
      refine ⟨fun c25_3 => ?_, fun c25_3 => ?_⟩
      · refine ev_blk 3 [] 56 ([some (.ref 1), some (.int (x)), some (.int ((σ 4) x.toNatClampNeg))], [.int (((σ 4) x.toNatClampNeg) + (10 : Int32))], σ) rfl ?_ ?_
        · trivial
        exact ev_iret rfl rfl rfl ⟨by simp_all [s_span, s_rank], rfl⟩
      refine ⟨fun c25_4 => ?_, fun c25_4 => ?_⟩
      · refine ev_blk 5 [] 63 ([some (.ref 1), some (.int (x)), some (.int ((σ 4) x.toNatClampNeg))], [.int ((2 : Int32) * (((σ 4) x.toNatClampNeg) + (10 : Int32)))], σ) rfl ?_ ?_
        · trivial
        exact ev_iret rfl rfl rfl ⟨by simp_all [s_span, s_rank], rfl⟩
      show xEv _ _ _ 64 ([some (.ref 1), some (.int (x)), some (.int ((σ 4) x.toNatClampNeg))], [], σ)
      refine ev_blk 1 [] 65 ([some (.ref 1), some (.int (x)), some (.int ((σ 4) x.toNatClampNeg))], [.int ((σ 4) x.toNatClampNeg)], σ) rfl ?_ ?_
      · trivial
      exact ev_iret rfl rfl rfl ⟨by simp_all [s_span, s_rank], rfl⟩
    · exact absurd h.2 c7
set_option maxRecDepth 100000 in
theorem m_span (σ : xSg) (x : Int32) (h : vp_in x 10) : xPu M_X6_spanOf [.ref 57, .int (x)] σ (.int (s_span (σ 58) (σ 59) x.toNatClampNeg)) := by
  refine ctr_ev ok_X6_spanOf (by decide +kernel) rfl rfl rfl ?_
  show xEv (.inl 1) M_X6_spanOf _ 0 ([some (.ref 57), some (.int (x))], [], σ)
  refine ev_sw 4 [vp_in (x) 10] ((σ 58) x.toNatClampNeg) [((1 : Int32), 40), ((2 : Int32), 49), ((3 : Int32), 73), ((4 : Int32), 60), ((5 : Int32), 40)] 73 ([some (.ref 57), some (.int (x))], [], σ) rfl ?_ ?_
  · first | exact h | exact ⟨h, h⟩ | exact ⟨h, h, h⟩
  refine ⟨fun c6_1 => ?_, fun c6_1 => ?_⟩
  · refine ev_blk 6 [vp_in (x) 10] 48 ([some (.ref 57), some (.int (x))], [.int (((σ 59) x.toNatClampNeg) + (1 : Int32))], σ) rfl ?_ ?_
    · first | exact h | exact ⟨h, h⟩ | exact ⟨h, h, h⟩
    exact ev_iret rfl rfl rfl ⟨by simp_all [s_span, s_rank], rfl⟩
  refine ⟨fun c6_2 => ?_, fun c6_2 => ?_⟩
  · refine ev_blk 8 [vp_in (x) 10] 59 ([some (.ref 57), some (.int (x))], [.int ((2 : Int32) * (((σ 59) x.toNatClampNeg) + (1 : Int32)))], σ) rfl ?_ ?_
    · first | exact h | exact ⟨h, h⟩ | exact ⟨h, h, h⟩
    exact ev_iret rfl rfl rfl ⟨by simp_all [s_span, s_rank], rfl⟩
  refine ⟨fun c6_3 => ?_, fun c6_3 => ?_⟩
  · refine ev_blk 4 [vp_in (x) 10] 79 ([some (.ref 57), some (.int (x))], [.int ((σ 59) x.toNatClampNeg)], σ) rfl ?_ ?_
    · first | exact h | exact ⟨h, h⟩ | exact ⟨h, h, h⟩
    exact ev_iret rfl rfl rfl ⟨by simp_all [s_span, s_rank], rfl⟩
  refine ⟨fun c6_4 => ?_, fun c6_4 => ?_⟩
  · refine ev_blk 8 [vp_in (x) 10] 72 ([some (.ref 57), some (.int (x))], [.int (x_mx (1 : Int32) (((σ 59) x.toNatClampNeg) - (1 : Int32)))], σ) rfl ?_ ?_
    · first | exact h | exact ⟨h, h⟩ | exact ⟨h, h, h⟩
    exact ev_iret rfl rfl rfl ⟨by simp_all [s_span, s_rank], rfl⟩
  refine ⟨fun c6_5 => ?_, fun c6_5 => ?_⟩
  · refine ev_blk 6 [vp_in (x) 10] 48 ([some (.ref 57), some (.int (x))], [.int (((σ 59) x.toNatClampNeg) + (1 : Int32))], σ) rfl ?_ ?_
    · first | exact h | exact ⟨h, h⟩ | exact ⟨h, h, h⟩
    exact ev_iret rfl rfl rfl ⟨by simp_all [s_span, s_rank], rfl⟩
  show xEv _ _ _ 73 ([some (.ref 57), some (.int (x))], [], σ)
  refine ev_blk 4 [vp_in (x) 10] 79 ([some (.ref 57), some (.int (x))], [.int ((σ 59) x.toNatClampNeg)], σ) rfl ?_ ?_
  · first | exact h | exact ⟨h, h⟩ | exact ⟨h, h, h⟩
  exact ev_iret rfl rfl rfl ⟨by simp_all [s_span, s_rank], rfl⟩
set_option maxRecDepth 100000 in
theorem m_rank (σ : xSg) (x : Int32) (h : vp_in x 10) : xPu M_X6_rankOf [.ref 57, .int (x)] σ (.int (s_rank (σ 58) (σ 60) x.toNatClampNeg)) := by
  refine ctr_ev ok_X6_rankOf (by decide +kernel) rfl rfl rfl ?_
  show xEv (.inl 0) M_X6_rankOf _ 0 ([some (.ref 57), some (.int (x))], [], σ)
  refine ev_br 5 [vp_in (x) 10] (¬ ((σ 58) x.toNatClampNeg) = (3 : Int32)) 22 10 ([some (.ref 57), some (.int (x))], [], σ) rfl ?_ (fun c7 => ?_) (fun c7 => ?_)
  · first | exact h | exact ⟨h, h⟩ | exact ⟨h, h, h⟩
  · refine ev_br 5 [vp_in (x) 10] (¬ ((σ 58) x.toNatClampNeg) = (4 : Int32)) 46 32 ([some (.ref 57), some (.int (x))], [], σ) rfl ?_ (fun c29 => ?_) (fun c29 => ?_)
    · first | exact h | exact ⟨h, h⟩ | exact ⟨h, h, h⟩
    · refine ev_blk 4 [vp_in (x) 10] 52 ([some (.ref 57), some (.int (x))], [.int ((σ 60) x.toNatClampNeg)], σ) rfl ?_ ?_
      · first | exact h | exact ⟨h, h⟩ | exact ⟨h, h, h⟩
      exact ev_iret rfl rfl rfl ⟨by simp_all [s_span, s_rank], rfl⟩
    · refine ev_blk 9 [vp_in (x) 10] 52 ([some (.ref 57), some (.int (x))], [.int ((2 : Int32) * (((σ 60) x.toNatClampNeg) + (10 : Int32)))], σ) rfl ?_ ?_
      · first | exact h | exact ⟨h, h⟩ | exact ⟨h, h, h⟩
      exact ev_iret rfl rfl rfl ⟨by simp_all [s_span, s_rank], rfl⟩
  · refine ev_blk 7 [vp_in (x) 10] 52 ([some (.ref 57), some (.int (x))], [.int (((σ 60) x.toNatClampNeg) + (10 : Int32))], σ) rfl ?_ ?_
    · first | exact h | exact ⟨h, h⟩ | exact ⟨h, h, h⟩
    exact ev_iret rfl rfl rfl ⟨by simp_all [s_span, s_rank], rfl⟩
set_option maxRecDepth 100000 in
theorem m_isShip (σ : xSg) (x : Int32) : xPu M_X6_isShip [.ref 57, .int (x)] σ (.int (zi (¬ x < 0 ∧ ¬ σ 57 0 - 1 < x))) := by
  refine ctr_ev ok_X6_isShip (by decide +kernel) rfl rfl rfl ?_
  show xEv (.inl 1) M_X6_isShip _ 0 ([some (.ref 57), some (.int (x))], [], σ)
  refine ev_blk 6 [] 8 ([some (.ref 57), some (.int (x))], [.int ((σ 57 0) - (1 : Int32)), .int ((0 : Int32)), .int (x)], σ) rfl ?_ ?_
  · trivial
  refine ev_callS M_X6_within [.int (x), .int ((0 : Int32)), .int ((σ 57 0) - (1 : Int32))] [] rfl rfl ln_X6_110 k_X6_within rfl rfl rfl (m_within _ _ _ _) ?_
  refine pu_k ?_
  show xEv _ _ _ 11 ([some (.ref 57), some (.int (x))], [.int (zi (¬ x < (0 : Int32) ∧ ¬ ((σ 57 0) - (1 : Int32)) < x))], σ)
  exact ev_iret rfl rfl zi_nar ⟨rfl, rfl⟩
set_option maxRecDepth 100000 in
theorem m_isSheet (σ : xSg) (x : Int32) : xPu M_X6_isSheet [.int (x)] σ (.int (zi (¬ x < 0 ∧ ¬ (3 : Int32) < x))) := by
  refine ctr_ev ok_X6_isSheet (by decide +kernel) rfl rfl rfl ?_
  show xEv (.inl 1) M_X6_isSheet _ 0 ([some (.int (x))], [], σ)
  refine ev_blk 3 [] 3 ([some (.int (x))], [.int ((3 : Int32)), .int ((0 : Int32)), .int (x)], σ) rfl ?_ ?_
  · trivial
  refine ev_callS M_X6_within [.int (x), .int ((0 : Int32)), .int ((3 : Int32))] [] rfl rfl ln_X6_110 k_X6_within rfl rfl rfl (m_within _ _ _ _) ?_
  refine pu_k ?_
  show xEv _ _ _ 6 ([some (.int (x))], [.int (zi (¬ x < (0 : Int32) ∧ ¬ (3 : Int32) < x))], σ)
  exact ev_iret rfl rfl zi_nar ⟨rfl, rfl⟩
set_option maxRecDepth 100000 in
theorem c_isMissing0 (σ : xSg) : xPu M_X4_isMissing [.ref 49] σ (.int (zi (σ 49 0 = -1))) := by
  refine ctr_ev ok_X4_isMissing (by decide +kernel) rfl rfl rfl ?_
  show xEv (.inl 0) M_X4_isMissing _ 0 ([some (.ref 49)], [], σ)
  refine ev_br 3 [] (¬ (σ 49 0) = (-1 : Int32)) 12 8 ([some (.ref 49)], [], σ) rfl ?_ (fun c5 => ?_) (fun c5 => ?_)
  · trivial
  · refine ev_blk 1 [] 13 ([some (.ref 49)], [.int ((0 : Int32))], σ) rfl ?_ ?_
    · trivial
    exact ev_iret rfl rfl nar0 (pu_f (by first | (intro h; exact absurd h.1 (by assumption)) | (simp_all; done) | (simp_all [iSh]; done)))
  · refine ev_blk 2 [] 13 ([some (.ref 49)], [.int ((1 : Int32))], σ) rfl ?_ ?_
    · trivial
    exact ev_iret rfl rfl nar1 (pu_t (by first | (intro h; exact absurd h.1 (by assumption)) | (simp_all; done) | (simp_all [iSh]; done)))
set_option maxRecDepth 100000 in
theorem c_has0 (σ : xSg) (x : Int32) : xPu M_X4_has [.ref 49, .int (x)] σ (.int (zi (¬ x < 0 ∧ ¬ σ 49 1 ≤ x))) := by
  refine ctr_ev ok_X4_has (by decide +kernel) rfl rfl rfl ?_
  show xEv (.inl 0) M_X4_has _ 0 ([some (.ref 49), some (.int (x))], [], σ)
  refine ev_br 1 [] (x < 0) 16 4 ([some (.ref 49), some (.int (x))], [], σ) rfl ?_ (fun c1 => ?_) (fun c1 => ?_)
  · trivial
  · refine ev_blk 1 [] 17 ([some (.ref 49), some (.int (x))], [.int ((0 : Int32))], σ) rfl ?_ ?_
    · trivial
    exact ev_iret rfl rfl nar0 (pu_f (by first | (intro h; exact absurd h.1 (by assumption)) | (simp_all; done) | (simp_all [iSh]; done)))
  · refine ev_br 3 [] ((σ 49 1) ≤ x) 16 12 ([some (.ref 49), some (.int (x))], [], σ) rfl ?_ (fun c9 => ?_) (fun c9 => ?_)
    · trivial
    · refine ev_blk 1 [] 17 ([some (.ref 49), some (.int (x))], [.int ((0 : Int32))], σ) rfl ?_ ?_
      · trivial
      exact ev_iret rfl rfl nar0 (pu_f (by first | (intro h; exact absurd h.1 (by assumption)) | (simp_all; done) | (simp_all [iSh]; done)))
    · refine ev_blk 2 [] 17 ([some (.ref 49), some (.int (x))], [.int ((1 : Int32))], σ) rfl ?_ ?_
      · trivial
      exact ev_iret rfl rfl nar1 (pu_t (by first | (intro h; exact absurd h.1 (by assumption)) | (simp_all; done) | (simp_all [iSh]; done)))
set_option maxRecDepth 100000 in
theorem c_hasRun0 (σ : xSg) (x n : Int32) : xPu M_X4_hasRun [.ref 49, .int (x), .int (n)] σ (.int (zi (¬ x < 0 ∧ ¬ n < 0 ∧ ¬ σ 49 1 < x ∧ ¬ σ 49 1 - x < n))) := by
  refine ctr_ev ok_X4_hasRun (by decide +kernel) rfl rfl rfl ?_
  show xEv (.inl 0) M_X4_hasRun _ 0 ([some (.ref 49), some (.int (x)), some (.int (n))], [], σ)
  refine ev_br 1 [] (x < 0) 30 4 ([some (.ref 49), some (.int (x)), some (.int (n))], [], σ) rfl ?_ (fun c1 => ?_) (fun c1 => ?_)
  · trivial
  · refine ev_blk 1 [] 31 ([some (.ref 49), some (.int (x)), some (.int (n))], [.int ((0 : Int32))], σ) rfl ?_ ?_
    · trivial
    exact ev_iret rfl rfl nar0 (pu_f (by first | (intro h; exact absurd h.1 (by assumption)) | (simp_all; done) | (simp_all [iSh]; done)))
  · refine ev_br 1 [] (n < 0) 30 8 ([some (.ref 49), some (.int (x)), some (.int (n))], [], σ) rfl ?_ (fun c5 => ?_) (fun c5 => ?_)
    · trivial
    · refine ev_blk 1 [] 31 ([some (.ref 49), some (.int (x)), some (.int (n))], [.int ((0 : Int32))], σ) rfl ?_ ?_
      · trivial
      exact ev_iret rfl rfl nar0 (pu_f (by first | (intro h; exact absurd h.1 (by assumption)) | (simp_all; done) | (simp_all [iSh]; done)))
    · refine ev_br 3 [] ((σ 49 1) < x) 30 16 ([some (.ref 49), some (.int (x)), some (.int (n))], [], σ) rfl ?_ (fun c13 => ?_) (fun c13 => ?_)
      · trivial
      · refine ev_blk 1 [] 31 ([some (.ref 49), some (.int (x)), some (.int (n))], [.int ((0 : Int32))], σ) rfl ?_ ?_
        · trivial
        exact ev_iret rfl rfl nar0 (pu_f (by first | (intro h; exact absurd h.1 (by assumption)) | (simp_all; done) | (simp_all [iSh]; done)))
      · refine ev_br 5 [] (((σ 49 1) - x) < n) 30 26 ([some (.ref 49), some (.int (x)), some (.int (n))], [], σ) rfl ?_ (fun c23 => ?_) (fun c23 => ?_)
        · trivial
        · refine ev_blk 1 [] 31 ([some (.ref 49), some (.int (x)), some (.int (n))], [.int ((0 : Int32))], σ) rfl ?_ ?_
          · trivial
          exact ev_iret rfl rfl nar0 (pu_f (by first | (intro h; exact absurd h.1 (by assumption)) | (simp_all; done) | (simp_all [iSh]; done)))
        · refine ev_blk 2 [] 31 ([some (.ref 49), some (.int (x)), some (.int (n))], [.int ((1 : Int32))], σ) rfl ?_ ?_
          · trivial
          exact ev_iret rfl rfl nar1 (pu_t (by first | (intro h; exact absurd h.1 (by assumption)) | (simp_all; done) | (simp_all [iSh]; done)))
set_option maxRecDepth 100000 in
theorem c_isMissing1 (σ : xSg) : xPu M_X4_isMissing [.ref 51] σ (.int (zi (σ 51 0 = -1))) := by
  refine ctr_ev ok_X4_isMissing (by decide +kernel) rfl rfl rfl ?_
  show xEv (.inl 0) M_X4_isMissing _ 0 ([some (.ref 51)], [], σ)
  refine ev_br 3 [] (¬ (σ 51 0) = (-1 : Int32)) 12 8 ([some (.ref 51)], [], σ) rfl ?_ (fun c5 => ?_) (fun c5 => ?_)
  · trivial
  · refine ev_blk 1 [] 13 ([some (.ref 51)], [.int ((0 : Int32))], σ) rfl ?_ ?_
    · trivial
    exact ev_iret rfl rfl nar0 (pu_f (by first | (intro h; exact absurd h.1 (by assumption)) | (simp_all; done) | (simp_all [iSh]; done)))
  · refine ev_blk 2 [] 13 ([some (.ref 51)], [.int ((1 : Int32))], σ) rfl ?_ ?_
    · trivial
    exact ev_iret rfl rfl nar1 (pu_t (by first | (intro h; exact absurd h.1 (by assumption)) | (simp_all; done) | (simp_all [iSh]; done)))
set_option maxRecDepth 100000 in
theorem c_has1 (σ : xSg) (x : Int32) : xPu M_X4_has [.ref 51, .int (x)] σ (.int (zi (¬ x < 0 ∧ ¬ σ 51 1 ≤ x))) := by
  refine ctr_ev ok_X4_has (by decide +kernel) rfl rfl rfl ?_
  show xEv (.inl 0) M_X4_has _ 0 ([some (.ref 51), some (.int (x))], [], σ)
  refine ev_br 1 [] (x < 0) 16 4 ([some (.ref 51), some (.int (x))], [], σ) rfl ?_ (fun c1 => ?_) (fun c1 => ?_)
  · trivial
  · refine ev_blk 1 [] 17 ([some (.ref 51), some (.int (x))], [.int ((0 : Int32))], σ) rfl ?_ ?_
    · trivial
    exact ev_iret rfl rfl nar0 (pu_f (by first | (intro h; exact absurd h.1 (by assumption)) | (simp_all; done) | (simp_all [iSh]; done)))
  · refine ev_br 3 [] ((σ 51 1) ≤ x) 16 12 ([some (.ref 51), some (.int (x))], [], σ) rfl ?_ (fun c9 => ?_) (fun c9 => ?_)
    · trivial
    · refine ev_blk 1 [] 17 ([some (.ref 51), some (.int (x))], [.int ((0 : Int32))], σ) rfl ?_ ?_
      · trivial
      exact ev_iret rfl rfl nar0 (pu_f (by first | (intro h; exact absurd h.1 (by assumption)) | (simp_all; done) | (simp_all [iSh]; done)))
    · refine ev_blk 2 [] 17 ([some (.ref 51), some (.int (x))], [.int ((1 : Int32))], σ) rfl ?_ ?_
      · trivial
      exact ev_iret rfl rfl nar1 (pu_t (by first | (intro h; exact absurd h.1 (by assumption)) | (simp_all; done) | (simp_all [iSh]; done)))
set_option maxRecDepth 100000 in
theorem c_hasRun1 (σ : xSg) (x n : Int32) : xPu M_X4_hasRun [.ref 51, .int (x), .int (n)] σ (.int (zi (¬ x < 0 ∧ ¬ n < 0 ∧ ¬ σ 51 1 < x ∧ ¬ σ 51 1 - x < n))) := by
  refine ctr_ev ok_X4_hasRun (by decide +kernel) rfl rfl rfl ?_
  show xEv (.inl 0) M_X4_hasRun _ 0 ([some (.ref 51), some (.int (x)), some (.int (n))], [], σ)
  refine ev_br 1 [] (x < 0) 30 4 ([some (.ref 51), some (.int (x)), some (.int (n))], [], σ) rfl ?_ (fun c1 => ?_) (fun c1 => ?_)
  · trivial
  · refine ev_blk 1 [] 31 ([some (.ref 51), some (.int (x)), some (.int (n))], [.int ((0 : Int32))], σ) rfl ?_ ?_
    · trivial
    exact ev_iret rfl rfl nar0 (pu_f (by first | (intro h; exact absurd h.1 (by assumption)) | (simp_all; done) | (simp_all [iSh]; done)))
  · refine ev_br 1 [] (n < 0) 30 8 ([some (.ref 51), some (.int (x)), some (.int (n))], [], σ) rfl ?_ (fun c5 => ?_) (fun c5 => ?_)
    · trivial
    · refine ev_blk 1 [] 31 ([some (.ref 51), some (.int (x)), some (.int (n))], [.int ((0 : Int32))], σ) rfl ?_ ?_
      · trivial
      exact ev_iret rfl rfl nar0 (pu_f (by first | (intro h; exact absurd h.1 (by assumption)) | (simp_all; done) | (simp_all [iSh]; done)))
    · refine ev_br 3 [] ((σ 51 1) < x) 30 16 ([some (.ref 51), some (.int (x)), some (.int (n))], [], σ) rfl ?_ (fun c13 => ?_) (fun c13 => ?_)
      · trivial
      · refine ev_blk 1 [] 31 ([some (.ref 51), some (.int (x)), some (.int (n))], [.int ((0 : Int32))], σ) rfl ?_ ?_
        · trivial
        exact ev_iret rfl rfl nar0 (pu_f (by first | (intro h; exact absurd h.1 (by assumption)) | (simp_all; done) | (simp_all [iSh]; done)))
      · refine ev_br 5 [] (((σ 51 1) - x) < n) 30 26 ([some (.ref 51), some (.int (x)), some (.int (n))], [], σ) rfl ?_ (fun c23 => ?_) (fun c23 => ?_)
        · trivial
        · refine ev_blk 1 [] 31 ([some (.ref 51), some (.int (x)), some (.int (n))], [.int ((0 : Int32))], σ) rfl ?_ ?_
          · trivial
          exact ev_iret rfl rfl nar0 (pu_f (by first | (intro h; exact absurd h.1 (by assumption)) | (simp_all; done) | (simp_all [iSh]; done)))
        · refine ev_blk 2 [] 31 ([some (.ref 51), some (.int (x)), some (.int (n))], [.int ((1 : Int32))], σ) rfl ?_ ?_
          · trivial
          exact ev_iret rfl rfl nar1 (pu_t (by first | (intro h; exact absurd h.1 (by assumption)) | (simp_all; done) | (simp_all [iSh]; done)))
set_option maxRecDepth 100000 in
theorem c_isMissing2 (σ : xSg) : xPu M_X4_isMissing [.ref 53] σ (.int (zi (σ 53 0 = -1))) := by
  refine ctr_ev ok_X4_isMissing (by decide +kernel) rfl rfl rfl ?_
  show xEv (.inl 0) M_X4_isMissing _ 0 ([some (.ref 53)], [], σ)
  refine ev_br 3 [] (¬ (σ 53 0) = (-1 : Int32)) 12 8 ([some (.ref 53)], [], σ) rfl ?_ (fun c5 => ?_) (fun c5 => ?_)
  · trivial
  · refine ev_blk 1 [] 13 ([some (.ref 53)], [.int ((0 : Int32))], σ) rfl ?_ ?_
    · trivial
    exact ev_iret rfl rfl nar0 (pu_f (by first | (intro h; exact absurd h.1 (by assumption)) | (simp_all; done) | (simp_all [iSh]; done)))
  · refine ev_blk 2 [] 13 ([some (.ref 53)], [.int ((1 : Int32))], σ) rfl ?_ ?_
    · trivial
    exact ev_iret rfl rfl nar1 (pu_t (by first | (intro h; exact absurd h.1 (by assumption)) | (simp_all; done) | (simp_all [iSh]; done)))
set_option maxRecDepth 100000 in
theorem c_has2 (σ : xSg) (x : Int32) : xPu M_X4_has [.ref 53, .int (x)] σ (.int (zi (¬ x < 0 ∧ ¬ σ 53 1 ≤ x))) := by
  refine ctr_ev ok_X4_has (by decide +kernel) rfl rfl rfl ?_
  show xEv (.inl 0) M_X4_has _ 0 ([some (.ref 53), some (.int (x))], [], σ)
  refine ev_br 1 [] (x < 0) 16 4 ([some (.ref 53), some (.int (x))], [], σ) rfl ?_ (fun c1 => ?_) (fun c1 => ?_)
  · trivial
  · refine ev_blk 1 [] 17 ([some (.ref 53), some (.int (x))], [.int ((0 : Int32))], σ) rfl ?_ ?_
    · trivial
    exact ev_iret rfl rfl nar0 (pu_f (by first | (intro h; exact absurd h.1 (by assumption)) | (simp_all; done) | (simp_all [iSh]; done)))
  · refine ev_br 3 [] ((σ 53 1) ≤ x) 16 12 ([some (.ref 53), some (.int (x))], [], σ) rfl ?_ (fun c9 => ?_) (fun c9 => ?_)
    · trivial
    · refine ev_blk 1 [] 17 ([some (.ref 53), some (.int (x))], [.int ((0 : Int32))], σ) rfl ?_ ?_
      · trivial
      exact ev_iret rfl rfl nar0 (pu_f (by first | (intro h; exact absurd h.1 (by assumption)) | (simp_all; done) | (simp_all [iSh]; done)))
    · refine ev_blk 2 [] 17 ([some (.ref 53), some (.int (x))], [.int ((1 : Int32))], σ) rfl ?_ ?_
      · trivial
      exact ev_iret rfl rfl nar1 (pu_t (by first | (intro h; exact absurd h.1 (by assumption)) | (simp_all; done) | (simp_all [iSh]; done)))
set_option maxRecDepth 100000 in
theorem c_hasRun2 (σ : xSg) (x n : Int32) : xPu M_X4_hasRun [.ref 53, .int (x), .int (n)] σ (.int (zi (¬ x < 0 ∧ ¬ n < 0 ∧ ¬ σ 53 1 < x ∧ ¬ σ 53 1 - x < n))) := by
  refine ctr_ev ok_X4_hasRun (by decide +kernel) rfl rfl rfl ?_
  show xEv (.inl 0) M_X4_hasRun _ 0 ([some (.ref 53), some (.int (x)), some (.int (n))], [], σ)
  refine ev_br 1 [] (x < 0) 30 4 ([some (.ref 53), some (.int (x)), some (.int (n))], [], σ) rfl ?_ (fun c1 => ?_) (fun c1 => ?_)
  · trivial
  · refine ev_blk 1 [] 31 ([some (.ref 53), some (.int (x)), some (.int (n))], [.int ((0 : Int32))], σ) rfl ?_ ?_
    · trivial
    exact ev_iret rfl rfl nar0 (pu_f (by first | (intro h; exact absurd h.1 (by assumption)) | (simp_all; done) | (simp_all [iSh]; done)))
  · refine ev_br 1 [] (n < 0) 30 8 ([some (.ref 53), some (.int (x)), some (.int (n))], [], σ) rfl ?_ (fun c5 => ?_) (fun c5 => ?_)
    · trivial
    · refine ev_blk 1 [] 31 ([some (.ref 53), some (.int (x)), some (.int (n))], [.int ((0 : Int32))], σ) rfl ?_ ?_
      · trivial
      exact ev_iret rfl rfl nar0 (pu_f (by first | (intro h; exact absurd h.1 (by assumption)) | (simp_all; done) | (simp_all [iSh]; done)))
    · refine ev_br 3 [] ((σ 53 1) < x) 30 16 ([some (.ref 53), some (.int (x)), some (.int (n))], [], σ) rfl ?_ (fun c13 => ?_) (fun c13 => ?_)
      · trivial
      · refine ev_blk 1 [] 31 ([some (.ref 53), some (.int (x)), some (.int (n))], [.int ((0 : Int32))], σ) rfl ?_ ?_
        · trivial
        exact ev_iret rfl rfl nar0 (pu_f (by first | (intro h; exact absurd h.1 (by assumption)) | (simp_all; done) | (simp_all [iSh]; done)))
      · refine ev_br 5 [] (((σ 53 1) - x) < n) 30 26 ([some (.ref 53), some (.int (x)), some (.int (n))], [], σ) rfl ?_ (fun c23 => ?_) (fun c23 => ?_)
        · trivial
        · refine ev_blk 1 [] 31 ([some (.ref 53), some (.int (x)), some (.int (n))], [.int ((0 : Int32))], σ) rfl ?_ ?_
          · trivial
          exact ev_iret rfl rfl nar0 (pu_f (by first | (intro h; exact absurd h.1 (by assumption)) | (simp_all; done) | (simp_all [iSh]; done)))
        · refine ev_blk 2 [] 31 ([some (.ref 53), some (.int (x)), some (.int (n))], [.int ((1 : Int32))], σ) rfl ?_ ?_
          · trivial
          exact ev_iret rfl rfl nar1 (pu_t (by first | (intro h; exact absurd h.1 (by assumption)) | (simp_all; done) | (simp_all [iSh]; done)))
set_option maxRecDepth 100000 in
theorem c_isMissing3 (σ : xSg) : xPu M_X4_isMissing [.ref 55] σ (.int (zi (σ 55 0 = -1))) := by
  refine ctr_ev ok_X4_isMissing (by decide +kernel) rfl rfl rfl ?_
  show xEv (.inl 0) M_X4_isMissing _ 0 ([some (.ref 55)], [], σ)
  refine ev_br 3 [] (¬ (σ 55 0) = (-1 : Int32)) 12 8 ([some (.ref 55)], [], σ) rfl ?_ (fun c5 => ?_) (fun c5 => ?_)
  · trivial
  · refine ev_blk 1 [] 13 ([some (.ref 55)], [.int ((0 : Int32))], σ) rfl ?_ ?_
    · trivial
    exact ev_iret rfl rfl nar0 (pu_f (by first | (intro h; exact absurd h.1 (by assumption)) | (simp_all; done) | (simp_all [iSh]; done)))
  · refine ev_blk 2 [] 13 ([some (.ref 55)], [.int ((1 : Int32))], σ) rfl ?_ ?_
    · trivial
    exact ev_iret rfl rfl nar1 (pu_t (by first | (intro h; exact absurd h.1 (by assumption)) | (simp_all; done) | (simp_all [iSh]; done)))
set_option maxRecDepth 100000 in
theorem c_has3 (σ : xSg) (x : Int32) : xPu M_X4_has [.ref 55, .int (x)] σ (.int (zi (¬ x < 0 ∧ ¬ σ 55 1 ≤ x))) := by
  refine ctr_ev ok_X4_has (by decide +kernel) rfl rfl rfl ?_
  show xEv (.inl 0) M_X4_has _ 0 ([some (.ref 55), some (.int (x))], [], σ)
  refine ev_br 1 [] (x < 0) 16 4 ([some (.ref 55), some (.int (x))], [], σ) rfl ?_ (fun c1 => ?_) (fun c1 => ?_)
  · trivial
  · refine ev_blk 1 [] 17 ([some (.ref 55), some (.int (x))], [.int ((0 : Int32))], σ) rfl ?_ ?_
    · trivial
    exact ev_iret rfl rfl nar0 (pu_f (by first | (intro h; exact absurd h.1 (by assumption)) | (simp_all; done) | (simp_all [iSh]; done)))
  · refine ev_br 3 [] ((σ 55 1) ≤ x) 16 12 ([some (.ref 55), some (.int (x))], [], σ) rfl ?_ (fun c9 => ?_) (fun c9 => ?_)
    · trivial
    · refine ev_blk 1 [] 17 ([some (.ref 55), some (.int (x))], [.int ((0 : Int32))], σ) rfl ?_ ?_
      · trivial
      exact ev_iret rfl rfl nar0 (pu_f (by first | (intro h; exact absurd h.1 (by assumption)) | (simp_all; done) | (simp_all [iSh]; done)))
    · refine ev_blk 2 [] 17 ([some (.ref 55), some (.int (x))], [.int ((1 : Int32))], σ) rfl ?_ ?_
      · trivial
      exact ev_iret rfl rfl nar1 (pu_t (by first | (intro h; exact absurd h.1 (by assumption)) | (simp_all; done) | (simp_all [iSh]; done)))
set_option maxRecDepth 100000 in
theorem c_hasRun3 (σ : xSg) (x n : Int32) : xPu M_X4_hasRun [.ref 55, .int (x), .int (n)] σ (.int (zi (¬ x < 0 ∧ ¬ n < 0 ∧ ¬ σ 55 1 < x ∧ ¬ σ 55 1 - x < n))) := by
  refine ctr_ev ok_X4_hasRun (by decide +kernel) rfl rfl rfl ?_
  show xEv (.inl 0) M_X4_hasRun _ 0 ([some (.ref 55), some (.int (x)), some (.int (n))], [], σ)
  refine ev_br 1 [] (x < 0) 30 4 ([some (.ref 55), some (.int (x)), some (.int (n))], [], σ) rfl ?_ (fun c1 => ?_) (fun c1 => ?_)
  · trivial
  · refine ev_blk 1 [] 31 ([some (.ref 55), some (.int (x)), some (.int (n))], [.int ((0 : Int32))], σ) rfl ?_ ?_
    · trivial
    exact ev_iret rfl rfl nar0 (pu_f (by first | (intro h; exact absurd h.1 (by assumption)) | (simp_all; done) | (simp_all [iSh]; done)))
  · refine ev_br 1 [] (n < 0) 30 8 ([some (.ref 55), some (.int (x)), some (.int (n))], [], σ) rfl ?_ (fun c5 => ?_) (fun c5 => ?_)
    · trivial
    · refine ev_blk 1 [] 31 ([some (.ref 55), some (.int (x)), some (.int (n))], [.int ((0 : Int32))], σ) rfl ?_ ?_
      · trivial
      exact ev_iret rfl rfl nar0 (pu_f (by first | (intro h; exact absurd h.1 (by assumption)) | (simp_all; done) | (simp_all [iSh]; done)))
    · refine ev_br 3 [] ((σ 55 1) < x) 30 16 ([some (.ref 55), some (.int (x)), some (.int (n))], [], σ) rfl ?_ (fun c13 => ?_) (fun c13 => ?_)
      · trivial
      · refine ev_blk 1 [] 31 ([some (.ref 55), some (.int (x)), some (.int (n))], [.int ((0 : Int32))], σ) rfl ?_ ?_
        · trivial
        exact ev_iret rfl rfl nar0 (pu_f (by first | (intro h; exact absurd h.1 (by assumption)) | (simp_all; done) | (simp_all [iSh]; done)))
      · refine ev_br 5 [] (((σ 55 1) - x) < n) 30 26 ([some (.ref 55), some (.int (x)), some (.int (n))], [], σ) rfl ?_ (fun c23 => ?_) (fun c23 => ?_)
        · trivial
        · refine ev_blk 1 [] 31 ([some (.ref 55), some (.int (x)), some (.int (n))], [.int ((0 : Int32))], σ) rfl ?_ ?_
          · trivial
          exact ev_iret rfl rfl nar0 (pu_f (by first | (intro h; exact absurd h.1 (by assumption)) | (simp_all; done) | (simp_all [iSh]; done)))
        · refine ev_blk 2 [] 31 ([some (.ref 55), some (.int (x)), some (.int (n))], [.int ((1 : Int32))], σ) rfl ?_ ?_
          · trivial
          exact ev_iret rfl rfl nar1 (pu_t (by first | (intro h; exact absurd h.1 (by assumption)) | (simp_all; done) | (simp_all [iSh]; done)))
set_option maxRecDepth 100000 in
theorem c_run (σ : xSg) (x : Int32) : xPu M_X2_run [.int (x)] σ (.int ((1 : Int32) <<< (x &&& 31) - 1)) := by
  refine ctr_ev ok_X2_run (by decide +kernel) rfl rfl rfl ?_
  show xEv (.inl 0) M_X2_run _ 0 ([some (.int (x))], [], σ)
  refine ev_blk 5 [] 5 ([some (.int (x))], [.int (((1 : Int32) <<< (x &&& 31)) - (1 : Int32))], σ) rfl ?_ ?_
  · trivial
  exact ev_iret rfl rfl rfl ⟨rfl, rfl⟩
set_option maxRecDepth 100000 in
theorem c_stateOf (σ : xSg) (x y : Int32) : xPu M_X1_stateOf [.int (x), .int (y)] σ (.int (x * 11 + y)) := by
  refine ctr_ev ok_X1_stateOf (by decide +kernel) rfl rfl rfl ?_
  show xEv (.inl 0) M_X1_stateOf _ 0 ([some (.int (x)), some (.int (y))], [], σ)
  refine ev_blk 5 [] 6 ([some (.int (x)), some (.int (y))], [.int ((x * (11 : Int32)) + y)], σ) rfl ?_ ?_
  · trivial
  exact ev_iret rfl rfl rfl ⟨rfl, rfl⟩
set_option maxRecDepth 100000 in
theorem c_waitOf (σ : xSg) (x : Int32) (h : ¬ x < 0 ∧ x < 10) : xPu M_X0_waitOf [.ref 31, .int (x)] σ (.int (σ 33 x.toNatClampNeg)) := by
  refine ctr_ev ok_X0_waitOf (by decide +kernel) rfl rfl rfl ?_
  show xEv (.inl 0) M_X0_waitOf _ 0 ([some (.ref 31), some (.int (x))], [], σ)
  refine ev_br 1 [] (x < 0) 10 4 ([some (.ref 31), some (.int (x))], [], σ) rfl ?_ (fun c1 => ?_) (fun c1 => ?_)
  · trivial
  · exact absurd c1 h.1
  · refine ev_br 2 [] (x < (10 : Int32)) 14 10 ([some (.ref 31), some (.int (x))], [], σ) rfl ?_ (fun c7 => ?_) (fun c7 => ?_)
    · trivial
    · refine ev_blk 4 [vp_in (x) 10] 20 ([some (.ref 31), some (.int (x))], [.int ((σ 33) x.toNatClampNeg)], σ) rfl ?_ ?_
      · first | exact vpi10' h.1 h.2 | exact ⟨vpi10' h.1 h.2, vpi10' h.1 h.2⟩
      exact ev_iret rfl rfl rfl ⟨rfl, rfl⟩
    · exact absurd h.2 c7
end
section
/-! the document's words as functions on numbers, lists and rows -/
def bt (x : Int32) (i : Nat) : Bool := x.toBitVec.getLsbD i
theorem b_ext {x y : Int32} (h : ∀ i, i < 32 → bt x i = bt y i) : x = y := Int32.toBitVec_inj.mp (BitVec.eq_of_getLsbD_eq (fun i hi => h i hi))
theorem b_or (x y : Int32) (i : Nat) : bt (x ||| y) i = (bt x i || bt y i) := by unfold bt; rw [Int32.toBitVec_or, BitVec.getLsbD_or]
theorem b_and (x y : Int32) (i : Nat) : bt (x &&& y) i = (bt x i && bt y i) := by unfold bt; rw [Int32.toBitVec_and, BitVec.getLsbD_and]
theorem b_xor (x y : Int32) (i : Nat) : bt (x ^^^ y) i = (bt x i ^^ bt y i) := by unfold bt; rw [Int32.toBitVec_xor, BitVec.getLsbD_xor]
theorem b_m1 : ∀ i, i < 32 → bt (-1) i = true := by decide +kernel
theorem b_0 (i : Nat) : bt 0 i = false := BitVec.getLsbD_zero
theorem s_l : ∀ n, n < 32 → ((nI n &&& 31).toBitVec.smod 32).toNat = n := by decide +kernel
theorem b_sshr (n : Nat) (hn : n < 32) (x : Int32) {i : Nat} (hi : i < 32) : bt (x >>> (nI n &&& 31)) i = if n + i < 32 then bt x (n + i) else bt x 31 := by
  unfold bt
  rw [Int32.toBitVec_shiftRight]
  show (x.toBitVec.sshiftRight ((nI n &&& 31).toBitVec.smod 32).toNat).getLsbD i = _
  rw [s_l n hn, BitVec.getLsbD_sshiftRight, BitVec.msb_eq_getLsbD_last]
  simp [hi]
theorem b_one : ∀ i, i < 32 → bt 1 i = decide (i = 0) := by decide +kernel
theorem b_zero {x : Int32} : x = 0 ↔ ∀ i, i < 32 → bt x i = false := ⟨fun h i _ => by rw [h]; exact b_0 i, fun h => b_ext (fun i hi => by rw [h i hi, b_0])⟩
/-- the code's test of a bit -/
theorem b_tst {x : Int32} {j : Nat} (hj : j < 32) : (x >>> (nI j &&& 31)) &&& 1 = 0 ↔ bt x j = false := by
  rw [b_zero]
  constructor
  · intro h
    have h0 := h 0 (by decide)
    rw [b_and, b_sshr j hj x (by decide), b_one 0 (by decide)] at h0
    simpa [hj] using h0
  · intro h i hi
    rw [b_and, b_one i hi]
    by_cases h0 : i = 0
    · subst h0
      rw [b_sshr j hj x (by decide)]
      simp [hj, h]
    · simp [h0]
theorem b_bit : ∀ j, j < 32 → ∀ i, i < 32 → bt ((1 : Int32) <<< (nI j &&& 31)) i = decide (i = j) := by decide +kernel
theorem b_not {x : Int32} {i : Nat} (hi : i < 32) : bt (x ^^^ -1) i = !bt x i := by rw [b_xor, b_m1 i hi]; simp
theorem b_clr {x : Int32} {j i : Nat} (hj : j < 32) (hi : i < 32) : bt (x &&& (((1 : Int32) <<< (nI j &&& 31)) ^^^ -1)) i = (bt x i && !decide (i = j)) := by rw [b_and, b_not hi, b_bit j hj i hi]
theorem b_setb {x : Int32} {j i : Nat} (hj : j < 32) (hi : i < 32) : bt (x ||| ((1 : Int32) <<< (nI j &&& 31))) i = (bt x i || decide (i = j)) := by rw [b_or, b_bit j hj i hi]
theorem b_msk : ∀ sp, sp < 21 → ∀ p, p < 21 → p + sp ≤ 20 → ∀ i, i < 32 → bt (((1 : Int32) <<< (nI sp &&& 31) - 1) <<< (nI p &&& 31)) i = (decide (p ≤ i) && decide (i < p + sp)) := by decide +kernel
abbrev sAt : Type := (Nat → Int32) × (Nat → Int32) × (Nat → Int32) × (Nat → Int32) × (Nat → Int32) × (Nat → Int32) × (Nat → Int32)
abbrev aK (a : sAt) : Nat → Int32 := a.1
abbrev aLn (a : sAt) : Nat → Int32 := a.2.1
abbrev aFi (a : sAt) : Nat → Int32 := a.2.2.1
abbrev aLo (a : sAt) : Nat → Int32 := a.2.2.2.1
abbrev aCo (a : sAt) : Nat → Int32 := a.2.2.2.2.1
abbrev aLa (a : sAt) : Nat → Int32 := a.2.2.2.2.2.1
abbrev aS (a : sAt) : Nat → Int32 := a.2.2.2.2.2.2
abbrev atC (σ : xSg) : sAt := (σ 2, σ 3, σ 4, σ 5, σ 6, σ 7, σ 9)
abbrev atM (σ : xSg) : sAt := (σ 58, σ 59, σ 60, σ 61, σ 62, σ 63, σ 68)
/-- what stands in a row is a number from lo to hi -/
def rg (x : Int32) (lo hi : Nat) : Prop := ∃ j : Nat, x = nI j ∧ lo ≤ j ∧ j ≤ hi
/-- the attributes of n ships, and the chamber, are as told -/
def aOk (a : sAt) (n : Nat) : Prop := n ≤ 10 ∧ (∀ i, i < n → rg (aK a i) 0 5 ∧ rg (aLn a i) 1 9 ∧ rg (aFi a i) 0 9 ∧ rg (aLo a i) 0 999 ∧ rg (aCo a i) 0 999 ∧ rg (aLa a i) 0 1) ∧
  rg (aS a 0) 1 20 ∧ rg (aS a 1) 1 3 ∧ rg (aS a 2) 1 99 ∧ rg (aS a 3) 1 60 ∧ rg (aS a 4) 0 4
abbrev sTk : Type := Nat → Nat → Bool
abbrev sFl : Type := sTk × List (Nat × Nat × Nat)
abbrev sSt : Type := List Nat × List Nat × Bool × Bool × Bool × sFl
def s_long (a : sAt) : Nat := (aS a 0).toNatClampNeg
def s_rows (a : sAt) : Nat := (aS a 1).toNatClampNeg
def s_sp (a : sAt) (x : Nat) : Nat := (s_span (aK a) (aLn a) x).toNatClampNeg
def s_fit (tk : sTk) (sp r p : Nat) : Bool := (List.range sp).all fun q => !tk r (p + q)
def s_plr (tk : sTk) (sp r : Nat) : Nat → Nat → Option Nat
  | 0, _ => none
  | n + 1, p => if s_fit tk sp r p then some p else s_plr tk sp r n (p + 1)
def s_plc (a : sAt) (tk : sTk) (sp : Nat) : Nat → Nat → Option (Nat × Nat)
  | 0, _ => none
  | n + 1, r => match s_plr tk sp r (s_long a + 1 - sp) 0 with
    | some p => some (r, p)
    | none => s_plc a tk sp n (r + 1)
def s_mark (tk : sTk) (r p sp : Nat) : sTk := fun r' q => tk r' q || (decide (r' = r) && decide (p ≤ q) && decide (q < p + sp))
def s_tank (a : sAt) (w : List (Nat × Nat × Nat)) : Bool := match w with
  | [] => false
  | q :: _ => decide (aK a q.1 = 5)
def s_bar (a : sAt) (x : Nat) (w : List (Nat × Nat × Nat)) : Bool := !w.isEmpty && (decide (aK a x = 5) || s_tank a w)
def s_in (a : sAt) (x : Nat) (F : sFl) : Option sFl := if s_bar a x F.2 = true then none
  else match s_plc a F.1 (s_sp a x) (s_rows a) 0 with
    | some (r, p) => some (s_mark F.1 r p (s_sp a x), F.2 ++ [(x, r, p)])
    | none => none
/-- whether the head y of lane 1 is taken ahead of the head x of lane 0 -/
def s_sec (a : sAt) (x y : Nat) (lt : Bool) : Bool :=
  if aS a 4 = 1 then decide (s_rank (aK a) (aFi a) x < s_rank (aK a) (aFi a) y)
  else if aS a 4 = 2 then decide (s_span (aK a) (aLn a) y < s_span (aK a) (aLn a) x)
  else if aS a 4 = 3 then decide (aCo a y < aCo a x)
  else if aS a 4 = 4 then decide (aLo a x < aLo a y)
  else lt
/-- the ship of the next step, and its lane: lists are the heads of lanes that are open -/
def s_pick (a : sAt) (lt : Bool) : List Nat → List Nat → Option (Nat × Bool)
  | [], [] => none
  | x :: _, [] => some (x, false)
  | [], y :: _ => some (y, true)
  | x :: _, y :: _ => if s_sec a x y lt = true then some (y, true) else some (x, false)
def s_opn (o : Bool) (L : List Nat) : List Nat := if o = true then L else []
def s_step (a : sAt) (s : sSt) : Option sSt := match s_pick a s.2.2.2.2.1 (s_opn s.2.2.1 s.1) (s_opn s.2.2.2.1 s.2.1) with
  | none => none
  | some (x, false) => match s_in a x s.2.2.2.2.2 with
    | some F => some (s.1.tail, s.2.1, s.2.2.1, s.2.2.2.1, true, F)
    | none => some (s.1, s.2.1, false, s.2.2.2.1, s.2.2.2.2.1, s.2.2.2.2.2)
  | some (y, true) => match s_in a y s.2.2.2.2.2 with
    | some F => some (s.1, s.2.1.tail, s.2.2.1, s.2.2.2.1, false, F)
    | none => some (s.1, s.2.1, s.2.2.1, false, s.2.2.2.2.1, s.2.2.2.2.2)
def s_run (a : sAt) : Nat → sSt → sSt
  | 0, s => s
  | n + 1, s => match s_step a s with
    | none => s
    | some s' => s_run a n s'
/-- how many steps are left at most -/
def s_mu (s : sSt) : Nat := s.1.length + s.2.1.length + (if s.2.2.1 = true then 1 else 0) + (if s.2.2.2.1 = true then 1 else 0)
/-- a filling of those that stand in two lanes, in a chamber with these places barred -/
def s_fill (a : sAt) (tk : sTk) (L0 L1 : List Nat) : sSt := s_run a 12 (L0, L1, true, true, false, (tk, []))
def s_went (s : sSt) : List (Nat × Nat × Nat) := s.2.2.2.2.2.2
def s_lds (a : sAt) : List (Nat × Nat × Nat) → Int32
  | [] => 0
  | q :: l => aLo a q.1 + s_lds a l
def s_spend (a : sAt) (w : List (Nat × Nat × Nat)) : Int32 := x_mx 0 (aS a 0 * aS a 1 * aS a 2 - s_lds a w)
theorem s_pick_0 {a : sAt} {lt : Bool} {A B : List Nat} {x : Nat} (h : s_pick a lt A B = some (x, false)) : ∃ t, A = x :: t := by
  unfold s_pick at h
  split at h
  · cases h
  · cases h; exact ⟨_, rfl⟩
  · cases h
  · split at h
    · cases h
    · cases h; exact ⟨_, rfl⟩
theorem s_pick_1 {a : sAt} {lt : Bool} {A B : List Nat} {x : Nat} (h : s_pick a lt A B = some (x, true)) : ∃ t, B = x :: t := by
  unfold s_pick at h
  split at h
  · cases h
  · cases h
  · cases h; exact ⟨_, rfl⟩
  · split at h
    · cases h; exact ⟨_, rfl⟩
    · cases h
theorem s_opn_c {o : Bool} {L : List Nat} {x : Nat} {t : List Nat} (h : s_opn o L = x :: t) : o = true ∧ L = x :: t := by
  unfold s_opn at h
  split at h
  next e => exact ⟨e, h⟩
  next => cases h
theorem s_step_mu {a : sAt} {s s' : sSt} (h : s_step a s = some s') : s_mu s' + 1 = s_mu s := by
  obtain ⟨A, B, o0, o1, lt, F⟩ := s
  unfold s_step at h
  dsimp only at h
  split at h
  · cases h
  next x hp =>
    obtain ⟨t, ht⟩ := s_pick_0 hp
    obtain ⟨rfl, rfl⟩ := s_opn_c ht
    split at h
    · cases h; simp [s_mu]; omega
    · cases h; simp [s_mu]; omega
  next y hp =>
    obtain ⟨t, ht⟩ := s_pick_1 hp
    obtain ⟨rfl, rfl⟩ := s_opn_c ht
    split at h
    · cases h; simp [s_mu]; omega
    · cases h; simp [s_mu]
theorem s_run_add (a : sAt) : ∀ (n : Nat) (s : sSt), s_mu s ≤ n → s_run a (n + 1) s = s_run a n s
  | 0, s, h => by
    show (match s_step a s with | none => s | some s' => s_run a 0 s') = s
    cases hs : s_step a s with
    | none => rfl
    | some s' => have := s_step_mu hs; omega
  | n + 1, s, h => by
    show (match s_step a s with | none => s | some s' => s_run a (n + 1) s') = (match s_step a s with | none => s | some s' => s_run a n s')
    cases hs : s_step a s with
    | none => rfl
    | some s' =>
      have := s_step_mu hs
      exact s_run_add a n s' (by omega)
theorem s_run_none {a : sAt} {n : Nat} {s : sSt} (h : s_step a s = none) : s_run a n s = s := by
  cases n with
  | zero => rfl
  | succ n => show (match s_step a s with | none => s | some s' => s_run a n s') = s; rw [h]
theorem s_run_some {a : sAt} {n : Nat} {s s' : sSt} (h : s_step a s = some s') : s_run a (n + 1) s = s_run a n s' := by
  show (match s_step a s with | none => s | some s' => s_run a n s') = _; rw [h]
theorem s_fit_iff {tk : sTk} {sp r p : Nat} : s_fit tk sp r p = true ↔ ∀ q, p ≤ q → q < p + sp → tk r q = false := by
  unfold s_fit
  rw [List.all_eq_true]
  constructor
  · intro h q h1 h2
    have := h (q - p) (List.mem_range.mpr (by omega))
    rw [Nat.add_sub_cancel' h1] at this
    simpa using this
  · intro h q hq
    have := h (p + q) (by omega) (by have := List.mem_range.mp hq; omega)
    simpa using this
end
section
theorem x_get_drop {L : List (Option Value)} {i j : Nat} {v : Value} (h : x_get (x_set L i none) j = some v) : x_get L j = some v := by
  by_cases hj : j = i
  · subst hj
    have := x_get_set_eq L j none v h
    cases this
  · rwa [x_get_set_ne L i j none hj] at h
theorem ev_drop {o : xO} {M : xM} {Q : Option Value → xSg → Prop} {pc : Nat} {L st : List _} {σ : xSg} (i : Nat) (k : xEv o M Q pc (x_set L i none, st, σ)) : xEv o M Q pc (L, st, σ) :=
  fun ok p l e s m args below meth c ad ca D X H locs ls hP hS hL => k ok p l e s m args below meth c ad ca D X H locs ls hP hS ⟨hL.1, hL.2.1, fun j v hj => hL.2.2 j v (x_get_drop hj)⟩
def s_oi : Option Nat → Int32
  | none => -1
  | some p => nI p
theorem msk0 {cl : Int32} {tk : sTk} {sp r p : Nat} (hs : sp ≤ 20) (hp : p + sp ≤ 20) (hcl : ∀ q, q < 20 → bt cl q = tk r q) : (cl &&& ((1 : Int32) <<< (nI sp &&& 31) - 1) <<< (nI p &&& 31)) = 0 ↔ s_fit tk sp r p = true := by
  rw [b_zero, s_fit_iff]
  constructor
  · intro h q h1 h2
    have h3 := h q (by omega)
    rw [b_and, b_msk sp (by omega) p (by omega) hp q (by omega)] at h3
    rw [← hcl q (by omega)]
    simpa [h1, h2] using h3
  · intro h i hi
    rw [b_and, b_msk sp (by omega) p (by omega) hp i hi]
    by_cases hx : p ≤ i ∧ i < p + sp
    · rw [hcl i (by omega), h i hx.1 hx.2]
      simp
    · rcases Nat.lt_or_ge i p with h1 | h1
      · simp [Nat.not_le.mpr h1]
      · have h2 : ¬ i < p + sp := fun q => hx ⟨h1, q⟩
        simp [h2]
theorem s_span_c : ∀ j, j < 6 → ∀ l, l < 10 → 1 ≤ l → s_span (fun _ => nI j) (fun _ => nI l) 0 = nI (s_span (fun _ => nI j) (fun _ => nI l) 0).toNatClampNeg ∧ 1 ≤ (s_span (fun _ => nI j) (fun _ => nI l) 0).toNatClampNeg ∧ (s_span (fun _ => nI j) (fun _ => nI l) 0).toNatClampNeg ≤ 20 := by decide +kernel
theorem s_sp_ok {a : sAt} {n x : Nat} (h : aOk a n) (hx : x < n) : s_span (aK a) (aLn a) x = nI (s_sp a x) ∧ 1 ≤ s_sp a x ∧ s_sp a x ≤ 20 := by
  obtain ⟨⟨j, hj, -, hj5⟩, ⟨l, hl, hl1, hl9⟩, -⟩ := h.2.1 x hx
  have e : s_span (aK a) (aLn a) x = s_span (fun _ => nI j) (fun _ => nI l) 0 := by unfold s_span; rw [hj, hl]
  unfold s_sp
  rw [e]
  exact s_span_c j (by omega) l (by omega) hl1
theorem s_long_ok {a : sAt} {n : Nat} (h : aOk a n) : aS a 0 = nI (s_long a) ∧ 1 ≤ s_long a ∧ s_long a ≤ 20 := by
  obtain ⟨j, hj, h1, h2⟩ := h.2.2.1
  unfold s_long
  rw [hj, nI_clamp (by omega)]
  exact ⟨rfl, h1, h2⟩
theorem s_rows_ok {a : sAt} {n : Nat} (h : aOk a n) : aS a 1 = nI (s_rows a) ∧ 1 ≤ s_rows a ∧ s_rows a ≤ 3 := by
  obtain ⟨j, hj, h1, h2⟩ := h.2.2.2.1
  unfold s_rows
  rw [hj, nI_clamp (by omega)]
  exact ⟨rfl, h1, h2⟩
theorem s_plr_some {tk : sTk} {sp r : Nat} : ∀ {n p q : Nat}, s_plr tk sp r n p = some q → p ≤ q ∧ q < p + n ∧ s_fit tk sp r q = true
  | 0, p, q, h => by cases h
  | n + 1, p, q, h => by
    unfold s_plr at h
    split at h
    next hf => cases h; exact ⟨Nat.le_refl _, by omega, hf⟩
    next hf =>
      obtain ⟨h1, h2, h3⟩ := s_plr_some h
      exact ⟨by omega, by omega, h3⟩
theorem nI_m1 {p : Nat} (h : p < 2 ^ 31) : ¬ nI p = -1 := fun q => by
  have h1 := congrArg Int32.toInt q
  rw [nI_toInt h] at h1
  have h2 : ((-1 : Int32)).toInt = -1 := by decide
  omega
def FR (a : sAt) (σ : xSg) (ko kc kw kr kp : Nat) (F : sFl) : Prop := F.2.length ≤ 10 ∧ (∀ r q, r < 3 → q < 20 → bt (σ kc r) q = F.1 r q) ∧ σ ko 5 = nI F.2.length ∧ σ ko 6 = s_lds a F.2 ∧ σ ko 7 = zi (s_tank a F.2 = true) ∧
  ∀ (i x r p : Nat), F.2[i]? = some (x, r, p) → σ kw i = nI x ∧ σ kr i = nI r ∧ σ kp i = nI p
/-- nothing but these cells has changed -/
def xFr (S : List Nat) (σ σ' : xSg) : Prop := ∀ c, c ∉ S → σ' c = σ c
theorem xFr.rf {S : List Nat} {σ : xSg} : xFr S σ σ := fun _ _ => rfl
theorem xFr.tr {S : List Nat} {σ σ1 σ2 : xSg} (h1 : xFr S σ σ1) (h2 : xFr S σ1 σ2) : xFr S σ σ2 := fun c hc => (h2 c hc).trans (h1 c hc)
theorem xFr.mono {S S' : List Nat} {σ σ1 : xSg} (h1 : xFr S σ σ1) (h : ∀ c, c ∈ S → c ∈ S') : xFr S' σ σ1 := fun c hc => h1 c (fun q => hc (h c q))
theorem s_lds_app (a : sAt) (q : Nat × Nat × Nat) : ∀ l, s_lds a (l ++ [q]) = s_lds a l + aLo a q.1
  | [] => by simp [s_lds]
  | b :: l => by
    simp only [List.cons_append, s_lds]
    rw [s_lds_app a q l, Int32.add_assoc]
def eQ (a : sAt) (ko kc kw kr kp : Nat) (σ : xSg) (x : Nat) (F : sFl) : Option Value → xSg → Prop := fun r σ' => (∃ F', s_in a x F = some F' ∧ r = some (.int 1) ∧ FR a σ' ko kc kw kr kp F' ∧ xFr [ko, kc, kw, kr, kp] σ σ') ∨ (s_in a x F = none ∧ r = some (.int 0) ∧ σ' = σ)
theorem s_bar_f {a : sAt} {x : Nat} {F : sFl} (h : s_bar a x F.2 = true) : s_in a x F = none := by unfold s_in; rw [if_pos h]
theorem s_in_none {a : sAt} {x : Nat} {F : sFl} (h : s_plc a F.1 (s_sp a x) (s_rows a) 0 = none) : s_in a x F = none := by
  unfold s_in
  split
  · rfl
  · rw [h]
theorem s_in_some {a : sAt} {x r p : Nat} {F : sFl} (hb : s_bar a x F.2 = false) (h : s_plc a F.1 (s_sp a x) (s_rows a) 0 = some (r, p)) : s_in a x F = some (s_mark F.1 r p (s_sp a x), F.2 ++ [(x, r, p)]) := by
  unfold s_in
  rw [if_neg (by rw [hb]; decide), h]
theorem s_tank_app {a : sAt} {w : List (Nat × Nat × Nat)} {q : Nat × Nat × Nat} (h : w ≠ []) : s_tank a (w ++ [q]) = s_tank a w := by
  cases w with
  | nil => exact absurd rfl h
  | cons b l => rfl
theorem upd_eq {f : Nat → Int32} {k : Nat} {x : Int32} : upd f k x k = x := by unfold upd; rw [if_pos rfl]
theorem upd_ne {f : Nat → Int32} {k j : Nat} {x : Int32} (h : j ≠ k) : upd f k x j = f j := by unfold upd; rw [if_neg h]
/-- what a ship's going in does to the rows -/
theorem FR_put {a : sAt} {σ σ' : xSg} {ko kc kw kr kp x r p sp : Nat} {F : sFl} {tv : Int32} (h : FR a σ ko kc kw kr kp F) (hl : F.2.length < 10) (hs : sp ≤ 20) (hp : p + sp ≤ 20) (hr : r < 3)
    (htv : tv = zi (s_tank a (F.2 ++ [(x, r, p)]) = true)) (e5 : σ' ko 5 = nI F.2.length + 1) (e6 : σ' ko 6 = s_lds a F.2 + aLo a x) (e7 : σ' ko 7 = tv)
    (ec : σ' kc = upd (σ kc) r (σ kc r ||| ((1 : Int32) <<< (nI sp &&& 31) - 1) <<< (nI p &&& 31))) (ew : σ' kw = upd (σ kw) F.2.length (nI x)) (er : σ' kr = upd (σ kr) F.2.length (nI r)) (ep : σ' kp = upd (σ kp) F.2.length (nI p)) :
    FR a σ' ko kc kw kr kp (s_mark F.1 r p sp, F.2 ++ [(x, r, p)]) := by
  obtain ⟨h1, h2, h3, h4, h5, h6⟩ := h
  refine ⟨by simp; omega, fun r' q hr' hq => ?_, by rw [e5, nI_1]; simp, by rw [e6, s_lds_app], by rw [e7, htv], fun i y r' p' hi => ?_⟩
  · rw [ec]
    unfold s_mark
    by_cases hrr : r' = r
    · subst hrr
      rw [upd_eq, b_or, h2 r' q hr' hq, b_msk sp (by omega) p (by omega) hp q (by omega)]
      simp
    · rw [upd_ne hrr, h2 r' q hr' hq]
      simp [hrr]
  · rw [ew, er, ep]
    by_cases hil : i < F.2.length
    · dsimp only at hi
      rw [List.getElem?_append_left hil] at hi
      rw [upd_ne (by omega), upd_ne (by omega), upd_ne (by omega)]
      exact h6 i y r' p' hi
    · dsimp only at hi
      rw [List.getElem?_append_right (by omega)] at hi
      have hi1 : i - F.2.length < 1 := (List.getElem?_eq_some_iff.mp hi).1
      have hi0 : i = F.2.length := by omega
      subst hi0
      rw [Nat.sub_self] at hi
      cases hi
      rw [upd_eq, upd_eq, upd_eq]
      exact ⟨rfl, rfl, rfl⟩
set_option maxRecDepth 100000 in
theorem c_firstRun26_lp (σ : xSg) (cl : Int32) (tk : sTk) (sp lg r : Nat) (hl : σ 9 0 = nI lg) (hlg : lg ≤ 20) (hs1 : 1 ≤ sp) (hs2 : sp ≤ 20) (hcl : ∀ q, q < 20 → bt cl q = tk r q) : ∀ (n p : Nat), lg + 1 - sp - p = n → p ≤ 20 → xEv (.inl 1) M_X2_firstRun (fun r1 σ1 => r1 = some (.int (s_oi (s_plr tk sp r n p))) ∧ σ1 = σ) 2 ([some (.ref 26), some (.int (cl)), some (.int (nI sp)), some (.int (nI p))], [], σ) := by
  intro n
  induction n with
  | zero =>
    intro p hn hp
    refine ev_br 8 [vp_in ((0 : Int32)) 5] (((σ 9) 0) < ((nI p) + (nI sp))) 36 17 ([some (.ref 26), some (.int (cl)), some (.int (nI sp)), some (.int (nI p))], [], σ) rfl ?_ (fun c14 => ?_) (fun c14 => ?_)
    · exact vp_in_nI (n := 0) (by decide) (by decide)
    · refine ev_blk 1 [] 37 ([some (.ref 26), some (.int (cl)), some (.int (nI sp)), some (.int (nI p))], [.int ((-1 : Int32))], σ) rfl ?_ ?_
      · trivial
      exact ev_iret rfl rfl rfl ⟨rfl, rfl⟩
    · rw [hl, nI_add, nI_ltI (by omega) (by omega)] at c14
      omega
  | succ n ih =>
    intro p hn hp
    refine ev_br 8 [vp_in ((0 : Int32)) 5] (((σ 9) 0) < ((nI p) + (nI sp))) 36 17 ([some (.ref 26), some (.int (cl)), some (.int (nI sp)), some (.int (nI p))], [], σ) rfl ?_ (fun c14 => ?_) (fun c14 => ?_)
    · exact vp_in_nI (n := 0) (by decide) (by decide)
    · rw [hl, nI_add, nI_ltI (by omega) (by omega)] at c14
      omega
    · refine ev_blk 2 [] 19 ([some (.ref 26), some (.int (cl)), some (.int (nI sp)), some (.int (nI p))], [.int (nI sp), .int (cl)], σ) rfl ?_ ?_
      · trivial
      refine ev_callS M_X2_run [.int (nI sp)] [.int (cl)] rfl rfl ln_X2_73 k_X2_run rfl rfl rfl (c_run _ _) ?_
      refine pu_k ?_
      show xEv _ _ _ 22 ([some (.ref 26), some (.int (cl)), some (.int (nI sp)), some (.int (nI p))], [.int ((1 : Int32) <<< ((nI sp) &&& 31) - 1), .int (cl)], σ)
      refine ev_br 3 [] (¬ (cl &&& (((1 : Int32) <<< ((nI sp) &&& 31) - 1) <<< ((nI p) &&& 31))) = 0) 30 28 ([some (.ref 26), some (.int (cl)), some (.int (nI sp)), some (.int (nI p))], [], σ) rfl ?_ (fun c25 => ?_) (fun c25 => ?_)
      · trivial
      · refine ev_blk 2 [] 2 ([some (.ref 26), some (.int (cl)), some (.int (nI sp)), some (.int ((nI p) + (1 : Int32)))], [], σ) rfl ?_ ?_
        · trivial
        rw [hl, nI_add, nI_ltI (by omega) (by omega)] at c14
        replace c25 : ¬ s_fit tk sp r p = true := fun q => c25 ((msk0 hs2 (by omega) hcl).mpr q)
        rw [show s_plr tk sp r (n + 1) p = s_plr tk sp r n (p + 1) by rw [s_plr, if_neg c25]]
        rw [nI_1]
        exact ih (p + 1) (by omega) (by omega)
      · refine ev_blk 1 [] 29 ([some (.ref 26), some (.int (cl)), some (.int (nI sp)), some (.int (nI p))], [.int (nI p)], σ) rfl ?_ ?_
        · trivial
        rw [hl, nI_add, nI_ltI (by omega) (by omega)] at c14
        replace c25 := (msk0 hs2 (by omega) hcl).mp (Classical.byContradiction c25)
        exact ev_iret rfl rfl rfl ⟨by rw [s_plr, if_pos c25]; rfl, rfl⟩
set_option maxRecDepth 100000 in
theorem c_firstRun26 (σ : xSg) (cl : Int32) (tk : sTk) (sp lg r : Nat) (hl : σ 9 0 = nI lg) (hlg : lg ≤ 20) (hs1 : 1 ≤ sp) (hs2 : sp ≤ 20) (hcl : ∀ q, q < 20 → bt cl q = tk r q) : xPu M_X2_firstRun [.ref 26, .int cl, .int (nI sp)] σ (.int (s_oi (s_plr tk sp r (lg + 1 - sp) 0))) := by
  refine ctr_ev ok_X2_firstRun (by decide +kernel) rfl rfl rfl ?_
  show xEv (.inl 1) M_X2_firstRun _ 0 ([some (.ref 26), some (.int (cl)), some (.int (nI sp)), none], [], σ)
  refine ev_blk 2 [] 2 ([some (.ref 26), some (.int (cl)), some (.int (nI sp)), some (.int ((0 : Int32)))], [], σ) rfl ?_ ?_
  · trivial
  exact c_firstRun26_lp σ cl tk sp lg r hl hlg hs1 hs2 hcl _ 0 (by omega) (by omega)
set_option maxRecDepth 100000 in
theorem c_firstRun38_lp (σ : xSg) (cl : Int32) (tk : sTk) (sp lg r : Nat) (hl : σ 9 0 = nI lg) (hlg : lg ≤ 20) (hs1 : 1 ≤ sp) (hs2 : sp ≤ 20) (hcl : ∀ q, q < 20 → bt cl q = tk r q) : ∀ (n p : Nat), lg + 1 - sp - p = n → p ≤ 20 → xEv (.inl 1) M_X2_firstRun (fun r1 σ1 => r1 = some (.int (s_oi (s_plr tk sp r n p))) ∧ σ1 = σ) 2 ([some (.ref 38), some (.int (cl)), some (.int (nI sp)), some (.int (nI p))], [], σ) := by
  intro n
  induction n with
  | zero =>
    intro p hn hp
    refine ev_br 8 [vp_in ((0 : Int32)) 5] (((σ 9) 0) < ((nI p) + (nI sp))) 36 17 ([some (.ref 38), some (.int (cl)), some (.int (nI sp)), some (.int (nI p))], [], σ) rfl ?_ (fun c14 => ?_) (fun c14 => ?_)
    · exact vp_in_nI (n := 0) (by decide) (by decide)
    · refine ev_blk 1 [] 37 ([some (.ref 38), some (.int (cl)), some (.int (nI sp)), some (.int (nI p))], [.int ((-1 : Int32))], σ) rfl ?_ ?_
      · trivial
      exact ev_iret rfl rfl rfl ⟨rfl, rfl⟩
    · rw [hl, nI_add, nI_ltI (by omega) (by omega)] at c14
      omega
  | succ n ih =>
    intro p hn hp
    refine ev_br 8 [vp_in ((0 : Int32)) 5] (((σ 9) 0) < ((nI p) + (nI sp))) 36 17 ([some (.ref 38), some (.int (cl)), some (.int (nI sp)), some (.int (nI p))], [], σ) rfl ?_ (fun c14 => ?_) (fun c14 => ?_)
    · exact vp_in_nI (n := 0) (by decide) (by decide)
    · rw [hl, nI_add, nI_ltI (by omega) (by omega)] at c14
      omega
    · refine ev_blk 2 [] 19 ([some (.ref 38), some (.int (cl)), some (.int (nI sp)), some (.int (nI p))], [.int (nI sp), .int (cl)], σ) rfl ?_ ?_
      · trivial
      refine ev_callS M_X2_run [.int (nI sp)] [.int (cl)] rfl rfl ln_X2_73 k_X2_run rfl rfl rfl (c_run _ _) ?_
      refine pu_k ?_
      show xEv _ _ _ 22 ([some (.ref 38), some (.int (cl)), some (.int (nI sp)), some (.int (nI p))], [.int ((1 : Int32) <<< ((nI sp) &&& 31) - 1), .int (cl)], σ)
      refine ev_br 3 [] (¬ (cl &&& (((1 : Int32) <<< ((nI sp) &&& 31) - 1) <<< ((nI p) &&& 31))) = 0) 30 28 ([some (.ref 38), some (.int (cl)), some (.int (nI sp)), some (.int (nI p))], [], σ) rfl ?_ (fun c25 => ?_) (fun c25 => ?_)
      · trivial
      · refine ev_blk 2 [] 2 ([some (.ref 38), some (.int (cl)), some (.int (nI sp)), some (.int ((nI p) + (1 : Int32)))], [], σ) rfl ?_ ?_
        · trivial
        rw [hl, nI_add, nI_ltI (by omega) (by omega)] at c14
        replace c25 : ¬ s_fit tk sp r p = true := fun q => c25 ((msk0 hs2 (by omega) hcl).mpr q)
        rw [show s_plr tk sp r (n + 1) p = s_plr tk sp r n (p + 1) by rw [s_plr, if_neg c25]]
        rw [nI_1]
        exact ih (p + 1) (by omega) (by omega)
      · refine ev_blk 1 [] 29 ([some (.ref 38), some (.int (cl)), some (.int (nI sp)), some (.int (nI p))], [.int (nI p)], σ) rfl ?_ ?_
        · trivial
        rw [hl, nI_add, nI_ltI (by omega) (by omega)] at c14
        replace c25 := (msk0 hs2 (by omega) hcl).mp (Classical.byContradiction c25)
        exact ev_iret rfl rfl rfl ⟨by rw [s_plr, if_pos c25]; rfl, rfl⟩
set_option maxRecDepth 100000 in
theorem c_firstRun38 (σ : xSg) (cl : Int32) (tk : sTk) (sp lg r : Nat) (hl : σ 9 0 = nI lg) (hlg : lg ≤ 20) (hs1 : 1 ≤ sp) (hs2 : sp ≤ 20) (hcl : ∀ q, q < 20 → bt cl q = tk r q) : xPu M_X2_firstRun [.ref 38, .int cl, .int (nI sp)] σ (.int (s_oi (s_plr tk sp r (lg + 1 - sp) 0))) := by
  refine ctr_ev ok_X2_firstRun (by decide +kernel) rfl rfl rfl ?_
  show xEv (.inl 1) M_X2_firstRun _ 0 ([some (.ref 38), some (.int (cl)), some (.int (nI sp)), none], [], σ)
  refine ev_blk 2 [] 2 ([some (.ref 38), some (.int (cl)), some (.int (nI sp)), some (.int ((0 : Int32)))], [], σ) rfl ?_ ?_
  · trivial
  exact c_firstRun38_lp σ cl tk sp lg r hl hlg hs1 hs2 hcl _ 0 (by omega) (by omega)
set_option maxRecDepth 100000 in
theorem c_firstRun43_lp (σ : xSg) (cl : Int32) (tk : sTk) (sp lg r : Nat) (hl : σ 9 0 = nI lg) (hlg : lg ≤ 20) (hs1 : 1 ≤ sp) (hs2 : sp ≤ 20) (hcl : ∀ q, q < 20 → bt cl q = tk r q) : ∀ (n p : Nat), lg + 1 - sp - p = n → p ≤ 20 → xEv (.inl 1) M_X2_firstRun (fun r1 σ1 => r1 = some (.int (s_oi (s_plr tk sp r n p))) ∧ σ1 = σ) 2 ([some (.ref 43), some (.int (cl)), some (.int (nI sp)), some (.int (nI p))], [], σ) := by
  intro n
  induction n with
  | zero =>
    intro p hn hp
    refine ev_br 8 [vp_in ((0 : Int32)) 5] (((σ 9) 0) < ((nI p) + (nI sp))) 36 17 ([some (.ref 43), some (.int (cl)), some (.int (nI sp)), some (.int (nI p))], [], σ) rfl ?_ (fun c14 => ?_) (fun c14 => ?_)
    · exact vp_in_nI (n := 0) (by decide) (by decide)
    · refine ev_blk 1 [] 37 ([some (.ref 43), some (.int (cl)), some (.int (nI sp)), some (.int (nI p))], [.int ((-1 : Int32))], σ) rfl ?_ ?_
      · trivial
      exact ev_iret rfl rfl rfl ⟨rfl, rfl⟩
    · rw [hl, nI_add, nI_ltI (by omega) (by omega)] at c14
      omega
  | succ n ih =>
    intro p hn hp
    refine ev_br 8 [vp_in ((0 : Int32)) 5] (((σ 9) 0) < ((nI p) + (nI sp))) 36 17 ([some (.ref 43), some (.int (cl)), some (.int (nI sp)), some (.int (nI p))], [], σ) rfl ?_ (fun c14 => ?_) (fun c14 => ?_)
    · exact vp_in_nI (n := 0) (by decide) (by decide)
    · rw [hl, nI_add, nI_ltI (by omega) (by omega)] at c14
      omega
    · refine ev_blk 2 [] 19 ([some (.ref 43), some (.int (cl)), some (.int (nI sp)), some (.int (nI p))], [.int (nI sp), .int (cl)], σ) rfl ?_ ?_
      · trivial
      refine ev_callS M_X2_run [.int (nI sp)] [.int (cl)] rfl rfl ln_X2_73 k_X2_run rfl rfl rfl (c_run _ _) ?_
      refine pu_k ?_
      show xEv _ _ _ 22 ([some (.ref 43), some (.int (cl)), some (.int (nI sp)), some (.int (nI p))], [.int ((1 : Int32) <<< ((nI sp) &&& 31) - 1), .int (cl)], σ)
      refine ev_br 3 [] (¬ (cl &&& (((1 : Int32) <<< ((nI sp) &&& 31) - 1) <<< ((nI p) &&& 31))) = 0) 30 28 ([some (.ref 43), some (.int (cl)), some (.int (nI sp)), some (.int (nI p))], [], σ) rfl ?_ (fun c25 => ?_) (fun c25 => ?_)
      · trivial
      · refine ev_blk 2 [] 2 ([some (.ref 43), some (.int (cl)), some (.int (nI sp)), some (.int ((nI p) + (1 : Int32)))], [], σ) rfl ?_ ?_
        · trivial
        rw [hl, nI_add, nI_ltI (by omega) (by omega)] at c14
        replace c25 : ¬ s_fit tk sp r p = true := fun q => c25 ((msk0 hs2 (by omega) hcl).mpr q)
        rw [show s_plr tk sp r (n + 1) p = s_plr tk sp r n (p + 1) by rw [s_plr, if_neg c25]]
        rw [nI_1]
        exact ih (p + 1) (by omega) (by omega)
      · refine ev_blk 1 [] 29 ([some (.ref 43), some (.int (cl)), some (.int (nI sp)), some (.int (nI p))], [.int (nI p)], σ) rfl ?_ ?_
        · trivial
        rw [hl, nI_add, nI_ltI (by omega) (by omega)] at c14
        replace c25 := (msk0 hs2 (by omega) hcl).mp (Classical.byContradiction c25)
        exact ev_iret rfl rfl rfl ⟨by rw [s_plr, if_pos c25]; rfl, rfl⟩
set_option maxRecDepth 100000 in
theorem c_firstRun43 (σ : xSg) (cl : Int32) (tk : sTk) (sp lg r : Nat) (hl : σ 9 0 = nI lg) (hlg : lg ≤ 20) (hs1 : 1 ≤ sp) (hs2 : sp ≤ 20) (hcl : ∀ q, q < 20 → bt cl q = tk r q) : xPu M_X2_firstRun [.ref 43, .int cl, .int (nI sp)] σ (.int (s_oi (s_plr tk sp r (lg + 1 - sp) 0))) := by
  refine ctr_ev ok_X2_firstRun (by decide +kernel) rfl rfl rfl ?_
  show xEv (.inl 1) M_X2_firstRun _ 0 ([some (.ref 43), some (.int (cl)), some (.int (nI sp)), none], [], σ)
  refine ev_blk 2 [] 2 ([some (.ref 43), some (.int (cl)), some (.int (nI sp)), some (.int ((0 : Int32)))], [], σ) rfl ?_ ?_
  · trivial
  exact c_firstRun43_lp σ cl tk sp lg r hl hlg hs1 hs2 hcl _ 0 (by omega) (by omega)
set_option maxRecDepth 100000 in
theorem c_enter26_lp (σ : xSg) (n x : Nat) (F : sFl) (hok : aOk (atC σ) n) (hn : σ 1 0 = nI n) (hx : x < n) (hF : FR (atC σ) σ 26 27 28 29 30 F) (hl : F.2.length < 10) (tv : Int32) (hb : s_bar (atC σ) x F.2 = false) (htv : ∀ r p, tv = zi (s_tank (atC σ) (F.2 ++ [(x, r, p)]) = true)) (htv2 : tv = 0 ∨ tv = 1) : ∀ (m r : Nat), r + m = s_rows (atC σ) → s_plc (atC σ) F.1 (s_sp (atC σ) x) (s_rows (atC σ)) 0 = s_plc (atC σ) F.1 (s_sp (atC σ) x) m r → xEv (.inl 2) M_X2_enter (eQ (atC σ) 26 27 28 29 30 σ x F) 73 ([some (.ref 26), some (.int (nI x)), some (.int (tv)), some (.int (nI (s_sp (atC σ) x))), some (.int (nI r)), none], [], σ) := by
  have hn10 := hok.1
  obtain ⟨hs0, hs1, hs2⟩ := s_sp_ok hok hx
  obtain ⟨hg0, hg1, hg2⟩ := s_long_ok hok
  obtain ⟨hr0, hr1, hr2⟩ := s_rows_ok hok
  have h5 := hF.2.2.1
  have hxc : (nI x).toNatClampNeg = x := nI_clamp (by omega)
  have h5c : (σ 26 5).toNatClampNeg = F.2.length := by rw [h5, nI_clamp (by omega)]
  intro m
  induction m with
  | zero =>
    intro r hm hp
    refine ev_br 6 [vp_in ((1 : Int32)) 5] (((σ 9) 1) ≤ (nI r)) 203 87 ([some (.ref 26), some (.int (nI x)), some (.int (tv)), some (.int (nI (s_sp (atC σ) x))), some (.int (nI r)), none], [], σ) rfl ?_ (fun c84 => ?_) (fun c84 => ?_)
    · exact vp_in_nI (n := 1) (by decide) (by decide)
    · refine ev_blk 1 [] 204 ([some (.ref 26), some (.int (nI x)), some (.int (tv)), some (.int (nI (s_sp (atC σ) x))), some (.int (nI r)), none], [.int ((0 : Int32))], σ) rfl ?_ ?_
      · trivial
      exact ev_iret rfl rfl nar0 (Or.inr ⟨s_in_none hp, rfl, rfl⟩)
    · exact absurd (show aS (atC σ) 1 ≤ nI r by rw [hr0]; exact (nI_leI (by omega) (by omega)).mpr (by omega)) c84
  | succ m ih =>
    intro r hm hp
    have hrc : (nI r).toNatClampNeg = r := nI_clamp (by omega)
    refine ev_br 6 [vp_in ((1 : Int32)) 5] (((σ 9) 1) ≤ (nI r)) 203 87 ([some (.ref 26), some (.int (nI x)), some (.int (tv)), some (.int (nI (s_sp (atC σ) x))), some (.int (nI r)), none], [], σ) rfl ?_ (fun c84 => ?_) (fun c84 => ?_)
    · exact vp_in_nI (n := 1) (by decide) (by decide)
    · exact absurd ((nI_leI (by omega) (by omega)).mp (show nI (s_rows (atC σ)) ≤ nI r by rw [← hr0]; exact c84)) (by omega)
    · refine ev_br 2 [] ((3 : Int32) ≤ (nI r)) 203 93 ([some (.ref 26), some (.int (nI x)), some (.int (tv)), some (.int (nI (s_sp (atC σ) x))), some (.int (nI r)), none], [], σ) rfl ?_ (fun c90 => ?_) (fun c90 => ?_)
      · trivial
      · exact absurd ((nI_leI (a := 3) (by omega) (by omega)).mp c90) (by omega)
      · refine ev_blk 6 [vp_in (nI r) 3] 102 ([some (.ref 26), some (.int (nI x)), some (.int (tv)), some (.int (nI (s_sp (atC σ) x))), some (.int (nI r)), none], [.int (nI (s_sp (atC σ) x)), .int ((σ 27) (nI r).toNatClampNeg), .ref 26], σ) rfl ?_ ?_
        · exact vp_in_nI (by omega) (by decide)
        rw [hrc]
        refine ev_callV M_X2_firstRun [.int ((σ 27) r), .int (nI (s_sp (atC σ) x))] [] 26 rfl rfl ln_X2_70 k_X2_firstRun rfl rfl rfl rfl rfl rfl (c_firstRun26 σ _ F.1 (s_sp (atC σ) x) (s_long (atC σ)) r hg0 hg2 hs1 hs2 (fun q hq => hF.2.1 r q (by omega) hq)) ?_
        refine pu_k ?_
        cases hpl : s_plr F.1 (s_sp (atC σ) x) r (s_long (atC σ) + 1 - s_sp (atC σ) x) 0 with
        | none =>
          show xEv _ _ _ 105 ([some (.ref 26), some (.int (nI x)), some (.int (tv)), some (.int (nI (s_sp (atC σ) x))), some (.int (nI r)), none], [.int ((-1 : Int32))], σ)
          refine ev_br 3 [] ((-1 : Int32) = (-1 : Int32)) 197 113 ([some (.ref 26), some (.int (nI x)), some (.int (tv)), some (.int (nI (s_sp (atC σ) x))), some (.int (nI r)), some (.int ((-1 : Int32)))], [], σ) rfl ?_ (fun c110 => ?_) (fun c110 => ?_)
          · trivial
          · refine ev_blk 2 [] 73 ([some (.ref 26), some (.int (nI x)), some (.int (tv)), some (.int (nI (s_sp (atC σ) x))), some (.int ((nI r) + (1 : Int32))), some (.int ((-1 : Int32)))], [], σ) rfl ?_ ?_
            · trivial
            rw [nI_1]
            refine ev_drop 5 ?_
            exact ih (r + 1) (by omega) (by rw [hp, s_plc, hpl])
          · exact absurd rfl c110
        | some p =>
          obtain ⟨hp1, hp2, hp3⟩ := s_plr_some hpl
          show xEv _ _ _ 105 ([some (.ref 26), some (.int (nI x)), some (.int (tv)), some (.int (nI (s_sp (atC σ) x))), some (.int (nI r)), none], [.int (nI p)], σ)
          refine ev_br 3 [] ((nI p) = (-1 : Int32)) 197 113 ([some (.ref 26), some (.int (nI x)), some (.int (tv)), some (.int (nI (s_sp (atC σ) x))), some (.int (nI r)), some (.int (nI p))], [], σ) rfl ?_ (fun c110 => ?_) (fun c110 => ?_)
          · trivial
          · exact absurd c110 (nI_m1 (by omega))
          · refine ev_blk 6 [vp_in (nI r) 3] 122 ([some (.ref 26), some (.int (nI x)), some (.int (tv)), some (.int (nI (s_sp (atC σ) x))), some (.int (nI r)), some (.int (nI p))], [.int (nI (s_sp (atC σ) x)), .int ((σ 27) (nI r).toNatClampNeg), .int (nI r), .ref 27], σ) rfl ?_ ?_
            · exact vp_in_nI (by omega) (by decide)
            rw [hrc]
            refine ev_callS M_X2_run [.int (nI (s_sp (atC σ) x))] [.int ((σ 27) r), .int (nI r), .ref 27] rfl rfl ln_X2_73 k_X2_run rfl rfl rfl (c_run _ _) ?_
            refine pu_k ?_
            show xEv _ _ _ 125 ([some (.ref 26), some (.int (nI x)), some (.int (tv)), some (.int (nI (s_sp (atC σ) x))), some (.int (nI r)), some (.int (nI p))], [.int ((1 : Int32) <<< ((nI (s_sp (atC σ) x)) &&& 31) - 1), .int ((σ 27) r), .int (nI r), .ref 27], σ)
            refine ev_blk 42 [vp_in (nI r) 3, vp_in ((σ 26 5)) 10, vp_in ((σ 26 5)) 10, vp_in ((σ 26 5)) 10, vp_in (nI x) 10, tv = 0 ∨ tv = 1] 196 ([some (.ref 26), some (.int (nI x)), some (.int (tv)), some (.int (nI (s_sp (atC σ) x))), some (.int (nI r)), some (.int (nI p))], [.int ((1 : Int32))], (x_up (x_up (x_up (x_up (x_up (x_up (x_up σ 27 (upd (σ 27) (nI r).toNatClampNeg (((σ 27) r) ||| (((1 : Int32) <<< ((nI (s_sp (atC σ) x)) &&& 31) - 1) <<< ((nI p) &&& 31))))) 28 (upd (σ 28) (σ 26 5).toNatClampNeg (nI x))) 29 (upd (σ 29) (σ 26 5).toNatClampNeg (nI r))) 30 (upd (σ 30) (σ 26 5).toNatClampNeg (nI p))) 26 (upd (σ 26) 5 ((σ 26 5) + (1 : Int32)))) 26 (upd (upd (σ 26) 5 ((σ 26 5) + (1 : Int32))) 6 ((σ 26 6) + ((σ 5) (nI x).toNatClampNeg)))) 26 (upd (upd (upd (σ 26) 5 ((σ 26 5) + (1 : Int32))) 6 ((σ 26 6) + ((σ 5) (nI x).toNatClampNeg))) 7 (tv)))) rfl ?_ ?_
            · exact ⟨vp_in_nI (by omega) (by decide), (by rw [h5]; exact vp_in_nI (by omega) (by decide)), (by rw [h5]; exact vp_in_nI (by omega) (by decide)), (by rw [h5]; exact vp_in_nI (by omega) (by decide)), vp_in_nI (by omega) (by decide), htv2⟩
            rw [hrc]
            rw [h5c]
            rw [hxc]
            exact ev_iret rfl rfl nar1 (Or.inl ⟨_, s_in_some hb (by rw [hp, s_plc, hpl]), rfl, FR_put hF hl hs2 (by omega) (by omega) (htv r p) (show σ 26 5 + 1 = _ by rw [h5]) (show σ 26 6 + σ 5 x = _ by rw [hF.2.2.2.1]) rfl rfl rfl rfl rfl, fun c hc => by simp at hc; simp [x_up, hc]⟩)
set_option maxRecDepth 100000 in
theorem c_enter26 (σ : xSg) (n x : Nat) (F : sFl) (hok : aOk (atC σ) n) (hn : σ 1 0 = nI n) (hx : x < n) (hF : FR (atC σ) σ 26 27 28 29 30 F) (hl : F.2.length < 10) : xCtr M_X2_enter [.ref 26, .int (nI x)] σ (eQ (atC σ) 26 27 28 29 30 σ x F) := by
  have hn10 := hok.1
  obtain ⟨hs0, hs1, hs2⟩ := s_sp_ok hok hx
  obtain ⟨hg0, hg1, hg2⟩ := s_long_ok hok
  obtain ⟨hr0, hr1, hr2⟩ := s_rows_ok hok
  have h5 := hF.2.2.1
  have hxc : (nI x).toNatClampNeg = x := nI_clamp (by omega)
  have h5c : (σ 26 5).toNatClampNeg = F.2.length := by rw [h5, nI_clamp (by omega)]
  have h7 := hF.2.2.2.2.1
  have hsh : iSh σ (nI x) := ⟨nI_pos (by omega), by rw [hn]; exact nI_ge hx (by omega), nI_ge (b := 10) (by omega) (by omega)⟩
  refine ctr_ev ok_X2_enter (by decide +kernel) rfl rfl rfl ?_
  show xEv (.inl 2) M_X2_enter _ 0 ([some (.ref 26), some (.int (nI x)), none, none, none, none], [], σ)
  refine ev_blk 3 [] 5 ([some (.ref 26), some (.int (nI x)), none, none, none, none], [.int (nI x), .ref 1], σ) rfl ?_ ?_
  · trivial
  refine ev_callV M_X3_isShip [.int (nI x)] [] 1 rfl rfl ln_X2_59 k_X3_isShip rfl rfl rfl rfl rfl rfl (c_isShip _ _) ?_
  refine pu_k ?_
  show xEv _ _ _ 8 ([some (.ref 26), some (.int (nI x)), none, none, none, none], [.int (zi (iSh σ (nI x)))], σ)
  refine ev_br 0 [] ((zi (iSh σ (nI x))) = 0) 27 11 ([some (.ref 26), some (.int (nI x)), none, none, none, none], [], σ) rfl ?_ (fun c8 => ?_) (fun c8 => ?_)
  · trivial
  · exact absurd hsh (zi_0.mp c8)
  · replace c8 := zi_1.mp c8
    refine ev_br 3 [] ((10 : Int32) ≤ (σ 26 5)) 27 20 ([some (.ref 26), some (.int (nI x)), none, none, none, none], [], σ) rfl ?_ (fun c17 => ?_) (fun c17 => ?_)
    · trivial
    · rw [h5] at c17
      exact absurd c17 (nI_ge (b := 10) hl (by decide))
    · refine ev_br 2 [] ((σ 26 7) = 0) 29 27 ([some (.ref 26), some (.int (nI x)), none, none, none, none], [], σ) rfl ?_ (fun c24 => ?_) (fun c24 => ?_)
      · trivial
      · refine ev_br 6 [vp_in (nI x) 10] (¬ ((σ 2) (nI x).toNatClampNeg) = (5 : Int32)) 46 42 ([some (.ref 26), some (.int (nI x)), none, none, none, none], [], σ) rfl ?_ (fun c39 => ?_) (fun c39 => ?_)
        · exact vp_in_nI (by omega) (by decide)
        · rw [hxc] at c39
          refine ev_br 3 [] ((0 : Int32) = 0) 61 52 ([some (.ref 26), some (.int (nI x)), some (.int ((0 : Int32))), none, none, none], [], σ) rfl ?_ (fun c49 => ?_) (fun c49 => ?_)
          · trivial
          · refine ev_blk 3 [] 66 ([some (.ref 26), some (.int (nI x)), some (.int ((0 : Int32))), none, none, none], [.int (nI x), .ref 1], σ) rfl ?_ ?_
            · trivial
            refine ev_callV M_X3_span [.int (nI x)] [] 1 rfl rfl ln_X2_66 k_X3_span rfl rfl rfl rfl rfl rfl (c_span _ _ ⟨nI_pos (by omega), nI_lt (b := 10) (by omega) (by omega)⟩) ?_
            refine pu_k ?_
            show xEv _ _ _ 69 ([some (.ref 26), some (.int (nI x)), some (.int ((0 : Int32))), none, none, none], [.int (s_span (σ 2) (σ 3) (nI x).toNatClampNeg)], σ)
            rw [(show s_span (σ 2) (σ 3) (nI x).toNatClampNeg = nI (s_sp (atC σ) x) by rw [hxc]; exact hs0)]
            refine ev_blk 3 [] 73 ([some (.ref 26), some (.int (nI x)), some (.int ((0 : Int32))), some (.int (nI (s_sp (atC σ) x))), some (.int ((0 : Int32))), none], [], σ) rfl ?_ ?_
            · trivial
            have hnt : s_tank (atC σ) F.2 = false := by rw [h7] at c24; simpa using zi_0.mp c24
            replace c39 : ¬ aK (atC σ) x = 5 := c39
            refine c_enter26_lp σ n x F hok hn hx hF hl 0 (by simp [s_bar, hnt, c39]) (fun r p => ?_) (Or.inl rfl) _ 0 (by omega) rfl
            cases hw : F.2 with
            | nil => exact (zi_f (by simp [s_tank, c39])).symm
            | cons q t => rw [← hw, s_tank_app (by rw [hw]; simp)]; exact (zi_f (by rw [hnt]; decide)).symm
          · exact absurd rfl c49
        · rw [hxc] at c39
          refine ev_br 4 [] ((1 : Int32) = 0) 61 52 ([some (.ref 26), some (.int (nI x)), some (.int ((1 : Int32))), none, none, none], [], σ) rfl ?_ (fun c49 => ?_) (fun c49 => ?_)
          · trivial
          · exact absurd c49 (by decide)
          · refine ev_br 2 [] ((σ 26 5) ≤ 0) 61 59 ([some (.ref 26), some (.int (nI x)), some (.int ((1 : Int32))), none, none, none], [], σ) rfl ?_ (fun c56 => ?_) (fun c56 => ?_)
            · trivial
            · refine ev_blk 3 [] 66 ([some (.ref 26), some (.int (nI x)), some (.int ((1 : Int32))), none, none, none], [.int (nI x), .ref 1], σ) rfl ?_ ?_
              · trivial
              refine ev_callV M_X3_span [.int (nI x)] [] 1 rfl rfl ln_X2_66 k_X3_span rfl rfl rfl rfl rfl rfl (c_span _ _ ⟨nI_pos (by omega), nI_lt (b := 10) (by omega) (by omega)⟩) ?_
              refine pu_k ?_
              show xEv _ _ _ 69 ([some (.ref 26), some (.int (nI x)), some (.int ((1 : Int32))), none, none, none], [.int (s_span (σ 2) (σ 3) (nI x).toNatClampNeg)], σ)
              rw [(show s_span (σ 2) (σ 3) (nI x).toNatClampNeg = nI (s_sp (atC σ) x) by rw [hxc]; exact hs0)]
              refine ev_blk 3 [] 73 ([some (.ref 26), some (.int (nI x)), some (.int ((1 : Int32))), some (.int (nI (s_sp (atC σ) x))), some (.int ((0 : Int32))), none], [], σ) rfl ?_ ?_
              · trivial
              have hnt : s_tank (atC σ) F.2 = false := by rw [h7] at c24; simpa using zi_0.mp c24
              have c39b : aK (atC σ) x = 5 := Classical.byContradiction c39
              have hw : F.2 = [] := by
                rw [h5] at c56
                cases hw : F.2 with
                | nil => rfl
                | cons q t => rw [hw] at c56 hl; exact absurd c56 (nI_nle (by simp) (by omega))
              refine c_enter26_lp σ n x F hok hn hx hF hl 1 (by simp [s_bar, hw]) (fun r p => ?_) (Or.inr rfl) _ 0 (by omega) rfl
              exact (zi_t (by rw [hw]; simpa [s_tank] using c39b)).symm
            · refine ev_blk 1 [] 60 ([some (.ref 26), some (.int (nI x)), some (.int ((1 : Int32))), none, none, none], [.int ((0 : Int32))], σ) rfl ?_ ?_
              · trivial
              first
              | exact ev_iret rfl rfl nar0 (Or.inr ⟨s_bar_f (by have c39b : aK (atC σ) x = 5 := Classical.byContradiction c39; cases hw : F.2 with | nil => exact absurd (show σ 26 5 ≤ 0 by rw [h5, hw]; decide) c56 | cons q t => simp [s_bar, c39b]), rfl, rfl⟩)
              | exact ev_iret rfl rfl nar0 (Or.inr ⟨s_bar_f (by rw [h7] at c24; have ht := zi_1.mp c24; cases hw : F.2 with | nil => rw [hw] at ht; cases ht | cons q t => rw [hw] at ht; simp [s_bar, ht]), rfl, rfl⟩)
      · refine ev_blk 1 [] 28 ([some (.ref 26), some (.int (nI x)), none, none, none, none], [.int ((0 : Int32))], σ) rfl ?_ ?_
        · trivial
        first
        | exact ev_iret rfl rfl nar0 (Or.inr ⟨s_bar_f (by have c39b : aK (atC σ) x = 5 := Classical.byContradiction c39; cases hw : F.2 with | nil => exact absurd (show σ 26 5 ≤ 0 by rw [h5, hw]; decide) c56 | cons q t => simp [s_bar, c39b]), rfl, rfl⟩)
        | exact ev_iret rfl rfl nar0 (Or.inr ⟨s_bar_f (by rw [h7] at c24; have ht := zi_1.mp c24; cases hw : F.2 with | nil => rw [hw] at ht; cases ht | cons q t => rw [hw] at ht; simp [s_bar, ht]), rfl, rfl⟩)
set_option maxRecDepth 100000 in
theorem c_enter38_lp (σ : xSg) (n x : Nat) (F : sFl) (hok : aOk (atC σ) n) (hn : σ 1 0 = nI n) (hx : x < n) (hF : FR (atC σ) σ 38 39 40 41 42 F) (hl : F.2.length < 10) (tv : Int32) (hb : s_bar (atC σ) x F.2 = false) (htv : ∀ r p, tv = zi (s_tank (atC σ) (F.2 ++ [(x, r, p)]) = true)) (htv2 : tv = 0 ∨ tv = 1) : ∀ (m r : Nat), r + m = s_rows (atC σ) → s_plc (atC σ) F.1 (s_sp (atC σ) x) (s_rows (atC σ)) 0 = s_plc (atC σ) F.1 (s_sp (atC σ) x) m r → xEv (.inl 2) M_X2_enter (eQ (atC σ) 38 39 40 41 42 σ x F) 73 ([some (.ref 38), some (.int (nI x)), some (.int (tv)), some (.int (nI (s_sp (atC σ) x))), some (.int (nI r)), none], [], σ) := by
  have hn10 := hok.1
  obtain ⟨hs0, hs1, hs2⟩ := s_sp_ok hok hx
  obtain ⟨hg0, hg1, hg2⟩ := s_long_ok hok
  obtain ⟨hr0, hr1, hr2⟩ := s_rows_ok hok
  have h5 := hF.2.2.1
  have hxc : (nI x).toNatClampNeg = x := nI_clamp (by omega)
  have h5c : (σ 38 5).toNatClampNeg = F.2.length := by rw [h5, nI_clamp (by omega)]
  intro m
  induction m with
  | zero =>
    intro r hm hp
    refine ev_br 6 [vp_in ((1 : Int32)) 5] (((σ 9) 1) ≤ (nI r)) 203 87 ([some (.ref 38), some (.int (nI x)), some (.int (tv)), some (.int (nI (s_sp (atC σ) x))), some (.int (nI r)), none], [], σ) rfl ?_ (fun c84 => ?_) (fun c84 => ?_)
    · exact vp_in_nI (n := 1) (by decide) (by decide)
    · refine ev_blk 1 [] 204 ([some (.ref 38), some (.int (nI x)), some (.int (tv)), some (.int (nI (s_sp (atC σ) x))), some (.int (nI r)), none], [.int ((0 : Int32))], σ) rfl ?_ ?_
      · trivial
      exact ev_iret rfl rfl nar0 (Or.inr ⟨s_in_none hp, rfl, rfl⟩)
    · exact absurd (show aS (atC σ) 1 ≤ nI r by rw [hr0]; exact (nI_leI (by omega) (by omega)).mpr (by omega)) c84
  | succ m ih =>
    intro r hm hp
    have hrc : (nI r).toNatClampNeg = r := nI_clamp (by omega)
    refine ev_br 6 [vp_in ((1 : Int32)) 5] (((σ 9) 1) ≤ (nI r)) 203 87 ([some (.ref 38), some (.int (nI x)), some (.int (tv)), some (.int (nI (s_sp (atC σ) x))), some (.int (nI r)), none], [], σ) rfl ?_ (fun c84 => ?_) (fun c84 => ?_)
    · exact vp_in_nI (n := 1) (by decide) (by decide)
    · exact absurd ((nI_leI (by omega) (by omega)).mp (show nI (s_rows (atC σ)) ≤ nI r by rw [← hr0]; exact c84)) (by omega)
    · refine ev_br 2 [] ((3 : Int32) ≤ (nI r)) 203 93 ([some (.ref 38), some (.int (nI x)), some (.int (tv)), some (.int (nI (s_sp (atC σ) x))), some (.int (nI r)), none], [], σ) rfl ?_ (fun c90 => ?_) (fun c90 => ?_)
      · trivial
      · exact absurd ((nI_leI (a := 3) (by omega) (by omega)).mp c90) (by omega)
      · refine ev_blk 6 [vp_in (nI r) 3] 102 ([some (.ref 38), some (.int (nI x)), some (.int (tv)), some (.int (nI (s_sp (atC σ) x))), some (.int (nI r)), none], [.int (nI (s_sp (atC σ) x)), .int ((σ 39) (nI r).toNatClampNeg), .ref 38], σ) rfl ?_ ?_
        · exact vp_in_nI (by omega) (by decide)
        rw [hrc]
        refine ev_callV M_X2_firstRun [.int ((σ 39) r), .int (nI (s_sp (atC σ) x))] [] 38 rfl rfl ln_X2_70 k_X2_firstRun rfl rfl rfl rfl rfl rfl (c_firstRun38 σ _ F.1 (s_sp (atC σ) x) (s_long (atC σ)) r hg0 hg2 hs1 hs2 (fun q hq => hF.2.1 r q (by omega) hq)) ?_
        refine pu_k ?_
        cases hpl : s_plr F.1 (s_sp (atC σ) x) r (s_long (atC σ) + 1 - s_sp (atC σ) x) 0 with
        | none =>
          show xEv _ _ _ 105 ([some (.ref 38), some (.int (nI x)), some (.int (tv)), some (.int (nI (s_sp (atC σ) x))), some (.int (nI r)), none], [.int ((-1 : Int32))], σ)
          refine ev_br 3 [] ((-1 : Int32) = (-1 : Int32)) 197 113 ([some (.ref 38), some (.int (nI x)), some (.int (tv)), some (.int (nI (s_sp (atC σ) x))), some (.int (nI r)), some (.int ((-1 : Int32)))], [], σ) rfl ?_ (fun c110 => ?_) (fun c110 => ?_)
          · trivial
          · refine ev_blk 2 [] 73 ([some (.ref 38), some (.int (nI x)), some (.int (tv)), some (.int (nI (s_sp (atC σ) x))), some (.int ((nI r) + (1 : Int32))), some (.int ((-1 : Int32)))], [], σ) rfl ?_ ?_
            · trivial
            rw [nI_1]
            refine ev_drop 5 ?_
            exact ih (r + 1) (by omega) (by rw [hp, s_plc, hpl])
          · exact absurd rfl c110
        | some p =>
          obtain ⟨hp1, hp2, hp3⟩ := s_plr_some hpl
          show xEv _ _ _ 105 ([some (.ref 38), some (.int (nI x)), some (.int (tv)), some (.int (nI (s_sp (atC σ) x))), some (.int (nI r)), none], [.int (nI p)], σ)
          refine ev_br 3 [] ((nI p) = (-1 : Int32)) 197 113 ([some (.ref 38), some (.int (nI x)), some (.int (tv)), some (.int (nI (s_sp (atC σ) x))), some (.int (nI r)), some (.int (nI p))], [], σ) rfl ?_ (fun c110 => ?_) (fun c110 => ?_)
          · trivial
          · exact absurd c110 (nI_m1 (by omega))
          · refine ev_blk 6 [vp_in (nI r) 3] 122 ([some (.ref 38), some (.int (nI x)), some (.int (tv)), some (.int (nI (s_sp (atC σ) x))), some (.int (nI r)), some (.int (nI p))], [.int (nI (s_sp (atC σ) x)), .int ((σ 39) (nI r).toNatClampNeg), .int (nI r), .ref 39], σ) rfl ?_ ?_
            · exact vp_in_nI (by omega) (by decide)
            rw [hrc]
            refine ev_callS M_X2_run [.int (nI (s_sp (atC σ) x))] [.int ((σ 39) r), .int (nI r), .ref 39] rfl rfl ln_X2_73 k_X2_run rfl rfl rfl (c_run _ _) ?_
            refine pu_k ?_
            show xEv _ _ _ 125 ([some (.ref 38), some (.int (nI x)), some (.int (tv)), some (.int (nI (s_sp (atC σ) x))), some (.int (nI r)), some (.int (nI p))], [.int ((1 : Int32) <<< ((nI (s_sp (atC σ) x)) &&& 31) - 1), .int ((σ 39) r), .int (nI r), .ref 39], σ)
            refine ev_blk 42 [vp_in (nI r) 3, vp_in ((σ 38 5)) 10, vp_in ((σ 38 5)) 10, vp_in ((σ 38 5)) 10, vp_in (nI x) 10, tv = 0 ∨ tv = 1] 196 ([some (.ref 38), some (.int (nI x)), some (.int (tv)), some (.int (nI (s_sp (atC σ) x))), some (.int (nI r)), some (.int (nI p))], [.int ((1 : Int32))], (x_up (x_up (x_up (x_up (x_up (x_up (x_up σ 39 (upd (σ 39) (nI r).toNatClampNeg (((σ 39) r) ||| (((1 : Int32) <<< ((nI (s_sp (atC σ) x)) &&& 31) - 1) <<< ((nI p) &&& 31))))) 40 (upd (σ 40) (σ 38 5).toNatClampNeg (nI x))) 41 (upd (σ 41) (σ 38 5).toNatClampNeg (nI r))) 42 (upd (σ 42) (σ 38 5).toNatClampNeg (nI p))) 38 (upd (σ 38) 5 ((σ 38 5) + (1 : Int32)))) 38 (upd (upd (σ 38) 5 ((σ 38 5) + (1 : Int32))) 6 ((σ 38 6) + ((σ 5) (nI x).toNatClampNeg)))) 38 (upd (upd (upd (σ 38) 5 ((σ 38 5) + (1 : Int32))) 6 ((σ 38 6) + ((σ 5) (nI x).toNatClampNeg))) 7 (tv)))) rfl ?_ ?_
            · exact ⟨vp_in_nI (by omega) (by decide), (by rw [h5]; exact vp_in_nI (by omega) (by decide)), (by rw [h5]; exact vp_in_nI (by omega) (by decide)), (by rw [h5]; exact vp_in_nI (by omega) (by decide)), vp_in_nI (by omega) (by decide), htv2⟩
            rw [hrc]
            rw [h5c]
            rw [hxc]
            exact ev_iret rfl rfl nar1 (Or.inl ⟨_, s_in_some hb (by rw [hp, s_plc, hpl]), rfl, FR_put hF hl hs2 (by omega) (by omega) (htv r p) (show σ 38 5 + 1 = _ by rw [h5]) (show σ 38 6 + σ 5 x = _ by rw [hF.2.2.2.1]) rfl rfl rfl rfl rfl, fun c hc => by simp at hc; simp [x_up, hc]⟩)
set_option maxRecDepth 100000 in
theorem c_enter38 (σ : xSg) (n x : Nat) (F : sFl) (hok : aOk (atC σ) n) (hn : σ 1 0 = nI n) (hx : x < n) (hF : FR (atC σ) σ 38 39 40 41 42 F) (hl : F.2.length < 10) : xCtr M_X2_enter [.ref 38, .int (nI x)] σ (eQ (atC σ) 38 39 40 41 42 σ x F) := by
  have hn10 := hok.1
  obtain ⟨hs0, hs1, hs2⟩ := s_sp_ok hok hx
  obtain ⟨hg0, hg1, hg2⟩ := s_long_ok hok
  obtain ⟨hr0, hr1, hr2⟩ := s_rows_ok hok
  have h5 := hF.2.2.1
  have hxc : (nI x).toNatClampNeg = x := nI_clamp (by omega)
  have h5c : (σ 38 5).toNatClampNeg = F.2.length := by rw [h5, nI_clamp (by omega)]
  have h7 := hF.2.2.2.2.1
  have hsh : iSh σ (nI x) := ⟨nI_pos (by omega), by rw [hn]; exact nI_ge hx (by omega), nI_ge (b := 10) (by omega) (by omega)⟩
  refine ctr_ev ok_X2_enter (by decide +kernel) rfl rfl rfl ?_
  show xEv (.inl 2) M_X2_enter _ 0 ([some (.ref 38), some (.int (nI x)), none, none, none, none], [], σ)
  refine ev_blk 3 [] 5 ([some (.ref 38), some (.int (nI x)), none, none, none, none], [.int (nI x), .ref 1], σ) rfl ?_ ?_
  · trivial
  refine ev_callV M_X3_isShip [.int (nI x)] [] 1 rfl rfl ln_X2_59 k_X3_isShip rfl rfl rfl rfl rfl rfl (c_isShip _ _) ?_
  refine pu_k ?_
  show xEv _ _ _ 8 ([some (.ref 38), some (.int (nI x)), none, none, none, none], [.int (zi (iSh σ (nI x)))], σ)
  refine ev_br 0 [] ((zi (iSh σ (nI x))) = 0) 27 11 ([some (.ref 38), some (.int (nI x)), none, none, none, none], [], σ) rfl ?_ (fun c8 => ?_) (fun c8 => ?_)
  · trivial
  · exact absurd hsh (zi_0.mp c8)
  · replace c8 := zi_1.mp c8
    refine ev_br 3 [] ((10 : Int32) ≤ (σ 38 5)) 27 20 ([some (.ref 38), some (.int (nI x)), none, none, none, none], [], σ) rfl ?_ (fun c17 => ?_) (fun c17 => ?_)
    · trivial
    · rw [h5] at c17
      exact absurd c17 (nI_ge (b := 10) hl (by decide))
    · refine ev_br 2 [] ((σ 38 7) = 0) 29 27 ([some (.ref 38), some (.int (nI x)), none, none, none, none], [], σ) rfl ?_ (fun c24 => ?_) (fun c24 => ?_)
      · trivial
      · refine ev_br 6 [vp_in (nI x) 10] (¬ ((σ 2) (nI x).toNatClampNeg) = (5 : Int32)) 46 42 ([some (.ref 38), some (.int (nI x)), none, none, none, none], [], σ) rfl ?_ (fun c39 => ?_) (fun c39 => ?_)
        · exact vp_in_nI (by omega) (by decide)
        · rw [hxc] at c39
          refine ev_br 3 [] ((0 : Int32) = 0) 61 52 ([some (.ref 38), some (.int (nI x)), some (.int ((0 : Int32))), none, none, none], [], σ) rfl ?_ (fun c49 => ?_) (fun c49 => ?_)
          · trivial
          · refine ev_blk 3 [] 66 ([some (.ref 38), some (.int (nI x)), some (.int ((0 : Int32))), none, none, none], [.int (nI x), .ref 1], σ) rfl ?_ ?_
            · trivial
            refine ev_callV M_X3_span [.int (nI x)] [] 1 rfl rfl ln_X2_66 k_X3_span rfl rfl rfl rfl rfl rfl (c_span _ _ ⟨nI_pos (by omega), nI_lt (b := 10) (by omega) (by omega)⟩) ?_
            refine pu_k ?_
            show xEv _ _ _ 69 ([some (.ref 38), some (.int (nI x)), some (.int ((0 : Int32))), none, none, none], [.int (s_span (σ 2) (σ 3) (nI x).toNatClampNeg)], σ)
            rw [(show s_span (σ 2) (σ 3) (nI x).toNatClampNeg = nI (s_sp (atC σ) x) by rw [hxc]; exact hs0)]
            refine ev_blk 3 [] 73 ([some (.ref 38), some (.int (nI x)), some (.int ((0 : Int32))), some (.int (nI (s_sp (atC σ) x))), some (.int ((0 : Int32))), none], [], σ) rfl ?_ ?_
            · trivial
            have hnt : s_tank (atC σ) F.2 = false := by rw [h7] at c24; simpa using zi_0.mp c24
            replace c39 : ¬ aK (atC σ) x = 5 := c39
            refine c_enter38_lp σ n x F hok hn hx hF hl 0 (by simp [s_bar, hnt, c39]) (fun r p => ?_) (Or.inl rfl) _ 0 (by omega) rfl
            cases hw : F.2 with
            | nil => exact (zi_f (by simp [s_tank, c39])).symm
            | cons q t => rw [← hw, s_tank_app (by rw [hw]; simp)]; exact (zi_f (by rw [hnt]; decide)).symm
          · exact absurd rfl c49
        · rw [hxc] at c39
          refine ev_br 4 [] ((1 : Int32) = 0) 61 52 ([some (.ref 38), some (.int (nI x)), some (.int ((1 : Int32))), none, none, none], [], σ) rfl ?_ (fun c49 => ?_) (fun c49 => ?_)
          · trivial
          · exact absurd c49 (by decide)
          · refine ev_br 2 [] ((σ 38 5) ≤ 0) 61 59 ([some (.ref 38), some (.int (nI x)), some (.int ((1 : Int32))), none, none, none], [], σ) rfl ?_ (fun c56 => ?_) (fun c56 => ?_)
            · trivial
            · refine ev_blk 3 [] 66 ([some (.ref 38), some (.int (nI x)), some (.int ((1 : Int32))), none, none, none], [.int (nI x), .ref 1], σ) rfl ?_ ?_
              · trivial
              refine ev_callV M_X3_span [.int (nI x)] [] 1 rfl rfl ln_X2_66 k_X3_span rfl rfl rfl rfl rfl rfl (c_span _ _ ⟨nI_pos (by omega), nI_lt (b := 10) (by omega) (by omega)⟩) ?_
              refine pu_k ?_
              show xEv _ _ _ 69 ([some (.ref 38), some (.int (nI x)), some (.int ((1 : Int32))), none, none, none], [.int (s_span (σ 2) (σ 3) (nI x).toNatClampNeg)], σ)
              rw [(show s_span (σ 2) (σ 3) (nI x).toNatClampNeg = nI (s_sp (atC σ) x) by rw [hxc]; exact hs0)]
              refine ev_blk 3 [] 73 ([some (.ref 38), some (.int (nI x)), some (.int ((1 : Int32))), some (.int (nI (s_sp (atC σ) x))), some (.int ((0 : Int32))), none], [], σ) rfl ?_ ?_
              · trivial
              have hnt : s_tank (atC σ) F.2 = false := by rw [h7] at c24; simpa using zi_0.mp c24
              have c39b : aK (atC σ) x = 5 := Classical.byContradiction c39
              have hw : F.2 = [] := by
                rw [h5] at c56
                cases hw : F.2 with
                | nil => rfl
                | cons q t => rw [hw] at c56 hl; exact absurd c56 (nI_nle (by simp) (by omega))
              refine c_enter38_lp σ n x F hok hn hx hF hl 1 (by simp [s_bar, hw]) (fun r p => ?_) (Or.inr rfl) _ 0 (by omega) rfl
              exact (zi_t (by rw [hw]; simpa [s_tank] using c39b)).symm
            · refine ev_blk 1 [] 60 ([some (.ref 38), some (.int (nI x)), some (.int ((1 : Int32))), none, none, none], [.int ((0 : Int32))], σ) rfl ?_ ?_
              · trivial
              first
              | exact ev_iret rfl rfl nar0 (Or.inr ⟨s_bar_f (by have c39b : aK (atC σ) x = 5 := Classical.byContradiction c39; cases hw : F.2 with | nil => exact absurd (show σ 38 5 ≤ 0 by rw [h5, hw]; decide) c56 | cons q t => simp [s_bar, c39b]), rfl, rfl⟩)
              | exact ev_iret rfl rfl nar0 (Or.inr ⟨s_bar_f (by rw [h7] at c24; have ht := zi_1.mp c24; cases hw : F.2 with | nil => rw [hw] at ht; cases ht | cons q t => rw [hw] at ht; simp [s_bar, ht]), rfl, rfl⟩)
      · refine ev_blk 1 [] 28 ([some (.ref 38), some (.int (nI x)), none, none, none, none], [.int ((0 : Int32))], σ) rfl ?_ ?_
        · trivial
        first
        | exact ev_iret rfl rfl nar0 (Or.inr ⟨s_bar_f (by have c39b : aK (atC σ) x = 5 := Classical.byContradiction c39; cases hw : F.2 with | nil => exact absurd (show σ 38 5 ≤ 0 by rw [h5, hw]; decide) c56 | cons q t => simp [s_bar, c39b]), rfl, rfl⟩)
        | exact ev_iret rfl rfl nar0 (Or.inr ⟨s_bar_f (by rw [h7] at c24; have ht := zi_1.mp c24; cases hw : F.2 with | nil => rw [hw] at ht; cases ht | cons q t => rw [hw] at ht; simp [s_bar, ht]), rfl, rfl⟩)
set_option maxRecDepth 100000 in
theorem c_enter43_lp (σ : xSg) (n x : Nat) (F : sFl) (hok : aOk (atC σ) n) (hn : σ 1 0 = nI n) (hx : x < n) (hF : FR (atC σ) σ 43 44 45 46 47 F) (hl : F.2.length < 10) (tv : Int32) (hb : s_bar (atC σ) x F.2 = false) (htv : ∀ r p, tv = zi (s_tank (atC σ) (F.2 ++ [(x, r, p)]) = true)) (htv2 : tv = 0 ∨ tv = 1) : ∀ (m r : Nat), r + m = s_rows (atC σ) → s_plc (atC σ) F.1 (s_sp (atC σ) x) (s_rows (atC σ)) 0 = s_plc (atC σ) F.1 (s_sp (atC σ) x) m r → xEv (.inl 2) M_X2_enter (eQ (atC σ) 43 44 45 46 47 σ x F) 73 ([some (.ref 43), some (.int (nI x)), some (.int (tv)), some (.int (nI (s_sp (atC σ) x))), some (.int (nI r)), none], [], σ) := by
  have hn10 := hok.1
  obtain ⟨hs0, hs1, hs2⟩ := s_sp_ok hok hx
  obtain ⟨hg0, hg1, hg2⟩ := s_long_ok hok
  obtain ⟨hr0, hr1, hr2⟩ := s_rows_ok hok
  have h5 := hF.2.2.1
  have hxc : (nI x).toNatClampNeg = x := nI_clamp (by omega)
  have h5c : (σ 43 5).toNatClampNeg = F.2.length := by rw [h5, nI_clamp (by omega)]
  intro m
  induction m with
  | zero =>
    intro r hm hp
    refine ev_br 6 [vp_in ((1 : Int32)) 5] (((σ 9) 1) ≤ (nI r)) 203 87 ([some (.ref 43), some (.int (nI x)), some (.int (tv)), some (.int (nI (s_sp (atC σ) x))), some (.int (nI r)), none], [], σ) rfl ?_ (fun c84 => ?_) (fun c84 => ?_)
    · exact vp_in_nI (n := 1) (by decide) (by decide)
    · refine ev_blk 1 [] 204 ([some (.ref 43), some (.int (nI x)), some (.int (tv)), some (.int (nI (s_sp (atC σ) x))), some (.int (nI r)), none], [.int ((0 : Int32))], σ) rfl ?_ ?_
      · trivial
      exact ev_iret rfl rfl nar0 (Or.inr ⟨s_in_none hp, rfl, rfl⟩)
    · exact absurd (show aS (atC σ) 1 ≤ nI r by rw [hr0]; exact (nI_leI (by omega) (by omega)).mpr (by omega)) c84
  | succ m ih =>
    intro r hm hp
    have hrc : (nI r).toNatClampNeg = r := nI_clamp (by omega)
    refine ev_br 6 [vp_in ((1 : Int32)) 5] (((σ 9) 1) ≤ (nI r)) 203 87 ([some (.ref 43), some (.int (nI x)), some (.int (tv)), some (.int (nI (s_sp (atC σ) x))), some (.int (nI r)), none], [], σ) rfl ?_ (fun c84 => ?_) (fun c84 => ?_)
    · exact vp_in_nI (n := 1) (by decide) (by decide)
    · exact absurd ((nI_leI (by omega) (by omega)).mp (show nI (s_rows (atC σ)) ≤ nI r by rw [← hr0]; exact c84)) (by omega)
    · refine ev_br 2 [] ((3 : Int32) ≤ (nI r)) 203 93 ([some (.ref 43), some (.int (nI x)), some (.int (tv)), some (.int (nI (s_sp (atC σ) x))), some (.int (nI r)), none], [], σ) rfl ?_ (fun c90 => ?_) (fun c90 => ?_)
      · trivial
      · exact absurd ((nI_leI (a := 3) (by omega) (by omega)).mp c90) (by omega)
      · refine ev_blk 6 [vp_in (nI r) 3] 102 ([some (.ref 43), some (.int (nI x)), some (.int (tv)), some (.int (nI (s_sp (atC σ) x))), some (.int (nI r)), none], [.int (nI (s_sp (atC σ) x)), .int ((σ 44) (nI r).toNatClampNeg), .ref 43], σ) rfl ?_ ?_
        · exact vp_in_nI (by omega) (by decide)
        rw [hrc]
        refine ev_callV M_X2_firstRun [.int ((σ 44) r), .int (nI (s_sp (atC σ) x))] [] 43 rfl rfl ln_X2_70 k_X2_firstRun rfl rfl rfl rfl rfl rfl (c_firstRun43 σ _ F.1 (s_sp (atC σ) x) (s_long (atC σ)) r hg0 hg2 hs1 hs2 (fun q hq => hF.2.1 r q (by omega) hq)) ?_
        refine pu_k ?_
        cases hpl : s_plr F.1 (s_sp (atC σ) x) r (s_long (atC σ) + 1 - s_sp (atC σ) x) 0 with
        | none =>
          show xEv _ _ _ 105 ([some (.ref 43), some (.int (nI x)), some (.int (tv)), some (.int (nI (s_sp (atC σ) x))), some (.int (nI r)), none], [.int ((-1 : Int32))], σ)
          refine ev_br 3 [] ((-1 : Int32) = (-1 : Int32)) 197 113 ([some (.ref 43), some (.int (nI x)), some (.int (tv)), some (.int (nI (s_sp (atC σ) x))), some (.int (nI r)), some (.int ((-1 : Int32)))], [], σ) rfl ?_ (fun c110 => ?_) (fun c110 => ?_)
          · trivial
          · refine ev_blk 2 [] 73 ([some (.ref 43), some (.int (nI x)), some (.int (tv)), some (.int (nI (s_sp (atC σ) x))), some (.int ((nI r) + (1 : Int32))), some (.int ((-1 : Int32)))], [], σ) rfl ?_ ?_
            · trivial
            rw [nI_1]
            refine ev_drop 5 ?_
            exact ih (r + 1) (by omega) (by rw [hp, s_plc, hpl])
          · exact absurd rfl c110
        | some p =>
          obtain ⟨hp1, hp2, hp3⟩ := s_plr_some hpl
          show xEv _ _ _ 105 ([some (.ref 43), some (.int (nI x)), some (.int (tv)), some (.int (nI (s_sp (atC σ) x))), some (.int (nI r)), none], [.int (nI p)], σ)
          refine ev_br 3 [] ((nI p) = (-1 : Int32)) 197 113 ([some (.ref 43), some (.int (nI x)), some (.int (tv)), some (.int (nI (s_sp (atC σ) x))), some (.int (nI r)), some (.int (nI p))], [], σ) rfl ?_ (fun c110 => ?_) (fun c110 => ?_)
          · trivial
          · exact absurd c110 (nI_m1 (by omega))
          · refine ev_blk 6 [vp_in (nI r) 3] 122 ([some (.ref 43), some (.int (nI x)), some (.int (tv)), some (.int (nI (s_sp (atC σ) x))), some (.int (nI r)), some (.int (nI p))], [.int (nI (s_sp (atC σ) x)), .int ((σ 44) (nI r).toNatClampNeg), .int (nI r), .ref 44], σ) rfl ?_ ?_
            · exact vp_in_nI (by omega) (by decide)
            rw [hrc]
            refine ev_callS M_X2_run [.int (nI (s_sp (atC σ) x))] [.int ((σ 44) r), .int (nI r), .ref 44] rfl rfl ln_X2_73 k_X2_run rfl rfl rfl (c_run _ _) ?_
            refine pu_k ?_
            show xEv _ _ _ 125 ([some (.ref 43), some (.int (nI x)), some (.int (tv)), some (.int (nI (s_sp (atC σ) x))), some (.int (nI r)), some (.int (nI p))], [.int ((1 : Int32) <<< ((nI (s_sp (atC σ) x)) &&& 31) - 1), .int ((σ 44) r), .int (nI r), .ref 44], σ)
            refine ev_blk 42 [vp_in (nI r) 3, vp_in ((σ 43 5)) 10, vp_in ((σ 43 5)) 10, vp_in ((σ 43 5)) 10, vp_in (nI x) 10, tv = 0 ∨ tv = 1] 196 ([some (.ref 43), some (.int (nI x)), some (.int (tv)), some (.int (nI (s_sp (atC σ) x))), some (.int (nI r)), some (.int (nI p))], [.int ((1 : Int32))], (x_up (x_up (x_up (x_up (x_up (x_up (x_up σ 44 (upd (σ 44) (nI r).toNatClampNeg (((σ 44) r) ||| (((1 : Int32) <<< ((nI (s_sp (atC σ) x)) &&& 31) - 1) <<< ((nI p) &&& 31))))) 45 (upd (σ 45) (σ 43 5).toNatClampNeg (nI x))) 46 (upd (σ 46) (σ 43 5).toNatClampNeg (nI r))) 47 (upd (σ 47) (σ 43 5).toNatClampNeg (nI p))) 43 (upd (σ 43) 5 ((σ 43 5) + (1 : Int32)))) 43 (upd (upd (σ 43) 5 ((σ 43 5) + (1 : Int32))) 6 ((σ 43 6) + ((σ 5) (nI x).toNatClampNeg)))) 43 (upd (upd (upd (σ 43) 5 ((σ 43 5) + (1 : Int32))) 6 ((σ 43 6) + ((σ 5) (nI x).toNatClampNeg))) 7 (tv)))) rfl ?_ ?_
            · exact ⟨vp_in_nI (by omega) (by decide), (by rw [h5]; exact vp_in_nI (by omega) (by decide)), (by rw [h5]; exact vp_in_nI (by omega) (by decide)), (by rw [h5]; exact vp_in_nI (by omega) (by decide)), vp_in_nI (by omega) (by decide), htv2⟩
            rw [hrc]
            rw [h5c]
            rw [hxc]
            exact ev_iret rfl rfl nar1 (Or.inl ⟨_, s_in_some hb (by rw [hp, s_plc, hpl]), rfl, FR_put hF hl hs2 (by omega) (by omega) (htv r p) (show σ 43 5 + 1 = _ by rw [h5]) (show σ 43 6 + σ 5 x = _ by rw [hF.2.2.2.1]) rfl rfl rfl rfl rfl, fun c hc => by simp at hc; simp [x_up, hc]⟩)
set_option maxRecDepth 100000 in
theorem c_enter43 (σ : xSg) (n x : Nat) (F : sFl) (hok : aOk (atC σ) n) (hn : σ 1 0 = nI n) (hx : x < n) (hF : FR (atC σ) σ 43 44 45 46 47 F) (hl : F.2.length < 10) : xCtr M_X2_enter [.ref 43, .int (nI x)] σ (eQ (atC σ) 43 44 45 46 47 σ x F) := by
  have hn10 := hok.1
  obtain ⟨hs0, hs1, hs2⟩ := s_sp_ok hok hx
  obtain ⟨hg0, hg1, hg2⟩ := s_long_ok hok
  obtain ⟨hr0, hr1, hr2⟩ := s_rows_ok hok
  have h5 := hF.2.2.1
  have hxc : (nI x).toNatClampNeg = x := nI_clamp (by omega)
  have h5c : (σ 43 5).toNatClampNeg = F.2.length := by rw [h5, nI_clamp (by omega)]
  have h7 := hF.2.2.2.2.1
  have hsh : iSh σ (nI x) := ⟨nI_pos (by omega), by rw [hn]; exact nI_ge hx (by omega), nI_ge (b := 10) (by omega) (by omega)⟩
  refine ctr_ev ok_X2_enter (by decide +kernel) rfl rfl rfl ?_
  show xEv (.inl 2) M_X2_enter _ 0 ([some (.ref 43), some (.int (nI x)), none, none, none, none], [], σ)
  refine ev_blk 3 [] 5 ([some (.ref 43), some (.int (nI x)), none, none, none, none], [.int (nI x), .ref 1], σ) rfl ?_ ?_
  · trivial
  refine ev_callV M_X3_isShip [.int (nI x)] [] 1 rfl rfl ln_X2_59 k_X3_isShip rfl rfl rfl rfl rfl rfl (c_isShip _ _) ?_
  refine pu_k ?_
  show xEv _ _ _ 8 ([some (.ref 43), some (.int (nI x)), none, none, none, none], [.int (zi (iSh σ (nI x)))], σ)
  refine ev_br 0 [] ((zi (iSh σ (nI x))) = 0) 27 11 ([some (.ref 43), some (.int (nI x)), none, none, none, none], [], σ) rfl ?_ (fun c8 => ?_) (fun c8 => ?_)
  · trivial
  · exact absurd hsh (zi_0.mp c8)
  · replace c8 := zi_1.mp c8
    refine ev_br 3 [] ((10 : Int32) ≤ (σ 43 5)) 27 20 ([some (.ref 43), some (.int (nI x)), none, none, none, none], [], σ) rfl ?_ (fun c17 => ?_) (fun c17 => ?_)
    · trivial
    · rw [h5] at c17
      exact absurd c17 (nI_ge (b := 10) hl (by decide))
    · refine ev_br 2 [] ((σ 43 7) = 0) 29 27 ([some (.ref 43), some (.int (nI x)), none, none, none, none], [], σ) rfl ?_ (fun c24 => ?_) (fun c24 => ?_)
      · trivial
      · refine ev_br 6 [vp_in (nI x) 10] (¬ ((σ 2) (nI x).toNatClampNeg) = (5 : Int32)) 46 42 ([some (.ref 43), some (.int (nI x)), none, none, none, none], [], σ) rfl ?_ (fun c39 => ?_) (fun c39 => ?_)
        · exact vp_in_nI (by omega) (by decide)
        · rw [hxc] at c39
          refine ev_br 3 [] ((0 : Int32) = 0) 61 52 ([some (.ref 43), some (.int (nI x)), some (.int ((0 : Int32))), none, none, none], [], σ) rfl ?_ (fun c49 => ?_) (fun c49 => ?_)
          · trivial
          · refine ev_blk 3 [] 66 ([some (.ref 43), some (.int (nI x)), some (.int ((0 : Int32))), none, none, none], [.int (nI x), .ref 1], σ) rfl ?_ ?_
            · trivial
            refine ev_callV M_X3_span [.int (nI x)] [] 1 rfl rfl ln_X2_66 k_X3_span rfl rfl rfl rfl rfl rfl (c_span _ _ ⟨nI_pos (by omega), nI_lt (b := 10) (by omega) (by omega)⟩) ?_
            refine pu_k ?_
            show xEv _ _ _ 69 ([some (.ref 43), some (.int (nI x)), some (.int ((0 : Int32))), none, none, none], [.int (s_span (σ 2) (σ 3) (nI x).toNatClampNeg)], σ)
            rw [(show s_span (σ 2) (σ 3) (nI x).toNatClampNeg = nI (s_sp (atC σ) x) by rw [hxc]; exact hs0)]
            refine ev_blk 3 [] 73 ([some (.ref 43), some (.int (nI x)), some (.int ((0 : Int32))), some (.int (nI (s_sp (atC σ) x))), some (.int ((0 : Int32))), none], [], σ) rfl ?_ ?_
            · trivial
            have hnt : s_tank (atC σ) F.2 = false := by rw [h7] at c24; simpa using zi_0.mp c24
            replace c39 : ¬ aK (atC σ) x = 5 := c39
            refine c_enter43_lp σ n x F hok hn hx hF hl 0 (by simp [s_bar, hnt, c39]) (fun r p => ?_) (Or.inl rfl) _ 0 (by omega) rfl
            cases hw : F.2 with
            | nil => exact (zi_f (by simp [s_tank, c39])).symm
            | cons q t => rw [← hw, s_tank_app (by rw [hw]; simp)]; exact (zi_f (by rw [hnt]; decide)).symm
          · exact absurd rfl c49
        · rw [hxc] at c39
          refine ev_br 4 [] ((1 : Int32) = 0) 61 52 ([some (.ref 43), some (.int (nI x)), some (.int ((1 : Int32))), none, none, none], [], σ) rfl ?_ (fun c49 => ?_) (fun c49 => ?_)
          · trivial
          · exact absurd c49 (by decide)
          · refine ev_br 2 [] ((σ 43 5) ≤ 0) 61 59 ([some (.ref 43), some (.int (nI x)), some (.int ((1 : Int32))), none, none, none], [], σ) rfl ?_ (fun c56 => ?_) (fun c56 => ?_)
            · trivial
            · refine ev_blk 3 [] 66 ([some (.ref 43), some (.int (nI x)), some (.int ((1 : Int32))), none, none, none], [.int (nI x), .ref 1], σ) rfl ?_ ?_
              · trivial
              refine ev_callV M_X3_span [.int (nI x)] [] 1 rfl rfl ln_X2_66 k_X3_span rfl rfl rfl rfl rfl rfl (c_span _ _ ⟨nI_pos (by omega), nI_lt (b := 10) (by omega) (by omega)⟩) ?_
              refine pu_k ?_
              show xEv _ _ _ 69 ([some (.ref 43), some (.int (nI x)), some (.int ((1 : Int32))), none, none, none], [.int (s_span (σ 2) (σ 3) (nI x).toNatClampNeg)], σ)
              rw [(show s_span (σ 2) (σ 3) (nI x).toNatClampNeg = nI (s_sp (atC σ) x) by rw [hxc]; exact hs0)]
              refine ev_blk 3 [] 73 ([some (.ref 43), some (.int (nI x)), some (.int ((1 : Int32))), some (.int (nI (s_sp (atC σ) x))), some (.int ((0 : Int32))), none], [], σ) rfl ?_ ?_
              · trivial
              have hnt : s_tank (atC σ) F.2 = false := by rw [h7] at c24; simpa using zi_0.mp c24
              have c39b : aK (atC σ) x = 5 := Classical.byContradiction c39
              have hw : F.2 = [] := by
                rw [h5] at c56
                cases hw : F.2 with
                | nil => rfl
                | cons q t => rw [hw] at c56 hl; exact absurd c56 (nI_nle (by simp) (by omega))
              refine c_enter43_lp σ n x F hok hn hx hF hl 1 (by simp [s_bar, hw]) (fun r p => ?_) (Or.inr rfl) _ 0 (by omega) rfl
              exact (zi_t (by rw [hw]; simpa [s_tank] using c39b)).symm
            · refine ev_blk 1 [] 60 ([some (.ref 43), some (.int (nI x)), some (.int ((1 : Int32))), none, none, none], [.int ((0 : Int32))], σ) rfl ?_ ?_
              · trivial
              first
              | exact ev_iret rfl rfl nar0 (Or.inr ⟨s_bar_f (by have c39b : aK (atC σ) x = 5 := Classical.byContradiction c39; cases hw : F.2 with | nil => exact absurd (show σ 43 5 ≤ 0 by rw [h5, hw]; decide) c56 | cons q t => simp [s_bar, c39b]), rfl, rfl⟩)
              | exact ev_iret rfl rfl nar0 (Or.inr ⟨s_bar_f (by rw [h7] at c24; have ht := zi_1.mp c24; cases hw : F.2 with | nil => rw [hw] at ht; cases ht | cons q t => rw [hw] at ht; simp [s_bar, ht]), rfl, rfl⟩)
      · refine ev_blk 1 [] 28 ([some (.ref 43), some (.int (nI x)), none, none, none, none], [.int ((0 : Int32))], σ) rfl ?_ ?_
        · trivial
        first
        | exact ev_iret rfl rfl nar0 (Or.inr ⟨s_bar_f (by have c39b : aK (atC σ) x = 5 := Classical.byContradiction c39; cases hw : F.2 with | nil => exact absurd (show σ 43 5 ≤ 0 by rw [h5, hw]; decide) c56 | cons q t => simp [s_bar, c39b]), rfl, rfl⟩)
        | exact ev_iret rfl rfl nar0 (Or.inr ⟨s_bar_f (by rw [h7] at c24; have ht := zi_1.mp c24; cases hw : F.2 with | nil => rw [hw] at ht; cases ht | cons q t => rw [hw] at ht; simp [s_bar, ht]), rfl, rfl⟩)
end
section
def tkC (σ : xSg) : sTk := fun r q => decide (r < 3) && decide (q < 20) && bt (σ 10 r) q
def s_lnp (n : Nat) (w : Int32) (La : Nat → Int32) (l : Int32) (x : Nat) : Bool := decide (x < n) && bt w x && decide (La x = l)
def s_hd : List Nat → Int32
  | [] => -1
  | x :: _ => nI x
def s_hp : Option (Nat × Bool) → Int32
  | none => -1
  | some q => nI q.1
def s_ov (o0 o1 : Bool) : Int32 := if o0 = true then (if o1 = true then 3 else 1) else (if o1 = true then 2 else 0)
theorem s_ov_1 : ∀ o0 o1, s_ov o0 o1 &&& 1 = 0 ↔ o0 = false := by decide +kernel
theorem s_ov_2 : ∀ o0 o1, s_ov o0 o1 &&& 2 = 0 ↔ o1 = false := by decide +kernel
theorem s_ov_c0 : ∀ o0 o1, s_ov o0 o1 &&& (((1 : Int32) <<< ((0 : Int32) &&& 31)) ^^^ (-1 : Int32)) = s_ov false o1 := by decide +kernel
theorem s_ov_c1 : ∀ o0 o1, s_ov o0 o1 &&& (((1 : Int32) <<< ((1 : Int32) &&& 31)) ^^^ (-1 : Int32)) = s_ov o0 false := by decide +kernel
/-- a row that tells an order of the ten numbers -/
def ordOk (ord : List Nat) (f : Nat → Int32) : Prop := ord.length = 10 ∧ ord.Nodup ∧ ∀ i, i < 10 → ∃ x, ord[i]? = some x ∧ x < 10 ∧ f i = nI x
theorem ord_by : ordOk (List.range 10) (fun i => ([0, 1, 2, 3, 4, 5, 6, 7, 8, 9] : List Int32).getD i 0) := by
  refine ⟨rfl, by decide +kernel, fun i hi => ⟨i, by rw [List.getElem?_range hi], hi, ?_⟩⟩
  exact (by decide +kernel : ∀ i, i < 10 → ([0, 1, 2, 3, 4, 5, 6, 7, 8, 9] : List Int32).getD i 0 = nI i) i hi
theorem s_sec_def (σ : xSg) (x y : Nat) (lt : Bool) : s_sec (atC σ) x y lt = (if σ 9 4 = 1 then decide (s_rank (σ 2) (σ 4) x < s_rank (σ 2) (σ 4) y)
  else if σ 9 4 = 2 then decide (s_span (σ 2) (σ 3) y < s_span (σ 2) (σ 3) x)
  else if σ 9 4 = 3 then decide (σ 6 y < σ 6 x)
  else if σ 9 4 = 4 then decide (σ 5 x < σ 5 y)
  else lt) := rfl
set_option maxRecDepth 100000 in
theorem c_begin26 (σ : xSg) : xCtr M_X2_begin [.ref 26] σ (fun r σ1 => r = none ∧ FR (atC σ) σ1 26 27 28 29 30 (tkC σ, []) ∧ xFr [26, 27, 28, 29, 30] σ σ1) := by
  refine ctr_ev ok_X2_begin (by decide +kernel) rfl rfl rfl ?_
  show xEv (.inl 1) M_X2_begin _ 0 ([some (.ref 26)], [], σ)
  refine ev_blk 18 [¬ (0 : Int32) < 0, ¬ (0 : Int32) < 0, ¬ (3 : Int32) < 0, 0 + 3 ≤ 3, 0 + 3 ≤ 3, (0 : Int32) = 0 ∨ (0 : Int32) = 1] 32 ([some (.ref 26)], [], (x_up (x_up (x_up (x_up σ 27 (va_cpy (σ 10) (σ 27) 0 0 3)) 26 (upd (σ 26) 5 ((0 : Int32)))) 26 (upd (upd (σ 26) 5 ((0 : Int32))) 6 ((0 : Int32)))) 26 (upd (upd (upd (σ 26) 5 ((0 : Int32))) 6 ((0 : Int32))) 7 ((0 : Int32))))) rfl ?_ ?_
  · exact ⟨by decide, by decide, by decide, by decide, by decide, Or.inl rfl⟩
  refine ev_vret rfl rfl ⟨rfl, ⟨by simp, fun r q hr hq => ?_, rfl, rfl, (zi_f (by simp [s_tank])).symm, fun i x r p h => by simp at h⟩, fun c hc => by simp at hc; simp [x_up, hc]⟩
  show bt (va_cpy (σ 10) (σ 27) 0 0 3 r) q = tkC σ r q
  rw [pk_cpy_in (by omega) (by omega)]
  simp [tkC, hr, hq]
set_option maxRecDepth 100000 in
theorem c_spends26 (σ : xSg) : xPu M_X2_spends [.ref 26] σ (.int (x_mx 0 (σ 9 0 * σ 9 1 * σ 9 2 - σ 26 6))) := by
  refine ctr_ev ok_X2_spends (by decide +kernel) rfl rfl rfl ?_
  show xEv (.inl 1) M_X2_spends _ 0 ([some (.ref 26), none], [], σ)
  refine ev_blk 20 [vp_in ((0 : Int32)) 5, vp_in ((1 : Int32)) 5, vp_in ((2 : Int32)) 5] 28 ([some (.ref 26), some (.ref 9)], [.int (x_mx (0 : Int32) (((((σ 9) 0) * ((σ 9) 1)) * ((σ 9) 2)) - (σ 26 6)))], σ) rfl ?_ ?_
  · exact ⟨vp_in_nI (n := 0) (by decide) (by decide), vp_in_nI (n := 1) (by decide) (by decide), vp_in_nI (n := 2) (by decide) (by decide)⟩
  exact ev_iret rfl rfl rfl ⟨rfl, rfl⟩
set_option maxRecDepth 100000 in
theorem c_begin38 (σ : xSg) : xCtr M_X2_begin [.ref 38] σ (fun r σ1 => r = none ∧ FR (atC σ) σ1 38 39 40 41 42 (tkC σ, []) ∧ xFr [38, 39, 40, 41, 42] σ σ1) := by
  refine ctr_ev ok_X2_begin (by decide +kernel) rfl rfl rfl ?_
  show xEv (.inl 1) M_X2_begin _ 0 ([some (.ref 38)], [], σ)
  refine ev_blk 18 [¬ (0 : Int32) < 0, ¬ (0 : Int32) < 0, ¬ (3 : Int32) < 0, 0 + 3 ≤ 3, 0 + 3 ≤ 3, (0 : Int32) = 0 ∨ (0 : Int32) = 1] 32 ([some (.ref 38)], [], (x_up (x_up (x_up (x_up σ 39 (va_cpy (σ 10) (σ 39) 0 0 3)) 38 (upd (σ 38) 5 ((0 : Int32)))) 38 (upd (upd (σ 38) 5 ((0 : Int32))) 6 ((0 : Int32)))) 38 (upd (upd (upd (σ 38) 5 ((0 : Int32))) 6 ((0 : Int32))) 7 ((0 : Int32))))) rfl ?_ ?_
  · exact ⟨by decide, by decide, by decide, by decide, by decide, Or.inl rfl⟩
  refine ev_vret rfl rfl ⟨rfl, ⟨by simp, fun r q hr hq => ?_, rfl, rfl, (zi_f (by simp [s_tank])).symm, fun i x r p h => by simp at h⟩, fun c hc => by simp at hc; simp [x_up, hc]⟩
  show bt (va_cpy (σ 10) (σ 39) 0 0 3 r) q = tkC σ r q
  rw [pk_cpy_in (by omega) (by omega)]
  simp [tkC, hr, hq]
set_option maxRecDepth 100000 in
theorem c_spends38 (σ : xSg) : xPu M_X2_spends [.ref 38] σ (.int (x_mx 0 (σ 9 0 * σ 9 1 * σ 9 2 - σ 38 6))) := by
  refine ctr_ev ok_X2_spends (by decide +kernel) rfl rfl rfl ?_
  show xEv (.inl 1) M_X2_spends _ 0 ([some (.ref 38), none], [], σ)
  refine ev_blk 20 [vp_in ((0 : Int32)) 5, vp_in ((1 : Int32)) 5, vp_in ((2 : Int32)) 5] 28 ([some (.ref 38), some (.ref 9)], [.int (x_mx (0 : Int32) (((((σ 9) 0) * ((σ 9) 1)) * ((σ 9) 2)) - (σ 38 6)))], σ) rfl ?_ ?_
  · exact ⟨vp_in_nI (n := 0) (by decide) (by decide), vp_in_nI (n := 1) (by decide) (by decide), vp_in_nI (n := 2) (by decide) (by decide)⟩
  exact ev_iret rfl rfl rfl ⟨rfl, rfl⟩
set_option maxRecDepth 100000 in
theorem c_begin43 (σ : xSg) : xCtr M_X2_begin [.ref 43] σ (fun r σ1 => r = none ∧ FR (atC σ) σ1 43 44 45 46 47 (tkC σ, []) ∧ xFr [43, 44, 45, 46, 47] σ σ1) := by
  refine ctr_ev ok_X2_begin (by decide +kernel) rfl rfl rfl ?_
  show xEv (.inl 1) M_X2_begin _ 0 ([some (.ref 43)], [], σ)
  refine ev_blk 18 [¬ (0 : Int32) < 0, ¬ (0 : Int32) < 0, ¬ (3 : Int32) < 0, 0 + 3 ≤ 3, 0 + 3 ≤ 3, (0 : Int32) = 0 ∨ (0 : Int32) = 1] 32 ([some (.ref 43)], [], (x_up (x_up (x_up (x_up σ 44 (va_cpy (σ 10) (σ 44) 0 0 3)) 43 (upd (σ 43) 5 ((0 : Int32)))) 43 (upd (upd (σ 43) 5 ((0 : Int32))) 6 ((0 : Int32)))) 43 (upd (upd (upd (σ 43) 5 ((0 : Int32))) 6 ((0 : Int32))) 7 ((0 : Int32))))) rfl ?_ ?_
  · exact ⟨by decide, by decide, by decide, by decide, by decide, Or.inl rfl⟩
  refine ev_vret rfl rfl ⟨rfl, ⟨by simp, fun r q hr hq => ?_, rfl, rfl, (zi_f (by simp [s_tank])).symm, fun i x r p h => by simp at h⟩, fun c hc => by simp at hc; simp [x_up, hc]⟩
  show bt (va_cpy (σ 10) (σ 44) 0 0 3 r) q = tkC σ r q
  rw [pk_cpy_in (by omega) (by omega)]
  simp [tkC, hr, hq]
set_option maxRecDepth 100000 in
theorem c_spends43 (σ : xSg) : xPu M_X2_spends [.ref 43] σ (.int (x_mx 0 (σ 9 0 * σ 9 1 * σ 9 2 - σ 43 6))) := by
  refine ctr_ev ok_X2_spends (by decide +kernel) rfl rfl rfl ?_
  show xEv (.inl 1) M_X2_spends _ 0 ([some (.ref 43), none], [], σ)
  refine ev_blk 20 [vp_in ((0 : Int32)) 5, vp_in ((1 : Int32)) 5, vp_in ((2 : Int32)) 5] 28 ([some (.ref 43), some (.ref 9)], [.int (x_mx (0 : Int32) (((((σ 9) 0) * ((σ 9) 1)) * ((σ 9) 2)) - (σ 43 6)))], σ) rfl ?_ ?_
  · exact ⟨vp_in_nI (n := 0) (by decide) (by decide), vp_in_nI (n := 1) (by decide) (by decide), vp_in_nI (n := 2) (by decide) (by decide)⟩
  exact ev_iret rfl rfl rfl ⟨rfl, rfl⟩
set_option maxRecDepth 100000 in
theorem c_become43 (σ : xSg) (a : sAt) (F : sFl) (h : FR a σ 38 39 40 41 42 F) : xCtr M_X2_become [.ref 43, .ref 38] σ (fun r σ1 => r = none ∧ FR a σ1 43 44 45 46 47 F ∧ xFr [43, 44, 45, 46, 47] σ σ1) := by
  refine ctr_ev ok_X2_become (by decide +kernel) rfl rfl rfl ?_
  show xEv (.inl 1) M_X2_become _ 0 ([some (.ref 43), some (.ref 38)], [], σ)
  have hz : σ 38 7 = 0 ∨ σ 38 7 = 1 := by rw [h.2.2.2.2.1]; by_cases q : s_tank a F.2 = true; exact Or.inr (zi_t q); exact Or.inl (zi_f q)
  refine ev_blk 44 [¬ (0 : Int32) < 0, ¬ (0 : Int32) < 0, ¬ (3 : Int32) < 0, 0 + 3 ≤ 3, 0 + 3 ≤ 3, ¬ (0 : Int32) < 0, ¬ (0 : Int32) < 0, ¬ (10 : Int32) < 0, 0 + 10 ≤ 10, 0 + 10 ≤ 10, ¬ (0 : Int32) < 0, ¬ (0 : Int32) < 0, ¬ (10 : Int32) < 0, 0 + 10 ≤ 10, 0 + 10 ≤ 10, ¬ (0 : Int32) < 0, ¬ (0 : Int32) < 0, ¬ (10 : Int32) < 0, 0 + 10 ≤ 10, 0 + 10 ≤ 10, (σ 38 7) = 0 ∨ (σ 38 7) = 1] 83 ([some (.ref 43), some (.ref 38)], [], (x_up (x_up (x_up (x_up (x_up (x_up (x_up σ 44 (va_cpy (σ 39) (σ 44) 0 0 3)) 45 (va_cpy (σ 40) (σ 45) 0 0 10)) 46 (va_cpy (σ 41) (σ 46) 0 0 10)) 47 (va_cpy (σ 42) (σ 47) 0 0 10)) 43 (upd (σ 43) 5 ((σ 38 5)))) 43 (upd (upd (σ 43) 5 ((σ 38 5))) 6 ((σ 38 6)))) 43 (upd (upd (upd (σ 43) 5 ((σ 38 5))) 6 ((σ 38 6))) 7 ((σ 38 7))))) rfl ?_ ?_
  · exact ⟨by decide, by decide, by decide, by decide, by decide, by decide, by decide, by decide, by decide, by decide, by decide, by decide, by decide, by decide, by decide, by decide, by decide, by decide, by decide, by decide, hz⟩
  refine ev_vret rfl rfl ⟨rfl, ⟨h.1, fun r q hr hq => ?_, h.2.2.1, h.2.2.2.1, h.2.2.2.2.1, fun i x r p hi => ?_⟩, fun c hc => by simp at hc; simp [x_up, hc]⟩
  · show bt (va_cpy (σ 39) (σ 44) 0 0 3 r) q = _
    rw [pk_cpy_in (by omega) (by omega)]
    simpa using h.2.1 r q hr hq
  · have hi10 : i < 10 := Nat.lt_of_lt_of_le (List.getElem?_eq_some_iff.mp hi).1 h.1
    show va_cpy (σ 40) (σ 45) 0 0 10 i = nI x ∧ va_cpy (σ 41) (σ 46) 0 0 10 i = nI r ∧ va_cpy (σ 42) (σ 47) 0 0 10 i = nI p
    rw [pk_cpy_in (by omega) (by omega), pk_cpy_in (by omega) (by omega), pk_cpy_in (by omega) (by omega)]
    simpa using h.2.2.2.2.2 i x r p hi
set_option maxRecDepth 100000 in
theorem c_head104_lp (σ : xSg) (n : Nat) (ord : List Nat) (still ln : Int32) (hn10 : n ≤ 10) (hn : σ 1 0 = nI n) (ho : ordOk ord (fun i => ([0, 1, 2, 3, 4, 5, 6, 7, 8, 9] : List Int32).getD i 0)) : ∀ (m i : Nat), i + m = 10 → ord.filter (s_lnp n still (σ 7) ln) = (ord.drop i).filter (s_lnp n still (σ 7) ln) → xEv (.inl 1) M_X2_head (fun r1 σ1 => r1 = some (.int (s_hd (ord.filter (s_lnp n still (σ 7) ln)))) ∧ σ1 = σ) 3 ([some (.ref 26), some (.int (ln)), some (.int (still)), some (.ref 104), some (.int (nI i)), none], [], σ) := by
  intro m
  induction m with
  | zero =>
    intro i hi hf
    refine ev_br 3 [] ((10 : Int32) ≤ (nI i)) 60 10 ([some (.ref 26), some (.int (ln)), some (.int (still)), some (.ref 104), some (.int (nI i)), none], [], σ) rfl ?_ (fun c7 => ?_) (fun c7 => ?_)
    · trivial
    · refine ev_blk 1 [] 61 ([some (.ref 26), some (.int (ln)), some (.int (still)), some (.ref 104), some (.int (nI i)), none], [.int ((-1 : Int32))], σ) rfl ?_ ?_
      · trivial
      exact ev_iret rfl rfl rfl ⟨by rw [hf, List.drop_eq_nil_of_le (by rw [ho.1]; omega)]; rfl, rfl⟩
    · exact absurd (show (10 : Int32) ≤ nI i by rw [show i = 10 by omega]; decide) c7
  | succ m ih =>
    intro i hi hf
    obtain ⟨x, hx1, hx2, hx3⟩ := ho.2.2 i (by omega)
    have hic : (nI i).toNatClampNeg = i := nI_clamp (by omega)
    have hxc : (nI x).toNatClampNeg = x := nI_clamp (by omega)
    have hdr : ord.drop i = x :: ord.drop (i + 1) := by
      obtain ⟨hl, he⟩ := List.getElem?_eq_some_iff.mp hx1
      rw [List.drop_eq_getElem_cons hl, he]
    have key : s_lnp n still (σ 7) ln x = false → xEv (.inl 1) M_X2_head (fun r1 σ1 => r1 = some (.int (s_hd (ord.filter (s_lnp n still (σ 7) ln)))) ∧ σ1 = σ) 3 ([some (.ref 26), some (.int (ln)), some (.int (still)), some (.ref 104), some (.int (nI (i + 1))), none], [], σ) := fun q => ih (i + 1) (by omega) (by rw [hf, hdr, List.filter_cons_of_neg (by rw [q]; decide)])
    have hsx : iSh σ (nI x) ↔ x < n := ⟨fun q => Nat.lt_of_not_le (fun z => q.2.1 (by rw [hn]; exact nI_le z (by omega))), fun q => ⟨nI_pos (by omega), by rw [hn]; exact nI_ge q (by omega), nI_ge (b := 10) (by omega) (by omega)⟩⟩
    refine ev_br 3 [] ((10 : Int32) ≤ (nI i)) 60 10 ([some (.ref 26), some (.int (ln)), some (.int (still)), some (.ref 104), some (.int (nI i)), none], [], σ) rfl ?_ (fun c7 => ?_) (fun c7 => ?_)
    · trivial
    · exact absurd c7 (nI_ge (b := 10) (by omega) (by decide))
    · refine ev_blk 7 [vp_in (nI i) 10] 22 ([some (.ref 26), some (.int (ln)), some (.int (still)), some (.ref 104), some (.int (nI i)), some (.int (([0, 1, 2, 3, 4, 5, 6, 7, 8, 9] : List Int32).getD (nI i).toNatClampNeg 0))], [.int (([0, 1, 2, 3, 4, 5, 6, 7, 8, 9] : List Int32).getD (nI i).toNatClampNeg 0), .ref 1], σ) rfl ?_ ?_
      · exact vp_in_nI (by omega) (by decide)
      rw [(show ([0, 1, 2, 3, 4, 5, 6, 7, 8, 9] : List Int32).getD (nI i).toNatClampNeg 0 = nI x by rw [hic]; exact hx3)]
      refine ev_callV M_X3_isShip [.int (nI x)] [] 1 rfl rfl ln_X2_59 k_X3_isShip rfl rfl rfl rfl rfl rfl (c_isShip _ _) ?_
      refine pu_k ?_
      show xEv _ _ _ 25 ([some (.ref 26), some (.int (ln)), some (.int (still)), some (.ref 104), some (.int (nI i)), some (.int (nI x))], [.int (zi (iSh σ (nI x)))], σ)
      refine ev_br 0 [] ((zi (iSh σ (nI x))) = 0) 54 28 ([some (.ref 26), some (.int (ln)), some (.int (still)), some (.ref 104), some (.int (nI i)), some (.int (nI x))], [], σ) rfl ?_ (fun c25 => ?_) (fun c25 => ?_)
      · trivial
      · replace c25 := zi_0.mp c25
        refine ev_blk 2 [] 3 ([some (.ref 26), some (.int (ln)), some (.int (still)), some (.ref 104), some (.int ((nI i) + (1 : Int32))), some (.int (nI x))], [], σ) rfl ?_ ?_
        · trivial
        rw [nI_1]
        refine ev_drop 5 ?_
        refine key ?_
        unfold s_lnp
        have c25b : ¬ x < n := fun q => c25 (hsx.mpr q)
        simp [c25b]
      · replace c25 := zi_1.mp c25
        refine ev_br 5 [] (((still >>> ((nI x) &&& 31)) &&& (1 : Int32)) = 0) 54 37 ([some (.ref 26), some (.int (ln)), some (.int (still)), some (.ref 104), some (.int (nI i)), some (.int (nI x))], [], σ) rfl ?_ (fun c34 => ?_) (fun c34 => ?_)
        · trivial
        · refine ev_blk 2 [] 3 ([some (.ref 26), some (.int (ln)), some (.int (still)), some (.ref 104), some (.int ((nI i) + (1 : Int32))), some (.int (nI x))], [], σ) rfl ?_ ?_
          · trivial
          rw [nI_1]
          refine ev_drop 5 ?_
          refine key ?_
          unfold s_lnp
          have c34b := (b_tst (by omega)).mp c34
          simp [c34b]
        · refine ev_br 6 [vp_in (nI x) 10] (¬ ((σ 7) (nI x).toNatClampNeg) = ln) 54 51 ([some (.ref 26), some (.int (ln)), some (.int (still)), some (.ref 104), some (.int (nI i)), some (.int (nI x))], [], σ) rfl ?_ (fun c48 => ?_) (fun c48 => ?_)
          · exact vp_in_nI (by omega) (by decide)
          · rw [hxc] at c48
            refine ev_blk 2 [] 3 ([some (.ref 26), some (.int (ln)), some (.int (still)), some (.ref 104), some (.int ((nI i) + (1 : Int32))), some (.int (nI x))], [], σ) rfl ?_ ?_
            · trivial
            rw [nI_1]
            refine ev_drop 5 ?_
            refine key ?_
            unfold s_lnp
            simp [c48]
          · rw [hxc] at c48
            refine ev_blk 1 [] 53 ([some (.ref 26), some (.int (ln)), some (.int (still)), some (.ref 104), some (.int (nI i)), some (.int (nI x))], [.int (nI x)], σ) rfl ?_ ?_
            · trivial
            refine ev_iret rfl rfl rfl ⟨?_, rfl⟩
            have c34b : bt still x = true := by cases hb : bt still x with | true => rfl | false => exact absurd ((b_tst (by omega)).mpr hb) c34
            rw [hf, hdr, List.filter_cons_of_pos (by simp [s_lnp, hsx.mp c25, c34b, Classical.byContradiction c48])]
            rfl
set_option maxRecDepth 100000 in
theorem c_head104 (σ : xSg) (n : Nat) (ord : List Nat) (still ln : Int32) (hn10 : n ≤ 10) (hn : σ 1 0 = nI n) (ho : ordOk ord (fun i => ([0, 1, 2, 3, 4, 5, 6, 7, 8, 9] : List Int32).getD i 0)) : xPu M_X2_head [.ref 26, .int ln, .int still, .ref 104] σ (.int (s_hd (ord.filter (s_lnp n still (σ 7) ln)))) := by
  refine ctr_ev ok_X2_head (by decide +kernel) rfl rfl rfl ?_
  show xEv (.inl 1) M_X2_head _ 0 ([some (.ref 26), some (.int (ln)), some (.int (still)), some (.ref 104), none, none], [], σ)
  refine ev_blk 2 [] 3 ([some (.ref 26), some (.int (ln)), some (.int (still)), some (.ref 104), some (.int ((0 : Int32))), none], [], σ) rfl ?_ ?_
  · trivial
  exact c_head104_lp σ n ord still ln hn10 hn ho 10 0 rfl rfl
set_option maxRecDepth 100000 in
theorem c_head32_lp (σ : xSg) (n : Nat) (ord : List Nat) (still ln : Int32) (hn10 : n ≤ 10) (hn : σ 1 0 = nI n) (ho : ordOk ord (σ 32)) : ∀ (m i : Nat), i + m = 10 → ord.filter (s_lnp n still (σ 7) ln) = (ord.drop i).filter (s_lnp n still (σ 7) ln) → xEv (.inl 1) M_X2_head (fun r1 σ1 => r1 = some (.int (s_hd (ord.filter (s_lnp n still (σ 7) ln)))) ∧ σ1 = σ) 3 ([some (.ref 26), some (.int (ln)), some (.int (still)), some (.ref 32), some (.int (nI i)), none], [], σ) := by
  intro m
  induction m with
  | zero =>
    intro i hi hf
    refine ev_br 3 [] ((10 : Int32) ≤ (nI i)) 60 10 ([some (.ref 26), some (.int (ln)), some (.int (still)), some (.ref 32), some (.int (nI i)), none], [], σ) rfl ?_ (fun c7 => ?_) (fun c7 => ?_)
    · trivial
    · refine ev_blk 1 [] 61 ([some (.ref 26), some (.int (ln)), some (.int (still)), some (.ref 32), some (.int (nI i)), none], [.int ((-1 : Int32))], σ) rfl ?_ ?_
      · trivial
      exact ev_iret rfl rfl rfl ⟨by rw [hf, List.drop_eq_nil_of_le (by rw [ho.1]; omega)]; rfl, rfl⟩
    · exact absurd (show (10 : Int32) ≤ nI i by rw [show i = 10 by omega]; decide) c7
  | succ m ih =>
    intro i hi hf
    obtain ⟨x, hx1, hx2, hx3⟩ := ho.2.2 i (by omega)
    have hic : (nI i).toNatClampNeg = i := nI_clamp (by omega)
    have hxc : (nI x).toNatClampNeg = x := nI_clamp (by omega)
    have hdr : ord.drop i = x :: ord.drop (i + 1) := by
      obtain ⟨hl, he⟩ := List.getElem?_eq_some_iff.mp hx1
      rw [List.drop_eq_getElem_cons hl, he]
    have key : s_lnp n still (σ 7) ln x = false → xEv (.inl 1) M_X2_head (fun r1 σ1 => r1 = some (.int (s_hd (ord.filter (s_lnp n still (σ 7) ln)))) ∧ σ1 = σ) 3 ([some (.ref 26), some (.int (ln)), some (.int (still)), some (.ref 32), some (.int (nI (i + 1))), none], [], σ) := fun q => ih (i + 1) (by omega) (by rw [hf, hdr, List.filter_cons_of_neg (by rw [q]; decide)])
    have hsx : iSh σ (nI x) ↔ x < n := ⟨fun q => Nat.lt_of_not_le (fun z => q.2.1 (by rw [hn]; exact nI_le z (by omega))), fun q => ⟨nI_pos (by omega), by rw [hn]; exact nI_ge q (by omega), nI_ge (b := 10) (by omega) (by omega)⟩⟩
    refine ev_br 3 [] ((10 : Int32) ≤ (nI i)) 60 10 ([some (.ref 26), some (.int (ln)), some (.int (still)), some (.ref 32), some (.int (nI i)), none], [], σ) rfl ?_ (fun c7 => ?_) (fun c7 => ?_)
    · trivial
    · exact absurd c7 (nI_ge (b := 10) (by omega) (by decide))
    · refine ev_blk 7 [vp_in (nI i) 10] 22 ([some (.ref 26), some (.int (ln)), some (.int (still)), some (.ref 32), some (.int (nI i)), some (.int ((σ 32) (nI i).toNatClampNeg))], [.int ((σ 32) (nI i).toNatClampNeg), .ref 1], σ) rfl ?_ ?_
      · exact vp_in_nI (by omega) (by decide)
      rw [(show (σ 32) (nI i).toNatClampNeg = nI x by rw [hic]; exact hx3)]
      refine ev_callV M_X3_isShip [.int (nI x)] [] 1 rfl rfl ln_X2_59 k_X3_isShip rfl rfl rfl rfl rfl rfl (c_isShip _ _) ?_
      refine pu_k ?_
      show xEv _ _ _ 25 ([some (.ref 26), some (.int (ln)), some (.int (still)), some (.ref 32), some (.int (nI i)), some (.int (nI x))], [.int (zi (iSh σ (nI x)))], σ)
      refine ev_br 0 [] ((zi (iSh σ (nI x))) = 0) 54 28 ([some (.ref 26), some (.int (ln)), some (.int (still)), some (.ref 32), some (.int (nI i)), some (.int (nI x))], [], σ) rfl ?_ (fun c25 => ?_) (fun c25 => ?_)
      · trivial
      · replace c25 := zi_0.mp c25
        refine ev_blk 2 [] 3 ([some (.ref 26), some (.int (ln)), some (.int (still)), some (.ref 32), some (.int ((nI i) + (1 : Int32))), some (.int (nI x))], [], σ) rfl ?_ ?_
        · trivial
        rw [nI_1]
        refine ev_drop 5 ?_
        refine key ?_
        unfold s_lnp
        have c25b : ¬ x < n := fun q => c25 (hsx.mpr q)
        simp [c25b]
      · replace c25 := zi_1.mp c25
        refine ev_br 5 [] (((still >>> ((nI x) &&& 31)) &&& (1 : Int32)) = 0) 54 37 ([some (.ref 26), some (.int (ln)), some (.int (still)), some (.ref 32), some (.int (nI i)), some (.int (nI x))], [], σ) rfl ?_ (fun c34 => ?_) (fun c34 => ?_)
        · trivial
        · refine ev_blk 2 [] 3 ([some (.ref 26), some (.int (ln)), some (.int (still)), some (.ref 32), some (.int ((nI i) + (1 : Int32))), some (.int (nI x))], [], σ) rfl ?_ ?_
          · trivial
          rw [nI_1]
          refine ev_drop 5 ?_
          refine key ?_
          unfold s_lnp
          have c34b := (b_tst (by omega)).mp c34
          simp [c34b]
        · refine ev_br 6 [vp_in (nI x) 10] (¬ ((σ 7) (nI x).toNatClampNeg) = ln) 54 51 ([some (.ref 26), some (.int (ln)), some (.int (still)), some (.ref 32), some (.int (nI i)), some (.int (nI x))], [], σ) rfl ?_ (fun c48 => ?_) (fun c48 => ?_)
          · exact vp_in_nI (by omega) (by decide)
          · rw [hxc] at c48
            refine ev_blk 2 [] 3 ([some (.ref 26), some (.int (ln)), some (.int (still)), some (.ref 32), some (.int ((nI i) + (1 : Int32))), some (.int (nI x))], [], σ) rfl ?_ ?_
            · trivial
            rw [nI_1]
            refine ev_drop 5 ?_
            refine key ?_
            unfold s_lnp
            simp [c48]
          · rw [hxc] at c48
            refine ev_blk 1 [] 53 ([some (.ref 26), some (.int (ln)), some (.int (still)), some (.ref 32), some (.int (nI i)), some (.int (nI x))], [.int (nI x)], σ) rfl ?_ ?_
            · trivial
            refine ev_iret rfl rfl rfl ⟨?_, rfl⟩
            have c34b : bt still x = true := by cases hb : bt still x with | true => rfl | false => exact absurd ((b_tst (by omega)).mpr hb) c34
            rw [hf, hdr, List.filter_cons_of_pos (by simp [s_lnp, hsx.mp c25, c34b, Classical.byContradiction c48])]
            rfl
set_option maxRecDepth 100000 in
theorem c_head32 (σ : xSg) (n : Nat) (ord : List Nat) (still ln : Int32) (hn10 : n ≤ 10) (hn : σ 1 0 = nI n) (ho : ordOk ord (σ 32)) : xPu M_X2_head [.ref 26, .int ln, .int still, .ref 32] σ (.int (s_hd (ord.filter (s_lnp n still (σ 7) ln)))) := by
  refine ctr_ev ok_X2_head (by decide +kernel) rfl rfl rfl ?_
  show xEv (.inl 1) M_X2_head _ 0 ([some (.ref 26), some (.int (ln)), some (.int (still)), some (.ref 32), none, none], [], σ)
  refine ev_blk 2 [] 3 ([some (.ref 26), some (.int (ln)), some (.int (still)), some (.ref 32), some (.int ((0 : Int32))), none], [], σ) rfl ?_ ?_
  · trivial
  exact c_head32_lp σ n ord still ln hn10 hn ho 10 0 rfl rfl
set_option maxRecDepth 100000 in
theorem c_sec (σ : xSg) (n x y : Nat) (la : Int32) (hn10 : n ≤ 10) (hn : σ 1 0 = nI n) (hx : x < n) (hy : y < n) : xPu M_X2_isSecondTaken [.ref 26, .int (nI x), .int (nI y), .int la] σ (.int (zi (s_sec (atC σ) x y (decide (la = 0)) = true))) := by
  have hxc : (nI x).toNatClampNeg = x := nI_clamp (by omega)
  have hyc : (nI y).toNatClampNeg = y := nI_clamp (by omega)
  have hsh : ∀ z, z < n → iSh σ (nI z) := fun z hz => ⟨nI_pos (by omega), by rw [hn]; exact nI_ge hz (by omega), nI_ge (b := 10) (by omega) (by omega)⟩
  refine ctr_ev ok_X2_isSecondTaken (by decide +kernel) rfl rfl rfl ?_
  show xEv (.inl 2) M_X2_isSecondTaken _ 0 ([some (.ref 26), some (.int (nI x)), some (.int (nI y)), some (.int (la))], [], σ)
  refine ev_blk 3 [] 5 ([some (.ref 26), some (.int (nI x)), some (.int (nI y)), some (.int (la))], [.int (nI x), .ref 1], σ) rfl ?_ ?_
  · trivial
  refine ev_callV M_X3_isShip [.int (nI x)] [] 1 rfl rfl ln_X2_59 k_X3_isShip rfl rfl rfl rfl rfl rfl (c_isShip _ _) ?_
  refine pu_k ?_
  show xEv _ _ _ 8 ([some (.ref 26), some (.int (nI x)), some (.int (nI y)), some (.int (la))], [.int (zi (iSh σ (nI x)))], σ)
  refine ev_br 0 [] ((zi (iSh σ (nI x))) = 0) 22 11 ([some (.ref 26), some (.int (nI x)), some (.int (nI y)), some (.int (la))], [], σ) rfl ?_ (fun c8 => ?_) (fun c8 => ?_)
  · trivial
  · exact absurd (hsh x hx) (zi_0.mp c8)
  · replace c8 := zi_1.mp c8
    refine ev_blk 3 [] 16 ([some (.ref 26), some (.int (nI x)), some (.int (nI y)), some (.int (la))], [.int (nI y), .ref 1], σ) rfl ?_ ?_
    · trivial
    refine ev_callV M_X3_isShip [.int (nI y)] [] 1 rfl rfl ln_X2_59 k_X3_isShip rfl rfl rfl rfl rfl rfl (c_isShip _ _) ?_
    refine pu_k ?_
    show xEv _ _ _ 19 ([some (.ref 26), some (.int (nI x)), some (.int (nI y)), some (.int (la))], [.int (zi (iSh σ (nI y)))], σ)
    refine ev_br 0 [] (¬ (zi (iSh σ (nI y))) = 0) 24 22 ([some (.ref 26), some (.int (nI x)), some (.int (nI y)), some (.int (la))], [], σ) rfl ?_ (fun c19 => ?_) (fun c19 => ?_)
    · trivial
    · replace c19 := zi_1.mp c19
      refine ev_sw 5 [vp_in ((4 : Int32)) 5] ((σ 9) 4) [((1 : Int32), 64), ((2 : Int32), 89), ((3 : Int32), 114), ((4 : Int32), 141)] 168 ([some (.ref 26), some (.int (nI x)), some (.int (nI y)), some (.int (la))], [], σ) rfl ?_ ?_
      · exact vp_in_nI (n := 4) (by decide) (by decide)
      refine ⟨fun c33_1 => ?_, fun c33_1 => ?_⟩
      · refine ev_blk 3 [] 69 ([some (.ref 26), some (.int (nI x)), some (.int (nI y)), some (.int (la))], [.int (nI y), .ref 1], σ) rfl ?_ ?_
        · trivial
        refine ev_callV M_X3_rank [.int (nI y)] [] 1 rfl rfl ln_X2_99 k_X3_rank rfl rfl rfl rfl rfl rfl (c_rank _ _ ⟨nI_pos (by omega), nI_lt (b := 10) (by omega) (by omega)⟩) ?_
        refine pu_k ?_
        show xEv _ _ _ 72 ([some (.ref 26), some (.int (nI x)), some (.int (nI y)), some (.int (la))], [.int (s_rank (σ 2) (σ 4) (nI y).toNatClampNeg)], σ)
        rw [hyc]
        refine ev_blk 3 [] 77 ([some (.ref 26), some (.int (nI x)), some (.int (nI y)), some (.int (la))], [.int (nI x), .ref 1, .int (s_rank (σ 2) (σ 4) y)], σ) rfl ?_ ?_
        · trivial
        refine ev_callV M_X3_rank [.int (nI x)] [.int (s_rank (σ 2) (σ 4) y)] 1 rfl rfl ln_X2_99 k_X3_rank rfl rfl rfl rfl rfl rfl (c_rank _ _ ⟨nI_pos (by omega), nI_lt (b := 10) (by omega) (by omega)⟩) ?_
        refine pu_k ?_
        show xEv _ _ _ 80 ([some (.ref 26), some (.int (nI x)), some (.int (nI y)), some (.int (la))], [.int (s_rank (σ 2) (σ 4) (nI x).toNatClampNeg), .int (s_rank (σ 2) (σ 4) y)], σ)
        rw [hxc]
        refine ev_br 0 [] ((s_rank (σ 2) (σ 4) y) ≤ (s_rank (σ 2) (σ 4) x)) 87 83 ([some (.ref 26), some (.int (nI x)), some (.int (nI y)), some (.int (la))], [], σ) rfl ?_ (fun c80 => ?_) (fun c80 => ?_)
        · trivial
        · refine ev_blk 1 [] 88 ([some (.ref 26), some (.int (nI x)), some (.int (nI y)), some (.int (la))], [.int ((0 : Int32))], σ) rfl ?_ ?_
          · trivial
          exact ev_iret rfl rfl nar0 (pu_f (by rw [s_sec_def]; simp_all))
        · refine ev_blk 2 [] 88 ([some (.ref 26), some (.int (nI x)), some (.int (nI y)), some (.int (la))], [.int ((1 : Int32))], σ) rfl ?_ ?_
          · trivial
          exact ev_iret rfl rfl nar1 (pu_t (by rw [s_sec_def]; simp_all))
      refine ⟨fun c33_2 => ?_, fun c33_2 => ?_⟩
      · refine ev_blk 3 [] 94 ([some (.ref 26), some (.int (nI x)), some (.int (nI y)), some (.int (la))], [.int (nI y), .ref 1], σ) rfl ?_ ?_
        · trivial
        refine ev_callV M_X3_span [.int (nI y)] [] 1 rfl rfl ln_X2_66 k_X3_span rfl rfl rfl rfl rfl rfl (c_span _ _ ⟨nI_pos (by omega), nI_lt (b := 10) (by omega) (by omega)⟩) ?_
        refine pu_k ?_
        show xEv _ _ _ 97 ([some (.ref 26), some (.int (nI x)), some (.int (nI y)), some (.int (la))], [.int (s_span (σ 2) (σ 3) (nI y).toNatClampNeg)], σ)
        rw [hyc]
        refine ev_blk 3 [] 102 ([some (.ref 26), some (.int (nI x)), some (.int (nI y)), some (.int (la))], [.int (nI x), .ref 1, .int (s_span (σ 2) (σ 3) y)], σ) rfl ?_ ?_
        · trivial
        refine ev_callV M_X3_span [.int (nI x)] [.int (s_span (σ 2) (σ 3) y)] 1 rfl rfl ln_X2_66 k_X3_span rfl rfl rfl rfl rfl rfl (c_span _ _ ⟨nI_pos (by omega), nI_lt (b := 10) (by omega) (by omega)⟩) ?_
        refine pu_k ?_
        show xEv _ _ _ 105 ([some (.ref 26), some (.int (nI x)), some (.int (nI y)), some (.int (la))], [.int (s_span (σ 2) (σ 3) (nI x).toNatClampNeg), .int (s_span (σ 2) (σ 3) y)], σ)
        rw [hxc]
        refine ev_br 0 [] ((s_span (σ 2) (σ 3) x) ≤ (s_span (σ 2) (σ 3) y)) 112 108 ([some (.ref 26), some (.int (nI x)), some (.int (nI y)), some (.int (la))], [], σ) rfl ?_ (fun c105 => ?_) (fun c105 => ?_)
        · trivial
        · refine ev_blk 1 [] 113 ([some (.ref 26), some (.int (nI x)), some (.int (nI y)), some (.int (la))], [.int ((0 : Int32))], σ) rfl ?_ ?_
          · trivial
          exact ev_iret rfl rfl nar0 (pu_f (by rw [s_sec_def]; simp_all))
        · refine ev_blk 2 [] 113 ([some (.ref 26), some (.int (nI x)), some (.int (nI y)), some (.int (la))], [.int ((1 : Int32))], σ) rfl ?_ ?_
          · trivial
          exact ev_iret rfl rfl nar1 (pu_t (by rw [s_sec_def]; simp_all))
      refine ⟨fun c33_3 => ?_, fun c33_3 => ?_⟩
      · refine ev_br 10 [vp_in (nI y) 10, vp_in (nI x) 10] (((σ 6) (nI x).toNatClampNeg) ≤ ((σ 6) (nI y).toNatClampNeg)) 139 135 ([some (.ref 26), some (.int (nI x)), some (.int (nI y)), some (.int (la))], [], σ) rfl ?_ (fun c132 => ?_) (fun c132 => ?_)
        · exact ⟨vp_in_nI (by omega) (by decide), vp_in_nI (by omega) (by decide)⟩
        · rw [hxc] at c132
          rw [hyc] at c132
          refine ev_blk 1 [] 140 ([some (.ref 26), some (.int (nI x)), some (.int (nI y)), some (.int (la))], [.int ((0 : Int32))], σ) rfl ?_ ?_
          · trivial
          exact ev_iret rfl rfl nar0 (pu_f (by rw [s_sec_def]; simp_all))
        · rw [hxc] at c132
          rw [hyc] at c132
          refine ev_blk 2 [] 140 ([some (.ref 26), some (.int (nI x)), some (.int (nI y)), some (.int (la))], [.int ((1 : Int32))], σ) rfl ?_ ?_
          · trivial
          exact ev_iret rfl rfl nar1 (pu_t (by rw [s_sec_def]; simp_all))
      refine ⟨fun c33_4 => ?_, fun c33_4 => ?_⟩
      · refine ev_br 10 [vp_in (nI y) 10, vp_in (nI x) 10] (((σ 5) (nI y).toNatClampNeg) ≤ ((σ 5) (nI x).toNatClampNeg)) 166 162 ([some (.ref 26), some (.int (nI x)), some (.int (nI y)), some (.int (la))], [], σ) rfl ?_ (fun c159 => ?_) (fun c159 => ?_)
        · exact ⟨vp_in_nI (by omega) (by decide), vp_in_nI (by omega) (by decide)⟩
        · rw [hxc] at c159
          rw [hyc] at c159
          refine ev_blk 1 [] 167 ([some (.ref 26), some (.int (nI x)), some (.int (nI y)), some (.int (la))], [.int ((0 : Int32))], σ) rfl ?_ ?_
          · trivial
          exact ev_iret rfl rfl nar0 (pu_f (by rw [s_sec_def]; simp_all))
        · rw [hxc] at c159
          rw [hyc] at c159
          refine ev_blk 2 [] 167 ([some (.ref 26), some (.int (nI x)), some (.int (nI y)), some (.int (la))], [.int ((1 : Int32))], σ) rfl ?_ ?_
          · trivial
          exact ev_iret rfl rfl nar1 (pu_t (by rw [s_sec_def]; simp_all))
      show xEv _ _ _ 168 ([some (.ref 26), some (.int (nI x)), some (.int (nI y)), some (.int (la))], [], σ)
      refine ev_br 1 [] (¬ la = 0) 176 172 ([some (.ref 26), some (.int (nI x)), some (.int (nI y)), some (.int (la))], [], σ) rfl ?_ (fun c169 => ?_) (fun c169 => ?_)
      · trivial
      · refine ev_blk 1 [] 177 ([some (.ref 26), some (.int (nI x)), some (.int (nI y)), some (.int (la))], [.int ((0 : Int32))], σ) rfl ?_ ?_
        · trivial
        exact ev_iret rfl rfl nar0 (pu_f (by rw [s_sec_def]; simp_all))
      · refine ev_blk 2 [] 177 ([some (.ref 26), some (.int (nI x)), some (.int (nI y)), some (.int (la))], [.int ((1 : Int32))], σ) rfl ?_ ?_
        · trivial
        exact ev_iret rfl rfl nar1 (pu_t (by rw [s_sec_def]; simp_all))
    · exact absurd (hsh y hy) (zi_n.mp c19)
end
section
theorem s_opn_mem {o : Bool} {L : List Nat} {x : Nat} (h : x ∈ s_opn o L) : x ∈ L := by
  unfold s_opn at h
  split at h
  · exact h
  · cases h
theorem s_hd_nil {L : List Nat} (h : ∀ x ∈ L, x < 10) : s_hd L = -1 ↔ L = [] := by
  cases L with
  | nil => exact ⟨fun _ => rfl, fun _ => rfl⟩
  | cons x t => exact ⟨fun q => absurd q (nI_m1 (by have := h x List.mem_cons_self; omega)), fun q => by cases q⟩
theorem s_pk_0 {a : sAt} {lt : Bool} {A B : List Nat} {x : Nat} {t : List Nat} (hA : A = x :: t) (hB : B = []) : s_pick a lt A B = some (x, false) := by subst hA; subst hB; rfl
theorem s_pk_1 {a : sAt} {lt : Bool} {A B : List Nat} {y : Nat} {t : List Nat} (hA : A = []) (hB : B = y :: t) : s_pick a lt A B = some (y, true) := by subst hA; subst hB; rfl
theorem s_pk_n {a : sAt} {lt : Bool} {A B : List Nat} (hA : A = []) (hB : B = []) : s_pick a lt A B = none := by subst hA; subst hB; rfl
theorem s_pk_2 {a : sAt} {lt : Bool} {A B : List Nat} {x y : Nat} {t u : List Nat} (hA : A = x :: t) (hB : B = y :: u) : s_pick a lt A B = if s_sec a x y lt = true then some (y, true) else some (x, false) := by subst hA; subst hB; rfl
theorem s_st_n {a : sAt} {A B : List Nat} {o0 o1 lt : Bool} {F : sFl} (h : s_pick a lt (s_opn o0 A) (s_opn o1 B) = none) : s_step a (A, B, o0, o1, lt, F) = none := by unfold s_step; dsimp only; rw [h]
theorem s_st_0 {a : sAt} {A B : List Nat} {o0 o1 lt : Bool} {F F' : sFl} {x : Nat} (h : s_pick a lt (s_opn o0 A) (s_opn o1 B) = some (x, false)) (hF : s_in a x F = some F') : s_step a (A, B, o0, o1, lt, F) = some (A.tail, B, o0, o1, true, F') := by unfold s_step; dsimp only; rw [h]; dsimp only; rw [hF]
theorem s_st_0n {a : sAt} {A B : List Nat} {o0 o1 lt : Bool} {F : sFl} {x : Nat} (h : s_pick a lt (s_opn o0 A) (s_opn o1 B) = some (x, false)) (hF : s_in a x F = none) : s_step a (A, B, o0, o1, lt, F) = some (A, B, false, o1, lt, F) := by unfold s_step; dsimp only; rw [h]; dsimp only; rw [hF]
theorem s_st_1 {a : sAt} {A B : List Nat} {o0 o1 lt : Bool} {F F' : sFl} {x : Nat} (h : s_pick a lt (s_opn o0 A) (s_opn o1 B) = some (x, true)) (hF : s_in a x F = some F') : s_step a (A, B, o0, o1, lt, F) = some (A, B.tail, o0, o1, false, F') := by unfold s_step; dsimp only; rw [h]; dsimp only; rw [hF]
theorem s_st_1n {a : sAt} {A B : List Nat} {o0 o1 lt : Bool} {F : sFl} {x : Nat} (h : s_pick a lt (s_opn o0 A) (s_opn o1 B) = some (x, true)) (hF : s_in a x F = none) : s_step a (A, B, o0, o1, lt, F) = some (A, B, o0, false, lt, F) := by unfold s_step; dsimp only; rw [h]; dsimp only; rw [hF]
theorem s_in_w {a : sAt} {x : Nat} {F F' : sFl} (h : s_in a x F = some F') : ∃ r p, F'.2 = F.2 ++ [(x, r, p)] := by
  unfold s_in at h
  split at h
  · cases h
  · split at h
    next r p _ => cases h; exact ⟨r, p, rfl⟩
    next => cases h
theorem fl_clr {ord : List Nat} {p p' : Nat → Bool} {x : Nat} {t : List Nat} (hnd : ord.Nodup) (h : ord.filter p = x :: t) (hp : ∀ y, p' y = (p y && !decide (y = x))) : ord.filter p' = t := by
  have e : ord.filter p' = (ord.filter p).filter (fun y => !decide (y = x)) := by
    rw [List.filter_filter]
    exact List.filter_congr (fun y _ => by rw [hp y, Bool.and_comm])
  have hnd2 : (x :: t).Nodup := by rw [← h]; exact hnd.filter _
  rw [e, h, List.filter_cons_of_neg (by simp), List.filter_eq_self.mpr]
  intro y hy
  have : y ≠ x := fun q => (List.nodup_cons.mp hnd2).1 (q ▸ hy)
  simp [this]
theorem fl_len {ord : List Nat} {p q : Nat → Bool} (h : ∀ x, p x = true → q x = true → False) : (ord.filter p).length + (ord.filter q).length ≤ ord.length := by
  induction ord with
  | nil => simp
  | cons x l ih =>
    by_cases hp : p x = true
    · have hq : ¬ q x = true := fun z => h x hp z
      rw [List.filter_cons_of_pos hp, List.filter_cons_of_neg hq]
      simp only [List.length_cons]
      omega
    · rw [List.filter_cons_of_neg hp]
      by_cases hq : q x = true
      · rw [List.filter_cons_of_pos hq]
        simp only [List.length_cons]
        omega
      · rw [List.filter_cons_of_neg hq]
        simp only [List.length_cons]
        omega
theorem lnp_lt {n : Nat} {w : Int32} {La : Nat → Int32} {l : Int32} {ord : List Nat} {x : Nat} (h : x ∈ ord.filter (s_lnp n w La l)) : x < n ∧ bt w x = true ∧ La x = l := by
  have := (List.mem_filter.mp h).2
  simpa [s_lnp, and_assoc] using this

set_option maxRecDepth 100000 in
theorem c_next104 (σ : xSg) (n : Nat) (ord : List Nat) (still la : Int32) (o0 o1 : Bool) (hn10 : n ≤ 10) (hn : σ 1 0 = nI n) (ho : ordOk ord (fun i => ([0, 1, 2, 3, 4, 5, 6, 7, 8, 9] : List Int32).getD i 0)) : xPu M_X2_nextHead [.ref 26, .int (still), .int (s_ov o0 o1), .ref 104, .int (la)] σ (.int (s_hp (s_pick (atC σ) (decide (la = 0)) (s_opn o0 (ord.filter (s_lnp n still (σ 7) 0))) (s_opn o1 (ord.filter (s_lnp n still (σ 7) 1)))))) := by
  have hlt : ∀ ln, ∀ x ∈ ord.filter (s_lnp n still (σ 7) ln), x < 10 := fun ln x hx => by have := (lnp_lt hx).1; omega
  refine ctr_ev ok_X2_nextHead (by decide +kernel) rfl rfl rfl ?_
  show xEv (.inl 3) M_X2_nextHead _ 0 ([some (.ref 26), some (.int (still)), some (.int (s_ov o0 o1)), some (.ref 104), some (.int (la)), none, none], [], σ)
  refine ev_br 3 [] (((s_ov o0 o1) &&& (1 : Int32)) = 0) 16 6 ([some (.ref 26), some (.int (still)), some (.int (s_ov o0 o1)), some (.ref 104), some (.int (la)), none, none], [], σ) rfl ?_ (fun c3 => ?_) (fun c3 => ?_)
  · trivial
  · refine ev_br 5 [] (((s_ov o0 o1) &&& (2 : Int32)) = 0) 35 25 ([some (.ref 26), some (.int (still)), some (.int (s_ov o0 o1)), some (.ref 104), some (.int (la)), some (.int ((-1 : Int32))), none], [], σ) rfl ?_ (fun c22 => ?_) (fun c22 => ?_)
    · trivial
    · refine ev_br 4 [] ((-1 : Int32) = (-1 : Int32)) 50 44 ([some (.ref 26), some (.int (still)), some (.int (s_ov o0 o1)), some (.ref 104), some (.int (la)), some (.int ((-1 : Int32))), some (.int ((-1 : Int32)))], [], σ) rfl ?_ (fun c41 => ?_) (fun c41 => ?_)
      · trivial
      · refine ev_br 2 [] (¬ (-1 : Int32) = (-1 : Int32)) 61 56 ([some (.ref 26), some (.int (still)), some (.int (s_ov o0 o1)), some (.ref 104), some (.int (la)), some (.int ((-1 : Int32))), some (.int ((-1 : Int32)))], [], σ) rfl ?_ (fun c53 => ?_) (fun c53 => ?_)
        · trivial
        · exact absurd rfl c53
        · refine ev_blk 2 [] 63 ([some (.ref 26), some (.int (still)), some (.int (s_ov o0 o1)), some (.ref 104), some (.int (la)), some (.int ((-1 : Int32))), some (.int ((-1 : Int32)))], [.int ((-1 : Int32))], σ) rfl ?_ ?_
          · trivial
          have hA : (s_opn o0 (ord.filter (s_lnp n still (σ 7) 0))) = [] := by rw [(s_ov_1 o0 o1).mp c3]; rfl
          have hB : (s_opn o1 (ord.filter (s_lnp n still (σ 7) 1))) = [] := by rw [(s_ov_2 o0 o1).mp c22]; rfl
          exact ev_iret rfl rfl rfl ⟨by rw [s_pk_n hA hB]; rfl, rfl⟩
      · exact absurd rfl c41
    · refine ev_blk 4 [] 29 ([some (.ref 26), some (.int (still)), some (.int (s_ov o0 o1)), some (.ref 104), some (.int (la)), some (.int ((-1 : Int32))), none], [.ref 104, .int (still), .int ((1 : Int32)), .ref 26], σ) rfl ?_ ?_
      · trivial
      refine ev_callV M_X2_head [.int ((1 : Int32)), .int (still), .ref 104] [] 26 rfl rfl ln_X2_91 k_X2_head rfl rfl rfl rfl rfl rfl (c_head104 σ n ord still _ hn10 hn ho) ?_
      refine pu_k ?_
      show xEv _ _ _ 32 ([some (.ref 26), some (.int (still)), some (.int (s_ov o0 o1)), some (.ref 104), some (.int (la)), some (.int ((-1 : Int32))), none], [.int (s_hd (ord.filter (s_lnp n still (σ 7) (1 : Int32))))], σ)
      refine ev_br 4 [] ((-1 : Int32) = (-1 : Int32)) 50 44 ([some (.ref 26), some (.int (still)), some (.int (s_ov o0 o1)), some (.ref 104), some (.int (la)), some (.int ((-1 : Int32))), some (.int (s_hd (ord.filter (s_lnp n still (σ 7) (1 : Int32)))))], [], σ) rfl ?_ (fun c41 => ?_) (fun c41 => ?_)
      · trivial
      · refine ev_br 2 [] (¬ (-1 : Int32) = (-1 : Int32)) 61 56 ([some (.ref 26), some (.int (still)), some (.int (s_ov o0 o1)), some (.ref 104), some (.int (la)), some (.int ((-1 : Int32))), some (.int (s_hd (ord.filter (s_lnp n still (σ 7) (1 : Int32)))))], [], σ) rfl ?_ (fun c53 => ?_) (fun c53 => ?_)
        · trivial
        · exact absurd rfl c53
        · refine ev_blk 2 [] 63 ([some (.ref 26), some (.int (still)), some (.int (s_ov o0 o1)), some (.ref 104), some (.int (la)), some (.int ((-1 : Int32))), some (.int (s_hd (ord.filter (s_lnp n still (σ 7) (1 : Int32)))))], [.int (s_hd (ord.filter (s_lnp n still (σ 7) (1 : Int32))))], σ) rfl ?_ ?_
          · trivial
          have hA : (s_opn o0 (ord.filter (s_lnp n still (σ 7) 0))) = [] := by rw [(s_ov_1 o0 o1).mp c3]; rfl
          have ho1 : o1 = true := by cases h : o1 with | true => rfl | false => exact absurd ((s_ov_2 o0 o1).mpr h) c22
          have eB : (s_opn o1 (ord.filter (s_lnp n still (σ 7) 1))) = ord.filter (s_lnp n still (σ 7) 1) := by rw [ho1]; rfl
          refine ev_iret rfl rfl rfl ⟨?_, rfl⟩
          cases hB : ord.filter (s_lnp n still (σ 7) 1) with
          | nil => rw [s_pk_n hA (show s_opn o1 [] = [] by rw [ho1]; rfl)]; rfl
          | cons y u => rw [s_pk_1 hA (show s_opn o1 (y :: u) = y :: u by rw [ho1]; rfl)]; rfl
      · exact absurd rfl c41
  · refine ev_blk 4 [] 10 ([some (.ref 26), some (.int (still)), some (.int (s_ov o0 o1)), some (.ref 104), some (.int (la)), none, none], [.ref 104, .int (still), .int ((0 : Int32)), .ref 26], σ) rfl ?_ ?_
    · trivial
    refine ev_callV M_X2_head [.int ((0 : Int32)), .int (still), .ref 104] [] 26 rfl rfl ln_X2_91 k_X2_head rfl rfl rfl rfl rfl rfl (c_head104 σ n ord still _ hn10 hn ho) ?_
    refine pu_k ?_
    show xEv _ _ _ 13 ([some (.ref 26), some (.int (still)), some (.int (s_ov o0 o1)), some (.ref 104), some (.int (la)), none, none], [.int (s_hd (ord.filter (s_lnp n still (σ 7) (0 : Int32))))], σ)
    refine ev_br 5 [] (((s_ov o0 o1) &&& (2 : Int32)) = 0) 35 25 ([some (.ref 26), some (.int (still)), some (.int (s_ov o0 o1)), some (.ref 104), some (.int (la)), some (.int (s_hd (ord.filter (s_lnp n still (σ 7) (0 : Int32))))), none], [], σ) rfl ?_ (fun c22 => ?_) (fun c22 => ?_)
    · trivial
    · refine ev_br 4 [] ((s_hd (ord.filter (s_lnp n still (σ 7) (0 : Int32)))) = (-1 : Int32)) 50 44 ([some (.ref 26), some (.int (still)), some (.int (s_ov o0 o1)), some (.ref 104), some (.int (la)), some (.int (s_hd (ord.filter (s_lnp n still (σ 7) (0 : Int32))))), some (.int ((-1 : Int32)))], [], σ) rfl ?_ (fun c41 => ?_) (fun c41 => ?_)
      · trivial
      · refine ev_br 2 [] (¬ (s_hd (ord.filter (s_lnp n still (σ 7) (0 : Int32)))) = (-1 : Int32)) 61 56 ([some (.ref 26), some (.int (still)), some (.int (s_ov o0 o1)), some (.ref 104), some (.int (la)), some (.int (s_hd (ord.filter (s_lnp n still (σ 7) (0 : Int32))))), some (.int ((-1 : Int32)))], [], σ) rfl ?_ (fun c53 => ?_) (fun c53 => ?_)
        · trivial
        · exact absurd c41 c53
        · refine ev_blk 2 [] 63 ([some (.ref 26), some (.int (still)), some (.int (s_ov o0 o1)), some (.ref 104), some (.int (la)), some (.int (s_hd (ord.filter (s_lnp n still (σ 7) (0 : Int32))))), some (.int ((-1 : Int32)))], [.int ((-1 : Int32))], σ) rfl ?_ ?_
          · trivial
          have ho0 : o0 = true := by cases h : o0 with | true => rfl | false => exact absurd ((s_ov_1 o0 o1).mpr h) c3
          have eA : (s_opn o0 (ord.filter (s_lnp n still (σ 7) 0))) = ord.filter (s_lnp n still (σ 7) 0) := by rw [ho0]; rfl
          have hB : (s_opn o1 (ord.filter (s_lnp n still (σ 7) 1))) = [] := by rw [(s_ov_2 o0 o1).mp c22]; rfl
          have hA : (s_opn o0 (ord.filter (s_lnp n still (σ 7) 0))) = [] := by rw [eA]; exact (s_hd_nil (hlt 0)).mp c41
          exact ev_iret rfl rfl rfl ⟨by rw [s_pk_n hA hB]; rfl, rfl⟩
      · refine ev_br 2 [] (¬ (-1 : Int32) = (-1 : Int32)) 64 50 ([some (.ref 26), some (.int (still)), some (.int (s_ov o0 o1)), some (.ref 104), some (.int (la)), some (.int (s_hd (ord.filter (s_lnp n still (σ 7) (0 : Int32))))), some (.int ((-1 : Int32)))], [], σ) rfl ?_ (fun c47 => ?_) (fun c47 => ?_)
        · trivial
        · exact absurd rfl c47
        · refine ev_br 2 [] (¬ (s_hd (ord.filter (s_lnp n still (σ 7) (0 : Int32)))) = (-1 : Int32)) 61 56 ([some (.ref 26), some (.int (still)), some (.int (s_ov o0 o1)), some (.ref 104), some (.int (la)), some (.int (s_hd (ord.filter (s_lnp n still (σ 7) (0 : Int32))))), some (.int ((-1 : Int32)))], [], σ) rfl ?_ (fun c53 => ?_) (fun c53 => ?_)
          · trivial
          · refine ev_blk 1 [] 63 ([some (.ref 26), some (.int (still)), some (.int (s_ov o0 o1)), some (.ref 104), some (.int (la)), some (.int (s_hd (ord.filter (s_lnp n still (σ 7) (0 : Int32))))), some (.int ((-1 : Int32)))], [.int (s_hd (ord.filter (s_lnp n still (σ 7) (0 : Int32))))], σ) rfl ?_ ?_
            · trivial
            have ho0 : o0 = true := by cases h : o0 with | true => rfl | false => exact absurd ((s_ov_1 o0 o1).mpr h) c3
            have eA : (s_opn o0 (ord.filter (s_lnp n still (σ 7) 0))) = ord.filter (s_lnp n still (σ 7) 0) := by rw [ho0]; rfl
            have hB : (s_opn o1 (ord.filter (s_lnp n still (σ 7) 1))) = [] := by rw [(s_ov_2 o0 o1).mp c22]; rfl
            have hA : (s_opn o0 (ord.filter (s_lnp n still (σ 7) 0))) ≠ [] := by rw [eA]; exact fun q => c41 ((s_hd_nil (hlt 0)).mpr q)
            refine ev_iret rfl rfl rfl ⟨?_, rfl⟩
            cases hA2 : ord.filter (s_lnp n still (σ 7) 0) with
            | nil => exact absurd (eA.trans hA2) hA
            | cons x t => rw [s_pk_0 (show s_opn o0 (x :: t) = x :: t by rw [ho0]; rfl) hB]; rfl
          · exact absurd (Classical.byContradiction c53) c41
    · refine ev_blk 4 [] 29 ([some (.ref 26), some (.int (still)), some (.int (s_ov o0 o1)), some (.ref 104), some (.int (la)), some (.int (s_hd (ord.filter (s_lnp n still (σ 7) (0 : Int32))))), none], [.ref 104, .int (still), .int ((1 : Int32)), .ref 26], σ) rfl ?_ ?_
      · trivial
      refine ev_callV M_X2_head [.int ((1 : Int32)), .int (still), .ref 104] [] 26 rfl rfl ln_X2_91 k_X2_head rfl rfl rfl rfl rfl rfl (c_head104 σ n ord still _ hn10 hn ho) ?_
      refine pu_k ?_
      show xEv _ _ _ 32 ([some (.ref 26), some (.int (still)), some (.int (s_ov o0 o1)), some (.ref 104), some (.int (la)), some (.int (s_hd (ord.filter (s_lnp n still (σ 7) (0 : Int32))))), none], [.int (s_hd (ord.filter (s_lnp n still (σ 7) (1 : Int32))))], σ)
      refine ev_br 4 [] ((s_hd (ord.filter (s_lnp n still (σ 7) (0 : Int32)))) = (-1 : Int32)) 50 44 ([some (.ref 26), some (.int (still)), some (.int (s_ov o0 o1)), some (.ref 104), some (.int (la)), some (.int (s_hd (ord.filter (s_lnp n still (σ 7) (0 : Int32))))), some (.int (s_hd (ord.filter (s_lnp n still (σ 7) (1 : Int32)))))], [], σ) rfl ?_ (fun c41 => ?_) (fun c41 => ?_)
      · trivial
      · refine ev_br 2 [] (¬ (s_hd (ord.filter (s_lnp n still (σ 7) (0 : Int32)))) = (-1 : Int32)) 61 56 ([some (.ref 26), some (.int (still)), some (.int (s_ov o0 o1)), some (.ref 104), some (.int (la)), some (.int (s_hd (ord.filter (s_lnp n still (σ 7) (0 : Int32))))), some (.int (s_hd (ord.filter (s_lnp n still (σ 7) (1 : Int32)))))], [], σ) rfl ?_ (fun c53 => ?_) (fun c53 => ?_)
        · trivial
        · exact absurd c41 c53
        · refine ev_blk 2 [] 63 ([some (.ref 26), some (.int (still)), some (.int (s_ov o0 o1)), some (.ref 104), some (.int (la)), some (.int (s_hd (ord.filter (s_lnp n still (σ 7) (0 : Int32))))), some (.int (s_hd (ord.filter (s_lnp n still (σ 7) (1 : Int32)))))], [.int (s_hd (ord.filter (s_lnp n still (σ 7) (1 : Int32))))], σ) rfl ?_ ?_
          · trivial
          have ho0 : o0 = true := by cases h : o0 with | true => rfl | false => exact absurd ((s_ov_1 o0 o1).mpr h) c3
          have eA : (s_opn o0 (ord.filter (s_lnp n still (σ 7) 0))) = ord.filter (s_lnp n still (σ 7) 0) := by rw [ho0]; rfl
          have ho1 : o1 = true := by cases h : o1 with | true => rfl | false => exact absurd ((s_ov_2 o0 o1).mpr h) c22
          have eB : (s_opn o1 (ord.filter (s_lnp n still (σ 7) 1))) = ord.filter (s_lnp n still (σ 7) 1) := by rw [ho1]; rfl
          have hA : (s_opn o0 (ord.filter (s_lnp n still (σ 7) 0))) = [] := by rw [eA]; exact (s_hd_nil (hlt 0)).mp c41
          refine ev_iret rfl rfl rfl ⟨?_, rfl⟩
          cases hB : ord.filter (s_lnp n still (σ 7) 1) with
          | nil => rw [s_pk_n hA (show s_opn o1 [] = [] by rw [ho1]; rfl)]; rfl
          | cons y u => rw [s_pk_1 hA (show s_opn o1 (y :: u) = y :: u by rw [ho1]; rfl)]; rfl
      · refine ev_br 2 [] (¬ (s_hd (ord.filter (s_lnp n still (σ 7) (1 : Int32)))) = (-1 : Int32)) 64 50 ([some (.ref 26), some (.int (still)), some (.int (s_ov o0 o1)), some (.ref 104), some (.int (la)), some (.int (s_hd (ord.filter (s_lnp n still (σ 7) (0 : Int32))))), some (.int (s_hd (ord.filter (s_lnp n still (σ 7) (1 : Int32)))))], [], σ) rfl ?_ (fun c47 => ?_) (fun c47 => ?_)
        · trivial
        · refine ev_blk 4 [] 71 ([some (.ref 26), some (.int (still)), some (.int (s_ov o0 o1)), some (.ref 104), some (.int (la)), some (.int (s_hd (ord.filter (s_lnp n still (σ 7) (0 : Int32))))), some (.int (s_hd (ord.filter (s_lnp n still (σ 7) (1 : Int32)))))], [.int (la), .int (s_hd (ord.filter (s_lnp n still (σ 7) (1 : Int32)))), .int (s_hd (ord.filter (s_lnp n still (σ 7) (0 : Int32)))), .ref 26], σ) rfl ?_ ?_
          · trivial
          have ho0 : o0 = true := by cases h : o0 with | true => rfl | false => exact absurd ((s_ov_1 o0 o1).mpr h) c3
          have eA : (s_opn o0 (ord.filter (s_lnp n still (σ 7) 0))) = ord.filter (s_lnp n still (σ 7) 0) := by rw [ho0]; rfl
          have ho1 : o1 = true := by cases h : o1 with | true => rfl | false => exact absurd ((s_ov_2 o0 o1).mpr h) c22
          have eB : (s_opn o1 (ord.filter (s_lnp n still (σ 7) 1))) = ord.filter (s_lnp n still (σ 7) 1) := by rw [ho1]; rfl
          cases hA2 : ord.filter (s_lnp n still (σ 7) 0) with
          | nil => exact absurd ((s_hd_nil (hlt 0)).mpr hA2) c41
          | cons x t =>
            cases hB2 : ord.filter (s_lnp n still (σ 7) 1) with
            | nil => exact absurd ((s_hd_nil (hlt 1)).mpr hB2) c47
            | cons y u =>
              show xEv _ _ _ 71 ([some (.ref 26), some (.int (still)), some (.int (s_ov o0 o1)), some (.ref 104), some (.int (la)), some (.int (nI x)), some (.int (nI y))], [.int (la), .int (nI y), .int (nI x), .ref 26], σ)
              have hxn := lnp_lt (show x ∈ ord.filter (s_lnp n still (σ 7) 0) by rw [hA2]; exact List.mem_cons_self)
              have hyn := lnp_lt (show y ∈ ord.filter (s_lnp n still (σ 7) 1) by rw [hB2]; exact List.mem_cons_self)
              rw [show s_opn o0 (x :: t) = x :: t by rw [ho0]; rfl, show s_opn o1 (y :: u) = y :: u by rw [ho1]; rfl]
              refine ev_callV M_X2_isSecondTaken [.int (nI x), .int (nI y), .int (la)] [] 26 rfl rfl ln_X2_95 k_X2_isSecondTaken rfl rfl rfl rfl rfl rfl (c_sec σ n x y la hn10 hn hxn.1 hyn.1) ?_
              refine pu_k ?_
              show xEv _ _ _ 74 ([some (.ref 26), some (.int (still)), some (.int (s_ov o0 o1)), some (.ref 104), some (.int (la)), some (.int (nI x)), some (.int (nI y))], [.int (zi (s_sec (atC σ) x y (decide (la = 0)) = true))], σ)
              refine ev_br 0 [] ((zi (s_sec (atC σ) x y (decide (la = 0)) = true)) = 0) 82 77 ([some (.ref 26), some (.int (still)), some (.int (s_ov o0 o1)), some (.ref 104), some (.int (la)), some (.int (nI x)), some (.int (nI y))], [], σ) rfl ?_ (fun c74 => ?_) (fun c74 => ?_)
              · trivial
              · replace c74 := zi_0.mp c74
                refine ev_blk 1 [] 84 ([some (.ref 26), some (.int (still)), some (.int (s_ov o0 o1)), some (.ref 104), some (.int (la)), some (.int (nI x)), some (.int (nI y))], [.int (nI x)], σ) rfl ?_ ?_
                · trivial
                exact ev_iret rfl rfl rfl ⟨by rw [s_pk_2 rfl rfl, if_neg c74]; rfl, rfl⟩
              · replace c74 := zi_1.mp c74
                refine ev_blk 2 [] 84 ([some (.ref 26), some (.int (still)), some (.int (s_ov o0 o1)), some (.ref 104), some (.int (la)), some (.int (nI x)), some (.int (nI y))], [.int (nI y)], σ) rfl ?_ ?_
                · trivial
                exact ev_iret rfl rfl rfl ⟨by rw [s_pk_2 rfl rfl, if_pos c74]; rfl, rfl⟩
        · refine ev_br 2 [] (¬ (s_hd (ord.filter (s_lnp n still (σ 7) (0 : Int32)))) = (-1 : Int32)) 61 56 ([some (.ref 26), some (.int (still)), some (.int (s_ov o0 o1)), some (.ref 104), some (.int (la)), some (.int (s_hd (ord.filter (s_lnp n still (σ 7) (0 : Int32))))), some (.int (s_hd (ord.filter (s_lnp n still (σ 7) (1 : Int32)))))], [], σ) rfl ?_ (fun c53 => ?_) (fun c53 => ?_)
          · trivial
          · refine ev_blk 1 [] 63 ([some (.ref 26), some (.int (still)), some (.int (s_ov o0 o1)), some (.ref 104), some (.int (la)), some (.int (s_hd (ord.filter (s_lnp n still (σ 7) (0 : Int32))))), some (.int (s_hd (ord.filter (s_lnp n still (σ 7) (1 : Int32)))))], [.int (s_hd (ord.filter (s_lnp n still (σ 7) (0 : Int32))))], σ) rfl ?_ ?_
            · trivial
            have ho0 : o0 = true := by cases h : o0 with | true => rfl | false => exact absurd ((s_ov_1 o0 o1).mpr h) c3
            have eA : (s_opn o0 (ord.filter (s_lnp n still (σ 7) 0))) = ord.filter (s_lnp n still (σ 7) 0) := by rw [ho0]; rfl
            have ho1 : o1 = true := by cases h : o1 with | true => rfl | false => exact absurd ((s_ov_2 o0 o1).mpr h) c22
            have eB : (s_opn o1 (ord.filter (s_lnp n still (σ 7) 1))) = ord.filter (s_lnp n still (σ 7) 1) := by rw [ho1]; rfl
            have hA : (s_opn o0 (ord.filter (s_lnp n still (σ 7) 0))) ≠ [] := by rw [eA]; exact fun q => c41 ((s_hd_nil (hlt 0)).mpr q)
            have hB : (s_opn o1 (ord.filter (s_lnp n still (σ 7) 1))) = [] := by rw [eB]; exact (s_hd_nil (hlt 1)).mp (Classical.byContradiction c47)
            refine ev_iret rfl rfl rfl ⟨?_, rfl⟩
            cases hA2 : ord.filter (s_lnp n still (σ 7) 0) with
            | nil => exact absurd (eA.trans hA2) hA
            | cons x t => rw [s_pk_0 (show s_opn o0 (x :: t) = x :: t by rw [ho0]; rfl) hB]; rfl
          · exact absurd (Classical.byContradiction c53) c41
set_option maxRecDepth 100000 in
theorem c_next32 (σ : xSg) (n : Nat) (ord : List Nat) (still la : Int32) (o0 o1 : Bool) (hn10 : n ≤ 10) (hn : σ 1 0 = nI n) (ho : ordOk ord (σ 32)) : xPu M_X2_nextHead [.ref 26, .int (still), .int (s_ov o0 o1), .ref 32, .int (la)] σ (.int (s_hp (s_pick (atC σ) (decide (la = 0)) (s_opn o0 (ord.filter (s_lnp n still (σ 7) 0))) (s_opn o1 (ord.filter (s_lnp n still (σ 7) 1)))))) := by
  have hlt : ∀ ln, ∀ x ∈ ord.filter (s_lnp n still (σ 7) ln), x < 10 := fun ln x hx => by have := (lnp_lt hx).1; omega
  refine ctr_ev ok_X2_nextHead (by decide +kernel) rfl rfl rfl ?_
  show xEv (.inl 3) M_X2_nextHead _ 0 ([some (.ref 26), some (.int (still)), some (.int (s_ov o0 o1)), some (.ref 32), some (.int (la)), none, none], [], σ)
  refine ev_br 3 [] (((s_ov o0 o1) &&& (1 : Int32)) = 0) 16 6 ([some (.ref 26), some (.int (still)), some (.int (s_ov o0 o1)), some (.ref 32), some (.int (la)), none, none], [], σ) rfl ?_ (fun c3 => ?_) (fun c3 => ?_)
  · trivial
  · refine ev_br 5 [] (((s_ov o0 o1) &&& (2 : Int32)) = 0) 35 25 ([some (.ref 26), some (.int (still)), some (.int (s_ov o0 o1)), some (.ref 32), some (.int (la)), some (.int ((-1 : Int32))), none], [], σ) rfl ?_ (fun c22 => ?_) (fun c22 => ?_)
    · trivial
    · refine ev_br 4 [] ((-1 : Int32) = (-1 : Int32)) 50 44 ([some (.ref 26), some (.int (still)), some (.int (s_ov o0 o1)), some (.ref 32), some (.int (la)), some (.int ((-1 : Int32))), some (.int ((-1 : Int32)))], [], σ) rfl ?_ (fun c41 => ?_) (fun c41 => ?_)
      · trivial
      · refine ev_br 2 [] (¬ (-1 : Int32) = (-1 : Int32)) 61 56 ([some (.ref 26), some (.int (still)), some (.int (s_ov o0 o1)), some (.ref 32), some (.int (la)), some (.int ((-1 : Int32))), some (.int ((-1 : Int32)))], [], σ) rfl ?_ (fun c53 => ?_) (fun c53 => ?_)
        · trivial
        · exact absurd rfl c53
        · refine ev_blk 2 [] 63 ([some (.ref 26), some (.int (still)), some (.int (s_ov o0 o1)), some (.ref 32), some (.int (la)), some (.int ((-1 : Int32))), some (.int ((-1 : Int32)))], [.int ((-1 : Int32))], σ) rfl ?_ ?_
          · trivial
          have hA : (s_opn o0 (ord.filter (s_lnp n still (σ 7) 0))) = [] := by rw [(s_ov_1 o0 o1).mp c3]; rfl
          have hB : (s_opn o1 (ord.filter (s_lnp n still (σ 7) 1))) = [] := by rw [(s_ov_2 o0 o1).mp c22]; rfl
          exact ev_iret rfl rfl rfl ⟨by rw [s_pk_n hA hB]; rfl, rfl⟩
      · exact absurd rfl c41
    · refine ev_blk 4 [] 29 ([some (.ref 26), some (.int (still)), some (.int (s_ov o0 o1)), some (.ref 32), some (.int (la)), some (.int ((-1 : Int32))), none], [.ref 32, .int (still), .int ((1 : Int32)), .ref 26], σ) rfl ?_ ?_
      · trivial
      refine ev_callV M_X2_head [.int ((1 : Int32)), .int (still), .ref 32] [] 26 rfl rfl ln_X2_91 k_X2_head rfl rfl rfl rfl rfl rfl (c_head32 σ n ord still _ hn10 hn ho) ?_
      refine pu_k ?_
      show xEv _ _ _ 32 ([some (.ref 26), some (.int (still)), some (.int (s_ov o0 o1)), some (.ref 32), some (.int (la)), some (.int ((-1 : Int32))), none], [.int (s_hd (ord.filter (s_lnp n still (σ 7) (1 : Int32))))], σ)
      refine ev_br 4 [] ((-1 : Int32) = (-1 : Int32)) 50 44 ([some (.ref 26), some (.int (still)), some (.int (s_ov o0 o1)), some (.ref 32), some (.int (la)), some (.int ((-1 : Int32))), some (.int (s_hd (ord.filter (s_lnp n still (σ 7) (1 : Int32)))))], [], σ) rfl ?_ (fun c41 => ?_) (fun c41 => ?_)
      · trivial
      · refine ev_br 2 [] (¬ (-1 : Int32) = (-1 : Int32)) 61 56 ([some (.ref 26), some (.int (still)), some (.int (s_ov o0 o1)), some (.ref 32), some (.int (la)), some (.int ((-1 : Int32))), some (.int (s_hd (ord.filter (s_lnp n still (σ 7) (1 : Int32)))))], [], σ) rfl ?_ (fun c53 => ?_) (fun c53 => ?_)
        · trivial
        · exact absurd rfl c53
        · refine ev_blk 2 [] 63 ([some (.ref 26), some (.int (still)), some (.int (s_ov o0 o1)), some (.ref 32), some (.int (la)), some (.int ((-1 : Int32))), some (.int (s_hd (ord.filter (s_lnp n still (σ 7) (1 : Int32)))))], [.int (s_hd (ord.filter (s_lnp n still (σ 7) (1 : Int32))))], σ) rfl ?_ ?_
          · trivial
          have hA : (s_opn o0 (ord.filter (s_lnp n still (σ 7) 0))) = [] := by rw [(s_ov_1 o0 o1).mp c3]; rfl
          have ho1 : o1 = true := by cases h : o1 with | true => rfl | false => exact absurd ((s_ov_2 o0 o1).mpr h) c22
          have eB : (s_opn o1 (ord.filter (s_lnp n still (σ 7) 1))) = ord.filter (s_lnp n still (σ 7) 1) := by rw [ho1]; rfl
          refine ev_iret rfl rfl rfl ⟨?_, rfl⟩
          cases hB : ord.filter (s_lnp n still (σ 7) 1) with
          | nil => rw [s_pk_n hA (show s_opn o1 [] = [] by rw [ho1]; rfl)]; rfl
          | cons y u => rw [s_pk_1 hA (show s_opn o1 (y :: u) = y :: u by rw [ho1]; rfl)]; rfl
      · exact absurd rfl c41
  · refine ev_blk 4 [] 10 ([some (.ref 26), some (.int (still)), some (.int (s_ov o0 o1)), some (.ref 32), some (.int (la)), none, none], [.ref 32, .int (still), .int ((0 : Int32)), .ref 26], σ) rfl ?_ ?_
    · trivial
    refine ev_callV M_X2_head [.int ((0 : Int32)), .int (still), .ref 32] [] 26 rfl rfl ln_X2_91 k_X2_head rfl rfl rfl rfl rfl rfl (c_head32 σ n ord still _ hn10 hn ho) ?_
    refine pu_k ?_
    show xEv _ _ _ 13 ([some (.ref 26), some (.int (still)), some (.int (s_ov o0 o1)), some (.ref 32), some (.int (la)), none, none], [.int (s_hd (ord.filter (s_lnp n still (σ 7) (0 : Int32))))], σ)
    refine ev_br 5 [] (((s_ov o0 o1) &&& (2 : Int32)) = 0) 35 25 ([some (.ref 26), some (.int (still)), some (.int (s_ov o0 o1)), some (.ref 32), some (.int (la)), some (.int (s_hd (ord.filter (s_lnp n still (σ 7) (0 : Int32))))), none], [], σ) rfl ?_ (fun c22 => ?_) (fun c22 => ?_)
    · trivial
    · refine ev_br 4 [] ((s_hd (ord.filter (s_lnp n still (σ 7) (0 : Int32)))) = (-1 : Int32)) 50 44 ([some (.ref 26), some (.int (still)), some (.int (s_ov o0 o1)), some (.ref 32), some (.int (la)), some (.int (s_hd (ord.filter (s_lnp n still (σ 7) (0 : Int32))))), some (.int ((-1 : Int32)))], [], σ) rfl ?_ (fun c41 => ?_) (fun c41 => ?_)
      · trivial
      · refine ev_br 2 [] (¬ (s_hd (ord.filter (s_lnp n still (σ 7) (0 : Int32)))) = (-1 : Int32)) 61 56 ([some (.ref 26), some (.int (still)), some (.int (s_ov o0 o1)), some (.ref 32), some (.int (la)), some (.int (s_hd (ord.filter (s_lnp n still (σ 7) (0 : Int32))))), some (.int ((-1 : Int32)))], [], σ) rfl ?_ (fun c53 => ?_) (fun c53 => ?_)
        · trivial
        · exact absurd c41 c53
        · refine ev_blk 2 [] 63 ([some (.ref 26), some (.int (still)), some (.int (s_ov o0 o1)), some (.ref 32), some (.int (la)), some (.int (s_hd (ord.filter (s_lnp n still (σ 7) (0 : Int32))))), some (.int ((-1 : Int32)))], [.int ((-1 : Int32))], σ) rfl ?_ ?_
          · trivial
          have ho0 : o0 = true := by cases h : o0 with | true => rfl | false => exact absurd ((s_ov_1 o0 o1).mpr h) c3
          have eA : (s_opn o0 (ord.filter (s_lnp n still (σ 7) 0))) = ord.filter (s_lnp n still (σ 7) 0) := by rw [ho0]; rfl
          have hB : (s_opn o1 (ord.filter (s_lnp n still (σ 7) 1))) = [] := by rw [(s_ov_2 o0 o1).mp c22]; rfl
          have hA : (s_opn o0 (ord.filter (s_lnp n still (σ 7) 0))) = [] := by rw [eA]; exact (s_hd_nil (hlt 0)).mp c41
          exact ev_iret rfl rfl rfl ⟨by rw [s_pk_n hA hB]; rfl, rfl⟩
      · refine ev_br 2 [] (¬ (-1 : Int32) = (-1 : Int32)) 64 50 ([some (.ref 26), some (.int (still)), some (.int (s_ov o0 o1)), some (.ref 32), some (.int (la)), some (.int (s_hd (ord.filter (s_lnp n still (σ 7) (0 : Int32))))), some (.int ((-1 : Int32)))], [], σ) rfl ?_ (fun c47 => ?_) (fun c47 => ?_)
        · trivial
        · exact absurd rfl c47
        · refine ev_br 2 [] (¬ (s_hd (ord.filter (s_lnp n still (σ 7) (0 : Int32)))) = (-1 : Int32)) 61 56 ([some (.ref 26), some (.int (still)), some (.int (s_ov o0 o1)), some (.ref 32), some (.int (la)), some (.int (s_hd (ord.filter (s_lnp n still (σ 7) (0 : Int32))))), some (.int ((-1 : Int32)))], [], σ) rfl ?_ (fun c53 => ?_) (fun c53 => ?_)
          · trivial
          · refine ev_blk 1 [] 63 ([some (.ref 26), some (.int (still)), some (.int (s_ov o0 o1)), some (.ref 32), some (.int (la)), some (.int (s_hd (ord.filter (s_lnp n still (σ 7) (0 : Int32))))), some (.int ((-1 : Int32)))], [.int (s_hd (ord.filter (s_lnp n still (σ 7) (0 : Int32))))], σ) rfl ?_ ?_
            · trivial
            have ho0 : o0 = true := by cases h : o0 with | true => rfl | false => exact absurd ((s_ov_1 o0 o1).mpr h) c3
            have eA : (s_opn o0 (ord.filter (s_lnp n still (σ 7) 0))) = ord.filter (s_lnp n still (σ 7) 0) := by rw [ho0]; rfl
            have hB : (s_opn o1 (ord.filter (s_lnp n still (σ 7) 1))) = [] := by rw [(s_ov_2 o0 o1).mp c22]; rfl
            have hA : (s_opn o0 (ord.filter (s_lnp n still (σ 7) 0))) ≠ [] := by rw [eA]; exact fun q => c41 ((s_hd_nil (hlt 0)).mpr q)
            refine ev_iret rfl rfl rfl ⟨?_, rfl⟩
            cases hA2 : ord.filter (s_lnp n still (σ 7) 0) with
            | nil => exact absurd (eA.trans hA2) hA
            | cons x t => rw [s_pk_0 (show s_opn o0 (x :: t) = x :: t by rw [ho0]; rfl) hB]; rfl
          · exact absurd (Classical.byContradiction c53) c41
    · refine ev_blk 4 [] 29 ([some (.ref 26), some (.int (still)), some (.int (s_ov o0 o1)), some (.ref 32), some (.int (la)), some (.int (s_hd (ord.filter (s_lnp n still (σ 7) (0 : Int32))))), none], [.ref 32, .int (still), .int ((1 : Int32)), .ref 26], σ) rfl ?_ ?_
      · trivial
      refine ev_callV M_X2_head [.int ((1 : Int32)), .int (still), .ref 32] [] 26 rfl rfl ln_X2_91 k_X2_head rfl rfl rfl rfl rfl rfl (c_head32 σ n ord still _ hn10 hn ho) ?_
      refine pu_k ?_
      show xEv _ _ _ 32 ([some (.ref 26), some (.int (still)), some (.int (s_ov o0 o1)), some (.ref 32), some (.int (la)), some (.int (s_hd (ord.filter (s_lnp n still (σ 7) (0 : Int32))))), none], [.int (s_hd (ord.filter (s_lnp n still (σ 7) (1 : Int32))))], σ)
      refine ev_br 4 [] ((s_hd (ord.filter (s_lnp n still (σ 7) (0 : Int32)))) = (-1 : Int32)) 50 44 ([some (.ref 26), some (.int (still)), some (.int (s_ov o0 o1)), some (.ref 32), some (.int (la)), some (.int (s_hd (ord.filter (s_lnp n still (σ 7) (0 : Int32))))), some (.int (s_hd (ord.filter (s_lnp n still (σ 7) (1 : Int32)))))], [], σ) rfl ?_ (fun c41 => ?_) (fun c41 => ?_)
      · trivial
      · refine ev_br 2 [] (¬ (s_hd (ord.filter (s_lnp n still (σ 7) (0 : Int32)))) = (-1 : Int32)) 61 56 ([some (.ref 26), some (.int (still)), some (.int (s_ov o0 o1)), some (.ref 32), some (.int (la)), some (.int (s_hd (ord.filter (s_lnp n still (σ 7) (0 : Int32))))), some (.int (s_hd (ord.filter (s_lnp n still (σ 7) (1 : Int32)))))], [], σ) rfl ?_ (fun c53 => ?_) (fun c53 => ?_)
        · trivial
        · exact absurd c41 c53
        · refine ev_blk 2 [] 63 ([some (.ref 26), some (.int (still)), some (.int (s_ov o0 o1)), some (.ref 32), some (.int (la)), some (.int (s_hd (ord.filter (s_lnp n still (σ 7) (0 : Int32))))), some (.int (s_hd (ord.filter (s_lnp n still (σ 7) (1 : Int32)))))], [.int (s_hd (ord.filter (s_lnp n still (σ 7) (1 : Int32))))], σ) rfl ?_ ?_
          · trivial
          have ho0 : o0 = true := by cases h : o0 with | true => rfl | false => exact absurd ((s_ov_1 o0 o1).mpr h) c3
          have eA : (s_opn o0 (ord.filter (s_lnp n still (σ 7) 0))) = ord.filter (s_lnp n still (σ 7) 0) := by rw [ho0]; rfl
          have ho1 : o1 = true := by cases h : o1 with | true => rfl | false => exact absurd ((s_ov_2 o0 o1).mpr h) c22
          have eB : (s_opn o1 (ord.filter (s_lnp n still (σ 7) 1))) = ord.filter (s_lnp n still (σ 7) 1) := by rw [ho1]; rfl
          have hA : (s_opn o0 (ord.filter (s_lnp n still (σ 7) 0))) = [] := by rw [eA]; exact (s_hd_nil (hlt 0)).mp c41
          refine ev_iret rfl rfl rfl ⟨?_, rfl⟩
          cases hB : ord.filter (s_lnp n still (σ 7) 1) with
          | nil => rw [s_pk_n hA (show s_opn o1 [] = [] by rw [ho1]; rfl)]; rfl
          | cons y u => rw [s_pk_1 hA (show s_opn o1 (y :: u) = y :: u by rw [ho1]; rfl)]; rfl
      · refine ev_br 2 [] (¬ (s_hd (ord.filter (s_lnp n still (σ 7) (1 : Int32)))) = (-1 : Int32)) 64 50 ([some (.ref 26), some (.int (still)), some (.int (s_ov o0 o1)), some (.ref 32), some (.int (la)), some (.int (s_hd (ord.filter (s_lnp n still (σ 7) (0 : Int32))))), some (.int (s_hd (ord.filter (s_lnp n still (σ 7) (1 : Int32)))))], [], σ) rfl ?_ (fun c47 => ?_) (fun c47 => ?_)
        · trivial
        · refine ev_blk 4 [] 71 ([some (.ref 26), some (.int (still)), some (.int (s_ov o0 o1)), some (.ref 32), some (.int (la)), some (.int (s_hd (ord.filter (s_lnp n still (σ 7) (0 : Int32))))), some (.int (s_hd (ord.filter (s_lnp n still (σ 7) (1 : Int32)))))], [.int (la), .int (s_hd (ord.filter (s_lnp n still (σ 7) (1 : Int32)))), .int (s_hd (ord.filter (s_lnp n still (σ 7) (0 : Int32)))), .ref 26], σ) rfl ?_ ?_
          · trivial
          have ho0 : o0 = true := by cases h : o0 with | true => rfl | false => exact absurd ((s_ov_1 o0 o1).mpr h) c3
          have eA : (s_opn o0 (ord.filter (s_lnp n still (σ 7) 0))) = ord.filter (s_lnp n still (σ 7) 0) := by rw [ho0]; rfl
          have ho1 : o1 = true := by cases h : o1 with | true => rfl | false => exact absurd ((s_ov_2 o0 o1).mpr h) c22
          have eB : (s_opn o1 (ord.filter (s_lnp n still (σ 7) 1))) = ord.filter (s_lnp n still (σ 7) 1) := by rw [ho1]; rfl
          cases hA2 : ord.filter (s_lnp n still (σ 7) 0) with
          | nil => exact absurd ((s_hd_nil (hlt 0)).mpr hA2) c41
          | cons x t =>
            cases hB2 : ord.filter (s_lnp n still (σ 7) 1) with
            | nil => exact absurd ((s_hd_nil (hlt 1)).mpr hB2) c47
            | cons y u =>
              show xEv _ _ _ 71 ([some (.ref 26), some (.int (still)), some (.int (s_ov o0 o1)), some (.ref 32), some (.int (la)), some (.int (nI x)), some (.int (nI y))], [.int (la), .int (nI y), .int (nI x), .ref 26], σ)
              have hxn := lnp_lt (show x ∈ ord.filter (s_lnp n still (σ 7) 0) by rw [hA2]; exact List.mem_cons_self)
              have hyn := lnp_lt (show y ∈ ord.filter (s_lnp n still (σ 7) 1) by rw [hB2]; exact List.mem_cons_self)
              rw [show s_opn o0 (x :: t) = x :: t by rw [ho0]; rfl, show s_opn o1 (y :: u) = y :: u by rw [ho1]; rfl]
              refine ev_callV M_X2_isSecondTaken [.int (nI x), .int (nI y), .int (la)] [] 26 rfl rfl ln_X2_95 k_X2_isSecondTaken rfl rfl rfl rfl rfl rfl (c_sec σ n x y la hn10 hn hxn.1 hyn.1) ?_
              refine pu_k ?_
              show xEv _ _ _ 74 ([some (.ref 26), some (.int (still)), some (.int (s_ov o0 o1)), some (.ref 32), some (.int (la)), some (.int (nI x)), some (.int (nI y))], [.int (zi (s_sec (atC σ) x y (decide (la = 0)) = true))], σ)
              refine ev_br 0 [] ((zi (s_sec (atC σ) x y (decide (la = 0)) = true)) = 0) 82 77 ([some (.ref 26), some (.int (still)), some (.int (s_ov o0 o1)), some (.ref 32), some (.int (la)), some (.int (nI x)), some (.int (nI y))], [], σ) rfl ?_ (fun c74 => ?_) (fun c74 => ?_)
              · trivial
              · replace c74 := zi_0.mp c74
                refine ev_blk 1 [] 84 ([some (.ref 26), some (.int (still)), some (.int (s_ov o0 o1)), some (.ref 32), some (.int (la)), some (.int (nI x)), some (.int (nI y))], [.int (nI x)], σ) rfl ?_ ?_
                · trivial
                exact ev_iret rfl rfl rfl ⟨by rw [s_pk_2 rfl rfl, if_neg c74]; rfl, rfl⟩
              · replace c74 := zi_1.mp c74
                refine ev_blk 2 [] 84 ([some (.ref 26), some (.int (still)), some (.int (s_ov o0 o1)), some (.ref 32), some (.int (la)), some (.int (nI x)), some (.int (nI y))], [.int (nI y)], σ) rfl ?_ ?_
                · trivial
                exact ev_iret rfl rfl rfl ⟨by rw [s_pk_2 rfl rfl, if_pos c74]; rfl, rfl⟩
        · refine ev_br 2 [] (¬ (s_hd (ord.filter (s_lnp n still (σ 7) (0 : Int32)))) = (-1 : Int32)) 61 56 ([some (.ref 26), some (.int (still)), some (.int (s_ov o0 o1)), some (.ref 32), some (.int (la)), some (.int (s_hd (ord.filter (s_lnp n still (σ 7) (0 : Int32))))), some (.int (s_hd (ord.filter (s_lnp n still (σ 7) (1 : Int32)))))], [], σ) rfl ?_ (fun c53 => ?_) (fun c53 => ?_)
          · trivial
          · refine ev_blk 1 [] 63 ([some (.ref 26), some (.int (still)), some (.int (s_ov o0 o1)), some (.ref 32), some (.int (la)), some (.int (s_hd (ord.filter (s_lnp n still (σ 7) (0 : Int32))))), some (.int (s_hd (ord.filter (s_lnp n still (σ 7) (1 : Int32)))))], [.int (s_hd (ord.filter (s_lnp n still (σ 7) (0 : Int32))))], σ) rfl ?_ ?_
            · trivial
            have ho0 : o0 = true := by cases h : o0 with | true => rfl | false => exact absurd ((s_ov_1 o0 o1).mpr h) c3
            have eA : (s_opn o0 (ord.filter (s_lnp n still (σ 7) 0))) = ord.filter (s_lnp n still (σ 7) 0) := by rw [ho0]; rfl
            have ho1 : o1 = true := by cases h : o1 with | true => rfl | false => exact absurd ((s_ov_2 o0 o1).mpr h) c22
            have eB : (s_opn o1 (ord.filter (s_lnp n still (σ 7) 1))) = ord.filter (s_lnp n still (σ 7) 1) := by rw [ho1]; rfl
            have hA : (s_opn o0 (ord.filter (s_lnp n still (σ 7) 0))) ≠ [] := by rw [eA]; exact fun q => c41 ((s_hd_nil (hlt 0)).mpr q)
            have hB : (s_opn o1 (ord.filter (s_lnp n still (σ 7) 1))) = [] := by rw [eB]; exact (s_hd_nil (hlt 1)).mp (Classical.byContradiction c47)
            refine ev_iret rfl rfl rfl ⟨?_, rfl⟩
            cases hA2 : ord.filter (s_lnp n still (σ 7) 0) with
            | nil => exact absurd (eA.trans hA2) hA
            | cons x t => rw [s_pk_0 (show s_opn o0 (x :: t) = x :: t by rw [ho0]; rfl) hB]; rfl
          · exact absurd (Classical.byContradiction c53) c41
end
section
theorem atC_fr {S : List Nat} {σ σ1 : xSg} (h : xFr S σ σ1) (hS : (S.all fun c => !([2, 3, 4, 5, 6, 7, 9] : List Nat).contains c) = true) : atC σ1 = atC σ := by
  have k : ∀ c, ([2, 3, 4, 5, 6, 7, 9] : List Nat).contains c = true → σ1 c = σ c := fun c hc => h c (fun q => by
    have := List.all_eq_true.mp hS c q
    rw [hc] at this
    cases this)
  unfold atC
  rw [k 2 rfl, k 3 rfl, k 4 rfl, k 5 rfl, k 6 rfl, k 7 rfl, k 9 rfl]
theorem lnp_clr {n x y : Nat} {still l : Int32} {La : Nat → Int32} (hn : n ≤ 10) (hx : x < 32) : s_lnp n (still &&& ((1 : Int32) <<< (nI x &&& 31) ^^^ (-1 : Int32))) La l y = (s_lnp n still La l y && !decide (y = x)) := by
  unfold s_lnp
  by_cases hy : y < n
  · rw [b_clr hx (by omega)]
    cases bt still y <;> cases decide (La y = l) <;> simp
  · simp [hy]
theorem lnp_keep {n x : Nat} {still l l' : Int32} {La : Nat → Int32} {ord : List Nat} (hn : n ≤ 10) (hx : x < 32) (h : La x = l') (hl : l' ≠ l) : ord.filter (s_lnp n (still &&& ((1 : Int32) <<< (nI x &&& 31) ^^^ (-1 : Int32))) La l) = ord.filter (s_lnp n still La l) := by
  refine List.filter_congr (fun y _ => ?_)
  rw [lnp_clr hn hx]
  by_cases hy : y = x
  · subst hy
    have : decide (La y = l) = false := by simp [h, hl]
    simp [s_lnp, this]
  · simp [hy]
theorem wmem {l : List (Nat × Nat × Nat)} {x r p j : Nat} : decide (j ∈ (l ++ [(x, r, p)]).map Prod.fst) = (decide (j ∈ l.map Prod.fst) || decide (j = x)) := by
  rw [List.map_append, ← Bool.decide_or]
  exact decide_eq_decide.mpr (by rw [List.mem_append]; simp)
def bQ (a : sAt) (σ : xSg) (T : sSt) : Option Value → xSg → Prop := fun r σ' => ∃ inm : Int32, r = some (.int inm) ∧ (∀ j, j < 32 → bt inm j = decide (j ∈ (s_went T).map Prod.fst)) ∧ FR a σ' 26 27 28 29 30 T.2.2.2.2.2 ∧ xFr [26, 27, 28, 29, 30] σ σ'
set_option maxRecDepth 100000 in
theorem c_byRule104_lp (σ : xSg) (a : sAt) (n : Nat) (ord : List Nat) (w : Int32) (T : sSt) (hok : aOk a n) : ∀ (m k : Nat) (σ1 : xSg) (still la : Int32) (o0 o1 : Bool) (F : sFl), k + m = 12 → atC σ1 = a → σ1 1 0 = nI n → ordOk ord (fun i => ([0, 1, 2, 3, 4, 5, 6, 7, 8, 9] : List Int32).getD i 0) → xFr [26, 27, 28, 29, 30] σ σ1 → FR a σ1 26 27 28 29 30 F → (∀ j, j < 32 → bt still j = (bt w j && !decide (j ∈ F.2.map Prod.fst))) → (∀ j ∈ F.2.map Prod.fst, bt w j = true ∧ j < 32) → F.2.length + (ord.filter (s_lnp n still (σ1 7) 0)).length + (ord.filter (s_lnp n still (σ1 7) 1)).length ≤ 10 → s_run a m ((ord.filter (s_lnp n still (σ1 7) 0)), (ord.filter (s_lnp n still (σ1 7) 1)), o0, o1, decide (la = 0), F) = T → xEv (.inl 4) M_X2_byRule (bQ a σ T) 15 ([some (.ref 26), some (.int (w)), some (.ref 104), some (.int (still)), some (.int (s_ov o0 o1)), some (.int (la)), some (.int (nI k)), none], [], σ1) := by
  have hn10 := hok.1
  have fin : ∀ (σ1 : xSg) (still : Int32) (F : sFl), xFr [26, 27, 28, 29, 30] σ σ1 → FR a σ1 26 27 28 29 30 F → (∀ j, j < 32 → bt still j = (bt w j && !decide (j ∈ F.2.map Prod.fst))) → (∀ j ∈ F.2.map Prod.fst, bt w j = true ∧ j < 32) → T.2.2.2.2.2 = F → bQ a σ T (some (.int (w &&& (still ^^^ (-1 : Int32))))) σ1 := by
    intro σ1 still F hfr hF hB hW hT
    refine ⟨_, rfl, fun j hj => ?_, by rw [hT]; exact hF, hfr⟩
    rw [b_and, b_not hj, hB j hj]
    unfold s_went
    rw [hT]
    by_cases hm : j ∈ F.2.map Prod.fst
    · simp only [hm, decide_true, Bool.not_true, Bool.and_false, Bool.not_false, Bool.and_true]
      exact (hW j hm).1
    · simp only [hm, decide_false, Bool.not_false, Bool.and_true]
      cases bt w j <;> rfl
  intro m
  induction m with
  | zero =>
    intro k σ1 still la o0 o1 F hk ha hn ho hfr hF hB hW hlen hT
    refine ev_br 2 [] ((12 : Int32) ≤ (nI k)) 107 22 ([some (.ref 26), some (.int (w)), some (.ref 104), some (.int (still)), some (.int (s_ov o0 o1)), some (.int (la)), some (.int (nI k)), none], [], σ1) rfl ?_ (fun c19 => ?_) (fun c19 => ?_)
    · trivial
    · refine ev_blk 5 [] 112 ([some (.ref 26), some (.int (w)), some (.ref 104), some (.int (still)), some (.int (s_ov o0 o1)), some (.int (la)), some (.int (nI k)), none], [.int (w &&& (still ^^^ (-1 : Int32)))], σ1) rfl ?_ ?_
      · trivial
      exact ev_iret rfl rfl rfl (fin σ1 still F hfr hF hB hW (by rw [← hT]; rfl))
    · exact absurd (show (12 : Int32) ≤ nI k by rw [show k = 12 by omega]; decide) c19
  | succ m ih =>
    intro k σ1 still la o0 o1 F hk ha hn ho hfr hF hB hW hlen hT
    subst ha
    refine ev_br 2 [] ((12 : Int32) ≤ (nI k)) 107 22 ([some (.ref 26), some (.int (w)), some (.ref 104), some (.int (still)), some (.int (s_ov o0 o1)), some (.int (la)), some (.int (nI k)), none], [], σ1) rfl ?_ (fun c19 => ?_) (fun c19 => ?_)
    · trivial
    · exact absurd c19 (nI_ge (b := 12) (by omega) (by decide))
    · refine ev_blk 5 [] 29 ([some (.ref 26), some (.int (w)), some (.ref 104), some (.int (still)), some (.int (s_ov o0 o1)), some (.int (la)), some (.int (nI k)), none], [.int (la), .ref 104, .int (s_ov o0 o1), .int (still), .ref 26], σ1) rfl ?_ ?_
      · trivial
      refine ev_callV M_X2_nextHead [.int (still), .int (s_ov o0 o1), .ref 104, .int (la)] [] 26 rfl rfl ln_X2_81 k_X2_nextHead rfl rfl rfl rfl rfl rfl (c_next104 σ1 n ord still la o0 o1 hn10 hn ho) ?_
      refine pu_k ?_
      show xEv _ _ _ 32 ([some (.ref 26), some (.int (w)), some (.ref 104), some (.int (still)), some (.int (s_ov o0 o1)), some (.int (la)), some (.int (nI k)), none], [.int (s_hp (s_pick (atC σ1) (decide (la = 0)) (s_opn o0 (ord.filter (s_lnp n still (σ1 7) 0))) (s_opn o1 (ord.filter (s_lnp n still (σ1 7) 1)))))], σ1)
      cases hp : s_pick (atC σ1) (decide (la = 0)) (s_opn o0 (ord.filter (s_lnp n still (σ1 7) 0))) (s_opn o1 (ord.filter (s_lnp n still (σ1 7) 1))) with
      | none =>
        show xEv _ _ _ 32 ([some (.ref 26), some (.int (w)), some (.ref 104), some (.int (still)), some (.int (s_ov o0 o1)), some (.int (la)), some (.int (nI k)), none], [.int ((-1 : Int32))], σ1)
        refine ev_blk 4 [] 40 ([some (.ref 26), some (.int (w)), some (.ref 104), some (.int (still)), some (.int (s_ov o0 o1)), some (.int (la)), some (.int (nI k)), some (.int ((-1 : Int32)))], [.int ((-1 : Int32)), .ref 1], σ1) rfl ?_ ?_
        · trivial
        refine ev_callV M_X3_isShip [.int ((-1 : Int32))] [] 1 rfl rfl ln_X2_59 k_X3_isShip rfl rfl rfl rfl rfl rfl (c_isShip _ _) ?_
        refine pu_k ?_
        show xEv _ _ _ 43 ([some (.ref 26), some (.int (w)), some (.ref 104), some (.int (still)), some (.int (s_ov o0 o1)), some (.int (la)), some (.int (nI k)), some (.int ((-1 : Int32)))], [.int (zi (iSh σ1 (-1 : Int32)))], σ1)
        refine ev_br 0 [] (¬ (zi (iSh σ1 (-1 : Int32))) = 0) 49 46 ([some (.ref 26), some (.int (w)), some (.ref 104), some (.int (still)), some (.int (s_ov o0 o1)), some (.int (la)), some (.int (nI k)), some (.int ((-1 : Int32)))], [], σ1) rfl ?_ (fun c43 => ?_) (fun c43 => ?_)
        · trivial
        · exact absurd (show (-1 : Int32) < 0 by decide) (zi_1.mp c43).1
        · replace c43 := zi_n.mp c43
          refine ev_blk 6 [] 112 ([some (.ref 26), some (.int (w)), some (.ref 104), some (.int (still)), some (.int (s_ov o0 o1)), some (.int (la)), some (.int (nI k)), some (.int ((-1 : Int32)))], [.int (w &&& (still ^^^ (-1 : Int32)))], σ1) rfl ?_ ?_
          · trivial
          exact ev_iret rfl rfl rfl (fin σ1 still F hfr hF hB hW (by rw [← hT, s_run_none (s_st_n hp)]))
      | some q =>
        obtain ⟨x, b⟩ := q
        show xEv _ _ _ 32 ([some (.ref 26), some (.int (w)), some (.ref 104), some (.int (still)), some (.int (s_ov o0 o1)), some (.int (la)), some (.int (nI k)), none], [.int (nI x)], σ1)
        cases b with
        | false =>
          obtain ⟨t, ht⟩ := s_pick_0 hp
          obtain ⟨ho0, hft⟩ := s_opn_c ht
          have hx := lnp_lt (show x ∈ (ord.filter (s_lnp n still (σ1 7) 0)) by rw [hft]; exact List.mem_cons_self)
          have hsx : iSh σ1 (nI x) := ⟨nI_pos (by omega), by rw [hn]; exact nI_ge hx.1 (by omega), nI_ge (b := 10) (by omega) (by omega)⟩
          have hxc : (nI x).toNatClampNeg = x := nI_clamp (by omega)
          have hFl : F.2.length < 10 := by rw [hft] at hlen; simp only [List.length_cons] at hlen; omega
          refine ev_blk 4 [] 40 ([some (.ref 26), some (.int (w)), some (.ref 104), some (.int (still)), some (.int (s_ov o0 o1)), some (.int (la)), some (.int (nI k)), some (.int (nI x))], [.int (nI x), .ref 1], σ1) rfl ?_ ?_
          · trivial
          refine ev_callV M_X3_isShip [.int (nI x)] [] 1 rfl rfl ln_X2_59 k_X3_isShip rfl rfl rfl rfl rfl rfl (c_isShip _ _) ?_
          refine pu_k ?_
          show xEv _ _ _ 43 ([some (.ref 26), some (.int (w)), some (.ref 104), some (.int (still)), some (.int (s_ov o0 o1)), some (.int (la)), some (.int (nI k)), some (.int (nI x))], [.int (zi (iSh σ1 (nI x)))], σ1)
          refine ev_br 0 [] (¬ (zi (iSh σ1 (nI x))) = 0) 49 46 ([some (.ref 26), some (.int (w)), some (.ref 104), some (.int (still)), some (.int (s_ov o0 o1)), some (.int (la)), some (.int (nI k)), some (.int (nI x))], [], σ1) rfl ?_ (fun c43 => ?_) (fun c43 => ?_)
          · trivial
          · replace c43 := zi_1.mp c43
            refine ev_blk 2 [] 52 ([some (.ref 26), some (.int (w)), some (.ref 104), some (.int (still)), some (.int (s_ov o0 o1)), some (.int (la)), some (.int (nI k)), some (.int (nI x))], [.int (nI x), .ref 26], σ1) rfl ?_ ?_
            · trivial
            refine ev_callV M_X2_enter [.int (nI x)] [] 26 rfl rfl ln_X2_85 k_X2_enter rfl rfl rfl rfl rfl rfl (c_enter26 σ1 n x F hok hn hx.1 hF hFl) ?_
            rintro r σ2 (⟨F2, hF2, rfl, hR2, hf2⟩ | ⟨hN, rfl, e2⟩)
            · show xEv _ _ _ 55 ([some (.ref 26), some (.int (w)), some (.ref 104), some (.int (still)), some (.int (s_ov o0 o1)), some (.int (la)), some (.int (nI k)), some (.int (nI x))], [.int ((1 : Int32))], σ2)
              refine ev_br 0 [] ((1 : Int32) = 0) 82 58 ([some (.ref 26), some (.int (w)), some (.ref 104), some (.int (still)), some (.int (s_ov o0 o1)), some (.int (la)), some (.int (nI k)), some (.int (nI x))], [], σ2) rfl ?_ (fun c55 => ?_) (fun c55 => ?_)
              · trivial
              · exact absurd c55 (by decide)
              · refine ev_blk 17 [vp_in (nI x) 10] 15 ([some (.ref 26), some (.int (w)), some (.ref 104), some (.int (still &&& (((1 : Int32) <<< ((nI x) &&& 31)) ^^^ (-1 : Int32)))), some (.int (s_ov o0 o1)), some (.int ((σ2 7) (nI x).toNatClampNeg)), some (.int ((nI k) + (1 : Int32))), some (.int (nI x))], [], σ2) rfl ?_ ?_
                · exact vp_in_nI (by omega) (by decide)
                rw [hxc]
                refine ev_drop 7 ?_
                have e7 : σ2 7 = σ1 7 := hf2 7 (by decide)
                have hae := atC_fr hf2 rfl
                obtain ⟨r2, p2, hw2⟩ := s_in_w hF2
                have f0 : ord.filter (s_lnp n (still &&& ((1 : Int32) <<< (nI x &&& 31) ^^^ (-1 : Int32))) (σ1 7) 0) = t := fl_clr ho.2.1 hft (fun y => lnp_clr hn10 (by omega))
                have f1 : ord.filter (s_lnp n (still &&& ((1 : Int32) <<< (nI x &&& 31) ^^^ (-1 : Int32))) (σ1 7) 1) = (ord.filter (s_lnp n still (σ1 7) 1)) := lnp_keep hn10 (by omega) hx.2.2 (by decide)
                rw [e7, hx.2.2, nI_1]
                refine ih (k + 1) σ2 (still &&& ((1 : Int32) <<< (nI x &&& 31) ^^^ (-1 : Int32))) _ o0 o1 F2 (by omega) hae ((congrFun (hf2 1 (by decide)) 0).trans hn) ho (hfr.tr hf2) hR2 (fun j hj => ?_) (fun j hj => ?_) ?_ ?_
                · rw [b_clr (by omega) hj, hB j hj, hw2, wmem, Bool.not_or, Bool.and_assoc]
                · rw [hw2] at hj
                  simp only [List.map_append, List.map_cons, List.map_nil, List.mem_append, List.mem_singleton] at hj
                  rcases hj with hj | rfl
                  · exact hW j hj
                  · have h1 := hB j (by omega)
                    rw [hx.2.1] at h1
                    refine ⟨?_, by omega⟩
                    cases hwj : bt w j with
                    | true => rfl
                    | false => rw [hwj] at h1; simp at h1
                · rw [e7, f0, f1, hw2]
                  rw [hft] at hlen
                  simp only [List.length_append, List.length_cons, List.length_nil] at hlen ⊢
                  omega
                · rw [e7, f0, f1, ← hT, s_run_some (s_st_0 hp hF2), hft]
                  rfl
            · rw [e2]
              show xEv _ _ _ 55 ([some (.ref 26), some (.int (w)), some (.ref 104), some (.int (still)), some (.int (s_ov o0 o1)), some (.int (la)), some (.int (nI k)), some (.int (nI x))], [.int ((0 : Int32))], σ1)
              refine ev_br 0 [] ((0 : Int32) = 0) 82 58 ([some (.ref 26), some (.int (w)), some (.ref 104), some (.int (still)), some (.int (s_ov o0 o1)), some (.int (la)), some (.int (nI k)), some (.int (nI x))], [], σ1) rfl ?_ (fun c55 => ?_) (fun c55 => ?_)
              · trivial
              · refine ev_blk 14 [vp_in (nI x) 10] 15 ([some (.ref 26), some (.int (w)), some (.ref 104), some (.int (still)), some (.int ((s_ov o0 o1) &&& (((1 : Int32) <<< (((σ1 7) (nI x).toNatClampNeg) &&& 31)) ^^^ (-1 : Int32)))), some (.int (la)), some (.int ((nI k) + (1 : Int32))), some (.int (nI x))], [], σ1) rfl ?_ ?_
                · exact vp_in_nI (by omega) (by decide)
                rw [hxc]
                refine ev_drop 7 ?_
                rw [hx.2.2, s_ov_c0, nI_1]
                refine ih (k + 1) σ1 still la false o1 F (by omega) rfl hn ho hfr hF hB hW hlen ?_
                rw [← hT, s_run_some (s_st_0n hp hN)]
              · exact absurd rfl c55
          · exact absurd hsx (zi_n.mp c43)
        | true =>
          obtain ⟨t, ht⟩ := s_pick_1 hp
          obtain ⟨ho1, hft⟩ := s_opn_c ht
          have hx := lnp_lt (show x ∈ (ord.filter (s_lnp n still (σ1 7) 1)) by rw [hft]; exact List.mem_cons_self)
          have hsx : iSh σ1 (nI x) := ⟨nI_pos (by omega), by rw [hn]; exact nI_ge hx.1 (by omega), nI_ge (b := 10) (by omega) (by omega)⟩
          have hxc : (nI x).toNatClampNeg = x := nI_clamp (by omega)
          have hFl : F.2.length < 10 := by rw [hft] at hlen; simp only [List.length_cons] at hlen; omega
          refine ev_blk 4 [] 40 ([some (.ref 26), some (.int (w)), some (.ref 104), some (.int (still)), some (.int (s_ov o0 o1)), some (.int (la)), some (.int (nI k)), some (.int (nI x))], [.int (nI x), .ref 1], σ1) rfl ?_ ?_
          · trivial
          refine ev_callV M_X3_isShip [.int (nI x)] [] 1 rfl rfl ln_X2_59 k_X3_isShip rfl rfl rfl rfl rfl rfl (c_isShip _ _) ?_
          refine pu_k ?_
          show xEv _ _ _ 43 ([some (.ref 26), some (.int (w)), some (.ref 104), some (.int (still)), some (.int (s_ov o0 o1)), some (.int (la)), some (.int (nI k)), some (.int (nI x))], [.int (zi (iSh σ1 (nI x)))], σ1)
          refine ev_br 0 [] (¬ (zi (iSh σ1 (nI x))) = 0) 49 46 ([some (.ref 26), some (.int (w)), some (.ref 104), some (.int (still)), some (.int (s_ov o0 o1)), some (.int (la)), some (.int (nI k)), some (.int (nI x))], [], σ1) rfl ?_ (fun c43 => ?_) (fun c43 => ?_)
          · trivial
          · replace c43 := zi_1.mp c43
            refine ev_blk 2 [] 52 ([some (.ref 26), some (.int (w)), some (.ref 104), some (.int (still)), some (.int (s_ov o0 o1)), some (.int (la)), some (.int (nI k)), some (.int (nI x))], [.int (nI x), .ref 26], σ1) rfl ?_ ?_
            · trivial
            refine ev_callV M_X2_enter [.int (nI x)] [] 26 rfl rfl ln_X2_85 k_X2_enter rfl rfl rfl rfl rfl rfl (c_enter26 σ1 n x F hok hn hx.1 hF hFl) ?_
            rintro r σ2 (⟨F2, hF2, rfl, hR2, hf2⟩ | ⟨hN, rfl, e2⟩)
            · show xEv _ _ _ 55 ([some (.ref 26), some (.int (w)), some (.ref 104), some (.int (still)), some (.int (s_ov o0 o1)), some (.int (la)), some (.int (nI k)), some (.int (nI x))], [.int ((1 : Int32))], σ2)
              refine ev_br 0 [] ((1 : Int32) = 0) 82 58 ([some (.ref 26), some (.int (w)), some (.ref 104), some (.int (still)), some (.int (s_ov o0 o1)), some (.int (la)), some (.int (nI k)), some (.int (nI x))], [], σ2) rfl ?_ (fun c55 => ?_) (fun c55 => ?_)
              · trivial
              · exact absurd c55 (by decide)
              · refine ev_blk 17 [vp_in (nI x) 10] 15 ([some (.ref 26), some (.int (w)), some (.ref 104), some (.int (still &&& (((1 : Int32) <<< ((nI x) &&& 31)) ^^^ (-1 : Int32)))), some (.int (s_ov o0 o1)), some (.int ((σ2 7) (nI x).toNatClampNeg)), some (.int ((nI k) + (1 : Int32))), some (.int (nI x))], [], σ2) rfl ?_ ?_
                · exact vp_in_nI (by omega) (by decide)
                rw [hxc]
                refine ev_drop 7 ?_
                have e7 : σ2 7 = σ1 7 := hf2 7 (by decide)
                have hae := atC_fr hf2 rfl
                obtain ⟨r2, p2, hw2⟩ := s_in_w hF2
                have f0 : ord.filter (s_lnp n (still &&& ((1 : Int32) <<< (nI x &&& 31) ^^^ (-1 : Int32))) (σ1 7) 1) = t := fl_clr ho.2.1 hft (fun y => lnp_clr hn10 (by omega))
                have f1 : ord.filter (s_lnp n (still &&& ((1 : Int32) <<< (nI x &&& 31) ^^^ (-1 : Int32))) (σ1 7) 0) = (ord.filter (s_lnp n still (σ1 7) 0)) := lnp_keep hn10 (by omega) hx.2.2 (by decide)
                rw [e7, hx.2.2, nI_1]
                refine ih (k + 1) σ2 (still &&& ((1 : Int32) <<< (nI x &&& 31) ^^^ (-1 : Int32))) _ o0 o1 F2 (by omega) hae ((congrFun (hf2 1 (by decide)) 0).trans hn) ho (hfr.tr hf2) hR2 (fun j hj => ?_) (fun j hj => ?_) ?_ ?_
                · rw [b_clr (by omega) hj, hB j hj, hw2, wmem, Bool.not_or, Bool.and_assoc]
                · rw [hw2] at hj
                  simp only [List.map_append, List.map_cons, List.map_nil, List.mem_append, List.mem_singleton] at hj
                  rcases hj with hj | rfl
                  · exact hW j hj
                  · have h1 := hB j (by omega)
                    rw [hx.2.1] at h1
                    refine ⟨?_, by omega⟩
                    cases hwj : bt w j with
                    | true => rfl
                    | false => rw [hwj] at h1; simp at h1
                · rw [e7, f0, f1, hw2]
                  rw [hft] at hlen
                  simp only [List.length_append, List.length_cons, List.length_nil] at hlen ⊢
                  omega
                · rw [e7, f0, f1, ← hT, s_run_some (s_st_1 hp hF2), hft]
                  rfl
            · rw [e2]
              show xEv _ _ _ 55 ([some (.ref 26), some (.int (w)), some (.ref 104), some (.int (still)), some (.int (s_ov o0 o1)), some (.int (la)), some (.int (nI k)), some (.int (nI x))], [.int ((0 : Int32))], σ1)
              refine ev_br 0 [] ((0 : Int32) = 0) 82 58 ([some (.ref 26), some (.int (w)), some (.ref 104), some (.int (still)), some (.int (s_ov o0 o1)), some (.int (la)), some (.int (nI k)), some (.int (nI x))], [], σ1) rfl ?_ (fun c55 => ?_) (fun c55 => ?_)
              · trivial
              · refine ev_blk 14 [vp_in (nI x) 10] 15 ([some (.ref 26), some (.int (w)), some (.ref 104), some (.int (still)), some (.int ((s_ov o0 o1) &&& (((1 : Int32) <<< (((σ1 7) (nI x).toNatClampNeg) &&& 31)) ^^^ (-1 : Int32)))), some (.int (la)), some (.int ((nI k) + (1 : Int32))), some (.int (nI x))], [], σ1) rfl ?_ ?_
                · exact vp_in_nI (by omega) (by decide)
                rw [hxc]
                refine ev_drop 7 ?_
                rw [hx.2.2, s_ov_c1, nI_1]
                refine ih (k + 1) σ1 still la o0 false F (by omega) rfl hn ho hfr hF hB hW hlen ?_
                rw [← hT, s_run_some (s_st_1n hp hN)]
              · exact absurd rfl c55
          · exact absurd hsx (zi_n.mp c43)
set_option maxRecDepth 100000 in
theorem c_byRule104 (σ : xSg) (n : Nat) (ord : List Nat) (w : Int32) (hok : aOk (atC σ) n) (hn : σ 1 0 = nI n) (ho : ordOk ord (fun i => ([0, 1, 2, 3, 4, 5, 6, 7, 8, 9] : List Int32).getD i 0)) : xCtr M_X2_byRule [.ref 26, .int w, .ref 104] σ (bQ (atC σ) σ (s_fill (atC σ) (tkC σ) (ord.filter (s_lnp n w (σ 7) 0)) (ord.filter (s_lnp n w (σ 7) 1)))) := by
  refine ctr_ev ok_X2_byRule (by decide +kernel) rfl rfl rfl ?_
  show xEv (.inl 4) M_X2_byRule _ 0 ([some (.ref 26), some (.int (w)), some (.ref 104), none, none, none, none, none], [], σ)
  refine ev_blk 1 [] 1 ([some (.ref 26), some (.int (w)), some (.ref 104), none, none, none, none, none], [.ref 26], σ) rfl ?_ ?_
  · trivial
  refine ev_callV M_X2_begin [] [] 26 rfl rfl ln_X2_78 k_X2_begin rfl rfl rfl rfl rfl rfl (c_begin26 σ) ?_
  rintro r σ1 ⟨rfl, hF, hfr⟩
  show xEv _ _ _ 4 ([some (.ref 26), some (.int (w)), some (.ref 104), none, none, none, none, none], [], σ1)
  refine ev_blk 8 [] 15 ([some (.ref 26), some (.int (w)), some (.ref 104), some (.int (w)), some (.int ((3 : Int32))), some (.int ((-1 : Int32))), some (.int ((0 : Int32))), none], [], σ1) rfl ?_ ?_
  · trivial
  have hae := atC_fr hfr rfl
  have e7 : σ1 7 = σ 7 := hfr 7 (by decide)
  refine c_byRule104_lp σ (atC σ) n ord w _ hok 12 0 σ1 w _ true true (tkC σ, []) rfl hae ((congrFun (hfr 1 (by decide)) 0).trans hn) ho hfr hF (fun j hj => by simp) (fun j hj => by simp at hj) ?_ ?_
  · rw [e7]
    have := fl_len (ord := ord) (p := s_lnp n w (σ 7) 0) (q := s_lnp n w (σ 7) 1) (fun y h1 h2 => by simp only [s_lnp, Bool.and_eq_true, decide_eq_true_eq] at h1 h2; rw [h1.2] at h2; exact absurd h2.2 (by decide))
    rw [ho.1] at this
    simpa using this
  · rw [e7]; rfl
set_option maxRecDepth 100000 in
theorem c_byRule32_lp (σ : xSg) (a : sAt) (n : Nat) (ord : List Nat) (w : Int32) (T : sSt) (hok : aOk a n) : ∀ (m k : Nat) (σ1 : xSg) (still la : Int32) (o0 o1 : Bool) (F : sFl), k + m = 12 → atC σ1 = a → σ1 1 0 = nI n → ordOk ord (σ1 32) → xFr [26, 27, 28, 29, 30] σ σ1 → FR a σ1 26 27 28 29 30 F → (∀ j, j < 32 → bt still j = (bt w j && !decide (j ∈ F.2.map Prod.fst))) → (∀ j ∈ F.2.map Prod.fst, bt w j = true ∧ j < 32) → F.2.length + (ord.filter (s_lnp n still (σ1 7) 0)).length + (ord.filter (s_lnp n still (σ1 7) 1)).length ≤ 10 → s_run a m ((ord.filter (s_lnp n still (σ1 7) 0)), (ord.filter (s_lnp n still (σ1 7) 1)), o0, o1, decide (la = 0), F) = T → xEv (.inl 4) M_X2_byRule (bQ a σ T) 15 ([some (.ref 26), some (.int (w)), some (.ref 32), some (.int (still)), some (.int (s_ov o0 o1)), some (.int (la)), some (.int (nI k)), none], [], σ1) := by
  have hn10 := hok.1
  have fin : ∀ (σ1 : xSg) (still : Int32) (F : sFl), xFr [26, 27, 28, 29, 30] σ σ1 → FR a σ1 26 27 28 29 30 F → (∀ j, j < 32 → bt still j = (bt w j && !decide (j ∈ F.2.map Prod.fst))) → (∀ j ∈ F.2.map Prod.fst, bt w j = true ∧ j < 32) → T.2.2.2.2.2 = F → bQ a σ T (some (.int (w &&& (still ^^^ (-1 : Int32))))) σ1 := by
    intro σ1 still F hfr hF hB hW hT
    refine ⟨_, rfl, fun j hj => ?_, by rw [hT]; exact hF, hfr⟩
    rw [b_and, b_not hj, hB j hj]
    unfold s_went
    rw [hT]
    by_cases hm : j ∈ F.2.map Prod.fst
    · simp only [hm, decide_true, Bool.not_true, Bool.and_false, Bool.not_false, Bool.and_true]
      exact (hW j hm).1
    · simp only [hm, decide_false, Bool.not_false, Bool.and_true]
      cases bt w j <;> rfl
  intro m
  induction m with
  | zero =>
    intro k σ1 still la o0 o1 F hk ha hn ho hfr hF hB hW hlen hT
    refine ev_br 2 [] ((12 : Int32) ≤ (nI k)) 107 22 ([some (.ref 26), some (.int (w)), some (.ref 32), some (.int (still)), some (.int (s_ov o0 o1)), some (.int (la)), some (.int (nI k)), none], [], σ1) rfl ?_ (fun c19 => ?_) (fun c19 => ?_)
    · trivial
    · refine ev_blk 5 [] 112 ([some (.ref 26), some (.int (w)), some (.ref 32), some (.int (still)), some (.int (s_ov o0 o1)), some (.int (la)), some (.int (nI k)), none], [.int (w &&& (still ^^^ (-1 : Int32)))], σ1) rfl ?_ ?_
      · trivial
      exact ev_iret rfl rfl rfl (fin σ1 still F hfr hF hB hW (by rw [← hT]; rfl))
    · exact absurd (show (12 : Int32) ≤ nI k by rw [show k = 12 by omega]; decide) c19
  | succ m ih =>
    intro k σ1 still la o0 o1 F hk ha hn ho hfr hF hB hW hlen hT
    subst ha
    refine ev_br 2 [] ((12 : Int32) ≤ (nI k)) 107 22 ([some (.ref 26), some (.int (w)), some (.ref 32), some (.int (still)), some (.int (s_ov o0 o1)), some (.int (la)), some (.int (nI k)), none], [], σ1) rfl ?_ (fun c19 => ?_) (fun c19 => ?_)
    · trivial
    · exact absurd c19 (nI_ge (b := 12) (by omega) (by decide))
    · refine ev_blk 5 [] 29 ([some (.ref 26), some (.int (w)), some (.ref 32), some (.int (still)), some (.int (s_ov o0 o1)), some (.int (la)), some (.int (nI k)), none], [.int (la), .ref 32, .int (s_ov o0 o1), .int (still), .ref 26], σ1) rfl ?_ ?_
      · trivial
      refine ev_callV M_X2_nextHead [.int (still), .int (s_ov o0 o1), .ref 32, .int (la)] [] 26 rfl rfl ln_X2_81 k_X2_nextHead rfl rfl rfl rfl rfl rfl (c_next32 σ1 n ord still la o0 o1 hn10 hn ho) ?_
      refine pu_k ?_
      show xEv _ _ _ 32 ([some (.ref 26), some (.int (w)), some (.ref 32), some (.int (still)), some (.int (s_ov o0 o1)), some (.int (la)), some (.int (nI k)), none], [.int (s_hp (s_pick (atC σ1) (decide (la = 0)) (s_opn o0 (ord.filter (s_lnp n still (σ1 7) 0))) (s_opn o1 (ord.filter (s_lnp n still (σ1 7) 1)))))], σ1)
      cases hp : s_pick (atC σ1) (decide (la = 0)) (s_opn o0 (ord.filter (s_lnp n still (σ1 7) 0))) (s_opn o1 (ord.filter (s_lnp n still (σ1 7) 1))) with
      | none =>
        show xEv _ _ _ 32 ([some (.ref 26), some (.int (w)), some (.ref 32), some (.int (still)), some (.int (s_ov o0 o1)), some (.int (la)), some (.int (nI k)), none], [.int ((-1 : Int32))], σ1)
        refine ev_blk 4 [] 40 ([some (.ref 26), some (.int (w)), some (.ref 32), some (.int (still)), some (.int (s_ov o0 o1)), some (.int (la)), some (.int (nI k)), some (.int ((-1 : Int32)))], [.int ((-1 : Int32)), .ref 1], σ1) rfl ?_ ?_
        · trivial
        refine ev_callV M_X3_isShip [.int ((-1 : Int32))] [] 1 rfl rfl ln_X2_59 k_X3_isShip rfl rfl rfl rfl rfl rfl (c_isShip _ _) ?_
        refine pu_k ?_
        show xEv _ _ _ 43 ([some (.ref 26), some (.int (w)), some (.ref 32), some (.int (still)), some (.int (s_ov o0 o1)), some (.int (la)), some (.int (nI k)), some (.int ((-1 : Int32)))], [.int (zi (iSh σ1 (-1 : Int32)))], σ1)
        refine ev_br 0 [] (¬ (zi (iSh σ1 (-1 : Int32))) = 0) 49 46 ([some (.ref 26), some (.int (w)), some (.ref 32), some (.int (still)), some (.int (s_ov o0 o1)), some (.int (la)), some (.int (nI k)), some (.int ((-1 : Int32)))], [], σ1) rfl ?_ (fun c43 => ?_) (fun c43 => ?_)
        · trivial
        · exact absurd (show (-1 : Int32) < 0 by decide) (zi_1.mp c43).1
        · replace c43 := zi_n.mp c43
          refine ev_blk 6 [] 112 ([some (.ref 26), some (.int (w)), some (.ref 32), some (.int (still)), some (.int (s_ov o0 o1)), some (.int (la)), some (.int (nI k)), some (.int ((-1 : Int32)))], [.int (w &&& (still ^^^ (-1 : Int32)))], σ1) rfl ?_ ?_
          · trivial
          exact ev_iret rfl rfl rfl (fin σ1 still F hfr hF hB hW (by rw [← hT, s_run_none (s_st_n hp)]))
      | some q =>
        obtain ⟨x, b⟩ := q
        show xEv _ _ _ 32 ([some (.ref 26), some (.int (w)), some (.ref 32), some (.int (still)), some (.int (s_ov o0 o1)), some (.int (la)), some (.int (nI k)), none], [.int (nI x)], σ1)
        cases b with
        | false =>
          obtain ⟨t, ht⟩ := s_pick_0 hp
          obtain ⟨ho0, hft⟩ := s_opn_c ht
          have hx := lnp_lt (show x ∈ (ord.filter (s_lnp n still (σ1 7) 0)) by rw [hft]; exact List.mem_cons_self)
          have hsx : iSh σ1 (nI x) := ⟨nI_pos (by omega), by rw [hn]; exact nI_ge hx.1 (by omega), nI_ge (b := 10) (by omega) (by omega)⟩
          have hxc : (nI x).toNatClampNeg = x := nI_clamp (by omega)
          have hFl : F.2.length < 10 := by rw [hft] at hlen; simp only [List.length_cons] at hlen; omega
          refine ev_blk 4 [] 40 ([some (.ref 26), some (.int (w)), some (.ref 32), some (.int (still)), some (.int (s_ov o0 o1)), some (.int (la)), some (.int (nI k)), some (.int (nI x))], [.int (nI x), .ref 1], σ1) rfl ?_ ?_
          · trivial
          refine ev_callV M_X3_isShip [.int (nI x)] [] 1 rfl rfl ln_X2_59 k_X3_isShip rfl rfl rfl rfl rfl rfl (c_isShip _ _) ?_
          refine pu_k ?_
          show xEv _ _ _ 43 ([some (.ref 26), some (.int (w)), some (.ref 32), some (.int (still)), some (.int (s_ov o0 o1)), some (.int (la)), some (.int (nI k)), some (.int (nI x))], [.int (zi (iSh σ1 (nI x)))], σ1)
          refine ev_br 0 [] (¬ (zi (iSh σ1 (nI x))) = 0) 49 46 ([some (.ref 26), some (.int (w)), some (.ref 32), some (.int (still)), some (.int (s_ov o0 o1)), some (.int (la)), some (.int (nI k)), some (.int (nI x))], [], σ1) rfl ?_ (fun c43 => ?_) (fun c43 => ?_)
          · trivial
          · replace c43 := zi_1.mp c43
            refine ev_blk 2 [] 52 ([some (.ref 26), some (.int (w)), some (.ref 32), some (.int (still)), some (.int (s_ov o0 o1)), some (.int (la)), some (.int (nI k)), some (.int (nI x))], [.int (nI x), .ref 26], σ1) rfl ?_ ?_
            · trivial
            refine ev_callV M_X2_enter [.int (nI x)] [] 26 rfl rfl ln_X2_85 k_X2_enter rfl rfl rfl rfl rfl rfl (c_enter26 σ1 n x F hok hn hx.1 hF hFl) ?_
            rintro r σ2 (⟨F2, hF2, rfl, hR2, hf2⟩ | ⟨hN, rfl, e2⟩)
            · show xEv _ _ _ 55 ([some (.ref 26), some (.int (w)), some (.ref 32), some (.int (still)), some (.int (s_ov o0 o1)), some (.int (la)), some (.int (nI k)), some (.int (nI x))], [.int ((1 : Int32))], σ2)
              refine ev_br 0 [] ((1 : Int32) = 0) 82 58 ([some (.ref 26), some (.int (w)), some (.ref 32), some (.int (still)), some (.int (s_ov o0 o1)), some (.int (la)), some (.int (nI k)), some (.int (nI x))], [], σ2) rfl ?_ (fun c55 => ?_) (fun c55 => ?_)
              · trivial
              · exact absurd c55 (by decide)
              · refine ev_blk 17 [vp_in (nI x) 10] 15 ([some (.ref 26), some (.int (w)), some (.ref 32), some (.int (still &&& (((1 : Int32) <<< ((nI x) &&& 31)) ^^^ (-1 : Int32)))), some (.int (s_ov o0 o1)), some (.int ((σ2 7) (nI x).toNatClampNeg)), some (.int ((nI k) + (1 : Int32))), some (.int (nI x))], [], σ2) rfl ?_ ?_
                · exact vp_in_nI (by omega) (by decide)
                rw [hxc]
                refine ev_drop 7 ?_
                have e7 : σ2 7 = σ1 7 := hf2 7 (by decide)
                have hae := atC_fr hf2 rfl
                obtain ⟨r2, p2, hw2⟩ := s_in_w hF2
                have f0 : ord.filter (s_lnp n (still &&& ((1 : Int32) <<< (nI x &&& 31) ^^^ (-1 : Int32))) (σ1 7) 0) = t := fl_clr ho.2.1 hft (fun y => lnp_clr hn10 (by omega))
                have f1 : ord.filter (s_lnp n (still &&& ((1 : Int32) <<< (nI x &&& 31) ^^^ (-1 : Int32))) (σ1 7) 1) = (ord.filter (s_lnp n still (σ1 7) 1)) := lnp_keep hn10 (by omega) hx.2.2 (by decide)
                rw [e7, hx.2.2, nI_1]
                refine ih (k + 1) σ2 (still &&& ((1 : Int32) <<< (nI x &&& 31) ^^^ (-1 : Int32))) _ o0 o1 F2 (by omega) hae ((congrFun (hf2 1 (by decide)) 0).trans hn) (by rw [hf2 32 (by decide)]; exact ho) (hfr.tr hf2) hR2 (fun j hj => ?_) (fun j hj => ?_) ?_ ?_
                · rw [b_clr (by omega) hj, hB j hj, hw2, wmem, Bool.not_or, Bool.and_assoc]
                · rw [hw2] at hj
                  simp only [List.map_append, List.map_cons, List.map_nil, List.mem_append, List.mem_singleton] at hj
                  rcases hj with hj | rfl
                  · exact hW j hj
                  · have h1 := hB j (by omega)
                    rw [hx.2.1] at h1
                    refine ⟨?_, by omega⟩
                    cases hwj : bt w j with
                    | true => rfl
                    | false => rw [hwj] at h1; simp at h1
                · rw [e7, f0, f1, hw2]
                  rw [hft] at hlen
                  simp only [List.length_append, List.length_cons, List.length_nil] at hlen ⊢
                  omega
                · rw [e7, f0, f1, ← hT, s_run_some (s_st_0 hp hF2), hft]
                  rfl
            · rw [e2]
              show xEv _ _ _ 55 ([some (.ref 26), some (.int (w)), some (.ref 32), some (.int (still)), some (.int (s_ov o0 o1)), some (.int (la)), some (.int (nI k)), some (.int (nI x))], [.int ((0 : Int32))], σ1)
              refine ev_br 0 [] ((0 : Int32) = 0) 82 58 ([some (.ref 26), some (.int (w)), some (.ref 32), some (.int (still)), some (.int (s_ov o0 o1)), some (.int (la)), some (.int (nI k)), some (.int (nI x))], [], σ1) rfl ?_ (fun c55 => ?_) (fun c55 => ?_)
              · trivial
              · refine ev_blk 14 [vp_in (nI x) 10] 15 ([some (.ref 26), some (.int (w)), some (.ref 32), some (.int (still)), some (.int ((s_ov o0 o1) &&& (((1 : Int32) <<< (((σ1 7) (nI x).toNatClampNeg) &&& 31)) ^^^ (-1 : Int32)))), some (.int (la)), some (.int ((nI k) + (1 : Int32))), some (.int (nI x))], [], σ1) rfl ?_ ?_
                · exact vp_in_nI (by omega) (by decide)
                rw [hxc]
                refine ev_drop 7 ?_
                rw [hx.2.2, s_ov_c0, nI_1]
                refine ih (k + 1) σ1 still la false o1 F (by omega) rfl hn ho hfr hF hB hW hlen ?_
                rw [← hT, s_run_some (s_st_0n hp hN)]
              · exact absurd rfl c55
          · exact absurd hsx (zi_n.mp c43)
        | true =>
          obtain ⟨t, ht⟩ := s_pick_1 hp
          obtain ⟨ho1, hft⟩ := s_opn_c ht
          have hx := lnp_lt (show x ∈ (ord.filter (s_lnp n still (σ1 7) 1)) by rw [hft]; exact List.mem_cons_self)
          have hsx : iSh σ1 (nI x) := ⟨nI_pos (by omega), by rw [hn]; exact nI_ge hx.1 (by omega), nI_ge (b := 10) (by omega) (by omega)⟩
          have hxc : (nI x).toNatClampNeg = x := nI_clamp (by omega)
          have hFl : F.2.length < 10 := by rw [hft] at hlen; simp only [List.length_cons] at hlen; omega
          refine ev_blk 4 [] 40 ([some (.ref 26), some (.int (w)), some (.ref 32), some (.int (still)), some (.int (s_ov o0 o1)), some (.int (la)), some (.int (nI k)), some (.int (nI x))], [.int (nI x), .ref 1], σ1) rfl ?_ ?_
          · trivial
          refine ev_callV M_X3_isShip [.int (nI x)] [] 1 rfl rfl ln_X2_59 k_X3_isShip rfl rfl rfl rfl rfl rfl (c_isShip _ _) ?_
          refine pu_k ?_
          show xEv _ _ _ 43 ([some (.ref 26), some (.int (w)), some (.ref 32), some (.int (still)), some (.int (s_ov o0 o1)), some (.int (la)), some (.int (nI k)), some (.int (nI x))], [.int (zi (iSh σ1 (nI x)))], σ1)
          refine ev_br 0 [] (¬ (zi (iSh σ1 (nI x))) = 0) 49 46 ([some (.ref 26), some (.int (w)), some (.ref 32), some (.int (still)), some (.int (s_ov o0 o1)), some (.int (la)), some (.int (nI k)), some (.int (nI x))], [], σ1) rfl ?_ (fun c43 => ?_) (fun c43 => ?_)
          · trivial
          · replace c43 := zi_1.mp c43
            refine ev_blk 2 [] 52 ([some (.ref 26), some (.int (w)), some (.ref 32), some (.int (still)), some (.int (s_ov o0 o1)), some (.int (la)), some (.int (nI k)), some (.int (nI x))], [.int (nI x), .ref 26], σ1) rfl ?_ ?_
            · trivial
            refine ev_callV M_X2_enter [.int (nI x)] [] 26 rfl rfl ln_X2_85 k_X2_enter rfl rfl rfl rfl rfl rfl (c_enter26 σ1 n x F hok hn hx.1 hF hFl) ?_
            rintro r σ2 (⟨F2, hF2, rfl, hR2, hf2⟩ | ⟨hN, rfl, e2⟩)
            · show xEv _ _ _ 55 ([some (.ref 26), some (.int (w)), some (.ref 32), some (.int (still)), some (.int (s_ov o0 o1)), some (.int (la)), some (.int (nI k)), some (.int (nI x))], [.int ((1 : Int32))], σ2)
              refine ev_br 0 [] ((1 : Int32) = 0) 82 58 ([some (.ref 26), some (.int (w)), some (.ref 32), some (.int (still)), some (.int (s_ov o0 o1)), some (.int (la)), some (.int (nI k)), some (.int (nI x))], [], σ2) rfl ?_ (fun c55 => ?_) (fun c55 => ?_)
              · trivial
              · exact absurd c55 (by decide)
              · refine ev_blk 17 [vp_in (nI x) 10] 15 ([some (.ref 26), some (.int (w)), some (.ref 32), some (.int (still &&& (((1 : Int32) <<< ((nI x) &&& 31)) ^^^ (-1 : Int32)))), some (.int (s_ov o0 o1)), some (.int ((σ2 7) (nI x).toNatClampNeg)), some (.int ((nI k) + (1 : Int32))), some (.int (nI x))], [], σ2) rfl ?_ ?_
                · exact vp_in_nI (by omega) (by decide)
                rw [hxc]
                refine ev_drop 7 ?_
                have e7 : σ2 7 = σ1 7 := hf2 7 (by decide)
                have hae := atC_fr hf2 rfl
                obtain ⟨r2, p2, hw2⟩ := s_in_w hF2
                have f0 : ord.filter (s_lnp n (still &&& ((1 : Int32) <<< (nI x &&& 31) ^^^ (-1 : Int32))) (σ1 7) 1) = t := fl_clr ho.2.1 hft (fun y => lnp_clr hn10 (by omega))
                have f1 : ord.filter (s_lnp n (still &&& ((1 : Int32) <<< (nI x &&& 31) ^^^ (-1 : Int32))) (σ1 7) 0) = (ord.filter (s_lnp n still (σ1 7) 0)) := lnp_keep hn10 (by omega) hx.2.2 (by decide)
                rw [e7, hx.2.2, nI_1]
                refine ih (k + 1) σ2 (still &&& ((1 : Int32) <<< (nI x &&& 31) ^^^ (-1 : Int32))) _ o0 o1 F2 (by omega) hae ((congrFun (hf2 1 (by decide)) 0).trans hn) (by rw [hf2 32 (by decide)]; exact ho) (hfr.tr hf2) hR2 (fun j hj => ?_) (fun j hj => ?_) ?_ ?_
                · rw [b_clr (by omega) hj, hB j hj, hw2, wmem, Bool.not_or, Bool.and_assoc]
                · rw [hw2] at hj
                  simp only [List.map_append, List.map_cons, List.map_nil, List.mem_append, List.mem_singleton] at hj
                  rcases hj with hj | rfl
                  · exact hW j hj
                  · have h1 := hB j (by omega)
                    rw [hx.2.1] at h1
                    refine ⟨?_, by omega⟩
                    cases hwj : bt w j with
                    | true => rfl
                    | false => rw [hwj] at h1; simp at h1
                · rw [e7, f0, f1, hw2]
                  rw [hft] at hlen
                  simp only [List.length_append, List.length_cons, List.length_nil] at hlen ⊢
                  omega
                · rw [e7, f0, f1, ← hT, s_run_some (s_st_1 hp hF2), hft]
                  rfl
            · rw [e2]
              show xEv _ _ _ 55 ([some (.ref 26), some (.int (w)), some (.ref 32), some (.int (still)), some (.int (s_ov o0 o1)), some (.int (la)), some (.int (nI k)), some (.int (nI x))], [.int ((0 : Int32))], σ1)
              refine ev_br 0 [] ((0 : Int32) = 0) 82 58 ([some (.ref 26), some (.int (w)), some (.ref 32), some (.int (still)), some (.int (s_ov o0 o1)), some (.int (la)), some (.int (nI k)), some (.int (nI x))], [], σ1) rfl ?_ (fun c55 => ?_) (fun c55 => ?_)
              · trivial
              · refine ev_blk 14 [vp_in (nI x) 10] 15 ([some (.ref 26), some (.int (w)), some (.ref 32), some (.int (still)), some (.int ((s_ov o0 o1) &&& (((1 : Int32) <<< (((σ1 7) (nI x).toNatClampNeg) &&& 31)) ^^^ (-1 : Int32)))), some (.int (la)), some (.int ((nI k) + (1 : Int32))), some (.int (nI x))], [], σ1) rfl ?_ ?_
                · exact vp_in_nI (by omega) (by decide)
                rw [hxc]
                refine ev_drop 7 ?_
                rw [hx.2.2, s_ov_c1, nI_1]
                refine ih (k + 1) σ1 still la o0 false F (by omega) rfl hn ho hfr hF hB hW hlen ?_
                rw [← hT, s_run_some (s_st_1n hp hN)]
              · exact absurd rfl c55
          · exact absurd hsx (zi_n.mp c43)
set_option maxRecDepth 100000 in
theorem c_byRule32 (σ : xSg) (n : Nat) (ord : List Nat) (w : Int32) (hok : aOk (atC σ) n) (hn : σ 1 0 = nI n) (ho : ordOk ord (σ 32)) : xCtr M_X2_byRule [.ref 26, .int w, .ref 32] σ (bQ (atC σ) σ (s_fill (atC σ) (tkC σ) (ord.filter (s_lnp n w (σ 7) 0)) (ord.filter (s_lnp n w (σ 7) 1)))) := by
  refine ctr_ev ok_X2_byRule (by decide +kernel) rfl rfl rfl ?_
  show xEv (.inl 4) M_X2_byRule _ 0 ([some (.ref 26), some (.int (w)), some (.ref 32), none, none, none, none, none], [], σ)
  refine ev_blk 1 [] 1 ([some (.ref 26), some (.int (w)), some (.ref 32), none, none, none, none, none], [.ref 26], σ) rfl ?_ ?_
  · trivial
  refine ev_callV M_X2_begin [] [] 26 rfl rfl ln_X2_78 k_X2_begin rfl rfl rfl rfl rfl rfl (c_begin26 σ) ?_
  rintro r σ1 ⟨rfl, hF, hfr⟩
  show xEv _ _ _ 4 ([some (.ref 26), some (.int (w)), some (.ref 32), none, none, none, none, none], [], σ1)
  refine ev_blk 8 [] 15 ([some (.ref 26), some (.int (w)), some (.ref 32), some (.int (w)), some (.int ((3 : Int32))), some (.int ((-1 : Int32))), some (.int ((0 : Int32))), none], [], σ1) rfl ?_ ?_
  · trivial
  have hae := atC_fr hfr rfl
  have e7 : σ1 7 = σ 7 := hfr 7 (by decide)
  refine c_byRule32_lp σ (atC σ) n ord w _ hok 12 0 σ1 w _ true true (tkC σ, []) rfl hae ((congrFun (hfr 1 (by decide)) 0).trans hn) (by rw [hfr 32 (by decide)]; exact ho) hfr hF (fun j hj => by simp) (fun j hj => by simp at hj) ?_ ?_
  · rw [e7]
    have := fl_len (ord := ord) (p := s_lnp n w (σ 7) 0) (q := s_lnp n w (σ 7) 1) (fun y h1 h2 => by simp only [s_lnp, Bool.and_eq_true, decide_eq_true_eq] at h1 h2; rw [h1.2] at h2; exact absurd h2.2 (by decide))
    rw [ho.1] at this
    simpa using this
  · rw [e7]; rfl
end
section
def tkM (σ : xSg) : sTk := fun r q => decide (r < 3) && decide (q < 20) && decide (σ 69 (20 * r + q) = 1)
def MR (σ : xSg) (F : sFl) : Prop := F.2.length ≤ 10 ∧ (∀ r q, r < 3 → q < 20 → σ 76 (20 * r + q) = zi (F.1 r q = true)) ∧ σ 57 23 = nI F.2.length ∧
  ∀ (i x r p : Nat), F.2[i]? = some (x, r, p) → σ 77 i = nI x ∧ σ 78 i = nI r ∧ σ 79 i = nI p
/-- nothing has changed but these cells, and these places of the reference's own object -/
def xFm (S P : List Nat) (σ σ' : xSg) : Prop := (∀ c, c ∉ S → c ≠ 57 → σ' c = σ c) ∧ ∀ i, i ∉ P → σ' 57 i = σ 57 i
theorem xFm.rf {S P : List Nat} {σ : xSg} : xFm S P σ σ := ⟨fun _ _ _ => rfl, fun _ _ => rfl⟩
theorem xFm.tr {S P : List Nat} {σ σ1 σ2 : xSg} (h1 : xFm S P σ σ1) (h2 : xFm S P σ1 σ2) : xFm S P σ σ2 := ⟨fun c hc hn => (h2.1 c hc hn).trans (h1.1 c hc hn), fun i hi => (h2.2 i hi).trans (h1.2 i hi)⟩
theorem xFm.mono {S P S' P' : List Nat} {σ σ1 : xSg} (h : xFm S P σ σ1) (hS : (S.all fun c => S'.contains c) = true) (hP : (P.all fun c => P'.contains c) = true) : xFm S' P' σ σ1 :=
  ⟨fun c hc hn => h.1 c (fun q => hc (by have := List.all_eq_true.mp hS c q; simpa using this)) hn, fun i hi => h.2 i (fun q => hi (by have := List.all_eq_true.mp hP i q; simpa using this))⟩
theorem x_up_up {σ : xSg} {k : Nat} {f g : Nat → Int32} : x_up (x_up σ k f) k g = x_up σ k g := by
  funext c
  unfold x_up
  by_cases h : c = k
  · rw [if_pos h, if_pos h]
  · rw [if_neg h, if_neg h, if_neg h]
theorem x_up_self {σ : xSg} {k : Nat} : x_up σ k (σ k) = σ := by
  funext c
  unfold x_up
  by_cases h : c = k
  · rw [if_pos h, h]
  · rw [if_neg h]
theorem vpi60 {r q : Nat} (hr : r < 3) (hq : q < 20) : vp_in (((20 : Int32) * (nI r)) + (nI q)) 60 := by
  rw [show (20 : Int32) = nI 20 from rfl, pk_mul, nI_add]
  exact vp_in_nI (by omega) (by decide)
theorem idx60 {r q : Nat} (hr : r < 3) (hq : q < 20) : (((20 : Int32) * (nI r)) + (nI q)).toNatClampNeg = 20 * r + q := by
  rw [show (20 : Int32) = nI 20 from rfl, pk_mul, nI_add, nI_clamp (by omega)]
theorem zi_b (b : Bool) : zi (b = true) = 0 ∨ zi (b = true) = 1 := by
  by_cases h : b = true
  · exact Or.inr (zi_t h)
  · exact Or.inl (zi_f h)
theorem p_s1 {p sp : Nat} (h : sp ≤ p + 1) : ((nI p) - (nI sp)) + (1 : Int32) = nI (p + 1 - sp) := by
  have e : nI p + 1 = nI (p + 1 - sp) + nI sp := by rw [nI_1, nI_add]; congr 1; omega
  have e2 : nI p - nI sp + 1 = nI p + 1 - nI sp := by
    rw [Int32.sub_eq_add_neg, Int32.sub_eq_add_neg, Int32.add_assoc, Int32.add_comm (-nI sp) 1, ← Int32.add_assoc]
  rw [e2, e, Int32.add_sub_cancel]
def rInv (tk : sTk) (r p ρ : Nat) : Prop := ρ ≤ p ∧ (∀ q, p - ρ ≤ q → q < p → tk r q = false) ∧ (ρ < p → tk r (p - ρ - 1) = true)
theorem rInv_t {tk : sTk} {r p : Nat} (h : tk r p = true) : rInv tk r (p + 1) 0 := ⟨Nat.zero_le _, fun q h1 h2 => by omega, fun _ => by rw [show p + 1 - 0 - 1 = p by omega]; exact h⟩
theorem rInv_f {tk : sTk} {r p ρ : Nat} (h : rInv tk r p ρ) (hf : tk r p = false) : rInv tk r (p + 1) (ρ + 1) := by
  obtain ⟨h1, h2, h3⟩ := h
  refine ⟨by omega, fun q a b => ?_, fun a => ?_⟩
  · by_cases hq : q = p
    · rw [hq]; exact hf
    · exact h2 q (by omega) (by omega)
  · rw [show p + 1 - (ρ + 1) - 1 = p - ρ - 1 by omega]
    exact h3 (by omega)
theorem rInv_fit {tk : sTk} {r p sp : Nat} (h : rInv tk r p sp) : s_fit tk sp r (p - sp) = true := by
  rw [s_fit_iff]
  intro q a b
  exact h.2.1 q a (by have := h.1; omega)
theorem rInv_no {tk : sTk} {r p ρ sp : Nat} (h : rInv tk r p ρ) (hl : ρ < sp) (hp : sp ≤ p) : ¬ s_fit tk sp r (p - sp) = true := by
  intro hf
  rw [s_fit_iff] at hf
  have h1 := h.2.2 (by omega)
  rw [hf (p - ρ - 1) (by omega) (by omega)] at h1
  cases h1
theorem s_plr_min {tk : sTk} {sp r q : Nat} (hf : s_fit tk sp r q = true) : ∀ {n p : Nat}, p ≤ q → q < p + n → (∀ s, p ≤ s → s < q → ¬ s_fit tk sp r s = true) → s_plr tk sp r n p = some q
  | 0, p, h1, h2, _ => by omega
  | n + 1, p, h1, h2, h3 => by
    unfold s_plr
    by_cases hpq : p = q
    · subst hpq; rw [if_pos hf]
    · rw [if_neg (h3 p (Nat.le_refl _) (by omega))]
      exact s_plr_min hf (by omega) (by omega) (fun s a b => h3 s (by omega) b)
theorem s_plr_no {tk : sTk} {sp r : Nat} : ∀ {n p : Nat}, (∀ s, p ≤ s → s < p + n → ¬ s_fit tk sp r s = true) → s_plr tk sp r n p = none
  | 0, _, _ => rfl
  | n + 1, p, h => by
    unfold s_plr
    rw [if_neg (h p (Nat.le_refl _) (by omega))]
    exact s_plr_no (fun s a b => h s (by omega) (by omega))
def gQ (a : sAt) (σ : xSg) (x : Nat) (F : sFl) : Option Value → xSg → Prop := fun r σ' => (∃ F', s_in a x F = some F' ∧ r = some (.int 1) ∧ MR σ' F' ∧ xFm [76, 77, 78, 79] [23] σ σ') ∨ (s_in a x F = none ∧ r = some (.int 0) ∧ σ' = σ)
theorem MR_put {σ σ' : xSg} {x r p sp : Nat} {F : sFl} (h : MR σ F) (hl : F.2.length < 10) (e23 : σ' 57 23 = nI F.2.length + 1)
    (ec : ∀ r' q, r' < 3 → q < 20 → σ' 76 (20 * r' + q) = if r' = r ∧ p ≤ q ∧ q < p + sp then 1 else σ 76 (20 * r' + q)) (ew : σ' 77 = upd (σ 77) F.2.length (nI x)) (er : σ' 78 = upd (σ 78) F.2.length (nI r)) (ep : σ' 79 = upd (σ 79) F.2.length (nI p)) :
    MR σ' (s_mark F.1 r p sp, F.2 ++ [(x, r, p)]) := by
  obtain ⟨h1, h2, h3, h6⟩ := h
  refine ⟨by simp; omega, fun r' q hr' hq => ?_, by rw [e23, nI_1]; simp, fun i y r' p' hi => ?_⟩
  · rw [ec r' q hr' hq]
    unfold s_mark
    by_cases hx : r' = r ∧ p ≤ q ∧ q < p + sp
    · rw [if_pos hx, zi_t (by simp [hx.1, hx.2.1, hx.2.2])]
    · rw [if_neg hx, h2 r' q hr' hq]
      have : (decide (r' = r) && decide (p ≤ q) && decide (q < p + sp)) = false := by
        rw [← Bool.not_eq_true]
        intro z
        simp only [Bool.and_eq_true, decide_eq_true_eq] at z
        exact hx ⟨z.1.1, z.1.2, z.2⟩
      simp only [this, Bool.or_false]
  · rw [ew, er, ep]
    by_cases hil : i < F.2.length
    · dsimp only at hi
      rw [List.getElem?_append_left hil] at hi
      rw [upd_ne (by omega), upd_ne (by omega), upd_ne (by omega)]
      exact h6 i y r' p' hi
    · dsimp only at hi
      rw [List.getElem?_append_right (by omega)] at hi
      have hi1 : i - F.2.length < 1 := (List.getElem?_eq_some_iff.mp hi).1
      have hi0 : i = F.2.length := by omega
      subst hi0
      rw [Nat.sub_self] at hi
      cases hi
      rw [upd_eq, upd_eq, upd_eq]
      exact ⟨rfl, rfl, rfl⟩
set_option maxRecDepth 100000 in
theorem m_empties_lp (σ : xSg) (hz : ∀ i, i < 60 → σ 69 i = 0 ∨ σ 69 i = 1) : ∀ (m i : Nat) (σ1 : xSg), i + m = 60 → σ1 57 23 = 0 → xFm [76] [23] σ σ1 → (∀ j, j < i → σ1 76 j = σ 69 j) → xEv (.inl 0) M_X6_empties (fun r σ2 => r = none ∧ MR σ2 (tkM σ, []) ∧ xFm [76] [23] σ σ2) 7 ([some (.ref 57), some (.int (nI i))], [], σ1) := by
  intro m
  induction m with
  | zero =>
    intro i σ1 hi h23 hfr hc
    refine ev_br 2 [] ((60 : Int32) ≤ (nI i)) 31 13 ([some (.ref 57), some (.int (nI i))], [], σ1) rfl ?_ (fun c10 => ?_) (fun c10 => ?_)
    · trivial
    · refine ev_vret rfl rfl ⟨rfl, ⟨by simp, fun r q hr hq => ?_, h23, fun i x r p h => by simp at h⟩, hfr⟩
      rw [hc (20 * r + q) (by omega)]
      rcases hz (20 * r + q) (by omega) with h | h
      · rw [h]; exact (zi_f (by simp [tkM, h])).symm
      · rw [h]; exact (zi_t (by simp [tkM, h, hr, hq])).symm
    · exact absurd (show (60 : Int32) ≤ nI i by rw [show i = 60 by omega]; decide) c10
  | succ m ih =>
    intro i σ1 hi h23 hfr hc
    have hic : (nI i).toNatClampNeg = i := nI_clamp (by omega)
    have e69 : σ1 69 = σ 69 := hfr.1 69 (by decide) (by decide)
    refine ev_br 2 [] ((60 : Int32) ≤ (nI i)) 31 13 ([some (.ref 57), some (.int (nI i))], [], σ1) rfl ?_ (fun c10 => ?_) (fun c10 => ?_)
    · trivial
    · exact absurd c10 (nI_ge (b := 60) (by omega) (by decide))
    · refine ev_blk 10 [vp_in (nI i) 60, vp_in (nI i) 60, ((σ1 69) (nI i).toNatClampNeg) = 0 ∨ ((σ1 69) (nI i).toNatClampNeg) = 1] 7 ([some (.ref 57), some (.int ((nI i) + (1 : Int32)))], [], (x_up σ1 76 (upd (σ1 76) (nI i).toNatClampNeg ((σ1 69) (nI i).toNatClampNeg)))) rfl ?_ ?_
      · refine ⟨vp_in_nI (by omega) (by decide), vp_in_nI (by omega) (by decide), ?_⟩
        rw [hic, e69]
        exact hz i (by omega)
      rw [hic]
      rw [nI_1]
      refine ih (i + 1) _ (by omega) h23 ⟨fun c hc hn => ?_, hfr.2⟩ (fun j hj => ?_)
      · have h76 : c ≠ 76 := fun q => hc (by simp [q])
        exact (x_up_ne h76).trans (hfr.1 c hc hn)
      · show upd (σ1 76) i (σ1 69 i) j = σ 69 j
        by_cases hji : j = i
        · rw [hji, upd_eq, e69]
        · rw [upd_ne hji]; exact hc j (by omega)
set_option maxRecDepth 100000 in
theorem m_empties (σ : xSg) (hz : ∀ i, i < 60 → σ 69 i = 0 ∨ σ 69 i = 1) : xCtr M_X6_empties [.ref 57] σ (fun r σ2 => r = none ∧ MR σ2 (tkM σ, []) ∧ xFm [76] [23] σ σ2) := by
  refine ctr_ev ok_X6_empties (by decide +kernel) rfl rfl rfl ?_
  show xEv (.inl 0) M_X6_empties _ 0 ([some (.ref 57), none], [], σ)
  refine ev_blk 5 [] 7 ([some (.ref 57), some (.int ((0 : Int32)))], [], (x_up σ 57 (upd (σ 57) 23 ((0 : Int32))))) rfl ?_ ?_
  · trivial
  refine m_empties_lp σ hz 60 0 _ rfl rfl ⟨fun c hc hn => x_up_ne hn, fun i hi => ?_⟩ (fun j hj => absurd hj (Nat.not_lt_zero j))
  have h23 : i ≠ 23 := fun q => hi (by simp [q])
  exact upd_ne h23
set_option maxRecDepth 100000 in
theorem m_goesIn_l3 (σ : xSg) (x : Nat) (F : sFl) (n : Nat) (hok : aOk (atM σ) n) (hx : x < n) (hF : MR σ F) (hl : F.2.length < 10) (hFn : ∀ q ∈ F.2, q.1 < n) (hb : s_bar (atM σ) x F.2 = false) (r p st : Nat) (ru : Int32) (hr : r < 3) (hp : p < 20) (hst : st + s_sp (atM σ) x = p + 1) (hpl : s_plc (atM σ) F.1 (s_sp (atM σ) x) (s_rows (atM σ)) 0 = some (r, st)) : ∀ (m q : Nat) (g : Nat → Int32), q + m = p + 1 → st ≤ q → (∀ j, g j = if 20 * r + st ≤ j ∧ j < 20 * r + q then 1 else σ 76 j) → xEv (.inl 2) M_X6_goesIn (gQ (atM σ) σ x F) 111 ([some (.ref 57), some (.int (nI x)), some (.int (nI (s_sp (atM σ) x))), some (.int (nI r)), some (.int (ru)), some (.int (nI p)), some (.int (nI q))], [], (x_up σ 76 g)) := by
  have hn10 := hok.1
  obtain ⟨hs0, hs1, hs2⟩ := s_sp_ok hok hx
  obtain ⟨hg0, hg1, hg2⟩ := s_long_ok hok
  obtain ⟨hr0, hr1, hr2⟩ := s_rows_ok hok
  have h23 := hF.2.2.1
  have hxc : (nI x).toNatClampNeg = x := nI_clamp (by omega)
  have h23c : (σ 57 23).toNatClampNeg = F.2.length := by rw [h23, nI_clamp (by omega)]
  intro m
  induction m with
  | zero =>
    intro q g hq hstq hg
    have hqp : q = p + 1 := by omega
    have hpp : nI p - nI (s_sp (atM σ) x) + 1 = nI st := by rw [p_s1 (by omega)]; congr 1; omega
    refine ev_br 2 [] ((nI p) < (nI q)) 137 118 ([some (.ref 57), some (.int (nI x)), some (.int (nI (s_sp (atM σ) x))), some (.int (nI r)), some (.int (ru)), some (.int (nI p)), some (.int (nI q))], [], (x_up σ 76 g)) rfl ?_ (fun c115 => ?_) (fun c115 => ?_)
    · trivial
    · refine ev_blk 29 [vp_in ((σ 57 23)) 10, vp_in ((σ 57 23)) 10, vp_in ((σ 57 23)) 10] 183 ([some (.ref 57), some (.int (nI x)), some (.int (nI (s_sp (atM σ) x))), some (.int (nI r)), some (.int (ru)), some (.int (nI p)), some (.int (nI q))], [.int ((1 : Int32))], (x_up (x_up (x_up (x_up (x_up σ 76 g) 77 (upd (σ 77) (σ 57 23).toNatClampNeg (nI x))) 78 (upd (σ 78) (σ 57 23).toNatClampNeg (nI r))) 79 (upd (σ 79) (σ 57 23).toNatClampNeg (((nI p) - (nI (s_sp (atM σ) x))) + (1 : Int32)))) 57 (upd (σ 57) 23 ((σ 57 23) + (1 : Int32))))) rfl ?_ ?_
      · exact ⟨(by rw [h23]; exact vp_in_nI (by omega) (by decide)), (by rw [h23]; exact vp_in_nI (by omega) (by decide)), (by rw [h23]; exact vp_in_nI (by omega) (by decide))⟩
      rw [h23c]
      refine ev_iret rfl rfl nar1 (Or.inl ⟨_, s_in_some hb hpl, rfl, MR_put hF hl (show σ 57 23 + 1 = _ by rw [h23]) (fun r2 q2 hr2 hq2 => ?_) rfl rfl ?_, ⟨fun c hc hn => by simp at hc; simp [x_up, hc, hn], fun i hi => by simp at hi; simp [x_up, upd, hi]⟩⟩)
      · show g (20 * r2 + q2) = _
        rw [hg, hqp]
        by_cases hz : r2 = r ∧ st ≤ q2 ∧ q2 < st + s_sp (atM σ) x
        · rw [if_pos hz, if_pos (by obtain ⟨z1, z2, z3⟩ := hz; subst z1; omega)]
        · rw [if_neg hz, if_neg (fun z => hz ?_)]
          have : r2 = r := by omega
          exact ⟨this, by omega, by omega⟩
      · show upd (σ 79) F.2.length (((nI p) - (nI (s_sp (atM σ) x))) + (1 : Int32)) = _
        rw [hpp]
    · exact absurd (nI_lt (by omega) (by omega)) c115
  | succ m ih =>
    intro q g hq hstq hg
    have hqi := idx60 hr (show q < 20 by omega)
    refine ev_br 2 [] ((nI p) < (nI q)) 137 118 ([some (.ref 57), some (.int (nI x)), some (.int (nI (s_sp (atM σ) x))), some (.int (nI r)), some (.int (ru)), some (.int (nI p)), some (.int (nI q))], [], (x_up σ 76 g)) rfl ?_ (fun c115 => ?_) (fun c115 => ?_)
    · trivial
    · exact absurd c115 (nI_nlt (by omega) (by omega))
    · refine ev_blk 11 [vp_in (((20 : Int32) * (nI r)) + (nI q)) 60, (1 : Int32) = 0 ∨ (1 : Int32) = 1] 111 ([some (.ref 57), some (.int (nI x)), some (.int (nI (s_sp (atM σ) x))), some (.int (nI r)), some (.int (ru)), some (.int (nI p)), some (.int ((nI q) + (1 : Int32)))], [], (x_up (x_up σ 76 g) 76 (upd g (((20 : Int32) * (nI r)) + (nI q)).toNatClampNeg ((1 : Int32))))) rfl ?_ ?_
      · exact ⟨vpi60 hr (by omega), Or.inr rfl⟩
      rw [hqi]
      rw [nI_1, x_up_up]
      refine ih (q + 1) _ (by omega) (by omega) (fun j => ?_)
      by_cases hj : j = 20 * r + q
      · subst hj
        rw [upd_eq, if_pos (by omega)]
      · rw [upd_ne hj, hg]
        by_cases hz : 20 * r + st ≤ j ∧ j < 20 * r + q
        · rw [if_pos hz, if_pos (by omega)]
        · rw [if_neg hz, if_neg (by omega)]
set_option maxRecDepth 100000 in
theorem m_goesIn_l2 (σ : xSg) (x : Nat) (F : sFl) (n : Nat) (hok : aOk (atM σ) n) (hx : x < n) (hF : MR σ F) (hl : F.2.length < 10) (hFn : ∀ q ∈ F.2, q.1 < n) (hb : s_bar (atM σ) x F.2 = false) (r : Nat) (hr : r < 3) (hpl : ∀ st, s_plr F.1 (s_sp (atM σ) x) r (s_long (atM σ) + 1 - s_sp (atM σ) x) 0 = some st → s_plc (atM σ) F.1 (s_sp (atM σ) x) (s_rows (atM σ)) 0 = some (r, st)) (hnx : s_plr F.1 (s_sp (atM σ) x) r (s_long (atM σ) + 1 - s_sp (atM σ) x) 0 = none → xEv (.inl 2) M_X6_goesIn (gQ (atM σ) σ x F) 42 ([some (.ref 57), some (.int (nI x)), some (.int (nI (s_sp (atM σ) x))), some (.int (nI (r + 1))), none, none, none], [], σ)) : ∀ (m p ρ : Nat), p + m = s_long (atM σ) → rInv F.1 r p ρ → ρ < s_sp (atM σ) x → (∀ s, s + s_sp (atM σ) x ≤ p → ¬ s_fit F.1 (s_sp (atM σ) x) r s = true) → xEv (.inl 2) M_X6_goesIn (gQ (atM σ) σ x F) 58 ([some (.ref 57), some (.int (nI x)), some (.int (nI (s_sp (atM σ) x))), some (.int (nI r)), some (.int (nI ρ)), some (.int (nI p)), none], [], σ) := by
  have hn10 := hok.1
  obtain ⟨hs0, hs1, hs2⟩ := s_sp_ok hok hx
  obtain ⟨hg0, hg1, hg2⟩ := s_long_ok hok
  obtain ⟨hr0, hr1, hr2⟩ := s_rows_ok hok
  have h23 := hF.2.2.1
  have hxc : (nI x).toNatClampNeg = x := nI_clamp (by omega)
  have h23c : (σ 57 23).toNatClampNeg = F.2.length := by rw [h23, nI_clamp (by omega)]
  intro m
  induction m with
  | zero =>
    intro p ρ hp hi hρ hno
    refine ev_br 5 [vp_in ((0 : Int32)) 5] (((σ 68) 0) ≤ (nI p)) 190 69 ([some (.ref 57), some (.int (nI x)), some (.int (nI (s_sp (atM σ) x))), some (.int (nI r)), some (.int (nI ρ)), some (.int (nI p)), none], [], σ) rfl ?_ (fun c66 => ?_) (fun c66 => ?_)
    · exact vp_in_nI (n := 0) (by decide) (by decide)
    · refine ev_blk 2 [] 42 ([some (.ref 57), some (.int (nI x)), some (.int (nI (s_sp (atM σ) x))), some (.int ((nI r) + (1 : Int32))), some (.int (nI ρ)), some (.int (nI p)), none], [], σ) rfl ?_ ?_
      · trivial
      rw [nI_1]
      refine ev_drop 4 ?_
      refine ev_drop 5 ?_
      exact hnx (s_plr_no (fun s _ hs => hno s (by omega)))
    · exact absurd (show aS (atM σ) 0 ≤ nI p by rw [hg0]; exact nI_le (by omega) (by omega)) c66
  | succ m ih =>
    intro p ρ hp hi hρ hno
    have hpi := idx60 hr (show p < 20 by omega)
    have htk := hF.2.1 r p hr (by omega)
    have hρp := hi.1
    have hns : ∀ ρ2, rInv F.1 r (p + 1) ρ2 → ρ2 < s_sp (atM σ) x → ∀ s, s + s_sp (atM σ) x ≤ p + 1 → ¬ s_fit F.1 (s_sp (atM σ) x) r s = true := fun ρ2 h2 h3 s hs => by
      by_cases hsp : s + s_sp (atM σ) x ≤ p
      · exact hno s hsp
      · have e : s = p + 1 - s_sp (atM σ) x := by omega
        rw [e]
        exact rInv_no h2 h3 (by omega)
    refine ev_br 5 [vp_in ((0 : Int32)) 5] (((σ 68) 0) ≤ (nI p)) 190 69 ([some (.ref 57), some (.int (nI x)), some (.int (nI (s_sp (atM σ) x))), some (.int (nI r)), some (.int (nI ρ)), some (.int (nI p)), none], [], σ) rfl ?_ (fun c66 => ?_) (fun c66 => ?_)
    · exact vp_in_nI (n := 0) (by decide) (by decide)
    · exact absurd (show nI (s_long (atM σ)) ≤ nI p by rw [← hg0]; exact c66) (nI_ge (by omega) (by omega))
    · refine ev_br 8 [vp_in (((20 : Int32) * (nI r)) + (nI p)) 60] (((σ 76) (((20 : Int32) * (nI r)) + (nI p)).toNatClampNeg) = 0) 88 84 ([some (.ref 57), some (.int (nI x)), some (.int (nI (s_sp (atM σ) x))), some (.int (nI r)), some (.int (nI ρ)), some (.int (nI p)), none], [], σ) rfl ?_ (fun c81 => ?_) (fun c81 => ?_)
      · exact vpi60 hr (by omega)
      · rw [hpi] at c81
        refine ev_br 6 [] ((nI (s_sp (atM σ) x)) ≤ ((nI ρ) + (1 : Int32))) 103 100 ([some (.ref 57), some (.int (nI x)), some (.int (nI (s_sp (atM σ) x))), some (.int (nI r)), some (.int ((nI ρ) + (1 : Int32))), some (.int (nI p)), none], [], σ) rfl ?_ (fun c97 => ?_) (fun c97 => ?_)
        · trivial
        · refine ev_blk 6 [] 111 ([some (.ref 57), some (.int (nI x)), some (.int (nI (s_sp (atM σ) x))), some (.int (nI r)), some (.int ((nI ρ) + (1 : Int32))), some (.int (nI p)), some (.int (((nI p) - (nI (s_sp (atM σ) x))) + (1 : Int32)))], [], σ) rfl ?_ ?_
          · trivial
          rw [htk] at c81
          have hfr : F.1 r p = false := by simpa using zi_0.mp c81
          have hi2 := rInv_f hi hfr
          have h97 : s_sp (atM σ) x ≤ ρ + 1 := Nat.le_of_not_lt (fun q => nI_ge q (by omega) (by rw [← nI_1]; exact c97))
          have hρ2 : ρ + 1 = s_sp (atM σ) x := by omega
          rw [hρ2] at hi2
          have hfit := rInv_fit hi2
          have hst := hpl _ (s_plr_min hfit (Nat.zero_le _) (by omega) (fun s _ hs => hno s (by omega)))
          rw [show nI p - nI (s_sp (atM σ) x) + 1 = nI (p + 1 - s_sp (atM σ) x) from p_s1 (by omega)]
          have e76 : σ = x_up σ 76 (σ 76) := (x_up_self).symm
          have h3 := m_goesIn_l3 σ x F n hok hx hF hl hFn hb r p (p + 1 - s_sp (atM σ) x) (nI ρ + 1) hr (by omega) (by omega) hst (s_sp (atM σ) x) (p + 1 - s_sp (atM σ) x) (σ 76) (by omega) (by omega) (fun j => by rw [if_neg (by omega)])
          rw [← e76] at h3
          exact h3
        · refine ev_blk 3 [] 58 ([some (.ref 57), some (.int (nI x)), some (.int (nI (s_sp (atM σ) x))), some (.int (nI r)), some (.int ((nI ρ) + (1 : Int32))), some (.int ((nI p) + (1 : Int32))), none], [], σ) rfl ?_ ?_
          · trivial
          rw [htk] at c81
          have hfr : F.1 r p = false := by simpa using zi_0.mp c81
          have hi2 := rInv_f hi hfr
          have h97 : ¬ s_sp (atM σ) x ≤ ρ + 1 := fun q => c97 (by rw [nI_1]; exact nI_le q (by omega))
          rw [nI_1, nI_1]
          exact ih (p + 1) (ρ + 1) (by omega) hi2 (by omega) (hns _ hi2 (by omega))
      · rw [hpi] at c81
        refine ev_br 5 [] ((nI (s_sp (atM σ) x)) ≤ (0 : Int32)) 103 100 ([some (.ref 57), some (.int (nI x)), some (.int (nI (s_sp (atM σ) x))), some (.int (nI r)), some (.int ((0 : Int32))), some (.int (nI p)), none], [], σ) rfl ?_ (fun c97 => ?_) (fun c97 => ?_)
        · trivial
        · exact absurd ((nI_leI (b := 0) (by omega) (by decide)).mp c97) (by omega)
        · refine ev_blk 3 [] 58 ([some (.ref 57), some (.int (nI x)), some (.int (nI (s_sp (atM σ) x))), some (.int (nI r)), some (.int ((0 : Int32))), some (.int ((nI p) + (1 : Int32))), none], [], σ) rfl ?_ ?_
          · trivial
          rw [htk] at c81
          have htr : F.1 r p = true := zi_1.mp c81
          have hi2 := rInv_t htr
          rw [nI_1]
          exact ih (p + 1) 0 (by omega) hi2 (by omega) (hns _ hi2 (by omega))
set_option maxRecDepth 100000 in
theorem m_goesIn_l1 (σ : xSg) (x : Nat) (F : sFl) (n : Nat) (hok : aOk (atM σ) n) (hx : x < n) (hF : MR σ F) (hl : F.2.length < 10) (hFn : ∀ q ∈ F.2, q.1 < n) (hb : s_bar (atM σ) x F.2 = false) : ∀ (m r : Nat), r + m = s_rows (atM σ) → s_plc (atM σ) F.1 (s_sp (atM σ) x) (s_rows (atM σ)) 0 = s_plc (atM σ) F.1 (s_sp (atM σ) x) m r → xEv (.inl 2) M_X6_goesIn (gQ (atM σ) σ x F) 42 ([some (.ref 57), some (.int (nI x)), some (.int (nI (s_sp (atM σ) x))), some (.int (nI r)), none, none, none], [], σ) := by
  have hn10 := hok.1
  obtain ⟨hs0, hs1, hs2⟩ := s_sp_ok hok hx
  obtain ⟨hg0, hg1, hg2⟩ := s_long_ok hok
  obtain ⟨hr0, hr1, hr2⟩ := s_rows_ok hok
  have h23 := hF.2.2.1
  have hxc : (nI x).toNatClampNeg = x := nI_clamp (by omega)
  have h23c : (σ 57 23).toNatClampNeg = F.2.length := by rw [h23, nI_clamp (by omega)]
  intro m
  induction m with
  | zero =>
    intro r hm hp
    refine ev_br 5 [vp_in ((1 : Int32)) 5] (((σ 68) 1) ≤ (nI r)) 196 52 ([some (.ref 57), some (.int (nI x)), some (.int (nI (s_sp (atM σ) x))), some (.int (nI r)), none, none, none], [], σ) rfl ?_ (fun c49 => ?_) (fun c49 => ?_)
    · exact vp_in_nI (n := 1) (by decide) (by decide)
    · refine ev_blk 1 [] 197 ([some (.ref 57), some (.int (nI x)), some (.int (nI (s_sp (atM σ) x))), some (.int (nI r)), none, none, none], [.int ((0 : Int32))], σ) rfl ?_ ?_
      · trivial
      exact ev_iret rfl rfl nar0 (Or.inr ⟨s_in_none hp, rfl, rfl⟩)
    · exact absurd (show aS (atM σ) 1 ≤ nI r by rw [hr0]; exact nI_le (by omega) (by omega)) c49
  | succ m ih =>
    intro r hm hp
    refine ev_br 5 [vp_in ((1 : Int32)) 5] (((σ 68) 1) ≤ (nI r)) 196 52 ([some (.ref 57), some (.int (nI x)), some (.int (nI (s_sp (atM σ) x))), some (.int (nI r)), none, none, none], [], σ) rfl ?_ (fun c49 => ?_) (fun c49 => ?_)
    · exact vp_in_nI (n := 1) (by decide) (by decide)
    · exact absurd (show nI (s_rows (atM σ)) ≤ nI r by rw [← hr0]; exact c49) (nI_ge (by omega) (by omega))
    · refine ev_blk 4 [] 58 ([some (.ref 57), some (.int (nI x)), some (.int (nI (s_sp (atM σ) x))), some (.int (nI r)), some (.int ((0 : Int32))), some (.int ((0 : Int32))), none], [], σ) rfl ?_ ?_
      · trivial
      refine m_goesIn_l2 σ x F n hok hx hF hl hFn hb r (by omega) (fun st hst => by rw [hp, s_plc, hst]) (fun hn => ih (r + 1) (by omega) (by rw [hp, s_plc, hn])) (s_long (atM σ)) 0 0 (by omega) ⟨Nat.le_refl _, fun q h1 h2 => by omega, fun h => by omega⟩ (by omega) (fun s hs => by omega)
set_option maxRecDepth 100000 in
theorem m_goesIn (σ : xSg) (x : Nat) (F : sFl) (n : Nat) (hok : aOk (atM σ) n) (hx : x < n) (hF : MR σ F) (hl : F.2.length < 10) (hFn : ∀ q ∈ F.2, q.1 < n) : xCtr M_X6_goesIn [.ref 57, .int (nI x)] σ (gQ (atM σ) σ x F) := by
  have hn10 := hok.1
  obtain ⟨hs0, hs1, hs2⟩ := s_sp_ok hok hx
  obtain ⟨hg0, hg1, hg2⟩ := s_long_ok hok
  obtain ⟨hr0, hr1, hr2⟩ := s_rows_ok hok
  have h23 := hF.2.2.1
  have hxc : (nI x).toNatClampNeg = x := nI_clamp (by omega)
  have h23c : (σ 57 23).toNatClampNeg = F.2.length := by rw [h23, nI_clamp (by omega)]
  have hvx : vp_in (nI x) 10 := vp_in_nI (by omega) (by decide)
  refine ctr_ev ok_X6_goesIn (by decide +kernel) rfl rfl rfl ?_
  show xEv (.inl 2) M_X6_goesIn _ 0 ([some (.ref 57), some (.int (nI x)), none, none, none, none, none], [], σ)
  cases hwq : F.2 with
  | nil =>
    have hz : σ 57 23 ≤ 0 := by rw [h23, hwq]; decide
    refine ev_br 2 [] ((σ 57 23) ≤ 0) 34 7 ([some (.ref 57), some (.int (nI x)), none, none, none, none, none], [], σ) rfl ?_ (fun c4 => ?_) (fun c4 => ?_)
    · trivial
    · refine ev_blk 2 [] 36 ([some (.ref 57), some (.int (nI x)), none, none, none, none, none], [.int (nI x), .ref 57], σ) rfl ?_ ?_
      · trivial
      refine ev_callV M_X6_spanOf [.int (nI x)] [] 57 rfl rfl ln_X6_140 k_X6_spanOf rfl rfl rfl rfl rfl rfl (m_span _ _ hvx) ?_
      refine pu_k ?_
      show xEv _ _ _ 39 ([some (.ref 57), some (.int (nI x)), none, none, none, none, none], [.int (s_span (σ 58) (σ 59) (nI x).toNatClampNeg)], σ)
      rw [(show s_span (σ 58) (σ 59) (nI x).toNatClampNeg = nI (s_sp (atM σ) x) by rw [hxc]; exact hs0)]
      refine ev_blk 3 [] 42 ([some (.ref 57), some (.int (nI x)), some (.int (nI (s_sp (atM σ) x))), some (.int ((0 : Int32))), none, none, none], [], σ) rfl ?_ ?_
      · trivial
      exact m_goesIn_l1 σ x F n hok hx hF hl hFn (by simp [s_bar, hwq]) _ 0 (by omega) rfl
    · exact absurd hz c4
  | cons q t =>
    have hz : ¬ σ 57 23 ≤ 0 := by rw [h23]; exact nI_nle (by rw [hwq]; simp) (by omega)
    have hq1 : q.1 < n := hFn q (by rw [hwq]; exact List.mem_cons_self)
    have hq0 : σ 77 0 = nI q.1 := (hF.2.2.2 0 q.1 q.2.1 q.2.2 (by rw [hwq]; rfl)).1
    have hw77 : vp_in (σ 77 0) 10 := by rw [hq0]; exact vp_in_nI (by omega) (by decide)
    have hq77 : (σ 77 0).toNatClampNeg = q.1 := by rw [hq0, nI_clamp (by omega)]
    refine ev_br 2 [] ((σ 57 23) ≤ 0) 34 7 ([some (.ref 57), some (.int (nI x)), none, none, none, none, none], [], σ) rfl ?_ (fun c4 => ?_) (fun c4 => ?_)
    · trivial
    · exact absurd c4 hz
    · refine ev_br 5 [vp_in (nI x) 10] (((σ 58) (nI x).toNatClampNeg) = (5 : Int32)) 32 17 ([some (.ref 57), some (.int (nI x)), none, none, none, none, none], [], σ) rfl ?_ (fun c14 => ?_) (fun c14 => ?_)
      · exact hvx
      · rw [hxc] at c14
        refine ev_blk 1 [] 33 ([some (.ref 57), some (.int (nI x)), none, none, none, none, none], [.int ((0 : Int32))], σ) rfl ?_ ?_
        · trivial
        exact ev_iret rfl rfl nar0 (Or.inr ⟨s_bar_f (by unfold s_bar; rw [show decide (aK (atM σ) x = 5) = true from decide_eq_true c14, hwq]; rfl), rfl, rfl⟩)
      · rw [hxc] at c14
        refine ev_br 8 [vp_in ((0 : Int32)) 10, vp_in ((σ 77) 0) 10] (¬ ((σ 58) ((σ 77) 0).toNatClampNeg) = (5 : Int32)) 34 32 ([some (.ref 57), some (.int (nI x)), none, none, none, none, none], [], σ) rfl ?_ (fun c29 => ?_) (fun c29 => ?_)
        · exact ⟨vp_in_nI (n := 0) (by decide) (by decide), hw77⟩
        · refine ev_blk 2 [] 36 ([some (.ref 57), some (.int (nI x)), none, none, none, none, none], [.int (nI x), .ref 57], σ) rfl ?_ ?_
          · trivial
          refine ev_callV M_X6_spanOf [.int (nI x)] [] 57 rfl rfl ln_X6_140 k_X6_spanOf rfl rfl rfl rfl rfl rfl (m_span _ _ hvx) ?_
          refine pu_k ?_
          show xEv _ _ _ 39 ([some (.ref 57), some (.int (nI x)), none, none, none, none, none], [.int (s_span (σ 58) (σ 59) (nI x).toNatClampNeg)], σ)
          rw [(show s_span (σ 58) (σ 59) (nI x).toNatClampNeg = nI (s_sp (atM σ) x) by rw [hxc]; exact hs0)]
          refine ev_blk 3 [] 42 ([some (.ref 57), some (.int (nI x)), some (.int (nI (s_sp (atM σ) x))), some (.int ((0 : Int32))), none, none, none], [], σ) rfl ?_ ?_
          · trivial
          refine m_goesIn_l1 σ x F n hok hx hF hl hFn ?_ _ 0 (by omega) rfl
          unfold s_bar
          have k1 : decide (aK (atM σ) x = 5) = false := decide_eq_false c14
          have k2 : s_tank (atM σ) F.2 = false := by rw [hwq]; exact decide_eq_false (by rw [hq77] at c29; exact c29)
          rw [k1, k2]
          simp
        · refine ev_blk 1 [] 33 ([some (.ref 57), some (.int (nI x)), none, none, none, none, none], [.int ((0 : Int32))], σ) rfl ?_ ?_
          · trivial
          exact ev_iret rfl rfl nar0 (Or.inr ⟨s_bar_f (by unfold s_bar; rw [hwq, show s_tank (atM σ) (q :: t) = true from decide_eq_true (by rw [hq77] at c29; exact Classical.byContradiction c29)]; simp), rfl, rfl⟩)
end
section
/-- who stands there, in thought, as the reference keeps it -/
def SR (σ : xSg) (A B : List Nat) : Prop := A.length ≤ 10 ∧ B.length ≤ 10 ∧ (∀ (i x : Nat), A[i]? = some x → σ 74 i = nI x) ∧ (∀ (i x : Nat), B[i]? = some x → σ 74 (10 + i) = nI x) ∧ σ 75 0 = nI A.length ∧ σ 75 1 = nI B.length
theorem s_sec_defM (σ : xSg) (x y : Nat) (lt : Bool) : s_sec (atM σ) x y lt = (if σ 68 4 = 1 then decide (s_rank (σ 58) (σ 60) x < s_rank (σ 58) (σ 60) y)
  else if σ 68 4 = 2 then decide (s_span (σ 58) (σ 59) y < s_span (σ 58) (σ 59) x)
  else if σ 68 4 = 3 then decide (σ 62 y < σ 62 x)
  else if σ 68 4 = 4 then decide (σ 61 x < σ 61 y)
  else lt) := rfl
theorem rg04 {x : Int32} (h : rg x 0 4) (h0 : ¬ x = 0) (h1 : ¬ x = 1) (h2 : ¬ x = 2) (h3 : ¬ x = 3) : x = 4 := by
  obtain ⟨j, rfl, -, hj⟩ := h
  rcases (by omega : j = 0 ∨ j = 1 ∨ j = 2 ∨ j = 3 ∨ j = 4) with rfl | rfl | rfl | rfl | rfl
  · exact absurd rfl h0
  · exact absurd rfl h1
  · exact absurd rfl h2
  · exact absurd rfl h3
  · rfl
/-- a row whose run from b on, k long, has moved one place down -/
def s_shf (f : Nat → Int32) (b k : Nat) : Nat → Int32 := fun j => if b ≤ j ∧ j + 1 < b + k then f (j + 1) else f j
theorem s_shf_1 {f : Nat → Int32} {b : Nat} : s_shf f b 1 = f := by
  funext j
  unfold s_shf
  rw [if_neg (by omega)]
theorem s_shf_up {f : Nat → Int32} {b k : Nat} (hk : 1 ≤ k) : upd (s_shf f b k) (b + k - 1) (s_shf f b k (b + k)) = s_shf f b (k + 1) := by
  funext j
  unfold upd
  by_cases hj : j = b + k - 1
  · rw [if_pos hj]
    unfold s_shf
    rw [if_neg (by omega), if_pos (by omega), hj]
    congr 1
    omega
  · rw [if_neg hj]
    unfold s_shf
    by_cases h : b ≤ j ∧ j + 1 < b + k
    · rw [if_pos h, if_pos (by omega)]
    · rw [if_neg h, if_neg (by omega)]
set_option maxRecDepth 100000 in
theorem m_isOther (σ : xSg) (x y : Nat) (la : Int32) (hx : x < 10) (hy : y < 10) (h0 : σ 74 0 = nI x) (h10 : σ 74 10 = nI y) (h4 : rg (σ 68 4) 0 4) : xPu M_X6_isOther [.ref 57, .int la] σ (.int (zi (s_sec (atM σ) x y (decide (la = 0)) = true))) := by
  have hxc : (nI x).toNatClampNeg = x := nI_clamp (by omega)
  have hyc : (nI y).toNatClampNeg = y := nI_clamp (by omega)
  refine ctr_ev ok_X6_isOther (by decide +kernel) rfl rfl rfl ?_
  show xEv (.inl 2) M_X6_isOther _ 0 ([some (.ref 57), some (.int (la)), none, none], [], σ)
  refine ev_sw 14 [vp_in ((0 : Int32)) 20, vp_in ((10 : Int32)) 20, vp_in ((4 : Int32)) 5] ((σ 68) 4) [((0 : Int32), 52), ((1 : Int32), 62), ((2 : Int32), 81), ((3 : Int32), 100)] 121 ([some (.ref 57), some (.int (la)), some (.int ((σ 74) 0)), some (.int ((σ 74) 10))], [], σ) rfl ?_ ?_
  · exact ⟨vp_in_nI (n := 0) (by decide) (by decide), vp_in_nI (n := 10) (by decide) (by decide), vp_in_nI (n := 4) (by decide) (by decide)⟩
  refine ⟨fun c21_0 => ?_, fun c21_0 => ?_⟩
  · refine ev_br 1 [] (¬ la = 0) 60 56 ([some (.ref 57), some (.int (la)), some (.int ((σ 74) 0)), some (.int ((σ 74) 10))], [], σ) rfl ?_ (fun c53 => ?_) (fun c53 => ?_)
    · trivial
    · rw [h10]
      rw [h0]
      refine ev_blk 1 [] 61 ([some (.ref 57), some (.int (la)), some (.int (nI x)), some (.int (nI y))], [.int ((0 : Int32))], σ) rfl ?_ ?_
      · trivial
      exact ev_iret rfl rfl nar0 (pu_f (by rw [s_sec_defM]; simp_all))
    · rw [h10]
      rw [h0]
      refine ev_blk 2 [] 61 ([some (.ref 57), some (.int (la)), some (.int (nI x)), some (.int (nI y))], [.int ((1 : Int32))], σ) rfl ?_ ?_
      · trivial
      exact ev_iret rfl rfl nar1 (pu_t (by rw [s_sec_defM]; simp_all))
  refine ⟨fun c21_1 => ?_, fun c21_1 => ?_⟩
  · refine ev_blk 2 [] 64 ([some (.ref 57), some (.int (la)), some (.int ((σ 74) 0)), some (.int ((σ 74) 10))], [.int ((σ 74) 10), .ref 57], σ) rfl ?_ ?_
    · trivial
    rw [h10]
    rw [h0]
    refine ev_callV M_X6_rankOf [.int (nI y)] [] 57 rfl rfl ln_X6_143 k_X6_rankOf rfl rfl rfl rfl rfl rfl (m_rank _ _ (vp_in_nI (by omega) (by decide))) ?_
    refine pu_k ?_
    show xEv _ _ _ 67 ([some (.ref 57), some (.int (la)), some (.int (nI x)), some (.int (nI y))], [.int (s_rank (σ 58) (σ 60) (nI y).toNatClampNeg)], σ)
    rw [hyc]
    refine ev_blk 2 [] 69 ([some (.ref 57), some (.int (la)), some (.int (nI x)), some (.int (nI y))], [.int (nI x), .ref 57, .int (s_rank (σ 58) (σ 60) y)], σ) rfl ?_ ?_
    · trivial
    refine ev_callV M_X6_rankOf [.int (nI x)] [.int (s_rank (σ 58) (σ 60) y)] 57 rfl rfl ln_X6_143 k_X6_rankOf rfl rfl rfl rfl rfl rfl (m_rank _ _ (vp_in_nI (by omega) (by decide))) ?_
    refine pu_k ?_
    show xEv _ _ _ 72 ([some (.ref 57), some (.int (la)), some (.int (nI x)), some (.int (nI y))], [.int (s_rank (σ 58) (σ 60) (nI x).toNatClampNeg), .int (s_rank (σ 58) (σ 60) y)], σ)
    rw [hxc]
    refine ev_br 0 [] ((s_rank (σ 58) (σ 60) y) ≤ (s_rank (σ 58) (σ 60) x)) 79 75 ([some (.ref 57), some (.int (la)), some (.int (nI x)), some (.int (nI y))], [], σ) rfl ?_ (fun c72 => ?_) (fun c72 => ?_)
    · trivial
    · refine ev_blk 1 [] 80 ([some (.ref 57), some (.int (la)), some (.int (nI x)), some (.int (nI y))], [.int ((0 : Int32))], σ) rfl ?_ ?_
      · trivial
      exact ev_iret rfl rfl nar0 (pu_f (by rw [s_sec_defM]; simp_all))
    · refine ev_blk 2 [] 80 ([some (.ref 57), some (.int (la)), some (.int (nI x)), some (.int (nI y))], [.int ((1 : Int32))], σ) rfl ?_ ?_
      · trivial
      exact ev_iret rfl rfl nar1 (pu_t (by rw [s_sec_defM]; simp_all))
  refine ⟨fun c21_2 => ?_, fun c21_2 => ?_⟩
  · refine ev_blk 2 [] 83 ([some (.ref 57), some (.int (la)), some (.int ((σ 74) 0)), some (.int ((σ 74) 10))], [.int ((σ 74) 10), .ref 57], σ) rfl ?_ ?_
    · trivial
    rw [h10]
    rw [h0]
    refine ev_callV M_X6_spanOf [.int (nI y)] [] 57 rfl rfl ln_X6_140 k_X6_spanOf rfl rfl rfl rfl rfl rfl (m_span _ _ (vp_in_nI (by omega) (by decide))) ?_
    refine pu_k ?_
    show xEv _ _ _ 86 ([some (.ref 57), some (.int (la)), some (.int (nI x)), some (.int (nI y))], [.int (s_span (σ 58) (σ 59) (nI y).toNatClampNeg)], σ)
    rw [hyc]
    refine ev_blk 2 [] 88 ([some (.ref 57), some (.int (la)), some (.int (nI x)), some (.int (nI y))], [.int (nI x), .ref 57, .int (s_span (σ 58) (σ 59) y)], σ) rfl ?_ ?_
    · trivial
    refine ev_callV M_X6_spanOf [.int (nI x)] [.int (s_span (σ 58) (σ 59) y)] 57 rfl rfl ln_X6_140 k_X6_spanOf rfl rfl rfl rfl rfl rfl (m_span _ _ (vp_in_nI (by omega) (by decide))) ?_
    refine pu_k ?_
    show xEv _ _ _ 91 ([some (.ref 57), some (.int (la)), some (.int (nI x)), some (.int (nI y))], [.int (s_span (σ 58) (σ 59) (nI x).toNatClampNeg), .int (s_span (σ 58) (σ 59) y)], σ)
    rw [hxc]
    refine ev_br 0 [] ((s_span (σ 58) (σ 59) x) ≤ (s_span (σ 58) (σ 59) y)) 98 94 ([some (.ref 57), some (.int (la)), some (.int (nI x)), some (.int (nI y))], [], σ) rfl ?_ (fun c91 => ?_) (fun c91 => ?_)
    · trivial
    · refine ev_blk 1 [] 99 ([some (.ref 57), some (.int (la)), some (.int (nI x)), some (.int (nI y))], [.int ((0 : Int32))], σ) rfl ?_ ?_
      · trivial
      exact ev_iret rfl rfl nar0 (pu_f (by rw [s_sec_defM]; simp_all))
    · refine ev_blk 2 [] 99 ([some (.ref 57), some (.int (la)), some (.int (nI x)), some (.int (nI y))], [.int ((1 : Int32))], σ) rfl ?_ ?_
      · trivial
      exact ev_iret rfl rfl nar1 (pu_t (by rw [s_sec_defM]; simp_all))
  refine ⟨fun c21_3 => ?_, fun c21_3 => ?_⟩
  · refine ev_br 8 [vp_in ((σ 74) 10) 10, vp_in ((σ 74) 0) 10] (((σ 62) ((σ 74) 0).toNatClampNeg) ≤ ((σ 62) ((σ 74) 10).toNatClampNeg)) 119 115 ([some (.ref 57), some (.int (la)), some (.int ((σ 74) 0)), some (.int ((σ 74) 10))], [], σ) rfl ?_ (fun c112 => ?_) (fun c112 => ?_)
    · exact ⟨(by rw [h10]; exact vp_in_nI (by omega) (by decide)), (by rw [h0]; exact vp_in_nI (by omega) (by decide))⟩
    · rw [h10] at c112
      rw [h0] at c112
      rw [h10]
      rw [h0]
      refine ev_blk 1 [] 120 ([some (.ref 57), some (.int (la)), some (.int (nI x)), some (.int (nI y))], [.int ((0 : Int32))], σ) rfl ?_ ?_
      · trivial
      exact ev_iret rfl rfl nar0 (pu_f (by rw [s_sec_defM]; simp_all))
    · rw [h10] at c112
      rw [h0] at c112
      rw [h10]
      rw [h0]
      refine ev_blk 2 [] 120 ([some (.ref 57), some (.int (la)), some (.int (nI x)), some (.int (nI y))], [.int ((1 : Int32))], σ) rfl ?_ ?_
      · trivial
      exact ev_iret rfl rfl nar1 (pu_t (by rw [s_sec_defM]; simp_all))
  have e4 : σ 68 4 = 4 := rg04 h4 c21_0 c21_1 c21_2 c21_3
  show xEv _ _ _ 121 ([some (.ref 57), some (.int (la)), some (.int ((σ 74) 0)), some (.int ((σ 74) 10))], [], σ)
  refine ev_br 8 [vp_in ((σ 74) 10) 10, vp_in ((σ 74) 0) 10] (((σ 61) ((σ 74) 10).toNatClampNeg) ≤ ((σ 61) ((σ 74) 0).toNatClampNeg)) 140 136 ([some (.ref 57), some (.int (la)), some (.int ((σ 74) 0)), some (.int ((σ 74) 10))], [], σ) rfl ?_ (fun c133 => ?_) (fun c133 => ?_)
  · exact ⟨(by rw [h10]; exact vp_in_nI (by omega) (by decide)), (by rw [h0]; exact vp_in_nI (by omega) (by decide))⟩
  · rw [h10] at c133
    rw [h0] at c133
    rw [h10]
    rw [h0]
    refine ev_blk 1 [] 141 ([some (.ref 57), some (.int (la)), some (.int (nI x)), some (.int (nI y))], [.int ((0 : Int32))], σ) rfl ?_ ?_
    · trivial
    exact ev_iret rfl rfl nar0 (pu_f (by rw [s_sec_defM]; simp_all))
  · rw [h10] at c133
    rw [h0] at c133
    rw [h10]
    rw [h0]
    refine ev_blk 2 [] 141 ([some (.ref 57), some (.int (la)), some (.int (nI x)), some (.int (nI y))], [.int ((1 : Int32))], σ) rfl ?_ ?_
    · trivial
    exact ev_iret rfl rfl nar1 (pu_t (by rw [s_sec_defM]; simp_all))
set_option maxRecDepth 100000 in
theorem m_stepsOn0_lp (σ : xSg) (t : List Nat) (h75 : σ 75 0 = nI (t.length + 1)) (hl : t.length + 1 ≤ 10) : ∀ (m k : Nat), k + m = t.length + 1 → 1 ≤ k → xEv (.inl 0) M_X6_stepsOn (fun r σ1 => r = none ∧ (∀ j, σ1 74 j = s_shf (σ 74) 0 (t.length + 1) j) ∧ σ1 75 = upd (σ 75) 0 (nI t.length) ∧ xFm [74, 75] [] σ σ1) 2 ([some (.ref 57), some (.int ((0 : Int32))), some (.int (nI k))], [], (x_up σ 74 (s_shf (σ 74) 0 k))) := by
  intro m
  induction m with
  | zero =>
    intro k hk h1
    refine ev_br 5 [vp_in ((0 : Int32)) 2] (((σ 75) 0) ≤ (nI k)) 42 12 ([some (.ref 57), some (.int ((0 : Int32))), some (.int (nI k))], [], (x_up σ 74 (s_shf (σ 74) 0 k))) rfl ?_ (fun c9 => ?_) (fun c9 => ?_)
    · exact vp_in_nI (n := 0) (by decide) (by decide)
    · refine ev_blk 8 [vp_in ((0 : Int32)) 2, vp_in ((0 : Int32)) 2] 52 ([some (.ref 57), some (.int ((0 : Int32))), some (.int (nI k))], [], (x_up (x_up σ 74 (s_shf (σ 74) 0 k)) 75 (upd (σ 75) 0 (((σ 75) 0) - (1 : Int32))))) rfl ?_ ?_
      · exact ⟨vp_in_nI (n := 0) (by decide) (by decide), vp_in_nI (n := 0) (by decide) (by decide)⟩
      refine ev_vret rfl rfl ⟨rfl, fun j => ?_, ?_, ⟨fun c hc hn => by simp at hc; simp [x_up, hc], fun i hi => rfl⟩⟩
      · show s_shf (σ 74) 0 k j = _
        rw [show k = t.length + 1 by omega]
      · show upd (σ 75) 0 (σ 75 0 - 1) = _
        rw [h75, nI_pred]
    · exact absurd (show σ 75 0 ≤ nI k by rw [h75]; exact nI_le (by omega) (by omega)) c9
  | succ m ih =>
    intro k hk h1
    have hk0 : ((10 : Int32) * (0 : Int32)) + (nI k) = nI (0 + k) := by rw [show ((10 : Int32) * (0 : Int32)) = nI 0 from rfl, nI_add]
    have hk1 : (((10 : Int32) * (0 : Int32)) + (nI k)) - (1 : Int32) = nI (0 + k - 1) := by rw [hk0, show (1 : Int32) = nI 1 from rfl, pk_sub (by omega)]
    have hc0 : (((10 : Int32) * (0 : Int32)) + (nI k)).toNatClampNeg = 0 + k := by rw [hk0, nI_clamp (by omega)]
    have hc1 : ((((10 : Int32) * (0 : Int32)) + (nI k)) - (1 : Int32)).toNatClampNeg = 0 + k - 1 := by rw [hk1, nI_clamp (by omega)]
    refine ev_br 5 [vp_in ((0 : Int32)) 2] (((σ 75) 0) ≤ (nI k)) 42 12 ([some (.ref 57), some (.int ((0 : Int32))), some (.int (nI k))], [], (x_up σ 74 (s_shf (σ 74) 0 k))) rfl ?_ (fun c9 => ?_) (fun c9 => ?_)
    · exact vp_in_nI (n := 0) (by decide) (by decide)
    · exact absurd c9 (show ¬ σ 75 0 ≤ nI k by rw [h75]; exact nI_ge (by omega) (by omega))
    · refine ev_blk 20 [vp_in (((10 : Int32) * (0 : Int32)) + (nI k)) 20, vp_in ((((10 : Int32) * (0 : Int32)) + (nI k)) - (1 : Int32)) 20] 2 ([some (.ref 57), some (.int ((0 : Int32))), some (.int ((nI k) + (1 : Int32)))], [], (x_up (x_up σ 74 (s_shf (σ 74) 0 k)) 74 (upd (s_shf (σ 74) 0 k) ((((10 : Int32) * (0 : Int32)) + (nI k)) - (1 : Int32)).toNatClampNeg ((s_shf (σ 74) 0 k) (((10 : Int32) * (0 : Int32)) + (nI k)).toNatClampNeg)))) rfl ?_ ?_
      · exact ⟨(by rw [hk0]; exact vp_in_nI (by omega) (by decide)), (by rw [hk1]; exact vp_in_nI (by omega) (by decide))⟩
      rw [hc1]
      rw [hc0]
      rw [nI_1, x_up_up, s_shf_up h1]
      exact ih (k + 1) (by omega) (by omega)
set_option maxRecDepth 100000 in
theorem m_stepsOn0 (σ : xSg) (t : List Nat) (h75 : σ 75 0 = nI (t.length + 1)) (hl : t.length + 1 ≤ 10) : xCtr M_X6_stepsOn [.ref 57, .int (0 : Int32)] σ (fun r σ1 => r = none ∧ (∀ j, σ1 74 j = s_shf (σ 74) 0 (t.length + 1) j) ∧ σ1 75 = upd (σ 75) 0 (nI t.length) ∧ xFm [74, 75] [] σ σ1) := by
  refine ctr_ev ok_X6_stepsOn (by decide +kernel) rfl rfl rfl ?_
  show xEv (.inl 0) M_X6_stepsOn _ 0 ([some (.ref 57), some (.int ((0 : Int32))), none], [], σ)
  refine ev_blk 2 [] 2 ([some (.ref 57), some (.int ((0 : Int32))), some (.int ((1 : Int32)))], [], σ) rfl ?_ ?_
  · trivial
  have h := m_stepsOn0_lp σ t h75 hl t.length 1 (by omega) (Nat.le_refl _)
  rw [s_shf_1, x_up_self] at h
  exact h
set_option maxRecDepth 100000 in
theorem m_stepsOn1_lp (σ : xSg) (t : List Nat) (h75 : σ 75 1 = nI (t.length + 1)) (hl : t.length + 1 ≤ 10) : ∀ (m k : Nat), k + m = t.length + 1 → 1 ≤ k → xEv (.inl 0) M_X6_stepsOn (fun r σ1 => r = none ∧ (∀ j, σ1 74 j = s_shf (σ 74) 10 (t.length + 1) j) ∧ σ1 75 = upd (σ 75) 1 (nI t.length) ∧ xFm [74, 75] [] σ σ1) 2 ([some (.ref 57), some (.int ((1 : Int32))), some (.int (nI k))], [], (x_up σ 74 (s_shf (σ 74) 10 k))) := by
  intro m
  induction m with
  | zero =>
    intro k hk h1
    refine ev_br 5 [vp_in ((1 : Int32)) 2] (((σ 75) 1) ≤ (nI k)) 42 12 ([some (.ref 57), some (.int ((1 : Int32))), some (.int (nI k))], [], (x_up σ 74 (s_shf (σ 74) 10 k))) rfl ?_ (fun c9 => ?_) (fun c9 => ?_)
    · exact vp_in_nI (n := 1) (by decide) (by decide)
    · refine ev_blk 8 [vp_in ((1 : Int32)) 2, vp_in ((1 : Int32)) 2] 52 ([some (.ref 57), some (.int ((1 : Int32))), some (.int (nI k))], [], (x_up (x_up σ 74 (s_shf (σ 74) 10 k)) 75 (upd (σ 75) 1 (((σ 75) 1) - (1 : Int32))))) rfl ?_ ?_
      · exact ⟨vp_in_nI (n := 1) (by decide) (by decide), vp_in_nI (n := 1) (by decide) (by decide)⟩
      refine ev_vret rfl rfl ⟨rfl, fun j => ?_, ?_, ⟨fun c hc hn => by simp at hc; simp [x_up, hc], fun i hi => rfl⟩⟩
      · show s_shf (σ 74) 10 k j = _
        rw [show k = t.length + 1 by omega]
      · show upd (σ 75) 1 (σ 75 1 - 1) = _
        rw [h75, nI_pred]
    · exact absurd (show σ 75 1 ≤ nI k by rw [h75]; exact nI_le (by omega) (by omega)) c9
  | succ m ih =>
    intro k hk h1
    have hk0 : ((10 : Int32) * (1 : Int32)) + (nI k) = nI (10 + k) := by rw [show ((10 : Int32) * (1 : Int32)) = nI 10 from rfl, nI_add]
    have hk1 : (((10 : Int32) * (1 : Int32)) + (nI k)) - (1 : Int32) = nI (10 + k - 1) := by rw [hk0, show (1 : Int32) = nI 1 from rfl, pk_sub (by omega)]
    have hc0 : (((10 : Int32) * (1 : Int32)) + (nI k)).toNatClampNeg = 10 + k := by rw [hk0, nI_clamp (by omega)]
    have hc1 : ((((10 : Int32) * (1 : Int32)) + (nI k)) - (1 : Int32)).toNatClampNeg = 10 + k - 1 := by rw [hk1, nI_clamp (by omega)]
    refine ev_br 5 [vp_in ((1 : Int32)) 2] (((σ 75) 1) ≤ (nI k)) 42 12 ([some (.ref 57), some (.int ((1 : Int32))), some (.int (nI k))], [], (x_up σ 74 (s_shf (σ 74) 10 k))) rfl ?_ (fun c9 => ?_) (fun c9 => ?_)
    · exact vp_in_nI (n := 1) (by decide) (by decide)
    · exact absurd c9 (show ¬ σ 75 1 ≤ nI k by rw [h75]; exact nI_ge (by omega) (by omega))
    · refine ev_blk 20 [vp_in (((10 : Int32) * (1 : Int32)) + (nI k)) 20, vp_in ((((10 : Int32) * (1 : Int32)) + (nI k)) - (1 : Int32)) 20] 2 ([some (.ref 57), some (.int ((1 : Int32))), some (.int ((nI k) + (1 : Int32)))], [], (x_up (x_up σ 74 (s_shf (σ 74) 10 k)) 74 (upd (s_shf (σ 74) 10 k) ((((10 : Int32) * (1 : Int32)) + (nI k)) - (1 : Int32)).toNatClampNeg ((s_shf (σ 74) 10 k) (((10 : Int32) * (1 : Int32)) + (nI k)).toNatClampNeg)))) rfl ?_ ?_
      · exact ⟨(by rw [hk0]; exact vp_in_nI (by omega) (by decide)), (by rw [hk1]; exact vp_in_nI (by omega) (by decide))⟩
      rw [hc1]
      rw [hc0]
      rw [nI_1, x_up_up, s_shf_up h1]
      exact ih (k + 1) (by omega) (by omega)
set_option maxRecDepth 100000 in
theorem m_stepsOn1 (σ : xSg) (t : List Nat) (h75 : σ 75 1 = nI (t.length + 1)) (hl : t.length + 1 ≤ 10) : xCtr M_X6_stepsOn [.ref 57, .int (1 : Int32)] σ (fun r σ1 => r = none ∧ (∀ j, σ1 74 j = s_shf (σ 74) 10 (t.length + 1) j) ∧ σ1 75 = upd (σ 75) 1 (nI t.length) ∧ xFm [74, 75] [] σ σ1) := by
  refine ctr_ev ok_X6_stepsOn (by decide +kernel) rfl rfl rfl ?_
  show xEv (.inl 0) M_X6_stepsOn _ 0 ([some (.ref 57), some (.int ((1 : Int32))), none], [], σ)
  refine ev_blk 2 [] 2 ([some (.ref 57), some (.int ((1 : Int32))), some (.int ((1 : Int32)))], [], σ) rfl ?_ ?_
  · trivial
  have h := m_stepsOn1_lp σ t h75 hl t.length 1 (by omega) (Nat.le_refl _)
  rw [s_shf_1, x_up_self] at h
  exact h
def s_ldk (a : sAt) (w : List (Nat × Nat × Nat)) (k : Nat) : Int32 := s_lds a (w.take k)
theorem s_ldk_s {a : sAt} {w : List (Nat × Nat × Nat)} {k : Nat} {q : Nat × Nat × Nat} (h : w[k]? = some q) : s_ldk a w (k + 1) = s_ldk a w k + aLo a q.1 := by
  unfold s_ldk
  rw [List.take_add_one, h]
  exact s_lds_app a q _
theorem i_sas (a b c : Int32) : a - b - c = a - (b + c) := by
  rw [Int32.sub_eq_add_neg, Int32.sub_eq_add_neg, Int32.sub_eq_add_neg, Int32.neg_add, Int32.add_assoc, Int32.sub_eq_add_neg]
set_option maxRecDepth 100000 in
theorem m_spends_lp (σ : xSg) (F : sFl) (hF : MR σ F) (hFn : ∀ q ∈ F.2, q.1 < 10) : ∀ (m k : Nat), k + m = F.2.length → xEv (.inl 1) M_X6_spends (fun r σ1 => r = some (.int (s_spend (atM σ) F.2)) ∧ σ1 = σ) 23 ([some (.ref 57), some (.int (σ 68 0 * σ 68 1 * σ 68 2 - s_ldk (atM σ) F.2 k)), some (.int (nI k))], [], σ) := by
  have h23 := hF.2.2.1
  have hl := hF.1
  intro m
  induction m with
  | zero =>
    intro k hk
    refine ev_br 3 [] ((σ 57 23) ≤ (nI k)) 51 31 ([some (.ref 57), some (.int (σ 68 0 * σ 68 1 * σ 68 2 - s_ldk (atM σ) F.2 k)), some (.int (nI k))], [], σ) rfl ?_ (fun c28 => ?_) (fun c28 => ?_)
    · trivial
    · refine ev_blk 3 [] 56 ([some (.ref 57), some (.int (σ 68 0 * σ 68 1 * σ 68 2 - s_ldk (atM σ) F.2 k)), some (.int (nI k))], [.int (x_mx (0 : Int32) (σ 68 0 * σ 68 1 * σ 68 2 - s_ldk (atM σ) F.2 k))], σ) rfl ?_ ?_
      · trivial
      exact ev_iret rfl rfl rfl ⟨by rw [show s_ldk (atM σ) F.2 k = s_lds (atM σ) F.2 by unfold s_ldk; rw [List.take_of_length_le (by omega)]]; rfl, rfl⟩
    · exact absurd (show σ 57 23 ≤ nI k by rw [h23]; exact nI_le (by omega) (by omega)) c28
  | succ m ih =>
    intro k hk
    have hkl : k < F.2.length := by omega
    obtain ⟨q, hkq⟩ : ∃ q, F.2[k]? = some q := ⟨_, List.getElem?_eq_getElem hkl⟩
    have hq1 := (hF.2.2.2 k q.1 q.2.1 q.2.2 hkq).1
    have hq2 : q.1 < 10 := hFn q (List.mem_of_getElem? hkq)
    have hkc : (nI k).toNatClampNeg = k := nI_clamp (by omega)
    have hwc : (σ 77 (nI k).toNatClampNeg).toNatClampNeg = q.1 := by rw [hkc, hq1, nI_clamp (by omega)]
    refine ev_br 3 [] ((σ 57 23) ≤ (nI k)) 51 31 ([some (.ref 57), some (.int (σ 68 0 * σ 68 1 * σ 68 2 - s_ldk (atM σ) F.2 k)), some (.int (nI k))], [], σ) rfl ?_ (fun c28 => ?_) (fun c28 => ?_)
    · trivial
    · exact absurd c28 (show ¬ σ 57 23 ≤ nI k by rw [h23]; exact nI_ge (by omega) (by omega))
    · refine ev_blk 12 [vp_in (nI k) 10, vp_in ((σ 77) (nI k).toNatClampNeg) 10] 23 ([some (.ref 57), some (.int ((σ 68 0 * σ 68 1 * σ 68 2 - s_ldk (atM σ) F.2 k) - ((σ 61) ((σ 77) (nI k).toNatClampNeg).toNatClampNeg))), some (.int ((nI k) + (1 : Int32)))], [], σ) rfl ?_ ?_
      · exact ⟨vp_in_nI (by omega) (by decide), by rw [hkc, hq1]; exact vp_in_nI (by omega) (by decide)⟩
      rw [hwc]
      rw [nI_1, i_sas, show s_ldk (atM σ) F.2 k + σ 61 q.1 = s_ldk (atM σ) F.2 (k + 1) from (s_ldk_s hkq).symm]
      exact ih (k + 1) (by omega)
set_option maxRecDepth 100000 in
theorem m_spends (σ : xSg) (F : sFl) (hF : MR σ F) (hFn : ∀ q ∈ F.2, q.1 < 10) : xCtr M_X6_spends [.ref 57] σ (fun r σ1 => r = some (.int (s_spend (atM σ) F.2)) ∧ σ1 = σ) := by
  refine ctr_ev ok_X6_spends (by decide +kernel) rfl rfl rfl ?_
  show xEv (.inl 1) M_X6_spends _ 0 ([some (.ref 57), none, none], [], σ)
  refine ev_blk 17 [vp_in ((0 : Int32)) 5, vp_in ((1 : Int32)) 5, vp_in ((2 : Int32)) 5] 23 ([some (.ref 57), some (.int ((((σ 68) 0) * ((σ 68) 1)) * ((σ 68) 2))), some (.int ((0 : Int32)))], [], σ) rfl ?_ ?_
  · exact ⟨vp_in_nI (n := 0) (by decide) (by decide), vp_in_nI (n := 1) (by decide) (by decide), vp_in_nI (n := 2) (by decide) (by decide)⟩
  have h := m_spends_lp σ F hF hFn F.2.length 0 (by omega)
  rw [show s_ldk (atM σ) F.2 0 = 0 from rfl, Int32.sub_zero] at h
  exact h
set_option maxRecDepth 100000 in
theorem m_all_lp (σ : xSg) : ∀ (m k : Nat) (g : Nat → Int32), k + m = 20 → (∀ j, j < k → g j = σ 66 j) → xEv (.inl 0) M_X6_all (fun r σ1 => r = none ∧ (∀ j, j < 20 → σ1 74 j = σ 66 j) ∧ σ1 75 = upd (upd (σ 75) 0 (σ 67 0)) 1 (σ 67 1) ∧ xFm [74, 75] [] σ σ1) 2 ([some (.ref 57), some (.int (nI k))], [], (x_up σ 74 g)) := by
  intro m
  induction m with
  | zero =>
    intro k g hk hg
    refine ev_br 2 [] ((20 : Int32) ≤ (nI k)) 26 8 ([some (.ref 57), some (.int (nI k))], [], (x_up σ 74 g)) rfl ?_ (fun c5 => ?_) (fun c5 => ?_)
    · trivial
    · refine ev_blk 16 [vp_in ((0 : Int32)) 2, vp_in ((0 : Int32)) 2, vp_in ((1 : Int32)) 2, vp_in ((1 : Int32)) 2] 50 ([some (.ref 57), some (.int (nI k))], [], (x_up (x_up (x_up σ 74 g) 75 (upd (σ 75) 0 ((σ 67) 0))) 75 (upd (upd (σ 75) 0 ((σ 67) 0)) 1 ((σ 67) 1)))) rfl ?_ ?_
      · exact ⟨vp_in_nI (n := 0) (by decide) (by decide), vp_in_nI (n := 0) (by decide) (by decide), vp_in_nI (n := 1) (by decide) (by decide), vp_in_nI (n := 1) (by decide) (by decide)⟩
      exact ev_vret rfl rfl ⟨rfl, fun j hj => hg j (by omega), rfl, ⟨fun c hc hn => by simp at hc; simp [x_up, hc], fun i hi => rfl⟩⟩
    · exact absurd (show (20 : Int32) ≤ nI k by rw [show k = 20 by omega]; decide) c5
  | succ m ih =>
    intro k g hk hg
    have hkc : (nI k).toNatClampNeg = k := nI_clamp (by omega)
    refine ev_br 2 [] ((20 : Int32) ≤ (nI k)) 26 8 ([some (.ref 57), some (.int (nI k))], [], (x_up σ 74 g)) rfl ?_ (fun c5 => ?_) (fun c5 => ?_)
    · trivial
    · exact absurd c5 (nI_ge (b := 20) (by omega) (by decide))
    · refine ev_blk 10 [vp_in (nI k) 20, vp_in (nI k) 20] 2 ([some (.ref 57), some (.int ((nI k) + (1 : Int32)))], [], (x_up (x_up σ 74 g) 74 (upd g (nI k).toNatClampNeg ((σ 66) (nI k).toNatClampNeg)))) rfl ?_ ?_
      · exact ⟨vp_in_nI (by omega) (by decide), vp_in_nI (by omega) (by decide)⟩
      rw [hkc]
      rw [nI_1, x_up_up]
      refine ih (k + 1) _ (by omega) (fun j hj => ?_)
      by_cases hjk : j = k
      · rw [hjk, upd_eq]
      · rw [upd_ne hjk]; exact hg j (by omega)
set_option maxRecDepth 100000 in
theorem m_all (σ : xSg) : xCtr M_X6_all [.ref 57] σ (fun r σ1 => r = none ∧ (∀ j, j < 20 → σ1 74 j = σ 66 j) ∧ σ1 75 = upd (upd (σ 75) 0 (σ 67 0)) 1 (σ 67 1) ∧ xFm [74, 75] [] σ σ1) := by
  refine ctr_ev ok_X6_all (by decide +kernel) rfl rfl rfl ?_
  show xEv (.inl 0) M_X6_all _ 0 ([some (.ref 57), none], [], σ)
  refine ev_blk 2 [] 2 ([some (.ref 57), some (.int ((0 : Int32)))], [], σ) rfl ?_ ?_
  · trivial
  have h := m_all_lp σ 20 0 (σ 74) (by omega) (fun j hj => absurd hj (Nat.not_lt_zero j))
  rw [x_up_self] at h
  exact h
end
section
theorem MR_fr {S P : List Nat} {σ σ' : xSg} {F : sFl} (h : MR σ F) (hf : xFm S P σ σ') (hS : (S.all fun c => !([76, 77, 78, 79] : List Nat).contains c) = true) (hP : (P.all fun c => !([23] : List Nat).contains c) = true) : MR σ' F := by
  have k : ∀ c, ([76, 77, 78, 79] : List Nat).contains c = true → c ≠ 57 → σ' c = σ c := fun c hc hn => hf.1 c (fun q => by
    have := List.all_eq_true.mp hS c q
    rw [hc] at this
    cases this) hn
  have k2 : σ' 57 23 = σ 57 23 := hf.2 23 (fun q => by
    have := List.all_eq_true.mp hP 23 q
    cases this)
  unfold MR
  rw [k 76 rfl (by decide), k 77 rfl (by decide), k 78 rfl (by decide), k 79 rfl (by decide), k2]
  exact h
theorem SR_fr {σ σ' : xSg} {A B : List Nat} (h : SR σ A B) (h74 : σ' 74 = σ 74) (h75 : σ' 75 = σ 75) : SR σ' A B := by
  unfold SR
  rw [h74, h75]
  exact h
theorem atM_fr {S P : List Nat} {σ σ1 : xSg} (h : xFm S P σ σ1) (hS : (S.all fun c => !([58, 59, 60, 61, 62, 63, 68] : List Nat).contains c) = true) : atM σ1 = atM σ := by
  have k : ∀ c, ([58, 59, 60, 61, 62, 63, 68] : List Nat).contains c = true → c ≠ 57 → σ1 c = σ c := fun c hc hn => h.1 c (fun q => by
    have := List.all_eq_true.mp hS c q
    rw [hc] at this
    cases this) hn
  unfold atM
  rw [k 58 rfl (by decide), k 59 rfl (by decide), k 60 rfl (by decide), k 61 rfl (by decide), k 62 rfl (by decide), k 63 rfl (by decide), k 68 rfl (by decide)]
theorem sA_ne {x : Int32} {A : List Nat} (h : ¬ x ≤ 0) (hl : x = nI A.length) : ∃ y t, A = y :: t := by
  cases A with
  | nil => exact absurd (by rw [hl]; decide) h
  | cons y t => exact ⟨y, t, rfl⟩
theorem sA_nil {x : Int32} {A : List Nat} (h : x ≤ 0) (hl : x = nI A.length) (h10 : A.length ≤ 10) : A = [] := by
  cases A with
  | nil => rfl
  | cons y t => exact absurd (by rw [← hl]; exact h) (nI_nle (n := (y :: t).length) (by simp) (by omega))
theorem SR_step0 {σ σ' : xSg} {x : Nat} {t B : List Nat} (h : SR σ (x :: t) B) (h74 : ∀ j, σ' 74 j = s_shf (σ 74) 0 (t.length + 1) j) (h75 : σ' 75 = upd (σ 75) 0 (nI t.length)) : SR σ' t B := by
  obtain ⟨h1, h2, h3, h4, h5, h6⟩ := h
  simp only [List.length_cons] at h1
  refine ⟨by omega, h2, fun i y hi => ?_, fun i y hi => ?_, by rw [h75, upd_eq], by rw [h75, upd_ne (by decide)]; exact h6⟩
  · have hil := (List.getElem?_eq_some_iff.mp hi).1
    rw [h74]
    unfold s_shf
    rw [if_pos (by omega)]
    exact h3 (i + 1) y (by simpa using hi)
  · rw [h74]
    unfold s_shf
    rw [if_neg (by omega)]
    exact h4 i y hi
theorem SR_step1 {σ σ' : xSg} {x : Nat} {t A : List Nat} (h : SR σ A (x :: t)) (h74 : ∀ j, σ' 74 j = s_shf (σ 74) 10 (t.length + 1) j) (h75 : σ' 75 = upd (σ 75) 1 (nI t.length)) : SR σ' A t := by
  obtain ⟨h1, h2, h3, h4, h5, h6⟩ := h
  simp only [List.length_cons] at h2
  refine ⟨h1, by omega, fun i y hi => ?_, fun i y hi => ?_, by rw [h75, upd_ne (by decide)]; exact h5, by rw [h75, upd_eq]⟩
  · have hil := (List.getElem?_eq_some_iff.mp hi).1
    rw [h74]
    unfold s_shf
    rw [if_neg (by omega)]
    exact h3 i y hi
  · have hil := (List.getElem?_eq_some_iff.mp hi).1
    rw [h74]
    unfold s_shf
    rw [if_pos (by omega), show 10 + i + 1 = 10 + (i + 1) by omega]
    exact h4 (i + 1) y (by simpa using hi)
def fQ (σ : xSg) (T : sSt) : Option Value → xSg → Prop := fun r σ' => r = some (.int (nI (s_went T).length)) ∧ MR σ' T.2.2.2.2.2 ∧ SR σ' T.1 T.2.1 ∧ xFm [74, 75, 76, 77, 78, 79] [23] σ σ'
set_option maxRecDepth 100000 in
theorem m_fills_t0 (Q : Option Value → xSg → Prop) (σ1 : xSg) (s0 s1 la : Int32) (x n : Nat) (t : List Nat) (B : List Nat) (F : sFl) (hok : aOk (atM σ1) n) (hx : x < n) (hR : SR σ1 (x :: t) B) (hF : MR σ1 F) (hl : F.2.length < 10) (hFn : ∀ q ∈ F.2, q.1 < n) (kS : ∀ (F2 : sFl) (σ2 : xSg), s_in (atM σ1) x F = some F2 → MR σ2 F2 → SR σ2 t B → xFm [74, 75, 76, 77, 78, 79] [23] σ1 σ2 → xEv (.inl 3) M_X6_fills Q 10 ([some (.ref 57), some (.int (s0)), some (.int (s1)), some (.int ((0 : Int32))), none, none, none], [], σ2)) (kN : s_in (atM σ1) x F = none → xEv (.inl 3) M_X6_fills Q 10 ([some (.ref 57), some (.int ((1 : Int32))), some (.int (s1)), some (.int (la)), none, none, none], [], σ1)) : xEv (.inl 3) M_X6_fills Q 103 ([some (.ref 57), some (.int (s0)), some (.int (s1)), some (.int (la)), none, none, some (.int ((0 : Int32)))], [], σ1) := by
  have hn10 := hok.1
  have hst : (σ1 74) ((10 : Int32) * (0 : Int32)).toNatClampNeg = nI x := hR.2.2.1 0 x rfl
  refine ev_blk 7 [vp_in ((10 : Int32) * (0 : Int32)) 20] 114 ([some (.ref 57), some (.int (s0)), some (.int (s1)), some (.int (la)), none, none, some (.int ((0 : Int32)))], [.int ((σ1 74) ((10 : Int32) * (0 : Int32)).toNatClampNeg), .ref 57], σ1) rfl ?_ ?_
  · exact vp_in_nI (n := 0) (by decide) (by decide)
  rw [hst]
  refine ev_callV M_X6_goesIn [.int (nI x)] [] 57 rfl rfl ln_X6_162 k_X6_goesIn rfl rfl rfl rfl rfl rfl (m_goesIn σ1 x F n hok hx hF hl hFn) ?_
  rintro r σ2 (⟨F2, hF2, rfl, hM2, hf2⟩ | ⟨hN, rfl, e2⟩)
  · have hR2 : SR σ2 (x :: t) B := SR_fr hR (hf2.1 74 (by decide) (by decide)) (hf2.1 75 (by decide) (by decide))
    show xEv _ _ _ 117 ([some (.ref 57), some (.int (s0)), some (.int (s1)), some (.int (la)), none, none, some (.int ((0 : Int32)))], [.int ((1 : Int32))], σ2)
    refine ev_br 0 [] ((1 : Int32) = 0) 132 120 ([some (.ref 57), some (.int (s0)), some (.int (s1)), some (.int (la)), none, none, some (.int ((0 : Int32)))], [], σ2) rfl ?_ (fun c117 => ?_) (fun c117 => ?_)
    · trivial
    · exact absurd c117 (by decide)
    · refine ev_blk 2 [] 123 ([some (.ref 57), some (.int (s0)), some (.int (s1)), some (.int (la)), none, none, some (.int ((0 : Int32)))], [.int ((0 : Int32)), .ref 57], σ2) rfl ?_ ?_
      · trivial
      refine ev_callV M_X6_stepsOn [.int ((0 : Int32))] [] 57 rfl rfl ln_X6_165 k_X6_stepsOn rfl rfl rfl rfl rfl rfl (m_stepsOn0 σ2 t (by have := hR2.2.2.2.2.1; simpa using this) (by have := hR2.1; simpa using this)) ?_
      rintro r σ3 ⟨rfl, h74, h75, hf3⟩
      show xEv _ _ _ 126 ([some (.ref 57), some (.int (s0)), some (.int (s1)), some (.int (la)), none, none, some (.int ((0 : Int32)))], [], σ3)
      refine ev_blk 4 [] 10 ([some (.ref 57), some (.int (s0)), some (.int (s1)), some (.int ((0 : Int32))), none, none, some (.int ((0 : Int32)))], [], σ3) rfl ?_ ?_
      · trivial
      refine ev_drop 6 ?_
      refine kS F2 σ3 hF2 (MR_fr hM2 hf3 rfl rfl) (SR_step0 hR2 h74 h75) ?_
      exact (hf2.mono rfl rfl).tr (hf3.mono rfl rfl)
  · rw [e2]
    show xEv _ _ _ 117 ([some (.ref 57), some (.int (s0)), some (.int (s1)), some (.int (la)), none, none, some (.int ((0 : Int32)))], [.int ((0 : Int32))], σ1)
    refine ev_br 0 [] ((0 : Int32) = 0) 132 120 ([some (.ref 57), some (.int (s0)), some (.int (s1)), some (.int (la)), none, none, some (.int ((0 : Int32)))], [], σ1) rfl ?_ (fun c117 => ?_) (fun c117 => ?_)
    · trivial
    · refine ev_br 1 [] (¬ (0 : Int32) = 0) 142 137 ([some (.ref 57), some (.int (s0)), some (.int (s1)), some (.int (la)), none, none, some (.int ((0 : Int32)))], [], σ1) rfl ?_ (fun c134 => ?_) (fun c134 => ?_)
      · trivial
      · exact absurd rfl c134
      · refine ev_blk 4 [] 10 ([some (.ref 57), some (.int ((1 : Int32))), some (.int (s1)), some (.int (la)), none, none, some (.int ((0 : Int32)))], [], σ1) rfl ?_ ?_
        · trivial
        refine ev_drop 6 ?_
        exact kN hN
    · exact absurd rfl c117
set_option maxRecDepth 100000 in
theorem m_fills_t1 (Q : Option Value → xSg → Prop) (σ1 : xSg) (s0 s1 la : Int32) (x n : Nat) (t : List Nat) (A : List Nat) (F : sFl) (hok : aOk (atM σ1) n) (hx : x < n) (hR : SR σ1 A (x :: t)) (hF : MR σ1 F) (hl : F.2.length < 10) (hFn : ∀ q ∈ F.2, q.1 < n) (kS : ∀ (F2 : sFl) (σ2 : xSg), s_in (atM σ1) x F = some F2 → MR σ2 F2 → SR σ2 A t → xFm [74, 75, 76, 77, 78, 79] [23] σ1 σ2 → xEv (.inl 3) M_X6_fills Q 10 ([some (.ref 57), some (.int (s0)), some (.int (s1)), some (.int ((1 : Int32))), none, none, none], [], σ2)) (kN : s_in (atM σ1) x F = none → xEv (.inl 3) M_X6_fills Q 10 ([some (.ref 57), some (.int (s0)), some (.int ((1 : Int32))), some (.int (la)), none, none, none], [], σ1)) : xEv (.inl 3) M_X6_fills Q 103 ([some (.ref 57), some (.int (s0)), some (.int (s1)), some (.int (la)), none, none, some (.int ((1 : Int32)))], [], σ1) := by
  have hn10 := hok.1
  have hst : (σ1 74) ((10 : Int32) * (1 : Int32)).toNatClampNeg = nI x := hR.2.2.2.1 0 x rfl
  refine ev_blk 7 [vp_in ((10 : Int32) * (1 : Int32)) 20] 114 ([some (.ref 57), some (.int (s0)), some (.int (s1)), some (.int (la)), none, none, some (.int ((1 : Int32)))], [.int ((σ1 74) ((10 : Int32) * (1 : Int32)).toNatClampNeg), .ref 57], σ1) rfl ?_ ?_
  · exact vp_in_nI (n := 10) (by decide) (by decide)
  rw [hst]
  refine ev_callV M_X6_goesIn [.int (nI x)] [] 57 rfl rfl ln_X6_162 k_X6_goesIn rfl rfl rfl rfl rfl rfl (m_goesIn σ1 x F n hok hx hF hl hFn) ?_
  rintro r σ2 (⟨F2, hF2, rfl, hM2, hf2⟩ | ⟨hN, rfl, e2⟩)
  · have hR2 : SR σ2 A (x :: t) := SR_fr hR (hf2.1 74 (by decide) (by decide)) (hf2.1 75 (by decide) (by decide))
    show xEv _ _ _ 117 ([some (.ref 57), some (.int (s0)), some (.int (s1)), some (.int (la)), none, none, some (.int ((1 : Int32)))], [.int ((1 : Int32))], σ2)
    refine ev_br 0 [] ((1 : Int32) = 0) 132 120 ([some (.ref 57), some (.int (s0)), some (.int (s1)), some (.int (la)), none, none, some (.int ((1 : Int32)))], [], σ2) rfl ?_ (fun c117 => ?_) (fun c117 => ?_)
    · trivial
    · exact absurd c117 (by decide)
    · refine ev_blk 2 [] 123 ([some (.ref 57), some (.int (s0)), some (.int (s1)), some (.int (la)), none, none, some (.int ((1 : Int32)))], [.int ((1 : Int32)), .ref 57], σ2) rfl ?_ ?_
      · trivial
      refine ev_callV M_X6_stepsOn [.int ((1 : Int32))] [] 57 rfl rfl ln_X6_165 k_X6_stepsOn rfl rfl rfl rfl rfl rfl (m_stepsOn1 σ2 t (by have := hR2.2.2.2.2.2; simpa using this) (by have := hR2.2.1; simpa using this)) ?_
      rintro r σ3 ⟨rfl, h74, h75, hf3⟩
      show xEv _ _ _ 126 ([some (.ref 57), some (.int (s0)), some (.int (s1)), some (.int (la)), none, none, some (.int ((1 : Int32)))], [], σ3)
      refine ev_blk 4 [] 10 ([some (.ref 57), some (.int (s0)), some (.int (s1)), some (.int ((1 : Int32))), none, none, some (.int ((1 : Int32)))], [], σ3) rfl ?_ ?_
      · trivial
      refine ev_drop 6 ?_
      refine kS F2 σ3 hF2 (MR_fr hM2 hf3 rfl rfl) (SR_step1 hR2 h74 h75) ?_
      exact (hf2.mono rfl rfl).tr (hf3.mono rfl rfl)
  · rw [e2]
    show xEv _ _ _ 117 ([some (.ref 57), some (.int (s0)), some (.int (s1)), some (.int (la)), none, none, some (.int ((1 : Int32)))], [.int ((0 : Int32))], σ1)
    refine ev_br 0 [] ((0 : Int32) = 0) 132 120 ([some (.ref 57), some (.int (s0)), some (.int (s1)), some (.int (la)), none, none, some (.int ((1 : Int32)))], [], σ1) rfl ?_ (fun c117 => ?_) (fun c117 => ?_)
    · trivial
    · refine ev_br 1 [] (¬ (1 : Int32) = 0) 142 137 ([some (.ref 57), some (.int (s0)), some (.int (s1)), some (.int (la)), none, none, some (.int ((1 : Int32)))], [], σ1) rfl ?_ (fun c134 => ?_) (fun c134 => ?_)
      · trivial
      · refine ev_blk 3 [] 10 ([some (.ref 57), some (.int (s0)), some (.int ((1 : Int32))), some (.int (la)), none, none, some (.int ((1 : Int32)))], [], σ1) rfl ?_ ?_
        · trivial
        refine ev_drop 6 ?_
        exact kN hN
      · exact absurd (show ¬ (1 : Int32) = 0 by decide) c134
    · exact absurd rfl c117
set_option maxRecDepth 100000 in
theorem m_fills_lp (σ : xSg) (a : sAt) (n : Nat) (T : sSt) (hok : aOk a n) : ∀ (m : Nat) (σ1 : xSg) (A B : List Nat) (o0 o1 : Bool) (la : Int32) (F : sFl), s_mu (A, B, o0, o1, decide (la = 0), F) ≤ m → atM σ1 = a → SR σ1 A B → MR σ1 F → (∀ x ∈ A, x < n) → (∀ x ∈ B, x < n) → (∀ q ∈ F.2, q.1 < n) → F.2.length + A.length + B.length ≤ 10 → xFm [74, 75, 76, 77, 78, 79] [23] σ σ1 → s_run a m (A, B, o0, o1, decide (la = 0), F) = T → xEv (.inl 3) M_X6_fills (fQ σ T) 10 ([some (.ref 57), some (.int (zi (o0 = false))), some (.int (zi (o1 = false))), some (.int (la)), none, none, none], [], σ1) := by
  have hn10 := hok.1
  intro m
  induction m with
  | zero =>
    intro σ1 A B o0 o1 la F hmu ha hR hF hA hB hFn hlen hfr hT
    subst ha
    refine ev_br 1 [] (¬ (zi (o0 = false)) = 0) 27 14 ([some (.ref 57), some (.int (zi (o0 = false))), some (.int (zi (o1 = false))), some (.int (la)), none, none, none], [], σ1) rfl ?_ (fun c11 => ?_) (fun c11 => ?_)
    · trivial
    · replace c11 := zi_1.mp c11
      refine ev_br 3 [] (¬ (zi (o1 = false)) = 0) 47 34 ([some (.ref 57), some (.int (zi (o0 = false))), some (.int (zi (o1 = false))), some (.int (la)), some (.int ((0 : Int32))), none, none], [], σ1) rfl ?_ (fun c31 => ?_) (fun c31 => ?_)
      · trivial
      · replace c31 := zi_1.mp c31
        refine ev_br 3 [] (¬ (0 : Int32) = 0) 65 55 ([some (.ref 57), some (.int (zi (o0 = false))), some (.int (zi (o1 = false))), some (.int (la)), some (.int ((0 : Int32))), some (.int ((0 : Int32))), none], [], σ1) rfl ?_ (fun c52 => ?_) (fun c52 => ?_)
        · trivial
        · exact absurd rfl c52
        · refine ev_br 1 [] (¬ (0 : Int32) = 0) 65 60 ([some (.ref 57), some (.int (zi (o0 = false))), some (.int (zi (o1 = false))), some (.int (la)), some (.int ((0 : Int32))), some (.int ((0 : Int32))), none], [], σ1) rfl ?_ (fun c57 => ?_) (fun c57 => ?_)
          · trivial
          · exact absurd rfl c57
          · refine ev_blk 2 [] 64 ([some (.ref 57), some (.int (zi (o0 = false))), some (.int (zi (o1 = false))), some (.int (la)), some (.int ((0 : Int32))), some (.int ((0 : Int32))), none], [.int ((σ1 57 23))], σ1) rfl ?_ ?_
            · trivial
            have hop0 : s_opn o0 A = [] := by rw [c11]; rfl
            have hop1 : s_opn o1 B = [] := by rw [c31]; rfl
            have hst : s_step (atM σ1) (A, B, o0, o1, decide (la = 0), F) = none := s_st_n (s_pk_n hop0 hop1)
            rw [s_run_none hst] at hT
            subst hT
            refine ev_iret rfl rfl rfl ⟨?_, hF, hR, hfr⟩
            rw [hF.2.2.1]
            rfl
      · replace c31 := zi_n.mp c31
        refine ev_br 4 [vp_in ((1 : Int32)) 2] (((σ1 75) 1) ≤ 0) 47 43 ([some (.ref 57), some (.int (zi (o0 = false))), some (.int (zi (o1 = false))), some (.int (la)), some (.int ((0 : Int32))), none, none], [], σ1) rfl ?_ (fun c40 => ?_) (fun c40 => ?_)
        · exact vp_in_nI (n := 1) (by decide) (by decide)
        · refine ev_br 3 [] (¬ (0 : Int32) = 0) 65 55 ([some (.ref 57), some (.int (zi (o0 = false))), some (.int (zi (o1 = false))), some (.int (la)), some (.int ((0 : Int32))), some (.int ((0 : Int32))), none], [], σ1) rfl ?_ (fun c52 => ?_) (fun c52 => ?_)
          · trivial
          · exact absurd rfl c52
          · refine ev_br 1 [] (¬ (0 : Int32) = 0) 65 60 ([some (.ref 57), some (.int (zi (o0 = false))), some (.int (zi (o1 = false))), some (.int (la)), some (.int ((0 : Int32))), some (.int ((0 : Int32))), none], [], σ1) rfl ?_ (fun c57 => ?_) (fun c57 => ?_)
            · trivial
            · exact absurd rfl c57
            · refine ev_blk 2 [] 64 ([some (.ref 57), some (.int (zi (o0 = false))), some (.int (zi (o1 = false))), some (.int (la)), some (.int ((0 : Int32))), some (.int ((0 : Int32))), none], [.int ((σ1 57 23))], σ1) rfl ?_ ?_
              · trivial
              have hop0 : s_opn o0 A = [] := by rw [c11]; rfl
              have hnil1 : B = [] := sA_nil c40 hR.2.2.2.2.2 hR.2.1
              have hop1 : s_opn o1 B = [] := by rw [hnil1]; unfold s_opn; split <;> rfl
              have hst : s_step (atM σ1) (A, B, o0, o1, decide (la = 0), F) = none := s_st_n (s_pk_n hop0 hop1)
              rw [s_run_none hst] at hT
              subst hT
              refine ev_iret rfl rfl rfl ⟨?_, hF, hR, hfr⟩
              rw [hF.2.2.1]
              rfl
        · refine ev_br 4 [] (¬ (0 : Int32) = 0) 65 55 ([some (.ref 57), some (.int (zi (o0 = false))), some (.int (zi (o1 = false))), some (.int (la)), some (.int ((0 : Int32))), some (.int ((1 : Int32))), none], [], σ1) rfl ?_ (fun c52 => ?_) (fun c52 => ?_)
          · trivial
          · exact absurd rfl c52
          · refine ev_br 1 [] (¬ (1 : Int32) = 0) 65 60 ([some (.ref 57), some (.int (zi (o0 = false))), some (.int (zi (o1 = false))), some (.int (la)), some (.int ((0 : Int32))), some (.int ((1 : Int32))), none], [], σ1) rfl ?_ (fun c57 => ?_) (fun c57 => ?_)
            · trivial
            · refine ev_br 1 [] ((0 : Int32) = 0) 91 70 ([some (.ref 57), some (.int (zi (o0 = false))), some (.int (zi (o1 = false))), some (.int (la)), some (.int ((0 : Int32))), some (.int ((1 : Int32))), none], [], σ1) rfl ?_ (fun c67 => ?_) (fun c67 => ?_)
              · trivial
              · refine ev_br 1 [] ((0 : Int32) = 0) 100 96 ([some (.ref 57), some (.int (zi (o0 = false))), some (.int (zi (o1 = false))), some (.int (la)), some (.int ((0 : Int32))), some (.int ((1 : Int32))), none], [], σ1) rfl ?_ (fun c93 => ?_) (fun c93 => ?_)
                · trivial
                · refine ev_blk 2 [] 103 ([some (.ref 57), some (.int (zi (o0 = false))), some (.int (zi (o1 = false))), some (.int (la)), some (.int ((0 : Int32))), some (.int ((1 : Int32))), some (.int ((1 : Int32)))], [], σ1) rfl ?_ ?_
                  · trivial
                  have hop0 : s_opn o0 A = [] := by rw [c11]; rfl
                  have ho1 : o1 = true := by cases h : o1 with | true => rfl | false => exact absurd h c31
                  obtain ⟨y, t1, rfl⟩ := sA_ne c40 hR.2.2.2.2.2
                  have hop1 : s_opn o1 (y :: t1) = y :: t1 := by rw [ho1]; rfl
                  simp [s_mu, ho1] at hmu
                · exact absurd rfl c93
              · exact absurd rfl c67
            · exact absurd (show ¬ (1 : Int32) = 0 by decide) c57
    · replace c11 := zi_n.mp c11
      refine ev_br 4 [vp_in ((0 : Int32)) 2] (((σ1 75) 0) ≤ 0) 27 23 ([some (.ref 57), some (.int (zi (o0 = false))), some (.int (zi (o1 = false))), some (.int (la)), none, none, none], [], σ1) rfl ?_ (fun c20 => ?_) (fun c20 => ?_)
      · exact vp_in_nI (n := 0) (by decide) (by decide)
      · refine ev_br 3 [] (¬ (zi (o1 = false)) = 0) 47 34 ([some (.ref 57), some (.int (zi (o0 = false))), some (.int (zi (o1 = false))), some (.int (la)), some (.int ((0 : Int32))), none, none], [], σ1) rfl ?_ (fun c31 => ?_) (fun c31 => ?_)
        · trivial
        · replace c31 := zi_1.mp c31
          refine ev_br 3 [] (¬ (0 : Int32) = 0) 65 55 ([some (.ref 57), some (.int (zi (o0 = false))), some (.int (zi (o1 = false))), some (.int (la)), some (.int ((0 : Int32))), some (.int ((0 : Int32))), none], [], σ1) rfl ?_ (fun c52 => ?_) (fun c52 => ?_)
          · trivial
          · exact absurd rfl c52
          · refine ev_br 1 [] (¬ (0 : Int32) = 0) 65 60 ([some (.ref 57), some (.int (zi (o0 = false))), some (.int (zi (o1 = false))), some (.int (la)), some (.int ((0 : Int32))), some (.int ((0 : Int32))), none], [], σ1) rfl ?_ (fun c57 => ?_) (fun c57 => ?_)
            · trivial
            · exact absurd rfl c57
            · refine ev_blk 2 [] 64 ([some (.ref 57), some (.int (zi (o0 = false))), some (.int (zi (o1 = false))), some (.int (la)), some (.int ((0 : Int32))), some (.int ((0 : Int32))), none], [.int ((σ1 57 23))], σ1) rfl ?_ ?_
              · trivial
              have hnil0 : A = [] := sA_nil c20 hR.2.2.2.2.1 hR.1
              have hop0 : s_opn o0 A = [] := by rw [hnil0]; unfold s_opn; split <;> rfl
              have hop1 : s_opn o1 B = [] := by rw [c31]; rfl
              have hst : s_step (atM σ1) (A, B, o0, o1, decide (la = 0), F) = none := s_st_n (s_pk_n hop0 hop1)
              rw [s_run_none hst] at hT
              subst hT
              refine ev_iret rfl rfl rfl ⟨?_, hF, hR, hfr⟩
              rw [hF.2.2.1]
              rfl
        · replace c31 := zi_n.mp c31
          refine ev_br 4 [vp_in ((1 : Int32)) 2] (((σ1 75) 1) ≤ 0) 47 43 ([some (.ref 57), some (.int (zi (o0 = false))), some (.int (zi (o1 = false))), some (.int (la)), some (.int ((0 : Int32))), none, none], [], σ1) rfl ?_ (fun c40 => ?_) (fun c40 => ?_)
          · exact vp_in_nI (n := 1) (by decide) (by decide)
          · refine ev_br 3 [] (¬ (0 : Int32) = 0) 65 55 ([some (.ref 57), some (.int (zi (o0 = false))), some (.int (zi (o1 = false))), some (.int (la)), some (.int ((0 : Int32))), some (.int ((0 : Int32))), none], [], σ1) rfl ?_ (fun c52 => ?_) (fun c52 => ?_)
            · trivial
            · exact absurd rfl c52
            · refine ev_br 1 [] (¬ (0 : Int32) = 0) 65 60 ([some (.ref 57), some (.int (zi (o0 = false))), some (.int (zi (o1 = false))), some (.int (la)), some (.int ((0 : Int32))), some (.int ((0 : Int32))), none], [], σ1) rfl ?_ (fun c57 => ?_) (fun c57 => ?_)
              · trivial
              · exact absurd rfl c57
              · refine ev_blk 2 [] 64 ([some (.ref 57), some (.int (zi (o0 = false))), some (.int (zi (o1 = false))), some (.int (la)), some (.int ((0 : Int32))), some (.int ((0 : Int32))), none], [.int ((σ1 57 23))], σ1) rfl ?_ ?_
                · trivial
                have hnil0 : A = [] := sA_nil c20 hR.2.2.2.2.1 hR.1
                have hop0 : s_opn o0 A = [] := by rw [hnil0]; unfold s_opn; split <;> rfl
                have hnil1 : B = [] := sA_nil c40 hR.2.2.2.2.2 hR.2.1
                have hop1 : s_opn o1 B = [] := by rw [hnil1]; unfold s_opn; split <;> rfl
                have hst : s_step (atM σ1) (A, B, o0, o1, decide (la = 0), F) = none := s_st_n (s_pk_n hop0 hop1)
                rw [s_run_none hst] at hT
                subst hT
                refine ev_iret rfl rfl rfl ⟨?_, hF, hR, hfr⟩
                rw [hF.2.2.1]
                rfl
          · refine ev_br 4 [] (¬ (0 : Int32) = 0) 65 55 ([some (.ref 57), some (.int (zi (o0 = false))), some (.int (zi (o1 = false))), some (.int (la)), some (.int ((0 : Int32))), some (.int ((1 : Int32))), none], [], σ1) rfl ?_ (fun c52 => ?_) (fun c52 => ?_)
            · trivial
            · exact absurd rfl c52
            · refine ev_br 1 [] (¬ (1 : Int32) = 0) 65 60 ([some (.ref 57), some (.int (zi (o0 = false))), some (.int (zi (o1 = false))), some (.int (la)), some (.int ((0 : Int32))), some (.int ((1 : Int32))), none], [], σ1) rfl ?_ (fun c57 => ?_) (fun c57 => ?_)
              · trivial
              · refine ev_br 1 [] ((0 : Int32) = 0) 91 70 ([some (.ref 57), some (.int (zi (o0 = false))), some (.int (zi (o1 = false))), some (.int (la)), some (.int ((0 : Int32))), some (.int ((1 : Int32))), none], [], σ1) rfl ?_ (fun c67 => ?_) (fun c67 => ?_)
                · trivial
                · refine ev_br 1 [] ((0 : Int32) = 0) 100 96 ([some (.ref 57), some (.int (zi (o0 = false))), some (.int (zi (o1 = false))), some (.int (la)), some (.int ((0 : Int32))), some (.int ((1 : Int32))), none], [], σ1) rfl ?_ (fun c93 => ?_) (fun c93 => ?_)
                  · trivial
                  · refine ev_blk 2 [] 103 ([some (.ref 57), some (.int (zi (o0 = false))), some (.int (zi (o1 = false))), some (.int (la)), some (.int ((0 : Int32))), some (.int ((1 : Int32))), some (.int ((1 : Int32)))], [], σ1) rfl ?_ ?_
                    · trivial
                    have hnil0 : A = [] := sA_nil c20 hR.2.2.2.2.1 hR.1
                    have hop0 : s_opn o0 A = [] := by rw [hnil0]; unfold s_opn; split <;> rfl
                    have ho1 : o1 = true := by cases h : o1 with | true => rfl | false => exact absurd h c31
                    obtain ⟨y, t1, rfl⟩ := sA_ne c40 hR.2.2.2.2.2
                    have hop1 : s_opn o1 (y :: t1) = y :: t1 := by rw [ho1]; rfl
                    simp [s_mu, ho1] at hmu
                  · exact absurd rfl c93
                · exact absurd rfl c67
              · exact absurd (show ¬ (1 : Int32) = 0 by decide) c57
      · refine ev_br 4 [] (¬ (zi (o1 = false)) = 0) 47 34 ([some (.ref 57), some (.int (zi (o0 = false))), some (.int (zi (o1 = false))), some (.int (la)), some (.int ((1 : Int32))), none, none], [], σ1) rfl ?_ (fun c31 => ?_) (fun c31 => ?_)
        · trivial
        · replace c31 := zi_1.mp c31
          refine ev_br 3 [] (¬ (1 : Int32) = 0) 65 55 ([some (.ref 57), some (.int (zi (o0 = false))), some (.int (zi (o1 = false))), some (.int (la)), some (.int ((1 : Int32))), some (.int ((0 : Int32))), none], [], σ1) rfl ?_ (fun c52 => ?_) (fun c52 => ?_)
          · trivial
          · refine ev_br 1 [] ((1 : Int32) = 0) 91 70 ([some (.ref 57), some (.int (zi (o0 = false))), some (.int (zi (o1 = false))), some (.int (la)), some (.int ((1 : Int32))), some (.int ((0 : Int32))), none], [], σ1) rfl ?_ (fun c67 => ?_) (fun c67 => ?_)
            · trivial
            · exact absurd c67 (by decide)
            · refine ev_br 1 [] ((0 : Int32) = 0) 91 75 ([some (.ref 57), some (.int (zi (o0 = false))), some (.int (zi (o1 = false))), some (.int (la)), some (.int ((1 : Int32))), some (.int ((0 : Int32))), none], [], σ1) rfl ?_ (fun c72 => ?_) (fun c72 => ?_)
              · trivial
              · refine ev_br 1 [] ((1 : Int32) = 0) 100 96 ([some (.ref 57), some (.int (zi (o0 = false))), some (.int (zi (o1 = false))), some (.int (la)), some (.int ((1 : Int32))), some (.int ((0 : Int32))), none], [], σ1) rfl ?_ (fun c93 => ?_) (fun c93 => ?_)
                · trivial
                · exact absurd c93 (by decide)
                · refine ev_blk 3 [] 103 ([some (.ref 57), some (.int (zi (o0 = false))), some (.int (zi (o1 = false))), some (.int (la)), some (.int ((1 : Int32))), some (.int ((0 : Int32))), some (.int ((0 : Int32)))], [], σ1) rfl ?_ ?_
                  · trivial
                  have ho0 : o0 = true := by cases h : o0 with | true => rfl | false => exact absurd h c11
                  obtain ⟨x, t0, rfl⟩ := sA_ne c20 hR.2.2.2.2.1
                  have hop0 : s_opn o0 (x :: t0) = x :: t0 := by rw [ho0]; rfl
                  have hop1 : s_opn o1 B = [] := by rw [c31]; rfl
                  simp [s_mu, ho0] at hmu
              · exact absurd rfl c72
          · exact absurd (show ¬ (1 : Int32) = 0 by decide) c52
        · replace c31 := zi_n.mp c31
          refine ev_br 4 [vp_in ((1 : Int32)) 2] (((σ1 75) 1) ≤ 0) 47 43 ([some (.ref 57), some (.int (zi (o0 = false))), some (.int (zi (o1 = false))), some (.int (la)), some (.int ((1 : Int32))), none, none], [], σ1) rfl ?_ (fun c40 => ?_) (fun c40 => ?_)
          · exact vp_in_nI (n := 1) (by decide) (by decide)
          · refine ev_br 3 [] (¬ (1 : Int32) = 0) 65 55 ([some (.ref 57), some (.int (zi (o0 = false))), some (.int (zi (o1 = false))), some (.int (la)), some (.int ((1 : Int32))), some (.int ((0 : Int32))), none], [], σ1) rfl ?_ (fun c52 => ?_) (fun c52 => ?_)
            · trivial
            · refine ev_br 1 [] ((1 : Int32) = 0) 91 70 ([some (.ref 57), some (.int (zi (o0 = false))), some (.int (zi (o1 = false))), some (.int (la)), some (.int ((1 : Int32))), some (.int ((0 : Int32))), none], [], σ1) rfl ?_ (fun c67 => ?_) (fun c67 => ?_)
              · trivial
              · exact absurd c67 (by decide)
              · refine ev_br 1 [] ((0 : Int32) = 0) 91 75 ([some (.ref 57), some (.int (zi (o0 = false))), some (.int (zi (o1 = false))), some (.int (la)), some (.int ((1 : Int32))), some (.int ((0 : Int32))), none], [], σ1) rfl ?_ (fun c72 => ?_) (fun c72 => ?_)
                · trivial
                · refine ev_br 1 [] ((1 : Int32) = 0) 100 96 ([some (.ref 57), some (.int (zi (o0 = false))), some (.int (zi (o1 = false))), some (.int (la)), some (.int ((1 : Int32))), some (.int ((0 : Int32))), none], [], σ1) rfl ?_ (fun c93 => ?_) (fun c93 => ?_)
                  · trivial
                  · exact absurd c93 (by decide)
                  · refine ev_blk 3 [] 103 ([some (.ref 57), some (.int (zi (o0 = false))), some (.int (zi (o1 = false))), some (.int (la)), some (.int ((1 : Int32))), some (.int ((0 : Int32))), some (.int ((0 : Int32)))], [], σ1) rfl ?_ ?_
                    · trivial
                    have ho0 : o0 = true := by cases h : o0 with | true => rfl | false => exact absurd h c11
                    obtain ⟨x, t0, rfl⟩ := sA_ne c20 hR.2.2.2.2.1
                    have hop0 : s_opn o0 (x :: t0) = x :: t0 := by rw [ho0]; rfl
                    have hnil1 : B = [] := sA_nil c40 hR.2.2.2.2.2 hR.2.1
                    have hop1 : s_opn o1 B = [] := by rw [hnil1]; unfold s_opn; split <;> rfl
                    simp [s_mu, ho0] at hmu
                · exact absurd rfl c72
            · exact absurd (show ¬ (1 : Int32) = 0 by decide) c52
          · refine ev_br 4 [] (¬ (1 : Int32) = 0) 65 55 ([some (.ref 57), some (.int (zi (o0 = false))), some (.int (zi (o1 = false))), some (.int (la)), some (.int ((1 : Int32))), some (.int ((1 : Int32))), none], [], σ1) rfl ?_ (fun c52 => ?_) (fun c52 => ?_)
            · trivial
            · refine ev_br 1 [] ((1 : Int32) = 0) 91 70 ([some (.ref 57), some (.int (zi (o0 = false))), some (.int (zi (o1 = false))), some (.int (la)), some (.int ((1 : Int32))), some (.int ((1 : Int32))), none], [], σ1) rfl ?_ (fun c67 => ?_) (fun c67 => ?_)
              · trivial
              · exact absurd c67 (by decide)
              · refine ev_br 1 [] ((1 : Int32) = 0) 91 75 ([some (.ref 57), some (.int (zi (o0 = false))), some (.int (zi (o1 = false))), some (.int (la)), some (.int ((1 : Int32))), some (.int ((1 : Int32))), none], [], σ1) rfl ?_ (fun c72 => ?_) (fun c72 => ?_)
                · trivial
                · exact absurd c72 (by decide)
                · refine ev_blk 2 [] 77 ([some (.ref 57), some (.int (zi (o0 = false))), some (.int (zi (o1 = false))), some (.int (la)), some (.int ((1 : Int32))), some (.int ((1 : Int32))), none], [.int (la), .ref 57], σ1) rfl ?_ ?_
                  · trivial
                  have ho0 : o0 = true := by cases h : o0 with | true => rfl | false => exact absurd h c11
                  obtain ⟨x, t0, rfl⟩ := sA_ne c20 hR.2.2.2.2.1
                  have hop0 : s_opn o0 (x :: t0) = x :: t0 := by rw [ho0]; rfl
                  have ho1 : o1 = true := by cases h : o1 with | true => rfl | false => exact absurd h c31
                  obtain ⟨y, t1, rfl⟩ := sA_ne c40 hR.2.2.2.2.2
                  have hop1 : s_opn o1 (y :: t1) = y :: t1 := by rw [ho1]; rfl
                  simp [s_mu, ho0] at hmu
            · exact absurd (show ¬ (1 : Int32) = 0 by decide) c52
  | succ m ih =>
    intro σ1 A B o0 o1 la F hmu ha hR hF hA hB hFn hlen hfr hT
    subst ha
    refine ev_br 1 [] (¬ (zi (o0 = false)) = 0) 27 14 ([some (.ref 57), some (.int (zi (o0 = false))), some (.int (zi (o1 = false))), some (.int (la)), none, none, none], [], σ1) rfl ?_ (fun c11 => ?_) (fun c11 => ?_)
    · trivial
    · replace c11 := zi_1.mp c11
      refine ev_br 3 [] (¬ (zi (o1 = false)) = 0) 47 34 ([some (.ref 57), some (.int (zi (o0 = false))), some (.int (zi (o1 = false))), some (.int (la)), some (.int ((0 : Int32))), none, none], [], σ1) rfl ?_ (fun c31 => ?_) (fun c31 => ?_)
      · trivial
      · replace c31 := zi_1.mp c31
        refine ev_br 3 [] (¬ (0 : Int32) = 0) 65 55 ([some (.ref 57), some (.int (zi (o0 = false))), some (.int (zi (o1 = false))), some (.int (la)), some (.int ((0 : Int32))), some (.int ((0 : Int32))), none], [], σ1) rfl ?_ (fun c52 => ?_) (fun c52 => ?_)
        · trivial
        · exact absurd rfl c52
        · refine ev_br 1 [] (¬ (0 : Int32) = 0) 65 60 ([some (.ref 57), some (.int (zi (o0 = false))), some (.int (zi (o1 = false))), some (.int (la)), some (.int ((0 : Int32))), some (.int ((0 : Int32))), none], [], σ1) rfl ?_ (fun c57 => ?_) (fun c57 => ?_)
          · trivial
          · exact absurd rfl c57
          · refine ev_blk 2 [] 64 ([some (.ref 57), some (.int (zi (o0 = false))), some (.int (zi (o1 = false))), some (.int (la)), some (.int ((0 : Int32))), some (.int ((0 : Int32))), none], [.int ((σ1 57 23))], σ1) rfl ?_ ?_
            · trivial
            have hop0 : s_opn o0 A = [] := by rw [c11]; rfl
            have hop1 : s_opn o1 B = [] := by rw [c31]; rfl
            have hst : s_step (atM σ1) (A, B, o0, o1, decide (la = 0), F) = none := s_st_n (s_pk_n hop0 hop1)
            rw [s_run_none hst] at hT
            subst hT
            refine ev_iret rfl rfl rfl ⟨?_, hF, hR, hfr⟩
            rw [hF.2.2.1]
            rfl
      · replace c31 := zi_n.mp c31
        refine ev_br 4 [vp_in ((1 : Int32)) 2] (((σ1 75) 1) ≤ 0) 47 43 ([some (.ref 57), some (.int (zi (o0 = false))), some (.int (zi (o1 = false))), some (.int (la)), some (.int ((0 : Int32))), none, none], [], σ1) rfl ?_ (fun c40 => ?_) (fun c40 => ?_)
        · exact vp_in_nI (n := 1) (by decide) (by decide)
        · refine ev_br 3 [] (¬ (0 : Int32) = 0) 65 55 ([some (.ref 57), some (.int (zi (o0 = false))), some (.int (zi (o1 = false))), some (.int (la)), some (.int ((0 : Int32))), some (.int ((0 : Int32))), none], [], σ1) rfl ?_ (fun c52 => ?_) (fun c52 => ?_)
          · trivial
          · exact absurd rfl c52
          · refine ev_br 1 [] (¬ (0 : Int32) = 0) 65 60 ([some (.ref 57), some (.int (zi (o0 = false))), some (.int (zi (o1 = false))), some (.int (la)), some (.int ((0 : Int32))), some (.int ((0 : Int32))), none], [], σ1) rfl ?_ (fun c57 => ?_) (fun c57 => ?_)
            · trivial
            · exact absurd rfl c57
            · refine ev_blk 2 [] 64 ([some (.ref 57), some (.int (zi (o0 = false))), some (.int (zi (o1 = false))), some (.int (la)), some (.int ((0 : Int32))), some (.int ((0 : Int32))), none], [.int ((σ1 57 23))], σ1) rfl ?_ ?_
              · trivial
              have hop0 : s_opn o0 A = [] := by rw [c11]; rfl
              have hnil1 : B = [] := sA_nil c40 hR.2.2.2.2.2 hR.2.1
              have hop1 : s_opn o1 B = [] := by rw [hnil1]; unfold s_opn; split <;> rfl
              have hst : s_step (atM σ1) (A, B, o0, o1, decide (la = 0), F) = none := s_st_n (s_pk_n hop0 hop1)
              rw [s_run_none hst] at hT
              subst hT
              refine ev_iret rfl rfl rfl ⟨?_, hF, hR, hfr⟩
              rw [hF.2.2.1]
              rfl
        · refine ev_br 4 [] (¬ (0 : Int32) = 0) 65 55 ([some (.ref 57), some (.int (zi (o0 = false))), some (.int (zi (o1 = false))), some (.int (la)), some (.int ((0 : Int32))), some (.int ((1 : Int32))), none], [], σ1) rfl ?_ (fun c52 => ?_) (fun c52 => ?_)
          · trivial
          · exact absurd rfl c52
          · refine ev_br 1 [] (¬ (1 : Int32) = 0) 65 60 ([some (.ref 57), some (.int (zi (o0 = false))), some (.int (zi (o1 = false))), some (.int (la)), some (.int ((0 : Int32))), some (.int ((1 : Int32))), none], [], σ1) rfl ?_ (fun c57 => ?_) (fun c57 => ?_)
            · trivial
            · refine ev_br 1 [] ((0 : Int32) = 0) 91 70 ([some (.ref 57), some (.int (zi (o0 = false))), some (.int (zi (o1 = false))), some (.int (la)), some (.int ((0 : Int32))), some (.int ((1 : Int32))), none], [], σ1) rfl ?_ (fun c67 => ?_) (fun c67 => ?_)
              · trivial
              · refine ev_br 1 [] ((0 : Int32) = 0) 100 96 ([some (.ref 57), some (.int (zi (o0 = false))), some (.int (zi (o1 = false))), some (.int (la)), some (.int ((0 : Int32))), some (.int ((1 : Int32))), none], [], σ1) rfl ?_ (fun c93 => ?_) (fun c93 => ?_)
                · trivial
                · refine ev_blk 2 [] 103 ([some (.ref 57), some (.int (zi (o0 = false))), some (.int (zi (o1 = false))), some (.int (la)), some (.int ((0 : Int32))), some (.int ((1 : Int32))), some (.int ((1 : Int32)))], [], σ1) rfl ?_ ?_
                  · trivial
                  have hop0 : s_opn o0 A = [] := by rw [c11]; rfl
                  have ho1 : o1 = true := by cases h : o1 with | true => rfl | false => exact absurd h c31
                  obtain ⟨y, t1, rfl⟩ := sA_ne c40 hR.2.2.2.2.2
                  have hop1 : s_opn o1 (y :: t1) = y :: t1 := by rw [ho1]; rfl
                  have hpk : s_pick (atM σ1) (decide (la = 0)) (s_opn o0 A) (s_opn o1 (y :: t1)) = some (y, true) := s_pk_1 hop0 hop1
                  refine ev_drop 4 ?_
                  refine ev_drop 5 ?_
                  refine m_fills_t1 _ σ1 (zi (o0 = false)) (zi (o1 = false)) la y n t1 A F hok (hB y List.mem_cons_self) hR hF (by simp only [List.length_cons] at hlen; omega) hFn (fun F2 σ2 h2 hM2 hR2 hf2 => ?_) (fun h2 => ?_)
                  · have hst : s_step (atM σ1) (A, (y :: t1), o0, o1, decide (la = 0), F) = some (A, t1, o0, o1, false, F2) := s_st_1 hpk h2
                    obtain ⟨r2, p2, hw2⟩ := s_in_w h2
                    have hmu2 := s_step_mu hst
                    refine ih σ2 A t1 o0 o1 _ F2 (show s_mu (A, t1, o0, o1, false, F2) ≤ m by omega) (atM_fr hf2 rfl) hR2 hM2 hA (fun z hz => hB z (List.mem_cons_of_mem _ hz)) (fun q hq => ?_) ?_ (hfr.tr hf2) ?_
                    · rw [hw2] at hq
                      rcases List.mem_append.mp hq with hq | hq
                      · exact hFn q hq
                      · rw [List.mem_singleton.mp hq]; exact (hB y List.mem_cons_self)
                    · rw [hw2]
                      simp only [List.length_append, List.length_cons, List.length_nil] at hlen ⊢
                      omega
                    · rw [← hT, s_run_some hst]
                      rfl
                  · have hst : s_step (atM σ1) (A, (y :: t1), o0, o1, decide (la = 0), F) = some (A, (y :: t1), o0, false, decide (la = 0), F) := s_st_1n hpk h2
                    have hmu2 := s_step_mu hst
                    have hz := ih σ1 A (y :: t1) o0 false la F (show s_mu (A, (y :: t1), o0, false, decide (la = 0), F) ≤ m by omega) rfl hR hF hA hB hFn hlen hfr (by rw [← hT, s_run_some hst])
                    exact hz
                · exact absurd rfl c93
              · exact absurd rfl c67
            · exact absurd (show ¬ (1 : Int32) = 0 by decide) c57
    · replace c11 := zi_n.mp c11
      refine ev_br 4 [vp_in ((0 : Int32)) 2] (((σ1 75) 0) ≤ 0) 27 23 ([some (.ref 57), some (.int (zi (o0 = false))), some (.int (zi (o1 = false))), some (.int (la)), none, none, none], [], σ1) rfl ?_ (fun c20 => ?_) (fun c20 => ?_)
      · exact vp_in_nI (n := 0) (by decide) (by decide)
      · refine ev_br 3 [] (¬ (zi (o1 = false)) = 0) 47 34 ([some (.ref 57), some (.int (zi (o0 = false))), some (.int (zi (o1 = false))), some (.int (la)), some (.int ((0 : Int32))), none, none], [], σ1) rfl ?_ (fun c31 => ?_) (fun c31 => ?_)
        · trivial
        · replace c31 := zi_1.mp c31
          refine ev_br 3 [] (¬ (0 : Int32) = 0) 65 55 ([some (.ref 57), some (.int (zi (o0 = false))), some (.int (zi (o1 = false))), some (.int (la)), some (.int ((0 : Int32))), some (.int ((0 : Int32))), none], [], σ1) rfl ?_ (fun c52 => ?_) (fun c52 => ?_)
          · trivial
          · exact absurd rfl c52
          · refine ev_br 1 [] (¬ (0 : Int32) = 0) 65 60 ([some (.ref 57), some (.int (zi (o0 = false))), some (.int (zi (o1 = false))), some (.int (la)), some (.int ((0 : Int32))), some (.int ((0 : Int32))), none], [], σ1) rfl ?_ (fun c57 => ?_) (fun c57 => ?_)
            · trivial
            · exact absurd rfl c57
            · refine ev_blk 2 [] 64 ([some (.ref 57), some (.int (zi (o0 = false))), some (.int (zi (o1 = false))), some (.int (la)), some (.int ((0 : Int32))), some (.int ((0 : Int32))), none], [.int ((σ1 57 23))], σ1) rfl ?_ ?_
              · trivial
              have hnil0 : A = [] := sA_nil c20 hR.2.2.2.2.1 hR.1
              have hop0 : s_opn o0 A = [] := by rw [hnil0]; unfold s_opn; split <;> rfl
              have hop1 : s_opn o1 B = [] := by rw [c31]; rfl
              have hst : s_step (atM σ1) (A, B, o0, o1, decide (la = 0), F) = none := s_st_n (s_pk_n hop0 hop1)
              rw [s_run_none hst] at hT
              subst hT
              refine ev_iret rfl rfl rfl ⟨?_, hF, hR, hfr⟩
              rw [hF.2.2.1]
              rfl
        · replace c31 := zi_n.mp c31
          refine ev_br 4 [vp_in ((1 : Int32)) 2] (((σ1 75) 1) ≤ 0) 47 43 ([some (.ref 57), some (.int (zi (o0 = false))), some (.int (zi (o1 = false))), some (.int (la)), some (.int ((0 : Int32))), none, none], [], σ1) rfl ?_ (fun c40 => ?_) (fun c40 => ?_)
          · exact vp_in_nI (n := 1) (by decide) (by decide)
          · refine ev_br 3 [] (¬ (0 : Int32) = 0) 65 55 ([some (.ref 57), some (.int (zi (o0 = false))), some (.int (zi (o1 = false))), some (.int (la)), some (.int ((0 : Int32))), some (.int ((0 : Int32))), none], [], σ1) rfl ?_ (fun c52 => ?_) (fun c52 => ?_)
            · trivial
            · exact absurd rfl c52
            · refine ev_br 1 [] (¬ (0 : Int32) = 0) 65 60 ([some (.ref 57), some (.int (zi (o0 = false))), some (.int (zi (o1 = false))), some (.int (la)), some (.int ((0 : Int32))), some (.int ((0 : Int32))), none], [], σ1) rfl ?_ (fun c57 => ?_) (fun c57 => ?_)
              · trivial
              · exact absurd rfl c57
              · refine ev_blk 2 [] 64 ([some (.ref 57), some (.int (zi (o0 = false))), some (.int (zi (o1 = false))), some (.int (la)), some (.int ((0 : Int32))), some (.int ((0 : Int32))), none], [.int ((σ1 57 23))], σ1) rfl ?_ ?_
                · trivial
                have hnil0 : A = [] := sA_nil c20 hR.2.2.2.2.1 hR.1
                have hop0 : s_opn o0 A = [] := by rw [hnil0]; unfold s_opn; split <;> rfl
                have hnil1 : B = [] := sA_nil c40 hR.2.2.2.2.2 hR.2.1
                have hop1 : s_opn o1 B = [] := by rw [hnil1]; unfold s_opn; split <;> rfl
                have hst : s_step (atM σ1) (A, B, o0, o1, decide (la = 0), F) = none := s_st_n (s_pk_n hop0 hop1)
                rw [s_run_none hst] at hT
                subst hT
                refine ev_iret rfl rfl rfl ⟨?_, hF, hR, hfr⟩
                rw [hF.2.2.1]
                rfl
          · refine ev_br 4 [] (¬ (0 : Int32) = 0) 65 55 ([some (.ref 57), some (.int (zi (o0 = false))), some (.int (zi (o1 = false))), some (.int (la)), some (.int ((0 : Int32))), some (.int ((1 : Int32))), none], [], σ1) rfl ?_ (fun c52 => ?_) (fun c52 => ?_)
            · trivial
            · exact absurd rfl c52
            · refine ev_br 1 [] (¬ (1 : Int32) = 0) 65 60 ([some (.ref 57), some (.int (zi (o0 = false))), some (.int (zi (o1 = false))), some (.int (la)), some (.int ((0 : Int32))), some (.int ((1 : Int32))), none], [], σ1) rfl ?_ (fun c57 => ?_) (fun c57 => ?_)
              · trivial
              · refine ev_br 1 [] ((0 : Int32) = 0) 91 70 ([some (.ref 57), some (.int (zi (o0 = false))), some (.int (zi (o1 = false))), some (.int (la)), some (.int ((0 : Int32))), some (.int ((1 : Int32))), none], [], σ1) rfl ?_ (fun c67 => ?_) (fun c67 => ?_)
                · trivial
                · refine ev_br 1 [] ((0 : Int32) = 0) 100 96 ([some (.ref 57), some (.int (zi (o0 = false))), some (.int (zi (o1 = false))), some (.int (la)), some (.int ((0 : Int32))), some (.int ((1 : Int32))), none], [], σ1) rfl ?_ (fun c93 => ?_) (fun c93 => ?_)
                  · trivial
                  · refine ev_blk 2 [] 103 ([some (.ref 57), some (.int (zi (o0 = false))), some (.int (zi (o1 = false))), some (.int (la)), some (.int ((0 : Int32))), some (.int ((1 : Int32))), some (.int ((1 : Int32)))], [], σ1) rfl ?_ ?_
                    · trivial
                    have hnil0 : A = [] := sA_nil c20 hR.2.2.2.2.1 hR.1
                    have hop0 : s_opn o0 A = [] := by rw [hnil0]; unfold s_opn; split <;> rfl
                    have ho1 : o1 = true := by cases h : o1 with | true => rfl | false => exact absurd h c31
                    obtain ⟨y, t1, rfl⟩ := sA_ne c40 hR.2.2.2.2.2
                    have hop1 : s_opn o1 (y :: t1) = y :: t1 := by rw [ho1]; rfl
                    have hpk : s_pick (atM σ1) (decide (la = 0)) (s_opn o0 A) (s_opn o1 (y :: t1)) = some (y, true) := s_pk_1 hop0 hop1
                    refine ev_drop 4 ?_
                    refine ev_drop 5 ?_
                    refine m_fills_t1 _ σ1 (zi (o0 = false)) (zi (o1 = false)) la y n t1 A F hok (hB y List.mem_cons_self) hR hF (by simp only [List.length_cons] at hlen; omega) hFn (fun F2 σ2 h2 hM2 hR2 hf2 => ?_) (fun h2 => ?_)
                    · have hst : s_step (atM σ1) (A, (y :: t1), o0, o1, decide (la = 0), F) = some (A, t1, o0, o1, false, F2) := s_st_1 hpk h2
                      obtain ⟨r2, p2, hw2⟩ := s_in_w h2
                      have hmu2 := s_step_mu hst
                      refine ih σ2 A t1 o0 o1 _ F2 (show s_mu (A, t1, o0, o1, false, F2) ≤ m by omega) (atM_fr hf2 rfl) hR2 hM2 hA (fun z hz => hB z (List.mem_cons_of_mem _ hz)) (fun q hq => ?_) ?_ (hfr.tr hf2) ?_
                      · rw [hw2] at hq
                        rcases List.mem_append.mp hq with hq | hq
                        · exact hFn q hq
                        · rw [List.mem_singleton.mp hq]; exact (hB y List.mem_cons_self)
                      · rw [hw2]
                        simp only [List.length_append, List.length_cons, List.length_nil] at hlen ⊢
                        omega
                      · rw [← hT, s_run_some hst]
                        rfl
                    · have hst : s_step (atM σ1) (A, (y :: t1), o0, o1, decide (la = 0), F) = some (A, (y :: t1), o0, false, decide (la = 0), F) := s_st_1n hpk h2
                      have hmu2 := s_step_mu hst
                      have hz := ih σ1 A (y :: t1) o0 false la F (show s_mu (A, (y :: t1), o0, false, decide (la = 0), F) ≤ m by omega) rfl hR hF hA hB hFn hlen hfr (by rw [← hT, s_run_some hst])
                      exact hz
                  · exact absurd rfl c93
                · exact absurd rfl c67
              · exact absurd (show ¬ (1 : Int32) = 0 by decide) c57
      · refine ev_br 4 [] (¬ (zi (o1 = false)) = 0) 47 34 ([some (.ref 57), some (.int (zi (o0 = false))), some (.int (zi (o1 = false))), some (.int (la)), some (.int ((1 : Int32))), none, none], [], σ1) rfl ?_ (fun c31 => ?_) (fun c31 => ?_)
        · trivial
        · replace c31 := zi_1.mp c31
          refine ev_br 3 [] (¬ (1 : Int32) = 0) 65 55 ([some (.ref 57), some (.int (zi (o0 = false))), some (.int (zi (o1 = false))), some (.int (la)), some (.int ((1 : Int32))), some (.int ((0 : Int32))), none], [], σ1) rfl ?_ (fun c52 => ?_) (fun c52 => ?_)
          · trivial
          · refine ev_br 1 [] ((1 : Int32) = 0) 91 70 ([some (.ref 57), some (.int (zi (o0 = false))), some (.int (zi (o1 = false))), some (.int (la)), some (.int ((1 : Int32))), some (.int ((0 : Int32))), none], [], σ1) rfl ?_ (fun c67 => ?_) (fun c67 => ?_)
            · trivial
            · exact absurd c67 (by decide)
            · refine ev_br 1 [] ((0 : Int32) = 0) 91 75 ([some (.ref 57), some (.int (zi (o0 = false))), some (.int (zi (o1 = false))), some (.int (la)), some (.int ((1 : Int32))), some (.int ((0 : Int32))), none], [], σ1) rfl ?_ (fun c72 => ?_) (fun c72 => ?_)
              · trivial
              · refine ev_br 1 [] ((1 : Int32) = 0) 100 96 ([some (.ref 57), some (.int (zi (o0 = false))), some (.int (zi (o1 = false))), some (.int (la)), some (.int ((1 : Int32))), some (.int ((0 : Int32))), none], [], σ1) rfl ?_ (fun c93 => ?_) (fun c93 => ?_)
                · trivial
                · exact absurd c93 (by decide)
                · refine ev_blk 3 [] 103 ([some (.ref 57), some (.int (zi (o0 = false))), some (.int (zi (o1 = false))), some (.int (la)), some (.int ((1 : Int32))), some (.int ((0 : Int32))), some (.int ((0 : Int32)))], [], σ1) rfl ?_ ?_
                  · trivial
                  have ho0 : o0 = true := by cases h : o0 with | true => rfl | false => exact absurd h c11
                  obtain ⟨x, t0, rfl⟩ := sA_ne c20 hR.2.2.2.2.1
                  have hop0 : s_opn o0 (x :: t0) = x :: t0 := by rw [ho0]; rfl
                  have hop1 : s_opn o1 B = [] := by rw [c31]; rfl
                  have hpk : s_pick (atM σ1) (decide (la = 0)) (s_opn o0 (x :: t0)) (s_opn o1 B) = some (x, false) := s_pk_0 hop0 hop1
                  refine ev_drop 4 ?_
                  refine ev_drop 5 ?_
                  refine m_fills_t0 _ σ1 (zi (o0 = false)) (zi (o1 = false)) la x n t0 B F hok (hA x List.mem_cons_self) hR hF (by simp only [List.length_cons] at hlen; omega) hFn (fun F2 σ2 h2 hM2 hR2 hf2 => ?_) (fun h2 => ?_)
                  · have hst : s_step (atM σ1) ((x :: t0), B, o0, o1, decide (la = 0), F) = some (t0, B, o0, o1, true, F2) := s_st_0 hpk h2
                    obtain ⟨r2, p2, hw2⟩ := s_in_w h2
                    have hmu2 := s_step_mu hst
                    refine ih σ2 t0 B o0 o1 _ F2 (show s_mu (t0, B, o0, o1, true, F2) ≤ m by omega) (atM_fr hf2 rfl) hR2 hM2 (fun z hz => hA z (List.mem_cons_of_mem _ hz)) hB (fun q hq => ?_) ?_ (hfr.tr hf2) ?_
                    · rw [hw2] at hq
                      rcases List.mem_append.mp hq with hq | hq
                      · exact hFn q hq
                      · rw [List.mem_singleton.mp hq]; exact (hA x List.mem_cons_self)
                    · rw [hw2]
                      simp only [List.length_append, List.length_cons, List.length_nil] at hlen ⊢
                      omega
                    · rw [← hT, s_run_some hst]
                      rfl
                  · have hst : s_step (atM σ1) ((x :: t0), B, o0, o1, decide (la = 0), F) = some ((x :: t0), B, false, o1, decide (la = 0), F) := s_st_0n hpk h2
                    have hmu2 := s_step_mu hst
                    have hz := ih σ1 (x :: t0) B false o1 la F (show s_mu ((x :: t0), B, false, o1, decide (la = 0), F) ≤ m by omega) rfl hR hF hA hB hFn hlen hfr (by rw [← hT, s_run_some hst])
                    exact hz
              · exact absurd rfl c72
          · exact absurd (show ¬ (1 : Int32) = 0 by decide) c52
        · replace c31 := zi_n.mp c31
          refine ev_br 4 [vp_in ((1 : Int32)) 2] (((σ1 75) 1) ≤ 0) 47 43 ([some (.ref 57), some (.int (zi (o0 = false))), some (.int (zi (o1 = false))), some (.int (la)), some (.int ((1 : Int32))), none, none], [], σ1) rfl ?_ (fun c40 => ?_) (fun c40 => ?_)
          · exact vp_in_nI (n := 1) (by decide) (by decide)
          · refine ev_br 3 [] (¬ (1 : Int32) = 0) 65 55 ([some (.ref 57), some (.int (zi (o0 = false))), some (.int (zi (o1 = false))), some (.int (la)), some (.int ((1 : Int32))), some (.int ((0 : Int32))), none], [], σ1) rfl ?_ (fun c52 => ?_) (fun c52 => ?_)
            · trivial
            · refine ev_br 1 [] ((1 : Int32) = 0) 91 70 ([some (.ref 57), some (.int (zi (o0 = false))), some (.int (zi (o1 = false))), some (.int (la)), some (.int ((1 : Int32))), some (.int ((0 : Int32))), none], [], σ1) rfl ?_ (fun c67 => ?_) (fun c67 => ?_)
              · trivial
              · exact absurd c67 (by decide)
              · refine ev_br 1 [] ((0 : Int32) = 0) 91 75 ([some (.ref 57), some (.int (zi (o0 = false))), some (.int (zi (o1 = false))), some (.int (la)), some (.int ((1 : Int32))), some (.int ((0 : Int32))), none], [], σ1) rfl ?_ (fun c72 => ?_) (fun c72 => ?_)
                · trivial
                · refine ev_br 1 [] ((1 : Int32) = 0) 100 96 ([some (.ref 57), some (.int (zi (o0 = false))), some (.int (zi (o1 = false))), some (.int (la)), some (.int ((1 : Int32))), some (.int ((0 : Int32))), none], [], σ1) rfl ?_ (fun c93 => ?_) (fun c93 => ?_)
                  · trivial
                  · exact absurd c93 (by decide)
                  · refine ev_blk 3 [] 103 ([some (.ref 57), some (.int (zi (o0 = false))), some (.int (zi (o1 = false))), some (.int (la)), some (.int ((1 : Int32))), some (.int ((0 : Int32))), some (.int ((0 : Int32)))], [], σ1) rfl ?_ ?_
                    · trivial
                    have ho0 : o0 = true := by cases h : o0 with | true => rfl | false => exact absurd h c11
                    obtain ⟨x, t0, rfl⟩ := sA_ne c20 hR.2.2.2.2.1
                    have hop0 : s_opn o0 (x :: t0) = x :: t0 := by rw [ho0]; rfl
                    have hnil1 : B = [] := sA_nil c40 hR.2.2.2.2.2 hR.2.1
                    have hop1 : s_opn o1 B = [] := by rw [hnil1]; unfold s_opn; split <;> rfl
                    have hpk : s_pick (atM σ1) (decide (la = 0)) (s_opn o0 (x :: t0)) (s_opn o1 B) = some (x, false) := s_pk_0 hop0 hop1
                    refine ev_drop 4 ?_
                    refine ev_drop 5 ?_
                    refine m_fills_t0 _ σ1 (zi (o0 = false)) (zi (o1 = false)) la x n t0 B F hok (hA x List.mem_cons_self) hR hF (by simp only [List.length_cons] at hlen; omega) hFn (fun F2 σ2 h2 hM2 hR2 hf2 => ?_) (fun h2 => ?_)
                    · have hst : s_step (atM σ1) ((x :: t0), B, o0, o1, decide (la = 0), F) = some (t0, B, o0, o1, true, F2) := s_st_0 hpk h2
                      obtain ⟨r2, p2, hw2⟩ := s_in_w h2
                      have hmu2 := s_step_mu hst
                      refine ih σ2 t0 B o0 o1 _ F2 (show s_mu (t0, B, o0, o1, true, F2) ≤ m by omega) (atM_fr hf2 rfl) hR2 hM2 (fun z hz => hA z (List.mem_cons_of_mem _ hz)) hB (fun q hq => ?_) ?_ (hfr.tr hf2) ?_
                      · rw [hw2] at hq
                        rcases List.mem_append.mp hq with hq | hq
                        · exact hFn q hq
                        · rw [List.mem_singleton.mp hq]; exact (hA x List.mem_cons_self)
                      · rw [hw2]
                        simp only [List.length_append, List.length_cons, List.length_nil] at hlen ⊢
                        omega
                      · rw [← hT, s_run_some hst]
                        rfl
                    · have hst : s_step (atM σ1) ((x :: t0), B, o0, o1, decide (la = 0), F) = some ((x :: t0), B, false, o1, decide (la = 0), F) := s_st_0n hpk h2
                      have hmu2 := s_step_mu hst
                      have hz := ih σ1 (x :: t0) B false o1 la F (show s_mu ((x :: t0), B, false, o1, decide (la = 0), F) ≤ m by omega) rfl hR hF hA hB hFn hlen hfr (by rw [← hT, s_run_some hst])
                      exact hz
                · exact absurd rfl c72
            · exact absurd (show ¬ (1 : Int32) = 0 by decide) c52
          · refine ev_br 4 [] (¬ (1 : Int32) = 0) 65 55 ([some (.ref 57), some (.int (zi (o0 = false))), some (.int (zi (o1 = false))), some (.int (la)), some (.int ((1 : Int32))), some (.int ((1 : Int32))), none], [], σ1) rfl ?_ (fun c52 => ?_) (fun c52 => ?_)
            · trivial
            · refine ev_br 1 [] ((1 : Int32) = 0) 91 70 ([some (.ref 57), some (.int (zi (o0 = false))), some (.int (zi (o1 = false))), some (.int (la)), some (.int ((1 : Int32))), some (.int ((1 : Int32))), none], [], σ1) rfl ?_ (fun c67 => ?_) (fun c67 => ?_)
              · trivial
              · exact absurd c67 (by decide)
              · refine ev_br 1 [] ((1 : Int32) = 0) 91 75 ([some (.ref 57), some (.int (zi (o0 = false))), some (.int (zi (o1 = false))), some (.int (la)), some (.int ((1 : Int32))), some (.int ((1 : Int32))), none], [], σ1) rfl ?_ (fun c72 => ?_) (fun c72 => ?_)
                · trivial
                · exact absurd c72 (by decide)
                · refine ev_blk 2 [] 77 ([some (.ref 57), some (.int (zi (o0 = false))), some (.int (zi (o1 = false))), some (.int (la)), some (.int ((1 : Int32))), some (.int ((1 : Int32))), none], [.int (la), .ref 57], σ1) rfl ?_ ?_
                  · trivial
                  have ho0 : o0 = true := by cases h : o0 with | true => rfl | false => exact absurd h c11
                  obtain ⟨x, t0, rfl⟩ := sA_ne c20 hR.2.2.2.2.1
                  have hop0 : s_opn o0 (x :: t0) = x :: t0 := by rw [ho0]; rfl
                  have ho1 : o1 = true := by cases h : o1 with | true => rfl | false => exact absurd h c31
                  obtain ⟨y, t1, rfl⟩ := sA_ne c40 hR.2.2.2.2.2
                  have hop1 : s_opn o1 (y :: t1) = y :: t1 := by rw [ho1]; rfl
                  refine ev_callV M_X6_isOther [.int (la)] [] 57 rfl rfl ln_X6_159 k_X6_isOther rfl rfl rfl rfl rfl rfl (m_isOther σ1 x y la (by have := hA x List.mem_cons_self; omega) (by have := hB y List.mem_cons_self; omega) (hR.2.2.1 0 x rfl) (hR.2.2.2.1 0 y rfl) hok.2.2.2.2.2.2) ?_
                  refine pu_k ?_
                  show xEv _ _ _ 80 ([some (.ref 57), some (.int (zi (o0 = false))), some (.int (zi (o1 = false))), some (.int (la)), some (.int ((1 : Int32))), some (.int ((1 : Int32))), none], [.int (zi (s_sec (atM σ1) x y (decide (la = 0)) = true))], σ1)
                  refine ev_br 0 [] ((zi (s_sec (atM σ1) x y (decide (la = 0)) = true)) = 0) 87 83 ([some (.ref 57), some (.int (zi (o0 = false))), some (.int (zi (o1 = false))), some (.int (la)), some (.int ((1 : Int32))), some (.int ((1 : Int32))), none], [], σ1) rfl ?_ (fun c80 => ?_) (fun c80 => ?_)
                  · trivial
                  · replace c80 := zi_0.mp c80
                    refine ev_blk 3 [] 103 ([some (.ref 57), some (.int (zi (o0 = false))), some (.int (zi (o1 = false))), some (.int (la)), some (.int ((1 : Int32))), some (.int ((1 : Int32))), some (.int ((0 : Int32)))], [], σ1) rfl ?_ ?_
                    · trivial
                    have hpk : s_pick (atM σ1) (decide (la = 0)) (s_opn o0 (x :: t0)) (s_opn o1 (y :: t1)) = some (x, false) := by rw [s_pk_2 hop0 hop1, if_neg c80]
                    refine ev_drop 4 ?_
                    refine ev_drop 5 ?_
                    refine m_fills_t0 _ σ1 (zi (o0 = false)) (zi (o1 = false)) la x n t0 (y :: t1) F hok (hA x List.mem_cons_self) hR hF (by simp only [List.length_cons] at hlen; omega) hFn (fun F2 σ2 h2 hM2 hR2 hf2 => ?_) (fun h2 => ?_)
                    · have hst : s_step (atM σ1) ((x :: t0), (y :: t1), o0, o1, decide (la = 0), F) = some (t0, (y :: t1), o0, o1, true, F2) := s_st_0 hpk h2
                      obtain ⟨r2, p2, hw2⟩ := s_in_w h2
                      have hmu2 := s_step_mu hst
                      refine ih σ2 t0 (y :: t1) o0 o1 _ F2 (show s_mu (t0, (y :: t1), o0, o1, true, F2) ≤ m by omega) (atM_fr hf2 rfl) hR2 hM2 (fun z hz => hA z (List.mem_cons_of_mem _ hz)) hB (fun q hq => ?_) ?_ (hfr.tr hf2) ?_
                      · rw [hw2] at hq
                        rcases List.mem_append.mp hq with hq | hq
                        · exact hFn q hq
                        · rw [List.mem_singleton.mp hq]; exact (hA x List.mem_cons_self)
                      · rw [hw2]
                        simp only [List.length_append, List.length_cons, List.length_nil] at hlen ⊢
                        omega
                      · rw [← hT, s_run_some hst]
                        rfl
                    · have hst : s_step (atM σ1) ((x :: t0), (y :: t1), o0, o1, decide (la = 0), F) = some ((x :: t0), (y :: t1), false, o1, decide (la = 0), F) := s_st_0n hpk h2
                      have hmu2 := s_step_mu hst
                      have hz := ih σ1 (x :: t0) (y :: t1) false o1 la F (show s_mu ((x :: t0), (y :: t1), false, o1, decide (la = 0), F) ≤ m by omega) rfl hR hF hA hB hFn hlen hfr (by rw [← hT, s_run_some hst])
                      exact hz
                  · replace c80 := zi_1.mp c80
                    refine ev_blk 3 [] 103 ([some (.ref 57), some (.int (zi (o0 = false))), some (.int (zi (o1 = false))), some (.int (la)), some (.int ((1 : Int32))), some (.int ((1 : Int32))), some (.int ((1 : Int32)))], [], σ1) rfl ?_ ?_
                    · trivial
                    have hpk : s_pick (atM σ1) (decide (la = 0)) (s_opn o0 (x :: t0)) (s_opn o1 (y :: t1)) = some (y, true) := by rw [s_pk_2 hop0 hop1, if_pos c80]
                    refine ev_drop 4 ?_
                    refine ev_drop 5 ?_
                    refine m_fills_t1 _ σ1 (zi (o0 = false)) (zi (o1 = false)) la y n t1 (x :: t0) F hok (hB y List.mem_cons_self) hR hF (by simp only [List.length_cons] at hlen; omega) hFn (fun F2 σ2 h2 hM2 hR2 hf2 => ?_) (fun h2 => ?_)
                    · have hst : s_step (atM σ1) ((x :: t0), (y :: t1), o0, o1, decide (la = 0), F) = some ((x :: t0), t1, o0, o1, false, F2) := s_st_1 hpk h2
                      obtain ⟨r2, p2, hw2⟩ := s_in_w h2
                      have hmu2 := s_step_mu hst
                      refine ih σ2 (x :: t0) t1 o0 o1 _ F2 (show s_mu ((x :: t0), t1, o0, o1, false, F2) ≤ m by omega) (atM_fr hf2 rfl) hR2 hM2 hA (fun z hz => hB z (List.mem_cons_of_mem _ hz)) (fun q hq => ?_) ?_ (hfr.tr hf2) ?_
                      · rw [hw2] at hq
                        rcases List.mem_append.mp hq with hq | hq
                        · exact hFn q hq
                        · rw [List.mem_singleton.mp hq]; exact (hB y List.mem_cons_self)
                      · rw [hw2]
                        simp only [List.length_append, List.length_cons, List.length_nil] at hlen ⊢
                        omega
                      · rw [← hT, s_run_some hst]
                        rfl
                    · have hst : s_step (atM σ1) ((x :: t0), (y :: t1), o0, o1, decide (la = 0), F) = some ((x :: t0), (y :: t1), o0, false, decide (la = 0), F) := s_st_1n hpk h2
                      have hmu2 := s_step_mu hst
                      have hz := ih σ1 (x :: t0) (y :: t1) o0 false la F (show s_mu ((x :: t0), (y :: t1), o0, false, decide (la = 0), F) ≤ m by omega) rfl hR hF hA hB hFn hlen hfr (by rw [← hT, s_run_some hst])
                      exact hz
            · exact absurd (show ¬ (1 : Int32) = 0 by decide) c52
set_option maxRecDepth 100000 in
theorem m_fills (σ : xSg) (n : Nat) (A B : List Nat) (hok : aOk (atM σ) n) (hz : ∀ i, i < 60 → σ 69 i = 0 ∨ σ 69 i = 1) (hR : SR σ A B) (hA : ∀ x ∈ A, x < n) (hB : ∀ x ∈ B, x < n) (hlen : A.length + B.length ≤ 10) : xCtr M_X6_fills [.ref 57] σ (fQ σ (s_fill (atM σ) (tkM σ) A B)) := by
  refine ctr_ev ok_X6_fills (by decide +kernel) rfl rfl rfl ?_
  show xEv (.inl 3) M_X6_fills _ 0 ([some (.ref 57), none, none, none, none, none, none], [], σ)
  refine ev_blk 1 [] 1 ([some (.ref 57), none, none, none, none, none, none], [.ref 57], σ) rfl ?_ ?_
  · trivial
  refine ev_callV M_X6_empties [] [] 57 rfl rfl ln_X6_156 k_X6_empties rfl rfl rfl rfl rfl rfl (m_empties σ hz) ?_
  rintro r σ1 ⟨rfl, hF, hfr⟩
  show xEv _ _ _ 4 ([some (.ref 57), none, none, none, none, none, none], [], σ1)
  refine ev_blk 6 [] 10 ([some (.ref 57), some (.int ((0 : Int32))), some (.int ((0 : Int32))), some (.int ((-1 : Int32))), none, none, none], [], σ1) rfl ?_ ?_
  · trivial
  have hR1 : SR σ1 A B := SR_fr hR (hfr.1 74 (by decide) (by decide)) (hfr.1 75 (by decide) (by decide))
  have h := m_fills_lp σ (atM σ) n (s_fill (atM σ) (tkM σ) A B) hok 12 σ1 A B true true (-1) (tkM σ, []) (by simp [s_mu]; omega) (atM_fr hfr rfl) hR1 hF hA hB (fun q hq => by simp at hq) (by simpa using hlen) (hfr.mono rfl rfl) rfl
  exact h
end
section
theorem iSh_lt {σ : xSg} {n k : Nat} (hn : σ 1 0 = nI n) (hn10 : n ≤ 10) (hk : k < 2 ^ 31) : iSh σ (nI k) ↔ k < n := by
  constructor
  · intro q
    exact Nat.lt_of_not_le (fun z => q.2.1 (by rw [hn]; exact nI_le z (by omega)))
  · intro q
    exact ⟨nI_pos (by omega), by rw [hn]; exact nI_ge q (by omega), nI_ge (b := 10) (by omega) (by omega)⟩
theorem iWt {σ : xSg} {n k : Nat} {w : Int32} (hn : σ 1 0 = nI n) (hn10 : n ≤ 10) (hk : k < 32) : (iSh σ (nI k) ∧ ¬ (w >>> (nI k &&& 31)) &&& 1 = 0) ↔ (k < n ∧ bt w k = true) := by
  rw [iSh_lt hn hn10 (by omega), b_tst hk]
  cases bt w k <;> simp
/-- the b-th of a list, as the code counts down -/
def s_nth : List Nat → Int32 → Int32
  | [], _ => -1
  | x :: t, b => if b = 0 then nI x else s_nth t (b + (-1))
theorem s_nth_no : ∀ (A : List Nat) (b : Int32), (∀ k, k < A.length → b ≠ nI k) → s_nth A b = -1
  | [], _, _ => rfl
  | x :: t, b, h => by
    unfold s_nth
    rw [if_neg (show ¬ b = 0 from h 0 (by simp))]
    refine s_nth_no t _ (fun k hk q => h (k + 1) (by simp; omega) ?_)
    have e : b + (-1) + 1 = nI k + 1 := by rw [q]
    rw [Int32.add_assoc, show (-1 : Int32) + 1 = 0 by decide, Int32.add_zero, nI_1] at e
    exact e
theorem s_nth_at : ∀ (A : List Nat) (j x : Nat), A[j]? = some x → j < 2 ^ 31 → s_nth A (nI j) = nI x
  | [], j, x, h, _ => by simp at h
  | y :: t, 0, x, h, _ => by
    simp only [List.getElem?_cons_zero, Option.some.injEq] at h
    subst h
    rfl
  | y :: t, j + 1, x, h, hj => by
    unfold s_nth
    rw [if_neg (fun q => by have := (nI_eq (a := j + 1) (b := 0) hj (by decide)).mp q; omega), pk_m1]
    exact s_nth_at t j x (by simpa using h) (by omega)
set_option maxRecDepth 100000 in
theorem c_waiter_lp (σ : xSg) (n : Nat) (ln : Int32) (hn10 : n ≤ 10) (hn : σ 1 0 = nI n) (i : Int32) (V : Int32) : ∀ (m k : Nat) (bh : Int32), k + m = 10 → s_nth ((List.range' k m).filter (s_lnp n (σ 1 1) (σ 7) ln)) bh = V → xEv (.inl 2) M_X3_waiter (fun r1 σ1 => r1 = some (.int V) ∧ σ1 = σ) 5 ([some (.ref 1), some (.int (ln)), some (.int (i)), some (.int (bh)), some (.int (nI k))], [], σ) := by
  intro m
  induction m with
  | zero =>
    intro k bh hk hV
    refine ev_br 2 [] ((10 : Int32) ≤ (nI k)) 48 12 ([some (.ref 1), some (.int (ln)), some (.int (i)), some (.int (bh)), some (.int (nI k))], [], σ) rfl ?_ (fun c9 => ?_) (fun c9 => ?_)
    · trivial
    · refine ev_blk 1 [] 49 ([some (.ref 1), some (.int (ln)), some (.int (i)), some (.int (bh)), some (.int (nI k))], [.int ((-1 : Int32))], σ) rfl ?_ ?_
      · trivial
      exact ev_iret rfl rfl rfl ⟨by rw [← hV]; rfl, rfl⟩
    · exact absurd (show (10 : Int32) ≤ nI k by rw [show k = 10 by omega]; decide) c9
  | succ m ih =>
    intro k bh hk hV
    have hkc : (nI k).toNatClampNeg = k := nI_clamp (by omega)
    have hiw := iWt (w := σ 1 1) hn hn10 (show k < 32 by omega)
    rw [List.range'_succ] at hV
    refine ev_br 2 [] ((10 : Int32) ≤ (nI k)) 48 12 ([some (.ref 1), some (.int (ln)), some (.int (i)), some (.int (bh)), some (.int (nI k))], [], σ) rfl ?_ (fun c9 => ?_) (fun c9 => ?_)
    · trivial
    · exact absurd c9 (nI_ge (b := 10) (by omega) (by decide))
    · refine ev_blk 2 [] 15 ([some (.ref 1), some (.int (ln)), some (.int (i)), some (.int (bh)), some (.int (nI k))], [.int (nI k), .ref 1], σ) rfl ?_ ?_
      · trivial
      refine ev_callV M_X3_isWaiting [.int (nI k)] [] 1 rfl rfl ln_X3_82 k_X3_isWaiting rfl rfl rfl rfl rfl rfl (c_isWaiting _ _) ?_
      refine pu_k ?_
      show xEv _ _ _ 18 ([some (.ref 1), some (.int (ln)), some (.int (i)), some (.int (bh)), some (.int (nI k))], [.int (zi (iSh σ (nI k) ∧ ¬ (σ 1 1 >>> ((nI k) &&& 31)) &&& 1 = 0))], σ)
      refine ev_br 0 [] ((zi (iSh σ (nI k) ∧ ¬ (σ 1 1 >>> ((nI k) &&& 31)) &&& 1 = 0)) = 0) 42 21 ([some (.ref 1), some (.int (ln)), some (.int (i)), some (.int (bh)), some (.int (nI k))], [], σ) rfl ?_ (fun c18 => ?_) (fun c18 => ?_)
      · trivial
      · replace c18 := zi_0.mp c18
        refine ev_blk 2 [] 5 ([some (.ref 1), some (.int (ln)), some (.int (i)), some (.int (bh)), some (.int ((nI k) + (1 : Int32)))], [], σ) rfl ?_ ?_
        · trivial
        rw [List.filter_cons_of_neg (by simp only [s_lnp, Bool.and_eq_true, decide_eq_true_eq]; exact fun q => c18 (hiw.mpr q.1))] at hV
        rw [nI_1]
        exact ih (k + 1) bh (by omega) hV
      · replace c18 := zi_1.mp c18
        refine ev_br 5 [vp_in (nI k) 10] (¬ ((σ 7) (nI k).toNatClampNeg) = ln) 42 32 ([some (.ref 1), some (.int (ln)), some (.int (i)), some (.int (bh)), some (.int (nI k))], [], σ) rfl ?_ (fun c29 => ?_) (fun c29 => ?_)
        · exact vp_in_nI (by omega) (by decide)
        · rw [hkc] at c29
          refine ev_blk 2 [] 5 ([some (.ref 1), some (.int (ln)), some (.int (i)), some (.int (bh)), some (.int ((nI k) + (1 : Int32)))], [], σ) rfl ?_ ?_
          · trivial
          rw [List.filter_cons_of_neg (by simp only [s_lnp, Bool.and_eq_true, decide_eq_true_eq]; exact fun q => c29 q.2)] at hV
          rw [nI_1]
          exact ih (k + 1) bh (by omega) hV
        · rw [hkc] at c29
          refine ev_br 1 [] (¬ bh = 0) 39 36 ([some (.ref 1), some (.int (ln)), some (.int (i)), some (.int (bh)), some (.int (nI k))], [], σ) rfl ?_ (fun c33 => ?_) (fun c33 => ?_)
          · trivial
          · refine ev_blk 3 [] 5 ([some (.ref 1), some (.int (ln)), some (.int (i)), some (.int (bh + (-1 : Int32))), some (.int ((nI k) + (1 : Int32)))], [], σ) rfl ?_ ?_
            · trivial
            rw [List.filter_cons_of_pos (by simp only [s_lnp, Bool.and_eq_true, decide_eq_true_eq]; exact ⟨hiw.mp c18, Classical.byContradiction c29⟩), s_nth, if_neg c33] at hV
            rw [nI_1]
            exact ih (k + 1) _ (by omega) hV
          · refine ev_blk 1 [] 38 ([some (.ref 1), some (.int (ln)), some (.int (i)), some (.int (bh)), some (.int (nI k))], [.int (nI k)], σ) rfl ?_ ?_
            · trivial
            rw [List.filter_cons_of_pos (by simp only [s_lnp, Bool.and_eq_true, decide_eq_true_eq]; exact ⟨hiw.mp c18, Classical.byContradiction c29⟩), s_nth, if_pos (Classical.byContradiction c33)] at hV
            exact ev_iret rfl rfl rfl ⟨by rw [hV], rfl⟩
set_option maxRecDepth 100000 in
theorem c_waiter (σ : xSg) (n : Nat) (ln : Int32) (hn10 : n ≤ 10) (hn : σ 1 0 = nI n) (i : Int32) : xPu M_X3_waiter [.ref 1, .int ln, .int i] σ (.int (s_nth ((List.range 10).filter (s_lnp n (σ 1 1) (σ 7) ln)) i)) := by
  refine ctr_ev ok_X3_waiter (by decide +kernel) rfl rfl rfl ?_
  show xEv (.inl 2) M_X3_waiter _ 0 ([some (.ref 1), some (.int (ln)), some (.int (i)), none, none], [], σ)
  refine ev_blk 4 [] 5 ([some (.ref 1), some (.int (ln)), some (.int (i)), some (.int (i)), some (.int ((0 : Int32)))], [], σ) rfl ?_ ?_
  · trivial
  exact c_waiter_lp σ n ln hn10 hn i _ 10 0 i rfl (by rw [List.range_eq_range'])
set_option maxRecDepth 100000 in
theorem c_waitersOf_lp (σ : xSg) (n : Nat) (ln : Int32) (hn10 : n ≤ 10) (hn : σ 1 0 = nI n) (V : Nat) : ∀ (m k al : Nat), k + m = 10 → al + ((List.range' k m).filter (s_lnp n (σ 1 1) (σ 7) ln)).length = V → xEv (.inl 2) M_X3_waitersOf (fun r1 σ1 => r1 = some (.int (nI V)) ∧ σ1 = σ) 4 ([some (.ref 1), some (.int (ln)), some (.int (nI al)), some (.int (nI k))], [], σ) := by
  intro m
  induction m with
  | zero =>
    intro k al hk hV
    refine ev_br 2 [] ((10 : Int32) ≤ (nI k)) 42 10 ([some (.ref 1), some (.int (ln)), some (.int (nI al)), some (.int (nI k))], [], σ) rfl ?_ (fun c7 => ?_) (fun c7 => ?_)
    · trivial
    · refine ev_blk 1 [] 43 ([some (.ref 1), some (.int (ln)), some (.int (nI al)), some (.int (nI k))], [.int (nI al)], σ) rfl ?_ ?_
      · trivial
      exact ev_iret rfl rfl rfl ⟨by rw [← hV]; rfl, rfl⟩
    · exact absurd (show (10 : Int32) ≤ nI k by rw [show k = 10 by omega]; decide) c7
  | succ m ih =>
    intro k al hk hV
    have hkc : (nI k).toNatClampNeg = k := nI_clamp (by omega)
    have hiw := iWt (w := σ 1 1) hn hn10 (show k < 32 by omega)
    rw [List.range'_succ] at hV
    refine ev_br 2 [] ((10 : Int32) ≤ (nI k)) 42 10 ([some (.ref 1), some (.int (ln)), some (.int (nI al)), some (.int (nI k))], [], σ) rfl ?_ (fun c7 => ?_) (fun c7 => ?_)
    · trivial
    · exact absurd c7 (nI_ge (b := 10) (by omega) (by decide))
    · refine ev_blk 3 [] 13 ([some (.ref 1), some (.int (ln)), some (.int (nI al)), some (.int (nI k))], [.int (nI k), .ref 1, .int (nI al)], σ) rfl ?_ ?_
      · trivial
      refine ev_callV M_X3_isWaiting [.int (nI k)] [.int (nI al)] 1 rfl rfl ln_X3_82 k_X3_isWaiting rfl rfl rfl rfl rfl rfl (c_isWaiting _ _) ?_
      refine pu_k ?_
      show xEv _ _ _ 16 ([some (.ref 1), some (.int (ln)), some (.int (nI al)), some (.int (nI k))], [.int (zi (iSh σ (nI k) ∧ ¬ (σ 1 1 >>> ((nI k) &&& 31)) &&& 1 = 0)), .int (nI al)], σ)
      refine ev_br 0 [] ((zi (iSh σ (nI k) ∧ ¬ (σ 1 1 >>> ((nI k) &&& 31)) &&& 1 = 0)) = 0) 33 19 ([some (.ref 1), some (.int (ln)), some (.int (nI al)), some (.int (nI k))], [.int (nI al)], σ) rfl ?_ (fun c16 => ?_) (fun c16 => ?_)
      · trivial
      · replace c16 := zi_0.mp c16
        refine ev_blk 5 [] 4 ([some (.ref 1), some (.int (ln)), some (.int ((nI al) + (0 : Int32))), some (.int ((nI k) + (1 : Int32)))], [], σ) rfl ?_ ?_
        · trivial
        rw [List.filter_cons_of_neg (by simp only [s_lnp, Bool.and_eq_true, decide_eq_true_eq]; exact fun q => c16 (hiw.mpr q.1))] at hV
        rw [nI_1, Int32.add_zero]
        exact ih (k + 1) al (by omega) hV
      · replace c16 := zi_1.mp c16
        refine ev_br 5 [vp_in (nI k) 10] (¬ ((σ 7) (nI k).toNatClampNeg) = ln) 33 29 ([some (.ref 1), some (.int (ln)), some (.int (nI al)), some (.int (nI k))], [.int (nI al)], σ) rfl ?_ (fun c26 => ?_) (fun c26 => ?_)
        · exact vp_in_nI (by omega) (by decide)
        · rw [hkc] at c26
          refine ev_blk 5 [] 4 ([some (.ref 1), some (.int (ln)), some (.int ((nI al) + (0 : Int32))), some (.int ((nI k) + (1 : Int32)))], [], σ) rfl ?_ ?_
          · trivial
          rw [List.filter_cons_of_neg (by simp only [s_lnp, Bool.and_eq_true, decide_eq_true_eq]; exact fun q => c26 q.2)] at hV
          rw [nI_1, Int32.add_zero]
          exact ih (k + 1) al (by omega) hV
        · rw [hkc] at c26
          refine ev_blk 6 [] 4 ([some (.ref 1), some (.int (ln)), some (.int ((nI al) + (1 : Int32))), some (.int ((nI k) + (1 : Int32)))], [], σ) rfl ?_ ?_
          · trivial
          rw [List.filter_cons_of_pos (by simp only [s_lnp, Bool.and_eq_true, decide_eq_true_eq]; exact ⟨hiw.mp c16, Classical.byContradiction c26⟩), List.length_cons] at hV
          rw [nI_1, nI_1]
          exact ih (k + 1) (al + 1) (by omega) (by omega)
set_option maxRecDepth 100000 in
theorem c_waitersOf (σ : xSg) (n : Nat) (ln : Int32) (hn10 : n ≤ 10) (hn : σ 1 0 = nI n) : xPu M_X3_waitersOf [.ref 1, .int ln] σ (.int (nI ((List.range 10).filter (s_lnp n (σ 1 1) (σ 7) ln)).length)) := by
  refine ctr_ev ok_X3_waitersOf (by decide +kernel) rfl rfl rfl ?_
  show xEv (.inl 2) M_X3_waitersOf _ 0 ([some (.ref 1), some (.int (ln)), none, none], [], σ)
  refine ev_blk 4 [] 4 ([some (.ref 1), some (.int (ln)), some (.int ((0 : Int32))), some (.int ((0 : Int32)))], [], σ) rfl ?_ ?_
  · trivial
  exact c_waitersOf_lp σ n ln hn10 hn _ 10 0 0 rfl (by rw [List.range_eq_range', Nat.zero_add])
/-- the cap that holds on a day: rows of caps, -1 where nothing is told -/
def s_cap (f : Nat → Int32) : Nat → Int32
  | 0 => f 0
  | d + 1 => if f (d + 1) = -1 then s_cap f d else f (d + 1)
def s_bnd (f : Nat → Int32) (d : Nat) : Int32 := s_cap f (if d < 99 then d else 99)
set_option maxRecDepth 100000 in
theorem c_bound_lp (σ : xSg) (dd : Int32) : ∀ (k : Nat), k < 100 → xEv (.inl 1) M_X3_bound (fun r1 σ1 => r1 = some (.int (s_cap (σ 11) k)) ∧ σ1 = σ) 7 ([some (.ref 1), some (.int (dd)), some (.int (nI k))], [], σ) := by
  intro k
  induction k with
  | zero =>
    intro hk
    have hkc : (nI 0).toNatClampNeg = 0 := rfl
    refine ev_br 1 [] ((nI 0) < 0) 34 11 ([some (.ref 1), some (.int (dd)), some (.int (nI 0))], [], σ) rfl ?_ (fun c8 => ?_) (fun c8 => ?_)
    · trivial
    · exact absurd c8 (by decide)
    · refine ev_br 5 [vp_in (nI 0) 100] (((σ 11) (nI 0).toNatClampNeg) = (-1 : Int32)) 28 21 ([some (.ref 1), some (.int (dd)), some (.int (nI 0))], [], σ) rfl ?_ (fun c18 => ?_) (fun c18 => ?_)
      · exact vp_in_nI (by omega) (by decide)
      · rw [hkc] at c18
        refine ev_blk 2 [] 7 ([some (.ref 1), some (.int (dd)), some (.int ((nI 0) + (-1 : Int32)))], [], σ) rfl ?_ ?_
        · trivial
        show xEv _ _ _ 7 ([some (.ref 1), some (.int (dd)), some (.int ((-1 : Int32)))], [], σ)
        refine ev_br 1 [] ((-1 : Int32) < 0) 34 11 ([some (.ref 1), some (.int (dd)), some (.int ((-1 : Int32)))], [], σ) rfl ?_ (fun c7b => ?_) (fun c7b => ?_)
        · trivial
        · refine ev_blk 1 [] 35 ([some (.ref 1), some (.int (dd)), some (.int ((-1 : Int32)))], [.int ((-1 : Int32))], σ) rfl ?_ ?_
          · trivial
          exact ev_iret rfl rfl rfl ⟨by rw [s_cap, c18], rfl⟩
        · exact absurd (by decide) c7b
      · rw [hkc] at c18
        refine ev_blk 4 [vp_in (nI 0) 100] 27 ([some (.ref 1), some (.int (dd)), some (.int (nI 0))], [.int ((σ 11) (nI 0).toNatClampNeg)], σ) rfl ?_ ?_
        · exact vp_in_nI (by omega) (by decide)
        rw [hkc]
        exact ev_iret rfl rfl rfl ⟨rfl, rfl⟩
  | succ k ih =>
    intro hk
    have hkc : (nI (k + 1)).toNatClampNeg = k + 1 := nI_clamp (by omega)
    refine ev_br 1 [] ((nI (k + 1)) < 0) 34 11 ([some (.ref 1), some (.int (dd)), some (.int (nI (k + 1)))], [], σ) rfl ?_ (fun c8 => ?_) (fun c8 => ?_)
    · trivial
    · exact absurd c8 (nI_pos (by omega))
    · refine ev_br 5 [vp_in (nI (k + 1)) 100] (((σ 11) (nI (k + 1)).toNatClampNeg) = (-1 : Int32)) 28 21 ([some (.ref 1), some (.int (dd)), some (.int (nI (k + 1)))], [], σ) rfl ?_ (fun c18 => ?_) (fun c18 => ?_)
      · exact vp_in_nI (by omega) (by decide)
      · rw [hkc] at c18
        refine ev_blk 2 [] 7 ([some (.ref 1), some (.int (dd)), some (.int ((nI (k + 1)) + (-1 : Int32)))], [], σ) rfl ?_ ?_
        · trivial
        rw [pk_m1, s_cap, if_pos c18]
        exact ih (by omega)
      · rw [hkc] at c18
        refine ev_blk 4 [vp_in (nI (k + 1)) 100] 27 ([some (.ref 1), some (.int (dd)), some (.int (nI (k + 1)))], [.int ((σ 11) (nI (k + 1)).toNatClampNeg)], σ) rfl ?_ ?_
        · exact vp_in_nI (by omega) (by decide)
        rw [hkc]
        exact ev_iret rfl rfl rfl ⟨by rw [s_cap, if_neg c18], rfl⟩
set_option maxRecDepth 100000 in
theorem c_bound (σ : xSg) (d : Nat) (hd : d < 2 ^ 31) : xPu M_X3_bound [.ref 1, .int (nI d)] σ (.int (s_bnd (σ 11) d)) := by
  have hmn : x_mn (nI d) (99 : Int32) = nI (if d < 99 then d else 99) := by
    unfold x_mn
    by_cases h : d < 99
    · rw [if_neg (show ¬ (99 : Int32) < nI d from nI_nlt (a := 99) (b := d) (by omega) (by decide)), if_pos h]
    · rw [if_neg h]
      by_cases h2 : d = 99
      · subst h2; decide
      · rw [if_pos (show (99 : Int32) < nI d from nI_lt (a := 99) (by omega) hd)]; rfl
  refine ctr_ev ok_X3_bound (by decide +kernel) rfl rfl rfl ?_
  show xEv (.inl 1) M_X3_bound _ 0 ([some (.ref 1), some (.int (nI d)), none], [], σ)
  refine ev_blk 4 [] 7 ([some (.ref 1), some (.int (nI d)), some (.int (x_mn (nI d) (99 : Int32)))], [], σ) rfl ?_ ?_
  · trivial
  rw [hmn]
  exact c_bound_lp σ (nI d) _ (by split <;> omega)
set_option maxRecDepth 100000 in
theorem c_allows (σ : xSg) (d : Nat) (w : Int32) (hd : d < 2 ^ 31) : xPu M_X3_allows [.ref 1, .int (nI d), .int (w)] σ (.int (zi (s_bnd (σ 11) d = -1 ∨ ¬ s_bnd (σ 11) d < w))) := by
  refine ctr_ev ok_X3_allows (by decide +kernel) rfl rfl rfl ?_
  show xEv (.inl 2) M_X3_allows _ 0 ([some (.ref 1), some (.int (nI d)), some (.int (w)), none], [], σ)
  refine ev_blk 2 [] 2 ([some (.ref 1), some (.int (nI d)), some (.int (w)), none], [.int (nI d), .ref 1], σ) rfl ?_ ?_
  · trivial
  refine ev_callV M_X3_bound [.int (nI d)] [] 1 rfl rfl ln_X3_100 k_X3_bound rfl rfl rfl rfl rfl rfl (c_bound σ d hd) ?_
  refine pu_k ?_
  show xEv _ _ _ 5 ([some (.ref 1), some (.int (nI d)), some (.int (w)), none], [.int (s_bnd (σ 11) d)], σ)
  refine ev_br 3 [] ((s_bnd (σ 11) d) = (-1 : Int32)) 16 11 ([some (.ref 1), some (.int (nI d)), some (.int (w)), some (.int (s_bnd (σ 11) d))], [], σ) rfl ?_ (fun c8 => ?_) (fun c8 => ?_)
  · trivial
  · refine ev_blk 2 [] 21 ([some (.ref 1), some (.int (nI d)), some (.int (w)), some (.int (s_bnd (σ 11) d))], [.int ((1 : Int32))], σ) rfl ?_ ?_
    · trivial
    exact ev_iret rfl rfl nar1 (pu_t (by simp_all))
  · refine ev_br 2 [] ((s_bnd (σ 11) d) < w) 20 16 ([some (.ref 1), some (.int (nI d)), some (.int (w)), some (.int (s_bnd (σ 11) d))], [], σ) rfl ?_ (fun c13 => ?_) (fun c13 => ?_)
    · trivial
    · refine ev_blk 1 [] 21 ([some (.ref 1), some (.int (nI d)), some (.int (w)), some (.int (s_bnd (σ 11) d))], [.int ((0 : Int32))], σ) rfl ?_ ?_
      · trivial
      exact ev_iret rfl rfl nar0 (pu_f (by simp_all))
    · refine ev_blk 2 [] 21 ([some (.ref 1), some (.int (nI d)), some (.int (w)), some (.int (s_bnd (σ 11) d))], [.int ((1 : Int32))], σ) rfl ?_ ?_
      · trivial
      exact ev_iret rfl rfl nar1 (pu_t (by simp_all))
def s_alw (f : Nat → Int32) (d : Nat) (w : Int32) : Bool := decide (s_bnd f d = -1 ∨ ¬ s_bnd f d < w)
/-- the first of the days from d on, m of them, that allows w -/
def s_day (f : Nat → Int32) (w : Int32) : Nat → Nat → Int32
  | 0, _ => -1
  | m + 1, d => if s_alw f d w = true then nI d else s_day f w m (d + 1)
set_option maxRecDepth 100000 in
theorem c_dayFor_lp (σ : xSg) (d : Nat) (us wa : Int32) (V : Int32) : ∀ (m k : Nat), k + m = 200 → s_day (σ 11) wa m k = V → xEv (.inl 3) M_X3_dayFor (fun r1 σ1 => r1 = some (.int V) ∧ σ1 = σ) 18 ([some (.ref 1), some (.int (nI d)), some (.int (us)), some (.int (wa)), some (.int (nI k))], [], σ) := by
  intro m
  induction m with
  | zero =>
    intro k hk hV
    refine ev_br 2 [] ((200 : Int32) ≤ (nI k)) 45 26 ([some (.ref 1), some (.int (nI d)), some (.int (us)), some (.int (wa)), some (.int (nI k))], [], σ) rfl ?_ (fun c23 => ?_) (fun c23 => ?_)
    · trivial
    · refine ev_blk 1 [] 46 ([some (.ref 1), some (.int (nI d)), some (.int (us)), some (.int (wa)), some (.int (nI k))], [.int ((-1 : Int32))], σ) rfl ?_ ?_
      · trivial
      exact ev_iret rfl rfl rfl ⟨by rw [← hV]; rfl, rfl⟩
    · exact absurd (show (200 : Int32) ≤ nI k by rw [show k = 200 by omega]; decide) c23
  | succ m ih =>
    intro k hk hV
    rw [s_day] at hV
    refine ev_br 2 [] ((200 : Int32) ≤ (nI k)) 45 26 ([some (.ref 1), some (.int (nI d)), some (.int (us)), some (.int (wa)), some (.int (nI k))], [], σ) rfl ?_ (fun c23 => ?_) (fun c23 => ?_)
    · trivial
    · exact absurd c23 (nI_ge (b := 200) (by omega) (by decide))
    · refine ev_blk 3 [] 30 ([some (.ref 1), some (.int (nI d)), some (.int (us)), some (.int (wa)), some (.int (nI k))], [.int (wa), .int (nI k), .ref 1], σ) rfl ?_ ?_
      · trivial
      refine ev_callV M_X3_allows [.int (nI k), .int (wa)] [] 1 rfl rfl ln_X3_103 k_X3_allows rfl rfl rfl rfl rfl rfl (c_allows σ k _ (by omega)) ?_
      refine pu_k ?_
      show xEv _ _ _ 33 ([some (.ref 1), some (.int (nI d)), some (.int (us)), some (.int (wa)), some (.int (nI k))], [.int (zi (s_bnd (σ 11) k = -1 ∨ ¬ s_bnd (σ 11) k < wa))], σ)
      refine ev_br 0 [] ((zi (s_bnd (σ 11) k = -1 ∨ ¬ s_bnd (σ 11) k < wa)) = 0) 39 36 ([some (.ref 1), some (.int (nI d)), some (.int (us)), some (.int (wa)), some (.int (nI k))], [], σ) rfl ?_ (fun c33 => ?_) (fun c33 => ?_)
      · trivial
      · replace c33 := zi_0.mp c33
        refine ev_blk 2 [] 18 ([some (.ref 1), some (.int (nI d)), some (.int (us)), some (.int (wa)), some (.int ((nI k) + (1 : Int32)))], [], σ) rfl ?_ ?_
        · trivial
        rw [if_neg (by simpa [s_alw] using c33)] at hV
        rw [nI_1]
        exact ih (k + 1) (by omega) hV
      · replace c33 := zi_1.mp c33
        refine ev_blk 1 [] 38 ([some (.ref 1), some (.int (nI d)), some (.int (us)), some (.int (wa)), some (.int (nI k))], [.int (nI k)], σ) rfl ?_ ?_
        · trivial
        rw [if_pos (by simpa [s_alw] using c33)] at hV
        exact ev_iret rfl rfl rfl ⟨by rw [hV], rfl⟩
set_option maxRecDepth 100000 in
theorem c_dayFor (σ : xSg) (d : Nat) (us wa : Int32) (hd : d < 200) : xPu M_X3_dayFor [.ref 1, .int (nI d), .int us, .int wa] σ (.int (if s_alw (σ 11) d (us + wa) = true then nI d else s_day (σ 11) wa (199 - d) (d + 1))) := by
  refine ctr_ev ok_X3_dayFor (by decide +kernel) rfl rfl rfl ?_
  show xEv (.inl 3) M_X3_dayFor _ 0 ([some (.ref 1), some (.int (nI d)), some (.int (us)), some (.int (wa)), none], [], σ)
  refine ev_blk 5 [] 5 ([some (.ref 1), some (.int (nI d)), some (.int (us)), some (.int (wa)), none], [.int (us + wa), .int (nI d), .ref 1], σ) rfl ?_ ?_
  · trivial
  refine ev_callV M_X3_allows [.int (nI d), .int (us + wa)] [] 1 rfl rfl ln_X3_103 k_X3_allows rfl rfl rfl rfl rfl rfl (c_allows σ d _ (by omega)) ?_
  refine pu_k ?_
  show xEv _ _ _ 8 ([some (.ref 1), some (.int (nI d)), some (.int (us)), some (.int (wa)), none], [.int (zi (s_bnd (σ 11) d = -1 ∨ ¬ s_bnd (σ 11) d < (us + wa)))], σ)
  refine ev_br 0 [] ((zi (s_bnd (σ 11) d = -1 ∨ ¬ s_bnd (σ 11) d < (us + wa))) = 0) 13 11 ([some (.ref 1), some (.int (nI d)), some (.int (us)), some (.int (wa)), none], [], σ) rfl ?_ (fun c8 => ?_) (fun c8 => ?_)
  · trivial
  · replace c8 := zi_0.mp c8
    refine ev_blk 4 [] 18 ([some (.ref 1), some (.int (nI d)), some (.int (us)), some (.int (wa)), some (.int ((nI d) + (1 : Int32)))], [], σ) rfl ?_ ?_
    · trivial
    rw [if_neg (by simpa [s_alw] using c8), nI_1]
    exact c_dayFor_lp σ d us wa _ (199 - d) (d + 1) (by omega) rfl
  · replace c8 := zi_1.mp c8
    refine ev_blk 1 [] 12 ([some (.ref 1), some (.int (nI d)), some (.int (us)), some (.int (wa)), none], [.int (nI d)], σ) rfl ?_ ?_
    · trivial
    exact ev_iret rfl rfl rfl ⟨by rw [if_pos (by simpa [s_alw] using c8)], rfl⟩
end
section
/-! what a filling does to the lanes, and counting bits -/
theorem s_step_w {a : sAt} {s s' : sSt} {A0 B0 : List Nat} (hA : A0.Nodup) (hB : B0.Nodup) (hd : ∀ x, x ∈ A0 → x ∈ B0 → False) (h : s_step a s = some s')
    (i1 : s.1 = A0.filter (fun x => !decide (x ∈ (s_went s).map Prod.fst))) (i2 : s.2.1 = B0.filter (fun x => !decide (x ∈ (s_went s).map Prod.fst))) (i3 : ∀ x ∈ (s_went s).map Prod.fst, x ∈ A0 ∨ x ∈ B0) (i4 : ((s_went s).map Prod.fst).Nodup) :
    s'.1 = A0.filter (fun x => !decide (x ∈ (s_went s').map Prod.fst)) ∧ s'.2.1 = B0.filter (fun x => !decide (x ∈ (s_went s').map Prod.fst)) ∧ (∀ x ∈ (s_went s').map Prod.fst, x ∈ A0 ∨ x ∈ B0) ∧ ((s_went s').map Prod.fst).Nodup := by
  obtain ⟨A, B, o0, o1, lt, F⟩ := s
  unfold s_step at h
  dsimp only at h i1 i2
  unfold s_went at i1 i2 i3 i4
  dsimp only at i1 i2 i3 i4
  have grow : ∀ (x r p : Nat) (C : List Nat), C.filter (fun y => !decide (y ∈ (F.2 ++ [(x, r, p)]).map Prod.fst)) = (C.filter (fun y => !decide (y ∈ F.2.map Prod.fst))).filter (fun y => !decide (y = x)) := by
    intro x r p C
    rw [List.filter_filter]
    refine List.filter_congr (fun y _ => ?_)
    rw [wmem, Bool.not_or, Bool.and_comm]
  have keep : ∀ (x r p : Nat) (C : List Nat), x ∉ C → C.filter (fun y => !decide (y ∈ (F.2 ++ [(x, r, p)]).map Prod.fst)) = C.filter (fun y => !decide (y ∈ F.2.map Prod.fst)) := by
    intro x r p C hx
    refine List.filter_congr (fun y hy => ?_)
    rw [wmem]
    have : decide (y = x) = false := decide_eq_false (fun q => hx (q ▸ hy))
    rw [this, Bool.or_false]
  have more : ∀ (x r p : Nat), (x ∈ A0 ∨ x ∈ B0) → x ∉ F.2.map Prod.fst → (∀ y ∈ (F.2 ++ [(x, r, p)]).map Prod.fst, y ∈ A0 ∨ y ∈ B0) ∧ ((F.2 ++ [(x, r, p)]).map Prod.fst).Nodup := by
    intro x r p hx hn
    rw [List.map_append]
    refine ⟨fun y hy => ?_, ?_⟩
    · rcases List.mem_append.mp hy with hy | hy
      · exact i3 y hy
      · rw [List.mem_singleton.mp hy]; exact hx
    · refine List.nodup_append.mpr ⟨i4, by simp, fun y hy z hz => ?_⟩
      rw [List.mem_singleton.mp hz]
      exact fun q => hn (by rw [show y = x from q] at hy; exact hy)
  split at h
  · cases h
  next x hp =>
    obtain ⟨t, ht⟩ := s_pick_0 hp
    obtain ⟨rfl, rfl⟩ := s_opn_c ht
    split at h
    next F2 hF =>
      cases h
      obtain ⟨r, p, hw⟩ := s_in_w hF
      have hxm : x ∈ A0.filter (fun y => !decide (y ∈ F.2.map Prod.fst)) := by rw [← i1]; exact List.mem_cons_self
      have hx0 := (List.mem_filter.mp hxm)
      have hxn : x ∉ F.2.map Prod.fst := by simpa using hx0.2
      have hnd : (x :: t).Nodup := by rw [i1]; exact hA.filter _
      unfold s_went
      dsimp only
      rw [hw]
      refine ⟨?_, ?_, more x r p (Or.inl hx0.1) hxn⟩
      · rw [grow, ← i1, List.filter_cons_of_neg (by simp), List.filter_eq_self.mpr]
        · rfl
        · intro y hy
          have : y ≠ x := fun q => (List.nodup_cons.mp hnd).1 (q ▸ hy)
          simp [this]
      · rw [keep x r p B0 (fun q => hd x hx0.1 q), ← i2]
    next => cases h; exact ⟨i1, i2, i3, i4⟩
  next x hp =>
    obtain ⟨t, ht⟩ := s_pick_1 hp
    obtain ⟨rfl, rfl⟩ := s_opn_c ht
    split at h
    next F2 hF =>
      cases h
      obtain ⟨r, p, hw⟩ := s_in_w hF
      have hxm : x ∈ B0.filter (fun y => !decide (y ∈ F.2.map Prod.fst)) := by rw [← i2]; exact List.mem_cons_self
      have hx0 := (List.mem_filter.mp hxm)
      have hxn : x ∉ F.2.map Prod.fst := by simpa using hx0.2
      have hnd : (x :: t).Nodup := by rw [i2]; exact hB.filter _
      unfold s_went
      dsimp only
      rw [hw]
      refine ⟨?_, ?_, more x r p (Or.inr hx0.1) hxn⟩
      · rw [keep x r p A0 (fun q => hd x q hx0.1), ← i1]
      · rw [grow, ← i2, List.filter_cons_of_neg (by simp), List.filter_eq_self.mpr]
        · rfl
        · intro y hy
          have : y ≠ x := fun q => (List.nodup_cons.mp hnd).1 (q ▸ hy)
          simp [this]
    next => cases h; exact ⟨i1, i2, i3, i4⟩
theorem s_run_w {a : sAt} {A0 B0 : List Nat} (hA : A0.Nodup) (hB : B0.Nodup) (hd : ∀ x, x ∈ A0 → x ∈ B0 → False) : ∀ (n : Nat) (s : sSt), s.1 = A0.filter (fun x => !decide (x ∈ (s_went s).map Prod.fst)) → s.2.1 = B0.filter (fun x => !decide (x ∈ (s_went s).map Prod.fst)) → (∀ x ∈ (s_went s).map Prod.fst, x ∈ A0 ∨ x ∈ B0) → ((s_went s).map Prod.fst).Nodup →
    (s_run a n s).1 = A0.filter (fun x => !decide (x ∈ (s_went (s_run a n s)).map Prod.fst)) ∧ (s_run a n s).2.1 = B0.filter (fun x => !decide (x ∈ (s_went (s_run a n s)).map Prod.fst)) ∧ (∀ x ∈ (s_went (s_run a n s)).map Prod.fst, x ∈ A0 ∨ x ∈ B0) ∧ ((s_went (s_run a n s)).map Prod.fst).Nodup
  | 0, s, i1, i2, i3, i4 => ⟨i1, i2, i3, i4⟩
  | n + 1, s, i1, i2, i3, i4 => by
    cases hs : s_step a s with
    | none => rw [s_run_none hs]; exact ⟨i1, i2, i3, i4⟩
    | some s' =>
      rw [s_run_some hs]
      obtain ⟨j1, j2, j3, j4⟩ := s_step_w hA hB hd hs i1 i2 i3 i4
      exact s_run_w hA hB hd n s' j1 j2 j3 j4
theorem s_fill_w {a : sAt} {tk : sTk} {A B : List Nat} (hA : A.Nodup) (hB : B.Nodup) (hd : ∀ x, x ∈ A → x ∈ B → False) :
    (s_fill a tk A B).1 = A.filter (fun x => !decide (x ∈ (s_went (s_fill a tk A B)).map Prod.fst)) ∧ (s_fill a tk A B).2.1 = B.filter (fun x => !decide (x ∈ (s_went (s_fill a tk A B)).map Prod.fst)) ∧ (∀ x ∈ (s_went (s_fill a tk A B)).map Prod.fst, x ∈ A ∨ x ∈ B) ∧ ((s_went (s_fill a tk A B)).map Prod.fst).Nodup :=
  s_run_w hA hB hd 12 _ (List.filter_eq_self.mpr (fun _ _ => by simp [s_went])).symm (List.filter_eq_self.mpr (fun _ _ => by simp [s_went])).symm (by simp [s_went]) (by simp [s_went])
theorem fl_perm {l : List Nat} (hn : l.Nodup) (hl : ∀ x ∈ l, x < 10) : ((List.range 10).filter (fun x => decide (x ∈ l))).length = l.length := by
  refine List.Perm.length_eq ((List.perm_ext_iff_of_nodup (List.nodup_range.filter _) hn).mpr (fun x => ?_))
  rw [List.mem_filter, List.mem_range]
  exact ⟨fun q => of_decide_eq_true q.2, fun q => ⟨hl x q, decide_eq_true q⟩⟩
def bcI (x : Int32) : Int32 :=
  let x1 := x - ((x.toUInt32 >>> ((1 : Int32).toUInt32 &&& Int32.toUInt32 31)).toInt32 &&& 1431655765)
  let x2 := (x1 &&& 858993459) + ((x1.toUInt32 >>> ((2 : Int32).toUInt32 &&& Int32.toUInt32 31)).toInt32 &&& 858993459)
  let x3 := (x2 + (x2.toUInt32 >>> ((4 : Int32).toUInt32 &&& Int32.toUInt32 31)).toInt32) &&& 252645135
  let x4 := x3 + (x3.toUInt32 >>> ((8 : Int32).toUInt32 &&& Int32.toUInt32 31)).toInt32
  let x5 := x4 + (x4.toUInt32 >>> ((16 : Int32).toUInt32 &&& Int32.toUInt32 31)).toInt32
  x5 &&& 63
def pcn (x : Int32) : Nat := ((List.range 10).filter (bt x)).length
theorem bc_10 : ∀ m, m < 1024 → bcI (nI m) = nI (pcn (nI m)) := by decide +kernel
/-- a number without bits from the tenth on -/
theorem b_lt10 {x : Int32} (h : ∀ j, 10 ≤ j → j < 32 → bt x j = false) : ∃ m, m < 1024 ∧ x = nI m := by
  refine ⟨x.toBitVec.toNat, ?_, ?_⟩
  · refine Nat.lt_pow_two_of_testBit (n := 10) _ (fun i hi => ?_)
    by_cases h32 : i < 32
    · have := h i hi h32
      unfold bt at this
      rwa [BitVec.getLsbD] at this
    · exact Nat.testBit_lt_two_pow (Nat.lt_of_lt_of_le x.toBitVec.isLt (Nat.pow_le_pow_right (by decide) (by omega)))
  · refine Int32.toBitVec_inj.mp ?_
    show x.toBitVec = BitVec.ofNat 32 x.toBitVec.toNat
    simp
theorem bc_ok {x : Int32} (h : ∀ j, 10 ≤ j → j < 32 → bt x j = false) : bcI x = nI (pcn x) := by
  obtain ⟨m, hm, rfl⟩ := b_lt10 h
  exact bc_10 m hm
theorem bc_in {x : Int32} {l : List Nat} (hx : ∀ j, j < 32 → bt x j = decide (j ∈ l)) (hn : l.Nodup) (hl : ∀ y ∈ l, y < 10) : bcI x = nI l.length := by
  rw [bc_ok (fun j h1 h2 => by rw [hx j h2]; exact decide_eq_false (fun q => by have := hl j q; omega))]
  congr 1
  rw [← fl_perm hn hl]
  unfold pcn
  congr 1
  exact List.filter_congr (fun y hy => hx y (by have := List.mem_range.mp hy; omega))
set_option maxRecDepth 100000 in
theorem c_bitCount (σ : xSg) (x : Int32) : xPu M_J6_bitCount_0f7a4 [.int (x)] σ (.int (bcI x)) := by
  refine ctr_ev ok_J6_bitCount_0f7a4 (by decide +kernel) rfl rfl rfl ?_
  show xEv (.inl 0) M_J6_bitCount_0f7a4 _ 0 ([some (.int (x))], [], σ)
  refine ev_blk 41 [] 52 ([some (.int (((((((x - (((x.toUInt32 >>> ((1 : Int32).toUInt32 &&& Int32.toUInt32 31)).toInt32) &&& (1431655765 : Int32))) &&& (858993459 : Int32)) + ((((x - (((x.toUInt32 >>> ((1 : Int32).toUInt32 &&& Int32.toUInt32 31)).toInt32) &&& (1431655765 : Int32))).toUInt32 >>> ((2 : Int32).toUInt32 &&& Int32.toUInt32 31)).toInt32) &&& (858993459 : Int32))) + (((((x - (((x.toUInt32 >>> ((1 : Int32).toUInt32 &&& Int32.toUInt32 31)).toInt32) &&& (1431655765 : Int32))) &&& (858993459 : Int32)) + ((((x - (((x.toUInt32 >>> ((1 : Int32).toUInt32 &&& Int32.toUInt32 31)).toInt32) &&& (1431655765 : Int32))).toUInt32 >>> ((2 : Int32).toUInt32 &&& Int32.toUInt32 31)).toInt32) &&& (858993459 : Int32))).toUInt32 >>> ((4 : Int32).toUInt32 &&& Int32.toUInt32 31)).toInt32)) &&& (252645135 : Int32)) + (((((((x - (((x.toUInt32 >>> ((1 : Int32).toUInt32 &&& Int32.toUInt32 31)).toInt32) &&& (1431655765 : Int32))) &&& (858993459 : Int32)) + ((((x - (((x.toUInt32 >>> ((1 : Int32).toUInt32 &&& Int32.toUInt32 31)).toInt32) &&& (1431655765 : Int32))).toUInt32 >>> ((2 : Int32).toUInt32 &&& Int32.toUInt32 31)).toInt32) &&& (858993459 : Int32))) + (((((x - (((x.toUInt32 >>> ((1 : Int32).toUInt32 &&& Int32.toUInt32 31)).toInt32) &&& (1431655765 : Int32))) &&& (858993459 : Int32)) + ((((x - (((x.toUInt32 >>> ((1 : Int32).toUInt32 &&& Int32.toUInt32 31)).toInt32) &&& (1431655765 : Int32))).toUInt32 >>> ((2 : Int32).toUInt32 &&& Int32.toUInt32 31)).toInt32) &&& (858993459 : Int32))).toUInt32 >>> ((4 : Int32).toUInt32 &&& Int32.toUInt32 31)).toInt32)) &&& (252645135 : Int32)).toUInt32 >>> ((8 : Int32).toUInt32 &&& Int32.toUInt32 31)).toInt32)) + ((((((((x - (((x.toUInt32 >>> ((1 : Int32).toUInt32 &&& Int32.toUInt32 31)).toInt32) &&& (1431655765 : Int32))) &&& (858993459 : Int32)) + ((((x - (((x.toUInt32 >>> ((1 : Int32).toUInt32 &&& Int32.toUInt32 31)).toInt32) &&& (1431655765 : Int32))).toUInt32 >>> ((2 : Int32).toUInt32 &&& Int32.toUInt32 31)).toInt32) &&& (858993459 : Int32))) + (((((x - (((x.toUInt32 >>> ((1 : Int32).toUInt32 &&& Int32.toUInt32 31)).toInt32) &&& (1431655765 : Int32))) &&& (858993459 : Int32)) + ((((x - (((x.toUInt32 >>> ((1 : Int32).toUInt32 &&& Int32.toUInt32 31)).toInt32) &&& (1431655765 : Int32))).toUInt32 >>> ((2 : Int32).toUInt32 &&& Int32.toUInt32 31)).toInt32) &&& (858993459 : Int32))).toUInt32 >>> ((4 : Int32).toUInt32 &&& Int32.toUInt32 31)).toInt32)) &&& (252645135 : Int32)) + (((((((x - (((x.toUInt32 >>> ((1 : Int32).toUInt32 &&& Int32.toUInt32 31)).toInt32) &&& (1431655765 : Int32))) &&& (858993459 : Int32)) + ((((x - (((x.toUInt32 >>> ((1 : Int32).toUInt32 &&& Int32.toUInt32 31)).toInt32) &&& (1431655765 : Int32))).toUInt32 >>> ((2 : Int32).toUInt32 &&& Int32.toUInt32 31)).toInt32) &&& (858993459 : Int32))) + (((((x - (((x.toUInt32 >>> ((1 : Int32).toUInt32 &&& Int32.toUInt32 31)).toInt32) &&& (1431655765 : Int32))) &&& (858993459 : Int32)) + ((((x - (((x.toUInt32 >>> ((1 : Int32).toUInt32 &&& Int32.toUInt32 31)).toInt32) &&& (1431655765 : Int32))).toUInt32 >>> ((2 : Int32).toUInt32 &&& Int32.toUInt32 31)).toInt32) &&& (858993459 : Int32))).toUInt32 >>> ((4 : Int32).toUInt32 &&& Int32.toUInt32 31)).toInt32)) &&& (252645135 : Int32)).toUInt32 >>> ((8 : Int32).toUInt32 &&& Int32.toUInt32 31)).toInt32)).toUInt32 >>> ((16 : Int32).toUInt32 &&& Int32.toUInt32 31)).toInt32)))], [.int ((((((((x - (((x.toUInt32 >>> ((1 : Int32).toUInt32 &&& Int32.toUInt32 31)).toInt32) &&& (1431655765 : Int32))) &&& (858993459 : Int32)) + ((((x - (((x.toUInt32 >>> ((1 : Int32).toUInt32 &&& Int32.toUInt32 31)).toInt32) &&& (1431655765 : Int32))).toUInt32 >>> ((2 : Int32).toUInt32 &&& Int32.toUInt32 31)).toInt32) &&& (858993459 : Int32))) + (((((x - (((x.toUInt32 >>> ((1 : Int32).toUInt32 &&& Int32.toUInt32 31)).toInt32) &&& (1431655765 : Int32))) &&& (858993459 : Int32)) + ((((x - (((x.toUInt32 >>> ((1 : Int32).toUInt32 &&& Int32.toUInt32 31)).toInt32) &&& (1431655765 : Int32))).toUInt32 >>> ((2 : Int32).toUInt32 &&& Int32.toUInt32 31)).toInt32) &&& (858993459 : Int32))).toUInt32 >>> ((4 : Int32).toUInt32 &&& Int32.toUInt32 31)).toInt32)) &&& (252645135 : Int32)) + (((((((x - (((x.toUInt32 >>> ((1 : Int32).toUInt32 &&& Int32.toUInt32 31)).toInt32) &&& (1431655765 : Int32))) &&& (858993459 : Int32)) + ((((x - (((x.toUInt32 >>> ((1 : Int32).toUInt32 &&& Int32.toUInt32 31)).toInt32) &&& (1431655765 : Int32))).toUInt32 >>> ((2 : Int32).toUInt32 &&& Int32.toUInt32 31)).toInt32) &&& (858993459 : Int32))) + (((((x - (((x.toUInt32 >>> ((1 : Int32).toUInt32 &&& Int32.toUInt32 31)).toInt32) &&& (1431655765 : Int32))) &&& (858993459 : Int32)) + ((((x - (((x.toUInt32 >>> ((1 : Int32).toUInt32 &&& Int32.toUInt32 31)).toInt32) &&& (1431655765 : Int32))).toUInt32 >>> ((2 : Int32).toUInt32 &&& Int32.toUInt32 31)).toInt32) &&& (858993459 : Int32))).toUInt32 >>> ((4 : Int32).toUInt32 &&& Int32.toUInt32 31)).toInt32)) &&& (252645135 : Int32)).toUInt32 >>> ((8 : Int32).toUInt32 &&& Int32.toUInt32 31)).toInt32)) + ((((((((x - (((x.toUInt32 >>> ((1 : Int32).toUInt32 &&& Int32.toUInt32 31)).toInt32) &&& (1431655765 : Int32))) &&& (858993459 : Int32)) + ((((x - (((x.toUInt32 >>> ((1 : Int32).toUInt32 &&& Int32.toUInt32 31)).toInt32) &&& (1431655765 : Int32))).toUInt32 >>> ((2 : Int32).toUInt32 &&& Int32.toUInt32 31)).toInt32) &&& (858993459 : Int32))) + (((((x - (((x.toUInt32 >>> ((1 : Int32).toUInt32 &&& Int32.toUInt32 31)).toInt32) &&& (1431655765 : Int32))) &&& (858993459 : Int32)) + ((((x - (((x.toUInt32 >>> ((1 : Int32).toUInt32 &&& Int32.toUInt32 31)).toInt32) &&& (1431655765 : Int32))).toUInt32 >>> ((2 : Int32).toUInt32 &&& Int32.toUInt32 31)).toInt32) &&& (858993459 : Int32))).toUInt32 >>> ((4 : Int32).toUInt32 &&& Int32.toUInt32 31)).toInt32)) &&& (252645135 : Int32)) + (((((((x - (((x.toUInt32 >>> ((1 : Int32).toUInt32 &&& Int32.toUInt32 31)).toInt32) &&& (1431655765 : Int32))) &&& (858993459 : Int32)) + ((((x - (((x.toUInt32 >>> ((1 : Int32).toUInt32 &&& Int32.toUInt32 31)).toInt32) &&& (1431655765 : Int32))).toUInt32 >>> ((2 : Int32).toUInt32 &&& Int32.toUInt32 31)).toInt32) &&& (858993459 : Int32))) + (((((x - (((x.toUInt32 >>> ((1 : Int32).toUInt32 &&& Int32.toUInt32 31)).toInt32) &&& (1431655765 : Int32))) &&& (858993459 : Int32)) + ((((x - (((x.toUInt32 >>> ((1 : Int32).toUInt32 &&& Int32.toUInt32 31)).toInt32) &&& (1431655765 : Int32))).toUInt32 >>> ((2 : Int32).toUInt32 &&& Int32.toUInt32 31)).toInt32) &&& (858993459 : Int32))).toUInt32 >>> ((4 : Int32).toUInt32 &&& Int32.toUInt32 31)).toInt32)) &&& (252645135 : Int32)).toUInt32 >>> ((8 : Int32).toUInt32 &&& Int32.toUInt32 31)).toInt32)).toUInt32 >>> ((16 : Int32).toUInt32 &&& Int32.toUInt32 31)).toInt32)) &&& (63 : Int32))], σ) rfl ?_ ?_
  · trivial
  exact ev_iret rfl rfl rfl ⟨rfl, rfl⟩
end
section
theorem ev_post {d : Nat} {M : xM} {Q Q' : Option Value → xSg → Prop} {pc : Nat} {f : xF} (hq : ∀ r σ, Q r σ → Q' r σ) (k : xEv (.inl d) M Q pc f) : xEv (.inl d) M Q' pc f := by
  intro ok p l e s m args below meth c ad ca D X H locs ls hP hS hL T hT Xs
  obtain ⟨t, a1, o, b1, b2, ⟨⟨r, σ', e1, e2, e3⟩, e4⟩, b4⟩ := k ok p l e s m args below meth c ad ca D X H locs ls hP hS hL T hT Xs
  exact ⟨t, a1, o, b1, b2, ⟨⟨r, σ', e1, hq r σ' e2, e3⟩, e4⟩, b4⟩
/-- who waits in a lane -/
def laneL (n : Nat) (w : Int32) (La : Nat → Int32) (l : Int32) : List Nat := (List.range 10).filter (s_lnp n w La l)
theorem laneL_nodup (n : Nat) (w : Int32) (La : Nat → Int32) (l : Int32) : (laneL n w La l).Nodup := List.nodup_range.filter _
theorem laneL_apart {n : Nat} {w : Int32} {La : Nat → Int32} : ∀ x, x ∈ laneL n w La 0 → x ∈ laneL n w La 1 → False := fun x h1 h2 => by
  have a := (lnp_lt h1).2.2
  have b := (lnp_lt h2).2.2
  rw [a] at b
  exact absurd b (by decide)
theorem laneL_len {n : Nat} {w : Int32} {La : Nat → Int32} : (laneL n w La 0).length + (laneL n w La 1).length ≤ 10 := by
  have := fl_len (ord := List.range 10) (p := s_lnp n w La 0) (q := s_lnp n w La 1) (fun y h1 h2 => by simp only [s_lnp, Bool.and_eq_true, decide_eq_true_eq] at h1 h2; rw [h1.2] at h2; exact absurd h2.2 (by decide))
  simpa [laneL] using this
/-- the lanes of a number whose bits are those of another less those who went in -/
theorem laneL_nx {n : Nat} {w inm : Int32} {La : Nat → Int32} {l : Int32} {W : List Nat} (hn : n ≤ 10) (hb : ∀ j, j < 32 → bt inm j = decide (j ∈ W)) : laneL n (w &&& (inm ^^^ (-1 : Int32))) La l = (laneL n w La l).filter (fun x => !decide (x ∈ W)) := by
  unfold laneL
  rw [List.filter_filter]
  refine List.filter_congr (fun y hy => ?_)
  have hy10 := List.mem_range.mp hy
  unfold s_lnp
  rw [b_and, b_not (by omega), hb y (by omega)]
  cases decide (y < n) <;> cases bt w y <;> cases decide (La y = l) <;> simp
theorem rg01 {x : Int32} (h : rg x 0 1) : x = 0 ∨ x = 1 := by
  obtain ⟨j, rfl, -, hj⟩ := h
  rcases (by omega : j = 0 ∨ j = 1) with rfl | rfl
  · exact Or.inl rfl
  · exact Or.inr rfl
theorem laneL_or {a : sAt} {n j : Nat} {w : Int32} (hok : aOk a n) (hw : ∀ j, j < 32 → bt w j = true → j < n) (hj : j < 32) : (j ∈ laneL n w (aLa a) 0 ∨ j ∈ laneL n w (aLa a) 1) ↔ bt w j = true := by
  have hn := hok.1
  constructor
  · rintro (h | h)
    · exact (lnp_lt h).2.1
    · exact (lnp_lt h).2.1
  · intro h
    have hjn := hw j hj h
    have hm : j ∈ List.range 10 := List.mem_range.mpr (by omega)
    rcases rg01 (hok.2.1 j hjn).2.2.2.2.2 with q | q
    · exact Or.inl (List.mem_filter.mpr ⟨hm, by simp [s_lnp, hjn, h, q]⟩)
    · exact Or.inr (List.mem_filter.mpr ⟨hm, by simp [s_lnp, hjn, h, q]⟩)
/-- a filling of those that wait by a number's bits -/
def s_flw (a : sAt) (tk : sTk) (n : Nat) (w : Int32) : sSt := s_fill a tk (laneL n w (aLa a) 0) (laneL n w (aLa a) 1)
theorem s_flw_in {a : sAt} {tk : sTk} {n : Nat} {w : Int32} : ∀ x ∈ (s_went (s_flw a tk n w)).map Prod.fst, x < n ∧ bt w x = true := fun x hx => by
  rcases (s_fill_w (a := a) (tk := tk) (laneL_nodup n w (aLa a) 0) (laneL_nodup n w (aLa a) 1) laneL_apart).2.2.1 x hx with h | h
  · exact ⟨(lnp_lt h).1, (lnp_lt h).2.1⟩
  · exact ⟨(lnp_lt h).1, (lnp_lt h).2.1⟩
theorem s_flw_nx {a : sAt} {tk : sTk} {n : Nat} {w inm : Int32} (hn : n ≤ 10) (hb : ∀ j, j < 32 → bt inm j = decide (j ∈ (s_went (s_flw a tk n w)).map Prod.fst)) :
    laneL n (w &&& (inm ^^^ (-1 : Int32))) (aLa a) 0 = (s_flw a tk n w).1 ∧ laneL n (w &&& (inm ^^^ (-1 : Int32))) (aLa a) 1 = (s_flw a tk n w).2.1 := by
  obtain ⟨h1, h2, -, -⟩ := s_fill_w (a := a) (tk := tk) (laneL_nodup n w (aLa a) 0) (laneL_nodup n w (aLa a) 1) laneL_apart
  exact ⟨by rw [laneL_nx hn hb]; exact h1.symm, by rw [laneL_nx hn hb]; exact h2.symm⟩
theorem in_zero {inm : Int32} {W : List (Nat × Nat × Nat)} (hb : ∀ j, j < 32 → bt inm j = decide (j ∈ W.map Prod.fst)) (hl : ∀ x ∈ W.map Prod.fst, x < 32) : inm = 0 ↔ W = [] := by
  rw [b_zero]
  constructor
  · intro h
    cases W with
    | nil => rfl
    | cons q t =>
      have h32 := hl q.1 (by simp)
      have := h q.1 h32
      rw [hb q.1 h32] at this
      simp at this
  · intro h j hj
    rw [hb j hj, h]
    simp
def s_nxt (W : List (Nat × Nat × Nat)) (k what : Int32) : Int32 := if k < 0 ∨ what < 0 ∨ 2 < what then -2 else match W[k.toNatClampNeg]? with
  | none => -1
  | some q => if what = 0 then nI q.1 else if what = 1 then nI q.2.1 else nI q.2.2
def s_wat (a : sAt) (W : List (Nat × Nat × Nat)) : Int64 := match W with
  | [] => -9223372036854775808
  | _ :: _ => (s_spend a W).toInt64
def s_plan (a : sAt) (tk : sTk) : Nat → List Nat → List Nat → Nat → Int32 → Nat × Int32 × List Nat × List Nat
  | 0, A, B, c, w => (c, w, A, B)
  | m + 1, A, B, c, w => match s_went (s_fill a tk A B) with
    | [] => (c, w, A, B)
    | _ :: _ => s_plan a tk m (s_fill a tk A B).1 (s_fill a tk A B).2.1 (c + 1) (w + s_spend a (s_went (s_fill a tk A B)))
/-- the class's cells that are but scratch -/
def scC : List Nat := [26, 27, 28, 29, 30, 31, 32, 33, 34, 35, 36, 37, 38, 39, 40, 41, 42, 43, 44, 45, 46, 47]
theorem scC_f {σ σ1 : xSg} (h : xFr [26, 27, 28, 29, 30] σ σ1) : xFr scC σ σ1 := h.mono (fun c hc => by simp only [List.mem_cons, List.not_mem_nil, or_false] at hc; rcases hc with rfl | rfl | rfl | rfl | rfl <;> decide)
theorem c_spd {a : sAt} {σ1 : xSg} {F : sFl} (ha : atC σ1 = a) (hF : FR a σ1 26 27 28 29 30 F) : x_mx 0 (σ1 9 0 * σ1 9 1 * σ1 9 2 - σ1 26 6) = s_spend a F.2 := by
  rw [hF.2.2.2.1]
  subst ha
  rfl
set_option maxRecDepth 100000 in
theorem c_nextP (σ : xSg) (n : Nat) (hok : aOk (atC σ) n) (hn : σ 1 0 = nI n) (k wh : Int32) : xCtr M_X5_next [.ref 0, .int k, .int wh] σ (fun r σ1 => r = some (.int (s_nxt (s_went (s_flw (atC σ) (tkC σ) n (σ 1 1))) k wh)) ∧ xFr scC σ σ1) := by
  refine ctr_ev ok_X5_next (by decide +kernel) rfl rfl rfl ?_
  show xEv (.inl 5) M_X5_next _ 0 ([some (.ref 0), some (.int (k)), some (.int (wh))], [], σ)
  refine ev_br 1 [] (k < 0) 13 4 ([some (.ref 0), some (.int (k)), some (.int (wh))], [], σ) rfl ?_ (fun c1 => ?_) (fun c1 => ?_)
  · trivial
  · refine ev_blk 1 [] 15 ([some (.ref 0), some (.int (k)), some (.int (wh))], [.int ((-2 : Int32))], σ) rfl ?_ ?_
    · trivial
    exact ev_iret rfl rfl rfl ⟨by rw [s_nxt, if_pos (by simp_all)], xFr.rf⟩
  · refine ev_br 1 [] (wh < 0) 13 8 ([some (.ref 0), some (.int (k)), some (.int (wh))], [], σ) rfl ?_ (fun c5 => ?_) (fun c5 => ?_)
    · trivial
    · refine ev_blk 1 [] 15 ([some (.ref 0), some (.int (k)), some (.int (wh))], [.int ((-2 : Int32))], σ) rfl ?_ ?_
      · trivial
      exact ev_iret rfl rfl rfl ⟨by rw [s_nxt, if_pos (by simp_all)], xFr.rf⟩
    · refine ev_br 2 [] (wh ≤ (2 : Int32)) 16 13 ([some (.ref 0), some (.int (k)), some (.int (wh))], [], σ) rfl ?_ (fun c10 => ?_) (fun c10 => ?_)
      · trivial
      · refine ev_blk 6 [] 30 ([some (.ref 0), some (.int (k)), some (.int (wh))], [.ref 104, .int ((σ 1 1)), .ref 26], σ) rfl ?_ ?_
        · trivial
        refine ev_callV M_X2_byRule [.int ((σ 1 1)), .ref 104] [] 26 rfl rfl ln_X5_157 k_X2_byRule rfl rfl rfl rfl rfl rfl (c_byRule104 σ n (List.range 10) _ hok hn ord_by) ?_
        rintro r σ1 ⟨inm, rfl, hb, hF, hfr⟩
        have hT : s_fill (atC σ) (tkC σ) ((List.range 10).filter (s_lnp n (σ 1 1) (σ 7) 0)) ((List.range 10).filter (s_lnp n (σ 1 1) (σ 7) 1)) = (s_flw (atC σ) (tkC σ) n (σ 1 1)) := rfl
        rw [hT] at hb hF
        show xEv _ _ _ 33 ([some (.ref 0), some (.int (k)), some (.int (wh))], [.int (inm)], σ1)
        refine ev_br 5 [] (k < (σ1 26 5)) 47 45 ([some (.ref 0), some (.int (k)), some (.int (wh))], [], σ1) rfl ?_ (fun c42 => ?_) (fun c42 => ?_)
        · trivial
        · refine ev_br 1 [] (¬ wh = 0) 63 51 ([some (.ref 0), some (.int (k)), some (.int (wh))], [], σ1) rfl ?_ (fun c48 => ?_) (fun c48 => ?_)
          · trivial
          · refine ev_br 2 [] (¬ wh = (1 : Int32)) 80 68 ([some (.ref 0), some (.int (k)), some (.int (wh))], [], σ1) rfl ?_ (fun c65 => ?_) (fun c65 => ?_)
            · trivial
            · refine ev_blk 5 [vp_in (k) 10] 89 ([some (.ref 0), some (.int (k)), some (.int (wh))], [.int ((σ1 30) k.toNatClampNeg)], σ1) rfl ?_ ?_
              · rw [hF.2.2.1] at c42
                obtain ⟨kk, hkk, rfl⟩ := nI_of c1
                have hl10 := hF.1
                have hlt := (nI_ltI hkk (by omega)).mp c42
                exact vp_in_nI (by omega) (by decide)
              have hg : ¬ (k < 0 ∨ wh < 0 ∨ 2 < wh) := by rintro (q | q | q); exact c1 q; exact c5 q; exact (Int32.not_lt.mpr c10) q
              have h5 := hF.2.2.1
              obtain ⟨kk, hkk, rfl⟩ := nI_of c1
              have hkc : (nI kk).toNatClampNeg = kk := nI_clamp hkk
              have hl10 := hF.1
              rw [h5] at c42
              have hlt := (nI_ltI hkk (by omega)).mp c42
              obtain ⟨q, hq⟩ : ∃ q, (s_went (s_flw (atC σ) (tkC σ) n (σ 1 1)))[kk]? = some q := ⟨_, List.getElem?_eq_getElem hlt⟩
              obtain ⟨q1, q2, q3⟩ := hF.2.2.2.2.2 kk q.1 q.2.1 q.2.2 hq
              refine ev_iret rfl rfl rfl ⟨?_, scC_f hfr⟩
              rw [s_nxt, if_neg hg, hkc, hq, q3]
              simp [c48, c65]
            · refine ev_blk 6 [vp_in (k) 10] 89 ([some (.ref 0), some (.int (k)), some (.int (wh))], [.int ((σ1 29) k.toNatClampNeg)], σ1) rfl ?_ ?_
              · rw [hF.2.2.1] at c42
                obtain ⟨kk, hkk, rfl⟩ := nI_of c1
                have hl10 := hF.1
                have hlt := (nI_ltI hkk (by omega)).mp c42
                exact vp_in_nI (by omega) (by decide)
              have hg : ¬ (k < 0 ∨ wh < 0 ∨ 2 < wh) := by rintro (q | q | q); exact c1 q; exact c5 q; exact (Int32.not_lt.mpr c10) q
              have h5 := hF.2.2.1
              obtain ⟨kk, hkk, rfl⟩ := nI_of c1
              have hkc : (nI kk).toNatClampNeg = kk := nI_clamp hkk
              have hl10 := hF.1
              rw [h5] at c42
              have hlt := (nI_ltI hkk (by omega)).mp c42
              obtain ⟨q, hq⟩ : ∃ q, (s_went (s_flw (atC σ) (tkC σ) n (σ 1 1)))[kk]? = some q := ⟨_, List.getElem?_eq_getElem hlt⟩
              obtain ⟨q1, q2, q3⟩ := hF.2.2.2.2.2 kk q.1 q.2.1 q.2.2 hq
              refine ev_iret rfl rfl rfl ⟨?_, scC_f hfr⟩
              rw [s_nxt, if_neg hg, hkc, hq, q2]
              simp [c48, Classical.byContradiction c65]
          · refine ev_blk 6 [vp_in (k) 10] 89 ([some (.ref 0), some (.int (k)), some (.int (wh))], [.int ((σ1 28) k.toNatClampNeg)], σ1) rfl ?_ ?_
            · rw [hF.2.2.1] at c42
              obtain ⟨kk, hkk, rfl⟩ := nI_of c1
              have hl10 := hF.1
              have hlt := (nI_ltI hkk (by omega)).mp c42
              exact vp_in_nI (by omega) (by decide)
            have hg : ¬ (k < 0 ∨ wh < 0 ∨ 2 < wh) := by rintro (q | q | q); exact c1 q; exact c5 q; exact (Int32.not_lt.mpr c10) q
            have h5 := hF.2.2.1
            obtain ⟨kk, hkk, rfl⟩ := nI_of c1
            have hkc : (nI kk).toNatClampNeg = kk := nI_clamp hkk
            have hl10 := hF.1
            rw [h5] at c42
            have hlt := (nI_ltI hkk (by omega)).mp c42
            obtain ⟨q, hq⟩ : ∃ q, (s_went (s_flw (atC σ) (tkC σ) n (σ 1 1)))[kk]? = some q := ⟨_, List.getElem?_eq_getElem hlt⟩
            obtain ⟨q1, q2, q3⟩ := hF.2.2.2.2.2 kk q.1 q.2.1 q.2.2 hq
            refine ev_iret rfl rfl rfl ⟨?_, scC_f hfr⟩
            rw [s_nxt, if_neg hg, hkc, hq, q1]
            simp [Classical.byContradiction c48]
        · refine ev_blk 1 [] 46 ([some (.ref 0), some (.int (k)), some (.int (wh))], [.int ((-1 : Int32))], σ1) rfl ?_ ?_
          · trivial
          have hg : ¬ (k < 0 ∨ wh < 0 ∨ 2 < wh) := by rintro (q | q | q); exact c1 q; exact c5 q; exact (Int32.not_lt.mpr c10) q
          have h5 := hF.2.2.1
          obtain ⟨kk, hkk, rfl⟩ := nI_of c1
          have hkc : (nI kk).toNatClampNeg = kk := nI_clamp hkk
          have hl10 := hF.1
          rw [h5] at c42
          have hle : (s_went (s_flw (atC σ) (tkC σ) n (σ 1 1))).length ≤ kk := Nat.le_of_not_lt (fun q => c42 (nI_lt q (by omega)))
          exact ev_iret rfl rfl rfl ⟨by rw [s_nxt, if_neg hg, hkc, List.getElem?_eq_none hle], scC_f hfr⟩
      · refine ev_blk 1 [] 15 ([some (.ref 0), some (.int (k)), some (.int (wh))], [.int ((-2 : Int32))], σ) rfl ?_ ?_
        · trivial
        exact ev_iret rfl rfl rfl ⟨by rw [s_nxt, if_pos (by simp_all)], xFr.rf⟩
set_option maxRecDepth 100000 in
theorem c_waterP (σ : xSg) (n : Nat) (hok : aOk (atC σ) n) (hn : σ 1 0 = nI n) : xCtr M_X5_water [.ref 0] σ (fun r σ1 => r = some (.long (s_wat (atC σ) (s_went (s_flw (atC σ) (tkC σ) n (σ 1 1))))) ∧ xFr scC σ σ1) := by
  refine ctr_ev ok_X5_water (by decide +kernel) rfl rfl rfl ?_
  show xEv (.inl 5) M_X5_water _ 0 ([some (.ref 0)], [], σ)
  refine ev_blk 6 [] 14 ([some (.ref 0)], [.ref 104, .int ((σ 1 1)), .ref 26], σ) rfl ?_ ?_
  · trivial
  refine ev_callV M_X2_byRule [.int ((σ 1 1)), .ref 104] [] 26 rfl rfl ln_X5_157 k_X2_byRule rfl rfl rfl rfl rfl rfl (c_byRule104 σ n (List.range 10) _ hok hn ord_by) ?_
  rintro r σ1 ⟨inm, rfl, hb, hF, hfr⟩
  have hT : s_fill (atC σ) (tkC σ) ((List.range 10).filter (s_lnp n (σ 1 1) (σ 7) 0)) ((List.range 10).filter (s_lnp n (σ 1 1) (σ 7) 1)) = (s_flw (atC σ) (tkC σ) n (σ 1 1)) := rfl
  rw [hT] at hb hF
  show xEv _ _ _ 17 ([some (.ref 0)], [.int (inm)], σ1)
  refine ev_br 0 [] (¬ inm = 0) 26 20 ([some (.ref 0)], [], σ1) rfl ?_ (fun c17 => ?_) (fun c17 => ?_)
  · trivial
  · refine ev_blk 2 [] 30 ([some (.ref 0)], [.ref 26], σ1) rfl ?_ ?_
    · trivial
    refine ev_callV M_X2_spends [] [] 26 rfl rfl ln_X5_161 k_X2_spends rfl rfl rfl rfl rfl rfl (c_spends26 σ1) ?_
    refine pu_k ?_
    show xEv _ _ _ 33 ([some (.ref 0)], [.int (x_mx 0 (σ1 9 0 * σ1 9 1 * σ1 9 2 - σ1 26 6))], σ1)
    refine ev_blk 1 [] 34 ([some (.ref 0)], [.long ((x_mx 0 (σ1 9 0 * σ1 9 1 * σ1 9 2 - σ1 26 6)).toInt64)], σ1) rfl ?_ ?_
    · trivial
    have hz := in_zero hb (fun x hx => by have := (s_flw_in x hx).1; have := hok.1; omega)
    refine ev_lret rfl rfl ⟨?_, scC_f hfr⟩
    rw [c_spd (atC_fr hfr rfl) hF]
    cases hw : s_went (s_flw (atC σ) (tkC σ) n (σ 1 1)) with
    | nil => exact absurd (hz.mpr hw) c17
    | cons q t => rw [show (s_flw (atC σ) (tkC σ) n (σ 1 1)).2.2.2.2.2.2 = q :: t from hw]; rfl
  · refine ev_blk 2 [] 34 ([some (.ref 0)], [.long ((-9223372036854775808 : Int64))], σ1) rfl ?_ ?_
    · trivial
    have hz := in_zero hb (fun x hx => by have := (s_flw_in x hx).1; have := hok.1; omega)
    refine ev_lret rfl rfl ⟨?_, scC_f hfr⟩
    rw [hz.mp (Classical.byContradiction c17)]
    rfl
def planQ (σ : xSg) (wh : Int32) (V : Nat × Int32 × List Nat × List Nat) : Option Value → xSg → Prop := fun r σ2 => (∃ rI : Int32, r = some (.int rI) ∧ (wh = 0 → rI = nI V.1) ∧ (wh = 1 → ∀ j, j < 32 → bt rI j = decide (j ∈ V.2.2.1 ∨ j ∈ V.2.2.2)) ∧ (wh = 2 → rI = V.2.1)) ∧ xFr scC σ σ2
set_option maxRecDepth 100000 in
theorem c_plan_lp (σ : xSg) (n : Nat) (hok : aOk (atC σ) n) (hn : σ 1 0 = nI n) (wh : Int32) (V : Nat × Int32 × List Nat × List Nat) : ∀ (m k c : Nat) (w wa : Int32) (σ1 : xSg), k + m = 10 → xFr scC σ σ1 → (∀ j, j < 32 → bt w j = true → j < n) → (s_plan (atC σ) (tkC σ) m (laneL n w (σ 7) 0) (laneL n w (σ 7) 1) c wa) = V → xEv (.inl 5) M_X5_plan (planQ σ wh V) 28 ([some (.ref 0), some (.int (wh)), some (.int (w)), some (.int (nI c)), some (.int (wa)), some (.int (nI k)), none], [], σ1) := by
  have fin : ∀ (c : Nat) (w wa : Int32) (σ1 : xSg) (rI : Int32), xFr scC σ σ1 → (∀ j, j < 32 → bt w j = true → j < n) → V = (c, wa, laneL n w (σ 7) 0, laneL n w (σ 7) 1) → (wh = 0 → rI = nI c) → (wh = 1 → rI = w) → (wh = 2 → rI = wa) → (planQ σ wh V) (some (.int rI)) σ1 := by
    intro c w wa σ1 rI hfr hw hV h0 h1 h2
    subst hV
    refine ⟨⟨rI, rfl, h0, fun e j hj => ?_, h2⟩, hfr⟩
    rw [h1 e]
    have := laneL_or (a := atC σ) hok hw hj
    cases hb : bt w j with
    | true => exact (decide_eq_true (this.mpr hb)).symm
    | false => exact (decide_eq_false (fun q => by have := this.mp q; rw [hb] at this; cases this)).symm
  intro m
  induction m with
  | zero =>
    intro k c w wa σ1 hk hfr hw hV
    refine ev_br 2 [] ((10 : Int32) ≤ (nI k)) 84 35 ([some (.ref 0), some (.int (wh)), some (.int (w)), some (.int (nI c)), some (.int (wa)), some (.int (nI k)), none], [], σ1) rfl ?_ (fun c32 => ?_) (fun c32 => ?_)
    · trivial
    · refine ev_br 1 [] (¬ wh = 0) 92 88 ([some (.ref 0), some (.int (wh)), some (.int (w)), some (.int (nI c)), some (.int (wa)), some (.int (nI k)), none], [], σ1) rfl ?_ (fun c85 => ?_) (fun c85 => ?_)
      · trivial
      · refine ev_br 2 [] (¬ wh = (1 : Int32)) 101 97 ([some (.ref 0), some (.int (wh)), some (.int (w)), some (.int (nI c)), some (.int (wa)), some (.int (nI k)), none], [], σ1) rfl ?_ (fun c94 => ?_) (fun c94 => ?_)
        · trivial
        · refine ev_blk 1 [] 103 ([some (.ref 0), some (.int (wh)), some (.int (w)), some (.int (nI c)), some (.int (wa)), some (.int (nI k)), none], [.int (wa)], σ1) rfl ?_ ?_
          · trivial
          exact ev_iret rfl rfl rfl (fin c w wa σ1 _ hfr hw (by rw [← hV]; rfl) (fun q => absurd q c85) (fun q => absurd q c94) (fun _ => rfl))
        · refine ev_blk 2 [] 103 ([some (.ref 0), some (.int (wh)), some (.int (w)), some (.int (nI c)), some (.int (wa)), some (.int (nI k)), none], [.int (w)], σ1) rfl ?_ ?_
          · trivial
          exact ev_iret rfl rfl rfl (fin c w wa σ1 _ hfr hw (by rw [← hV]; rfl) (fun q => absurd q c85) (fun _ => rfl) (fun q => absurd (Classical.byContradiction c94) (by rw [q]; decide)))
      · refine ev_blk 2 [] 103 ([some (.ref 0), some (.int (wh)), some (.int (w)), some (.int (nI c)), some (.int (wa)), some (.int (nI k)), none], [.int (nI c)], σ1) rfl ?_ ?_
        · trivial
        exact ev_iret rfl rfl rfl (fin c w wa σ1 _ hfr hw (by rw [← hV]; rfl) (fun _ => rfl) (fun q => absurd (Classical.byContradiction c85) (by rw [q]; decide)) (fun q => absurd (Classical.byContradiction c85) (by rw [q]; decide)))
    · exact absurd (show (10 : Int32) ≤ nI k by rw [show k = 10 by omega]; decide) c32
  | succ m ih =>
    intro k c w wa σ1 hk hfr hw hV
    have hat := atC_fr hfr rfl
    have htk : tkC σ1 = tkC σ := by unfold tkC; rw [hfr 10 (by decide)]
    have hok1 : aOk (atC σ1) n := by rw [hat]; exact hok
    have hn1 : σ1 1 0 = nI n := (congrFun (hfr 1 (by decide)) 0).trans hn
    have h7 : σ1 7 = σ 7 := hfr 7 (by decide)
    refine ev_br 2 [] ((10 : Int32) ≤ (nI k)) 84 35 ([some (.ref 0), some (.int (wh)), some (.int (w)), some (.int (nI c)), some (.int (wa)), some (.int (nI k)), none], [], σ1) rfl ?_ (fun c32 => ?_) (fun c32 => ?_)
    · trivial
    · exact absurd c32 (nI_ge (b := 10) (by omega) (by decide))
    · refine ev_blk 4 [] 43 ([some (.ref 0), some (.int (wh)), some (.int (w)), some (.int (nI c)), some (.int (wa)), some (.int (nI k)), none], [.ref 104, .int (w), .ref 26], σ1) rfl ?_ ?_
      · trivial
      refine ev_callV M_X2_byRule [.int (w), .ref 104] [] 26 rfl rfl ln_X5_157 k_X2_byRule rfl rfl rfl rfl rfl rfl (c_byRule104 σ1 n (List.range 10) _ hok1 hn1 ord_by) ?_
      rintro r σ2 ⟨inm, rfl, hb, hF, hf2⟩
      have hT : s_fill (atC σ1) (tkC σ1) ((List.range 10).filter (s_lnp n w (σ1 7) 0)) ((List.range 10).filter (s_lnp n w (σ1 7) 1)) = s_flw (atC σ) (tkC σ) n w := by rw [hat, htk, h7]; rfl
      rw [hT] at hb hF
      rw [hat] at hF
      have hz := in_zero hb (fun x hx => by have := (s_flw_in x hx).1; have := hok.1; omega)
      show xEv _ _ _ 46 ([some (.ref 0), some (.int (wh)), some (.int (w)), some (.int (nI c)), some (.int (wa)), some (.int (nI k)), none], [.int (inm)], σ2)
      refine ev_br 2 [] (¬ inm = 0) 56 53 ([some (.ref 0), some (.int (wh)), some (.int (w)), some (.int (nI c)), some (.int (wa)), some (.int (nI k)), some (.int (inm))], [], σ2) rfl ?_ (fun c50 => ?_) (fun c50 => ?_)
      · trivial
      · refine ev_blk 10 [] 72 ([some (.ref 0), some (.int (wh)), some (.int (w &&& (inm ^^^ (-1 : Int32)))), some (.int ((nI c) + (1 : Int32))), some (.int (wa)), some (.int (nI k)), some (.int (inm))], [.ref 26, .int (wa)], σ2) rfl ?_ ?_
        · trivial
        refine ev_callV M_X2_spends [] [.int (wa)] 26 rfl rfl ln_X5_161 k_X2_spends rfl rfl rfl rfl rfl rfl (c_spends26 σ2) ?_
        refine pu_k ?_
        show xEv _ _ _ 75 ([some (.ref 0), some (.int (wh)), some (.int (w &&& (inm ^^^ (-1 : Int32)))), some (.int ((nI c) + (1 : Int32))), some (.int (wa)), some (.int (nI k)), some (.int (inm))], [.int (x_mx 0 (σ2 9 0 * σ2 9 1 * σ2 9 2 - σ2 26 6)), .int (wa)], σ2)
        refine ev_blk 4 [] 28 ([some (.ref 0), some (.int (wh)), some (.int (w &&& (inm ^^^ (-1 : Int32)))), some (.int ((nI c) + (1 : Int32))), some (.int (wa + (x_mx 0 (σ2 9 0 * σ2 9 1 * σ2 9 2 - σ2 26 6)))), some (.int ((nI k) + (1 : Int32))), some (.int (inm))], [], σ2) rfl ?_ ?_
        · trivial
        rw [nI_1, nI_1]
        refine ev_drop 6 ?_
        rw [c_spd ((atC_fr hf2 rfl).trans hat) hF]
        refine ih (k + 1) (c + 1) _ _ σ2 (by omega) (hfr.tr (scC_f hf2)) (fun j hj hbj => ?_) ?_
        · rw [b_and, Bool.and_eq_true] at hbj
          exact hw j hj hbj.1
        · obtain ⟨e0, e1⟩ := s_flw_nx (a := atC σ) (tk := tkC σ) hok.1 hb
          rw [show laneL n (w &&& (inm ^^^ (-1 : Int32))) (σ 7) 0 = _ from e0, show laneL n (w &&& (inm ^^^ (-1 : Int32))) (σ 7) 1 = _ from e1, ← hV]
          rw [s_plan]
          show _ = match s_went (s_flw (atC σ) (tkC σ) n w) with | [] => _ | _ :: _ => _
          cases hww : s_went (s_flw (atC σ) (tkC σ) n w) with
          | nil => exact absurd (hz.mpr hww) c50
          | cons q t => rw [show (s_flw (atC σ) (tkC σ) n w).2.2.2.2.2.2 = q :: t from hww]; show s_plan _ _ _ _ _ _ _ = s_plan _ _ _ _ _ _ (wa + s_spend (atC σ) (s_went (s_flw (atC σ) (tkC σ) n w))); rw [hww]; rfl
      · refine ev_br 2 [] (¬ wh = 0) 92 88 ([some (.ref 0), some (.int (wh)), some (.int (w)), some (.int (nI c)), some (.int (wa)), some (.int (nI k)), some (.int (inm))], [], σ2) rfl ?_ (fun c85 => ?_) (fun c85 => ?_)
        · trivial
        · refine ev_br 2 [] (¬ wh = (1 : Int32)) 101 97 ([some (.ref 0), some (.int (wh)), some (.int (w)), some (.int (nI c)), some (.int (wa)), some (.int (nI k)), some (.int (inm))], [], σ2) rfl ?_ (fun c94 => ?_) (fun c94 => ?_)
          · trivial
          · refine ev_blk 1 [] 103 ([some (.ref 0), some (.int (wh)), some (.int (w)), some (.int (nI c)), some (.int (wa)), some (.int (nI k)), some (.int (inm))], [.int (wa)], σ2) rfl ?_ ?_
            · trivial
            exact ev_iret rfl rfl rfl (fin c w wa _ _ (hfr.tr (scC_f hf2)) hw (by rw [← hV, s_plan, show s_went (s_fill (atC σ) (tkC σ) (laneL n w (σ 7) 0) (laneL n w (σ 7) 1)) = [] from hz.mp (Classical.byContradiction c50)]) (fun q => absurd q c85) (fun q => absurd q c94) (fun _ => rfl))
          · refine ev_blk 2 [] 103 ([some (.ref 0), some (.int (wh)), some (.int (w)), some (.int (nI c)), some (.int (wa)), some (.int (nI k)), some (.int (inm))], [.int (w)], σ2) rfl ?_ ?_
            · trivial
            exact ev_iret rfl rfl rfl (fin c w wa _ _ (hfr.tr (scC_f hf2)) hw (by rw [← hV, s_plan, show s_went (s_fill (atC σ) (tkC σ) (laneL n w (σ 7) 0) (laneL n w (σ 7) 1)) = [] from hz.mp (Classical.byContradiction c50)]) (fun q => absurd q c85) (fun _ => rfl) (fun q => absurd (Classical.byContradiction c94) (by rw [q]; decide)))
        · refine ev_blk 2 [] 103 ([some (.ref 0), some (.int (wh)), some (.int (w)), some (.int (nI c)), some (.int (wa)), some (.int (nI k)), some (.int (inm))], [.int (nI c)], σ2) rfl ?_ ?_
          · trivial
          exact ev_iret rfl rfl rfl (fin c w wa _ _ (hfr.tr (scC_f hf2)) hw (by rw [← hV, s_plan, show s_went (s_fill (atC σ) (tkC σ) (laneL n w (σ 7) 0) (laneL n w (σ 7) 1)) = [] from hz.mp (Classical.byContradiction c50)]) (fun _ => rfl) (fun q => absurd (Classical.byContradiction c85) (by rw [q]; decide)) (fun q => absurd (Classical.byContradiction c85) (by rw [q]; decide)))
set_option maxRecDepth 100000 in
theorem c_planP (σ : xSg) (n : Nat) (hok : aOk (atC σ) n) (hn : σ 1 0 = nI n) (hw : ∀ j, j < 32 → bt (σ 1 1) j = true → j < n) (wh : Int32) : xCtr M_X5_plan [.ref 0, .int wh] σ (fun r σ2 => (∃ rI : Int32, r = some (.int rI) ∧ ((wh < 0 ∨ 2 < wh) → rI = -2) ∧ (wh = 0 → rI = nI (s_plan (atC σ) (tkC σ) 10 (laneL n (σ 1 1) (σ 7) 0) (laneL n (σ 1 1) (σ 7) 1) 0 0).1) ∧ (wh = 1 → ∀ j, j < 32 → bt rI j = decide (j ∈ (s_plan (atC σ) (tkC σ) 10 (laneL n (σ 1 1) (σ 7) 0) (laneL n (σ 1 1) (σ 7) 1) 0 0).2.2.1 ∨ j ∈ (s_plan (atC σ) (tkC σ) 10 (laneL n (σ 1 1) (σ 7) 0) (laneL n (σ 1 1) (σ 7) 1) 0 0).2.2.2)) ∧ (wh = 2 → rI = (s_plan (atC σ) (tkC σ) 10 (laneL n (σ 1 1) (σ 7) 0) (laneL n (σ 1 1) (σ 7) 1) 0 0).2.1)) ∧ xFr scC σ σ2) := by
  refine ctr_ev ok_X5_plan (by decide +kernel) rfl rfl rfl ?_
  show xEv (.inl 5) M_X5_plan _ 0 ([some (.ref 0), some (.int (wh)), none, none, none, none, none], [], σ)
  refine ev_br 1 [] (wh < 0) 9 4 ([some (.ref 0), some (.int (wh)), none, none, none, none, none], [], σ) rfl ?_ (fun c1 => ?_) (fun c1 => ?_)
  · trivial
  · refine ev_blk 1 [] 11 ([some (.ref 0), some (.int (wh)), none, none, none, none, none], [.int ((-2 : Int32))], σ) rfl ?_ ?_
    · trivial
    exact ev_iret rfl rfl rfl ⟨⟨_, rfl, fun _ => rfl, fun q => absurd c1 (by rw [q]; decide), fun q => absurd c1 (by rw [q]; decide), fun q => absurd c1 (by rw [q]; decide)⟩, xFr.rf⟩
  · refine ev_br 2 [] (wh ≤ (2 : Int32)) 12 9 ([some (.ref 0), some (.int (wh)), none, none, none, none, none], [], σ) rfl ?_ (fun c6 => ?_) (fun c6 => ?_)
    · trivial
    · refine ev_blk 10 [] 28 ([some (.ref 0), some (.int (wh)), some (.int ((σ 1 1))), some (.int ((0 : Int32))), some (.int ((0 : Int32))), some (.int ((0 : Int32))), none], [], σ) rfl ?_ ?_
      · trivial
      refine ev_post ?_ (c_plan_lp σ n hok hn wh _ 10 0 0 (σ 1 1) 0 σ rfl xFr.rf hw rfl)
      rintro r σ2 ⟨⟨rI, h1, h2, h3, h4⟩, h5⟩
      exact ⟨⟨rI, h1, fun q => absurd q (by rintro (q | q); exact c1 q; exact (Int32.not_lt.mpr c6) q), h2, h3, h4⟩, h5⟩
    · refine ev_blk 1 [] 11 ([some (.ref 0), some (.int (wh)), none, none, none, none, none], [.int ((-2 : Int32))], σ) rfl ?_ ?_
      · trivial
      exact ev_iret rfl rfl rfl ⟨⟨_, rfl, fun _ => rfl, fun q => absurd c6 (by rw [q]; decide), fun q => absurd c6 (by rw [q]; decide), fun q => absurd c6 (by rw [q]; decide)⟩, xFr.rf⟩
end
section
/-- who waits, as the reference keeps its lanes -/
def LR (σ : xSg) (A B : List Nat) : Prop := A.length ≤ 10 ∧ B.length ≤ 10 ∧ (∀ (i x : Nat), A[i]? = some x → σ 66 i = nI x) ∧ (∀ (i x : Nat), B[i]? = some x → σ 66 (10 + i) = nI x) ∧ σ 67 0 = nI A.length ∧ σ 67 1 = nI B.length
def scM : List Nat := [74, 75, 76, 77, 78, 79, 80, 81, 82, 83, 84, 85]
def scP : List Nat := [23, 27, 29, 30]
theorem SR_all {σ σ1 : xSg} {A B : List Nat} (h : LR σ A B) (h74 : ∀ j, j < 20 → σ1 74 j = σ 66 j) (h75 : σ1 75 = upd (upd (σ 75) 0 (σ 67 0)) 1 (σ 67 1)) : SR σ1 A B := by
  obtain ⟨h1, h2, h3, h4, h5, h6⟩ := h
  refine ⟨h1, h2, fun i x hi => ?_, fun i x hi => ?_, by rw [h75, upd_ne (by decide), upd_eq, h5], by rw [h75, upd_eq, h6]⟩
  · have := (List.getElem?_eq_some_iff.mp hi).1
    rw [h74 i (by omega)]
    exact h3 i x hi
  · have := (List.getElem?_eq_some_iff.mp hi).1
    rw [h74 (10 + i) (by omega)]
    exact h4 i x hi
/-- what the reference needs to think of fillings -/
def mOk (σ : xSg) (n : Nat) (A B : List Nat) : Prop := aOk (atM σ) n ∧ (∀ i, i < 60 → σ 69 i = 0 ∨ σ 69 i = 1) ∧ (∀ x ∈ A, x < n) ∧ (∀ x ∈ B, x < n) ∧ A.length + B.length ≤ 10 ∧ A.Nodup ∧ B.Nodup ∧ ∀ x, x ∈ A → x ∈ B → False
theorem mOk_fr {S P : List Nat} {σ σ1 : xSg} {n : Nat} {A B : List Nat} (h : mOk σ n A B) (hf : xFm S P σ σ1) (hS : (S.all fun c => !([58, 59, 60, 61, 62, 63, 68, 69] : List Nat).contains c) = true) : mOk σ1 n A B := by
  have e : atM σ1 = atM σ := atM_fr hf (by
    rw [List.all_eq_true] at hS ⊢
    intro c hc
    have := hS c hc
    simp at this ⊢
    omega)
  have e2 : σ1 69 = σ 69 := hf.1 69 (fun q => by have := List.all_eq_true.mp hS 69 q; cases this) (by decide)
  unfold mOk
  rw [e, e2]
  exact h
theorem mOk_nx {σ : xSg} {n : Nat} {A B : List Nat} {a : sAt} {tk : sTk} (h : mOk σ n A B) : mOk σ n (s_fill a tk A B).1 (s_fill a tk A B).2.1 := by
  obtain ⟨h1, h2, h3, h4, h5, h6, h7, h8⟩ := h
  obtain ⟨e1, e2, -, -⟩ := s_fill_w (a := a) (tk := tk) h6 h7 h8
  rw [e1, e2]
  refine ⟨h1, h2, fun x hx => h3 x (List.mem_filter.mp hx).1, fun x hx => h4 x (List.mem_filter.mp hx).1, ?_, h6.filter _, h7.filter _, fun x hx hy => h8 x (List.mem_filter.mp hx).1 (List.mem_filter.mp hy).1⟩
  have := List.length_filter_le (fun x => !decide (x ∈ (s_went (s_fill a tk A B)).map Prod.fst)) A
  have := List.length_filter_le (fun x => !decide (x ∈ (s_went (s_fill a tk A B)).map Prod.fst)) B
  omega
theorem mOk_went {σ : xSg} {n : Nat} {A B : List Nat} {a : sAt} {tk : sTk} (h : mOk σ n A B) : ∀ q ∈ s_went (s_fill a tk A B), q.1 < 10 := by
  obtain ⟨h1, h2, h3, h4, h5, h6, h7, h8⟩ := h
  obtain ⟨-, -, e3, -⟩ := s_fill_w (a := a) (tk := tk) h6 h7 h8
  intro q hq
  have hn := h1.1
  rcases e3 q.1 (List.mem_map_of_mem hq) with h | h
  · have := h3 _ h; omega
  · have := h4 _ h; omega
theorem fl_drop {l : List Nat} {W : List Nat} (h : ∀ x, x ∈ l → x ∈ W → False) : l.filter (fun x => !decide (x ∈ W)) = l := List.filter_eq_self.mpr (fun x hx => by simp; exact fun q => h x hx q)
theorem fl_less {l W : List Nat} {x : Nat} (hx : x ∈ l) (hw : x ∈ W) : (l.filter (fun y => !decide (y ∈ W))).length < l.length := by
  have h1 := List.length_filter_le (fun y => !decide (y ∈ W)) l
  rcases Nat.lt_or_ge (l.filter (fun y => !decide (y ∈ W))).length l.length with h | h
  · exact h
  · have := (List.filter_eq_self.mp (List.filter_sublist.eq_of_length_le h)) x hx
    simp [hw] at this
/-- somebody went in: fewer wait -/
theorem mOk_less {σ : xSg} {n : Nat} {A B : List Nat} {a : sAt} {tk : sTk} (h : mOk σ n A B) (hw : s_went (s_fill a tk A B) ≠ []) : (s_fill a tk A B).1.length + (s_fill a tk A B).2.1.length < A.length + B.length := by
  obtain ⟨h1, h2, h3, h4, h5, h6, h7, h8⟩ := h
  obtain ⟨e1, e2, e3, -⟩ := s_fill_w (a := a) (tk := tk) h6 h7 h8
  rw [e1, e2]
  obtain ⟨q, hq⟩ := List.exists_mem_of_ne_nil _ hw
  have hm := List.mem_map_of_mem (f := Prod.fst) hq
  have la := List.length_filter_le (fun x => !decide (x ∈ (s_went (s_fill a tk A B)).map Prod.fst)) A
  have lb := List.length_filter_le (fun x => !decide (x ∈ (s_went (s_fill a tk A B)).map Prod.fst)) B
  rcases e3 q.1 hm with h | h
  · have := fl_less h hm; omega
  · have := fl_less h hm; omega
theorem tkM_fr {σ σ1 : xSg} (h : σ1 69 = σ 69) : tkM σ1 = tkM σ := by unfold tkM; rw [h]
theorem mOk_none {σ : xSg} {n : Nat} {A B : List Nat} {a : sAt} {tk : sTk} (h : mOk σ n A B) (hw : s_went (s_fill a tk A B) = []) : (s_fill a tk A B).1 = A ∧ (s_fill a tk A B).2.1 = B := by
  obtain ⟨h1, h2, h3, h4, h5, h6, h7, h8⟩ := h
  obtain ⟨e1, e2, -, -⟩ := s_fill_w (a := a) (tk := tk) h6 h7 h8
  rw [hw] at e1 e2
  exact ⟨e1.trans (List.filter_eq_self.mpr (fun _ _ => by simp)), e2.trans (List.filter_eq_self.mpr (fun _ _ => by simp))⟩
set_option maxRecDepth 100000 in
theorem m_nextP (σ : xSg) (n : Nat) (A B : List Nat) (hM : mOk σ n A B) (hL : LR σ A B) (k wh : Int32) : xCtr M_X6_next [.ref 57, .int k, .int wh] σ (fun r σ1 => r = some (.int (s_nxt (s_went (s_fill (atM σ) (tkM σ) A B)) k wh)) ∧ xFm scM scP σ σ1) := by
  refine ctr_ev ok_X6_next (by decide +kernel) rfl rfl rfl ?_
  show xEv (.inl 4) M_X6_next _ 0 ([some (.ref 57), some (.int (k)), some (.int (wh))], [], σ)
  refine ev_br 1 [] (k < 0) 13 4 ([some (.ref 57), some (.int (k)), some (.int (wh))], [], σ) rfl ?_ (fun c1 => ?_) (fun c1 => ?_)
  · trivial
  · refine ev_blk 1 [] 15 ([some (.ref 57), some (.int (k)), some (.int (wh))], [.int ((-2 : Int32))], σ) rfl ?_ ?_
    · trivial
    exact ev_iret rfl rfl rfl ⟨by rw [s_nxt, if_pos (by first | exact Or.inl c1 | exact Classical.byContradiction (fun q => c10 ⟨fun z => q (Or.inr (Or.inl z)), fun z => q (Or.inr (Or.inr z))⟩))], xFm.rf⟩
  · refine ev_blk 3 [] 7 ([some (.ref 57), some (.int (k)), some (.int (wh))], [.int ((2 : Int32)), .int ((0 : Int32)), .int (wh)], σ) rfl ?_ ?_
    · trivial
    refine ev_callS M_X6_within [.int (wh), .int ((0 : Int32)), .int ((2 : Int32))] [] rfl rfl ln_X6_110 k_X6_within rfl rfl rfl (m_within _ _ _ _) ?_
    refine pu_k ?_
    show xEv _ _ _ 10 ([some (.ref 57), some (.int (k)), some (.int (wh))], [.int (zi (¬ wh < (0 : Int32) ∧ ¬ (2 : Int32) < wh))], σ)
    refine ev_br 0 [] (¬ (zi (¬ wh < (0 : Int32) ∧ ¬ (2 : Int32) < wh)) = 0) 16 13 ([some (.ref 57), some (.int (k)), some (.int (wh))], [], σ) rfl ?_ (fun c10 => ?_) (fun c10 => ?_)
    · trivial
    · replace c10 := zi_1.mp c10
      refine ev_blk 1 [] 17 ([some (.ref 57), some (.int (k)), some (.int (wh))], [.ref 57], σ) rfl ?_ ?_
      · trivial
      refine ev_callV M_X6_all [] [] 57 rfl rfl ln_X6_169 k_X6_all rfl rfl rfl rfl rfl rfl (m_all σ) ?_
      rintro r σ1 ⟨rfl, h74, h75, hf1⟩
      have hR1 := SR_all hL h74 h75
      have hM1 := mOk_fr hM hf1 rfl
      have ha1 := atM_fr hf1 rfl
      have ht1 : tkM σ1 = tkM σ := tkM_fr (hf1.1 69 (by decide) (by decide))
      show xEv _ _ _ 20 ([some (.ref 57), some (.int (k)), some (.int (wh))], [], σ1)
      refine ev_blk 2 [] 22 ([some (.ref 57), some (.int (k)), some (.int (wh))], [.ref 57, .int (k)], σ1) rfl ?_ ?_
      · trivial
      refine ev_callV M_X6_fills [] [.int (k)] 57 rfl rfl ln_X6_172 k_X6_fills rfl rfl rfl rfl rfl rfl (m_fills σ1 n A B hM1.1 hM1.2.1 hR1 hM1.2.2.1 hM1.2.2.2.1 hM1.2.2.2.2.1) ?_
      rintro r σ2 ⟨rfl, hF, hR2, hf2⟩
      rw [ha1, ht1] at hF hR2 ⊢
      have hfr : xFm scM scP σ σ2 := (hf1.mono rfl rfl).tr (hf2.mono rfl rfl)
      have ha2 : atM σ2 = atM σ := (atM_fr hf2 rfl).trans ha1
      show xEv _ _ _ 25 ([some (.ref 57), some (.int (k)), some (.int (wh))], [.int (nI (s_went (s_fill (atM σ) (tkM σ) A B)).length), .int (k)], σ2)
      refine ev_br 0 [] (k < (nI (s_went (s_fill (atM σ) (tkM σ) A B)).length)) 30 28 ([some (.ref 57), some (.int (k)), some (.int (wh))], [], σ2) rfl ?_ (fun c25 => ?_) (fun c25 => ?_)
      · trivial
      · refine ev_br 1 [] (¬ wh = 0) 43 34 ([some (.ref 57), some (.int (k)), some (.int (wh))], [], σ2) rfl ?_ (fun c31 => ?_) (fun c31 => ?_)
        · trivial
        · refine ev_br 2 [] (¬ wh = (1 : Int32)) 57 48 ([some (.ref 57), some (.int (k)), some (.int (wh))], [], σ2) rfl ?_ (fun c45 => ?_) (fun c45 => ?_)
          · trivial
          · refine ev_blk 4 [vp_in (k) 10] 63 ([some (.ref 57), some (.int (k)), some (.int (wh))], [.int ((σ2 79) k.toNatClampNeg)], σ2) rfl ?_ ?_
            · obtain ⟨kk, hkk, rfl⟩ := nI_of c1
              have hkc : (nI kk).toNatClampNeg = kk := nI_clamp hkk
              have hl10 : (s_went (s_fill (atM σ) (tkM σ) A B)).length ≤ 10 := hF.1
              have hlt := (nI_ltI hkk (by omega)).mp c25
              exact vp_in_nI (by omega) (by decide)
            have hg : ¬ (k < 0 ∨ wh < 0 ∨ 2 < wh) := by rintro (q | q | q); exact c1 q; exact c10.1 q; exact c10.2 q
            obtain ⟨kk, hkk, rfl⟩ := nI_of c1
            have hkc : (nI kk).toNatClampNeg = kk := nI_clamp hkk
            have hl10 : (s_went (s_fill (atM σ) (tkM σ) A B)).length ≤ 10 := hF.1
            have hlt := (nI_ltI hkk (by omega)).mp c25
            obtain ⟨q, hq⟩ : ∃ q, (s_went (s_fill (atM σ) (tkM σ) A B))[kk]? = some q := ⟨_, List.getElem?_eq_getElem hlt⟩
            obtain ⟨q1, q2, q3⟩ := hF.2.2.2 kk q.1 q.2.1 q.2.2 hq
            refine ev_iret rfl rfl rfl ⟨?_, hfr⟩
            rw [s_nxt, if_neg hg, hkc, hq, q3]
            simp [c31, c45]
          · refine ev_blk 5 [vp_in (k) 10] 63 ([some (.ref 57), some (.int (k)), some (.int (wh))], [.int ((σ2 78) k.toNatClampNeg)], σ2) rfl ?_ ?_
            · obtain ⟨kk, hkk, rfl⟩ := nI_of c1
              have hkc : (nI kk).toNatClampNeg = kk := nI_clamp hkk
              have hl10 : (s_went (s_fill (atM σ) (tkM σ) A B)).length ≤ 10 := hF.1
              have hlt := (nI_ltI hkk (by omega)).mp c25
              exact vp_in_nI (by omega) (by decide)
            have hg : ¬ (k < 0 ∨ wh < 0 ∨ 2 < wh) := by rintro (q | q | q); exact c1 q; exact c10.1 q; exact c10.2 q
            obtain ⟨kk, hkk, rfl⟩ := nI_of c1
            have hkc : (nI kk).toNatClampNeg = kk := nI_clamp hkk
            have hl10 : (s_went (s_fill (atM σ) (tkM σ) A B)).length ≤ 10 := hF.1
            have hlt := (nI_ltI hkk (by omega)).mp c25
            obtain ⟨q, hq⟩ : ∃ q, (s_went (s_fill (atM σ) (tkM σ) A B))[kk]? = some q := ⟨_, List.getElem?_eq_getElem hlt⟩
            obtain ⟨q1, q2, q3⟩ := hF.2.2.2 kk q.1 q.2.1 q.2.2 hq
            refine ev_iret rfl rfl rfl ⟨?_, hfr⟩
            rw [s_nxt, if_neg hg, hkc, hq, q2]
            simp [c31, Classical.byContradiction c45]
        · refine ev_blk 5 [vp_in (k) 10] 63 ([some (.ref 57), some (.int (k)), some (.int (wh))], [.int ((σ2 77) k.toNatClampNeg)], σ2) rfl ?_ ?_
          · obtain ⟨kk, hkk, rfl⟩ := nI_of c1
            have hkc : (nI kk).toNatClampNeg = kk := nI_clamp hkk
            have hl10 : (s_went (s_fill (atM σ) (tkM σ) A B)).length ≤ 10 := hF.1
            have hlt := (nI_ltI hkk (by omega)).mp c25
            exact vp_in_nI (by omega) (by decide)
          have hg : ¬ (k < 0 ∨ wh < 0 ∨ 2 < wh) := by rintro (q | q | q); exact c1 q; exact c10.1 q; exact c10.2 q
          obtain ⟨kk, hkk, rfl⟩ := nI_of c1
          have hkc : (nI kk).toNatClampNeg = kk := nI_clamp hkk
          have hl10 : (s_went (s_fill (atM σ) (tkM σ) A B)).length ≤ 10 := hF.1
          have hlt := (nI_ltI hkk (by omega)).mp c25
          obtain ⟨q, hq⟩ : ∃ q, (s_went (s_fill (atM σ) (tkM σ) A B))[kk]? = some q := ⟨_, List.getElem?_eq_getElem hlt⟩
          obtain ⟨q1, q2, q3⟩ := hF.2.2.2 kk q.1 q.2.1 q.2.2 hq
          refine ev_iret rfl rfl rfl ⟨?_, hfr⟩
          rw [s_nxt, if_neg hg, hkc, hq, q1]
          simp [Classical.byContradiction c31]
      · refine ev_blk 1 [] 29 ([some (.ref 57), some (.int (k)), some (.int (wh))], [.int ((-1 : Int32))], σ2) rfl ?_ ?_
        · trivial
        have hg : ¬ (k < 0 ∨ wh < 0 ∨ 2 < wh) := by rintro (q | q | q); exact c1 q; exact c10.1 q; exact c10.2 q
        obtain ⟨kk, hkk, rfl⟩ := nI_of c1
        have hkc : (nI kk).toNatClampNeg = kk := nI_clamp hkk
        have hl10 : (s_went (s_fill (atM σ) (tkM σ) A B)).length ≤ 10 := hF.1
        have hle : (s_went (s_fill (atM σ) (tkM σ) A B)).length ≤ kk := Nat.le_of_not_lt (fun q => c25 (nI_lt q (by omega)))
        exact ev_iret rfl rfl rfl ⟨by rw [s_nxt, if_neg hg, hkc, List.getElem?_eq_none hle], hfr⟩
    · replace c10 := zi_n.mp c10
      refine ev_blk 1 [] 15 ([some (.ref 57), some (.int (k)), some (.int (wh))], [.int ((-2 : Int32))], σ) rfl ?_ ?_
      · trivial
      exact ev_iret rfl rfl rfl ⟨by rw [s_nxt, if_pos (by first | exact Or.inl c1 | exact Classical.byContradiction (fun q => c10 ⟨fun z => q (Or.inr (Or.inl z)), fun z => q (Or.inr (Or.inr z))⟩))], xFm.rf⟩
set_option maxRecDepth 100000 in
theorem m_waterP (σ : xSg) (n : Nat) (A B : List Nat) (hM : mOk σ n A B) (hL : LR σ A B) : xCtr M_X6_water [.ref 57] σ (fun r σ1 => r = some (.long (s_wat (atM σ) (s_went (s_fill (atM σ) (tkM σ) A B)))) ∧ xFm scM scP σ σ1) := by
  refine ctr_ev ok_X6_water (by decide +kernel) rfl rfl rfl ?_
  show xEv (.inl 4) M_X6_water _ 0 ([some (.ref 57)], [], σ)
  refine ev_blk 1 [] 1 ([some (.ref 57)], [.ref 57], σ) rfl ?_ ?_
  · trivial
  refine ev_callV M_X6_all [] [] 57 rfl rfl ln_X6_169 k_X6_all rfl rfl rfl rfl rfl rfl (m_all σ) ?_
  rintro r σ1 ⟨rfl, h74, h75, hf1⟩
  have hR1 := SR_all hL h74 h75
  have hM1 := mOk_fr hM hf1 rfl
  have ha1 := atM_fr hf1 rfl
  have ht1 : tkM σ1 = tkM σ := tkM_fr (hf1.1 69 (by decide) (by decide))
  show xEv _ _ _ 4 ([some (.ref 57)], [], σ1)
  refine ev_blk 1 [] 5 ([some (.ref 57)], [.ref 57], σ1) rfl ?_ ?_
  · trivial
  refine ev_callV M_X6_fills [] [] 57 rfl rfl ln_X6_172 k_X6_fills rfl rfl rfl rfl rfl rfl (m_fills σ1 n A B hM1.1 hM1.2.1 hR1 hM1.2.2.1 hM1.2.2.2.1 hM1.2.2.2.2.1) ?_
  rintro r σ2 ⟨rfl, hF, hR2, hf2⟩
  rw [ha1, ht1] at hF hR2 ⊢
  have hfr : xFm scM scP σ σ2 := (hf1.mono rfl rfl).tr (hf2.mono rfl rfl)
  have ha2 : atM σ2 = atM σ := (atM_fr hf2 rfl).trans ha1
  show xEv _ _ _ 8 ([some (.ref 57)], [.int (nI (s_went (s_fill (atM σ) (tkM σ) A B)).length)], σ2)
  refine ev_br 0 [] (¬ (nI (s_went (s_fill (atM σ) (tkM σ) A B)).length) = 0) 17 11 ([some (.ref 57)], [], σ2) rfl ?_ (fun c8 => ?_) (fun c8 => ?_)
  · trivial
  · refine ev_blk 1 [] 18 ([some (.ref 57)], [.ref 57], σ2) rfl ?_ ?_
    · trivial
    refine ev_callV M_X6_spends [] [] 57 rfl rfl ln_X6_178 k_X6_spends rfl rfl rfl rfl rfl rfl (m_spends σ2 _ hF (mOk_went hM)) ?_
    refine pu_k ?_
    show xEv _ _ _ 21 ([some (.ref 57)], [.int (s_spend (atM σ2) (s_fill (atM σ) (tkM σ) A B).2.2.2.2.2.2)], σ2)
    refine ev_blk 1 [] 22 ([some (.ref 57)], [.long ((s_spend (atM σ2) (s_fill (atM σ) (tkM σ) A B).2.2.2.2.2.2).toInt64)], σ2) rfl ?_ ?_
    · trivial
    refine ev_lret rfl rfl ⟨?_, hfr⟩
    rw [ha2]
    cases hw : s_went (s_fill (atM σ) (tkM σ) A B) with
    | nil => rw [hw] at c8; exact absurd rfl c8
    | cons q t => rw [show (s_fill (atM σ) (tkM σ) A B).2.2.2.2.2.2 = q :: t from hw]; rfl
  · refine ev_blk 2 [] 22 ([some (.ref 57)], [.long ((-9223372036854775808 : Int64))], σ2) rfl ?_ ?_
    · trivial
    refine ev_lret rfl rfl ⟨?_, hfr⟩
    have hl10 : (s_went (s_fill (atM σ) (tkM σ) A B)).length ≤ 10 := hF.1
    have c8b := Classical.byContradiction c8
    cases hw : s_went (s_fill (atM σ) (tkM σ) A B) with
    | nil => rfl
    | cons q t => rw [hw] at c8b hl10; exact absurd c8b (nI_ne0 (by simp) (by omega))
def planM (σ : xSg) (wh : Int32) (V : Nat × Int32 × List Nat × List Nat) : Option Value → xSg → Prop := fun r σ2 => (∃ rI : Int32, r = some (.int rI) ∧ (wh = 0 → rI = nI V.1) ∧ (wh = 1 → ∀ j, j < 32 → bt rI j = decide (j ∈ V.2.2.1 ∨ j ∈ V.2.2.2)) ∧ (wh = 2 → rI = V.2.1)) ∧ xFm scM scP σ σ2
set_option maxRecDepth 100000 in
theorem m_pbits1 (σ1 : xSg) (A B : List Nat) (hR : SR σ1 A B) (h10 : ∀ x ∈ B, x < 10) (Q : Option Value → xSg → Prop) (wh wa b0 : Int32) (c : Nat) (hK : ∀ b1 : Int32, (∀ j, j < 32 → bt b1 j = (bt b0 j || decide (j ∈ B))) → xEv (.inl 4) M_X6_plan Q 46 ([some (.ref 57), some (.int (wh)), some (.int (nI c)), some (.int (wa)), some (.int (b1)), some (.int ((1 : Int32) + (1 : Int32))), none], [], σ1)) : ∀ (m k : Nat) (b : Int32), k + m = B.length → (∀ j, j < 32 → bt b j = (bt b0 j || decide (j ∈ B.take k))) → xEv (.inl 4) M_X6_plan Q 55 ([some (.ref 57), some (.int (wh)), some (.int (nI c)), some (.int (wa)), some (.int (b)), some (.int ((1 : Int32))), some (.int (nI k))], [], σ1) := by
  have hl : B.length ≤ 10 := hR.2.1
  have hs : σ1 75 1 = nI B.length := hR.2.2.2.2.2
  intro m
  induction m with
  | zero =>
    intro k b hk hb
    refine ev_br 5 [vp_in ((1 : Int32)) 2] (((σ1 75) 1) ≤ (nI k)) 93 67 ([some (.ref 57), some (.int (wh)), some (.int (nI c)), some (.int (wa)), some (.int (b)), some (.int ((1 : Int32))), some (.int (nI k))], [], σ1) rfl ?_ (fun c64 => ?_) (fun c64 => ?_)
    · exact vp_in_nI (n := 1) (by decide) (by decide)
    · refine ev_blk 2 [] 46 ([some (.ref 57), some (.int (wh)), some (.int (nI c)), some (.int (wa)), some (.int (b)), some (.int ((1 : Int32) + (1 : Int32))), some (.int (nI k))], [], σ1) rfl ?_ ?_
      · trivial
      refine ev_drop 6 ?_
      exact hK b (fun j hj => by rw [hb j hj, List.take_of_length_le (by omega)])
    · exact absurd (show σ1 75 1 ≤ nI k by rw [hs]; exact nI_le (by omega) (by omega)) c64
  | succ m ih =>
    intro k b hk hb
    obtain ⟨x, hx⟩ : ∃ x, B[k]? = some x := ⟨_, List.getElem?_eq_getElem (by omega)⟩
    have hx10 := h10 x (List.mem_of_getElem? hx)
    have hk0 : ((10 : Int32) * (1 : Int32)) + (nI k) = nI (10 + k) := by rw [show ((10 : Int32) * (1 : Int32)) = nI 10 from rfl, nI_add]
    have hc0 : (σ1 74) (((10 : Int32) * (1 : Int32)) + (nI k)).toNatClampNeg = nI x := by rw [hk0, nI_clamp (by omega)]; exact hR.2.2.2.1 k x hx
    refine ev_br 5 [vp_in ((1 : Int32)) 2] (((σ1 75) 1) ≤ (nI k)) 93 67 ([some (.ref 57), some (.int (wh)), some (.int (nI c)), some (.int (wa)), some (.int (b)), some (.int ((1 : Int32))), some (.int (nI k))], [], σ1) rfl ?_ (fun c64 => ?_) (fun c64 => ?_)
    · exact vp_in_nI (n := 1) (by decide) (by decide)
    · exact absurd c64 (show ¬ σ1 75 1 ≤ nI k by rw [hs]; exact nI_ge (by omega) (by omega))
    · refine ev_blk 15 [vp_in (((10 : Int32) * (1 : Int32)) + (nI k)) 20] 55 ([some (.ref 57), some (.int (wh)), some (.int (nI c)), some (.int (wa)), some (.int (b ||| ((1 : Int32) <<< (((σ1 74) (((10 : Int32) * (1 : Int32)) + (nI k)).toNatClampNeg) &&& 31)))), some (.int ((1 : Int32))), some (.int ((nI k) + (1 : Int32)))], [], σ1) rfl ?_ ?_
      · exact (by rw [hk0]; exact vp_in_nI (by omega) (by decide))
      rw [hc0]
      rw [nI_1]
      refine ih (k + 1) _ (by omega) (fun j hj => ?_)
      rw [b_setb (by omega) hj, hb j hj, List.take_add_one, hx, Bool.or_assoc, ← Bool.decide_or]
      congr 1
      exact decide_eq_decide.mpr (by simp)
set_option maxRecDepth 100000 in
theorem m_pbits0 (σ1 : xSg) (A B : List Nat) (hR : SR σ1 A B) (h10 : ∀ x ∈ A, x < 10) (Q : Option Value → xSg → Prop) (wh wa b0 : Int32) (c : Nat) (hK : ∀ b1 : Int32, (∀ j, j < 32 → bt b1 j = (bt b0 j || decide (j ∈ A))) → xEv (.inl 4) M_X6_plan Q 46 ([some (.ref 57), some (.int (wh)), some (.int (nI c)), some (.int (wa)), some (.int (b1)), some (.int ((0 : Int32) + (1 : Int32))), none], [], σ1)) : ∀ (m k : Nat) (b : Int32), k + m = A.length → (∀ j, j < 32 → bt b j = (bt b0 j || decide (j ∈ A.take k))) → xEv (.inl 4) M_X6_plan Q 55 ([some (.ref 57), some (.int (wh)), some (.int (nI c)), some (.int (wa)), some (.int (b)), some (.int ((0 : Int32))), some (.int (nI k))], [], σ1) := by
  have hl : A.length ≤ 10 := hR.1
  have hs : σ1 75 0 = nI A.length := hR.2.2.2.2.1
  intro m
  induction m with
  | zero =>
    intro k b hk hb
    refine ev_br 5 [vp_in ((0 : Int32)) 2] (((σ1 75) 0) ≤ (nI k)) 93 67 ([some (.ref 57), some (.int (wh)), some (.int (nI c)), some (.int (wa)), some (.int (b)), some (.int ((0 : Int32))), some (.int (nI k))], [], σ1) rfl ?_ (fun c64 => ?_) (fun c64 => ?_)
    · exact vp_in_nI (n := 0) (by decide) (by decide)
    · refine ev_blk 2 [] 46 ([some (.ref 57), some (.int (wh)), some (.int (nI c)), some (.int (wa)), some (.int (b)), some (.int ((0 : Int32) + (1 : Int32))), some (.int (nI k))], [], σ1) rfl ?_ ?_
      · trivial
      refine ev_drop 6 ?_
      exact hK b (fun j hj => by rw [hb j hj, List.take_of_length_le (by omega)])
    · exact absurd (show σ1 75 0 ≤ nI k by rw [hs]; exact nI_le (by omega) (by omega)) c64
  | succ m ih =>
    intro k b hk hb
    obtain ⟨x, hx⟩ : ∃ x, A[k]? = some x := ⟨_, List.getElem?_eq_getElem (by omega)⟩
    have hx10 := h10 x (List.mem_of_getElem? hx)
    have hk0 : ((10 : Int32) * (0 : Int32)) + (nI k) = nI (0 + k) := by rw [show ((10 : Int32) * (0 : Int32)) = nI 0 from rfl, nI_add]
    have hc0 : (σ1 74) (((10 : Int32) * (0 : Int32)) + (nI k)).toNatClampNeg = nI x := by rw [hk0, nI_clamp (by omega)]; rw [Nat.zero_add]; exact hR.2.2.1 k x hx
    refine ev_br 5 [vp_in ((0 : Int32)) 2] (((σ1 75) 0) ≤ (nI k)) 93 67 ([some (.ref 57), some (.int (wh)), some (.int (nI c)), some (.int (wa)), some (.int (b)), some (.int ((0 : Int32))), some (.int (nI k))], [], σ1) rfl ?_ (fun c64 => ?_) (fun c64 => ?_)
    · exact vp_in_nI (n := 0) (by decide) (by decide)
    · exact absurd c64 (show ¬ σ1 75 0 ≤ nI k by rw [hs]; exact nI_ge (by omega) (by omega))
    · refine ev_blk 15 [vp_in (((10 : Int32) * (0 : Int32)) + (nI k)) 20] 55 ([some (.ref 57), some (.int (wh)), some (.int (nI c)), some (.int (wa)), some (.int (b ||| ((1 : Int32) <<< (((σ1 74) (((10 : Int32) * (0 : Int32)) + (nI k)).toNatClampNeg) &&& 31)))), some (.int ((0 : Int32))), some (.int ((nI k) + (1 : Int32)))], [], σ1) rfl ?_ ?_
      · exact (by rw [hk0]; exact vp_in_nI (by omega) (by decide))
      rw [hc0]
      rw [nI_1]
      refine ih (k + 1) _ (by omega) (fun j hj => ?_)
      rw [b_setb (by omega) hj, hb j hj, List.take_add_one, hx, Bool.or_assoc, ← Bool.decide_or]
      congr 1
      exact decide_eq_decide.mpr (by simp)
set_option maxRecDepth 100000 in
theorem m_pend (σ : xSg) (wh : Int32) (V : Nat × Int32 × List Nat × List Nat) (σ1 : xSg) (c : Nat) (wa : Int32) (A B : List Nat) (hR : SR σ1 A B) (hA : ∀ x ∈ A, x < 10) (hB : ∀ x ∈ B, x < 10) (hV : V = (c, wa, A, B)) (hfr : xFm scM scP σ σ1) : xEv (.inl 4) M_X6_plan (planM σ wh V) 40 ([some (.ref 57), some (.int (wh)), some (.int (nI c)), some (.int (wa)), none, none, none], [], σ1) := by
  subst hV
  refine ev_br 6 [] ((2 : Int32) ≤ (0 : Int32)) 99 52 ([some (.ref 57), some (.int (wh)), some (.int (nI c)), some (.int (wa)), some (.int ((0 : Int32))), some (.int ((0 : Int32))), none], [], σ1) rfl ?_ (fun c49 => ?_) (fun c49 => ?_)
  · trivial
  · exact absurd c49 (by decide)
  · refine ev_blk 2 [] 55 ([some (.ref 57), some (.int (wh)), some (.int (nI c)), some (.int (wa)), some (.int ((0 : Int32))), some (.int ((0 : Int32))), some (.int ((0 : Int32)))], [], σ1) rfl ?_ ?_
    · trivial
    refine m_pbits0 σ1 A B hR hA _ wh wa 0 c (fun b1 h0 => ?_) A.length 0 0 (by omega) (fun j hj => by simp [b_0])
    rw [show (0 : Int32) + (1 : Int32) = 1 from rfl]
    show xEv _ _ _ 46 ([some (.ref 57), some (.int (wh)), some (.int (nI c)), some (.int (wa)), some (.int (b1)), some (.int ((1 : Int32))), none], [], σ1)
    refine ev_br 2 [] ((2 : Int32) ≤ (1 : Int32)) 99 52 ([some (.ref 57), some (.int (wh)), some (.int (nI c)), some (.int (wa)), some (.int (b1)), some (.int ((1 : Int32))), none], [], σ1) rfl ?_ (fun c49 => ?_) (fun c49 => ?_)
    · trivial
    · exact absurd c49 (by decide)
    · refine ev_blk 2 [] 55 ([some (.ref 57), some (.int (wh)), some (.int (nI c)), some (.int (wa)), some (.int (b1)), some (.int ((1 : Int32))), some (.int ((0 : Int32)))], [], σ1) rfl ?_ ?_
      · trivial
      refine m_pbits1 σ1 A B hR hB _ wh wa b1 c (fun b2 h1 => ?_) B.length 0 b1 (by omega) (fun j hj => by simp)
      rw [show (1 : Int32) + (1 : Int32) = 2 from rfl]
      show xEv _ _ _ 46 ([some (.ref 57), some (.int (wh)), some (.int (nI c)), some (.int (wa)), some (.int (b2)), some (.int ((2 : Int32))), none], [], σ1)
      refine ev_br 2 [] ((2 : Int32) ≤ (2 : Int32)) 99 52 ([some (.ref 57), some (.int (wh)), some (.int (nI c)), some (.int (wa)), some (.int (b2)), some (.int ((2 : Int32))), none], [], σ1) rfl ?_ (fun c49 => ?_) (fun c49 => ?_)
      · trivial
      · refine ev_br 1 [] (¬ wh = 0) 107 103 ([some (.ref 57), some (.int (wh)), some (.int (nI c)), some (.int (wa)), some (.int (b2)), some (.int ((2 : Int32))), none], [], σ1) rfl ?_ (fun c100 => ?_) (fun c100 => ?_)
        · trivial
        · refine ev_br 2 [] (¬ wh = (1 : Int32)) 117 112 ([some (.ref 57), some (.int (wh)), some (.int (nI c)), some (.int (wa)), some (.int (b2)), some (.int ((2 : Int32))), none], [], σ1) rfl ?_ (fun c109 => ?_) (fun c109 => ?_)
          · trivial
          · refine ev_blk 1 [] 118 ([some (.ref 57), some (.int (wh)), some (.int (nI c)), some (.int (wa)), some (.int (b2)), some (.int ((2 : Int32))), none], [.int (wa)], σ1) rfl ?_ ?_
            · trivial
            exact ev_iret rfl rfl rfl ⟨⟨_, rfl, fun q => absurd q c100, fun q => absurd q c109, fun _ => rfl⟩, hfr⟩
          · refine ev_blk 2 [] 118 ([some (.ref 57), some (.int (wh)), some (.int (nI c)), some (.int (wa)), some (.int (b2)), some (.int ((2 : Int32))), none], [.int (b2)], σ1) rfl ?_ ?_
            · trivial
            exact ev_iret rfl rfl rfl ⟨⟨_, rfl, fun q => absurd q c100, fun _ => (fun j hj => by rw [h1 j hj, h0 j hj, b_0, Bool.false_or, ← Bool.decide_or]), fun q => absurd (Classical.byContradiction c109) (by rw [q]; decide)⟩, hfr⟩
        · refine ev_blk 2 [] 118 ([some (.ref 57), some (.int (wh)), some (.int (nI c)), some (.int (wa)), some (.int (b2)), some (.int ((2 : Int32))), none], [.int (nI c)], σ1) rfl ?_ ?_
          · trivial
          exact ev_iret rfl rfl rfl ⟨⟨_, rfl, fun _ => rfl, fun q => absurd (Classical.byContradiction c100) (by rw [q]; decide), fun q => absurd (Classical.byContradiction c100) (by rw [q]; decide)⟩, hfr⟩
      · exact absurd (by decide) c49
set_option maxRecDepth 100000 in
theorem m_plan_lp (σ : xSg) (n : Nat) (a : sAt) (tk : sTk) (ha : atM σ = a) (ht : tkM σ = tk) (wh : Int32) (V : Nat × Int32 × List Nat × List Nat) : ∀ (m c : Nat) (wa : Int32) (A B : List Nat) (σ1 : xSg), A.length + B.length ≤ m → mOk σ1 n A B → SR σ1 A B → xFm scM scP σ σ1 → s_plan a tk m A B c wa = V → xEv (.inl 4) M_X6_plan (planM σ wh V) 20 ([some (.ref 57), some (.int (wh)), some (.int (nI c)), some (.int (wa)), none, none, none], [], σ1) := by
  intro m
  induction m with
  | zero =>
    intro c wa A B σ1 hm hM1 hR1 hfr hV
    have ha1 : atM σ1 = a := (atM_fr hfr rfl).trans ha
    have ht1 : tkM σ1 = tk := (tkM_fr (hfr.1 69 (by decide) (by decide))).trans ht
    have hn10 := hM1.1.1
    have hw0 : s_went (s_fill a tk A B) = [] := Classical.byContradiction (fun q => by have := mOk_less (a := a) (tk := tk) hM1 q; omega)
    refine ev_blk 1 [] 21 ([some (.ref 57), some (.int (wh)), some (.int (nI c)), some (.int (wa)), none, none, none], [.ref 57], σ1) rfl ?_ ?_
    · trivial
    refine ev_callV M_X6_fills [] [] 57 rfl rfl ln_X6_172 k_X6_fills rfl rfl rfl rfl rfl rfl (m_fills σ1 n A B hM1.1 hM1.2.1 hR1 hM1.2.2.1 hM1.2.2.2.1 hM1.2.2.2.2.1) ?_
    rintro r σ2 ⟨rfl, hF, hR2, hf2⟩
    rw [ha1, ht1] at hF hR2 ⊢
    have hfr2 : xFm scM scP σ σ2 := hfr.tr (hf2.mono rfl rfl)
    have hl10 : (s_went (s_fill a tk A B)).length ≤ 10 := hF.1
    show xEv _ _ _ 24 ([some (.ref 57), some (.int (wh)), some (.int (nI c)), some (.int (wa)), none, none, none], [.int (nI (s_went (s_fill a tk A B)).length)], σ2)
    refine ev_br 0 [] ((nI (s_went (s_fill a tk A B)).length) ≤ 0) 40 27 ([some (.ref 57), some (.int (wh)), some (.int (nI c)), some (.int (wa)), none, none, none], [], σ2) rfl ?_ (fun c24 => ?_) (fun c24 => ?_)
    · trivial
    · obtain ⟨e1, e2⟩ := mOk_none (a := a) (tk := tk) hM1 hw0
      rw [e1, e2] at hR2
      exact m_pend σ wh V σ2 c wa A B hR2 (fun x hx => by have := hM1.2.2.1 x hx; omega) (fun x hx => by have := hM1.2.2.2.1 x hx; omega) hV.symm hfr2
    · exact absurd (by rw [hw0]; decide) c24
  | succ m ih =>
    intro c wa A B σ1 hm hM1 hR1 hfr hV
    have ha1 : atM σ1 = a := (atM_fr hfr rfl).trans ha
    have ht1 : tkM σ1 = tk := (tkM_fr (hfr.1 69 (by decide) (by decide))).trans ht
    have hn10 := hM1.1.1
    refine ev_blk 1 [] 21 ([some (.ref 57), some (.int (wh)), some (.int (nI c)), some (.int (wa)), none, none, none], [.ref 57], σ1) rfl ?_ ?_
    · trivial
    refine ev_callV M_X6_fills [] [] 57 rfl rfl ln_X6_172 k_X6_fills rfl rfl rfl rfl rfl rfl (m_fills σ1 n A B hM1.1 hM1.2.1 hR1 hM1.2.2.1 hM1.2.2.2.1 hM1.2.2.2.2.1) ?_
    rintro r σ2 ⟨rfl, hF, hR2, hf2⟩
    rw [ha1, ht1] at hF hR2 ⊢
    have hfr2 : xFm scM scP σ σ2 := hfr.tr (hf2.mono rfl rfl)
    have hl10 : (s_went (s_fill a tk A B)).length ≤ 10 := hF.1
    show xEv _ _ _ 24 ([some (.ref 57), some (.int (wh)), some (.int (nI c)), some (.int (wa)), none, none, none], [.int (nI (s_went (s_fill a tk A B)).length)], σ2)
    refine ev_br 0 [] ((nI (s_went (s_fill a tk A B)).length) ≤ 0) 40 27 ([some (.ref 57), some (.int (wh)), some (.int (nI c)), some (.int (wa)), none, none, none], [], σ2) rfl ?_ (fun c24 => ?_) (fun c24 => ?_)
    · trivial
    · have hw0 : s_went (s_fill a tk A B) = [] := by
        cases hww : s_went (s_fill a tk A B) with
        | nil => rfl
        | cons q t => rw [hww] at c24 hl10; exact absurd c24 (nI_nle (by simp) (by omega))
      obtain ⟨e1, e2⟩ := mOk_none (a := a) (tk := tk) hM1 hw0
      rw [e1, e2] at hR2
      refine m_pend σ wh V σ2 c wa A B hR2 (fun x hx => by have := hM1.2.2.1 x hx; omega) (fun x hx => by have := hM1.2.2.2.1 x hx; omega) ?_ hfr2
      rw [← hV, s_plan, hw0]
    · refine ev_blk 3 [] 32 ([some (.ref 57), some (.int (wh)), some (.int ((nI c) + (1 : Int32))), some (.int (wa)), none, none, none], [.ref 57, .int (wa)], σ2) rfl ?_ ?_
      · trivial
      refine ev_callV M_X6_spends [] [.int (wa)] 57 rfl rfl ln_X6_178 k_X6_spends rfl rfl rfl rfl rfl rfl (m_spends σ2 _ hF (mOk_went hM1)) ?_
      refine pu_k ?_
      show xEv _ _ _ 35 ([some (.ref 57), some (.int (wh)), some (.int ((nI c) + (1 : Int32))), some (.int (wa)), none, none, none], [.int (s_spend (atM σ2) (s_fill a tk A B).2.2.2.2.2.2), .int (wa)], σ2)
      refine ev_blk 3 [] 20 ([some (.ref 57), some (.int (wh)), some (.int ((nI c) + (1 : Int32))), some (.int (wa + (s_spend (atM σ2) (s_fill a tk A B).2.2.2.2.2.2))), none, none, none], [], σ2) rfl ?_ ?_
      · trivial
      have ha2 : atM σ2 = a := (atM_fr hf2 rfl).trans ha1
      have hwn : s_went (s_fill a tk A B) ≠ [] := fun q => c24 (by rw [q]; decide)
      rw [nI_1, ha2]
      refine ih (c + 1) _ _ _ σ2 (by have := mOk_less hM1 hwn; omega) (mOk_nx (mOk_fr hM1 hf2 rfl)) hR2 hfr2 ?_
      rw [← hV, s_plan]
      cases hww : s_went (s_fill a tk A B) with
      | nil => exact absurd hww hwn
      | cons q t => rw [show (s_fill a tk A B).2.2.2.2.2.2 = q :: t from hww]
set_option maxRecDepth 100000 in
theorem m_planP (σ : xSg) (n : Nat) (A B : List Nat) (hM : mOk σ n A B) (hL : LR σ A B) (wh : Int32) : xCtr M_X6_plan [.ref 57, .int wh] σ (fun r σ2 => (∃ rI : Int32, r = some (.int rI) ∧ ((wh < 0 ∨ 2 < wh) → rI = -2) ∧ (wh = 0 → rI = nI (s_plan (atM σ) (tkM σ) 10 A B 0 0).1) ∧ (wh = 1 → ∀ j, j < 32 → bt rI j = decide (j ∈ (s_plan (atM σ) (tkM σ) 10 A B 0 0).2.2.1 ∨ j ∈ (s_plan (atM σ) (tkM σ) 10 A B 0 0).2.2.2)) ∧ (wh = 2 → rI = (s_plan (atM σ) (tkM σ) 10 A B 0 0).2.1)) ∧ xFm scM scP σ σ2) := by
  refine ctr_ev ok_X6_plan (by decide +kernel) rfl rfl rfl ?_
  show xEv (.inl 4) M_X6_plan _ 0 ([some (.ref 57), some (.int (wh)), none, none, none, none, none], [], σ)
  refine ev_blk 3 [] 3 ([some (.ref 57), some (.int (wh)), none, none, none, none, none], [.int ((2 : Int32)), .int ((0 : Int32)), .int (wh)], σ) rfl ?_ ?_
  · trivial
  refine ev_callS M_X6_within [.int (wh), .int ((0 : Int32)), .int ((2 : Int32))] [] rfl rfl ln_X6_110 k_X6_within rfl rfl rfl (m_within _ _ _ _) ?_
  refine pu_k ?_
  show xEv _ _ _ 6 ([some (.ref 57), some (.int (wh)), none, none, none, none, none], [.int (zi (¬ wh < (0 : Int32) ∧ ¬ (2 : Int32) < wh))], σ)
  refine ev_br 0 [] (¬ (zi (¬ wh < (0 : Int32) ∧ ¬ (2 : Int32) < wh)) = 0) 12 9 ([some (.ref 57), some (.int (wh)), none, none, none, none, none], [], σ) rfl ?_ (fun c6 => ?_) (fun c6 => ?_)
  · trivial
  · replace c6 := zi_1.mp c6
    refine ev_blk 1 [] 13 ([some (.ref 57), some (.int (wh)), none, none, none, none, none], [.ref 57], σ) rfl ?_ ?_
    · trivial
    refine ev_callV M_X6_all [] [] 57 rfl rfl ln_X6_169 k_X6_all rfl rfl rfl rfl rfl rfl (m_all σ) ?_
    rintro r σ1 ⟨rfl, h74, h75, hf1⟩
    have hR1 := SR_all hL h74 h75
    have hM1 := mOk_fr hM hf1 rfl
    have ha1 := atM_fr hf1 rfl
    have ht1 : tkM σ1 = tkM σ := tkM_fr (hf1.1 69 (by decide) (by decide))
    show xEv _ _ _ 16 ([some (.ref 57), some (.int (wh)), none, none, none, none, none], [], σ1)
    refine ev_blk 4 [] 20 ([some (.ref 57), some (.int (wh)), some (.int ((0 : Int32))), some (.int ((0 : Int32))), none, none, none], [], σ1) rfl ?_ ?_
    · trivial
    refine ev_post ?_ (m_plan_lp σ n _ _ rfl rfl wh _ 10 0 0 A B σ1 hM.2.2.2.2.1 hM1 hR1 (hf1.mono rfl rfl) rfl)
    rintro r σ2 ⟨⟨rI, h1, h2, h3, h4⟩, h5⟩
    exact ⟨⟨rI, h1, fun q => absurd q (by rintro (q | q); exact c6.1 q; exact c6.2 q), h2, h3, h4⟩, h5⟩
  · replace c6 := zi_n.mp c6
    refine ev_blk 1 [] 11 ([some (.ref 57), some (.int (wh)), none, none, none, none, none], [.int ((-2 : Int32))], σ) rfl ?_ ?_
    · trivial
    refine ev_iret rfl rfl rfl ⟨⟨_, rfl, fun _ => rfl, fun q => absurd (show ¬ wh < 0 ∧ ¬ 2 < wh by rw [q]; decide) c6, fun q => absurd (show ¬ wh < 0 ∧ ¬ 2 < wh by rw [q]; decide) c6, fun q => absurd (show ¬ wh < 0 ∧ ¬ 2 < wh by rw [q]; decide) c6⟩, xFm.rf⟩
end
section
abbrev iN (n : Nat) (x : Int32) : Prop := ¬ x < 0 ∧ ¬ nI n ≤ x
theorem iN_nI {n j : Nat} (hj : j < n) (hn : n < 2 ^ 31) : iN n (nI j) := ⟨nI_pos (by omega), nI_ge hj hn⟩
theorem iSh_iN {σ : xSg} {n : Nat} {x : Int32} (hn : σ 1 0 = nI n) (hn10 : n ≤ 10) : iSh σ x ↔ iN n x := by
  constructor
  · intro q
    exact ⟨q.1, by rw [← hn]; exact q.2.1⟩
  · rintro ⟨q1, q2⟩
    obtain ⟨j, hj, rfl⟩ := nI_of q1
    have hjn : j < n := Nat.lt_of_not_le (fun z => q2 (nI_le z hj))
    exact (iSh_lt hn hn10 hj).mpr hjn
/-- what is told of ship j -/
def s_told (a : sAt) (St By : Nat → Int32) (j : Nat) (wh : Int32) : Int32 :=
  if wh = 0 then aK a j else if wh = 1 then aLn a j else if wh = 2 then aFi a j else if wh = 3 then aLo a j else if wh = 4 then aCo a j else if wh = 5 then aLa a j
  else if wh = 6 then St j else if wh = 7 then s_span (aK a) (aLn a) j else if wh = 8 then s_rank (aK a) (aFi a) j else if wh = 9 then By j else -2
def s_st (w g : Int32) (j : Nat) : Int32 := if bt w j = true then 0 else if bt g j = true then 1 else 2
def setLo (W : Nat) : Int32 := ([1, 1, 1, 1, 0] : List Int32).getD W 0
def setHi (W : Nat) : Int32 := ([20, 3, 99, 60, 4] : List Int32).getD W 0
def setQ (c : Nat) (σ : xSg) (wh v : Int32) : Option Value → xSg → Prop := fun r σ' =>
  (∃ W, W < 5 ∧ wh = nI W ∧ ¬ v < setLo W ∧ ¬ setHi W < v ∧ r = some (.int (σ c W)) ∧ σ' = x_up σ c (upd (σ c) W v)) ∨ ((∀ W, W < 5 → wh = nI W → v < setLo W ∨ setHi W < v) ∧ r = some (.int (-2)) ∧ σ' = σ)
theorem pu_v {σ : xSg} {v w : Int32} (h : v = w) : some (Value.int v) = some (Value.int w) ∧ σ = σ := ⟨by rw [h], rfl⟩
set_option maxRecDepth 100000 in
theorem c_set (σ : xSg) (wh v : Int32) : xCtr M_X5_set [.ref 0, .int (wh), .int (v)] σ (setQ 9 σ wh v) := by
  refine ctr_ev ok_X5_set (by decide +kernel) rfl rfl rfl ?_
  show xEv (.inl 1) M_X5_set _ 0 ([some (.ref 0), some (.int (wh)), some (.int (v)), none], [], σ)
  rcases pk_ix wh (n := 5) (by decide) with hb | hb | ⟨W, hW, rfl⟩
  · refine ev_blk 1 [] 1 ([some (.ref 0), some (.int (wh)), some (.int (v)), none], [.int (wh)], σ) rfl ?_ ?_
    · trivial
    refine ev_callS M_X5_isSetting [.int (wh)] [] rfl rfl ln_X5_96 k_X5_isSetting rfl rfl rfl (c_isSetting _ _) ?_
    refine pu_k ?_
    show xEv _ _ _ 4 ([some (.ref 0), some (.int (wh)), some (.int (v)), none], [.int (zi (¬ wh < 0 ∧ ¬ (4 : Int32) < wh))], σ)
    refine ev_br 0 [] ((zi (¬ wh < 0 ∧ ¬ (4 : Int32) < wh)) = 0) 25 7 ([some (.ref 0), some (.int (wh)), some (.int (v)), none], [], σ) rfl ?_ (fun c4 => ?_) (fun c4 => ?_)
    · trivial
    · replace c4 := zi_0.mp c4
      refine ev_blk 1 [] 27 ([some (.ref 0), some (.int (wh)), some (.int (v)), none], [.int ((-2 : Int32))], σ) rfl ?_ ?_
      · trivial
      exact ev_iret rfl rfl rfl (Or.inr ⟨fun W hW q => by subst q; exact absurd hb (nI_pos (by omega)), rfl, rfl⟩)
    · exact absurd hb (zi_1.mp c4).1
  · refine ev_blk 1 [] 1 ([some (.ref 0), some (.int (wh)), some (.int (v)), none], [.int (wh)], σ) rfl ?_ ?_
    · trivial
    refine ev_callS M_X5_isSetting [.int (wh)] [] rfl rfl ln_X5_96 k_X5_isSetting rfl rfl rfl (c_isSetting _ _) ?_
    refine pu_k ?_
    show xEv _ _ _ 4 ([some (.ref 0), some (.int (wh)), some (.int (v)), none], [.int (zi (¬ wh < 0 ∧ ¬ (4 : Int32) < wh))], σ)
    refine ev_br 0 [] ((zi (¬ wh < 0 ∧ ¬ (4 : Int32) < wh)) = 0) 25 7 ([some (.ref 0), some (.int (wh)), some (.int (v)), none], [], σ) rfl ?_ (fun c4 => ?_) (fun c4 => ?_)
    · trivial
    · replace c4 := zi_0.mp c4
      refine ev_blk 1 [] 27 ([some (.ref 0), some (.int (wh)), some (.int (v)), none], [.int ((-2 : Int32))], σ) rfl ?_ ?_
      · trivial
      exact ev_iret rfl rfl rfl (Or.inr ⟨fun W hW q => by subst q; exact absurd hb (nI_ge hW (by decide)), rfl, rfl⟩)
    · exact absurd (Int32.lt_of_lt_of_le (show (4 : Int32) < nI 5 by decide) hb) (zi_1.mp c4).2
  · have hWc : (nI W).toNatClampNeg = W := nI_clamp (by omega)
    have hin : vp_in (nI W) 5 := vp_in_nI hW (by decide)
    have hs : ¬ nI W < 0 ∧ ¬ (4 : Int32) < nI W := ⟨nI_pos (by omega), nI_nlt (a := 4) (by omega) (by decide)⟩
    have only : ∀ W2, W2 < 5 → nI W = nI W2 → W2 = W := fun W2 h2 q => ((nI_eq (by omega) (by omega)).mp q).symm
    refine ev_blk 1 [] 1 ([some (.ref 0), some (.int (nI W)), some (.int (v)), none], [.int (nI W)], σ) rfl ?_ ?_
    · trivial
    refine ev_callS M_X5_isSetting [.int (nI W)] [] rfl rfl ln_X5_96 k_X5_isSetting rfl rfl rfl (c_isSetting _ _) ?_
    refine pu_k ?_
    show xEv _ _ _ 4 ([some (.ref 0), some (.int (nI W)), some (.int (v)), none], [.int (zi (¬ (nI W) < 0 ∧ ¬ (4 : Int32) < (nI W)))], σ)
    refine ev_br 0 [] ((zi (¬ (nI W) < 0 ∧ ¬ (4 : Int32) < (nI W))) = 0) 25 7 ([some (.ref 0), some (.int (nI W)), some (.int (v)), none], [], σ) rfl ?_ (fun c4 => ?_) (fun c4 => ?_)
    · trivial
    · exact absurd hs (zi_0.mp c4)
    · replace c4 := zi_1.mp c4
      refine ev_br 4 [vp_in (nI W) 5] (v < (([1, 1, 1, 1, 0] : List Int32).getD (nI W).toNatClampNeg 0)) 25 16 ([some (.ref 0), some (.int (nI W)), some (.int (v)), none], [], σ) rfl ?_ (fun c13 => ?_) (fun c13 => ?_)
      · exact hin
      · rw [(show ([1, 1, 1, 1, 0] : List Int32).getD (nI W).toNatClampNeg 0 = setLo W by rw [hWc]; rfl)] at c13
        refine ev_blk 1 [] 27 ([some (.ref 0), some (.int (nI W)), some (.int (v)), none], [.int ((-2 : Int32))], σ) rfl ?_ ?_
        · trivial
        exact ev_iret rfl rfl rfl (Or.inr ⟨fun W2 h2 q => by rw [only W2 h2 q]; exact Or.inl c13, rfl, rfl⟩)
      · rw [(show ([1, 1, 1, 1, 0] : List Int32).getD (nI W).toNatClampNeg 0 = setLo W by rw [hWc]; rfl)] at c13
        refine ev_br 4 [vp_in (nI W) 5] (v ≤ (([20, 3, 99, 60, 4] : List Int32).getD (nI W).toNatClampNeg 0)) 28 25 ([some (.ref 0), some (.int (nI W)), some (.int (v)), none], [], σ) rfl ?_ (fun c22 => ?_) (fun c22 => ?_)
        · exact hin
        · rw [(show ([20, 3, 99, 60, 4] : List Int32).getD (nI W).toNatClampNeg 0 = setHi W by rw [hWc]; rfl)] at c22
          refine ev_blk 13 [vp_in (nI W) 5, vp_in (nI W) 5] 49 ([some (.ref 0), some (.int (nI W)), some (.int (v)), some (.int ((σ 9) (nI W).toNatClampNeg))], [.int ((σ 9) (nI W).toNatClampNeg)], (x_up σ 9 (upd (σ 9) (nI W).toNatClampNeg (v)))) rfl ?_ ?_
          · exact ⟨hin, hin⟩
          rw [hWc]
          exact ev_iret rfl rfl rfl (Or.inl ⟨W, hW, rfl, c13, Int32.not_lt.mpr c22, rfl, rfl⟩)
        · rw [(show ([20, 3, 99, 60, 4] : List Int32).getD (nI W).toNatClampNeg 0 = setHi W by rw [hWc]; rfl)] at c22
          refine ev_blk 1 [] 27 ([some (.ref 0), some (.int (nI W)), some (.int (v)), none], [.int ((-2 : Int32))], σ) rfl ?_ ?_
          · trivial
          exact ev_iret rfl rfl rfl (Or.inr ⟨fun W2 h2 q => by rw [only W2 h2 q]; exact Or.inr (Int32.not_le.mp c22), rfl, rfl⟩)
def capQ (c : Nat) (d : Int32) (σ : xSg) (day v : Int32) : Option Value → xSg → Prop := fun r σ' =>
  (∃ W, W < 100 ∧ day = nI W ∧ ¬ v < -1 ∧ ¬ 99999 < v ∧ r = some (.int (σ c W - d)) ∧ σ' = x_up σ c (upd (σ c) W (v + d))) ∨ ((∀ W, W < 100 → day = nI W → v < -1 ∨ 99999 < v) ∧ r = some (.int (-2)) ∧ σ' = σ)
set_option maxRecDepth 100000 in
theorem c_cap (σ : xSg) (day v : Int32) : xCtr M_X5_cap [.ref 0, .int (day), .int (v)] σ (capQ 11 0 σ day v) := by
  refine ctr_ev ok_X5_cap (by decide +kernel) rfl rfl rfl ?_
  show xEv (.inl 0) M_X5_cap _ 0 ([some (.ref 0), some (.int (day)), some (.int (v)), none], [], σ)
  rcases pk_ix day (n := 100) (by decide) with hb | hb | ⟨W, hW, rfl⟩
  · refine ev_br 1 [] (day < 0) 21 4 ([some (.ref 0), some (.int (day)), some (.int (v)), none], [], σ) rfl ?_ (fun c1 => ?_) (fun c1 => ?_)
    · trivial
    · refine ev_blk 1 [] 23 ([some (.ref 0), some (.int (day)), some (.int (v)), none], [.int ((-2 : Int32))], σ) rfl ?_ ?_
      · trivial
      exact ev_iret rfl rfl rfl (Or.inr ⟨fun W hW q => by subst q; exact absurd hb (nI_pos (by omega)), rfl, rfl⟩)
    · exact absurd hb c1
  · refine ev_br 1 [] (day < 0) 21 4 ([some (.ref 0), some (.int (day)), some (.int (v)), none], [], σ) rfl ?_ (fun c1 => ?_) (fun c1 => ?_)
    · trivial
    · refine ev_blk 1 [] 23 ([some (.ref 0), some (.int (day)), some (.int (v)), none], [.int ((-2 : Int32))], σ) rfl ?_ ?_
      · trivial
      exact ev_iret rfl rfl rfl (Or.inr ⟨fun W hW q => by subst q; exact absurd hb (nI_ge hW (by decide)), rfl, rfl⟩)
    · refine ev_br 2 [] ((100 : Int32) ≤ day) 21 10 ([some (.ref 0), some (.int (day)), some (.int (v)), none], [], σ) rfl ?_ (fun c7 => ?_) (fun c7 => ?_)
      · trivial
      · refine ev_blk 1 [] 23 ([some (.ref 0), some (.int (day)), some (.int (v)), none], [.int ((-2 : Int32))], σ) rfl ?_ ?_
        · trivial
        exact ev_iret rfl rfl rfl (Or.inr ⟨fun W hW q => by subst q; exact absurd hb (nI_ge hW (by decide)), rfl, rfl⟩)
      · exact absurd hb c7
  · have hWc : (nI W).toNatClampNeg = W := nI_clamp (by omega)
    have hin : vp_in (nI W) 100 := vp_in_nI hW (by decide)
    have only : ∀ W2, W2 < 100 → nI W = nI W2 → W2 = W := fun W2 h2 q => ((nI_eq (by omega) (by omega)).mp q).symm
    refine ev_br 1 [] ((nI W) < 0) 21 4 ([some (.ref 0), some (.int (nI W)), some (.int (v)), none], [], σ) rfl ?_ (fun c1 => ?_) (fun c1 => ?_)
    · trivial
    · exact absurd c1 (nI_pos (by omega))
    · refine ev_br 2 [] ((100 : Int32) ≤ (nI W)) 21 10 ([some (.ref 0), some (.int (nI W)), some (.int (v)), none], [], σ) rfl ?_ (fun c7 => ?_) (fun c7 => ?_)
      · trivial
      · exact absurd c7 (nI_ge (b := 100) hW (by decide))
      · refine ev_br 2 [] (v < (-1 : Int32)) 21 15 ([some (.ref 0), some (.int (nI W)), some (.int (v)), none], [], σ) rfl ?_ (fun c12 => ?_) (fun c12 => ?_)
        · trivial
        · refine ev_blk 1 [] 23 ([some (.ref 0), some (.int (nI W)), some (.int (v)), none], [.int ((-2 : Int32))], σ) rfl ?_ ?_
          · trivial
          exact ev_iret rfl rfl rfl (Or.inr ⟨fun W2 h2 q => Or.inl c12, rfl, rfl⟩)
        · refine ev_br 2 [] (v ≤ (99999 : Int32)) 24 21 ([some (.ref 0), some (.int (nI W)), some (.int (v)), none], [], σ) rfl ?_ (fun c18 => ?_) (fun c18 => ?_)
          · trivial
          · refine ev_blk 13 [vp_in (nI W) 100, vp_in (nI W) 100] 45 ([some (.ref 0), some (.int (nI W)), some (.int (v)), some (.int ((σ 11) (nI W).toNatClampNeg))], [.int ((σ 11) (nI W).toNatClampNeg)], (x_up σ 11 (upd (σ 11) (nI W).toNatClampNeg (v)))) rfl ?_ ?_
            · exact ⟨hin, hin⟩
            rw [hWc]
            exact ev_iret rfl rfl rfl (Or.inl ⟨W, hW, rfl, c12, Int32.not_lt.mpr c18, by rw [Int32.sub_zero], by rw [Int32.add_zero]⟩)
          · refine ev_blk 1 [] 23 ([some (.ref 0), some (.int (nI W)), some (.int (v)), none], [.int ((-2 : Int32))], σ) rfl ?_ ?_
            · trivial
            exact ev_iret rfl rfl rfl (Or.inr ⟨fun W2 h2 q => Or.inr (Int32.not_le.mp c18), rfl, rfl⟩)
def s_may (f : Nat → Int32) (day : Int32) : Int32 := if iN 200 day then s_bnd f day.toNatClampNeg else -2
set_option maxRecDepth 100000 in
theorem c_may (σ : xSg) (day : Int32) : xCtr M_X5_may [.ref 0, .int (day)] σ (fun r σ1 => r = some (.int (s_may (σ 11) day)) ∧ σ1 = σ) := by
  refine ctr_ev ok_X5_may (by decide +kernel) rfl rfl rfl ?_
  show xEv (.inl 2) M_X5_may _ 0 ([some (.ref 0), some (.int (day))], [], σ)
  refine ev_br 1 [] (day < 0) 11 4 ([some (.ref 0), some (.int (day))], [], σ) rfl ?_ (fun c1 => ?_) (fun c1 => ?_)
  · trivial
  · refine ev_blk 2 [] 24 ([some (.ref 0), some (.int (day))], [.int ((-2 : Int32))], σ) rfl ?_ ?_
    · trivial
    exact ev_iret rfl rfl rfl (pu_v (by rw [s_may, if_neg (by simp_all)]))
  · refine ev_br 2 [] (day < (200 : Int32)) 16 11 ([some (.ref 0), some (.int (day))], [], σ) rfl ?_ (fun c8 => ?_) (fun c8 => ?_)
    · trivial
    · refine ev_blk 3 [] 21 ([some (.ref 0), some (.int (day))], [.int (day), .ref 1], σ) rfl ?_ ?_
      · trivial
      obtain ⟨d, hd, rfl⟩ := nI_of c1
      have hdc : (nI d).toNatClampNeg = d := nI_clamp hd
      refine ev_callV M_X3_bound [.int (nI d)] [] 1 rfl rfl ln_X5_115 k_X3_bound rfl rfl rfl rfl rfl rfl (c_bound σ d hd) ?_
      refine pu_k ?_
      show xEv _ _ _ 24 ([some (.ref 0), some (.int (nI d))], [.int (s_bnd (σ 11) d)], σ)
      exact ev_iret rfl rfl rfl (pu_v (by rw [s_may, if_pos ⟨c1, Int32.not_le.mpr c8⟩, hdc]))
    · refine ev_blk 2 [] 24 ([some (.ref 0), some (.int (day))], [.int ((-2 : Int32))], σ) rfl ?_ ?_
      · trivial
      exact ev_iret rfl rfl rfl (pu_v (by rw [s_may, if_neg (fun q => q.2 (Int32.not_lt.mp c8))]))
def s_tld (n : Nat) (a : sAt) (St By : Nat → Int32) (x wh : Int32) : Int32 := if iN n x then s_told a St By x.toNatClampNeg wh else -2
set_option maxRecDepth 100000 in
theorem c_told (σ : xSg) (n : Nat) (hn : σ 1 0 = nI n) (hn10 : n ≤ 10) (x wh : Int32) : xCtr M_X5_told [.ref 0, .int (x), .int (wh)] σ (fun r σ1 => r = some (.int (s_tld n (atC σ) (s_st (σ 1 1) (σ 1 2)) (σ 8) x wh)) ∧ σ1 = σ) := by
  refine ctr_ev ok_X5_told (by decide +kernel) rfl rfl rfl ?_
  show xEv (.inl 2) M_X5_told _ 0 ([some (.ref 0), some (.int (x)), some (.int (wh))], [], σ)
  by_cases hx : iN n x
  · obtain ⟨j, hj, rfl⟩ := nI_of hx.1
    have hjn : j < n := Nat.lt_of_not_le (fun z => hx.2 (nI_le z hj))
    have hjc : (nI j).toNatClampNeg = j := nI_clamp hj
    have hsh := (iSh_lt hn hn10 hj).mpr hjn
    have hw := iWt (w := σ 1 1) hn hn10 (show j < 32 by omega)
    have hg := iWt (w := σ 1 2) hn hn10 (show j < 32 by omega)
    have ev : ∀ v : Int32, v = s_told (atC σ) (s_st (σ 1 1) (σ 1 2)) (σ 8) j wh → (some (Value.int v) = some (Value.int (s_tld n (atC σ) (s_st (σ 1 1) (σ 1 2)) (σ 8) (nI j) wh)) ∧ σ = σ) := fun v hv => ⟨by rw [hv, s_tld, if_pos hx, hjc], rfl⟩
    refine ev_blk 3 [] 5 ([some (.ref 0), some (.int (nI j)), some (.int (wh))], [.int (nI j), .ref 1], σ) rfl ?_ ?_
    · trivial
    refine ev_callV M_X3_isShip [.int (nI j)] [] 1 rfl rfl ln_X5_119 k_X3_isShip rfl rfl rfl rfl rfl rfl (c_isShip _ _) ?_
    refine pu_k ?_
    show xEv _ _ _ 8 ([some (.ref 0), some (.int (nI j)), some (.int (wh))], [.int (zi (iSh σ (nI j)))], σ)
    refine ev_br 0 [] (¬ (zi (iSh σ (nI j))) = 0) 14 11 ([some (.ref 0), some (.int (nI j)), some (.int (wh))], [], σ) rfl ?_ (fun c8 => ?_) (fun c8 => ?_)
    · trivial
    · replace c8 := zi_1.mp c8
      refine ev_sw 1 [] (wh) [((0 : Int32), 68), ((1 : Int32), 78), ((2 : Int32), 88), ((3 : Int32), 98), ((4 : Int32), 108), ((5 : Int32), 118), ((6 : Int32), 128), ((7 : Int32), 160), ((8 : Int32), 169), ((9 : Int32), 178)] 188 ([some (.ref 0), some (.int (nI j)), some (.int (wh))], [], σ) rfl ?_ ?_
      · trivial
      refine ⟨fun c15_0 => ?_, fun c15_0 => ?_⟩
      · refine ev_blk 5 [vp_in (nI j) 10] 77 ([some (.ref 0), some (.int (nI j)), some (.int (wh))], [.int ((σ 2) (nI j).toNatClampNeg)], σ) rfl ?_ ?_
        · exact vp_in_nI (by omega) (by decide)
        rw [hjc]
        exact ev_iret rfl rfl rfl (ev _ (by unfold s_told; simp_all))
      refine ⟨fun c15_1 => ?_, fun c15_1 => ?_⟩
      · refine ev_blk 5 [vp_in (nI j) 10] 87 ([some (.ref 0), some (.int (nI j)), some (.int (wh))], [.int ((σ 3) (nI j).toNatClampNeg)], σ) rfl ?_ ?_
        · exact vp_in_nI (by omega) (by decide)
        rw [hjc]
        exact ev_iret rfl rfl rfl (ev _ (by unfold s_told; simp_all))
      refine ⟨fun c15_2 => ?_, fun c15_2 => ?_⟩
      · refine ev_blk 5 [vp_in (nI j) 10] 97 ([some (.ref 0), some (.int (nI j)), some (.int (wh))], [.int ((σ 4) (nI j).toNatClampNeg)], σ) rfl ?_ ?_
        · exact vp_in_nI (by omega) (by decide)
        rw [hjc]
        exact ev_iret rfl rfl rfl (ev _ (by unfold s_told; simp_all))
      refine ⟨fun c15_3 => ?_, fun c15_3 => ?_⟩
      · refine ev_blk 5 [vp_in (nI j) 10] 107 ([some (.ref 0), some (.int (nI j)), some (.int (wh))], [.int ((σ 5) (nI j).toNatClampNeg)], σ) rfl ?_ ?_
        · exact vp_in_nI (by omega) (by decide)
        rw [hjc]
        exact ev_iret rfl rfl rfl (ev _ (by unfold s_told; simp_all))
      refine ⟨fun c15_4 => ?_, fun c15_4 => ?_⟩
      · refine ev_blk 5 [vp_in (nI j) 10] 117 ([some (.ref 0), some (.int (nI j)), some (.int (wh))], [.int ((σ 6) (nI j).toNatClampNeg)], σ) rfl ?_ ?_
        · exact vp_in_nI (by omega) (by decide)
        rw [hjc]
        exact ev_iret rfl rfl rfl (ev _ (by unfold s_told; simp_all))
      refine ⟨fun c15_5 => ?_, fun c15_5 => ?_⟩
      · refine ev_blk 5 [vp_in (nI j) 10] 127 ([some (.ref 0), some (.int (nI j)), some (.int (wh))], [.int ((σ 7) (nI j).toNatClampNeg)], σ) rfl ?_ ?_
        · exact vp_in_nI (by omega) (by decide)
        rw [hjc]
        exact ev_iret rfl rfl rfl (ev _ (by unfold s_told; simp_all))
      refine ⟨fun c15_6 => ?_, fun c15_6 => ?_⟩
      · refine ev_blk 3 [] 133 ([some (.ref 0), some (.int (nI j)), some (.int (wh))], [.int (nI j), .ref 1], σ) rfl ?_ ?_
        · trivial
        refine ev_callV M_X3_isWaiting [.int (nI j)] [] 1 rfl rfl ln_X5_122 k_X3_isWaiting rfl rfl rfl rfl rfl rfl (c_isWaiting _ _) ?_
        refine pu_k ?_
        show xEv _ _ _ 136 ([some (.ref 0), some (.int (nI j)), some (.int (wh))], [.int (zi (iSh σ (nI j) ∧ ¬ (σ 1 1 >>> ((nI j) &&& 31)) &&& 1 = 0))], σ)
        refine ev_br 0 [] ((zi (iSh σ (nI j) ∧ ¬ (σ 1 1 >>> ((nI j) &&& 31)) &&& 1 = 0)) = 0) 143 139 ([some (.ref 0), some (.int (nI j)), some (.int (wh))], [], σ) rfl ?_ (fun c136 => ?_) (fun c136 => ?_)
        · trivial
        · replace c136 := zi_0.mp c136
          refine ev_blk 3 [] 148 ([some (.ref 0), some (.int (nI j)), some (.int (wh))], [.int (nI j), .ref 1], σ) rfl ?_ ?_
          · trivial
          refine ev_callV M_X3_isGone [.int (nI j)] [] 1 rfl rfl ln_X5_125 k_X3_isGone rfl rfl rfl rfl rfl rfl (c_isGone _ _) ?_
          refine pu_k ?_
          show xEv _ _ _ 151 ([some (.ref 0), some (.int (nI j)), some (.int (wh))], [.int (zi (iSh σ (nI j) ∧ ¬ (σ 1 2 >>> ((nI j) &&& 31)) &&& 1 = 0))], σ)
          refine ev_br 0 [] ((zi (iSh σ (nI j) ∧ ¬ (σ 1 2 >>> ((nI j) &&& 31)) &&& 1 = 0)) = 0) 158 154 ([some (.ref 0), some (.int (nI j)), some (.int (wh))], [], σ) rfl ?_ (fun c151 => ?_) (fun c151 => ?_)
          · trivial
          · replace c151 := zi_0.mp c151
            refine ev_blk 1 [] 159 ([some (.ref 0), some (.int (nI j)), some (.int (wh))], [.int ((2 : Int32))], σ) rfl ?_ ?_
            · trivial
            exact ev_iret rfl rfl rfl (ev _ (by rw [c15_6]; unfold s_told s_st; rw [if_neg (fun q => c136 (hw.mpr ⟨hjn, q⟩)), if_neg (fun q => c151 (hg.mpr ⟨hjn, q⟩))]; rfl))
          · replace c151 := zi_1.mp c151
            refine ev_blk 2 [] 159 ([some (.ref 0), some (.int (nI j)), some (.int (wh))], [.int ((1 : Int32))], σ) rfl ?_ ?_
            · trivial
            exact ev_iret rfl rfl rfl (ev _ (by rw [c15_6]; unfold s_told s_st; rw [if_neg (fun q => c136 (hw.mpr ⟨hjn, q⟩)), if_pos (hg.mp c151).2]; rfl))
        · replace c136 := zi_1.mp c136
          refine ev_blk 2 [] 159 ([some (.ref 0), some (.int (nI j)), some (.int (wh))], [.int ((0 : Int32))], σ) rfl ?_ ?_
          · trivial
          exact ev_iret rfl rfl rfl (ev _ (by rw [c15_6]; unfold s_told s_st; rw [if_pos (hw.mp c136).2]; rfl))
      refine ⟨fun c15_7 => ?_, fun c15_7 => ?_⟩
      · refine ev_blk 3 [] 165 ([some (.ref 0), some (.int (nI j)), some (.int (wh))], [.int (nI j), .ref 1], σ) rfl ?_ ?_
        · trivial
        refine ev_callV M_X3_span [.int (nI j)] [] 1 rfl rfl ln_X5_128 k_X3_span rfl rfl rfl rfl rfl rfl (c_span _ _ ⟨nI_pos (by omega), nI_lt (b := 10) (by omega) (by omega)⟩) ?_
        refine pu_k ?_
        show xEv _ _ _ 168 ([some (.ref 0), some (.int (nI j)), some (.int (wh))], [.int (s_span (σ 2) (σ 3) (nI j).toNatClampNeg)], σ)
        rw [hjc]
        exact ev_iret rfl rfl rfl (ev _ (by unfold s_told; simp_all))
      refine ⟨fun c15_8 => ?_, fun c15_8 => ?_⟩
      · refine ev_blk 3 [] 174 ([some (.ref 0), some (.int (nI j)), some (.int (wh))], [.int (nI j), .ref 1], σ) rfl ?_ ?_
        · trivial
        refine ev_callV M_X3_rank [.int (nI j)] [] 1 rfl rfl ln_X5_131 k_X3_rank rfl rfl rfl rfl rfl rfl (c_rank _ _ ⟨nI_pos (by omega), nI_lt (b := 10) (by omega) (by omega)⟩) ?_
        refine pu_k ?_
        show xEv _ _ _ 177 ([some (.ref 0), some (.int (nI j)), some (.int (wh))], [.int (s_rank (σ 2) (σ 4) (nI j).toNatClampNeg)], σ)
        rw [hjc]
        exact ev_iret rfl rfl rfl (ev _ (by unfold s_told; simp_all))
      refine ⟨fun c15_9 => ?_, fun c15_9 => ?_⟩
      · refine ev_blk 5 [vp_in (nI j) 10] 187 ([some (.ref 0), some (.int (nI j)), some (.int (wh))], [.int ((σ 8) (nI j).toNatClampNeg)], σ) rfl ?_ ?_
        · exact vp_in_nI (by omega) (by decide)
        rw [hjc]
        exact ev_iret rfl rfl rfl (ev _ (by unfold s_told; simp_all))
      show xEv _ _ _ 188 ([some (.ref 0), some (.int (nI j)), some (.int (wh))], [], σ)
      refine ev_blk 1 [] 190 ([some (.ref 0), some (.int (nI j)), some (.int (wh))], [.int ((-2 : Int32))], σ) rfl ?_ ?_
      · trivial
      exact ev_iret rfl rfl rfl (ev _ (by unfold s_told; simp_all))
    · exact absurd hsh (zi_n.mp c8)
  · refine ev_blk 3 [] 5 ([some (.ref 0), some (.int (x)), some (.int (wh))], [.int (x), .ref 1], σ) rfl ?_ ?_
    · trivial
    refine ev_callV M_X3_isShip [.int (x)] [] 1 rfl rfl ln_X5_119 k_X3_isShip rfl rfl rfl rfl rfl rfl (c_isShip _ _) ?_
    refine pu_k ?_
    show xEv _ _ _ 8 ([some (.ref 0), some (.int (x)), some (.int (wh))], [.int (zi (iSh σ x))], σ)
    refine ev_br 0 [] (¬ (zi (iSh σ x)) = 0) 14 11 ([some (.ref 0), some (.int (x)), some (.int (wh))], [], σ) rfl ?_ (fun c8 => ?_) (fun c8 => ?_)
    · trivial
    · exact absurd ((iSh_iN hn hn10).mp (zi_1.mp c8)) hx
    · replace c8 := zi_n.mp c8
      refine ev_blk 1 [] 13 ([some (.ref 0), some (.int (x)), some (.int (wh))], [.int ((-2 : Int32))], σ) rfl ?_ ?_
      · trivial
      exact ev_iret rfl rfl rfl (pu_v (by rw [s_tld, if_neg hx]))
def s_lane (A B : List Nat) (l i : Int32) : Int32 := if l = 0 then s_nth A i else if l = 1 then s_nth B i else -2
set_option maxRecDepth 100000 in
theorem c_lane (σ : xSg) (n : Nat) (hn : σ 1 0 = nI n) (hn10 : n ≤ 10) (l i : Int32) : xCtr M_X5_lane [.ref 0, .int (l), .int (i)] σ (fun r σ1 => r = some (.int (s_lane (laneL n (σ 1 1) (σ 7) 0) (laneL n (σ 1 1) (σ 7) 1) l i)) ∧ σ1 = σ) := by
  refine ctr_ev ok_X5_lane (by decide +kernel) rfl rfl rfl ?_
  show xEv (.inl 3) M_X5_lane _ 0 ([some (.ref 0), some (.int (l)), some (.int (i))], [], σ)
  refine ev_blk 1 [] 1 ([some (.ref 0), some (.int (l)), some (.int (i))], [.int (l)], σ) rfl ?_ ?_
  · trivial
  refine ev_callS M_X5_isLane [.int (l)] [] rfl rfl ln_X5_57 k_X5_isLane rfl rfl rfl (c_isLane _ _) ?_
  refine pu_k ?_
  show xEv _ _ _ 4 ([some (.ref 0), some (.int (l)), some (.int (i))], [.int (zi (¬ l < 0 ∧ ¬ (2 : Int32) ≤ l))], σ)
  refine ev_br 0 [] (¬ (zi (¬ l < 0 ∧ ¬ (2 : Int32) ≤ l)) = 0) 12 7 ([some (.ref 0), some (.int (l)), some (.int (i))], [], σ) rfl ?_ (fun c4 => ?_) (fun c4 => ?_)
  · trivial
  · replace c4 := zi_1.mp c4
    refine ev_blk 4 [] 18 ([some (.ref 0), some (.int (l)), some (.int (i))], [.int (i), .int (l), .ref 1], σ) rfl ?_ ?_
    · trivial
    refine ev_callV M_X3_waiter [.int (l), .int (i)] [] 1 rfl rfl ln_X5_134 k_X3_waiter rfl rfl rfl rfl rfl rfl (c_waiter σ n _ hn10 hn _) ?_
    refine pu_k ?_
    show xEv _ _ _ 21 ([some (.ref 0), some (.int (l)), some (.int (i))], [.int (s_nth ((List.range 10).filter (s_lnp n (σ 1 1) (σ 7) l)) i)], σ)
    obtain ⟨j, hj, rfl⟩ := nI_of c4.1
    rcases (show j = 0 ∨ j = 1 by have := mt (fun z => nI_le (a := 2) (b := j) z hj) c4.2; omega) with rfl | rfl
    · exact ev_iret rfl rfl rfl (pu_v rfl)
    · exact ev_iret rfl rfl rfl (pu_v rfl)
  · replace c4 := zi_n.mp c4
    refine ev_blk 2 [] 21 ([some (.ref 0), some (.int (l)), some (.int (i))], [.int ((-2 : Int32))], σ) rfl ?_ ?_
    · trivial
    exact ev_iret rfl rfl rfl (pu_v (by rw [s_lane, if_neg (fun q => c4 (by rw [q]; decide)), if_neg (fun q => c4 (by rw [q]; decide))]))
end
section
theorem b_and1 {x : Int32} {j : Nat} (hj : j < 32) : (x >>> (nI j &&& 31)) &&& 1 = zi (bt x j = true) := by
  cases hb : bt x j with
  | false => rw [zi_f (by simp)]; exact (b_tst hj).mpr hb
  | true =>
    rw [zi_t rfl]
    refine b_ext (fun i hi => ?_)
    rw [b_and, b_one i hi]
    by_cases h0 : i = 0
    · subst h0
      rw [b_sshr j hj x (by decide), if_pos (by omega), Nat.add_zero, hb]
      rfl
    · simp [h0]
/-- the class's object and the keep's: nothing has changed but these cells and these places -/
def xFc (S P0 P1 : List Nat) (σ σ' : xSg) : Prop := (∀ c, c ∉ S → c ≠ 0 → c ≠ 1 → σ' c = σ c) ∧ (∀ i, i ∉ P0 → σ' 0 i = σ 0 i) ∧ ∀ i, i ∉ P1 → σ' 1 i = σ 1 i
theorem xFc.rf {S P0 P1 : List Nat} {σ : xSg} : xFc S P0 P1 σ σ := ⟨fun _ _ _ _ => rfl, fun _ _ => rfl, fun _ _ => rfl⟩
theorem xFc.tr {S P0 P1 : List Nat} {σ σ1 σ2 : xSg} (h1 : xFc S P0 P1 σ σ1) (h2 : xFc S P0 P1 σ1 σ2) : xFc S P0 P1 σ σ2 := ⟨fun c a b d => (h2.1 c a b d).trans (h1.1 c a b d), fun i a => (h2.2.1 i a).trans (h1.2.1 i a), fun i a => (h2.2.2 i a).trans (h1.2.2 i a)⟩
def barV (x : Int32) (q : Nat) (is : Int32) : Int32 := if is = 0 then x &&& ((1 : Int32) <<< (nI q &&& 31) ^^^ (-1 : Int32)) else x ||| (1 : Int32) <<< (nI q &&& 31)
def barC (σ : xSg) (rw pl is : Int32) : Option Value → xSg → Prop := fun r σ' =>
  (∃ R q, R < 3 ∧ q < 20 ∧ rw = nI R ∧ pl = nI q ∧ r = some (.int (zi (bt (σ 10 R) q = true))) ∧ σ' = x_up σ 10 (upd (σ 10) R (barV (σ 10 R) q is))) ∨ ((∀ R q, R < 3 → q < 20 → rw = nI R → pl = nI q → False) ∧ r = some (.int (-2)) ∧ σ' = σ)
set_option maxRecDepth 100000 in
theorem c_bar (σ : xSg) (rw pl is : Int32) : xCtr M_X5_bar [.ref 0, .int (rw), .int (pl), .int (is)] σ (barC σ rw pl is) := by
  refine ctr_ev ok_X5_bar (by decide +kernel) rfl rfl rfl ?_
  show xEv (.inl 0) M_X5_bar _ 0 ([some (.ref 0), some (.int (rw)), some (.int (pl)), some (.int (is)), none], [], σ)
  refine ev_br 1 [] (rw < 0) 19 4 ([some (.ref 0), some (.int (rw)), some (.int (pl)), some (.int (is)), none], [], σ) rfl ?_ (fun c1 => ?_) (fun c1 => ?_)
  · trivial
  · refine ev_blk 1 [] 21 ([some (.ref 0), some (.int (rw)), some (.int (pl)), some (.int (is)), none], [.int ((-2 : Int32))], σ) rfl ?_ ?_
    · trivial
    exact ev_iret rfl rfl rfl (Or.inr ⟨fun R q hR hq e1 e2 => by subst e1; subst e2; exact absurd c1 (nI_pos (by omega)), rfl, rfl⟩)
  · refine ev_br 2 [] ((3 : Int32) ≤ rw) 19 9 ([some (.ref 0), some (.int (rw)), some (.int (pl)), some (.int (is)), none], [], σ) rfl ?_ (fun c6 => ?_) (fun c6 => ?_)
    · trivial
    · refine ev_blk 1 [] 21 ([some (.ref 0), some (.int (rw)), some (.int (pl)), some (.int (is)), none], [.int ((-2 : Int32))], σ) rfl ?_ ?_
      · trivial
      exact ev_iret rfl rfl rfl (Or.inr ⟨fun R q hR hq e1 e2 => by subst e1; subst e2; exact absurd c6 (nI_ge (b := 3) hR (by decide)), rfl, rfl⟩)
    · refine ev_br 1 [] (pl < 0) 19 13 ([some (.ref 0), some (.int (rw)), some (.int (pl)), some (.int (is)), none], [], σ) rfl ?_ (fun c10 => ?_) (fun c10 => ?_)
      · trivial
      · refine ev_blk 1 [] 21 ([some (.ref 0), some (.int (rw)), some (.int (pl)), some (.int (is)), none], [.int ((-2 : Int32))], σ) rfl ?_ ?_
        · trivial
        exact ev_iret rfl rfl rfl (Or.inr ⟨fun R q hR hq e1 e2 => by subst e1; subst e2; exact absurd c10 (nI_pos (by omega)), rfl, rfl⟩)
      · refine ev_br 2 [] (pl < (20 : Int32)) 22 19 ([some (.ref 0), some (.int (rw)), some (.int (pl)), some (.int (is)), none], [], σ) rfl ?_ (fun c16 => ?_) (fun c16 => ?_)
        · trivial
        · obtain ⟨R, hR0, rfl⟩ := nI_of c1
          obtain ⟨q, hq0, rfl⟩ := nI_of c10
          have hR : R < 3 := Nat.lt_of_not_le (fun z => c6 (nI_le (a := 3) z hR0))
          have hq : q < 20 := (nI_ltI (b := 20) hq0 (by decide)).mp c16
          have hRc : (nI R).toNatClampNeg = R := nI_clamp hR0
          have hin : vp_in (nI R) 3 := vp_in_nI hR (by decide)
          have hwas := b_and1 (x := σ 10 R) (j := q) (by omega)
          refine ev_br 11 [vp_in (nI R) 3] (is = 0) 59 41 ([some (.ref 0), some (.int (nI R)), some (.int (nI q)), some (.int (is)), some (.int ((((σ 10) (nI R).toNatClampNeg) >>> ((nI q) &&& 31)) &&& (1 : Int32)))], [], σ) rfl ?_ (fun c38 => ?_) (fun c38 => ?_)
          · exact hin
          · rw [hRc]
            refine ev_blk 14 [vp_in (nI R) 3, vp_in (nI R) 3] 78 ([some (.ref 0), some (.int (nI R)), some (.int (nI q)), some (.int (is)), some (.int ((((σ 10) R) >>> ((nI q) &&& 31)) &&& (1 : Int32)))], [.int ((((σ 10) R) >>> ((nI q) &&& 31)) &&& (1 : Int32))], (x_up σ 10 (upd (σ 10) (nI R).toNatClampNeg (((σ 10) (nI R).toNatClampNeg) &&& (((1 : Int32) <<< ((nI q) &&& 31)) ^^^ (-1 : Int32)))))) rfl ?_ ?_
            · exact ⟨hin, hin⟩
            rw [hRc]
            exact ev_iret rfl rfl rfl (Or.inl ⟨R, q, hR, hq, rfl, rfl, by rw [hwas], by rw [barV, if_pos c38]⟩)
          · rw [hRc]
            refine ev_blk 13 [vp_in (nI R) 3, vp_in (nI R) 3] 78 ([some (.ref 0), some (.int (nI R)), some (.int (nI q)), some (.int (is)), some (.int ((((σ 10) R) >>> ((nI q) &&& 31)) &&& (1 : Int32)))], [.int ((((σ 10) R) >>> ((nI q) &&& 31)) &&& (1 : Int32))], (x_up σ 10 (upd (σ 10) (nI R).toNatClampNeg (((σ 10) (nI R).toNatClampNeg) ||| ((1 : Int32) <<< ((nI q) &&& 31)))))) rfl ?_ ?_
            · exact ⟨hin, hin⟩
            rw [hRc]
            exact ev_iret rfl rfl rfl (Or.inl ⟨R, q, hR, hq, rfl, rfl, by rw [hwas], by rw [barV, if_neg c38]⟩)
        · refine ev_blk 1 [] 21 ([some (.ref 0), some (.int (rw)), some (.int (pl)), some (.int (is)), none], [.int ((-2 : Int32))], σ) rfl ?_ ?_
          · trivial
          exact ev_iret rfl rfl rfl (Or.inr ⟨fun R q hR hq e1 e2 => by subst e1; subst e2; exact c16 (nI_lt (b := 20) hq (by decide)), rfl, rfl⟩)
abbrev s_und (j k : Int32) : Prop := k = 0 ∨ j = k ∨ (k = 1 ∧ (j = 2 ∨ j = 5)) ∨ (k = 3 ∧ j = 4)
def s_tak (n : Nat) (a : sAt) (x k : Int32) : Int32 := if iN n x ∧ ¬ k < 0 ∧ ¬ 5 < k then (if s_und (aK a x.toNatClampNeg) k then aLn a x.toNatClampNeg else -13) else -2
set_option maxRecDepth 100000 in
theorem c_isUnder0 (σ : xSg) (k : Int32) (hk : ¬ k < 0 ∧ ¬ 5 < k) : xCtr M_X5_isUnder [.int ((0 : Int32)), .int (k)] σ (fun r σ1 => r = some (.int (zi (s_und (0 : Int32) k))) ∧ σ1 = σ) := by
  refine ctr_ev ok_X5_isUnder (by decide +kernel) rfl rfl rfl ?_
  show xEv (.inl 1) M_X5_isUnder _ 0 ([some (.int ((0 : Int32))), some (.int (k)), none, none], [], σ)
  refine ev_br 7 [] ((6 : Int32) ≤ (0 : Int32)) 38 12 ([some (.int ((0 : Int32))), some (.int (k)), some (.int ((0 : Int32))), some (.int ((0 : Int32)))], [], σ) rfl ?_ (fun c9 => ?_) (fun c9 => ?_)
  · trivial
  · exact absurd c9 (by decide)
  · refine ev_blk 1 [] 13 ([some (.int ((0 : Int32))), some (.int (k)), some (.int ((0 : Int32))), some (.int ((0 : Int32)))], [.int ((0 : Int32))], σ) rfl ?_ ?_
    · trivial
    refine ev_callS M_X5_isKind [.int ((0 : Int32))] [] rfl rfl ln_X5_61 k_X5_isKind rfl rfl rfl (c_isKind _ _) ?_
    refine pu_k ?_
    rw [zi_t (show ¬ ((0 : Int32)) < 0 ∧ ¬ (5 : Int32) < ((0 : Int32)) by decide)]
    show xEv _ _ _ 16 ([some (.int ((0 : Int32))), some (.int (k)), some (.int ((0 : Int32))), some (.int ((0 : Int32)))], [.int ((1 : Int32))], σ)
    refine ev_br 0 [] ((1 : Int32) = 0) 38 19 ([some (.int ((0 : Int32))), some (.int (k)), some (.int ((0 : Int32))), some (.int ((0 : Int32)))], [], σ) rfl ?_ (fun c16 => ?_) (fun c16 => ?_)
    · trivial
    · exact absurd c16 (by decide)
    · refine ev_br 2 [] (¬ (0 : Int32) = k) 26 24 ([some (.int ((0 : Int32))), some (.int (k)), some (.int ((0 : Int32))), some (.int ((0 : Int32)))], [], σ) rfl ?_ (fun c21 => ?_) (fun c21 => ?_)
      · trivial
      · refine ev_br 9 [vp_in ((0 : Int32)) 6] ((6 : Int32) ≤ (1 : Int32)) 38 12 ([some (.int ((0 : Int32))), some (.int (k)), some (.int ((-1 : Int32))), some (.int ((1 : Int32)))], [], σ) rfl ?_ (fun c9 => ?_) (fun c9 => ?_)
        · exact vp_in_nI (n := 0) (by decide) (by decide)
        · exact absurd c9 (by decide)
        · refine ev_blk 1 [] 13 ([some (.int ((0 : Int32))), some (.int (k)), some (.int ((-1 : Int32))), some (.int ((1 : Int32)))], [.int ((-1 : Int32))], σ) rfl ?_ ?_
          · trivial
          refine ev_callS M_X5_isKind [.int ((-1 : Int32))] [] rfl rfl ln_X5_61 k_X5_isKind rfl rfl rfl (c_isKind _ _) ?_
          refine pu_k ?_
          rw [zi_f (show ¬ (¬ ((-1 : Int32)) < 0 ∧ ¬ (5 : Int32) < ((-1 : Int32))) by decide)]
          show xEv _ _ _ 16 ([some (.int ((0 : Int32))), some (.int (k)), some (.int ((-1 : Int32))), some (.int ((1 : Int32)))], [.int ((0 : Int32))], σ)
          refine ev_br 0 [] ((0 : Int32) = 0) 38 19 ([some (.int ((0 : Int32))), some (.int (k)), some (.int ((-1 : Int32))), some (.int ((1 : Int32)))], [], σ) rfl ?_ (fun c16 => ?_) (fun c16 => ?_)
          · trivial
          · refine ev_blk 1 [] 39 ([some (.int ((0 : Int32))), some (.int (k)), some (.int ((-1 : Int32))), some (.int ((1 : Int32)))], [.int ((0 : Int32))], σ) rfl ?_ ?_
            · trivial
            exact ev_iret rfl rfl nar0 (pu_f (by rintro (q | q | ⟨q, _⟩ | ⟨q, _⟩) <;> subst q <;> simp_all))
          · exact absurd (by decide) c16
      · refine ev_blk 1 [] 25 ([some (.int ((0 : Int32))), some (.int (k)), some (.int ((0 : Int32))), some (.int ((0 : Int32)))], [.int ((1 : Int32))], σ) rfl ?_ ?_
        · trivial
        exact ev_iret rfl rfl nar1 (pu_t (by have e := Classical.byContradiction c21; subst e; decide))
set_option maxRecDepth 100000 in
theorem c_isUnder1 (σ : xSg) (k : Int32) (hk : ¬ k < 0 ∧ ¬ 5 < k) : xCtr M_X5_isUnder [.int ((1 : Int32)), .int (k)] σ (fun r σ1 => r = some (.int (zi (s_und (1 : Int32) k))) ∧ σ1 = σ) := by
  refine ctr_ev ok_X5_isUnder (by decide +kernel) rfl rfl rfl ?_
  show xEv (.inl 1) M_X5_isUnder _ 0 ([some (.int ((1 : Int32))), some (.int (k)), none, none], [], σ)
  refine ev_br 7 [] ((6 : Int32) ≤ (0 : Int32)) 38 12 ([some (.int ((1 : Int32))), some (.int (k)), some (.int ((1 : Int32))), some (.int ((0 : Int32)))], [], σ) rfl ?_ (fun c9 => ?_) (fun c9 => ?_)
  · trivial
  · exact absurd c9 (by decide)
  · refine ev_blk 1 [] 13 ([some (.int ((1 : Int32))), some (.int (k)), some (.int ((1 : Int32))), some (.int ((0 : Int32)))], [.int ((1 : Int32))], σ) rfl ?_ ?_
    · trivial
    refine ev_callS M_X5_isKind [.int ((1 : Int32))] [] rfl rfl ln_X5_61 k_X5_isKind rfl rfl rfl (c_isKind _ _) ?_
    refine pu_k ?_
    rw [zi_t (show ¬ ((1 : Int32)) < 0 ∧ ¬ (5 : Int32) < ((1 : Int32)) by decide)]
    show xEv _ _ _ 16 ([some (.int ((1 : Int32))), some (.int (k)), some (.int ((1 : Int32))), some (.int ((0 : Int32)))], [.int ((1 : Int32))], σ)
    refine ev_br 0 [] ((1 : Int32) = 0) 38 19 ([some (.int ((1 : Int32))), some (.int (k)), some (.int ((1 : Int32))), some (.int ((0 : Int32)))], [], σ) rfl ?_ (fun c16 => ?_) (fun c16 => ?_)
    · trivial
    · exact absurd c16 (by decide)
    · refine ev_br 2 [] (¬ (1 : Int32) = k) 26 24 ([some (.int ((1 : Int32))), some (.int (k)), some (.int ((1 : Int32))), some (.int ((0 : Int32)))], [], σ) rfl ?_ (fun c21 => ?_) (fun c21 => ?_)
      · trivial
      · refine ev_br 9 [vp_in ((1 : Int32)) 6] ((6 : Int32) ≤ (1 : Int32)) 38 12 ([some (.int ((1 : Int32))), some (.int (k)), some (.int ((0 : Int32))), some (.int ((1 : Int32)))], [], σ) rfl ?_ (fun c9 => ?_) (fun c9 => ?_)
        · exact vp_in_nI (n := 1) (by decide) (by decide)
        · exact absurd c9 (by decide)
        · refine ev_blk 1 [] 13 ([some (.int ((1 : Int32))), some (.int (k)), some (.int ((0 : Int32))), some (.int ((1 : Int32)))], [.int ((0 : Int32))], σ) rfl ?_ ?_
          · trivial
          refine ev_callS M_X5_isKind [.int ((0 : Int32))] [] rfl rfl ln_X5_61 k_X5_isKind rfl rfl rfl (c_isKind _ _) ?_
          refine pu_k ?_
          rw [zi_t (show ¬ ((0 : Int32)) < 0 ∧ ¬ (5 : Int32) < ((0 : Int32)) by decide)]
          show xEv _ _ _ 16 ([some (.int ((1 : Int32))), some (.int (k)), some (.int ((0 : Int32))), some (.int ((1 : Int32)))], [.int ((1 : Int32))], σ)
          refine ev_br 0 [] ((1 : Int32) = 0) 38 19 ([some (.int ((1 : Int32))), some (.int (k)), some (.int ((0 : Int32))), some (.int ((1 : Int32)))], [], σ) rfl ?_ (fun c16 => ?_) (fun c16 => ?_)
          · trivial
          · exact absurd c16 (by decide)
          · refine ev_br 2 [] (¬ (0 : Int32) = k) 26 24 ([some (.int ((1 : Int32))), some (.int (k)), some (.int ((0 : Int32))), some (.int ((1 : Int32)))], [], σ) rfl ?_ (fun c21 => ?_) (fun c21 => ?_)
            · trivial
            · refine ev_br 9 [vp_in ((0 : Int32)) 6] ((6 : Int32) ≤ (2 : Int32)) 38 12 ([some (.int ((1 : Int32))), some (.int (k)), some (.int ((-1 : Int32))), some (.int ((2 : Int32)))], [], σ) rfl ?_ (fun c9 => ?_) (fun c9 => ?_)
              · exact vp_in_nI (n := 0) (by decide) (by decide)
              · exact absurd c9 (by decide)
              · refine ev_blk 1 [] 13 ([some (.int ((1 : Int32))), some (.int (k)), some (.int ((-1 : Int32))), some (.int ((2 : Int32)))], [.int ((-1 : Int32))], σ) rfl ?_ ?_
                · trivial
                refine ev_callS M_X5_isKind [.int ((-1 : Int32))] [] rfl rfl ln_X5_61 k_X5_isKind rfl rfl rfl (c_isKind _ _) ?_
                refine pu_k ?_
                rw [zi_f (show ¬ (¬ ((-1 : Int32)) < 0 ∧ ¬ (5 : Int32) < ((-1 : Int32))) by decide)]
                show xEv _ _ _ 16 ([some (.int ((1 : Int32))), some (.int (k)), some (.int ((-1 : Int32))), some (.int ((2 : Int32)))], [.int ((0 : Int32))], σ)
                refine ev_br 0 [] ((0 : Int32) = 0) 38 19 ([some (.int ((1 : Int32))), some (.int (k)), some (.int ((-1 : Int32))), some (.int ((2 : Int32)))], [], σ) rfl ?_ (fun c16 => ?_) (fun c16 => ?_)
                · trivial
                · refine ev_blk 1 [] 39 ([some (.int ((1 : Int32))), some (.int (k)), some (.int ((-1 : Int32))), some (.int ((2 : Int32)))], [.int ((0 : Int32))], σ) rfl ?_ ?_
                  · trivial
                  exact ev_iret rfl rfl nar0 (pu_f (by rintro (q | q | ⟨q, _⟩ | ⟨q, _⟩) <;> subst q <;> simp_all))
                · exact absurd (by decide) c16
            · refine ev_blk 1 [] 25 ([some (.int ((1 : Int32))), some (.int (k)), some (.int ((0 : Int32))), some (.int ((1 : Int32)))], [.int ((1 : Int32))], σ) rfl ?_ ?_
              · trivial
              exact ev_iret rfl rfl nar1 (pu_t (by have e := Classical.byContradiction c21; subst e; decide))
      · refine ev_blk 1 [] 25 ([some (.int ((1 : Int32))), some (.int (k)), some (.int ((1 : Int32))), some (.int ((0 : Int32)))], [.int ((1 : Int32))], σ) rfl ?_ ?_
        · trivial
        exact ev_iret rfl rfl nar1 (pu_t (by have e := Classical.byContradiction c21; subst e; decide))
set_option maxRecDepth 100000 in
theorem c_isUnder2 (σ : xSg) (k : Int32) (hk : ¬ k < 0 ∧ ¬ 5 < k) : xCtr M_X5_isUnder [.int ((2 : Int32)), .int (k)] σ (fun r σ1 => r = some (.int (zi (s_und (2 : Int32) k))) ∧ σ1 = σ) := by
  refine ctr_ev ok_X5_isUnder (by decide +kernel) rfl rfl rfl ?_
  show xEv (.inl 1) M_X5_isUnder _ 0 ([some (.int ((2 : Int32))), some (.int (k)), none, none], [], σ)
  refine ev_br 7 [] ((6 : Int32) ≤ (0 : Int32)) 38 12 ([some (.int ((2 : Int32))), some (.int (k)), some (.int ((2 : Int32))), some (.int ((0 : Int32)))], [], σ) rfl ?_ (fun c9 => ?_) (fun c9 => ?_)
  · trivial
  · exact absurd c9 (by decide)
  · refine ev_blk 1 [] 13 ([some (.int ((2 : Int32))), some (.int (k)), some (.int ((2 : Int32))), some (.int ((0 : Int32)))], [.int ((2 : Int32))], σ) rfl ?_ ?_
    · trivial
    refine ev_callS M_X5_isKind [.int ((2 : Int32))] [] rfl rfl ln_X5_61 k_X5_isKind rfl rfl rfl (c_isKind _ _) ?_
    refine pu_k ?_
    rw [zi_t (show ¬ ((2 : Int32)) < 0 ∧ ¬ (5 : Int32) < ((2 : Int32)) by decide)]
    show xEv _ _ _ 16 ([some (.int ((2 : Int32))), some (.int (k)), some (.int ((2 : Int32))), some (.int ((0 : Int32)))], [.int ((1 : Int32))], σ)
    refine ev_br 0 [] ((1 : Int32) = 0) 38 19 ([some (.int ((2 : Int32))), some (.int (k)), some (.int ((2 : Int32))), some (.int ((0 : Int32)))], [], σ) rfl ?_ (fun c16 => ?_) (fun c16 => ?_)
    · trivial
    · exact absurd c16 (by decide)
    · refine ev_br 2 [] (¬ (2 : Int32) = k) 26 24 ([some (.int ((2 : Int32))), some (.int (k)), some (.int ((2 : Int32))), some (.int ((0 : Int32)))], [], σ) rfl ?_ (fun c21 => ?_) (fun c21 => ?_)
      · trivial
      · refine ev_br 9 [vp_in ((2 : Int32)) 6] ((6 : Int32) ≤ (1 : Int32)) 38 12 ([some (.int ((2 : Int32))), some (.int (k)), some (.int ((1 : Int32))), some (.int ((1 : Int32)))], [], σ) rfl ?_ (fun c9 => ?_) (fun c9 => ?_)
        · exact vp_in_nI (n := 2) (by decide) (by decide)
        · exact absurd c9 (by decide)
        · refine ev_blk 1 [] 13 ([some (.int ((2 : Int32))), some (.int (k)), some (.int ((1 : Int32))), some (.int ((1 : Int32)))], [.int ((1 : Int32))], σ) rfl ?_ ?_
          · trivial
          refine ev_callS M_X5_isKind [.int ((1 : Int32))] [] rfl rfl ln_X5_61 k_X5_isKind rfl rfl rfl (c_isKind _ _) ?_
          refine pu_k ?_
          rw [zi_t (show ¬ ((1 : Int32)) < 0 ∧ ¬ (5 : Int32) < ((1 : Int32)) by decide)]
          show xEv _ _ _ 16 ([some (.int ((2 : Int32))), some (.int (k)), some (.int ((1 : Int32))), some (.int ((1 : Int32)))], [.int ((1 : Int32))], σ)
          refine ev_br 0 [] ((1 : Int32) = 0) 38 19 ([some (.int ((2 : Int32))), some (.int (k)), some (.int ((1 : Int32))), some (.int ((1 : Int32)))], [], σ) rfl ?_ (fun c16 => ?_) (fun c16 => ?_)
          · trivial
          · exact absurd c16 (by decide)
          · refine ev_br 2 [] (¬ (1 : Int32) = k) 26 24 ([some (.int ((2 : Int32))), some (.int (k)), some (.int ((1 : Int32))), some (.int ((1 : Int32)))], [], σ) rfl ?_ (fun c21 => ?_) (fun c21 => ?_)
            · trivial
            · refine ev_br 9 [vp_in ((1 : Int32)) 6] ((6 : Int32) ≤ (2 : Int32)) 38 12 ([some (.int ((2 : Int32))), some (.int (k)), some (.int ((0 : Int32))), some (.int ((2 : Int32)))], [], σ) rfl ?_ (fun c9 => ?_) (fun c9 => ?_)
              · exact vp_in_nI (n := 1) (by decide) (by decide)
              · exact absurd c9 (by decide)
              · refine ev_blk 1 [] 13 ([some (.int ((2 : Int32))), some (.int (k)), some (.int ((0 : Int32))), some (.int ((2 : Int32)))], [.int ((0 : Int32))], σ) rfl ?_ ?_
                · trivial
                refine ev_callS M_X5_isKind [.int ((0 : Int32))] [] rfl rfl ln_X5_61 k_X5_isKind rfl rfl rfl (c_isKind _ _) ?_
                refine pu_k ?_
                rw [zi_t (show ¬ ((0 : Int32)) < 0 ∧ ¬ (5 : Int32) < ((0 : Int32)) by decide)]
                show xEv _ _ _ 16 ([some (.int ((2 : Int32))), some (.int (k)), some (.int ((0 : Int32))), some (.int ((2 : Int32)))], [.int ((1 : Int32))], σ)
                refine ev_br 0 [] ((1 : Int32) = 0) 38 19 ([some (.int ((2 : Int32))), some (.int (k)), some (.int ((0 : Int32))), some (.int ((2 : Int32)))], [], σ) rfl ?_ (fun c16 => ?_) (fun c16 => ?_)
                · trivial
                · exact absurd c16 (by decide)
                · refine ev_br 2 [] (¬ (0 : Int32) = k) 26 24 ([some (.int ((2 : Int32))), some (.int (k)), some (.int ((0 : Int32))), some (.int ((2 : Int32)))], [], σ) rfl ?_ (fun c21 => ?_) (fun c21 => ?_)
                  · trivial
                  · refine ev_br 9 [vp_in ((0 : Int32)) 6] ((6 : Int32) ≤ (3 : Int32)) 38 12 ([some (.int ((2 : Int32))), some (.int (k)), some (.int ((-1 : Int32))), some (.int ((3 : Int32)))], [], σ) rfl ?_ (fun c9 => ?_) (fun c9 => ?_)
                    · exact vp_in_nI (n := 0) (by decide) (by decide)
                    · exact absurd c9 (by decide)
                    · refine ev_blk 1 [] 13 ([some (.int ((2 : Int32))), some (.int (k)), some (.int ((-1 : Int32))), some (.int ((3 : Int32)))], [.int ((-1 : Int32))], σ) rfl ?_ ?_
                      · trivial
                      refine ev_callS M_X5_isKind [.int ((-1 : Int32))] [] rfl rfl ln_X5_61 k_X5_isKind rfl rfl rfl (c_isKind _ _) ?_
                      refine pu_k ?_
                      rw [zi_f (show ¬ (¬ ((-1 : Int32)) < 0 ∧ ¬ (5 : Int32) < ((-1 : Int32))) by decide)]
                      show xEv _ _ _ 16 ([some (.int ((2 : Int32))), some (.int (k)), some (.int ((-1 : Int32))), some (.int ((3 : Int32)))], [.int ((0 : Int32))], σ)
                      refine ev_br 0 [] ((0 : Int32) = 0) 38 19 ([some (.int ((2 : Int32))), some (.int (k)), some (.int ((-1 : Int32))), some (.int ((3 : Int32)))], [], σ) rfl ?_ (fun c16 => ?_) (fun c16 => ?_)
                      · trivial
                      · refine ev_blk 1 [] 39 ([some (.int ((2 : Int32))), some (.int (k)), some (.int ((-1 : Int32))), some (.int ((3 : Int32)))], [.int ((0 : Int32))], σ) rfl ?_ ?_
                        · trivial
                        exact ev_iret rfl rfl nar0 (pu_f (by rintro (q | q | ⟨q, _⟩ | ⟨q, _⟩) <;> subst q <;> simp_all))
                      · exact absurd (by decide) c16
                  · refine ev_blk 1 [] 25 ([some (.int ((2 : Int32))), some (.int (k)), some (.int ((0 : Int32))), some (.int ((2 : Int32)))], [.int ((1 : Int32))], σ) rfl ?_ ?_
                    · trivial
                    exact ev_iret rfl rfl nar1 (pu_t (by have e := Classical.byContradiction c21; subst e; decide))
            · refine ev_blk 1 [] 25 ([some (.int ((2 : Int32))), some (.int (k)), some (.int ((1 : Int32))), some (.int ((1 : Int32)))], [.int ((1 : Int32))], σ) rfl ?_ ?_
              · trivial
              exact ev_iret rfl rfl nar1 (pu_t (by have e := Classical.byContradiction c21; subst e; decide))
      · refine ev_blk 1 [] 25 ([some (.int ((2 : Int32))), some (.int (k)), some (.int ((2 : Int32))), some (.int ((0 : Int32)))], [.int ((1 : Int32))], σ) rfl ?_ ?_
        · trivial
        exact ev_iret rfl rfl nar1 (pu_t (by have e := Classical.byContradiction c21; subst e; decide))
set_option maxRecDepth 100000 in
theorem c_isUnder3 (σ : xSg) (k : Int32) (hk : ¬ k < 0 ∧ ¬ 5 < k) : xCtr M_X5_isUnder [.int ((3 : Int32)), .int (k)] σ (fun r σ1 => r = some (.int (zi (s_und (3 : Int32) k))) ∧ σ1 = σ) := by
  refine ctr_ev ok_X5_isUnder (by decide +kernel) rfl rfl rfl ?_
  show xEv (.inl 1) M_X5_isUnder _ 0 ([some (.int ((3 : Int32))), some (.int (k)), none, none], [], σ)
  refine ev_br 7 [] ((6 : Int32) ≤ (0 : Int32)) 38 12 ([some (.int ((3 : Int32))), some (.int (k)), some (.int ((3 : Int32))), some (.int ((0 : Int32)))], [], σ) rfl ?_ (fun c9 => ?_) (fun c9 => ?_)
  · trivial
  · exact absurd c9 (by decide)
  · refine ev_blk 1 [] 13 ([some (.int ((3 : Int32))), some (.int (k)), some (.int ((3 : Int32))), some (.int ((0 : Int32)))], [.int ((3 : Int32))], σ) rfl ?_ ?_
    · trivial
    refine ev_callS M_X5_isKind [.int ((3 : Int32))] [] rfl rfl ln_X5_61 k_X5_isKind rfl rfl rfl (c_isKind _ _) ?_
    refine pu_k ?_
    rw [zi_t (show ¬ ((3 : Int32)) < 0 ∧ ¬ (5 : Int32) < ((3 : Int32)) by decide)]
    show xEv _ _ _ 16 ([some (.int ((3 : Int32))), some (.int (k)), some (.int ((3 : Int32))), some (.int ((0 : Int32)))], [.int ((1 : Int32))], σ)
    refine ev_br 0 [] ((1 : Int32) = 0) 38 19 ([some (.int ((3 : Int32))), some (.int (k)), some (.int ((3 : Int32))), some (.int ((0 : Int32)))], [], σ) rfl ?_ (fun c16 => ?_) (fun c16 => ?_)
    · trivial
    · exact absurd c16 (by decide)
    · refine ev_br 2 [] (¬ (3 : Int32) = k) 26 24 ([some (.int ((3 : Int32))), some (.int (k)), some (.int ((3 : Int32))), some (.int ((0 : Int32)))], [], σ) rfl ?_ (fun c21 => ?_) (fun c21 => ?_)
      · trivial
      · refine ev_br 9 [vp_in ((3 : Int32)) 6] ((6 : Int32) ≤ (1 : Int32)) 38 12 ([some (.int ((3 : Int32))), some (.int (k)), some (.int ((0 : Int32))), some (.int ((1 : Int32)))], [], σ) rfl ?_ (fun c9 => ?_) (fun c9 => ?_)
        · exact vp_in_nI (n := 3) (by decide) (by decide)
        · exact absurd c9 (by decide)
        · refine ev_blk 1 [] 13 ([some (.int ((3 : Int32))), some (.int (k)), some (.int ((0 : Int32))), some (.int ((1 : Int32)))], [.int ((0 : Int32))], σ) rfl ?_ ?_
          · trivial
          refine ev_callS M_X5_isKind [.int ((0 : Int32))] [] rfl rfl ln_X5_61 k_X5_isKind rfl rfl rfl (c_isKind _ _) ?_
          refine pu_k ?_
          rw [zi_t (show ¬ ((0 : Int32)) < 0 ∧ ¬ (5 : Int32) < ((0 : Int32)) by decide)]
          show xEv _ _ _ 16 ([some (.int ((3 : Int32))), some (.int (k)), some (.int ((0 : Int32))), some (.int ((1 : Int32)))], [.int ((1 : Int32))], σ)
          refine ev_br 0 [] ((1 : Int32) = 0) 38 19 ([some (.int ((3 : Int32))), some (.int (k)), some (.int ((0 : Int32))), some (.int ((1 : Int32)))], [], σ) rfl ?_ (fun c16 => ?_) (fun c16 => ?_)
          · trivial
          · exact absurd c16 (by decide)
          · refine ev_br 2 [] (¬ (0 : Int32) = k) 26 24 ([some (.int ((3 : Int32))), some (.int (k)), some (.int ((0 : Int32))), some (.int ((1 : Int32)))], [], σ) rfl ?_ (fun c21 => ?_) (fun c21 => ?_)
            · trivial
            · refine ev_br 9 [vp_in ((0 : Int32)) 6] ((6 : Int32) ≤ (2 : Int32)) 38 12 ([some (.int ((3 : Int32))), some (.int (k)), some (.int ((-1 : Int32))), some (.int ((2 : Int32)))], [], σ) rfl ?_ (fun c9 => ?_) (fun c9 => ?_)
              · exact vp_in_nI (n := 0) (by decide) (by decide)
              · exact absurd c9 (by decide)
              · refine ev_blk 1 [] 13 ([some (.int ((3 : Int32))), some (.int (k)), some (.int ((-1 : Int32))), some (.int ((2 : Int32)))], [.int ((-1 : Int32))], σ) rfl ?_ ?_
                · trivial
                refine ev_callS M_X5_isKind [.int ((-1 : Int32))] [] rfl rfl ln_X5_61 k_X5_isKind rfl rfl rfl (c_isKind _ _) ?_
                refine pu_k ?_
                rw [zi_f (show ¬ (¬ ((-1 : Int32)) < 0 ∧ ¬ (5 : Int32) < ((-1 : Int32))) by decide)]
                show xEv _ _ _ 16 ([some (.int ((3 : Int32))), some (.int (k)), some (.int ((-1 : Int32))), some (.int ((2 : Int32)))], [.int ((0 : Int32))], σ)
                refine ev_br 0 [] ((0 : Int32) = 0) 38 19 ([some (.int ((3 : Int32))), some (.int (k)), some (.int ((-1 : Int32))), some (.int ((2 : Int32)))], [], σ) rfl ?_ (fun c16 => ?_) (fun c16 => ?_)
                · trivial
                · refine ev_blk 1 [] 39 ([some (.int ((3 : Int32))), some (.int (k)), some (.int ((-1 : Int32))), some (.int ((2 : Int32)))], [.int ((0 : Int32))], σ) rfl ?_ ?_
                  · trivial
                  exact ev_iret rfl rfl nar0 (pu_f (by rintro (q | q | ⟨q, _⟩ | ⟨q, _⟩) <;> subst q <;> simp_all))
                · exact absurd (by decide) c16
            · refine ev_blk 1 [] 25 ([some (.int ((3 : Int32))), some (.int (k)), some (.int ((0 : Int32))), some (.int ((1 : Int32)))], [.int ((1 : Int32))], σ) rfl ?_ ?_
              · trivial
              exact ev_iret rfl rfl nar1 (pu_t (by have e := Classical.byContradiction c21; subst e; decide))
      · refine ev_blk 1 [] 25 ([some (.int ((3 : Int32))), some (.int (k)), some (.int ((3 : Int32))), some (.int ((0 : Int32)))], [.int ((1 : Int32))], σ) rfl ?_ ?_
        · trivial
        exact ev_iret rfl rfl nar1 (pu_t (by have e := Classical.byContradiction c21; subst e; decide))
set_option maxRecDepth 100000 in
theorem c_isUnder4 (σ : xSg) (k : Int32) (hk : ¬ k < 0 ∧ ¬ 5 < k) : xCtr M_X5_isUnder [.int ((4 : Int32)), .int (k)] σ (fun r σ1 => r = some (.int (zi (s_und (4 : Int32) k))) ∧ σ1 = σ) := by
  refine ctr_ev ok_X5_isUnder (by decide +kernel) rfl rfl rfl ?_
  show xEv (.inl 1) M_X5_isUnder _ 0 ([some (.int ((4 : Int32))), some (.int (k)), none, none], [], σ)
  refine ev_br 7 [] ((6 : Int32) ≤ (0 : Int32)) 38 12 ([some (.int ((4 : Int32))), some (.int (k)), some (.int ((4 : Int32))), some (.int ((0 : Int32)))], [], σ) rfl ?_ (fun c9 => ?_) (fun c9 => ?_)
  · trivial
  · exact absurd c9 (by decide)
  · refine ev_blk 1 [] 13 ([some (.int ((4 : Int32))), some (.int (k)), some (.int ((4 : Int32))), some (.int ((0 : Int32)))], [.int ((4 : Int32))], σ) rfl ?_ ?_
    · trivial
    refine ev_callS M_X5_isKind [.int ((4 : Int32))] [] rfl rfl ln_X5_61 k_X5_isKind rfl rfl rfl (c_isKind _ _) ?_
    refine pu_k ?_
    rw [zi_t (show ¬ ((4 : Int32)) < 0 ∧ ¬ (5 : Int32) < ((4 : Int32)) by decide)]
    show xEv _ _ _ 16 ([some (.int ((4 : Int32))), some (.int (k)), some (.int ((4 : Int32))), some (.int ((0 : Int32)))], [.int ((1 : Int32))], σ)
    refine ev_br 0 [] ((1 : Int32) = 0) 38 19 ([some (.int ((4 : Int32))), some (.int (k)), some (.int ((4 : Int32))), some (.int ((0 : Int32)))], [], σ) rfl ?_ (fun c16 => ?_) (fun c16 => ?_)
    · trivial
    · exact absurd c16 (by decide)
    · refine ev_br 2 [] (¬ (4 : Int32) = k) 26 24 ([some (.int ((4 : Int32))), some (.int (k)), some (.int ((4 : Int32))), some (.int ((0 : Int32)))], [], σ) rfl ?_ (fun c21 => ?_) (fun c21 => ?_)
      · trivial
      · refine ev_br 9 [vp_in ((4 : Int32)) 6] ((6 : Int32) ≤ (1 : Int32)) 38 12 ([some (.int ((4 : Int32))), some (.int (k)), some (.int ((3 : Int32))), some (.int ((1 : Int32)))], [], σ) rfl ?_ (fun c9 => ?_) (fun c9 => ?_)
        · exact vp_in_nI (n := 4) (by decide) (by decide)
        · exact absurd c9 (by decide)
        · refine ev_blk 1 [] 13 ([some (.int ((4 : Int32))), some (.int (k)), some (.int ((3 : Int32))), some (.int ((1 : Int32)))], [.int ((3 : Int32))], σ) rfl ?_ ?_
          · trivial
          refine ev_callS M_X5_isKind [.int ((3 : Int32))] [] rfl rfl ln_X5_61 k_X5_isKind rfl rfl rfl (c_isKind _ _) ?_
          refine pu_k ?_
          rw [zi_t (show ¬ ((3 : Int32)) < 0 ∧ ¬ (5 : Int32) < ((3 : Int32)) by decide)]
          show xEv _ _ _ 16 ([some (.int ((4 : Int32))), some (.int (k)), some (.int ((3 : Int32))), some (.int ((1 : Int32)))], [.int ((1 : Int32))], σ)
          refine ev_br 0 [] ((1 : Int32) = 0) 38 19 ([some (.int ((4 : Int32))), some (.int (k)), some (.int ((3 : Int32))), some (.int ((1 : Int32)))], [], σ) rfl ?_ (fun c16 => ?_) (fun c16 => ?_)
          · trivial
          · exact absurd c16 (by decide)
          · refine ev_br 2 [] (¬ (3 : Int32) = k) 26 24 ([some (.int ((4 : Int32))), some (.int (k)), some (.int ((3 : Int32))), some (.int ((1 : Int32)))], [], σ) rfl ?_ (fun c21 => ?_) (fun c21 => ?_)
            · trivial
            · refine ev_br 9 [vp_in ((3 : Int32)) 6] ((6 : Int32) ≤ (2 : Int32)) 38 12 ([some (.int ((4 : Int32))), some (.int (k)), some (.int ((0 : Int32))), some (.int ((2 : Int32)))], [], σ) rfl ?_ (fun c9 => ?_) (fun c9 => ?_)
              · exact vp_in_nI (n := 3) (by decide) (by decide)
              · exact absurd c9 (by decide)
              · refine ev_blk 1 [] 13 ([some (.int ((4 : Int32))), some (.int (k)), some (.int ((0 : Int32))), some (.int ((2 : Int32)))], [.int ((0 : Int32))], σ) rfl ?_ ?_
                · trivial
                refine ev_callS M_X5_isKind [.int ((0 : Int32))] [] rfl rfl ln_X5_61 k_X5_isKind rfl rfl rfl (c_isKind _ _) ?_
                refine pu_k ?_
                rw [zi_t (show ¬ ((0 : Int32)) < 0 ∧ ¬ (5 : Int32) < ((0 : Int32)) by decide)]
                show xEv _ _ _ 16 ([some (.int ((4 : Int32))), some (.int (k)), some (.int ((0 : Int32))), some (.int ((2 : Int32)))], [.int ((1 : Int32))], σ)
                refine ev_br 0 [] ((1 : Int32) = 0) 38 19 ([some (.int ((4 : Int32))), some (.int (k)), some (.int ((0 : Int32))), some (.int ((2 : Int32)))], [], σ) rfl ?_ (fun c16 => ?_) (fun c16 => ?_)
                · trivial
                · exact absurd c16 (by decide)
                · refine ev_br 2 [] (¬ (0 : Int32) = k) 26 24 ([some (.int ((4 : Int32))), some (.int (k)), some (.int ((0 : Int32))), some (.int ((2 : Int32)))], [], σ) rfl ?_ (fun c21 => ?_) (fun c21 => ?_)
                  · trivial
                  · refine ev_br 9 [vp_in ((0 : Int32)) 6] ((6 : Int32) ≤ (3 : Int32)) 38 12 ([some (.int ((4 : Int32))), some (.int (k)), some (.int ((-1 : Int32))), some (.int ((3 : Int32)))], [], σ) rfl ?_ (fun c9 => ?_) (fun c9 => ?_)
                    · exact vp_in_nI (n := 0) (by decide) (by decide)
                    · exact absurd c9 (by decide)
                    · refine ev_blk 1 [] 13 ([some (.int ((4 : Int32))), some (.int (k)), some (.int ((-1 : Int32))), some (.int ((3 : Int32)))], [.int ((-1 : Int32))], σ) rfl ?_ ?_
                      · trivial
                      refine ev_callS M_X5_isKind [.int ((-1 : Int32))] [] rfl rfl ln_X5_61 k_X5_isKind rfl rfl rfl (c_isKind _ _) ?_
                      refine pu_k ?_
                      rw [zi_f (show ¬ (¬ ((-1 : Int32)) < 0 ∧ ¬ (5 : Int32) < ((-1 : Int32))) by decide)]
                      show xEv _ _ _ 16 ([some (.int ((4 : Int32))), some (.int (k)), some (.int ((-1 : Int32))), some (.int ((3 : Int32)))], [.int ((0 : Int32))], σ)
                      refine ev_br 0 [] ((0 : Int32) = 0) 38 19 ([some (.int ((4 : Int32))), some (.int (k)), some (.int ((-1 : Int32))), some (.int ((3 : Int32)))], [], σ) rfl ?_ (fun c16 => ?_) (fun c16 => ?_)
                      · trivial
                      · refine ev_blk 1 [] 39 ([some (.int ((4 : Int32))), some (.int (k)), some (.int ((-1 : Int32))), some (.int ((3 : Int32)))], [.int ((0 : Int32))], σ) rfl ?_ ?_
                        · trivial
                        exact ev_iret rfl rfl nar0 (pu_f (by rintro (q | q | ⟨q, _⟩ | ⟨q, _⟩) <;> subst q <;> simp_all))
                      · exact absurd (by decide) c16
                  · refine ev_blk 1 [] 25 ([some (.int ((4 : Int32))), some (.int (k)), some (.int ((0 : Int32))), some (.int ((2 : Int32)))], [.int ((1 : Int32))], σ) rfl ?_ ?_
                    · trivial
                    exact ev_iret rfl rfl nar1 (pu_t (by have e := Classical.byContradiction c21; subst e; decide))
            · refine ev_blk 1 [] 25 ([some (.int ((4 : Int32))), some (.int (k)), some (.int ((3 : Int32))), some (.int ((1 : Int32)))], [.int ((1 : Int32))], σ) rfl ?_ ?_
              · trivial
              exact ev_iret rfl rfl nar1 (pu_t (by have e := Classical.byContradiction c21; subst e; decide))
      · refine ev_blk 1 [] 25 ([some (.int ((4 : Int32))), some (.int (k)), some (.int ((4 : Int32))), some (.int ((0 : Int32)))], [.int ((1 : Int32))], σ) rfl ?_ ?_
        · trivial
        exact ev_iret rfl rfl nar1 (pu_t (by have e := Classical.byContradiction c21; subst e; decide))
set_option maxRecDepth 100000 in
theorem c_isUnder5 (σ : xSg) (k : Int32) (hk : ¬ k < 0 ∧ ¬ 5 < k) : xCtr M_X5_isUnder [.int ((5 : Int32)), .int (k)] σ (fun r σ1 => r = some (.int (zi (s_und (5 : Int32) k))) ∧ σ1 = σ) := by
  refine ctr_ev ok_X5_isUnder (by decide +kernel) rfl rfl rfl ?_
  show xEv (.inl 1) M_X5_isUnder _ 0 ([some (.int ((5 : Int32))), some (.int (k)), none, none], [], σ)
  refine ev_br 7 [] ((6 : Int32) ≤ (0 : Int32)) 38 12 ([some (.int ((5 : Int32))), some (.int (k)), some (.int ((5 : Int32))), some (.int ((0 : Int32)))], [], σ) rfl ?_ (fun c9 => ?_) (fun c9 => ?_)
  · trivial
  · exact absurd c9 (by decide)
  · refine ev_blk 1 [] 13 ([some (.int ((5 : Int32))), some (.int (k)), some (.int ((5 : Int32))), some (.int ((0 : Int32)))], [.int ((5 : Int32))], σ) rfl ?_ ?_
    · trivial
    refine ev_callS M_X5_isKind [.int ((5 : Int32))] [] rfl rfl ln_X5_61 k_X5_isKind rfl rfl rfl (c_isKind _ _) ?_
    refine pu_k ?_
    rw [zi_t (show ¬ ((5 : Int32)) < 0 ∧ ¬ (5 : Int32) < ((5 : Int32)) by decide)]
    show xEv _ _ _ 16 ([some (.int ((5 : Int32))), some (.int (k)), some (.int ((5 : Int32))), some (.int ((0 : Int32)))], [.int ((1 : Int32))], σ)
    refine ev_br 0 [] ((1 : Int32) = 0) 38 19 ([some (.int ((5 : Int32))), some (.int (k)), some (.int ((5 : Int32))), some (.int ((0 : Int32)))], [], σ) rfl ?_ (fun c16 => ?_) (fun c16 => ?_)
    · trivial
    · exact absurd c16 (by decide)
    · refine ev_br 2 [] (¬ (5 : Int32) = k) 26 24 ([some (.int ((5 : Int32))), some (.int (k)), some (.int ((5 : Int32))), some (.int ((0 : Int32)))], [], σ) rfl ?_ (fun c21 => ?_) (fun c21 => ?_)
      · trivial
      · refine ev_br 9 [vp_in ((5 : Int32)) 6] ((6 : Int32) ≤ (1 : Int32)) 38 12 ([some (.int ((5 : Int32))), some (.int (k)), some (.int ((1 : Int32))), some (.int ((1 : Int32)))], [], σ) rfl ?_ (fun c9 => ?_) (fun c9 => ?_)
        · exact vp_in_nI (n := 5) (by decide) (by decide)
        · exact absurd c9 (by decide)
        · refine ev_blk 1 [] 13 ([some (.int ((5 : Int32))), some (.int (k)), some (.int ((1 : Int32))), some (.int ((1 : Int32)))], [.int ((1 : Int32))], σ) rfl ?_ ?_
          · trivial
          refine ev_callS M_X5_isKind [.int ((1 : Int32))] [] rfl rfl ln_X5_61 k_X5_isKind rfl rfl rfl (c_isKind _ _) ?_
          refine pu_k ?_
          rw [zi_t (show ¬ ((1 : Int32)) < 0 ∧ ¬ (5 : Int32) < ((1 : Int32)) by decide)]
          show xEv _ _ _ 16 ([some (.int ((5 : Int32))), some (.int (k)), some (.int ((1 : Int32))), some (.int ((1 : Int32)))], [.int ((1 : Int32))], σ)
          refine ev_br 0 [] ((1 : Int32) = 0) 38 19 ([some (.int ((5 : Int32))), some (.int (k)), some (.int ((1 : Int32))), some (.int ((1 : Int32)))], [], σ) rfl ?_ (fun c16 => ?_) (fun c16 => ?_)
          · trivial
          · exact absurd c16 (by decide)
          · refine ev_br 2 [] (¬ (1 : Int32) = k) 26 24 ([some (.int ((5 : Int32))), some (.int (k)), some (.int ((1 : Int32))), some (.int ((1 : Int32)))], [], σ) rfl ?_ (fun c21 => ?_) (fun c21 => ?_)
            · trivial
            · refine ev_br 9 [vp_in ((1 : Int32)) 6] ((6 : Int32) ≤ (2 : Int32)) 38 12 ([some (.int ((5 : Int32))), some (.int (k)), some (.int ((0 : Int32))), some (.int ((2 : Int32)))], [], σ) rfl ?_ (fun c9 => ?_) (fun c9 => ?_)
              · exact vp_in_nI (n := 1) (by decide) (by decide)
              · exact absurd c9 (by decide)
              · refine ev_blk 1 [] 13 ([some (.int ((5 : Int32))), some (.int (k)), some (.int ((0 : Int32))), some (.int ((2 : Int32)))], [.int ((0 : Int32))], σ) rfl ?_ ?_
                · trivial
                refine ev_callS M_X5_isKind [.int ((0 : Int32))] [] rfl rfl ln_X5_61 k_X5_isKind rfl rfl rfl (c_isKind _ _) ?_
                refine pu_k ?_
                rw [zi_t (show ¬ ((0 : Int32)) < 0 ∧ ¬ (5 : Int32) < ((0 : Int32)) by decide)]
                show xEv _ _ _ 16 ([some (.int ((5 : Int32))), some (.int (k)), some (.int ((0 : Int32))), some (.int ((2 : Int32)))], [.int ((1 : Int32))], σ)
                refine ev_br 0 [] ((1 : Int32) = 0) 38 19 ([some (.int ((5 : Int32))), some (.int (k)), some (.int ((0 : Int32))), some (.int ((2 : Int32)))], [], σ) rfl ?_ (fun c16 => ?_) (fun c16 => ?_)
                · trivial
                · exact absurd c16 (by decide)
                · refine ev_br 2 [] (¬ (0 : Int32) = k) 26 24 ([some (.int ((5 : Int32))), some (.int (k)), some (.int ((0 : Int32))), some (.int ((2 : Int32)))], [], σ) rfl ?_ (fun c21 => ?_) (fun c21 => ?_)
                  · trivial
                  · refine ev_br 9 [vp_in ((0 : Int32)) 6] ((6 : Int32) ≤ (3 : Int32)) 38 12 ([some (.int ((5 : Int32))), some (.int (k)), some (.int ((-1 : Int32))), some (.int ((3 : Int32)))], [], σ) rfl ?_ (fun c9 => ?_) (fun c9 => ?_)
                    · exact vp_in_nI (n := 0) (by decide) (by decide)
                    · exact absurd c9 (by decide)
                    · refine ev_blk 1 [] 13 ([some (.int ((5 : Int32))), some (.int (k)), some (.int ((-1 : Int32))), some (.int ((3 : Int32)))], [.int ((-1 : Int32))], σ) rfl ?_ ?_
                      · trivial
                      refine ev_callS M_X5_isKind [.int ((-1 : Int32))] [] rfl rfl ln_X5_61 k_X5_isKind rfl rfl rfl (c_isKind _ _) ?_
                      refine pu_k ?_
                      rw [zi_f (show ¬ (¬ ((-1 : Int32)) < 0 ∧ ¬ (5 : Int32) < ((-1 : Int32))) by decide)]
                      show xEv _ _ _ 16 ([some (.int ((5 : Int32))), some (.int (k)), some (.int ((-1 : Int32))), some (.int ((3 : Int32)))], [.int ((0 : Int32))], σ)
                      refine ev_br 0 [] ((0 : Int32) = 0) 38 19 ([some (.int ((5 : Int32))), some (.int (k)), some (.int ((-1 : Int32))), some (.int ((3 : Int32)))], [], σ) rfl ?_ (fun c16 => ?_) (fun c16 => ?_)
                      · trivial
                      · refine ev_blk 1 [] 39 ([some (.int ((5 : Int32))), some (.int (k)), some (.int ((-1 : Int32))), some (.int ((3 : Int32)))], [.int ((0 : Int32))], σ) rfl ?_ ?_
                        · trivial
                        exact ev_iret rfl rfl nar0 (pu_f (by rintro (q | q | ⟨q, _⟩ | ⟨q, _⟩) <;> subst q <;> simp_all))
                      · exact absurd (by decide) c16
                  · refine ev_blk 1 [] 25 ([some (.int ((5 : Int32))), some (.int (k)), some (.int ((0 : Int32))), some (.int ((2 : Int32)))], [.int ((1 : Int32))], σ) rfl ?_ ?_
                    · trivial
                    exact ev_iret rfl rfl nar1 (pu_t (by have e := Classical.byContradiction c21; subst e; decide))
            · refine ev_blk 1 [] 25 ([some (.int ((5 : Int32))), some (.int (k)), some (.int ((1 : Int32))), some (.int ((1 : Int32)))], [.int ((1 : Int32))], σ) rfl ?_ ?_
              · trivial
              exact ev_iret rfl rfl nar1 (pu_t (by have e := Classical.byContradiction c21; subst e; decide))
      · refine ev_blk 1 [] 25 ([some (.int ((5 : Int32))), some (.int (k)), some (.int ((5 : Int32))), some (.int ((0 : Int32)))], [.int ((1 : Int32))], σ) rfl ?_ ?_
        · trivial
        exact ev_iret rfl rfl nar1 (pu_t (by have e := Classical.byContradiction c21; subst e; decide))
theorem c_isUnder (σ : xSg) (j k : Int32) (hj : rg j 0 5) (hk : ¬ k < 0 ∧ ¬ 5 < k) : xPu M_X5_isUnder [.int j, .int k] σ (.int (zi (s_und j k))) := by
  obtain ⟨i, rfl, -, hi⟩ := hj
  rcases (by omega : i = 0 ∨ i = 1 ∨ i = 2 ∨ i = 3 ∨ i = 4 ∨ i = 5) with rfl | rfl | rfl | rfl | rfl | rfl
  · exact c_isUnder0 σ k hk
  · exact c_isUnder1 σ k hk
  · exact c_isUnder2 σ k hk
  · exact c_isUnder3 σ k hk
  · exact c_isUnder4 σ k hk
  · exact c_isUnder5 σ k hk
set_option maxRecDepth 100000 in
theorem c_taken (σ : xSg) (n : Nat) (hok : aOk (atC σ) n) (hn : σ 1 0 = nI n) (x k : Int32) : xCtr M_X5_taken [.ref 0, .int (x), .int (k)] σ (fun r σ1 => r = some (.int (s_tak n (atC σ) x k)) ∧ σ1 = σ) := by
  refine ctr_ev ok_X5_taken (by decide +kernel) rfl rfl rfl ?_
  show xEv (.inl 2) M_X5_taken _ 0 ([some (.ref 0), some (.int (x)), some (.int (k))], [], σ)
  have hn10 := hok.1
  have hsi := iSh_iN (x := x) hn hn10
  refine ev_blk 3 [] 5 ([some (.ref 0), some (.int (x)), some (.int (k))], [.int (x), .ref 1], σ) rfl ?_ ?_
  · trivial
  refine ev_callV M_X3_isShip [.int (x)] [] 1 rfl rfl ln_X5_119 k_X3_isShip rfl rfl rfl rfl rfl rfl (c_isShip _ _) ?_
  refine pu_k ?_
  show xEv _ _ _ 8 ([some (.ref 0), some (.int (x)), some (.int (k))], [.int (zi (iSh σ x))], σ)
  refine ev_br 0 [] ((zi (iSh σ x)) = 0) 18 11 ([some (.ref 0), some (.int (x)), some (.int (k))], [], σ) rfl ?_ (fun c8 => ?_) (fun c8 => ?_)
  · trivial
  · replace c8 := zi_0.mp c8
    refine ev_blk 1 [] 20 ([some (.ref 0), some (.int (x)), some (.int (k))], [.int ((-2 : Int32))], σ) rfl ?_ ?_
    · trivial
    exact ev_iret rfl rfl rfl (pu_v (by rw [s_tak, if_neg (fun q => c8 (hsi.mpr q.1))]))
  · replace c8 := zi_1.mp c8
    refine ev_blk 1 [] 12 ([some (.ref 0), some (.int (x)), some (.int (k))], [.int (k)], σ) rfl ?_ ?_
    · trivial
    refine ev_callS M_X5_isKind [.int (k)] [] rfl rfl ln_X5_61 k_X5_isKind rfl rfl rfl (c_isKind _ _) ?_
    refine pu_k ?_
    show xEv _ _ _ 15 ([some (.ref 0), some (.int (x)), some (.int (k))], [.int (zi (¬ k < 0 ∧ ¬ (5 : Int32) < k))], σ)
    refine ev_br 0 [] (¬ (zi (¬ k < 0 ∧ ¬ (5 : Int32) < k)) = 0) 21 18 ([some (.ref 0), some (.int (x)), some (.int (k))], [], σ) rfl ?_ (fun c15 => ?_) (fun c15 => ?_)
    · trivial
    · replace c15 := zi_1.mp c15
      have hx := hsi.mp c8
      obtain ⟨j, hj, rfl⟩ := nI_of hx.1
      have hjn : j < n := Nat.lt_of_not_le (fun z => hx.2 (nI_le z hj))
      have hjc : (nI j).toNatClampNeg = j := nI_clamp hj
      have hval : s_tak n (atC σ) (nI j) k = if s_und (σ 2 j) k then σ 3 j else -13 := by rw [s_tak, if_pos ⟨hx, c15⟩, hjc]
      rw [hval]
      refine ev_blk 6 [vp_in (nI j) 10] 31 ([some (.ref 0), some (.int (nI j)), some (.int (k))], [.int (k), .int ((σ 2) (nI j).toNatClampNeg)], σ) rfl ?_ ?_
      · exact vp_in_nI (by omega) (by decide)
      rw [hjc]
      refine ev_callS M_X5_isUnder [.int ((σ 2) j), .int (k)] [] rfl rfl ln_X5_150 k_X5_isUnder rfl rfl rfl (c_isUnder _ _ _ (hok.2.1 j hjn).1 c15) ?_
      refine pu_k ?_
      show xEv _ _ _ 34 ([some (.ref 0), some (.int (nI j)), some (.int (k))], [.int (zi (s_und ((σ 2) j) k))], σ)
      refine ev_br 0 [] ((zi (s_und ((σ 2) j) k)) = 0) 49 37 ([some (.ref 0), some (.int (nI j)), some (.int (k))], [], σ) rfl ?_ (fun c34 => ?_) (fun c34 => ?_)
      · trivial
      · replace c34 := zi_0.mp c34
        refine ev_blk 1 [] 51 ([some (.ref 0), some (.int (nI j)), some (.int (k))], [.int ((-13 : Int32))], σ) rfl ?_ ?_
        · trivial
        exact ev_iret rfl rfl rfl (pu_v (by rw [if_neg c34]))
      · replace c34 := zi_1.mp c34
        refine ev_blk 6 [vp_in (nI j) 10] 51 ([some (.ref 0), some (.int (nI j)), some (.int (k))], [.int ((σ 3) (nI j).toNatClampNeg)], σ) rfl ?_ ?_
        · exact vp_in_nI (by omega) (by decide)
        rw [hjc]
        exact ev_iret rfl rfl rfl (pu_v (by rw [if_pos c34]))
    · replace c15 := zi_n.mp c15
      refine ev_blk 1 [] 20 ([some (.ref 0), some (.int (x)), some (.int (k))], [.int ((-2 : Int32))], σ) rfl ?_ ?_
      · trivial
      exact ev_iret rfl rfl rfl (pu_v (by rw [s_tak, if_neg (fun q => c15 q.2)]))
def s_sum (g : Nat → Nat) : Nat → Nat
  | 0 => 0
  | k + 1 => s_sum g k + g k
theorem s_sum_le {g : Nat → Nat} {l b : Nat} (h : ∀ k, k < l → g k ≤ b) : ∀ k, k ≤ l → s_sum g k ≤ k * b
  | 0, _ => by simp [s_sum]
  | k + 1, hk => by
    have := s_sum_le h k (by omega)
    have := h k (by omega)
    simp only [s_sum, Nat.add_mul, Nat.one_mul]
    omega
/-- the ledger: l numbers, none of them large -/
def ledOk (f : Nat → Int32) (g : Nat → Nat) (l : Nat) : Prop := l ≤ 40 ∧ ∀ k, k < l → f k = nI (g k) ∧ g k ≤ 5940
def s_spn (g : Nat → Nat) (l : Nat) (i : Int32) : Int64 := if i < -1 ∨ nI l ≤ i then -9223372036854775808 else if i = -1 then lN (s_sum g l) else lN (g i.toNatClampNeg)
set_option maxRecDepth 100000 in
theorem c_spentAll_lp (σ : xSg) (g : Nat → Nat) (l : Nat) (hl : ledOk (σ 12) g l) (h13 : σ 1 13 = nI l) : ∀ (m k : Nat), k + m = l → xEv (.inl 0) M_X3_spentInAll (fun r1 σ1 => r1 = some (.long (lN (s_sum g l))) ∧ σ1 = σ) 4 ([some (.ref 1), some (.long (lN (s_sum g k))), none, some (.int (nI k))], [], σ) := by
  have hl40 := hl.1
  intro m
  induction m with
  | zero =>
    intro k hk
    refine ev_br 3 [] ((σ 1 13) ≤ (nI k)) 34 12 ([some (.ref 1), some (.long (lN (s_sum g k))), none, some (.int (nI k))], [], σ) rfl ?_ (fun c9 => ?_) (fun c9 => ?_)
    · trivial
    · refine ev_blk 1 [] 35 ([some (.ref 1), some (.long (lN (s_sum g k))), none, some (.int (nI k))], [.long (lN (s_sum g k))], σ) rfl ?_ ?_
      · trivial
      exact ev_lret rfl rfl ⟨by rw [show k = l by omega], rfl⟩
    · exact absurd (show σ 1 13 ≤ nI k by rw [h13]; exact nI_le (by omega) (by omega)) c9
  | succ m ih =>
    intro k hk
    have hkc : (nI k).toNatClampNeg = k := nI_clamp (by omega)
    obtain ⟨hv, hb⟩ := hl.2 k (by omega)
    refine ev_br 3 [] ((σ 1 13) ≤ (nI k)) 34 12 ([some (.ref 1), some (.long (lN (s_sum g k))), none, some (.int (nI k))], [], σ) rfl ?_ (fun c9 => ?_) (fun c9 => ?_)
    · trivial
    · exact absurd c9 (show ¬ σ 1 13 ≤ nI k by rw [h13]; exact nI_ge (by omega) (by omega))
    · refine ev_br 2 [] ((40 : Int32) ≤ (nI k)) 34 18 ([some (.ref 1), some (.long (lN (s_sum g k))), none, some (.int (nI k))], [], σ) rfl ?_ (fun c15 => ?_) (fun c15 => ?_)
      · trivial
      · exact absurd c15 (nI_ge (b := 40) (by omega) (by decide))
      · refine ev_blk 10 [vp_in (nI k) 40] 4 ([some (.ref 1), some (.long ((lN (s_sum g k)) + (((σ 12) (nI k).toNatClampNeg).toInt64))), none, some (.int ((nI k) + (1 : Int32)))], [], σ) rfl ?_ ?_
        · exact vp_in_nI (by omega) (by decide)
        rw [hkc]
        rw [nI_1, hv, nI_l (by omega), lN_add]
        exact ih (k + 1) (by omega)
set_option maxRecDepth 100000 in
theorem c_spentAll (σ : xSg) (g : Nat → Nat) (l : Nat) (hl : ledOk (σ 12) g l) (h13 : σ 1 13 = nI l) : xCtr M_X3_spentInAll [.ref 1] σ (fun r1 σ1 => r1 = some (.long (lN (s_sum g l))) ∧ σ1 = σ) := by
  refine ctr_ev ok_X3_spentInAll (by decide +kernel) rfl rfl rfl ?_
  show xEv (.inl 0) M_X3_spentInAll _ 0 ([some (.ref 1), none, none, none], [], σ)
  refine ev_blk 4 [] 4 ([some (.ref 1), some (.long ((0 : Int64))), none, some (.int ((0 : Int32)))], [], σ) rfl ?_ ?_
  · trivial
  exact c_spentAll_lp σ g l hl h13 l 0 (by omega)
set_option maxRecDepth 100000 in
theorem c_spent (σ : xSg) (g : Nat → Nat) (l : Nat) (hl : ledOk (σ 12) g l) (h13 : σ 1 13 = nI l) (i : Int32) : xCtr M_X5_spent [.ref 0, .int (i)] σ (fun r1 σ1 => r1 = some (.long (s_spn g l i)) ∧ σ1 = σ) := by
  refine ctr_ev ok_X5_spent (by decide +kernel) rfl rfl rfl ?_
  show xEv (.inl 1) M_X5_spent _ 0 ([some (.ref 0), some (.int (i))], [], σ)
  have hl40 := hl.1
  refine ev_br 2 [] (i < (-1 : Int32)) 16 5 ([some (.ref 0), some (.int (i))], [], σ) rfl ?_ (fun c2 => ?_) (fun c2 => ?_)
  · trivial
  · refine ev_blk 1 [] 19 ([some (.ref 0), some (.int (i))], [.long ((-9223372036854775808 : Int64))], σ) rfl ?_ ?_
    · trivial
    exact ev_lret rfl rfl ⟨by rw [s_spn, if_pos (Or.inl c2)], rfl⟩
  · refine ev_br 4 [] (i < (σ 1 13)) 20 16 ([some (.ref 0), some (.int (i))], [], σ) rfl ?_ (fun c13 => ?_) (fun c13 => ?_)
    · trivial
    · refine ev_br 2 [] (¬ i = (-1 : Int32)) 35 25 ([some (.ref 0), some (.int (i))], [], σ) rfl ?_ (fun c22 => ?_) (fun c22 => ?_)
      · trivial
      · refine ev_blk 6 [vp_in (i) 40] 45 ([some (.ref 0), some (.int (i))], [.long (((σ 12) i.toNatClampNeg).toInt64)], σ) rfl ?_ ?_
        · have hi0 : ¬ i < 0 := fun q => by
            rw [Int32.lt_iff_toInt_lt] at q c2
            have e0 : ((0 : Int32)).toInt = 0 := by decide
            have e1 : ((-1 : Int32)).toInt = -1 := by decide
            exact c22 (Int32.toInt_inj.mp (by omega))
          obtain ⟨j, hj, rfl⟩ := nI_of hi0
          have hjc : (nI j).toNatClampNeg = j := nI_clamp hj
          have hjl : j < l := (nI_ltI hj (by omega)).mp (by rw [← h13]; exact c13)
          exact vp_in_nI (by omega) (by decide)
        have hg : ¬ (i < -1 ∨ nI l ≤ i) := by rintro (q | q); exact c2 q; exact absurd c13 (Int32.not_lt.mpr (by rw [h13]; exact q))
        have hi0 : ¬ i < 0 := fun q => by
          rw [Int32.lt_iff_toInt_lt] at q c2
          have e0 : ((0 : Int32)).toInt = 0 := by decide
          have e1 : ((-1 : Int32)).toInt = -1 := by decide
          exact c22 (Int32.toInt_inj.mp (by omega))
        obtain ⟨j, hj, rfl⟩ := nI_of hi0
        have hjc : (nI j).toNatClampNeg = j := nI_clamp hj
        have hjl : j < l := (nI_ltI hj (by omega)).mp (by rw [← h13]; exact c13)
        exact ev_lret rfl rfl ⟨by rw [s_spn, if_neg hg, if_neg c22, hjc, (hl.2 j hjl).1, nI_l (by have := (hl.2 j hjl).2; omega)], rfl⟩
      · refine ev_blk 2 [] 29 ([some (.ref 0), some (.int (i))], [.ref 1], σ) rfl ?_ ?_
        · trivial
        refine ev_callV M_X3_spentInAll [] [] 1 rfl rfl ln_X5_186 k_X3_spentInAll rfl rfl rfl rfl rfl rfl (c_spentAll σ g l hl h13) ?_
        refine pu_k ?_
        show xEv _ _ _ 32 ([some (.ref 0), some (.int (i))], [.long (lN (s_sum g l))], σ)
        refine ev_blk 1 [] 45 ([some (.ref 0), some (.int (i))], [.long (lN (s_sum g l))], σ) rfl ?_ ?_
        · trivial
        have hg : ¬ (i < -1 ∨ nI l ≤ i) := by rintro (q | q); exact c2 q; exact absurd c13 (Int32.not_lt.mpr (by rw [h13]; exact q))
        exact ev_lret rfl rfl ⟨by rw [s_spn, if_neg hg, if_pos (Classical.byContradiction c22)], rfl⟩
    · refine ev_blk 1 [] 19 ([some (.ref 0), some (.int (i))], [.long ((-9223372036854775808 : Int64))], σ) rfl ?_ ?_
      · trivial
      exact ev_lret rfl rfl ⟨by rw [s_spn, if_pos (Or.inr (by rw [← h13]; exact Int32.not_lt.mp c13))], rfl⟩
end
section
theorem n_and (k y d m e : Nat) (hd : d < 2 ^ k) (he : e < 2 ^ k) : (2 ^ k * y + d) &&& (2 ^ k * m + e) = 2 ^ k * (y &&& m) + (d &&& e) := by
  refine Nat.eq_of_testBit_eq (fun j => ?_)
  rw [Nat.testBit_and, Nat.testBit_two_pow_mul_add _ hd, Nat.testBit_two_pow_mul_add _ he, Nat.testBit_two_pow_mul_add _ (Nat.and_lt_two_pow d he)]
  by_cases h : j < k
  · rw [if_pos h, if_pos h, if_pos h, Nat.testBit_and]
  · rw [if_neg h, if_neg h, if_neg h, Nat.testBit_and]
abbrev n_3 (a b c : Nat) : Nat := a + 256 * b + 65536 * c
theorem n_and3 {a b c p q r : Nat} (ha : a < 256) (hb : b < 256) (hp : p < 256) (hq : q < 256) : n_3 a b c &&& n_3 p q r = n_3 (a &&& p) (b &&& q) (c &&& r) := by
  have e1 : ∀ x y z : Nat, n_3 x y z = 2 ^ 8 * (2 ^ 8 * z + y) + x := fun x y z => by unfold n_3; omega
  rw [e1, e1, e1, n_and 8 _ _ _ _ ha hp, n_and 8 _ _ _ _ hb hq]
def n_t1 (d : Nat) : Nat := d - ((d / 2) &&& 85)
def n_t2 (d : Nat) : Nat := (n_t1 d &&& 51) + ((n_t1 d / 4) &&& 51)
def n_t3 (d : Nat) : Nat := n_t2 d % 16 + n_t2 d / 16
def n_bc (n : Nat) : Nat :=
  let v1 := n - ((n / 2) &&& 1431655765)
  let v2 := (v1 &&& 858993459) + ((v1 / 4) &&& 858993459)
  let v3 := (v2 + v2 / 16) &&& 252645135
  let v4 := v3 + v3 / 256
  let v5 := v4 + v4 / 65536
  v5 &&& 63
theorem n_d1 : ∀ d, d < 256 → ∀ b, b < 2 → (d / 2 + 128 * b) &&& 85 = (d / 2) &&& 85 := by decide +kernel
theorem n_d1' : ∀ d, d < 16 → (d / 2) &&& 21845 = (d / 2) &&& 85 := by decide +kernel
theorem n_d1l : ∀ d, d < 256 → (d / 2) &&& 85 ≤ d := by decide +kernel
theorem n_d2 : ∀ d, d < 256 → ∀ b, b < 4 → (d / 4 + 64 * b) &&& 51 = (d / 4) &&& 51 := by decide +kernel
theorem n_d2' : ∀ d, d < 16 → n_t1 d &&& 13107 = n_t1 d &&& 51 ∧ (n_t1 d / 4) &&& 13107 = (n_t1 d / 4) &&& 51 := by decide +kernel
theorem n_d2l : ∀ d, d < 256 → n_t1 d < 256 ∧ n_t2 d < 69 ∧ n_t2 d % 16 < 5 ∧ n_t3 d < 9 := by decide +kernel
theorem n_d3 : ∀ d, d < 256 → ∀ b, b < 5 → (n_t2 d + (n_t2 d / 16 + 16 * b)) &&& 15 = n_t3 d := by decide +kernel
theorem n_d3' : ∀ d, d < 16 → (n_t2 d + n_t2 d / 16) &&& 3855 = n_t3 d := by decide +kernel
theorem n_d4 : ∀ s, s < 27 → s &&& 63 = s := by decide +kernel
theorem n_bc3 {a b c : Nat} (ha : a < 256) (hb : b < 256) (hc : c < 16) : n_bc (n_3 a b c) = n_t3 a + n_t3 b + n_t3 c := by
  obtain ⟨a1, a2, a3, a4⟩ := n_d2l a ha
  obtain ⟨b1, b2, b3, b4⟩ := n_d2l b hb
  obtain ⟨c1, c2, c3, c4⟩ := n_d2l c (by omega)
  have h1 : n_3 a b c - ((n_3 a b c / 2) &&& 1431655765) = n_3 (n_t1 a) (n_t1 b) (n_t1 c) := by
    rw [show n_3 a b c / 2 = n_3 (a / 2 + 128 * (b % 2)) (b / 2 + 128 * (c % 2)) (c / 2) by unfold n_3; omega, show 1431655765 = n_3 85 85 21845 from rfl, n_and3 (by omega) (by omega) (by decide) (by decide), n_d1 a ha _ (by omega), n_d1 b hb _ (by omega), n_d1' c hc]
    have := n_d1l a ha
    have := n_d1l b hb
    have := n_d1l c (by omega)
    unfold n_3 n_t1
    omega
  have h2 : (n_3 (n_t1 a) (n_t1 b) (n_t1 c) &&& 858993459) + ((n_3 (n_t1 a) (n_t1 b) (n_t1 c) / 4) &&& 858993459) = n_3 (n_t2 a) (n_t2 b) (n_t2 c) := by
    rw [show n_3 (n_t1 a) (n_t1 b) (n_t1 c) / 4 = n_3 (n_t1 a / 4 + 64 * (n_t1 b % 4)) (n_t1 b / 4 + 64 * (n_t1 c % 4)) (n_t1 c / 4) by unfold n_3; omega, show 858993459 = n_3 51 51 13107 from rfl, n_and3 a1 b1 (by decide) (by decide), n_and3 (by omega) (by omega) (by decide) (by decide), n_d2 _ a1 _ (by omega), n_d2 _ b1 _ (by omega), (n_d2' c hc).1, (n_d2' c hc).2]
    unfold n_3 n_t2
    omega
  have h3 : (n_3 (n_t2 a) (n_t2 b) (n_t2 c) + n_3 (n_t2 a) (n_t2 b) (n_t2 c) / 16) &&& 252645135 = n_3 (n_t3 a) (n_t3 b) (n_t3 c) := by
    rw [show n_3 (n_t2 a) (n_t2 b) (n_t2 c) + n_3 (n_t2 a) (n_t2 b) (n_t2 c) / 16 = n_3 (n_t2 a + (n_t2 a / 16 + 16 * (n_t2 b % 16))) (n_t2 b + (n_t2 b / 16 + 16 * (n_t2 c % 16))) (n_t2 c + n_t2 c / 16) by unfold n_3; omega, show 252645135 = n_3 15 15 3855 from rfl, n_and3 (by omega) (by omega) (by decide) (by decide), n_d3 a ha _ b3, n_d3 b hb _ c3, n_d3' c hc]
  unfold n_bc
  simp only [h1, h2, h3]
  rw [show n_3 (n_t3 a) (n_t3 b) (n_t3 c) + n_3 (n_t3 a) (n_t3 b) (n_t3 c) / 256 + (n_3 (n_t3 a) (n_t3 b) (n_t3 c) + n_3 (n_t3 a) (n_t3 b) (n_t3 c) / 256) / 65536 = 2 ^ 8 * (n_t3 b + n_t3 c + 256 * n_t3 c) + (n_t3 a + n_t3 b + n_t3 c) by unfold n_3; omega, show 63 = 2 ^ 8 * 0 + 63 from rfl, n_and 8 _ _ _ _ (by omega) (by decide), Nat.and_zero, Nat.mul_zero, Nat.zero_add, n_d4 _ (by omega)]
def n_cnt (f : Nat → Bool) : Nat → Nat
  | 0 => 0
  | k + 1 => n_cnt f k + if f k = true then 1 else 0
theorem n_cnt8 : ∀ d, d < 256 → n_t3 d = n_cnt d.testBit 8 := by decide +kernel
theorem n_cnt4 : ∀ d, d < 16 → n_t3 d = n_cnt d.testBit 4 := by decide +kernel
theorem n_cntg {f g : Nat → Bool} : ∀ {k : Nat}, (∀ j, j < k → f j = g j) → n_cnt f k = n_cnt g k
  | 0, _ => rfl
  | k + 1, h => by
    unfold n_cnt
    rw [n_cntg (fun j hj => h j (by omega)), h k (by omega)]
theorem n_cnta {f : Nat → Bool} {a : Nat} : ∀ {b : Nat}, n_cnt f (a + b) = n_cnt f a + n_cnt (fun j => f (a + j)) b
  | 0 => rfl
  | b + 1 => by
    show n_cnt f (a + b) + _ = n_cnt f a + (n_cnt _ b + _)
    rw [n_cnta (b := b), Nat.add_assoc]
    rfl
theorem n_cnt0 {f : Nat → Bool} {a : Nat} : ∀ {b : Nat}, a ≤ b → (∀ j, a ≤ j → j < b → f j = false) → n_cnt f b = n_cnt f a
  | 0, h, _ => by rw [Nat.le_zero.mp h]
  | b + 1, h, hf => by
    by_cases q : a = b + 1
    · rw [q]
    · rw [← n_cnt0 (b := b) (by omega) (fun j h1 h2 => hf j h1 (by omega))]
      show n_cnt f b + _ = _
      rw [hf b (by omega) (by omega)]
      rfl
theorem n_cntle (f : Nat → Bool) : ∀ k, n_cnt f k ≤ k
  | 0 => Nat.le_refl _
  | k + 1 => by
    have := n_cntle f k
    unfold n_cnt
    split <;> omega
theorem n_bc20' {a b c : Nat} (ha : a < 256) (hb : b < 256) (hc : c < 16) : n_bc (n_3 a b c) = n_cnt (n_3 a b c).testBit 20 := by
  have hb : ∀ j, (n_3 a b c).testBit j = if j < 8 then a.testBit j else if j - 8 < 8 then b.testBit (j - 8) else c.testBit (j - 8 - 8) := fun j => by
    rw [show n_3 a b c = 2 ^ 8 * (2 ^ 8 * c + b) + a by unfold n_3; omega, Nat.testBit_two_pow_mul_add _ ha, Nat.testBit_two_pow_mul_add _ hb]
  rw [n_bc3 ha ‹b < 256› hc, n_cnt8 a ha, n_cnt8 b ‹b < 256›, n_cnt4 c hc, show 20 = 8 + 8 + 4 from rfl, n_cnta, n_cnta]
  rw [n_cntg (f := (n_3 a b c).testBit) (g := a.testBit) (fun j hj => by rw [hb, if_pos hj]),
    n_cntg (f := fun j => (n_3 a b c).testBit (8 + j)) (g := b.testBit) (fun j hj => by rw [hb, if_neg (by omega), if_pos (by omega), show 8 + j - 8 = j by omega]),
    n_cntg (f := fun j => (n_3 a b c).testBit (8 + 8 + j)) (g := c.testBit) (fun j hj => by rw [hb, if_neg (by omega), if_neg (by omega), show 8 + 8 + j - 8 - 8 = j by omega])]
theorem n_bc20 {n : Nat} (h : n < 1048576) : n_bc n = n_cnt n.testBit 20 := by
  have := n_bc20' (a := n % 256) (b := n / 256 % 256) (c := n / 65536) (by omega) (by omega) (by omega)
  rwa [show n_3 (n % 256) (n / 256 % 256) (n / 65536) = n by unfold n_3; omega] at this
theorem i_ush {a : Nat} (k : Nat) (ha : a < 2 ^ 32) (u : UInt32) (hu : u.toNat % 32 = k) : ((nI a).toUInt32 >>> u).toInt32 = nI (a / 2 ^ k) := by
  refine Int32.toBitVec_inj.mp (BitVec.eq_of_toNat_eq ?_)
  show ((nI a).toUInt32 >>> u).toNat = (BitVec.ofNat 32 (a / 2 ^ k)).toNat
  rw [UInt32.toNat_shiftRight, hu, Nat.shiftRight_eq_div_pow, BitVec.toNat_ofNat]
  show (BitVec.ofNat 32 a).toNat / 2 ^ k = _
  rw [BitVec.toNat_ofNat, Nat.mod_eq_of_lt ha, Nat.mod_eq_of_lt (Nat.lt_of_le_of_lt (Nat.div_le_self _ _) ha)]
theorem i_and (a m : Nat) : nI a &&& nI m = nI (a &&& m) := by
  refine Int32.toBitVec_inj.mp ?_
  rw [Int32.toBitVec_and]
  show BitVec.ofNat 32 a &&& BitVec.ofNat 32 m = BitVec.ofNat 32 (a &&& m)
  refine BitVec.eq_of_toNat_eq ?_
  rw [BitVec.toNat_and, BitVec.toNat_ofNat, BitVec.toNat_ofNat, BitVec.toNat_ofNat, Nat.and_mod_two_pow]
theorem i_sub {a b : Nat} (h : b ≤ a) : nI a - nI b = nI (a - b) := by
  have e : nI a = nI (a - b) + nI b := by rw [nI_add]; congr 1; omega
  rw [e, Int32.add_sub_cancel]
theorem bc_n {n : Nat} (h : n < 2 ^ 31) (h2 : (n / 2) &&& 1431655765 ≤ n) : bcI (nI n) = nI (n_bc n) := by
  have e1 : nI n - (((nI n).toUInt32 >>> ((1 : Int32).toUInt32 &&& Int32.toUInt32 31)).toInt32 &&& 1431655765) = nI (n - ((n / 2) &&& 1431655765)) := by
    rw [i_ush 1 (by omega) _ (by decide), show (1431655765 : Int32) = nI 1431655765 from rfl, i_and, i_sub h2]
  generalize hv1 : n - ((n / 2) &&& 1431655765) = v1 at e1
  have e2 : (nI v1 &&& 858993459) + (((nI v1).toUInt32 >>> ((2 : Int32).toUInt32 &&& Int32.toUInt32 31)).toInt32 &&& 858993459) = nI ((v1 &&& 858993459) + ((v1 / 4) &&& 858993459)) := by
    rw [i_ush 2 (by omega) _ (by decide), show (858993459 : Int32) = nI 858993459 from rfl, i_and, i_and, nI_add]
  have hb2 : (v1 &&& 858993459) + ((v1 / 4) &&& 858993459) < 2 ^ 32 := by
    have := Nat.and_le_right (n := v1) (m := 858993459)
    have := Nat.and_le_right (n := v1 / 4) (m := 858993459)
    omega
  generalize hv2 : (v1 &&& 858993459) + ((v1 / 4) &&& 858993459) = v2 at e2 hb2
  have e3 : (nI v2 + ((nI v2).toUInt32 >>> ((4 : Int32).toUInt32 &&& Int32.toUInt32 31)).toInt32) &&& 252645135 = nI ((v2 + v2 / 16) &&& 252645135) := by
    rw [i_ush 4 hb2 _ (by decide), nI_add, show (252645135 : Int32) = nI 252645135 from rfl, i_and]
  have hb3 : (v2 + v2 / 16) &&& 252645135 ≤ 252645135 := Nat.and_le_right
  generalize hv3 : (v2 + v2 / 16) &&& 252645135 = v3 at e3 hb3
  have e4 : nI v3 + ((nI v3).toUInt32 >>> ((8 : Int32).toUInt32 &&& Int32.toUInt32 31)).toInt32 = nI (v3 + v3 / 256) := by
    rw [i_ush 8 (by omega) _ (by decide), nI_add]
  have e5 : nI (v3 + v3 / 256) + ((nI (v3 + v3 / 256)).toUInt32 >>> ((16 : Int32).toUInt32 &&& Int32.toUInt32 31)).toInt32 = nI (v3 + v3 / 256 + (v3 + v3 / 256) / 65536) := by
    rw [i_ush 16 (by omega) _ (by decide), nI_add]
  have e6 : nI (v3 + v3 / 256 + (v3 + v3 / 256) / 65536) &&& 63 = nI (v3 + v3 / 256 + (v3 + v3 / 256) / 65536 &&& 63) := by
    rw [show (63 : Int32) = nI 63 from rfl, i_and]
  simp only [bcI]
  rw [e1, e2, e3, e4, e5, e6]
  simp only [n_bc, hv1, hv2, hv3]
theorem bc_20 {x : Int32} (h : ∀ j, 20 ≤ j → j < 32 → bt x j = false) : bcI x = nI (n_cnt (bt x) 20) := by
  have ht : ∀ i, bt x i = x.toBitVec.toNat.testBit i := fun i => by unfold bt; rw [BitVec.getLsbD]
  have hn : x.toBitVec.toNat < 1048576 := by
    refine Nat.lt_pow_two_of_testBit (n := 20) _ (fun i hi => ?_)
    by_cases h32 : i < 32
    · rw [← ht i]; exact h i hi h32
    · exact Nat.testBit_lt_two_pow (Nat.lt_of_lt_of_le x.toBitVec.isLt (Nat.pow_le_pow_right (by decide) (by omega)))
  have hx : x = nI x.toBitVec.toNat := by
    refine Int32.toBitVec_inj.mp ?_
    show x.toBitVec = BitVec.ofNat 32 x.toBitVec.toNat
    simp
  generalize x.toBitVec.toNat = n at ht hn hx
  rw [n_cntg (fun j _ => ht j), hx, ← n_bc20 hn]
  refine bc_n (by omega) ?_
  rw [show (1431655765 : Nat) = 2 ^ 20 * 1365 + 349525 from rfl]
  have e : n / 2 = 2 ^ 20 * 0 + n / 2 := by omega
  rw [e, n_and 20 _ _ _ _ (by omega) (by decide), Nat.zero_and, Nat.mul_zero, Nat.zero_add]
  exact Nat.le_trans Nat.and_le_left (Nat.div_le_self n 2)
/-- the places that are free -/
def s_free (f : Nat → Nat → Bool) (L : Nat) : Nat → Nat
  | 0 => 0
  | r + 1 => s_free f L r + n_cnt (f r) L
theorem s_free_le (f : Nat → Nat → Bool) (L : Nat) : ∀ r, s_free f L r ≤ r * L
  | 0 => by simp [s_free]
  | r + 1 => by
    have := s_free_le f L r
    have := n_cntle (f r) L
    simp only [s_free, Nat.add_mul, Nat.one_mul]
    omega
theorem b_msk0 : ∀ L, L < 21 → ∀ i, i < 32 → bt ((1 : Int32) <<< (nI L &&& 31) - 1) i = decide (i < L) := by decide +kernel
theorem bc_free {x : Int32} {L : Nat} (hL : L < 21) : bcI (((1 : Int32) <<< (nI L &&& 31) - 1) &&& (x ^^^ (-1 : Int32))) = nI (n_cnt (fun p => !bt x p) L) := by
  have hb : ∀ i, i < 32 → bt (((1 : Int32) <<< (nI L &&& 31) - 1) &&& (x ^^^ (-1 : Int32))) i = (decide (i < L) && !bt x i) := fun i hi => by rw [b_and, b_not hi, b_msk0 L hL i hi]
  rw [bc_20 (fun j h1 h2 => by rw [hb j h2, decide_eq_false (by omega), Bool.false_and]), n_cnt0 (a := L) (by omega) (fun j h1 h2 => by rw [hb j (by omega), decide_eq_false (by omega), Bool.false_and]), n_cntg (g := fun p => !bt x p) (fun j hj => by rw [hb j (by omega), decide_eq_true hj, Bool.true_and])]
set_option maxRecDepth 100000 in
theorem c_freePlaces_lp (σ : xSg) (L R : Nat) (hL : L < 21) (hR : R ≤ 3) (h0 : σ 9 0 = nI L) (h1 : σ 9 1 = nI R) : ∀ (m k : Nat), k + m = R → xEv (.inl 1) M_X3_freePlaces (fun r1 σ1 => r1 = some (.int (nI (s_free (fun r p => !bt (σ 10 r) p) L R))) ∧ σ1 = σ) 15 ([some (.ref 1), some (.int ((1 : Int32) <<< (nI L &&& 31) - 1)), some (.int (nI (s_free (fun r p => !bt (σ 10 r) p) L k))), some (.int (nI k))], [], σ) := by
  intro m
  induction m with
  | zero =>
    intro k hk
    refine ev_br 5 [vp_in ((1 : Int32)) 5] (((σ 9) 1) ≤ (nI k)) 52 25 ([some (.ref 1), some (.int ((1 : Int32) <<< (nI L &&& 31) - 1)), some (.int (nI (s_free (fun r p => !bt (σ 10 r) p) L k))), some (.int (nI k))], [], σ) rfl ?_ (fun c22 => ?_) (fun c22 => ?_)
    · exact (vp_in_nI (n := 1) (by decide) (by decide))
    · refine ev_blk 1 [] 53 ([some (.ref 1), some (.int ((1 : Int32) <<< (nI L &&& 31) - 1)), some (.int (nI (s_free (fun r p => !bt (σ 10 r) p) L k))), some (.int (nI k))], [.int (nI (s_free (fun r p => !bt (σ 10 r) p) L k))], σ) rfl ?_ ?_
      · trivial
      exact ev_iret rfl rfl rfl (pu_v (by rw [show k = R by omega]))
    · exact absurd (show σ 9 1 ≤ nI k by rw [h1]; exact nI_le (by omega) (by omega)) c22
  | succ m ih =>
    intro k hk
    have hkc : (nI k).toNatClampNeg = k := nI_clamp (by omega)
    refine ev_br 5 [vp_in ((1 : Int32)) 5] (((σ 9) 1) ≤ (nI k)) 52 25 ([some (.ref 1), some (.int ((1 : Int32) <<< (nI L &&& 31) - 1)), some (.int (nI (s_free (fun r p => !bt (σ 10 r) p) L k))), some (.int (nI k))], [], σ) rfl ?_ (fun c22 => ?_) (fun c22 => ?_)
    · exact (vp_in_nI (n := 1) (by decide) (by decide))
    · exact absurd c22 (show ¬ σ 9 1 ≤ nI k by rw [h1]; exact nI_ge (by omega) (by omega))
    · refine ev_br 2 [] ((3 : Int32) ≤ (nI k)) 52 30 ([some (.ref 1), some (.int ((1 : Int32) <<< (nI L &&& 31) - 1)), some (.int (nI (s_free (fun r p => !bt (σ 10 r) p) L k))), some (.int (nI k))], [], σ) rfl ?_ (fun c27 => ?_) (fun c27 => ?_)
      · trivial
      · exact absurd c27 (nI_ge (b := 3) (by omega) (by decide))
      · refine ev_blk 9 [vp_in (nI k) 3] 41 ([some (.ref 1), some (.int ((1 : Int32) <<< (nI L &&& 31) - 1)), some (.int (nI (s_free (fun r p => !bt (σ 10 r) p) L k))), some (.int (nI k))], [.int (((1 : Int32) <<< (nI L &&& 31) - 1) &&& (((σ 10) (nI k).toNatClampNeg) ^^^ (-1 : Int32))), .int (nI (s_free (fun r p => !bt (σ 10 r) p) L k))], σ) rfl ?_ ?_
        · exact (vp_in_nI (by omega) (by decide))
        rw [hkc]
        refine ev_callS M_J6_bitCount_0f7a4 [.int (((1 : Int32) <<< (nI L &&& 31) - 1) &&& (((σ 10) k) ^^^ (-1 : Int32)))] [.int (nI (s_free (fun r p => !bt (σ 10 r) p) L k))] rfl rfl ln_X3_91 k_J6_bitCount_0f7a4 rfl rfl rfl (c_bitCount _ _) ?_
        refine pu_k ?_
        show xEv _ _ _ 44 ([some (.ref 1), some (.int ((1 : Int32) <<< (nI L &&& 31) - 1)), some (.int (nI (s_free (fun r p => !bt (σ 10 r) p) L k))), some (.int (nI k))], [.int (bcI (((1 : Int32) <<< (nI L &&& 31) - 1) &&& (((σ 10) k) ^^^ (-1 : Int32)))), .int (nI (s_free (fun r p => !bt (σ 10 r) p) L k))], σ)
        refine ev_blk 4 [] 15 ([some (.ref 1), some (.int ((1 : Int32) <<< (nI L &&& 31) - 1)), some (.int ((nI (s_free (fun r p => !bt (σ 10 r) p) L k)) + (bcI (((1 : Int32) <<< (nI L &&& 31) - 1) &&& (((σ 10) k) ^^^ (-1 : Int32)))))), some (.int ((nI k) + (1 : Int32)))], [], σ) rfl ?_ ?_
        · trivial
        rw [nI_1, bc_free hL, nI_add]
        exact ih (k + 1) (by omega)
set_option maxRecDepth 100000 in
theorem c_freePlaces (σ : xSg) (L R : Nat) (hL : L < 21) (hR : R ≤ 3) (h0 : σ 9 0 = nI L) (h1 : σ 9 1 = nI R) : xCtr M_X3_freePlaces [.ref 1] σ (fun r1 σ1 => r1 = some (.int (nI (s_free (fun r p => !bt (σ 10 r) p) L R))) ∧ σ1 = σ) := by
  refine ctr_ev ok_X3_freePlaces (by decide +kernel) rfl rfl rfl ?_
  show xEv (.inl 1) M_X3_freePlaces _ 0 ([some (.ref 1), none, none, none], [], σ)
  refine ev_blk 13 [vp_in ((0 : Int32)) 5] 15 ([some (.ref 1), some (.int (((1 : Int32) <<< (((σ 9) 0) &&& 31)) - (1 : Int32))), some (.int ((0 : Int32))), some (.int ((0 : Int32)))], [], σ) rfl ?_ ?_
  · exact (vp_in_nI (n := 0) (by decide) (by decide))
  rw [h0]
  exact c_freePlaces_lp σ L R hL hR h0 h1 R 0 (by omega)
end
section
def s_cnt (st : Nat → Int32) (sh wt fi de fr wh : Int32) : Int32 :=
  if ¬ wh < 0 ∧ ¬ (4 : Int32) < wh then st wh.toNatClampNeg else if wh = 5 then sh else if wh = 6 then wt else if wh = 7 then fi else if wh = 8 then de else if wh = 9 then fr else -2
set_option maxRecDepth 100000 in
theorem c_count (σ : xSg) (L R : Nat) (hL : L < 21) (hR : R ≤ 3) (h0 : σ 9 0 = nI L) (h1 : σ 9 1 = nI R) (wh : Int32) : xCtr M_X5_count [.ref 0, .int (wh)] σ (fun r σ1 => r = some (.int (s_cnt (σ 9) (σ 1 0) (bcI (σ 1 1)) (σ 1 13) (σ 0 4) (nI (s_free (fun r p => !bt (σ 10 r) p) L R)) wh)) ∧ σ1 = σ) := by
  refine ctr_ev ok_X5_count (by decide +kernel) rfl rfl rfl ?_
  show xEv (.inl 2) M_X5_count _ 0 ([some (.ref 0), some (.int (wh))], [], σ)
  refine ev_blk 1 [] 1 ([some (.ref 0), some (.int (wh))], [.int (wh)], σ) rfl ?_ ?_
  · trivial
  refine ev_callS M_X5_isSetting [.int (wh)] [] rfl rfl ln_X5_96 k_X5_isSetting rfl rfl rfl (c_isSetting _ _) ?_
  refine pu_k ?_
  show xEv _ _ _ 4 ([some (.ref 0), some (.int (wh))], [.int (zi (¬ wh < 0 ∧ ¬ (4 : Int32) < wh))], σ)
  refine ev_br 0 [] ((zi (¬ wh < 0 ∧ ¬ (4 : Int32) < wh)) = 0) 17 7 ([some (.ref 0), some (.int (wh))], [], σ) rfl ?_ (fun c4 => ?_) (fun c4 => ?_)
  · trivial
  · replace c4 := zi_0.mp c4
    refine ev_sw 1 [] (wh) [((5 : Int32), 52), ((6 : Int32), 60), ((7 : Int32), 71), ((8 : Int32), 79), ((9 : Int32), 84)] 92 ([some (.ref 0), some (.int (wh))], [], σ) rfl ?_ ?_
    · trivial
    refine ⟨fun c18_5 => ?_, fun c18_5 => ?_⟩
    · refine ev_blk 3 [] 59 ([some (.ref 0), some (.int (wh))], [.int ((σ 1 0))], σ) rfl ?_ ?_
      · trivial
      exact ev_iret rfl rfl rfl (pu_v (by rw [s_cnt, if_neg c4]; simp_all))
    refine ⟨fun c18_6 => ?_, fun c18_6 => ?_⟩
    · refine ev_blk 3 [] 67 ([some (.ref 0), some (.int (wh))], [.int ((σ 1 1))], σ) rfl ?_ ?_
      · trivial
      refine ev_callS M_J6_bitCount_0f7a4 [.int ((σ 1 1))] [] rfl rfl ln_X5_138 k_J6_bitCount_0f7a4 rfl rfl rfl (c_bitCount _ _) ?_
      refine pu_k ?_
      show xEv _ _ _ 70 ([some (.ref 0), some (.int (wh))], [.int (bcI (σ 1 1))], σ)
      exact ev_iret rfl rfl rfl (pu_v (by rw [s_cnt, if_neg c4]; simp_all))
    refine ⟨fun c18_7 => ?_, fun c18_7 => ?_⟩
    · refine ev_blk 3 [] 78 ([some (.ref 0), some (.int (wh))], [.int ((σ 1 13))], σ) rfl ?_ ?_
      · trivial
      exact ev_iret rfl rfl rfl (pu_v (by rw [s_cnt, if_neg c4]; simp_all))
    refine ⟨fun c18_8 => ?_, fun c18_8 => ?_⟩
    · refine ev_blk 2 [] 83 ([some (.ref 0), some (.int (wh))], [.int ((σ 0 4))], σ) rfl ?_ ?_
      · trivial
      exact ev_iret rfl rfl rfl (pu_v (by rw [s_cnt, if_neg c4]; simp_all))
    refine ⟨fun c18_9 => ?_, fun c18_9 => ?_⟩
    · refine ev_blk 2 [] 88 ([some (.ref 0), some (.int (wh))], [.ref 1], σ) rfl ?_ ?_
      · trivial
      refine ev_callV M_X3_freePlaces [] [] 1 rfl rfl ln_X5_146 k_X3_freePlaces rfl rfl rfl rfl rfl rfl (c_freePlaces σ L R hL hR h0 h1) ?_
      refine pu_k ?_
      show xEv _ _ _ 91 ([some (.ref 0), some (.int (wh))], [.int (nI (s_free (fun r p => !bt (σ 10 r) p) L R))], σ)
      exact ev_iret rfl rfl rfl (pu_v (by rw [s_cnt, if_neg c4]; simp_all))
    show xEv _ _ _ 92 ([some (.ref 0), some (.int (wh))], [], σ)
    refine ev_blk 1 [] 94 ([some (.ref 0), some (.int (wh))], [.int ((-2 : Int32))], σ) rfl ?_ ?_
    · trivial
    exact ev_iret rfl rfl rfl (pu_v (by rw [s_cnt, if_neg c4]; simp_all))
  · replace c4 := zi_1.mp c4
    refine ev_blk 5 [vp_in (wh) 5] 16 ([some (.ref 0), some (.int (wh))], [.int ((σ 9) wh.toNatClampNeg)], σ) rfl ?_ ?_
    · obtain ⟨j, hj, rfl⟩ := nI_of c4.1
      exact vp_in_nI (Nat.lt_of_not_le (fun z => c4.2 (Int32.lt_of_lt_of_le (show (4 : Int32) < nI 5 by decide) (nI_le (a := 5) z hj)))) (by decide)
    exact ev_iret rfl rfl rfl (pu_v (by rw [s_cnt, if_pos c4]))
end
section
set_option maxRecDepth 100000 in
theorem m_set (σ : xSg) (wh v : Int32) : xCtr M_X6_set [.ref 57, .int (wh), .int (v)] σ (setQ 68 σ wh v) := by
  refine ctr_ev ok_X6_set (by decide +kernel) rfl rfl rfl ?_
  show xEv (.inl 1) M_X6_set _ 0 ([some (.ref 57), some (.int (wh)), some (.int (v)), none, none], [], σ)
  rcases pk_ix wh (n := 5) (by decide) with hb | hb | ⟨W, hW, rfl⟩
  · refine ev_blk 3 [] 3 ([some (.ref 57), some (.int (wh)), some (.int (v)), none, none], [.int ((4 : Int32)), .int ((0 : Int32)), .int (wh)], σ) rfl ?_ ?_
    · trivial
    refine ev_callS M_X6_within [.int (wh), .int ((0 : Int32)), .int ((4 : Int32))] [] rfl rfl ln_X6_110 k_X6_within rfl rfl rfl (m_within _ _ _ _) ?_
    refine pu_k ?_
    show xEv _ _ _ 6 ([some (.ref 57), some (.int (wh)), some (.int (v)), none, none], [.int (zi (¬ wh < (0 : Int32) ∧ ¬ (4 : Int32) < wh))], σ)
    refine ev_br 0 [] (¬ (zi (¬ wh < (0 : Int32) ∧ ¬ (4 : Int32) < wh)) = 0) 12 9 ([some (.ref 57), some (.int (wh)), some (.int (v)), none, none], [], σ) rfl ?_ (fun c6 => ?_) (fun c6 => ?_)
    · trivial
    · exact absurd hb (zi_1.mp c6).1
    · replace c6 := zi_n.mp c6
      refine ev_blk 1 [] 11 ([some (.ref 57), some (.int (wh)), some (.int (v)), none, none], [.int ((-2 : Int32))], σ) rfl ?_ ?_
      · trivial
      exact ev_iret rfl rfl rfl (Or.inr ⟨fun W hW q => by subst q; exact absurd hb (nI_pos (by omega)), rfl, rfl⟩)
  · refine ev_blk 3 [] 3 ([some (.ref 57), some (.int (wh)), some (.int (v)), none, none], [.int ((4 : Int32)), .int ((0 : Int32)), .int (wh)], σ) rfl ?_ ?_
    · trivial
    refine ev_callS M_X6_within [.int (wh), .int ((0 : Int32)), .int ((4 : Int32))] [] rfl rfl ln_X6_110 k_X6_within rfl rfl rfl (m_within _ _ _ _) ?_
    refine pu_k ?_
    show xEv _ _ _ 6 ([some (.ref 57), some (.int (wh)), some (.int (v)), none, none], [.int (zi (¬ wh < (0 : Int32) ∧ ¬ (4 : Int32) < wh))], σ)
    refine ev_br 0 [] (¬ (zi (¬ wh < (0 : Int32) ∧ ¬ (4 : Int32) < wh)) = 0) 12 9 ([some (.ref 57), some (.int (wh)), some (.int (v)), none, none], [], σ) rfl ?_ (fun c6 => ?_) (fun c6 => ?_)
    · trivial
    · exact absurd (Int32.lt_of_lt_of_le (show (4 : Int32) < nI 5 by decide) hb) (zi_1.mp c6).2
    · replace c6 := zi_n.mp c6
      refine ev_blk 1 [] 11 ([some (.ref 57), some (.int (wh)), some (.int (v)), none, none], [.int ((-2 : Int32))], σ) rfl ?_ ?_
      · trivial
      exact ev_iret rfl rfl rfl (Or.inr ⟨fun W hW q => by subst q; exact absurd hb (nI_ge hW (by decide)), rfl, rfl⟩)
  · rcases (show W = 0 ∨ W = 1 ∨ W = 2 ∨ W = 3 ∨ W = 4 by omega) with rfl | rfl | rfl | rfl | rfl
    · show xEv _ _ _ 0 ([some (.ref 57), some (.int ((0 : Int32))), some (.int (v)), none, none], [], σ)
      refine ev_blk 3 [] 3 ([some (.ref 57), some (.int ((0 : Int32))), some (.int (v)), none, none], [.int ((4 : Int32)), .int ((0 : Int32)), .int ((0 : Int32))], σ) rfl ?_ ?_
      · trivial
      refine ev_callS M_X6_within [.int ((0 : Int32)), .int ((0 : Int32)), .int ((4 : Int32))] [] rfl rfl ln_X6_110 k_X6_within rfl rfl rfl (m_within _ _ _ _) ?_
      refine pu_k ?_
      rw [zi_t (show ¬ (0 : Int32) < (0 : Int32) ∧ ¬ (4 : Int32) < (0 : Int32) by decide)]
      show xEv _ _ _ 6 ([some (.ref 57), some (.int ((0 : Int32))), some (.int (v)), none, none], [.int ((1 : Int32))], σ)
      refine ev_br 0 [] (¬ (1 : Int32) = 0) 12 9 ([some (.ref 57), some (.int ((0 : Int32))), some (.int (v)), none, none], [], σ) rfl ?_ (fun c6 => ?_) (fun c6 => ?_)
      · trivial
      · refine ev_br 1 [] (¬ (0 : Int32) = 0) 21 16 ([some (.ref 57), some (.int ((0 : Int32))), some (.int (v)), none, none], [], σ) rfl ?_ (fun c13 => ?_) (fun c13 => ?_)
        · trivial
        · exact absurd c13 (by decide)
        · refine ev_br 6 [] (¬ (0 : Int32) = (4 : Int32)) 62 58 ([some (.ref 57), some (.int ((0 : Int32))), some (.int (v)), some (.int ((20 : Int32))), none], [.int (v)], σ) rfl ?_ (fun c55 => ?_) (fun c55 => ?_)
          · trivial
          · refine ev_blk 2 [] 64 ([some (.ref 57), some (.int ((0 : Int32))), some (.int (v)), some (.int ((20 : Int32))), none], [.int ((20 : Int32)), .int ((1 : Int32)), .int (v)], σ) rfl ?_ ?_
            · trivial
            refine ev_callS M_X6_within [.int (v), .int ((1 : Int32)), .int ((20 : Int32))] [] rfl rfl ln_X6_110 k_X6_within rfl rfl rfl (m_within _ _ _ _) ?_
            refine pu_k ?_
            show xEv _ _ _ 67 ([some (.ref 57), some (.int ((0 : Int32))), some (.int (v)), some (.int ((20 : Int32))), none], [.int (zi (¬ v < (1 : Int32) ∧ ¬ (20 : Int32) < v))], σ)
            refine ev_br 0 [] (¬ (zi (¬ v < (1 : Int32) ∧ ¬ (20 : Int32) < v)) = 0) 73 70 ([some (.ref 57), some (.int ((0 : Int32))), some (.int (v)), some (.int ((20 : Int32))), none], [], σ) rfl ?_ (fun c67 => ?_) (fun c67 => ?_)
            · trivial
            · replace c67 := zi_1.mp c67
              refine ev_blk 11 [vp_in ((0 : Int32)) 5, vp_in ((0 : Int32)) 5] 90 ([some (.ref 57), some (.int ((0 : Int32))), some (.int (v)), some (.int ((20 : Int32))), some (.int ((σ 68) 0))], [.int ((σ 68) 0)], (x_up σ 68 (upd (σ 68) 0 (v)))) rfl ?_ ?_
              · exact ⟨(vp_in_nI (n := 0) (by decide) (by decide)), (vp_in_nI (n := 0) (by decide) (by decide))⟩
              exact ev_iret rfl rfl rfl (Or.inl ⟨0, by decide, rfl, c67.1, c67.2, rfl, rfl⟩)
            · replace c67 := zi_n.mp c67
              refine ev_blk 1 [] 72 ([some (.ref 57), some (.int ((0 : Int32))), some (.int (v)), some (.int ((20 : Int32))), none], [.int ((-2 : Int32))], σ) rfl ?_ ?_
              · trivial
              exact ev_iret rfl rfl rfl (Or.inr ⟨fun W2 h2 q => by obtain rfl : W2 = 0 := ((nI_eq (by decide) (by omega)).mp q).symm; exact (Classical.em (v < setLo 0)).imp id (fun z => Classical.byContradiction fun y => c67 ⟨z, y⟩), rfl, rfl⟩)
          · exact absurd (by decide) c55
      · exact absurd (by decide) c6
    · show xEv _ _ _ 0 ([some (.ref 57), some (.int ((1 : Int32))), some (.int (v)), none, none], [], σ)
      refine ev_blk 3 [] 3 ([some (.ref 57), some (.int ((1 : Int32))), some (.int (v)), none, none], [.int ((4 : Int32)), .int ((0 : Int32)), .int ((1 : Int32))], σ) rfl ?_ ?_
      · trivial
      refine ev_callS M_X6_within [.int ((1 : Int32)), .int ((0 : Int32)), .int ((4 : Int32))] [] rfl rfl ln_X6_110 k_X6_within rfl rfl rfl (m_within _ _ _ _) ?_
      refine pu_k ?_
      rw [zi_t (show ¬ (1 : Int32) < (0 : Int32) ∧ ¬ (4 : Int32) < (1 : Int32) by decide)]
      show xEv _ _ _ 6 ([some (.ref 57), some (.int ((1 : Int32))), some (.int (v)), none, none], [.int ((1 : Int32))], σ)
      refine ev_br 0 [] (¬ (1 : Int32) = 0) 12 9 ([some (.ref 57), some (.int ((1 : Int32))), some (.int (v)), none, none], [], σ) rfl ?_ (fun c6 => ?_) (fun c6 => ?_)
      · trivial
      · refine ev_br 1 [] (¬ (1 : Int32) = 0) 21 16 ([some (.ref 57), some (.int ((1 : Int32))), some (.int (v)), none, none], [], σ) rfl ?_ (fun c13 => ?_) (fun c13 => ?_)
        · trivial
        · refine ev_br 2 [] (¬ (1 : Int32) = (1 : Int32)) 30 26 ([some (.ref 57), some (.int ((1 : Int32))), some (.int (v)), none, none], [], σ) rfl ?_ (fun c23 => ?_) (fun c23 => ?_)
          · trivial
          · exact absurd c23 (by decide)
          · refine ev_br 6 [] (¬ (1 : Int32) = (4 : Int32)) 62 58 ([some (.ref 57), some (.int ((1 : Int32))), some (.int (v)), some (.int ((3 : Int32))), none], [.int (v)], σ) rfl ?_ (fun c55 => ?_) (fun c55 => ?_)
            · trivial
            · refine ev_blk 2 [] 64 ([some (.ref 57), some (.int ((1 : Int32))), some (.int (v)), some (.int ((3 : Int32))), none], [.int ((3 : Int32)), .int ((1 : Int32)), .int (v)], σ) rfl ?_ ?_
              · trivial
              refine ev_callS M_X6_within [.int (v), .int ((1 : Int32)), .int ((3 : Int32))] [] rfl rfl ln_X6_110 k_X6_within rfl rfl rfl (m_within _ _ _ _) ?_
              refine pu_k ?_
              show xEv _ _ _ 67 ([some (.ref 57), some (.int ((1 : Int32))), some (.int (v)), some (.int ((3 : Int32))), none], [.int (zi (¬ v < (1 : Int32) ∧ ¬ (3 : Int32) < v))], σ)
              refine ev_br 0 [] (¬ (zi (¬ v < (1 : Int32) ∧ ¬ (3 : Int32) < v)) = 0) 73 70 ([some (.ref 57), some (.int ((1 : Int32))), some (.int (v)), some (.int ((3 : Int32))), none], [], σ) rfl ?_ (fun c67 => ?_) (fun c67 => ?_)
              · trivial
              · replace c67 := zi_1.mp c67
                refine ev_blk 11 [vp_in ((1 : Int32)) 5, vp_in ((1 : Int32)) 5] 90 ([some (.ref 57), some (.int ((1 : Int32))), some (.int (v)), some (.int ((3 : Int32))), some (.int ((σ 68) 1))], [.int ((σ 68) 1)], (x_up σ 68 (upd (σ 68) 1 (v)))) rfl ?_ ?_
                · exact ⟨(vp_in_nI (n := 1) (by decide) (by decide)), (vp_in_nI (n := 1) (by decide) (by decide))⟩
                exact ev_iret rfl rfl rfl (Or.inl ⟨1, by decide, rfl, c67.1, c67.2, rfl, rfl⟩)
              · replace c67 := zi_n.mp c67
                refine ev_blk 1 [] 72 ([some (.ref 57), some (.int ((1 : Int32))), some (.int (v)), some (.int ((3 : Int32))), none], [.int ((-2 : Int32))], σ) rfl ?_ ?_
                · trivial
                exact ev_iret rfl rfl rfl (Or.inr ⟨fun W2 h2 q => by obtain rfl : W2 = 1 := ((nI_eq (by decide) (by omega)).mp q).symm; exact (Classical.em (v < setLo 1)).imp id (fun z => Classical.byContradiction fun y => c67 ⟨z, y⟩), rfl, rfl⟩)
            · exact absurd (by decide) c55
        · exact absurd (by decide) c13
      · exact absurd (by decide) c6
    · show xEv _ _ _ 0 ([some (.ref 57), some (.int ((2 : Int32))), some (.int (v)), none, none], [], σ)
      refine ev_blk 3 [] 3 ([some (.ref 57), some (.int ((2 : Int32))), some (.int (v)), none, none], [.int ((4 : Int32)), .int ((0 : Int32)), .int ((2 : Int32))], σ) rfl ?_ ?_
      · trivial
      refine ev_callS M_X6_within [.int ((2 : Int32)), .int ((0 : Int32)), .int ((4 : Int32))] [] rfl rfl ln_X6_110 k_X6_within rfl rfl rfl (m_within _ _ _ _) ?_
      refine pu_k ?_
      rw [zi_t (show ¬ (2 : Int32) < (0 : Int32) ∧ ¬ (4 : Int32) < (2 : Int32) by decide)]
      show xEv _ _ _ 6 ([some (.ref 57), some (.int ((2 : Int32))), some (.int (v)), none, none], [.int ((1 : Int32))], σ)
      refine ev_br 0 [] (¬ (1 : Int32) = 0) 12 9 ([some (.ref 57), some (.int ((2 : Int32))), some (.int (v)), none, none], [], σ) rfl ?_ (fun c6 => ?_) (fun c6 => ?_)
      · trivial
      · refine ev_br 1 [] (¬ (2 : Int32) = 0) 21 16 ([some (.ref 57), some (.int ((2 : Int32))), some (.int (v)), none, none], [], σ) rfl ?_ (fun c13 => ?_) (fun c13 => ?_)
        · trivial
        · refine ev_br 2 [] (¬ (2 : Int32) = (1 : Int32)) 30 26 ([some (.ref 57), some (.int ((2 : Int32))), some (.int (v)), none, none], [], σ) rfl ?_ (fun c23 => ?_) (fun c23 => ?_)
          · trivial
          · refine ev_br 2 [] (¬ (2 : Int32) = (2 : Int32)) 40 35 ([some (.ref 57), some (.int ((2 : Int32))), some (.int (v)), none, none], [], σ) rfl ?_ (fun c32 => ?_) (fun c32 => ?_)
            · trivial
            · exact absurd c32 (by decide)
            · refine ev_br 6 [] (¬ (2 : Int32) = (4 : Int32)) 62 58 ([some (.ref 57), some (.int ((2 : Int32))), some (.int (v)), some (.int ((99 : Int32))), none], [.int (v)], σ) rfl ?_ (fun c55 => ?_) (fun c55 => ?_)
              · trivial
              · refine ev_blk 2 [] 64 ([some (.ref 57), some (.int ((2 : Int32))), some (.int (v)), some (.int ((99 : Int32))), none], [.int ((99 : Int32)), .int ((1 : Int32)), .int (v)], σ) rfl ?_ ?_
                · trivial
                refine ev_callS M_X6_within [.int (v), .int ((1 : Int32)), .int ((99 : Int32))] [] rfl rfl ln_X6_110 k_X6_within rfl rfl rfl (m_within _ _ _ _) ?_
                refine pu_k ?_
                show xEv _ _ _ 67 ([some (.ref 57), some (.int ((2 : Int32))), some (.int (v)), some (.int ((99 : Int32))), none], [.int (zi (¬ v < (1 : Int32) ∧ ¬ (99 : Int32) < v))], σ)
                refine ev_br 0 [] (¬ (zi (¬ v < (1 : Int32) ∧ ¬ (99 : Int32) < v)) = 0) 73 70 ([some (.ref 57), some (.int ((2 : Int32))), some (.int (v)), some (.int ((99 : Int32))), none], [], σ) rfl ?_ (fun c67 => ?_) (fun c67 => ?_)
                · trivial
                · replace c67 := zi_1.mp c67
                  refine ev_blk 11 [vp_in ((2 : Int32)) 5, vp_in ((2 : Int32)) 5] 90 ([some (.ref 57), some (.int ((2 : Int32))), some (.int (v)), some (.int ((99 : Int32))), some (.int ((σ 68) 2))], [.int ((σ 68) 2)], (x_up σ 68 (upd (σ 68) 2 (v)))) rfl ?_ ?_
                  · exact ⟨(vp_in_nI (n := 2) (by decide) (by decide)), (vp_in_nI (n := 2) (by decide) (by decide))⟩
                  exact ev_iret rfl rfl rfl (Or.inl ⟨2, by decide, rfl, c67.1, c67.2, rfl, rfl⟩)
                · replace c67 := zi_n.mp c67
                  refine ev_blk 1 [] 72 ([some (.ref 57), some (.int ((2 : Int32))), some (.int (v)), some (.int ((99 : Int32))), none], [.int ((-2 : Int32))], σ) rfl ?_ ?_
                  · trivial
                  exact ev_iret rfl rfl rfl (Or.inr ⟨fun W2 h2 q => by obtain rfl : W2 = 2 := ((nI_eq (by decide) (by omega)).mp q).symm; exact (Classical.em (v < setLo 2)).imp id (fun z => Classical.byContradiction fun y => c67 ⟨z, y⟩), rfl, rfl⟩)
              · exact absurd (by decide) c55
          · exact absurd (by decide) c23
        · exact absurd (by decide) c13
      · exact absurd (by decide) c6
    · show xEv _ _ _ 0 ([some (.ref 57), some (.int ((3 : Int32))), some (.int (v)), none, none], [], σ)
      refine ev_blk 3 [] 3 ([some (.ref 57), some (.int ((3 : Int32))), some (.int (v)), none, none], [.int ((4 : Int32)), .int ((0 : Int32)), .int ((3 : Int32))], σ) rfl ?_ ?_
      · trivial
      refine ev_callS M_X6_within [.int ((3 : Int32)), .int ((0 : Int32)), .int ((4 : Int32))] [] rfl rfl ln_X6_110 k_X6_within rfl rfl rfl (m_within _ _ _ _) ?_
      refine pu_k ?_
      rw [zi_t (show ¬ (3 : Int32) < (0 : Int32) ∧ ¬ (4 : Int32) < (3 : Int32) by decide)]
      show xEv _ _ _ 6 ([some (.ref 57), some (.int ((3 : Int32))), some (.int (v)), none, none], [.int ((1 : Int32))], σ)
      refine ev_br 0 [] (¬ (1 : Int32) = 0) 12 9 ([some (.ref 57), some (.int ((3 : Int32))), some (.int (v)), none, none], [], σ) rfl ?_ (fun c6 => ?_) (fun c6 => ?_)
      · trivial
      · refine ev_br 1 [] (¬ (3 : Int32) = 0) 21 16 ([some (.ref 57), some (.int ((3 : Int32))), some (.int (v)), none, none], [], σ) rfl ?_ (fun c13 => ?_) (fun c13 => ?_)
        · trivial
        · refine ev_br 2 [] (¬ (3 : Int32) = (1 : Int32)) 30 26 ([some (.ref 57), some (.int ((3 : Int32))), some (.int (v)), none, none], [], σ) rfl ?_ (fun c23 => ?_) (fun c23 => ?_)
          · trivial
          · refine ev_br 2 [] (¬ (3 : Int32) = (2 : Int32)) 40 35 ([some (.ref 57), some (.int ((3 : Int32))), some (.int (v)), none, none], [], σ) rfl ?_ (fun c32 => ?_) (fun c32 => ?_)
            · trivial
            · refine ev_br 2 [] (¬ (3 : Int32) = (3 : Int32)) 50 45 ([some (.ref 57), some (.int ((3 : Int32))), some (.int (v)), none, none], [], σ) rfl ?_ (fun c42 => ?_) (fun c42 => ?_)
              · trivial
              · exact absurd c42 (by decide)
              · refine ev_br 6 [] (¬ (3 : Int32) = (4 : Int32)) 62 58 ([some (.ref 57), some (.int ((3 : Int32))), some (.int (v)), some (.int ((60 : Int32))), none], [.int (v)], σ) rfl ?_ (fun c55 => ?_) (fun c55 => ?_)
                · trivial
                · refine ev_blk 2 [] 64 ([some (.ref 57), some (.int ((3 : Int32))), some (.int (v)), some (.int ((60 : Int32))), none], [.int ((60 : Int32)), .int ((1 : Int32)), .int (v)], σ) rfl ?_ ?_
                  · trivial
                  refine ev_callS M_X6_within [.int (v), .int ((1 : Int32)), .int ((60 : Int32))] [] rfl rfl ln_X6_110 k_X6_within rfl rfl rfl (m_within _ _ _ _) ?_
                  refine pu_k ?_
                  show xEv _ _ _ 67 ([some (.ref 57), some (.int ((3 : Int32))), some (.int (v)), some (.int ((60 : Int32))), none], [.int (zi (¬ v < (1 : Int32) ∧ ¬ (60 : Int32) < v))], σ)
                  refine ev_br 0 [] (¬ (zi (¬ v < (1 : Int32) ∧ ¬ (60 : Int32) < v)) = 0) 73 70 ([some (.ref 57), some (.int ((3 : Int32))), some (.int (v)), some (.int ((60 : Int32))), none], [], σ) rfl ?_ (fun c67 => ?_) (fun c67 => ?_)
                  · trivial
                  · replace c67 := zi_1.mp c67
                    refine ev_blk 11 [vp_in ((3 : Int32)) 5, vp_in ((3 : Int32)) 5] 90 ([some (.ref 57), some (.int ((3 : Int32))), some (.int (v)), some (.int ((60 : Int32))), some (.int ((σ 68) 3))], [.int ((σ 68) 3)], (x_up σ 68 (upd (σ 68) 3 (v)))) rfl ?_ ?_
                    · exact ⟨(vp_in_nI (n := 3) (by decide) (by decide)), (vp_in_nI (n := 3) (by decide) (by decide))⟩
                    exact ev_iret rfl rfl rfl (Or.inl ⟨3, by decide, rfl, c67.1, c67.2, rfl, rfl⟩)
                  · replace c67 := zi_n.mp c67
                    refine ev_blk 1 [] 72 ([some (.ref 57), some (.int ((3 : Int32))), some (.int (v)), some (.int ((60 : Int32))), none], [.int ((-2 : Int32))], σ) rfl ?_ ?_
                    · trivial
                    exact ev_iret rfl rfl rfl (Or.inr ⟨fun W2 h2 q => by obtain rfl : W2 = 3 := ((nI_eq (by decide) (by omega)).mp q).symm; exact (Classical.em (v < setLo 3)).imp id (fun z => Classical.byContradiction fun y => c67 ⟨z, y⟩), rfl, rfl⟩)
                · exact absurd (by decide) c55
            · exact absurd (by decide) c32
          · exact absurd (by decide) c23
        · exact absurd (by decide) c13
      · exact absurd (by decide) c6
    · show xEv _ _ _ 0 ([some (.ref 57), some (.int ((4 : Int32))), some (.int (v)), none, none], [], σ)
      refine ev_blk 3 [] 3 ([some (.ref 57), some (.int ((4 : Int32))), some (.int (v)), none, none], [.int ((4 : Int32)), .int ((0 : Int32)), .int ((4 : Int32))], σ) rfl ?_ ?_
      · trivial
      refine ev_callS M_X6_within [.int ((4 : Int32)), .int ((0 : Int32)), .int ((4 : Int32))] [] rfl rfl ln_X6_110 k_X6_within rfl rfl rfl (m_within _ _ _ _) ?_
      refine pu_k ?_
      rw [zi_t (show ¬ (4 : Int32) < (0 : Int32) ∧ ¬ (4 : Int32) < (4 : Int32) by decide)]
      show xEv _ _ _ 6 ([some (.ref 57), some (.int ((4 : Int32))), some (.int (v)), none, none], [.int ((1 : Int32))], σ)
      refine ev_br 0 [] (¬ (1 : Int32) = 0) 12 9 ([some (.ref 57), some (.int ((4 : Int32))), some (.int (v)), none, none], [], σ) rfl ?_ (fun c6 => ?_) (fun c6 => ?_)
      · trivial
      · refine ev_br 1 [] (¬ (4 : Int32) = 0) 21 16 ([some (.ref 57), some (.int ((4 : Int32))), some (.int (v)), none, none], [], σ) rfl ?_ (fun c13 => ?_) (fun c13 => ?_)
        · trivial
        · refine ev_br 2 [] (¬ (4 : Int32) = (1 : Int32)) 30 26 ([some (.ref 57), some (.int ((4 : Int32))), some (.int (v)), none, none], [], σ) rfl ?_ (fun c23 => ?_) (fun c23 => ?_)
          · trivial
          · refine ev_br 2 [] (¬ (4 : Int32) = (2 : Int32)) 40 35 ([some (.ref 57), some (.int ((4 : Int32))), some (.int (v)), none, none], [], σ) rfl ?_ (fun c32 => ?_) (fun c32 => ?_)
            · trivial
            · refine ev_br 2 [] (¬ (4 : Int32) = (3 : Int32)) 50 45 ([some (.ref 57), some (.int ((4 : Int32))), some (.int (v)), none, none], [], σ) rfl ?_ (fun c42 => ?_) (fun c42 => ?_)
              · trivial
              · refine ev_br 5 [] (¬ (4 : Int32) = (4 : Int32)) 62 58 ([some (.ref 57), some (.int ((4 : Int32))), some (.int (v)), some (.int ((4 : Int32))), none], [.int (v)], σ) rfl ?_ (fun c55 => ?_) (fun c55 => ?_)
                · trivial
                · exact absurd c55 (by decide)
                · refine ev_blk 3 [] 64 ([some (.ref 57), some (.int ((4 : Int32))), some (.int (v)), some (.int ((4 : Int32))), none], [.int ((4 : Int32)), .int ((0 : Int32)), .int (v)], σ) rfl ?_ ?_
                  · trivial
                  refine ev_callS M_X6_within [.int (v), .int ((0 : Int32)), .int ((4 : Int32))] [] rfl rfl ln_X6_110 k_X6_within rfl rfl rfl (m_within _ _ _ _) ?_
                  refine pu_k ?_
                  show xEv _ _ _ 67 ([some (.ref 57), some (.int ((4 : Int32))), some (.int (v)), some (.int ((4 : Int32))), none], [.int (zi (¬ v < (0 : Int32) ∧ ¬ (4 : Int32) < v))], σ)
                  refine ev_br 0 [] (¬ (zi (¬ v < (0 : Int32) ∧ ¬ (4 : Int32) < v)) = 0) 73 70 ([some (.ref 57), some (.int ((4 : Int32))), some (.int (v)), some (.int ((4 : Int32))), none], [], σ) rfl ?_ (fun c67 => ?_) (fun c67 => ?_)
                  · trivial
                  · replace c67 := zi_1.mp c67
                    refine ev_blk 11 [vp_in ((4 : Int32)) 5, vp_in ((4 : Int32)) 5] 90 ([some (.ref 57), some (.int ((4 : Int32))), some (.int (v)), some (.int ((4 : Int32))), some (.int ((σ 68) 4))], [.int ((σ 68) 4)], (x_up σ 68 (upd (σ 68) 4 (v)))) rfl ?_ ?_
                    · exact ⟨(vp_in_nI (n := 4) (by decide) (by decide)), (vp_in_nI (n := 4) (by decide) (by decide))⟩
                    exact ev_iret rfl rfl rfl (Or.inl ⟨4, by decide, rfl, c67.1, c67.2, rfl, rfl⟩)
                  · replace c67 := zi_n.mp c67
                    refine ev_blk 1 [] 72 ([some (.ref 57), some (.int ((4 : Int32))), some (.int (v)), some (.int ((4 : Int32))), none], [.int ((-2 : Int32))], σ) rfl ?_ ?_
                    · trivial
                    exact ev_iret rfl rfl rfl (Or.inr ⟨fun W2 h2 q => by obtain rfl : W2 = 4 := ((nI_eq (by decide) (by omega)).mp q).symm; exact (Classical.em (v < setLo 4)).imp id (fun z => Classical.byContradiction fun y => c67 ⟨z, y⟩), rfl, rfl⟩)
              · exact absurd (by decide) c42
            · exact absurd (by decide) c32
          · exact absurd (by decide) c23
        · exact absurd (by decide) c13
      · exact absurd (by decide) c6
def barM (σ : xSg) (rw pl is : Int32) : Option Value → xSg → Prop := fun r σ' =>
  (∃ R q, R < 3 ∧ q < 20 ∧ rw = nI R ∧ pl = nI q ∧ r = some (.int (zi (¬ σ 69 (20 * R + q) = 0))) ∧ σ' = x_up σ 69 (upd (σ 69) (20 * R + q) is)) ∨ ((∀ R q, R < 3 → q < 20 → rw = nI R → pl = nI q → False) ∧ r = some (.int (-2)) ∧ σ' = σ)
set_option maxRecDepth 100000 in
theorem m_bar (σ : xSg) (rw pl is : Int32) (his : is = 0 ∨ is = 1) : xCtr M_X6_bar [.ref 57, .int (rw), .int (pl), .int (is)] σ (barM σ rw pl is) := by
  refine ctr_ev ok_X6_bar (by decide +kernel) rfl rfl rfl ?_
  show xEv (.inl 1) M_X6_bar _ 0 ([some (.ref 57), some (.int (rw)), some (.int (pl)), some (.int (is)), none], [], σ)
  refine ev_blk 3 [] 3 ([some (.ref 57), some (.int (rw)), some (.int (pl)), some (.int (is)), none], [.int ((2 : Int32)), .int ((0 : Int32)), .int (rw)], σ) rfl ?_ ?_
  · trivial
  refine ev_callS M_X6_within [.int (rw), .int ((0 : Int32)), .int ((2 : Int32))] [] rfl rfl ln_X6_110 k_X6_within rfl rfl rfl (m_within _ _ _ _) ?_
  refine pu_k ?_
  show xEv _ _ _ 6 ([some (.ref 57), some (.int (rw)), some (.int (pl)), some (.int (is)), none], [.int (zi (¬ rw < (0 : Int32) ∧ ¬ (2 : Int32) < rw))], σ)
  refine ev_br 0 [] ((zi (¬ rw < (0 : Int32) ∧ ¬ (2 : Int32) < rw)) = 0) 19 9 ([some (.ref 57), some (.int (rw)), some (.int (pl)), some (.int (is)), none], [], σ) rfl ?_ (fun c6 => ?_) (fun c6 => ?_)
  · trivial
  · replace c6 := zi_0.mp c6
    refine ev_blk 1 [] 21 ([some (.ref 57), some (.int (rw)), some (.int (pl)), some (.int (is)), none], [.int ((-2 : Int32))], σ) rfl ?_ ?_
    · trivial
    exact ev_iret rfl rfl rfl (Or.inr ⟨fun R q hR hq e1 e2 => by subst e1; subst e2; exact c6 ⟨nI_pos (by omega), nI_nlt (a := 2) (by omega) (by decide)⟩, rfl, rfl⟩)
  · replace c6 := zi_1.mp c6
    refine ev_blk 3 [] 13 ([some (.ref 57), some (.int (rw)), some (.int (pl)), some (.int (is)), none], [.int ((19 : Int32)), .int ((0 : Int32)), .int (pl)], σ) rfl ?_ ?_
    · trivial
    refine ev_callS M_X6_within [.int (pl), .int ((0 : Int32)), .int ((19 : Int32))] [] rfl rfl ln_X6_110 k_X6_within rfl rfl rfl (m_within _ _ _ _) ?_
    refine pu_k ?_
    show xEv _ _ _ 16 ([some (.ref 57), some (.int (rw)), some (.int (pl)), some (.int (is)), none], [.int (zi (¬ pl < (0 : Int32) ∧ ¬ (19 : Int32) < pl))], σ)
    refine ev_br 0 [] (¬ (zi (¬ pl < (0 : Int32) ∧ ¬ (19 : Int32) < pl)) = 0) 22 19 ([some (.ref 57), some (.int (rw)), some (.int (pl)), some (.int (is)), none], [], σ) rfl ?_ (fun c16 => ?_) (fun c16 => ?_)
    · trivial
    · replace c16 := zi_1.mp c16
      obtain ⟨R, hR0, rfl⟩ := nI_of c6.1
      obtain ⟨q, hq0, rfl⟩ := nI_of c16.1
      have hR : R < 3 := Nat.lt_of_not_le (fun z => c6.2 (Int32.lt_of_lt_of_le (show (2 : Int32) < nI 3 by decide) (nI_le (a := 3) z hR0)))
      have hq : q < 20 := Nat.lt_of_not_le (fun z => c16.2 (Int32.lt_of_lt_of_le (show (19 : Int32) < nI 20 by decide) (nI_le (a := 20) z hq0)))
      have hRc := idx60 hR hq
      have hin := vpi60 hR hq
      refine ev_br 8 [vp_in (((20 : Int32) * (nI R)) + (nI q)) 60] (((σ 69) (((20 : Int32) * (nI R)) + (nI q)).toNatClampNeg) = 0) 40 36 ([some (.ref 57), some (.int (nI R)), some (.int (nI q)), some (.int (is)), none], [], σ) rfl ?_ (fun c33 => ?_) (fun c33 => ?_)
      · exact hin
      · rw [hRc] at c33
        refine ev_blk 12 [vp_in (((20 : Int32) * (nI R)) + (nI q)) 60, is = 0 ∨ is = 1] 57 ([some (.ref 57), some (.int (nI R)), some (.int (nI q)), some (.int (is)), some (.int ((0 : Int32)))], [.int ((0 : Int32))], (x_up σ 69 (upd (σ 69) (((20 : Int32) * (nI R)) + (nI q)).toNatClampNeg (is)))) rfl ?_ ?_
        · exact ⟨hin, his⟩
        rw [hRc]
        exact ev_iret rfl rfl rfl (Or.inl ⟨R, q, hR, hq, rfl, rfl, by rw [zi_f (fun z => z c33)], rfl⟩)
      · rw [hRc] at c33
        refine ev_blk 13 [vp_in (((20 : Int32) * (nI R)) + (nI q)) 60, is = 0 ∨ is = 1] 57 ([some (.ref 57), some (.int (nI R)), some (.int (nI q)), some (.int (is)), some (.int ((1 : Int32)))], [.int ((1 : Int32))], (x_up σ 69 (upd (σ 69) (((20 : Int32) * (nI R)) + (nI q)).toNatClampNeg (is)))) rfl ?_ ?_
        · exact ⟨hin, his⟩
        rw [hRc]
        exact ev_iret rfl rfl rfl (Or.inl ⟨R, q, hR, hq, rfl, rfl, by rw [zi_t c33], rfl⟩)
    · replace c16 := zi_n.mp c16
      refine ev_blk 1 [] 21 ([some (.ref 57), some (.int (rw)), some (.int (pl)), some (.int (is)), none], [.int ((-2 : Int32))], σ) rfl ?_ ?_
      · trivial
      exact ev_iret rfl rfl rfl (Or.inr ⟨fun R q hR hq e1 e2 => by subst e1; subst e2; exact c16 ⟨nI_pos (by omega), nI_nlt (a := 19) (by omega) (by decide)⟩, rfl, rfl⟩)
set_option maxRecDepth 100000 in
theorem m_cap (σ : xSg) (day v : Int32) : xCtr M_X6_cap [.ref 57, .int (day), .int (v)] σ (capQ 70 1 σ day v) := by
  refine ctr_ev ok_X6_cap (by decide +kernel) rfl rfl rfl ?_
  show xEv (.inl 1) M_X6_cap _ 0 ([some (.ref 57), some (.int (day)), some (.int (v)), none], [], σ)
  refine ev_blk 3 [] 4 ([some (.ref 57), some (.int (day)), some (.int (v)), none], [.int ((99 : Int32)), .int ((0 : Int32)), .int (day)], σ) rfl ?_ ?_
  · trivial
  refine ev_callS M_X6_within [.int (day), .int ((0 : Int32)), .int ((99 : Int32))] [] rfl rfl ln_X6_110 k_X6_within rfl rfl rfl (m_within _ _ _ _) ?_
  refine pu_k ?_
  show xEv _ _ _ 7 ([some (.ref 57), some (.int (day)), some (.int (v)), none], [.int (zi (¬ day < (0 : Int32) ∧ ¬ (99 : Int32) < day))], σ)
  refine ev_br 0 [] ((zi (¬ day < (0 : Int32) ∧ ¬ (99 : Int32) < day)) = 0) 20 10 ([some (.ref 57), some (.int (day)), some (.int (v)), none], [], σ) rfl ?_ (fun c7 => ?_) (fun c7 => ?_)
  · trivial
  · replace c7 := zi_0.mp c7
    refine ev_blk 1 [] 22 ([some (.ref 57), some (.int (day)), some (.int (v)), none], [.int ((-2 : Int32))], σ) rfl ?_ ?_
    · trivial
    exact ev_iret rfl rfl rfl (Or.inr ⟨fun W hW q => by subst q; exact absurd ⟨nI_pos (by omega), nI_nlt (a := 99) (by omega) (by decide)⟩ c7, rfl, rfl⟩)
  · replace c7 := zi_1.mp c7
    refine ev_blk 3 [] 14 ([some (.ref 57), some (.int (day)), some (.int (v)), none], [.int ((99999 : Int32)), .int ((-1 : Int32)), .int (v)], σ) rfl ?_ ?_
    · trivial
    refine ev_callS M_X6_within [.int (v), .int ((-1 : Int32)), .int ((99999 : Int32))] [] rfl rfl ln_X6_110 k_X6_within rfl rfl rfl (m_within _ _ _ _) ?_
    refine pu_k ?_
    show xEv _ _ _ 17 ([some (.ref 57), some (.int (day)), some (.int (v)), none], [.int (zi (¬ v < (-1 : Int32) ∧ ¬ (99999 : Int32) < v))], σ)
    refine ev_br 0 [] (¬ (zi (¬ v < (-1 : Int32) ∧ ¬ (99999 : Int32) < v)) = 0) 23 20 ([some (.ref 57), some (.int (day)), some (.int (v)), none], [], σ) rfl ?_ (fun c17 => ?_) (fun c17 => ?_)
    · trivial
    · replace c17 := zi_1.mp c17
      obtain ⟨W, hW0, rfl⟩ := nI_of c7.1
      have hW : W < 100 := Nat.lt_of_not_le (fun z => c7.2 (Int32.lt_of_lt_of_le (show (99 : Int32) < nI 100 by decide) (nI_le (a := 100) z hW0)))
      have hWc : (nI W).toNatClampNeg = W := nI_clamp (by omega)
      have hin : vp_in (nI W) 100 := vp_in_nI hW (by decide)
      refine ev_blk 15 [vp_in (nI W) 100, vp_in (nI W) 100] 42 ([some (.ref 57), some (.int (nI W)), some (.int (v)), some (.int (((σ 70) (nI W).toNatClampNeg) - (1 : Int32)))], [.int (((σ 70) (nI W).toNatClampNeg) - (1 : Int32))], (x_up σ 70 (upd (σ 70) (nI W).toNatClampNeg (v + (1 : Int32))))) rfl ?_ ?_
      · exact ⟨hin, hin⟩
      rw [hWc]
      exact ev_iret rfl rfl rfl (Or.inl ⟨W, hW, rfl, c17.1, c17.2, rfl, rfl⟩)
    · replace c17 := zi_n.mp c17
      refine ev_blk 1 [] 22 ([some (.ref 57), some (.int (day)), some (.int (v)), none], [.int ((-2 : Int32))], σ) rfl ?_ ?_
      · trivial
      exact ev_iret rfl rfl rfl (Or.inr ⟨fun W hW q => (Classical.em (v < -1)).imp id (fun z => Classical.byContradiction fun y => c17 ⟨z, y⟩), rfl, rfl⟩)
end
section
theorem x_p1 {x : Int32} : x + 1 = 0 ↔ x = -1 := ⟨fun h => by have := congrArg (· - 1) h; simpa [Int32.add_sub_cancel] using this, fun h => by rw [h]; decide⟩
theorem m_mayOf_lp (σ : xSg) (f : Nat → Int32) (hf : ∀ i, i < 100 → σ 70 i = f i + 1) (d : Nat) (V : Int32) : ∀ k, k < 100 → s_cap f k = V → xEv (.inl 1) M_X6_mayOf (fun r1 σ1 => r1 = some (.int V) ∧ σ1 = σ) 7 ([some (.ref 57), some (.int (nI d)), some (.int (nI k))], [], σ) := by
  intro k
  induction k with
  | zero =>
    intro hk hV
    have hkc : (nI 0).toNatClampNeg = 0 := rfl
    refine ev_br 1 [] ((nI 0) ≤ 0) 26 11 ([some (.ref 57), some (.int (nI d)), some (.int (nI 0))], [], σ) rfl ?_ (fun c8 => ?_) (fun c8 => ?_)
    · trivial
    · refine ev_blk 6 [vp_in (nI 0) 100] 34 ([some (.ref 57), some (.int (nI d)), some (.int (nI 0))], [.int (((σ 70) (nI 0).toNatClampNeg) - (1 : Int32))], σ) rfl ?_ ?_
      · exact vp_in_nI (by omega) (by decide)
      rw [hkc]
      exact ev_iret rfl rfl rfl (pu_v (by rw [hf 0 (by decide), Int32.add_sub_cancel, ← hV, s_cap]))
    · exact absurd (by decide) c8
  | succ k ih =>
    intro hk hV
    have hkc : (nI (k + 1)).toNatClampNeg = k + 1 := nI_clamp (by omega)
    have hfk := hf (k + 1) hk
    rw [s_cap] at hV
    refine ev_br 1 [] ((nI (k + 1)) ≤ 0) 26 11 ([some (.ref 57), some (.int (nI d)), some (.int (nI (k + 1)))], [], σ) rfl ?_ (fun c8 => ?_) (fun c8 => ?_)
    · trivial
    · exact absurd c8 (show ¬ nI (k + 1) ≤ nI 0 from nI_nle (by omega) (by omega))
    · refine ev_br 4 [vp_in (nI (k + 1)) 100] (¬ ((σ 70) (nI (k + 1)).toNatClampNeg) = 0) 26 20 ([some (.ref 57), some (.int (nI d)), some (.int (nI (k + 1)))], [], σ) rfl ?_ (fun c17 => ?_) (fun c17 => ?_)
      · exact vp_in_nI (by omega) (by decide)
      · rw [hkc] at c17
        refine ev_blk 6 [vp_in (nI (k + 1)) 100] 34 ([some (.ref 57), some (.int (nI d)), some (.int (nI (k + 1)))], [.int (((σ 70) (nI (k + 1)).toNatClampNeg) - (1 : Int32))], σ) rfl ?_ ?_
        · exact vp_in_nI (by omega) (by decide)
        rw [hkc]
        rw [hfk] at c17
        rw [if_neg (fun q => c17 (x_p1.mpr q))] at hV
        exact ev_iret rfl rfl rfl (pu_v (by rw [hfk, Int32.add_sub_cancel, hV]))
      · rw [hkc] at c17
        refine ev_blk 2 [] 7 ([some (.ref 57), some (.int (nI d)), some (.int ((nI (k + 1)) + (-1 : Int32)))], [], σ) rfl ?_ ?_
        · trivial
        rw [hfk] at c17
        rw [if_pos (x_p1.mp (Classical.byContradiction c17))] at hV
        rw [pk_m1]
        exact ih (by omega) hV
set_option maxRecDepth 100000 in
theorem m_mayOf (σ : xSg) (f : Nat → Int32) (hf : ∀ i, i < 100 → σ 70 i = f i + 1) (d : Nat) (hd : d < 2 ^ 31) : xCtr M_X6_mayOf [.ref 57, .int (nI d)] σ (fun r1 σ1 => r1 = some (.int (s_bnd f d)) ∧ σ1 = σ) := by
  refine ctr_ev ok_X6_mayOf (by decide +kernel) rfl rfl rfl ?_
  show xEv (.inl 1) M_X6_mayOf _ 0 ([some (.ref 57), some (.int (nI d)), none], [], σ)
  have hmn : x_mn (nI d) (99 : Int32) = nI (if d < 99 then d else 99) := by
    unfold x_mn
    by_cases h : d < 99
    · rw [if_neg (show ¬ (99 : Int32) < nI d from nI_nlt (a := 99) (b := d) (by omega) (by decide)), if_pos h]
    · rw [if_neg h]
      by_cases h2 : d = 99
      · subst h2; decide
      · rw [if_pos (show (99 : Int32) < nI d from nI_lt (a := 99) (by omega) hd)]; rfl
  refine ev_blk 4 [] 7 ([some (.ref 57), some (.int (nI d)), some (.int (x_mn (nI d) (99 : Int32)))], [], σ) rfl ?_ ?_
  · trivial
  rw [hmn]
  exact m_mayOf_lp σ f hf d _ (if d < 99 then d else 99) (by split <;> omega) rfl
set_option maxRecDepth 100000 in
theorem m_may (σ : xSg) (f : Nat → Int32) (hf : ∀ i, i < 100 → σ 70 i = f i + 1) (day : Int32) : xCtr M_X6_may [.ref 57, .int (day)] σ (fun r1 σ1 => r1 = some (.int (s_may f day)) ∧ σ1 = σ) := by
  refine ctr_ev ok_X6_may (by decide +kernel) rfl rfl rfl ?_
  show xEv (.inl 2) M_X6_may _ 0 ([some (.ref 57), some (.int (day))], [], σ)
  have h2 : iN 200 day ↔ (¬ day < 0 ∧ ¬ (199 : Int32) < day) := by
    constructor
    · rintro ⟨a, b⟩
      obtain ⟨d, hd, rfl⟩ := nI_of a
      exact ⟨a, nI_nlt (a := 199) (by have := mt (fun z => nI_le (a := 200) (b := d) z hd) b; omega) (by decide)⟩
    · rintro ⟨a, b⟩
      exact ⟨a, fun q => b (Int32.lt_of_lt_of_le (by decide) q)⟩
  refine ev_blk 3 [] 5 ([some (.ref 57), some (.int (day))], [.int ((199 : Int32)), .int ((0 : Int32)), .int (day)], σ) rfl ?_ ?_
  · trivial
  refine ev_callS M_X6_within [.int (day), .int ((0 : Int32)), .int ((199 : Int32))] [] rfl rfl ln_X6_110 k_X6_within rfl rfl rfl (m_within _ _ _ _) ?_
  refine pu_k ?_
  show xEv _ _ _ 8 ([some (.ref 57), some (.int (day))], [.int (zi (¬ day < (0 : Int32) ∧ ¬ (199 : Int32) < day))], σ)
  refine ev_br 0 [] ((zi (¬ day < (0 : Int32) ∧ ¬ (199 : Int32) < day)) = 0) 19 11 ([some (.ref 57), some (.int (day))], [], σ) rfl ?_ (fun c8 => ?_) (fun c8 => ?_)
  · trivial
  · replace c8 := zi_0.mp c8
    refine ev_blk 1 [] 21 ([some (.ref 57), some (.int (day))], [.int ((-2 : Int32))], σ) rfl ?_ ?_
    · trivial
    exact ev_iret rfl rfl rfl (pu_v (by rw [s_may, if_neg (fun q => c8 (h2.mp q))]))
  · replace c8 := zi_1.mp c8
    refine ev_blk 2 [] 13 ([some (.ref 57), some (.int (day))], [.int (day), .ref 57], σ) rfl ?_ ?_
    · trivial
    obtain ⟨d, hd, rfl⟩ := nI_of c8.1
    have hdc : (nI d).toNatClampNeg = d := nI_clamp hd
    refine ev_callV M_X6_mayOf [.int (nI d)] [] 57 rfl rfl ln_X6_129 k_X6_mayOf rfl rfl rfl rfl rfl rfl (m_mayOf σ f hf d hd) ?_
    refine pu_k ?_
    show xEv _ _ _ 16 ([some (.ref 57), some (.int (nI d))], [.int (s_bnd f d)], σ)
    refine ev_blk 1 [] 21 ([some (.ref 57), some (.int (nI d))], [.int (s_bnd f d)], σ) rfl ?_ ?_
    · trivial
    exact ev_iret rfl rfl rfl (pu_v (by rw [s_may, if_pos (h2.mpr c8), hdc]))
theorem mSh {n : Nat} {x : Int32} (hn : n ≤ 10) : (¬ x < 0 ∧ ¬ nI n - 1 < x) ↔ iN n x := by
  constructor
  · rintro ⟨a, b⟩
    obtain ⟨j, hj, rfl⟩ := nI_of a
    cases n with
    | zero => exact absurd (show nI 0 - 1 < nI j from Int32.lt_of_lt_of_le (show nI 0 - 1 < 0 by decide) (Int32.not_lt.mp a)) b
    | succ n =>
      rw [show nI (n + 1) - 1 = nI n from i_sub (b := 1) (by omega)] at b
      exact ⟨a, nI_ge (by have := mt (fun z => nI_lt (a := n) (b := j) z hj) b; omega) (by omega)⟩
  · rintro ⟨a, b⟩
    obtain ⟨j, hj, rfl⟩ := nI_of a
    have hjn : j < n := Nat.lt_of_not_le (fun z => b (nI_le z hj))
    refine ⟨a, ?_⟩
    rw [show nI n - 1 = nI (n - 1) from i_sub (b := 1) (by omega)]
    exact nI_nlt (by omega) (by omega)
set_option maxRecDepth 100000 in
theorem m_told (σ : xSg) (n : Nat) (hn : σ 57 0 = nI n) (hn10 : n ≤ 10) (x wh : Int32) : xCtr M_X6_told [.ref 57, .int (x), .int (wh)] σ (fun r σ1 => r = some (.int (s_tld n (atM σ) (σ 64) (σ 65) x wh)) ∧ σ1 = σ) := by
  refine ctr_ev ok_X6_told (by decide +kernel) rfl rfl rfl ?_
  show xEv (.inl 2) M_X6_told _ 0 ([some (.ref 57), some (.int (x)), some (.int (wh))], [], σ)
  refine ev_blk 2 [] 2 ([some (.ref 57), some (.int (x)), some (.int (wh))], [.int (x), .ref 57], σ) rfl ?_ ?_
  · trivial
  refine ev_callV M_X6_isShip [.int (x)] [] 57 rfl rfl ln_X6_136 k_X6_isShip rfl rfl rfl rfl rfl rfl (m_isShip _ _) ?_
  refine pu_k ?_
  show xEv _ _ _ 5 ([some (.ref 57), some (.int (x)), some (.int (wh))], [.int (zi (¬ (x) < 0 ∧ ¬ σ 57 0 - 1 < (x)))], σ)
  refine ev_br 0 [] (¬ (zi (¬ (x) < 0 ∧ ¬ σ 57 0 - 1 < (x))) = 0) 11 8 ([some (.ref 57), some (.int (x)), some (.int (wh))], [], σ) rfl ?_ (fun c5 => ?_) (fun c5 => ?_)
  · trivial
  · replace c5 := zi_1.mp c5
    rw [hn] at c5
    have hx := (mSh hn10).mp c5
    obtain ⟨j, hj, rfl⟩ := nI_of hx.1
    have hjn : j < n := Nat.lt_of_not_le (fun z => hx.2 (nI_le z hj))
    have hjc : (nI j).toNatClampNeg = j := nI_clamp hj
    have hin : vp_in (nI j) 10 := vp_in_nI (by omega) (by decide)
    have ev : ∀ v : Int32, v = s_told (atM σ) (σ 64) (σ 65) j wh → (some (Value.int v) = some (Value.int (s_tld n (atM σ) (σ 64) (σ 65) (nI j) wh)) ∧ σ = σ) := fun v hv => ⟨by rw [hv, s_tld, if_pos hx, hjc], rfl⟩
    refine ev_sw 1 [] (wh) [((0 : Int32), 68), ((1 : Int32), 75), ((2 : Int32), 82), ((3 : Int32), 89), ((4 : Int32), 96), ((5 : Int32), 103), ((6 : Int32), 110), ((7 : Int32), 117), ((8 : Int32), 123), ((9 : Int32), 129)] 136 ([some (.ref 57), some (.int (nI j)), some (.int (wh))], [], σ) rfl ?_ ?_
    · trivial
    refine ⟨fun c12_0 => ?_, fun c12_0 => ?_⟩
    · refine ev_blk 4 [vp_in (nI j) 10] 74 ([some (.ref 57), some (.int (nI j)), some (.int (wh))], [.int ((σ 58) (nI j).toNatClampNeg)], σ) rfl ?_ ?_
      · exact hin
      rw [hjc]
      exact ev_iret rfl rfl rfl (ev _ (by unfold s_told; simp_all))
    refine ⟨fun c12_1 => ?_, fun c12_1 => ?_⟩
    · refine ev_blk 4 [vp_in (nI j) 10] 81 ([some (.ref 57), some (.int (nI j)), some (.int (wh))], [.int ((σ 59) (nI j).toNatClampNeg)], σ) rfl ?_ ?_
      · exact hin
      rw [hjc]
      exact ev_iret rfl rfl rfl (ev _ (by unfold s_told; simp_all))
    refine ⟨fun c12_2 => ?_, fun c12_2 => ?_⟩
    · refine ev_blk 4 [vp_in (nI j) 10] 88 ([some (.ref 57), some (.int (nI j)), some (.int (wh))], [.int ((σ 60) (nI j).toNatClampNeg)], σ) rfl ?_ ?_
      · exact hin
      rw [hjc]
      exact ev_iret rfl rfl rfl (ev _ (by unfold s_told; simp_all))
    refine ⟨fun c12_3 => ?_, fun c12_3 => ?_⟩
    · refine ev_blk 4 [vp_in (nI j) 10] 95 ([some (.ref 57), some (.int (nI j)), some (.int (wh))], [.int ((σ 61) (nI j).toNatClampNeg)], σ) rfl ?_ ?_
      · exact hin
      rw [hjc]
      exact ev_iret rfl rfl rfl (ev _ (by unfold s_told; simp_all))
    refine ⟨fun c12_4 => ?_, fun c12_4 => ?_⟩
    · refine ev_blk 4 [vp_in (nI j) 10] 102 ([some (.ref 57), some (.int (nI j)), some (.int (wh))], [.int ((σ 62) (nI j).toNatClampNeg)], σ) rfl ?_ ?_
      · exact hin
      rw [hjc]
      exact ev_iret rfl rfl rfl (ev _ (by unfold s_told; simp_all))
    refine ⟨fun c12_5 => ?_, fun c12_5 => ?_⟩
    · refine ev_blk 4 [vp_in (nI j) 10] 109 ([some (.ref 57), some (.int (nI j)), some (.int (wh))], [.int ((σ 63) (nI j).toNatClampNeg)], σ) rfl ?_ ?_
      · exact hin
      rw [hjc]
      exact ev_iret rfl rfl rfl (ev _ (by unfold s_told; simp_all))
    refine ⟨fun c12_6 => ?_, fun c12_6 => ?_⟩
    · refine ev_blk 4 [vp_in (nI j) 10] 116 ([some (.ref 57), some (.int (nI j)), some (.int (wh))], [.int ((σ 64) (nI j).toNatClampNeg)], σ) rfl ?_ ?_
      · exact hin
      rw [hjc]
      exact ev_iret rfl rfl rfl (ev _ (by unfold s_told; simp_all))
    refine ⟨fun c12_7 => ?_, fun c12_7 => ?_⟩
    · refine ev_blk 2 [] 119 ([some (.ref 57), some (.int (nI j)), some (.int (wh))], [.int (nI j), .ref 57], σ) rfl ?_ ?_
      · trivial
      refine ev_callV M_X6_spanOf [.int (nI j)] [] 57 rfl rfl ln_X6_140 k_X6_spanOf rfl rfl rfl rfl rfl rfl (m_span _ _ hin) ?_
      refine pu_k ?_
      show xEv _ _ _ 122 ([some (.ref 57), some (.int (nI j)), some (.int (wh))], [.int (s_span (σ 58) (σ 59) (nI j).toNatClampNeg)], σ)
      rw [hjc]
      exact ev_iret rfl rfl rfl (ev _ (by unfold s_told; simp_all))
    refine ⟨fun c12_8 => ?_, fun c12_8 => ?_⟩
    · refine ev_blk 2 [] 125 ([some (.ref 57), some (.int (nI j)), some (.int (wh))], [.int (nI j), .ref 57], σ) rfl ?_ ?_
      · trivial
      refine ev_callV M_X6_rankOf [.int (nI j)] [] 57 rfl rfl ln_X6_143 k_X6_rankOf rfl rfl rfl rfl rfl rfl (m_rank _ _ hin) ?_
      refine pu_k ?_
      show xEv _ _ _ 128 ([some (.ref 57), some (.int (nI j)), some (.int (wh))], [.int (s_rank (σ 58) (σ 60) (nI j).toNatClampNeg)], σ)
      rw [hjc]
      exact ev_iret rfl rfl rfl (ev _ (by unfold s_told; simp_all))
    refine ⟨fun c12_9 => ?_, fun c12_9 => ?_⟩
    · refine ev_blk 4 [vp_in (nI j) 10] 135 ([some (.ref 57), some (.int (nI j)), some (.int (wh))], [.int ((σ 65) (nI j).toNatClampNeg)], σ) rfl ?_ ?_
      · exact hin
      rw [hjc]
      exact ev_iret rfl rfl rfl (ev _ (by unfold s_told; simp_all))
    show xEv _ _ _ 136 ([some (.ref 57), some (.int (nI j)), some (.int (wh))], [], σ)
    refine ev_blk 1 [] 138 ([some (.ref 57), some (.int (nI j)), some (.int (wh))], [.int ((-2 : Int32))], σ) rfl ?_ ?_
    · trivial
    exact ev_iret rfl rfl rfl (ev _ (by unfold s_told; simp_all))
  · replace c5 := zi_n.mp c5
    refine ev_blk 1 [] 10 ([some (.ref 57), some (.int (x)), some (.int (wh))], [.int ((-2 : Int32))], σ) rfl ?_ ?_
    · trivial
    rw [hn] at c5
    exact ev_iret rfl rfl rfl (pu_v (by rw [s_tld, if_neg (fun q => c5 ((mSh hn10).mpr q))]))
set_option maxRecDepth 100000 in
theorem m_lane (σ : xSg) (A B : List Nat) (hL : LR σ A B) (l i : Int32) : xCtr M_X6_lane [.ref 57, .int (l), .int (i)] σ (fun r σ1 => r = some (.int (s_lane A B l i)) ∧ σ1 = σ) := by
  refine ctr_ev ok_X6_lane (by decide +kernel) rfl rfl rfl ?_
  show xEv (.inl 1) M_X6_lane _ 0 ([some (.ref 57), some (.int (l)), some (.int (i))], [], σ)
  refine ev_blk 3 [] 3 ([some (.ref 57), some (.int (l)), some (.int (i))], [.int ((1 : Int32)), .int ((0 : Int32)), .int (l)], σ) rfl ?_ ?_
  · trivial
  refine ev_callS M_X6_within [.int (l), .int ((0 : Int32)), .int ((1 : Int32))] [] rfl rfl ln_X6_110 k_X6_within rfl rfl rfl (m_within _ _ _ _) ?_
  refine pu_k ?_
  show xEv _ _ _ 6 ([some (.ref 57), some (.int (l)), some (.int (i))], [.int (zi (¬ l < (0 : Int32) ∧ ¬ (1 : Int32) < l))], σ)
  refine ev_br 0 [] (¬ (zi (¬ l < (0 : Int32) ∧ ¬ (1 : Int32) < l)) = 0) 12 9 ([some (.ref 57), some (.int (l)), some (.int (i))], [], σ) rfl ?_ (fun c6 => ?_) (fun c6 => ?_)
  · trivial
  · replace c6 := zi_1.mp c6
    obtain ⟨j, hj, rfl⟩ := nI_of c6.1
    rcases (show j = 0 ∨ j = 1 by have := mt (fun z => nI_lt (a := 1) (b := j) z hj) c6.2; omega) with rfl | rfl
    · show xEv _ _ _ 12 ([some (.ref 57), some (.int ((0 : Int32))), some (.int (i))], [], σ)
      refine ev_blk 8 [vp_in ((0 : Int32)) 2] 22 ([some (.ref 57), some (.int ((0 : Int32))), some (.int (i))], [.int (((σ 67) 0) - (1 : Int32)), .int ((0 : Int32)), .int (i)], σ) rfl ?_ ?_
      · exact (vp_in_nI (n := 0) (by decide) (by decide))
      refine ev_callS M_X6_within [.int (i), .int ((0 : Int32)), .int (((σ 67) 0) - (1 : Int32))] [] rfl rfl ln_X6_110 k_X6_within rfl rfl rfl (m_within _ _ _ _) ?_
      refine pu_k ?_
      show xEv _ _ _ 25 ([some (.ref 57), some (.int ((0 : Int32))), some (.int (i))], [.int (zi (¬ i < (0 : Int32) ∧ ¬ (((σ 67) 0) - (1 : Int32)) < i))], σ)
      refine ev_br 0 [] ((zi (¬ i < (0 : Int32) ∧ ¬ (((σ 67) 0) - (1 : Int32)) < i)) = 0) 42 28 ([some (.ref 57), some (.int ((0 : Int32))), some (.int (i))], [], σ) rfl ?_ (fun c25 => ?_) (fun c25 => ?_)
      · trivial
      · replace c25 := zi_0.mp c25
        refine ev_blk 1 [] 43 ([some (.ref 57), some (.int ((0 : Int32))), some (.int (i))], [.int ((-1 : Int32))], σ) rfl ?_ ?_
        · trivial
        exact ev_iret rfl rfl rfl (pu_v (by rw [s_lane, if_pos (show nI 0 = 0 from rfl)]; exact (s_nth_no _ _ (fun k hk q => c25 (by subst q; rw [hL.2.2.2.2.1]; exact ⟨nI_pos (by have := hL.1; have := hL.2.1; omega), by rw [show nI A.length - 1 = nI (A.length - 1) from i_sub (b := 1) (by omega)]; exact nI_nlt (by omega) (by have := hL.1; have := hL.2.1; omega)⟩))).symm))
      · replace c25 := zi_1.mp c25
        rw [hL.2.2.2.2.1] at c25
        obtain ⟨b, hb, rfl⟩ := nI_of c25.1
        have hbl : b < A.length := by
          by_cases h0 : A.length = 0
          · rw [h0] at c25
            exact absurd (show nI 0 - 1 < nI b from Int32.lt_of_lt_of_le (show nI 0 - 1 < 0 by decide) (Int32.not_lt.mp c25.1)) c25.2
          · rw [show nI A.length - 1 = nI (A.length - 1) from i_sub (b := 1) (by omega)] at c25
            have := mt (fun z => nI_lt (a := A.length - 1) (b := b) z hb) c25.2
            omega
        have hb20 : A.length ≤ 10 := hL.1
        have hx : A[b]? = some A[b] := List.getElem?_eq_getElem hbl
        have hv := hL.2.2.1 b _ hx
        have hi : (10 : Int32) * (0 : Int32) + nI b = nI (b) := by rw [show (10 : Int32) * (0 : Int32) = nI 0 by decide, nI_add, Nat.zero_add]
        refine ev_blk 9 [vp_in (((10 : Int32) * (0 : Int32)) + (nI b)) 20] 43 ([some (.ref 57), some (.int ((0 : Int32))), some (.int (nI b))], [.int ((σ 66) (((10 : Int32) * (0 : Int32)) + (nI b)).toNatClampNeg)], σ) rfl ?_ ?_
        · show vp_in ((10 : Int32) * (0 : Int32) + nI b) 20; rw [hi]; exact vp_in_nI (by omega) (by decide)
        exact ev_iret rfl rfl rfl (pu_v (by rw [hi, nI_clamp (by omega), s_lane, if_pos (show nI 0 = 0 from rfl), s_nth_at _ b _ hx hb, hv]))
    · show xEv _ _ _ 12 ([some (.ref 57), some (.int ((1 : Int32))), some (.int (i))], [], σ)
      refine ev_blk 8 [vp_in ((1 : Int32)) 2] 22 ([some (.ref 57), some (.int ((1 : Int32))), some (.int (i))], [.int (((σ 67) 1) - (1 : Int32)), .int ((0 : Int32)), .int (i)], σ) rfl ?_ ?_
      · exact (vp_in_nI (n := 1) (by decide) (by decide))
      refine ev_callS M_X6_within [.int (i), .int ((0 : Int32)), .int (((σ 67) 1) - (1 : Int32))] [] rfl rfl ln_X6_110 k_X6_within rfl rfl rfl (m_within _ _ _ _) ?_
      refine pu_k ?_
      show xEv _ _ _ 25 ([some (.ref 57), some (.int ((1 : Int32))), some (.int (i))], [.int (zi (¬ i < (0 : Int32) ∧ ¬ (((σ 67) 1) - (1 : Int32)) < i))], σ)
      refine ev_br 0 [] ((zi (¬ i < (0 : Int32) ∧ ¬ (((σ 67) 1) - (1 : Int32)) < i)) = 0) 42 28 ([some (.ref 57), some (.int ((1 : Int32))), some (.int (i))], [], σ) rfl ?_ (fun c25 => ?_) (fun c25 => ?_)
      · trivial
      · replace c25 := zi_0.mp c25
        refine ev_blk 1 [] 43 ([some (.ref 57), some (.int ((1 : Int32))), some (.int (i))], [.int ((-1 : Int32))], σ) rfl ?_ ?_
        · trivial
        exact ev_iret rfl rfl rfl (pu_v (by rw [s_lane, if_neg (show ¬ nI 1 = 0 by decide), if_pos (show nI 1 = 1 from rfl)]; exact (s_nth_no _ _ (fun k hk q => c25 (by subst q; rw [hL.2.2.2.2.2]; exact ⟨nI_pos (by have := hL.1; have := hL.2.1; omega), by rw [show nI B.length - 1 = nI (B.length - 1) from i_sub (b := 1) (by omega)]; exact nI_nlt (by omega) (by have := hL.1; have := hL.2.1; omega)⟩))).symm))
      · replace c25 := zi_1.mp c25
        rw [hL.2.2.2.2.2] at c25
        obtain ⟨b, hb, rfl⟩ := nI_of c25.1
        have hbl : b < B.length := by
          by_cases h0 : B.length = 0
          · rw [h0] at c25
            exact absurd (show nI 0 - 1 < nI b from Int32.lt_of_lt_of_le (show nI 0 - 1 < 0 by decide) (Int32.not_lt.mp c25.1)) c25.2
          · rw [show nI B.length - 1 = nI (B.length - 1) from i_sub (b := 1) (by omega)] at c25
            have := mt (fun z => nI_lt (a := B.length - 1) (b := b) z hb) c25.2
            omega
        have hb20 : B.length ≤ 10 := hL.2.1
        have hx : B[b]? = some B[b] := List.getElem?_eq_getElem hbl
        have hv := hL.2.2.2.1 b _ hx
        have hi : (10 : Int32) * (1 : Int32) + nI b = nI (10 + b) := by rw [show (10 : Int32) * (1 : Int32) = nI 10 by decide, nI_add]
        refine ev_blk 9 [vp_in (((10 : Int32) * (1 : Int32)) + (nI b)) 20] 43 ([some (.ref 57), some (.int ((1 : Int32))), some (.int (nI b))], [.int ((σ 66) (((10 : Int32) * (1 : Int32)) + (nI b)).toNatClampNeg)], σ) rfl ?_ ?_
        · show vp_in ((10 : Int32) * (1 : Int32) + nI b) 20; rw [hi]; exact vp_in_nI (by omega) (by decide)
        exact ev_iret rfl rfl rfl (pu_v (by rw [hi, nI_clamp (by omega), s_lane, if_neg (show ¬ nI 1 = 0 by decide), if_pos (show nI 1 = 1 from rfl), s_nth_at _ b _ hx hb, hv]))
  · replace c6 := zi_n.mp c6
    refine ev_blk 1 [] 11 ([some (.ref 57), some (.int (l)), some (.int (i))], [.int ((-2 : Int32))], σ) rfl ?_ ?_
    · trivial
    exact ev_iret rfl rfl rfl (pu_v (by rw [s_lane, if_neg (fun q => c6 (by rw [q]; decide)), if_neg (fun q => c6 (by rw [q]; decide))]))
end
section
set_option maxRecDepth 100000 in
theorem m_free_in (σ : xSg) (L R : Nat) (hL : L < 21) (hR : R ≤ 3) (h0 : σ 68 0 = nI L) (h1 : σ 68 1 = nI R) (r S : Nat) (hr : r < R) (hx : xEv (.inl 0) M_X6_free (fun r1 σ1 => r1 = some (.int (nI (s_free (fun r p => decide (σ 69 (20 * r + p) = 0)) L R))) ∧ σ1 = σ) 4 ([some (.ref 57), some (.int (nI (S + n_cnt ((fun r p => decide (σ 69 (20 * r + p) = 0)) r) L))), some (.int (nI (r + 1))), none], [], σ)) : ∀ (m p : Nat), p + m = L → xEv (.inl 0) M_X6_free (fun r1 σ1 => r1 = some (.int (nI (s_free (fun r p => decide (σ 69 (20 * r + p) = 0)) L R))) ∧ σ1 = σ) 16 ([some (.ref 57), some (.int (nI (S + n_cnt ((fun r p => decide (σ 69 (20 * r + p) = 0)) r) p))), some (.int (nI r)), some (.int (nI p))], [], σ) := by
  intro m
  induction m with
  | zero =>
    intro p hp
    refine ev_br 5 [vp_in ((0 : Int32)) 5] (((σ 68) 0) ≤ (nI p)) 49 26 ([some (.ref 57), some (.int (nI (S + n_cnt ((fun r p => decide (σ 69 (20 * r + p) = 0)) r) p))), some (.int (nI r)), some (.int (nI p))], [], σ) rfl ?_ (fun c23 => ?_) (fun c23 => ?_)
    · exact (vp_in_nI (n := 0) (by decide) (by decide))
    · refine ev_blk 2 [] 4 ([some (.ref 57), some (.int (nI (S + n_cnt ((fun r p => decide (σ 69 (20 * r + p) = 0)) r) p))), some (.int ((nI r) + (1 : Int32))), some (.int (nI p))], [], σ) rfl ?_ ?_
      · trivial
      have ep : p = L := by omega
      subst ep
      refine ev_drop 3 ?_
      rw [nI_1]
      exact hx
    · exact absurd (show σ 68 0 ≤ nI p by rw [h0]; exact nI_le (by omega) (by omega)) c23
  | succ m ih =>
    intro p hp
    have hid := idx60 (r := r) (q := p) (by omega) (by omega)
    refine ev_br 5 [vp_in ((0 : Int32)) 5] (((σ 68) 0) ≤ (nI p)) 49 26 ([some (.ref 57), some (.int (nI (S + n_cnt ((fun r p => decide (σ 69 (20 * r + p) = 0)) r) p))), some (.int (nI r)), some (.int (nI p))], [], σ) rfl ?_ (fun c23 => ?_) (fun c23 => ?_)
    · exact (vp_in_nI (n := 0) (by decide) (by decide))
    · exact absurd c23 (show ¬ σ 68 0 ≤ nI p by rw [h0]; exact nI_ge (by omega) (by omega))
    · refine ev_br 8 [vp_in (((20 : Int32) * (nI r)) + (nI p)) 60] (¬ ((σ 69) (((20 : Int32) * (nI r)) + (nI p)).toNatClampNeg) = 0) 43 40 ([some (.ref 57), some (.int (nI (S + n_cnt ((fun r p => decide (σ 69 (20 * r + p) = 0)) r) p))), some (.int (nI r)), some (.int (nI p))], [], σ) rfl ?_ (fun c37 => ?_) (fun c37 => ?_)
      · exact vpi60 (by omega) (by omega)
      · rw [hid] at c37
        refine ev_blk 2 [] 16 ([some (.ref 57), some (.int (nI (S + n_cnt ((fun r p => decide (σ 69 (20 * r + p) = 0)) r) p))), some (.int (nI r)), some (.int ((nI p) + (1 : Int32)))], [], σ) rfl ?_ ?_
        · trivial
        rw [nI_1, show S + n_cnt ((fun r p => decide (σ 69 (20 * r + p) = 0)) r) p = S + n_cnt ((fun r p => decide (σ 69 (20 * r + p) = 0)) r) (p + 1) by rw [n_cnt, if_neg (fun q => c37 (of_decide_eq_true q))]; omega]
        exact ih (p + 1) (by omega)
      · rw [hid] at c37
        refine ev_blk 3 [] 16 ([some (.ref 57), some (.int ((nI (S + n_cnt ((fun r p => decide (σ 69 (20 * r + p) = 0)) r) p)) + (1 : Int32))), some (.int (nI r)), some (.int ((nI p) + (1 : Int32)))], [], σ) rfl ?_ ?_
        · trivial
        rw [nI_1, nI_1, show S + n_cnt ((fun r p => decide (σ 69 (20 * r + p) = 0)) r) p + 1 = S + n_cnt ((fun r p => decide (σ 69 (20 * r + p) = 0)) r) (p + 1) by rw [n_cnt, if_pos (decide_eq_true (Classical.byContradiction c37))]; omega]
        exact ih (p + 1) (by omega)
theorem m_free_lp (σ : xSg) (L R : Nat) (hL : L < 21) (hR : R ≤ 3) (h0 : σ 68 0 = nI L) (h1 : σ 68 1 = nI R) : ∀ (m r : Nat), r + m = R → xEv (.inl 0) M_X6_free (fun r1 σ1 => r1 = some (.int (nI (s_free (fun r p => decide (σ 69 (20 * r + p) = 0)) L R))) ∧ σ1 = σ) 4 ([some (.ref 57), some (.int (nI (s_free (fun r p => decide (σ 69 (20 * r + p) = 0)) L r))), some (.int (nI r)), none], [], σ) := by
  intro m
  induction m with
  | zero =>
    intro r hr
    refine ev_br 5 [vp_in ((1 : Int32)) 5] (((σ 68) 1) ≤ (nI r)) 55 14 ([some (.ref 57), some (.int (nI (s_free (fun r p => decide (σ 69 (20 * r + p) = 0)) L r))), some (.int (nI r)), none], [], σ) rfl ?_ (fun c11 => ?_) (fun c11 => ?_)
    · exact (vp_in_nI (n := 1) (by decide) (by decide))
    · refine ev_blk 1 [] 56 ([some (.ref 57), some (.int (nI (s_free (fun r p => decide (σ 69 (20 * r + p) = 0)) L r))), some (.int (nI r)), none], [.int (nI (s_free (fun r p => decide (σ 69 (20 * r + p) = 0)) L r))], σ) rfl ?_ ?_
      · trivial
      exact ev_iret rfl rfl rfl (pu_v (by rw [show r = R by omega]))
    · exact absurd (show σ 68 1 ≤ nI r by rw [h1]; exact nI_le (by omega) (by omega)) c11
  | succ m ih =>
    intro r hr
    refine ev_br 5 [vp_in ((1 : Int32)) 5] (((σ 68) 1) ≤ (nI r)) 55 14 ([some (.ref 57), some (.int (nI (s_free (fun r p => decide (σ 69 (20 * r + p) = 0)) L r))), some (.int (nI r)), none], [], σ) rfl ?_ (fun c11 => ?_) (fun c11 => ?_)
    · exact (vp_in_nI (n := 1) (by decide) (by decide))
    · exact absurd c11 (show ¬ σ 68 1 ≤ nI r by rw [h1]; exact nI_ge (by omega) (by omega))
    · refine ev_blk 2 [] 16 ([some (.ref 57), some (.int (nI (s_free (fun r p => decide (σ 69 (20 * r + p) = 0)) L r))), some (.int (nI r)), some (.int ((0 : Int32)))], [], σ) rfl ?_ ?_
      · trivial
      exact m_free_in σ L R hL hR h0 h1 r (s_free (fun r p => decide (σ 69 (20 * r + p) = 0)) L r) (by omega) (ih (r + 1) (by omega)) L 0 (by omega)
set_option maxRecDepth 100000 in
theorem m_free (σ : xSg) (L R : Nat) (hL : L < 21) (hR : R ≤ 3) (h0 : σ 68 0 = nI L) (h1 : σ 68 1 = nI R) : xCtr M_X6_free [.ref 57] σ (fun r1 σ1 => r1 = some (.int (nI (s_free (fun r p => decide (σ 69 (20 * r + p) = 0)) L R))) ∧ σ1 = σ) := by
  refine ctr_ev ok_X6_free (by decide +kernel) rfl rfl rfl ?_
  show xEv (.inl 0) M_X6_free _ 0 ([some (.ref 57), none, none, none], [], σ)
  refine ev_blk 4 [] 4 ([some (.ref 57), some (.int ((0 : Int32))), some (.int ((0 : Int32))), none], [], σ) rfl ?_ ?_
  · trivial
  exact m_free_lp σ L R hL hR h0 h1 R 0 (by omega)
set_option maxRecDepth 100000 in
theorem m_count (σ : xSg) (L R : Nat) (hL : L < 21) (hR : R ≤ 3) (h0 : σ 68 0 = nI L) (h1 : σ 68 1 = nI R) (wh : Int32) : xCtr M_X6_count [.ref 57, .int (wh)] σ (fun r σ1 => r = some (.int (s_cnt (σ 68) (σ 57 0) (σ 67 0 + σ 67 1) (σ 57 14) (σ 57 16) (nI (s_free (fun r p => decide (σ 69 (20 * r + p) = 0)) L R)) wh)) ∧ σ1 = σ) := by
  refine ctr_ev ok_X6_count (by decide +kernel) rfl rfl rfl ?_
  show xEv (.inl 1) M_X6_count _ 0 ([some (.ref 57), some (.int (wh))], [], σ)
  refine ev_blk 3 [] 3 ([some (.ref 57), some (.int (wh))], [.int ((4 : Int32)), .int ((0 : Int32)), .int (wh)], σ) rfl ?_ ?_
  · trivial
  refine ev_callS M_X6_within [.int (wh), .int ((0 : Int32)), .int ((4 : Int32))] [] rfl rfl ln_X6_110 k_X6_within rfl rfl rfl (m_within _ _ _ _) ?_
  refine pu_k ?_
  show xEv _ _ _ 6 ([some (.ref 57), some (.int (wh))], [.int (zi (¬ wh < (0 : Int32) ∧ ¬ (4 : Int32) < wh))], σ)
  refine ev_br 0 [] ((zi (¬ wh < (0 : Int32) ∧ ¬ (4 : Int32) < wh)) = 0) 16 9 ([some (.ref 57), some (.int (wh))], [], σ) rfl ?_ (fun c6 => ?_) (fun c6 => ?_)
  · trivial
  · replace c6 := zi_0.mp c6
    refine ev_sw 1 [] (wh) [((5 : Int32), 52), ((6 : Int32), 57), ((7 : Int32), 71), ((8 : Int32), 76), ((9 : Int32), 81)] 86 ([some (.ref 57), some (.int (wh))], [], σ) rfl ?_ ?_
    · trivial
    refine ⟨fun c17_5 => ?_, fun c17_5 => ?_⟩
    · refine ev_blk 2 [] 56 ([some (.ref 57), some (.int (wh))], [.int ((σ 57 0))], σ) rfl ?_ ?_
      · trivial
      exact ev_iret rfl rfl rfl (pu_v (by rw [s_cnt, if_neg c6]; simp_all))
    refine ⟨fun c17_6 => ?_, fun c17_6 => ?_⟩
    · refine ev_blk 9 [vp_in ((0 : Int32)) 2, vp_in ((1 : Int32)) 2] 70 ([some (.ref 57), some (.int (wh))], [.int (((σ 67) 0) + ((σ 67) 1))], σ) rfl ?_ ?_
      · exact ⟨(vp_in_nI (n := 0) (by decide) (by decide)), (vp_in_nI (n := 1) (by decide) (by decide))⟩
      exact ev_iret rfl rfl rfl (pu_v (by rw [s_cnt, if_neg c6]; simp_all))
    refine ⟨fun c17_7 => ?_, fun c17_7 => ?_⟩
    · refine ev_blk 2 [] 75 ([some (.ref 57), some (.int (wh))], [.int ((σ 57 14))], σ) rfl ?_ ?_
      · trivial
      exact ev_iret rfl rfl rfl (pu_v (by rw [s_cnt, if_neg c6]; simp_all))
    refine ⟨fun c17_8 => ?_, fun c17_8 => ?_⟩
    · refine ev_blk 2 [] 80 ([some (.ref 57), some (.int (wh))], [.int ((σ 57 16))], σ) rfl ?_ ?_
      · trivial
      exact ev_iret rfl rfl rfl (pu_v (by rw [s_cnt, if_neg c6]; simp_all))
    refine ⟨fun c17_9 => ?_, fun c17_9 => ?_⟩
    · refine ev_blk 1 [] 82 ([some (.ref 57), some (.int (wh))], [.ref 57], σ) rfl ?_ ?_
      · trivial
      refine ev_callV M_X6_free [] [] 57 rfl rfl ln_X6_149 k_X6_free rfl rfl rfl rfl rfl rfl (m_free σ L R hL hR h0 h1) ?_
      refine pu_k ?_
      show xEv _ _ _ 85 ([some (.ref 57), some (.int (wh))], [.int (nI (s_free (fun r p => decide (σ 69 (20 * r + p) = 0)) L R))], σ)
      exact ev_iret rfl rfl rfl (pu_v (by rw [s_cnt, if_neg c6]; simp_all))
    show xEv _ _ _ 86 ([some (.ref 57), some (.int (wh))], [], σ)
    refine ev_blk 1 [] 88 ([some (.ref 57), some (.int (wh))], [.int ((-2 : Int32))], σ) rfl ?_ ?_
    · trivial
    exact ev_iret rfl rfl rfl (pu_v (by rw [s_cnt, if_neg c6]; simp_all))
  · replace c6 := zi_1.mp c6
    refine ev_blk 4 [vp_in (wh) 5] 15 ([some (.ref 57), some (.int (wh))], [.int ((σ 68) wh.toNatClampNeg)], σ) rfl ?_ ?_
    · obtain ⟨j, hj, rfl⟩ := nI_of c6.1
      exact vp_in_nI (Nat.lt_of_not_le (fun z => c6.2 (Int32.lt_of_lt_of_le (show (4 : Int32) < nI 5 by decide) (nI_le (a := 5) z hj)))) (by decide)
    exact ev_iret rfl rfl rfl (pu_v (by rw [s_cnt, if_pos c6]))
end
section
set_option maxRecDepth 100000 in
theorem m_taken (σ : xSg) (n : Nat) (hn : σ 57 0 = nI n) (hn10 : n ≤ 10) (x k : Int32) : xCtr M_X6_taken [.ref 57, .int (x), .int (k)] σ (fun r σ1 => r = some (.int (s_tak n (atM σ) x k)) ∧ σ1 = σ) := by
  refine ctr_ev ok_X6_taken (by decide +kernel) rfl rfl rfl ?_
  show xEv (.inl 2) M_X6_taken _ 0 ([some (.ref 57), some (.int (x)), some (.int (k)), none, none], [], σ)
  refine ev_blk 2 [] 2 ([some (.ref 57), some (.int (x)), some (.int (k)), none, none], [.int (x), .ref 57], σ) rfl ?_ ?_
  · trivial
  refine ev_callV M_X6_isShip [.int (x)] [] 57 rfl rfl ln_X6_136 k_X6_isShip rfl rfl rfl rfl rfl rfl (m_isShip _ _) ?_
  refine pu_k ?_
  show xEv _ _ _ 5 ([some (.ref 57), some (.int (x)), some (.int (k)), none, none], [.int (zi (¬ (x) < 0 ∧ ¬ σ 57 0 - 1 < (x)))], σ)
  refine ev_br 0 [] ((zi (¬ (x) < 0 ∧ ¬ σ 57 0 - 1 < (x))) = 0) 17 8 ([some (.ref 57), some (.int (x)), some (.int (k)), none, none], [], σ) rfl ?_ (fun c5 => ?_) (fun c5 => ?_)
  · trivial
  · replace c5 := zi_0.mp c5
    refine ev_blk 1 [] 19 ([some (.ref 57), some (.int (x)), some (.int (k)), none, none], [.int ((-2 : Int32))], σ) rfl ?_ ?_
    · trivial
    rw [hn] at c5
    exact ev_iret rfl rfl rfl (pu_v (by rw [s_tak, if_neg (fun q => c5 ((mSh hn10).mpr q.1))]))
  · replace c5 := zi_1.mp c5
    refine ev_blk 3 [] 11 ([some (.ref 57), some (.int (x)), some (.int (k)), none, none], [.int ((5 : Int32)), .int ((0 : Int32)), .int (k)], σ) rfl ?_ ?_
    · trivial
    refine ev_callS M_X6_within [.int (k), .int ((0 : Int32)), .int ((5 : Int32))] [] rfl rfl ln_X6_110 k_X6_within rfl rfl rfl (m_within _ _ _ _) ?_
    refine pu_k ?_
    show xEv _ _ _ 14 ([some (.ref 57), some (.int (x)), some (.int (k)), none, none], [.int (zi (¬ k < (0 : Int32) ∧ ¬ (5 : Int32) < k))], σ)
    refine ev_br 0 [] (¬ (zi (¬ k < (0 : Int32) ∧ ¬ (5 : Int32) < k)) = 0) 20 17 ([some (.ref 57), some (.int (x)), some (.int (k)), none, none], [], σ) rfl ?_ (fun c14 => ?_) (fun c14 => ?_)
    · trivial
    · replace c14 := zi_1.mp c14
      rw [hn] at c5
      have hx := (mSh hn10).mp c5
      obtain ⟨j, hj, rfl⟩ := nI_of hx.1
      have hjn : j < n := Nat.lt_of_not_le (fun z => hx.2 (nI_le z hj))
      have hjc : (nI j).toNatClampNeg = j := nI_clamp hj
      have hin : vp_in (nI j) 10 := vp_in_nI (by omega) (by decide)
      have hval : s_tak n (atM σ) (nI j) k = if s_und (σ 58 j) k then σ 59 j else -13 := by rw [s_tak, if_pos ⟨hx, c14⟩, hjc]
      rw [hval]
      refine ev_br 6 [vp_in (nI j) 10] (k = 0) 61 31 ([some (.ref 57), some (.int (nI j)), some (.int (k)), some (.int ((σ 58) (nI j).toNatClampNeg)), none], [], σ) rfl ?_ (fun c28 => ?_) (fun c28 => ?_)
      · exact hin
      · rw [hjc]
        refine ev_blk 2 [] 66 ([some (.ref 57), some (.int (nI j)), some (.int (k)), some (.int ((σ 58) j)), none], [.int ((1 : Int32))], σ) rfl ?_ ?_
        · trivial
        have hu : s_und (σ 58 j) k := by
          exact Or.inl c28
        refine ev_br 2 [] ((1 : Int32) = 0) 82 73 ([some (.ref 57), some (.int (nI j)), some (.int (k)), some (.int ((σ 58) j)), some (.int ((1 : Int32)))], [], σ) rfl ?_ (fun c70 => ?_) (fun c70 => ?_)
        · trivial
        · exact absurd c70 (by decide)
        · refine ev_blk 5 [vp_in (nI j) 10] 84 ([some (.ref 57), some (.int (nI j)), some (.int (k)), some (.int ((σ 58) j)), some (.int ((1 : Int32)))], [.int ((σ 59) (nI j).toNatClampNeg)], σ) rfl ?_ ?_
          · exact hin
          rw [hjc]
          exact ev_iret rfl rfl rfl (pu_v (by rw [if_pos hu]))
      · rw [hjc]
        refine ev_br 2 [] (((σ 58) j) = k) 61 36 ([some (.ref 57), some (.int (nI j)), some (.int (k)), some (.int ((σ 58) j)), none], [], σ) rfl ?_ (fun c33 => ?_) (fun c33 => ?_)
        · trivial
        · refine ev_blk 2 [] 66 ([some (.ref 57), some (.int (nI j)), some (.int (k)), some (.int ((σ 58) j)), none], [.int ((1 : Int32))], σ) rfl ?_ ?_
          · trivial
          have hu : s_und (σ 58 j) k := by
            exact Or.inr (Or.inl c33)
          refine ev_br 2 [] ((1 : Int32) = 0) 82 73 ([some (.ref 57), some (.int (nI j)), some (.int (k)), some (.int ((σ 58) j)), some (.int ((1 : Int32)))], [], σ) rfl ?_ (fun c70 => ?_) (fun c70 => ?_)
          · trivial
          · exact absurd c70 (by decide)
          · refine ev_blk 5 [vp_in (nI j) 10] 84 ([some (.ref 57), some (.int (nI j)), some (.int (k)), some (.int ((σ 58) j)), some (.int ((1 : Int32)))], [.int ((σ 59) (nI j).toNatClampNeg)], σ) rfl ?_ ?_
            · exact hin
            rw [hjc]
            exact ev_iret rfl rfl rfl (pu_v (by rw [if_pos hu]))
        · refine ev_br 2 [] (¬ k = (1 : Int32)) 51 41 ([some (.ref 57), some (.int (nI j)), some (.int (k)), some (.int ((σ 58) j)), none], [], σ) rfl ?_ (fun c38 => ?_) (fun c38 => ?_)
          · trivial
          · refine ev_br 2 [] (¬ k = (3 : Int32)) 65 56 ([some (.ref 57), some (.int (nI j)), some (.int (k)), some (.int ((σ 58) j)), none], [], σ) rfl ?_ (fun c53 => ?_) (fun c53 => ?_)
            · trivial
            · refine ev_blk 1 [] 66 ([some (.ref 57), some (.int (nI j)), some (.int (k)), some (.int ((σ 58) j)), none], [.int ((0 : Int32))], σ) rfl ?_ ?_
              · trivial
              have hu : ¬ s_und (σ 58 j) k := by
                rintro (q | q | ⟨q, q2⟩ | ⟨q, q2⟩) <;> simp_all
              refine ev_br 2 [] ((0 : Int32) = 0) 82 73 ([some (.ref 57), some (.int (nI j)), some (.int (k)), some (.int ((σ 58) j)), some (.int ((0 : Int32)))], [], σ) rfl ?_ (fun c70 => ?_) (fun c70 => ?_)
              · trivial
              · refine ev_blk 1 [] 84 ([some (.ref 57), some (.int (nI j)), some (.int (k)), some (.int ((σ 58) j)), some (.int ((0 : Int32)))], [.int ((-13 : Int32))], σ) rfl ?_ ?_
                · trivial
                exact ev_iret rfl rfl rfl (pu_v (by rw [if_neg hu]))
              · exact absurd (by decide) c70
            · refine ev_br 2 [] (¬ ((σ 58) j) = (4 : Int32)) 65 61 ([some (.ref 57), some (.int (nI j)), some (.int (k)), some (.int ((σ 58) j)), none], [], σ) rfl ?_ (fun c58 => ?_) (fun c58 => ?_)
              · trivial
              · refine ev_blk 1 [] 66 ([some (.ref 57), some (.int (nI j)), some (.int (k)), some (.int ((σ 58) j)), none], [.int ((0 : Int32))], σ) rfl ?_ ?_
                · trivial
                have hu : ¬ s_und (σ 58 j) k := by
                  rintro (q | q | ⟨q, q2⟩ | ⟨q, q2⟩) <;> simp_all
                refine ev_br 2 [] ((0 : Int32) = 0) 82 73 ([some (.ref 57), some (.int (nI j)), some (.int (k)), some (.int ((σ 58) j)), some (.int ((0 : Int32)))], [], σ) rfl ?_ (fun c70 => ?_) (fun c70 => ?_)
                · trivial
                · refine ev_blk 1 [] 84 ([some (.ref 57), some (.int (nI j)), some (.int (k)), some (.int ((σ 58) j)), some (.int ((0 : Int32)))], [.int ((-13 : Int32))], σ) rfl ?_ ?_
                  · trivial
                  exact ev_iret rfl rfl rfl (pu_v (by rw [if_neg hu]))
                · exact absurd (by decide) c70
              · refine ev_blk 2 [] 66 ([some (.ref 57), some (.int (nI j)), some (.int (k)), some (.int ((σ 58) j)), none], [.int ((1 : Int32))], σ) rfl ?_ ?_
                · trivial
                have hu : s_und (σ 58 j) k := by
                  exact Or.inr (Or.inr (Or.inr ⟨Classical.byContradiction c53, Classical.byContradiction c58⟩))
                refine ev_br 2 [] ((1 : Int32) = 0) 82 73 ([some (.ref 57), some (.int (nI j)), some (.int (k)), some (.int ((σ 58) j)), some (.int ((1 : Int32)))], [], σ) rfl ?_ (fun c70 => ?_) (fun c70 => ?_)
                · trivial
                · exact absurd c70 (by decide)
                · refine ev_blk 5 [vp_in (nI j) 10] 84 ([some (.ref 57), some (.int (nI j)), some (.int (k)), some (.int ((σ 58) j)), some (.int ((1 : Int32)))], [.int ((σ 59) (nI j).toNatClampNeg)], σ) rfl ?_ ?_
                  · exact hin
                  rw [hjc]
                  exact ev_iret rfl rfl rfl (pu_v (by rw [if_pos hu]))
          · refine ev_br 2 [] (((σ 58) j) = (2 : Int32)) 61 46 ([some (.ref 57), some (.int (nI j)), some (.int (k)), some (.int ((σ 58) j)), none], [], σ) rfl ?_ (fun c43 => ?_) (fun c43 => ?_)
            · trivial
            · refine ev_blk 2 [] 66 ([some (.ref 57), some (.int (nI j)), some (.int (k)), some (.int ((σ 58) j)), none], [.int ((1 : Int32))], σ) rfl ?_ ?_
              · trivial
              have hu : s_und (σ 58 j) k := by
                exact Or.inr (Or.inr (Or.inl ⟨Classical.byContradiction c38, Or.inl c43⟩))
              refine ev_br 2 [] ((1 : Int32) = 0) 82 73 ([some (.ref 57), some (.int (nI j)), some (.int (k)), some (.int ((σ 58) j)), some (.int ((1 : Int32)))], [], σ) rfl ?_ (fun c70 => ?_) (fun c70 => ?_)
              · trivial
              · exact absurd c70 (by decide)
              · refine ev_blk 5 [vp_in (nI j) 10] 84 ([some (.ref 57), some (.int (nI j)), some (.int (k)), some (.int ((σ 58) j)), some (.int ((1 : Int32)))], [.int ((σ 59) (nI j).toNatClampNeg)], σ) rfl ?_ ?_
                · exact hin
                rw [hjc]
                exact ev_iret rfl rfl rfl (pu_v (by rw [if_pos hu]))
            · refine ev_br 2 [] (((σ 58) j) = (5 : Int32)) 61 51 ([some (.ref 57), some (.int (nI j)), some (.int (k)), some (.int ((σ 58) j)), none], [], σ) rfl ?_ (fun c48 => ?_) (fun c48 => ?_)
              · trivial
              · refine ev_blk 2 [] 66 ([some (.ref 57), some (.int (nI j)), some (.int (k)), some (.int ((σ 58) j)), none], [.int ((1 : Int32))], σ) rfl ?_ ?_
                · trivial
                have hu : s_und (σ 58 j) k := by
                  exact Or.inr (Or.inr (Or.inl ⟨Classical.byContradiction c38, Or.inr c48⟩))
                refine ev_br 2 [] ((1 : Int32) = 0) 82 73 ([some (.ref 57), some (.int (nI j)), some (.int (k)), some (.int ((σ 58) j)), some (.int ((1 : Int32)))], [], σ) rfl ?_ (fun c70 => ?_) (fun c70 => ?_)
                · trivial
                · exact absurd c70 (by decide)
                · refine ev_blk 5 [vp_in (nI j) 10] 84 ([some (.ref 57), some (.int (nI j)), some (.int (k)), some (.int ((σ 58) j)), some (.int ((1 : Int32)))], [.int ((σ 59) (nI j).toNatClampNeg)], σ) rfl ?_ ?_
                  · exact hin
                  rw [hjc]
                  exact ev_iret rfl rfl rfl (pu_v (by rw [if_pos hu]))
              · refine ev_br 2 [] (¬ k = (3 : Int32)) 65 56 ([some (.ref 57), some (.int (nI j)), some (.int (k)), some (.int ((σ 58) j)), none], [], σ) rfl ?_ (fun c53 => ?_) (fun c53 => ?_)
                · trivial
                · refine ev_blk 1 [] 66 ([some (.ref 57), some (.int (nI j)), some (.int (k)), some (.int ((σ 58) j)), none], [.int ((0 : Int32))], σ) rfl ?_ ?_
                  · trivial
                  have hu : ¬ s_und (σ 58 j) k := by
                    rintro (q | q | ⟨q, q2⟩ | ⟨q, q2⟩) <;> simp_all
                  refine ev_br 2 [] ((0 : Int32) = 0) 82 73 ([some (.ref 57), some (.int (nI j)), some (.int (k)), some (.int ((σ 58) j)), some (.int ((0 : Int32)))], [], σ) rfl ?_ (fun c70 => ?_) (fun c70 => ?_)
                  · trivial
                  · refine ev_blk 1 [] 84 ([some (.ref 57), some (.int (nI j)), some (.int (k)), some (.int ((σ 58) j)), some (.int ((0 : Int32)))], [.int ((-13 : Int32))], σ) rfl ?_ ?_
                    · trivial
                    exact ev_iret rfl rfl rfl (pu_v (by rw [if_neg hu]))
                  · exact absurd (by decide) c70
                · refine ev_br 2 [] (¬ ((σ 58) j) = (4 : Int32)) 65 61 ([some (.ref 57), some (.int (nI j)), some (.int (k)), some (.int ((σ 58) j)), none], [], σ) rfl ?_ (fun c58 => ?_) (fun c58 => ?_)
                  · trivial
                  · refine ev_blk 1 [] 66 ([some (.ref 57), some (.int (nI j)), some (.int (k)), some (.int ((σ 58) j)), none], [.int ((0 : Int32))], σ) rfl ?_ ?_
                    · trivial
                    have hu : ¬ s_und (σ 58 j) k := by
                      rintro (q | q | ⟨q, q2⟩ | ⟨q, q2⟩) <;> simp_all
                    refine ev_br 2 [] ((0 : Int32) = 0) 82 73 ([some (.ref 57), some (.int (nI j)), some (.int (k)), some (.int ((σ 58) j)), some (.int ((0 : Int32)))], [], σ) rfl ?_ (fun c70 => ?_) (fun c70 => ?_)
                    · trivial
                    · refine ev_blk 1 [] 84 ([some (.ref 57), some (.int (nI j)), some (.int (k)), some (.int ((σ 58) j)), some (.int ((0 : Int32)))], [.int ((-13 : Int32))], σ) rfl ?_ ?_
                      · trivial
                      exact ev_iret rfl rfl rfl (pu_v (by rw [if_neg hu]))
                    · exact absurd (by decide) c70
                  · refine ev_blk 2 [] 66 ([some (.ref 57), some (.int (nI j)), some (.int (k)), some (.int ((σ 58) j)), none], [.int ((1 : Int32))], σ) rfl ?_ ?_
                    · trivial
                    have hu : s_und (σ 58 j) k := by
                      exact Or.inr (Or.inr (Or.inr ⟨Classical.byContradiction c53, Classical.byContradiction c58⟩))
                    refine ev_br 2 [] ((1 : Int32) = 0) 82 73 ([some (.ref 57), some (.int (nI j)), some (.int (k)), some (.int ((σ 58) j)), some (.int ((1 : Int32)))], [], σ) rfl ?_ (fun c70 => ?_) (fun c70 => ?_)
                    · trivial
                    · exact absurd c70 (by decide)
                    · refine ev_blk 5 [vp_in (nI j) 10] 84 ([some (.ref 57), some (.int (nI j)), some (.int (k)), some (.int ((σ 58) j)), some (.int ((1 : Int32)))], [.int ((σ 59) (nI j).toNatClampNeg)], σ) rfl ?_ ?_
                      · exact hin
                      rw [hjc]
                      exact ev_iret rfl rfl rfl (pu_v (by rw [if_pos hu]))
    · replace c14 := zi_n.mp c14
      refine ev_blk 1 [] 19 ([some (.ref 57), some (.int (x)), some (.int (k)), none, none], [.int ((-2 : Int32))], σ) rfl ?_ ?_
      · trivial
      exact ev_iret rfl rfl rfl (pu_v (by rw [s_tak, if_neg (fun q => c14 q.2)]))
set_option maxRecDepth 100000 in
theorem m_spent_lp (σ : xSg) (g : Nat → Nat) (l : Nat) (hl : ledOk (σ 71) g l) (h14 : σ 57 14 = nI l) (i : Int32) : ∀ (m k : Nat), k + m = l → xEv (.inl 1) M_X6_spent (fun r1 σ1 => r1 = some (.long (lN (s_sum g l))) ∧ σ1 = σ) 34 ([some (.ref 57), some (.int (i)), some (.int (nI (s_sum g k))), some (.int (nI k))], [], σ) := by
  have hl40 := hl.1
  have hle : ∀ k, k ≤ l → s_sum g k ≤ k * 5940 := s_sum_le (fun k hk => (hl.2 k hk).2)
  intro m
  induction m with
  | zero =>
    intro k hk
    have := hle k (by omega)
    refine ev_br 3 [] ((σ 57 14) ≤ (nI k)) 57 42 ([some (.ref 57), some (.int (i)), some (.int (nI (s_sum g k))), some (.int (nI k))], [], σ) rfl ?_ (fun c39 => ?_) (fun c39 => ?_)
    · trivial
    · refine ev_blk 2 [] 59 ([some (.ref 57), some (.int (i)), some (.int (nI (s_sum g k))), some (.int (nI k))], [.long ((nI (s_sum g k)).toInt64)], σ) rfl ?_ ?_
      · trivial
      exact ev_lret rfl rfl ⟨by rw [nI_l (by omega), show k = l by omega], rfl⟩
    · exact absurd (show σ 57 14 ≤ nI k by rw [h14]; exact nI_le (by omega) (by omega)) c39
  | succ m ih =>
    intro k hk
    have hkc : (nI k).toNatClampNeg = k := nI_clamp (by omega)
    obtain ⟨hv, hb⟩ := hl.2 k (by omega)
    refine ev_br 3 [] ((σ 57 14) ≤ (nI k)) 57 42 ([some (.ref 57), some (.int (i)), some (.int (nI (s_sum g k))), some (.int (nI k))], [], σ) rfl ?_ (fun c39 => ?_) (fun c39 => ?_)
    · trivial
    · exact absurd c39 (show ¬ σ 57 14 ≤ nI k by rw [h14]; exact nI_ge (by omega) (by omega))
    · refine ev_blk 9 [vp_in (nI k) 40] 34 ([some (.ref 57), some (.int (i)), some (.int ((nI (s_sum g k)) + ((σ 71) (nI k).toNatClampNeg))), some (.int ((nI k) + (1 : Int32)))], [], σ) rfl ?_ ?_
      · exact vp_in_nI (by omega) (by decide)
      rw [hkc]
      rw [nI_1, hv, nI_add]
      exact ih (k + 1) (by omega)
set_option maxRecDepth 100000 in
theorem m_spent (σ : xSg) (g : Nat → Nat) (l : Nat) (hl : ledOk (σ 71) g l) (h14 : σ 57 14 = nI l) (i : Int32) : xCtr M_X6_spent [.ref 57, .int (i)] σ (fun r1 σ1 => r1 = some (.long (s_spn g l i)) ∧ σ1 = σ) := by
  refine ctr_ev ok_X6_spent (by decide +kernel) rfl rfl rfl ?_
  show xEv (.inl 1) M_X6_spent _ 0 ([some (.ref 57), some (.int (i)), none, none], [], σ)
  have hl40 := hl.1
  have hm : ¬ σ 57 14 - 1 < i ↔ ¬ nI l ≤ i := by
    rw [h14]
    by_cases hi : i < 0
    · refine ⟨fun _ q => ?_, fun _ q => ?_⟩
      · exact absurd (Int32.lt_of_le_of_lt q hi) (nI_pos (by omega))
      · rw [Int32.lt_iff_toInt_lt] at q hi
        have e0 : ((0 : Int32)).toInt = 0 := by decide
        have e1 : (nI l - 1).toInt = (l : Int) - 1 := by
          rcases (show l = 0 ∨ 0 < l by omega) with rfl | h0
          · decide
          · rw [show nI l - 1 = nI (l - 1) from i_sub (b := 1) (by omega), nI_toInt (by omega)]; omega
        omega
    · obtain ⟨j, hj, rfl⟩ := nI_of hi
      constructor
      · intro q z
        cases l with
        | zero => exact q (Int32.lt_of_lt_of_le (show nI 0 - 1 < 0 by decide) (Int32.not_lt.mp hi))
        | succ l =>
          rw [show nI (l + 1) - 1 = nI l from i_sub (b := 1) (by omega)] at q
          exact absurd z (nI_ge (by have := mt (fun z => nI_lt (a := l) (b := j) z hj) q; omega) (by omega))
      · intro q
        have hjl : j < l := Nat.lt_of_not_le (fun z => q (nI_le z hj))
        rw [show nI l - 1 = nI (l - 1) from i_sub (b := 1) (by omega)]
        exact nI_nlt (by omega) (by omega)
  refine ev_blk 6 [] 8 ([some (.ref 57), some (.int (i)), none, none], [.int ((σ 57 14) - (1 : Int32)), .int ((-1 : Int32)), .int (i)], σ) rfl ?_ ?_
  · trivial
  refine ev_callS M_X6_within [.int (i), .int ((-1 : Int32)), .int ((σ 57 14) - (1 : Int32))] [] rfl rfl ln_X6_110 k_X6_within rfl rfl rfl (m_within _ _ _ _) ?_
  refine pu_k ?_
  show xEv _ _ _ 11 ([some (.ref 57), some (.int (i)), none, none], [.int (zi (¬ i < (-1 : Int32) ∧ ¬ ((σ 57 14) - (1 : Int32)) < i))], σ)
  refine ev_br 0 [] (¬ (zi (¬ i < (-1 : Int32) ∧ ¬ ((σ 57 14) - (1 : Int32)) < i)) = 0) 18 14 ([some (.ref 57), some (.int (i)), none, none], [], σ) rfl ?_ (fun c11 => ?_) (fun c11 => ?_)
  · trivial
  · replace c11 := zi_1.mp c11
    refine ev_br 1 [] (i < 0) 30 22 ([some (.ref 57), some (.int (i)), none, none], [], σ) rfl ?_ (fun c19 => ?_) (fun c19 => ?_)
    · trivial
    · refine ev_blk 4 [] 34 ([some (.ref 57), some (.int (i)), some (.int ((0 : Int32))), some (.int ((0 : Int32)))], [], σ) rfl ?_ ?_
      · trivial
      have hg : ¬ (i < -1 ∨ nI l ≤ i) := fun q => q.elim c11.1 (hm.mp c11.2)
      have hi1 : i = -1 := by
        have c1 := c11.1
        rw [Int32.lt_iff_toInt_lt] at c19 c1
        have e0 : ((0 : Int32)).toInt = 0 := by decide
        have e1 : ((-1 : Int32)).toInt = -1 := by decide
        exact Int32.toInt_inj.mp (by omega)
      rw [show s_spn g l i = lN (s_sum g l) by rw [s_spn, if_neg hg, if_pos hi1]]
      exact m_spent_lp σ g l hl h14 i l 0 (by omega)
    · refine ev_blk 5 [vp_in (i) 40] 29 ([some (.ref 57), some (.int (i)), none, none], [.long (((σ 71) i.toNatClampNeg).toInt64)], σ) rfl ?_ ?_
      · obtain ⟨j, hj, rfl⟩ := nI_of c19
        have hjc : (nI j).toNatClampNeg = j := nI_clamp hj
        have hjl : j < l := Nat.lt_of_not_le (fun z => hm.mp c11.2 (nI_le z hj))
        exact vp_in_nI (by omega) (by decide)
      have hg : ¬ (i < -1 ∨ nI l ≤ i) := fun q => q.elim c11.1 (hm.mp c11.2)
      obtain ⟨j, hj, rfl⟩ := nI_of c19
      have hjc : (nI j).toNatClampNeg = j := nI_clamp hj
      have hjl : j < l := Nat.lt_of_not_le (fun z => hm.mp c11.2 (nI_le z hj))
      exact ev_lret rfl rfl ⟨by rw [s_spn, if_neg hg, if_neg (nI_m1 hj), hjc, (hl.2 j hjl).1, nI_l (by have := (hl.2 j hjl).2; omega)], rfl⟩
  · replace c11 := zi_n.mp c11
    refine ev_blk 1 [] 17 ([some (.ref 57), some (.int (i)), none, none], [.long ((-9223372036854775808 : Int64))], σ) rfl ?_ ?_
    · trivial
    exact ev_lret rfl rfl ⟨by rw [s_spn, if_pos (Classical.byContradiction (fun q => c11 ⟨fun z => q (Or.inl z), hm.mpr (fun z => q (Or.inr z))⟩))], rfl⟩
end
section
abbrev shV (la k ln fi lc : Int32) : Prop := (¬ la < 0 ∧ ¬ (2 : Int32) ≤ la) ∧ (¬ k < 0 ∧ ¬ (5 : Int32) < k) ∧ ¬ ln < 1 ∧ ln ≤ 9 ∧ ¬ fi < 0 ∧ fi ≤ 9 ∧ ¬ lc < 0 ∧ lc < 1000000
theorem i_21 {x : Int32} : (2 : Int32) ≤ x ↔ (1 : Int32) < x := by
  rw [Int32.le_iff_toInt_le, Int32.lt_iff_toInt_lt, show (2 : Int32).toInt = 2 by decide, show (1 : Int32).toInt = 1 by decide]
  omega
theorem i_6 {x : Int32} : x < 1000000 ↔ ¬ (999999 : Int32) < x := by
  rw [Int32.lt_iff_toInt_lt, Int32.lt_iff_toInt_lt, show (999999 : Int32).toInt = 999999 by decide, show (1000000 : Int32).toInt = 1000000 by decide]
  omega
def shQ (n : Nat) (σ σn : xSg) (la k ln fi lc : Int32) : Option Value → xSg → Prop := fun r σ' =>
  (¬ shV la k ln fi lc ∧ r = some (.int (-2)) ∧ σ' = σ) ∨ (shV la k ln fi lc ∧ n = 10 ∧ r = some (.int (-4)) ∧ σ' = σ) ∨ (shV la k ln fi lc ∧ n < 10 ∧ r = some (.int (nI n)) ∧ σ' = σn)
def cShip (σ : xSg) (n : Nat) (la k ln fi lc : Int32) : xSg := (x_up (x_up (x_up (x_up (x_up (x_up (x_up (x_up (x_up (x_up σ 2 (upd (σ 2) n (k))) 3 (upd (σ 3) n (ln))) 4 (upd (σ 4) n (fi))) 5 (upd (σ 5) n (lc / (1000 : Int32)))) 6 (upd (σ 6) n (lc - lc / (1000 : Int32) * (1000 : Int32)))) 7 (upd (σ 7) n (la))) 8 (upd (σ 8) n ((-1 : Int32)))) 1 (upd (σ 1) 1 ((σ 1 1) ||| ((1 : Int32) <<< ((nI n) &&& 31))))) 1 (upd (upd (σ 1) 1 ((σ 1 1) ||| ((1 : Int32) <<< ((nI n) &&& 31)))) 0 ((nI n) + (1 : Int32)))) 0 (upd (σ 0) 4 ((0 : Int32))))
set_option maxRecDepth 100000 in
theorem c_ship (σ : xSg) (n : Nat) (hn : σ 1 0 = nI n) (hn10 : n ≤ 10) (la k ln fi lc : Int32) : xCtr M_X5_ship [.ref 0, .int (la), .int (k), .int (ln), .int (fi), .int (lc)] σ (shQ n σ (cShip σ n la k ln fi lc) la k ln fi lc) := by
  refine ctr_ev ok_X5_ship (by decide +kernel) rfl rfl rfl ?_
  show xEv (.inl 1) M_X5_ship _ 0 ([some (.ref 0), some (.int (la)), some (.int (k)), some (.int (ln)), some (.int (fi)), some (.int (lc)), none], [], σ)
  refine ev_blk 1 [] 1 ([some (.ref 0), some (.int (la)), some (.int (k)), some (.int (ln)), some (.int (fi)), some (.int (lc)), none], [.int (la)], σ) rfl ?_ ?_
  · trivial
  refine ev_callS M_X5_isLane [.int (la)] [] rfl rfl ln_X5_57 k_X5_isLane rfl rfl rfl (c_isLane _ _) ?_
  refine pu_k ?_
  show xEv _ _ _ 4 ([some (.ref 0), some (.int (la)), some (.int (k)), some (.int (ln)), some (.int (fi)), some (.int (lc)), none], [.int (zi (¬ la < 0 ∧ ¬ (2 : Int32) ≤ la))], σ)
  refine ev_br 0 [] ((zi (¬ la < 0 ∧ ¬ (2 : Int32) ≤ la)) = 0) 25 7 ([some (.ref 0), some (.int (la)), some (.int (k)), some (.int (ln)), some (.int (fi)), some (.int (lc)), none], [], σ) rfl ?_ (fun c4 => ?_) (fun c4 => ?_)
  · trivial
  · replace c4 := zi_0.mp c4
    refine ev_blk 1 [] 27 ([some (.ref 0), some (.int (la)), some (.int (k)), some (.int (ln)), some (.int (fi)), some (.int (lc)), none], [.int ((-2 : Int32))], σ) rfl ?_ ?_
    · trivial
    exact ev_iret rfl rfl rfl (Or.inl ⟨fun q => c4 q.1, rfl, rfl⟩)
  · replace c4 := zi_1.mp c4
    refine ev_blk 1 [] 8 ([some (.ref 0), some (.int (la)), some (.int (k)), some (.int (ln)), some (.int (fi)), some (.int (lc)), none], [.int (k)], σ) rfl ?_ ?_
    · trivial
    refine ev_callS M_X5_isKind [.int (k)] [] rfl rfl ln_X5_61 k_X5_isKind rfl rfl rfl (c_isKind _ _) ?_
    refine pu_k ?_
    show xEv _ _ _ 11 ([some (.ref 0), some (.int (la)), some (.int (k)), some (.int (ln)), some (.int (fi)), some (.int (lc)), none], [.int (zi (¬ k < 0 ∧ ¬ (5 : Int32) < k))], σ)
    refine ev_br 0 [] ((zi (¬ k < 0 ∧ ¬ (5 : Int32) < k)) = 0) 25 14 ([some (.ref 0), some (.int (la)), some (.int (k)), some (.int (ln)), some (.int (fi)), some (.int (lc)), none], [], σ) rfl ?_ (fun c11 => ?_) (fun c11 => ?_)
    · trivial
    · replace c11 := zi_0.mp c11
      refine ev_blk 1 [] 27 ([some (.ref 0), some (.int (la)), some (.int (k)), some (.int (ln)), some (.int (fi)), some (.int (lc)), none], [.int ((-2 : Int32))], σ) rfl ?_ ?_
      · trivial
      exact ev_iret rfl rfl rfl (Or.inl ⟨fun q => c11 q.2.1, rfl, rfl⟩)
    · replace c11 := zi_1.mp c11
      refine ev_br 2 [] (ln < (1 : Int32)) 25 19 ([some (.ref 0), some (.int (la)), some (.int (k)), some (.int (ln)), some (.int (fi)), some (.int (lc)), none], [], σ) rfl ?_ (fun c16 => ?_) (fun c16 => ?_)
      · trivial
      · refine ev_blk 1 [] 27 ([some (.ref 0), some (.int (la)), some (.int (k)), some (.int (ln)), some (.int (fi)), some (.int (lc)), none], [.int ((-2 : Int32))], σ) rfl ?_ ?_
        · trivial
        exact ev_iret rfl rfl rfl (Or.inl ⟨fun q => q.2.2.1 c16, rfl, rfl⟩)
      · refine ev_br 2 [] (ln ≤ (9 : Int32)) 28 25 ([some (.ref 0), some (.int (la)), some (.int (k)), some (.int (ln)), some (.int (fi)), some (.int (lc)), none], [], σ) rfl ?_ (fun c22 => ?_) (fun c22 => ?_)
        · trivial
        · refine ev_br 1 [] (fi < 0) 40 33 ([some (.ref 0), some (.int (la)), some (.int (k)), some (.int (ln)), some (.int (fi)), some (.int (lc)), none], [], σ) rfl ?_ (fun c30 => ?_) (fun c30 => ?_)
          · trivial
          · refine ev_blk 1 [] 42 ([some (.ref 0), some (.int (la)), some (.int (k)), some (.int (ln)), some (.int (fi)), some (.int (lc)), none], [.int ((-2 : Int32))], σ) rfl ?_ ?_
            · trivial
            exact ev_iret rfl rfl rfl (Or.inl ⟨fun q => q.2.2.2.2.1 c30, rfl, rfl⟩)
          · refine ev_br 2 [] (fi ≤ (9 : Int32)) 43 40 ([some (.ref 0), some (.int (la)), some (.int (k)), some (.int (ln)), some (.int (fi)), some (.int (lc)), none], [], σ) rfl ?_ (fun c37 => ?_) (fun c37 => ?_)
            · trivial
            · refine ev_br 1 [] (lc < 0) 55 48 ([some (.ref 0), some (.int (la)), some (.int (k)), some (.int (ln)), some (.int (fi)), some (.int (lc)), none], [], σ) rfl ?_ (fun c45 => ?_) (fun c45 => ?_)
              · trivial
              · refine ev_blk 1 [] 57 ([some (.ref 0), some (.int (la)), some (.int (k)), some (.int (ln)), some (.int (fi)), some (.int (lc)), none], [.int ((-2 : Int32))], σ) rfl ?_ ?_
                · trivial
                exact ev_iret rfl rfl rfl (Or.inl ⟨fun q => q.2.2.2.2.2.2.1 c45, rfl, rfl⟩)
              · refine ev_br 2 [] (lc < (1000000 : Int32)) 58 55 ([some (.ref 0), some (.int (la)), some (.int (k)), some (.int (ln)), some (.int (fi)), some (.int (lc)), none], [], σ) rfl ?_ (fun c52 => ?_) (fun c52 => ?_)
                · trivial
                · refine ev_br 4 [] ((σ 1 0) < (10 : Int32)) 73 70 ([some (.ref 0), some (.int (la)), some (.int (k)), some (.int (ln)), some (.int (fi)), some (.int (lc)), none], [], σ) rfl ?_ (fun c67 => ?_) (fun c67 => ?_)
                  · trivial
                  · rw [hn] at c67
                    have hlt : n < 10 := by have := mt (fun z => nI_le (a := 10) (b := n) z (by omega)) (Int32.not_le.mpr c67); omega
                    have hin : vp_in (σ 1 0) 10 := by rw [hn]; exact vp_in_nI hlt (by decide)
                    have hnc : (nI n).toNatClampNeg = n := nI_clamp (by omega)
                    have h1000 : ¬ (1000 : Int32) = 0 := by decide
                    refine ev_blk 70 [vp_in ((σ 1 0)) 10, vp_in ((σ 1 0)) 10, vp_in ((σ 1 0)) 10, ¬ (1000 : Int32) = 0, vp_in ((σ 1 0)) 10, ¬ (1000 : Int32) = 0, vp_in ((σ 1 0)) 10, vp_in ((σ 1 0)) 10, vp_in ((σ 1 0)) 10] 206 ([some (.ref 0), some (.int (la)), some (.int (k)), some (.int (ln)), some (.int (fi)), some (.int (lc)), some (.int ((σ 1 0)))], [.int ((σ 1 0))], (x_up (x_up (x_up (x_up (x_up (x_up (x_up (x_up (x_up (x_up σ 2 (upd (σ 2) (σ 1 0).toNatClampNeg (k))) 3 (upd (σ 3) (σ 1 0).toNatClampNeg (ln))) 4 (upd (σ 4) (σ 1 0).toNatClampNeg (fi))) 5 (upd (σ 5) (σ 1 0).toNatClampNeg (lc / (1000 : Int32)))) 6 (upd (σ 6) (σ 1 0).toNatClampNeg (lc - lc / (1000 : Int32) * (1000 : Int32)))) 7 (upd (σ 7) (σ 1 0).toNatClampNeg (la))) 8 (upd (σ 8) (σ 1 0).toNatClampNeg ((-1 : Int32)))) 1 (upd (σ 1) 1 ((σ 1 1) ||| ((1 : Int32) <<< ((σ 1 0) &&& 31))))) 1 (upd (upd (σ 1) 1 ((σ 1 1) ||| ((1 : Int32) <<< ((σ 1 0) &&& 31)))) 0 ((σ 1 0) + (1 : Int32)))) 0 (upd (σ 0) 4 ((0 : Int32))))) rfl ?_ ?_
                    · exact ⟨hin, hin, hin, h1000, hin, h1000, hin, hin, hin⟩
                    rw [hn]
                    rw [hnc]
                    exact ev_iret rfl rfl rfl (Or.inr (Or.inr ⟨⟨c4, c11, c16, c22, c30, c37, c45, c52⟩, hlt, rfl, rfl⟩))
                  · refine ev_blk 1 [] 72 ([some (.ref 0), some (.int (la)), some (.int (k)), some (.int (ln)), some (.int (fi)), some (.int (lc)), none], [.int ((-4 : Int32))], σ) rfl ?_ ?_
                    · trivial
                    rw [hn] at c67
                    exact ev_iret rfl rfl rfl (Or.inr (Or.inl ⟨⟨c4, c11, c16, c22, c30, c37, c45, c52⟩, by have := mt (fun z => nI_lt (a := n) (b := 10) z (by decide)) c67; omega, rfl, rfl⟩))
                · refine ev_blk 1 [] 57 ([some (.ref 0), some (.int (la)), some (.int (k)), some (.int (ln)), some (.int (fi)), some (.int (lc)), none], [.int ((-2 : Int32))], σ) rfl ?_ ?_
                  · trivial
                  exact ev_iret rfl rfl rfl (Or.inl ⟨fun q => c52 q.2.2.2.2.2.2.2, rfl, rfl⟩)
            · refine ev_blk 1 [] 42 ([some (.ref 0), some (.int (la)), some (.int (k)), some (.int (ln)), some (.int (fi)), some (.int (lc)), none], [.int ((-2 : Int32))], σ) rfl ?_ ?_
              · trivial
              exact ev_iret rfl rfl rfl (Or.inl ⟨fun q => c37 q.2.2.2.2.2.1, rfl, rfl⟩)
        · refine ev_blk 1 [] 27 ([some (.ref 0), some (.int (la)), some (.int (k)), some (.int (ln)), some (.int (fi)), some (.int (lc)), none], [.int ((-2 : Int32))], σ) rfl ?_ ?_
          · trivial
          exact ev_iret rfl rfl rfl (Or.inl ⟨fun q => c22 q.2.2.2.1, rfl, rfl⟩)
def mShip0 (σ : xSg) (n len : Nat) (k ln fi lc : Int32) : xSg := (x_up (x_up (x_up (x_up (x_up (x_up (x_up (x_up (x_up (x_up (x_up (x_up σ 58 (upd (σ 58) n (k))) 59 (upd (σ 59) n (ln))) 60 (upd (σ 60) n (fi))) 61 (upd (σ 61) n (lc / (1000 : Int32)))) 62 (upd (σ 62) n (lc - lc / (1000 : Int32) * (1000 : Int32)))) 63 (upd (σ 63) n ((0 : Int32)))) 64 (upd (σ 64) n ((0 : Int32)))) 65 (upd (σ 65) n ((-1 : Int32)))) 66 (upd (σ 66) (0 + len) ((nI n)))) 67 (upd (σ 67) 0 ((nI len) + (1 : Int32)))) 57 (upd (σ 57) 16 ((0 : Int32)))) 57 (upd (upd (σ 57) 16 ((0 : Int32))) 0 ((nI n) + (1 : Int32))))
def mShip1 (σ : xSg) (n len : Nat) (k ln fi lc : Int32) : xSg := (x_up (x_up (x_up (x_up (x_up (x_up (x_up (x_up (x_up (x_up (x_up (x_up σ 58 (upd (σ 58) n (k))) 59 (upd (σ 59) n (ln))) 60 (upd (σ 60) n (fi))) 61 (upd (σ 61) n (lc / (1000 : Int32)))) 62 (upd (σ 62) n (lc - lc / (1000 : Int32) * (1000 : Int32)))) 63 (upd (σ 63) n ((1 : Int32)))) 64 (upd (σ 64) n ((0 : Int32)))) 65 (upd (σ 65) n ((-1 : Int32)))) 66 (upd (σ 66) (10 + len) ((nI n)))) 67 (upd (σ 67) 1 ((nI len) + (1 : Int32)))) 57 (upd (σ 57) 16 ((0 : Int32)))) 57 (upd (upd (σ 57) 16 ((0 : Int32))) 0 ((nI n) + (1 : Int32))))
def mShip (σ : xSg) (n a b : Nat) (la k ln fi lc : Int32) : xSg := if la = 0 then mShip0 σ n a k ln fi lc else mShip1 σ n b k ln fi lc
set_option maxRecDepth 100000 in
theorem m_comesTo (σ : xSg) (n : Nat) (hn : σ 57 0 = nI n) (hn10 : n ≤ 10) (A B : List Nat) (hL : LR σ A B) (hAB : A.length + B.length ≤ n) (la k ln fi lc : Int32) : xCtr M_X6_comesTo [.ref 57, .int (la), .int (k), .int (ln), .int (fi), .int (lc)] σ (shQ n σ (mShip σ n A.length B.length la k ln fi lc) la k ln fi lc) := by
  refine ctr_ev ok_X6_comesTo (by decide +kernel) rfl rfl rfl ?_
  show xEv (.inl 1) M_X6_comesTo _ 0 ([some (.ref 57), some (.int (la)), some (.int (k)), some (.int (ln)), some (.int (fi)), some (.int (lc))], [], σ)
  refine ev_blk 3 [] 3 ([some (.ref 57), some (.int (la)), some (.int (k)), some (.int (ln)), some (.int (fi)), some (.int (lc))], [.int ((1 : Int32)), .int ((0 : Int32)), .int (la)], σ) rfl ?_ ?_
  · trivial
  refine ev_callS M_X6_within [.int (la), .int ((0 : Int32)), .int ((1 : Int32))] [] rfl rfl ln_X6_110 k_X6_within rfl rfl rfl (m_within _ _ _ _) ?_
  refine pu_k ?_
  show xEv _ _ _ 6 ([some (.ref 57), some (.int (la)), some (.int (k)), some (.int (ln)), some (.int (fi)), some (.int (lc))], [.int (zi (¬ la < (0 : Int32) ∧ ¬ (1 : Int32) < la))], σ)
  refine ev_br 0 [] ((zi (¬ la < (0 : Int32) ∧ ¬ (1 : Int32) < la)) = 0) 50 9 ([some (.ref 57), some (.int (la)), some (.int (k)), some (.int (ln)), some (.int (fi)), some (.int (lc))], [], σ) rfl ?_ (fun c6 => ?_) (fun c6 => ?_)
  · trivial
  · replace c6 := zi_0.mp c6
    refine ev_blk 1 [] 52 ([some (.ref 57), some (.int (la)), some (.int (k)), some (.int (ln)), some (.int (fi)), some (.int (lc))], [.int ((-2 : Int32))], σ) rfl ?_ ?_
    · trivial
    exact ev_iret rfl rfl rfl (Or.inl ⟨fun q => c6 ⟨q.1.1, fun z => q.1.2 (i_21.mpr z)⟩, rfl, rfl⟩)
  · replace c6 := zi_1.mp c6
    refine ev_blk 3 [] 12 ([some (.ref 57), some (.int (la)), some (.int (k)), some (.int (ln)), some (.int (fi)), some (.int (lc))], [.int ((5 : Int32)), .int ((0 : Int32)), .int (k)], σ) rfl ?_ ?_
    · trivial
    refine ev_callS M_X6_within [.int (k), .int ((0 : Int32)), .int ((5 : Int32))] [] rfl rfl ln_X6_110 k_X6_within rfl rfl rfl (m_within _ _ _ _) ?_
    refine pu_k ?_
    show xEv _ _ _ 15 ([some (.ref 57), some (.int (la)), some (.int (k)), some (.int (ln)), some (.int (fi)), some (.int (lc))], [.int (zi (¬ k < (0 : Int32) ∧ ¬ (5 : Int32) < k))], σ)
    refine ev_br 0 [] ((zi (¬ k < (0 : Int32) ∧ ¬ (5 : Int32) < k)) = 0) 50 18 ([some (.ref 57), some (.int (la)), some (.int (k)), some (.int (ln)), some (.int (fi)), some (.int (lc))], [], σ) rfl ?_ (fun c15 => ?_) (fun c15 => ?_)
    · trivial
    · replace c15 := zi_0.mp c15
      refine ev_blk 1 [] 52 ([some (.ref 57), some (.int (la)), some (.int (k)), some (.int (ln)), some (.int (fi)), some (.int (lc))], [.int ((-2 : Int32))], σ) rfl ?_ ?_
      · trivial
      exact ev_iret rfl rfl rfl (Or.inl ⟨fun q => c15 q.2.1, rfl, rfl⟩)
    · replace c15 := zi_1.mp c15
      refine ev_blk 3 [] 22 ([some (.ref 57), some (.int (la)), some (.int (k)), some (.int (ln)), some (.int (fi)), some (.int (lc))], [.int ((9 : Int32)), .int ((1 : Int32)), .int (ln)], σ) rfl ?_ ?_
      · trivial
      refine ev_callS M_X6_within [.int (ln), .int ((1 : Int32)), .int ((9 : Int32))] [] rfl rfl ln_X6_110 k_X6_within rfl rfl rfl (m_within _ _ _ _) ?_
      refine pu_k ?_
      show xEv _ _ _ 25 ([some (.ref 57), some (.int (la)), some (.int (k)), some (.int (ln)), some (.int (fi)), some (.int (lc))], [.int (zi (¬ ln < (1 : Int32) ∧ ¬ (9 : Int32) < ln))], σ)
      refine ev_br 0 [] ((zi (¬ ln < (1 : Int32) ∧ ¬ (9 : Int32) < ln)) = 0) 50 28 ([some (.ref 57), some (.int (la)), some (.int (k)), some (.int (ln)), some (.int (fi)), some (.int (lc))], [], σ) rfl ?_ (fun c25 => ?_) (fun c25 => ?_)
      · trivial
      · replace c25 := zi_0.mp c25
        refine ev_blk 1 [] 52 ([some (.ref 57), some (.int (la)), some (.int (k)), some (.int (ln)), some (.int (fi)), some (.int (lc))], [.int ((-2 : Int32))], σ) rfl ?_ ?_
        · trivial
        exact ev_iret rfl rfl rfl (Or.inl ⟨fun q => c25 ⟨q.2.2.1, Int32.not_lt.mpr q.2.2.2.1⟩, rfl, rfl⟩)
      · replace c25 := zi_1.mp c25
        refine ev_blk 3 [] 33 ([some (.ref 57), some (.int (la)), some (.int (k)), some (.int (ln)), some (.int (fi)), some (.int (lc))], [.int ((9 : Int32)), .int ((0 : Int32)), .int (fi)], σ) rfl ?_ ?_
        · trivial
        refine ev_callS M_X6_within [.int (fi), .int ((0 : Int32)), .int ((9 : Int32))] [] rfl rfl ln_X6_110 k_X6_within rfl rfl rfl (m_within _ _ _ _) ?_
        refine pu_k ?_
        show xEv _ _ _ 36 ([some (.ref 57), some (.int (la)), some (.int (k)), some (.int (ln)), some (.int (fi)), some (.int (lc))], [.int (zi (¬ fi < (0 : Int32) ∧ ¬ (9 : Int32) < fi))], σ)
        refine ev_br 0 [] ((zi (¬ fi < (0 : Int32) ∧ ¬ (9 : Int32) < fi)) = 0) 50 39 ([some (.ref 57), some (.int (la)), some (.int (k)), some (.int (ln)), some (.int (fi)), some (.int (lc))], [], σ) rfl ?_ (fun c36 => ?_) (fun c36 => ?_)
        · trivial
        · replace c36 := zi_0.mp c36
          refine ev_blk 1 [] 52 ([some (.ref 57), some (.int (la)), some (.int (k)), some (.int (ln)), some (.int (fi)), some (.int (lc))], [.int ((-2 : Int32))], σ) rfl ?_ ?_
          · trivial
          exact ev_iret rfl rfl rfl (Or.inl ⟨fun q => c36 ⟨q.2.2.2.2.1, Int32.not_lt.mpr q.2.2.2.2.2.1⟩, rfl, rfl⟩)
        · replace c36 := zi_1.mp c36
          refine ev_blk 3 [] 44 ([some (.ref 57), some (.int (la)), some (.int (k)), some (.int (ln)), some (.int (fi)), some (.int (lc))], [.int ((999999 : Int32)), .int ((0 : Int32)), .int (lc)], σ) rfl ?_ ?_
          · trivial
          refine ev_callS M_X6_within [.int (lc), .int ((0 : Int32)), .int ((999999 : Int32))] [] rfl rfl ln_X6_110 k_X6_within rfl rfl rfl (m_within _ _ _ _) ?_
          refine pu_k ?_
          show xEv _ _ _ 47 ([some (.ref 57), some (.int (la)), some (.int (k)), some (.int (ln)), some (.int (fi)), some (.int (lc))], [.int (zi (¬ lc < (0 : Int32) ∧ ¬ (999999 : Int32) < lc))], σ)
          refine ev_br 0 [] (¬ (zi (¬ lc < (0 : Int32) ∧ ¬ (999999 : Int32) < lc)) = 0) 53 50 ([some (.ref 57), some (.int (la)), some (.int (k)), some (.int (ln)), some (.int (fi)), some (.int (lc))], [], σ) rfl ?_ (fun c47 => ?_) (fun c47 => ?_)
          · trivial
          · replace c47 := zi_1.mp c47
            refine ev_br 3 [] (¬ (σ 57 0) = (10 : Int32)) 65 62 ([some (.ref 57), some (.int (la)), some (.int (k)), some (.int (ln)), some (.int (fi)), some (.int (lc))], [], σ) rfl ?_ (fun c59 => ?_) (fun c59 => ?_)
            · trivial
            · have hlt : n < 10 := by
                have : n ≠ 10 := fun q => c59 (by rw [hn, q]; rfl)
                omega
              have hin : vp_in (σ 57 0) 10 := by rw [hn]; exact vp_in_nI hlt (by decide)
              have hnc : (nI n).toNatClampNeg = n := nI_clamp (by omega)
              have h1000 : ¬ (1000 : Int32) = 0 := by decide
              obtain ⟨l, hl, rfl⟩ := nI_of c6.1
              rcases (show l = 0 ∨ l = 1 by have := mt (fun z => nI_lt (a := 1) (b := l) z hl) c6.2; omega) with rfl | rfl
              · have hm := hL.2.2.2.2.1
                have hl2 : vp_in (0 : Int32) 2 := vp_in_nI (n := 0) (by decide) (by decide)
                have hix : ((0 : Int32) + (σ 67 0)) = nI (0 + A.length) := by rw [hm, show (0 : Int32) = nI 0 from rfl, nI_add]
                have hl20 : vp_in ((0 : Int32) + (σ 67 0)) 20 := by rw [hix]; exact vp_in_nI (by omega) (by decide)
                have hixc : (nI (0 + A.length)).toNatClampNeg = 0 + A.length := nI_clamp (by omega)
                show xEv _ _ _ 65 ([some (.ref 57), some (.int ((0 : Int32))), some (.int (k)), some (.int (ln)), some (.int (fi)), some (.int (lc))], [], σ)
                refine ev_blk 83 [vp_in ((σ 57 0)) 10, vp_in ((σ 57 0)) 10, vp_in ((σ 57 0)) 10, ¬ (1000 : Int32) = 0, vp_in ((σ 57 0)) 10, ¬ (1000 : Int32) = 0, vp_in ((σ 57 0)) 10, vp_in ((σ 57 0)) 10, vp_in ((σ 57 0)) 10, vp_in ((σ 57 0)) 10, vp_in ((0 : Int32)) 2, vp_in ((0 : Int32) + ((σ 67) 0)) 20, vp_in ((0 : Int32)) 2, vp_in ((0 : Int32)) 2] 202 ([some (.ref 57), some (.int ((0 : Int32))), some (.int (k)), some (.int (ln)), some (.int (fi)), some (.int (lc))], [.int ((σ 57 0))], (x_up (x_up (x_up (x_up (x_up (x_up (x_up (x_up (x_up (x_up (x_up (x_up σ 58 (upd (σ 58) (σ 57 0).toNatClampNeg (k))) 59 (upd (σ 59) (σ 57 0).toNatClampNeg (ln))) 60 (upd (σ 60) (σ 57 0).toNatClampNeg (fi))) 61 (upd (σ 61) (σ 57 0).toNatClampNeg (lc / (1000 : Int32)))) 62 (upd (σ 62) (σ 57 0).toNatClampNeg (lc - lc / (1000 : Int32) * (1000 : Int32)))) 63 (upd (σ 63) (σ 57 0).toNatClampNeg ((0 : Int32)))) 64 (upd (σ 64) (σ 57 0).toNatClampNeg ((0 : Int32)))) 65 (upd (σ 65) (σ 57 0).toNatClampNeg ((-1 : Int32)))) 66 (upd (σ 66) ((0 : Int32) + ((σ 67) 0)).toNatClampNeg ((σ 57 0)))) 67 (upd (σ 67) 0 (((σ 67) 0) + (1 : Int32)))) 57 (upd (σ 57) 16 ((0 : Int32)))) 57 (upd (upd (σ 57) 16 ((0 : Int32))) 0 ((σ 57 0) + (1 : Int32))))) rfl ?_ ?_
                · exact ⟨hin, hin, hin, h1000, hin, h1000, hin, hin, hin, hin, hl2, hl20, hl2, hl2⟩
                rw [hn]
                rw [hnc]
                rw [hix, hixc]
                rw [hm]
                exact ev_iret rfl rfl rfl (Or.inr (Or.inr ⟨⟨⟨c6.1, fun q => c6.2 (i_21.mp q)⟩, c15, c25.1, Int32.not_lt.mp c25.2, c36.1, Int32.not_lt.mp c36.2, c47.1, i_6.mpr c47.2⟩, hlt, rfl, rfl⟩))
              · have hm := hL.2.2.2.2.2
                have hl2 : vp_in (1 : Int32) 2 := vp_in_nI (n := 1) (by decide) (by decide)
                have hix : ((10 : Int32) + (σ 67 1)) = nI (10 + B.length) := by rw [hm, show (10 : Int32) = nI 10 from rfl, nI_add]
                have hl20 : vp_in ((10 : Int32) + (σ 67 1)) 20 := by rw [hix]; exact vp_in_nI (by omega) (by decide)
                have hixc : (nI (10 + B.length)).toNatClampNeg = 10 + B.length := nI_clamp (by omega)
                show xEv _ _ _ 65 ([some (.ref 57), some (.int ((1 : Int32))), some (.int (k)), some (.int (ln)), some (.int (fi)), some (.int (lc))], [], σ)
                refine ev_blk 83 [vp_in ((σ 57 0)) 10, vp_in ((σ 57 0)) 10, vp_in ((σ 57 0)) 10, ¬ (1000 : Int32) = 0, vp_in ((σ 57 0)) 10, ¬ (1000 : Int32) = 0, vp_in ((σ 57 0)) 10, vp_in ((σ 57 0)) 10, vp_in ((σ 57 0)) 10, vp_in ((σ 57 0)) 10, vp_in ((1 : Int32)) 2, vp_in ((10 : Int32) + ((σ 67) 1)) 20, vp_in ((1 : Int32)) 2, vp_in ((1 : Int32)) 2] 202 ([some (.ref 57), some (.int ((1 : Int32))), some (.int (k)), some (.int (ln)), some (.int (fi)), some (.int (lc))], [.int ((σ 57 0))], (x_up (x_up (x_up (x_up (x_up (x_up (x_up (x_up (x_up (x_up (x_up (x_up σ 58 (upd (σ 58) (σ 57 0).toNatClampNeg (k))) 59 (upd (σ 59) (σ 57 0).toNatClampNeg (ln))) 60 (upd (σ 60) (σ 57 0).toNatClampNeg (fi))) 61 (upd (σ 61) (σ 57 0).toNatClampNeg (lc / (1000 : Int32)))) 62 (upd (σ 62) (σ 57 0).toNatClampNeg (lc - lc / (1000 : Int32) * (1000 : Int32)))) 63 (upd (σ 63) (σ 57 0).toNatClampNeg ((1 : Int32)))) 64 (upd (σ 64) (σ 57 0).toNatClampNeg ((0 : Int32)))) 65 (upd (σ 65) (σ 57 0).toNatClampNeg ((-1 : Int32)))) 66 (upd (σ 66) ((10 : Int32) + ((σ 67) 1)).toNatClampNeg ((σ 57 0)))) 67 (upd (σ 67) 1 (((σ 67) 1) + (1 : Int32)))) 57 (upd (σ 57) 16 ((0 : Int32)))) 57 (upd (upd (σ 57) 16 ((0 : Int32))) 0 ((σ 57 0) + (1 : Int32))))) rfl ?_ ?_
                · exact ⟨hin, hin, hin, h1000, hin, h1000, hin, hin, hin, hin, hl2, hl20, hl2, hl2⟩
                rw [hn]
                rw [hnc]
                rw [hix, hixc]
                rw [hm]
                exact ev_iret rfl rfl rfl (Or.inr (Or.inr ⟨⟨⟨c6.1, fun q => c6.2 (i_21.mp q)⟩, c15, c25.1, Int32.not_lt.mp c25.2, c36.1, Int32.not_lt.mp c36.2, c47.1, i_6.mpr c47.2⟩, hlt, rfl, rfl⟩))
            · refine ev_blk 1 [] 64 ([some (.ref 57), some (.int (la)), some (.int (k)), some (.int (ln)), some (.int (fi)), some (.int (lc))], [.int ((-4 : Int32))], σ) rfl ?_ ?_
              · trivial
              rw [hn] at c59
              exact ev_iret rfl rfl rfl (Or.inr (Or.inl ⟨⟨⟨c6.1, fun q => c6.2 (i_21.mp q)⟩, c15, c25.1, Int32.not_lt.mp c25.2, c36.1, Int32.not_lt.mp c36.2, c47.1, i_6.mpr c47.2⟩, (nI_eq (by omega) (by decide)).mp (Classical.byContradiction c59), rfl, rfl⟩))
          · replace c47 := zi_n.mp c47
            refine ev_blk 1 [] 52 ([some (.ref 57), some (.int (la)), some (.int (k)), some (.int (ln)), some (.int (fi)), some (.int (lc))], [.int ((-2 : Int32))], σ) rfl ?_ ?_
            · trivial
            exact ev_iret rfl rfl rfl (Or.inl ⟨fun q => c47 ⟨q.2.2.2.2.2.2.1, i_6.mp q.2.2.2.2.2.2.2⟩, rfl, rfl⟩)
set_option maxRecDepth 100000 in
theorem m_ship (σ : xSg) (n : Nat) (hn : σ 57 0 = nI n) (hn10 : n ≤ 10) (A B : List Nat) (hL : LR σ A B) (hAB : A.length + B.length ≤ n) (la k ln fi lc : Int32) : xCtr M_X6_ship [.ref 57, .int (la), .int (k), .int (ln), .int (fi), .int (lc)] σ (shQ n σ (mShip σ n A.length B.length la k ln fi lc) la k ln fi lc) := by
  refine ctr_ev ok_X6_ship (by decide +kernel) rfl rfl rfl ?_
  show xEv (.inl 2) M_X6_ship _ 0 ([some (.ref 57), some (.int (la)), some (.int (k)), some (.int (ln)), some (.int (fi)), some (.int (lc))], [], σ)
  refine ev_blk 6 [] 8 ([some (.ref 57), some (.int (la)), some (.int (k)), some (.int (ln)), some (.int (fi)), some (.int (lc))], [.int (lc), .int (fi), .int (ln), .int (k), .int (la), .ref 57], σ) rfl ?_ ?_
  · trivial
  refine ev_callV M_X6_comesTo [.int (la), .int (k), .int (ln), .int (fi), .int (lc)] [] 57 rfl rfl ln_X6_118 k_X6_comesTo rfl rfl rfl rfl rfl rfl (m_comesTo σ n hn hn10 A B hL hAB la k ln fi lc) ?_
  rintro r σ1 hq
  obtain ⟨v, rfl⟩ : ∃ v, r = some (.int v) := hq.elim (fun z => ⟨_, z.2.1⟩) (fun z => z.elim (fun z => ⟨_, z.2.2.1⟩) (fun z => ⟨_, z.2.2.1⟩))
  show xEv _ _ _ 11 ([some (.ref 57), some (.int (la)), some (.int (k)), some (.int (ln)), some (.int (fi)), some (.int (lc))], [.int v], σ1)
  exact ev_iret rfl rfl rfl hq
end
section
def remQ (σ : xSg) (D : Nat) (x : Int32) : Option Value → xSg → Prop := fun r σ' => r = none ∧ xFc [25] [4] [] σ σ' ∧ σ' 0 4 = nI (if D < 6 then D + 1 else 6) ∧ ∀ k, k < 6 → σ' 25 k = if D < 6 then upd (σ 25) D x k else if k < 5 then σ 25 (k + 1) else x
set_option maxRecDepth 100000 in
theorem c_remember (σ : xSg) (D : Nat) (hD : σ 0 4 = nI D) (hD6 : D ≤ 6) (x : Int32) : xCtr M_X5_remember [.ref 0, .int (x)] σ (remQ σ D x) := by
  refine ctr_ev ok_X5_remember (by decide +kernel) rfl rfl rfl ?_
  show xEv (.inl 1) M_X5_remember _ 0 ([some (.ref 0), some (.int (x))], [], σ)
  refine ev_br 3 [] ((σ 0 4) < (6 : Int32)) 28 9 ([some (.ref 0), some (.int (x))], [], σ) rfl ?_ (fun c6 => ?_) (fun c6 => ?_)
  · trivial
  · have hlt : D < 6 := by have := mt (fun z => nI_le (a := 6) (b := D) z (by omega)) (Int32.not_le.mpr (by rw [hD] at c6; exact c6)); omega
    have hin : vp_in (σ 0 4) 6 := by rw [hD]; exact vp_in_nI hlt (by decide)
    refine ev_blk 12 [vp_in ((σ 0 4)) 6] 48 ([some (.ref 0), some (.int (x))], [], (x_up (x_up σ 25 (upd (σ 25) (σ 0 4).toNatClampNeg (x))) 0 (upd (σ 0) 4 ((σ 0 4) + (1 : Int32))))) rfl ?_ ?_
    · exact hin
    have hc : (σ 0 4).toNatClampNeg = D := by rw [hD, nI_clamp (by omega)]
    refine ev_vret rfl rfl ⟨rfl, ⟨fun c h h0 h1 => ?_, fun i h => ?_, fun i h => rfl⟩, ?_, fun k hk => ?_⟩
    · simp only [List.mem_singleton] at h; simp [x_up, h, h0]
    · simp only [List.mem_singleton] at h; simp [x_up, upd, h]
    · rw [if_pos hlt]; simp [x_up, upd, hD, nI_1]
    · rw [if_pos hlt]; simp [x_up, hc]
  · have hlt : ¬ D < 6 := fun z => c6 (by rw [hD]; exact nI_lt (b := 6) z (by decide))
    refine ev_blk 23 [¬ (1 : Int32) < 0, ¬ (0 : Int32) < 0, ¬ (5 : Int32) < 0, 1 + 5 ≤ 6, 0 + 5 ≤ 6, vp_in ((5 : Int32)) 6] 48 ([some (.ref 0), some (.int (x))], [], (x_up (x_up (x_up (x_up σ 25 (va_cpy (σ 25) (σ 25) 1 0 5)) 0 (upd (σ 0) 4 ((5 : Int32)))) 25 (upd (va_cpy (σ 25) (σ 25) 1 0 5) 5 (x))) 0 (upd (upd (σ 0) 4 ((5 : Int32))) 4 ((5 : Int32) + (1 : Int32))))) rfl ?_ ?_
    · exact ⟨(by decide), (by decide), (by decide), (by decide), (by decide), (vp_in_nI (n := 5) (by decide) (by decide))⟩
    refine ev_vret rfl rfl ⟨rfl, ⟨fun c h h0 h1 => ?_, fun i h => ?_, fun i h => rfl⟩, ?_, fun k hk => ?_⟩
    · simp only [List.mem_singleton] at h; simp [x_up, h, h0]
    · simp only [List.mem_singleton] at h; simp [x_up, upd, h]
    · rw [if_neg hlt]; simp [x_up, upd]; decide
    · rw [if_neg hlt]
      by_cases hk5 : k = 5
      · subst hk5; simp [x_up, upd]
      · rw [if_pos (by omega)]
        show upd (va_cpy (σ 25) (σ 25) 1 0 5) 5 x k = _
        rw [upd_ne hk5, pk_cpy_in (by omega) (by omega)]
        congr 1; omega
def tbQ (σ : xSg) (d : Int32) : Option Value → xSg → Prop := fun r σ' => r = none ∧ xFc [8] [] [1, 2, 13] σ σ' ∧ σ' 1 1 = σ 1 1 ||| d ∧ σ' 1 2 = σ 1 2 &&& (d ^^^ -1) ∧ σ' 1 13 = (if d &&& σ 1 2 = 0 then σ 1 13 else σ 1 13 - 1) ∧ ∀ j, j < 10 → σ' 8 j = if bt d j = true then -1 else σ 8 j
set_option maxRecDepth 100000 in
theorem c_takeBack_lp (σ σ0 : xSg) (d : Int32) (h0 : ∀ c, c ≠ 1 → σ0 c = σ c) (h1 : ∀ i, i ≠ 13 → σ0 1 i = σ 1 i) (h13 : σ0 1 13 = (if d &&& σ 1 2 = 0 then σ 1 13 else σ 1 13 - 1)) : ∀ (m k : Nat), k + m = 10 → ∀ σ1 : xSg, (∀ c, c ≠ 8 → σ1 c = σ0 c) → (∀ j, j < 10 → σ1 8 j = if j < k ∧ bt d j = true then -1 else σ 8 j) → xEv (.inl 0) M_X3_takeBack (tbQ σ d) 21 ([some (.ref 1), some (.int (d)), some (.int (nI k))], [], σ1) := by
  intro m
  induction m with
  | zero =>
    intro k hk σ1 hc h8
    refine ev_br 2 [] ((10 : Int32) ≤ (nI k)) 48 27 ([some (.ref 1), some (.int (d)), some (.int (nI k))], [], σ1) rfl ?_ (fun c24 => ?_) (fun c24 => ?_)
    · trivial
    · refine ev_blk 14 [] 70 ([some (.ref 1), some (.int (d)), some (.int (nI k))], [], (x_up (x_up σ1 1 (upd (σ1 1) 2 ((σ1 1 2) &&& (d ^^^ (-1 : Int32))))) 1 (upd (upd (σ1 1) 2 ((σ1 1 2) &&& (d ^^^ (-1 : Int32)))) 1 ((σ1 1 1) ||| d)))) rfl ?_ ?_
      · trivial
      have e1 : σ1 1 = σ0 1 := hc 1 (by decide)
      refine ev_vret rfl rfl ⟨rfl, ⟨fun c h a b => ?_, fun i _ => ?_, fun i h => ?_⟩, ?_, ?_, ?_, fun j hj => ?_⟩
      · simp only [List.mem_singleton] at h; simp [x_up, b, hc c h, h0 c b]
      · simp [x_up, hc 0 (by decide), h0 0 (by decide)]
      · simp only [List.mem_cons, List.not_mem_nil, or_false, not_or] at h; simp [x_up, upd, e1, h, h1 i h.2.2]
      · simp [x_up, upd, e1, h1 1 (by decide)]
      · simp [x_up, upd, e1, h1 2 (by decide)]
      · simp [x_up, upd, e1, h13]
      · have := h8 j hj
        simp only [x_up]
        rw [if_neg (by decide), if_neg (by decide), this]
        simp [show j < k by omega]
    · exact absurd (show (10 : Int32) ≤ nI k from nI_le (a := 10) (by omega) (by omega)) c24
  | succ m ih =>
    intro k hk σ1 hc h8
    have hkc : (nI k).toNatClampNeg = k := nI_clamp (by omega)
    have hb := b_tst (x := d) (j := k) (by omega)
    refine ev_br 2 [] ((10 : Int32) ≤ (nI k)) 48 27 ([some (.ref 1), some (.int (d)), some (.int (nI k))], [], σ1) rfl ?_ (fun c24 => ?_) (fun c24 => ?_)
    · trivial
    · exact absurd c24 (nI_ge (b := 10) (by omega) (by decide))
    · refine ev_br 5 [] (((d >>> ((nI k) &&& 31)) &&& (1 : Int32)) = 0) 42 35 ([some (.ref 1), some (.int (d)), some (.int (nI k))], [], σ1) rfl ?_ (fun c32 => ?_) (fun c32 => ?_)
      · trivial
      · refine ev_blk 2 [] 21 ([some (.ref 1), some (.int (d)), some (.int ((nI k) + (1 : Int32)))], [], σ1) rfl ?_ ?_
        · trivial
        rw [nI_1]
        refine ih (k + 1) (by omega) σ1 hc (fun j hj => ?_)
        rw [h8 j hj]
        have hbf := hb.mp c32
        by_cases hjk : j = k
        · subst hjk; simp [hbf]
        · simp [show (j < k + 1) = (j < k) from propext ⟨fun z => by omega, fun z => by omega⟩]
      · refine ev_blk 7 [vp_in (nI k) 10] 21 ([some (.ref 1), some (.int (d)), some (.int ((nI k) + (1 : Int32)))], [], (x_up σ1 8 (upd (σ1 8) (nI k).toNatClampNeg ((-1 : Int32))))) rfl ?_ ?_
        · exact (vp_in_nI (by omega) (by decide))
        rw [hkc]
        rw [nI_1]
        refine ih (k + 1) (by omega) _ (fun c h => ?_) (fun j hj => ?_)
        · simp [x_up, h, hc c h]
        · have hbt : bt d k = true := by
            cases hz : bt d k with
            | false => exact absurd (hb.mpr hz) c32
            | true => rfl
          simp only [x_up, upd, if_true]
          by_cases hjk : j = k
          · subst hjk; simp [hbt]
          · rw [if_neg hjk, h8 j hj]
            simp [show (j < k + 1) = (j < k) from propext ⟨fun z => by omega, fun z => by omega⟩]
set_option maxRecDepth 100000 in
theorem c_takeBack (σ : xSg) (d : Int32) : xCtr M_X3_takeBack [.ref 1, .int (d)] σ (tbQ σ d) := by
  refine ctr_ev ok_X3_takeBack (by decide +kernel) rfl rfl rfl ?_
  show xEv (.inl 0) M_X3_takeBack _ 0 ([some (.ref 1), some (.int (d)), none], [], σ)
  refine ev_br 4 [] ((d &&& (σ 1 2)) = 0) 19 9 ([some (.ref 1), some (.int (d)), none], [], σ) rfl ?_ (fun c6 => ?_) (fun c6 => ?_)
  · trivial
  · refine ev_blk 2 [] 21 ([some (.ref 1), some (.int (d)), some (.int ((0 : Int32)))], [], σ) rfl ?_ ?_
    · trivial
    exact c_takeBack_lp σ σ d (fun _ _ => rfl) (fun _ _ => rfl) (by rw [if_pos c6]) 10 0 (by omega) σ (fun _ _ => rfl) (fun j hj => by simp)
  · refine ev_blk 8 [] 21 ([some (.ref 1), some (.int (d)), some (.int ((0 : Int32)))], [], (x_up σ 1 (upd (σ 1) 13 ((σ 1 13) - (1 : Int32))))) rfl ?_ ?_
    · trivial
    exact c_takeBack_lp σ _ d (fun c h => by simp [x_up, h]) (fun i h => by simp [x_up, upd, h]) (by rw [if_neg c6]; simp [x_up, upd]) 10 0 (by omega) _ (fun _ _ => rfl) (fun j hj => by simp [x_up])
end
section
def gbQ (σ : xSg) (d wa : Int32) (l : Nat) : Option Value → xSg → Prop := fun r σ' => r = none ∧ xFc [8, 12] [] [1, 2, 13] σ σ' ∧ σ' 1 1 = σ 1 1 &&& (d ^^^ -1) ∧ σ' 1 2 = σ 1 2 ||| d ∧ σ' 1 13 = nI (l + 1) ∧ σ' 12 = upd (σ 12) l wa ∧ ∀ j, j < 10 → σ' 8 j = if bt d j = true then nI l else σ 8 j
set_option maxRecDepth 100000 in
theorem c_goneBy_lp (σ : xSg) (d wa : Int32) (l : Nat) (hl : σ 1 13 = nI l) (hl40 : l < 40) : ∀ (m k : Nat), k + m = 10 → ∀ σ1 : xSg, (∀ c, c ≠ 8 → σ1 c = σ c) → (∀ j, j < 10 → σ1 8 j = if j < k ∧ bt d j = true then nI l else σ 8 j) → xEv (.inl 0) M_X3_goneBy (gbQ σ d wa l) 19 ([some (.ref 1), some (.int (d)), some (.int (wa)), some (.int (nI k))], [], σ1) := by
  intro m
  induction m with
  | zero =>
    intro k hk σ1 hc h8
    have h13 : (σ1 1 13) = nI l := by rw [hc 1 (by decide)]; exact hl
    have hin : vp_in (σ1 1 13) 40 := by rw [h13]; exact vp_in_nI hl40 (by decide)
    have hlc : (nI l).toNatClampNeg = l := nI_clamp (by omega)
    refine ev_br 2 [] ((10 : Int32) ≤ (nI k)) 49 25 ([some (.ref 1), some (.int (d)), some (.int (wa)), some (.int (nI k))], [], σ1) rfl ?_ (fun c22 => ?_) (fun c22 => ?_)
    · trivial
    · refine ev_blk 26 [vp_in ((σ1 1 13)) 40] 91 ([some (.ref 1), some (.int (d)), some (.int (wa)), some (.int (nI k))], [], (x_up (x_up (x_up (x_up σ1 1 (upd (σ1 1) 1 ((σ1 1 1) &&& (d ^^^ (-1 : Int32))))) 1 (upd (upd (σ1 1) 1 ((σ1 1 1) &&& (d ^^^ (-1 : Int32)))) 2 ((σ1 1 2) ||| d))) 12 (upd (σ1 12) (σ1 1 13).toNatClampNeg (wa))) 1 (upd (upd (upd (σ1 1) 1 ((σ1 1 1) &&& (d ^^^ (-1 : Int32)))) 2 ((σ1 1 2) ||| d)) 13 ((σ1 1 13) + (1 : Int32))))) rfl ?_ ?_
      · exact hin
      have e1 : σ1 1 = σ 1 := hc 1 (by decide)
      refine ev_vret rfl rfl ⟨rfl, ⟨fun c h a b => ?_, fun i _ => ?_, fun i h => ?_⟩, ?_, ?_, ?_, ?_, fun j hj => ?_⟩
      · simp only [List.mem_cons, List.not_mem_nil, or_false, not_or] at h; simp [x_up, b, h.2, hc c h.1]
      · simp [x_up, hc 0 (by decide)]
      · simp only [List.mem_cons, List.not_mem_nil, or_false, not_or] at h; simp [x_up, upd, e1, h]
      · simp [x_up, upd, e1]
      · simp [x_up, upd, e1]
      · simp [x_up, upd, e1, hl, nI_1, nI_add]
      · simp only [x_up]
        rw [if_neg (by decide), if_pos True.intro, hc 12 (by decide), h13, hlc]
      · have := h8 j hj
        simp only [x_up]
        rw [if_neg (by decide), if_neg (by decide), if_neg (by decide), if_neg (by decide), this]
        simp [show j < k by omega]
    · exact absurd (show (10 : Int32) ≤ nI k from nI_le (a := 10) (by omega) (by omega)) c22
  | succ m ih =>
    intro k hk σ1 hc h8
    have h13 : (σ1 1 13) = nI l := by rw [hc 1 (by decide)]; exact hl
    have hkc : (nI k).toNatClampNeg = k := nI_clamp (by omega)
    have hb := b_tst (x := d) (j := k) (by omega)
    refine ev_br 2 [] ((10 : Int32) ≤ (nI k)) 49 25 ([some (.ref 1), some (.int (d)), some (.int (wa)), some (.int (nI k))], [], σ1) rfl ?_ (fun c22 => ?_) (fun c22 => ?_)
    · trivial
    · exact absurd c22 (nI_ge (b := 10) (by omega) (by decide))
    · refine ev_br 5 [] (((d >>> ((nI k) &&& 31)) &&& (1 : Int32)) = 0) 43 33 ([some (.ref 1), some (.int (d)), some (.int (wa)), some (.int (nI k))], [], σ1) rfl ?_ (fun c30 => ?_) (fun c30 => ?_)
      · trivial
      · refine ev_blk 2 [] 19 ([some (.ref 1), some (.int (d)), some (.int (wa)), some (.int ((nI k) + (1 : Int32)))], [], σ1) rfl ?_ ?_
        · trivial
        rw [nI_1]
        refine ih (k + 1) (by omega) σ1 hc (fun j hj => ?_)
        rw [h8 j hj]
        have hbf := hb.mp c30
        by_cases hjk : j = k
        · subst hjk; simp [hbf]
        · simp [show (j < k + 1) = (j < k) from propext ⟨fun z => by omega, fun z => by omega⟩]
      · refine ev_blk 8 [vp_in (nI k) 10] 19 ([some (.ref 1), some (.int (d)), some (.int (wa)), some (.int ((nI k) + (1 : Int32)))], [], (x_up σ1 8 (upd (σ1 8) (nI k).toNatClampNeg ((σ1 1 13))))) rfl ?_ ?_
        · exact (vp_in_nI (by omega) (by decide))
        rw [hkc]
        rw [h13]
        rw [nI_1]
        refine ih (k + 1) (by omega) _ (fun c h => ?_) (fun j hj => ?_)
        · simp [x_up, h, hc c h]
        · have hbt : bt d k = true := by
            cases hz : bt d k with
            | false => exact absurd (hb.mpr hz) c30
            | true => rfl
          simp only [x_up, upd, if_true]
          by_cases hjk : j = k
          · subst hjk; simp [hbt]
          · rw [if_neg hjk, h8 j hj]
            simp [show (j < k + 1) = (j < k) from propext ⟨fun z => by omega, fun z => by omega⟩]
set_option maxRecDepth 100000 in
theorem c_goneBy (σ : xSg) (d wa : Int32) (l : Nat) (hl : σ 1 13 = nI l) (hl40 : l < 40) : xCtr M_X3_goneBy [.ref 1, .int (d), .int (wa)] σ (gbQ σ d wa l) := by
  refine ctr_ev ok_X3_goneBy (by decide +kernel) rfl rfl rfl ?_
  show xEv (.inl 0) M_X3_goneBy _ 0 ([some (.ref 1), some (.int (d)), some (.int (wa)), none], [], σ)
  refine ev_br 2 [] ((σ 1 13) < 0) 16 7 ([some (.ref 1), some (.int (d)), some (.int (wa)), none], [], σ) rfl ?_ (fun c4 => ?_) (fun c4 => ?_)
  · trivial
  · exact absurd c4 (by rw [hl]; exact nI_pos (by omega))
  · refine ev_br 3 [] ((σ 1 13) < (40 : Int32)) 17 16 ([some (.ref 1), some (.int (d)), some (.int (wa)), none], [], σ) rfl ?_ (fun c13 => ?_) (fun c13 => ?_)
    · trivial
    · refine ev_blk 2 [] 19 ([some (.ref 1), some (.int (d)), some (.int (wa)), some (.int ((0 : Int32)))], [], σ) rfl ?_ ?_
      · trivial
      exact c_goneBy_lp σ d wa l hl hl40 10 0 (by omega) σ (fun _ _ => rfl) (fun j hj => by simp)
    · exact absurd (by rw [hl]; exact nI_lt (b := 40) hl40 (by decide)) c13
def udQ (σ : xSg) (D : Nat) : Option Value → xSg → Prop := fun r σ' => (D = 0 ∧ r = some (.int (-3)) ∧ σ' = σ) ∨ (0 < D ∧ r = some (.int (nI (D - 1))) ∧ σ' 0 4 = nI (D - 1) ∧ (∀ i, i ≠ 4 → σ' 0 i = σ 0 i) ∧ ∃ σ1, (∀ c, c ≠ 0 → σ1 c = σ c) ∧ σ1 0 = upd (σ 0) 4 (nI (D - 1)) ∧ tbQ σ1 (σ 25 (D - 1)) none σ')
set_option maxRecDepth 100000 in
theorem c_undo (σ : xSg) (D : Nat) (hD : σ 0 4 = nI D) (hD6 : D ≤ 6) : xCtr M_X5_undo [.ref 0] σ (udQ σ D) := by
  refine ctr_ev ok_X5_undo (by decide +kernel) rfl rfl rfl ?_
  show xEv (.inl 1) M_X5_undo _ 0 ([some (.ref 0)], [], σ)
  refine ev_br 3 [] ((σ 0 4) < (1 : Int32)) 17 8 ([some (.ref 0)], [], σ) rfl ?_ (fun c5 => ?_) (fun c5 => ?_)
  · trivial
  · refine ev_blk 1 [] 19 ([some (.ref 0)], [.int ((-3 : Int32))], σ) rfl ?_ ?_
    · trivial
    have hD1 : D = 0 := by
      rcases Nat.eq_zero_or_pos D with h | h
      · exact h
      · exact absurd c5 (by rw [hD]; exact nI_nlt (b := 1) (by omega) (by omega))
    exact ev_iret rfl rfl rfl (Or.inl ⟨hD1, rfl, rfl⟩)
  · refine ev_br 3 [] ((σ 0 4) ≤ (6 : Int32)) 20 17 ([some (.ref 0)], [], σ) rfl ?_ (fun c14 => ?_) (fun c14 => ?_)
    · trivial
    · have hD1 : 0 < D := by
        rcases Nat.eq_zero_or_pos D with h | h
        · subst h; rw [hD] at c5; exact absurd (by decide) c5
        · exact h
      have hm1 : ((σ 0 4) - (1 : Int32)) = nI (D - 1) := by rw [hD]; exact i_sub (b := 1) (by omega)
      have hmc : (nI (D - 1)).toNatClampNeg = D - 1 := nI_clamp (by omega)
      refine ev_blk 13 [vp_in ((σ 0 4) - (1 : Int32)) 6] 43 ([some (.ref 0)], [.int ((σ 25) ((σ 0 4) - (1 : Int32)).toNatClampNeg), .ref 1], (x_up σ 0 (upd (σ 0) 4 ((σ 0 4) - (1 : Int32))))) rfl ?_ ?_
      · show vp_in ((σ 0 4) - (1 : Int32)) 6; rw [hm1]; exact vp_in_nI (by omega) (by decide)
      rw [hm1]
      rw [hmc]
      refine ev_callV M_X3_takeBack [.int ((σ 25) (D - 1))] [] 1 rfl rfl ln_X5_193 k_X3_takeBack rfl rfl rfl rfl rfl rfl (c_takeBack _ _) ?_
      rintro r σ' ⟨rfl, hq⟩
      show xEv _ _ _ 46 ([some (.ref 0)], [], σ')
      refine ev_blk 2 [] 50 ([some (.ref 0)], [.int ((σ' 0 4))], σ') rfl ?_ ?_
      · trivial
      have h04 : σ' 0 4 = nI (D - 1) := by rw [hq.1.2.1 4 (by simp)]; simp [x_up, upd]
      rw [h04]
      refine ev_iret rfl rfl rfl (Or.inr ⟨hD1, rfl, h04, fun i h => ?_, _, fun c h => ?_, ?_, rfl, hq⟩)
      · rw [hq.1.2.1 i (by simp)]; simp [x_up, upd, h]
      · simp [x_up, h]
      · simp [x_up]
    · refine ev_blk 1 [] 19 ([some (.ref 0)], [.int ((-3 : Int32))], σ) rfl ?_ ?_
      · trivial
      exact absurd (by rw [hD]; exact nI_le (b := 6) (by omega) (by decide)) c14
end
section
def lvQ (σ : xSg) (n D : Nat) (x : Int32) : Option Value → xSg → Prop := fun r σ' => (¬ iN n x ∧ r = some (.int (-2)) ∧ σ' = σ) ∨ (∃ j, j < n ∧ x = nI j ∧ ((bt (σ 1 1) j = false ∧ r = some (.int (-3)) ∧ σ' = σ) ∨
  (bt (σ 1 1) j = true ∧ r = some (.int (bcI (σ 1 1 &&& ((1 : Int32) <<< (nI j &&& 31) ^^^ -1)))) ∧ remQ (x_up σ 1 (upd (σ 1) 1 (σ 1 1 &&& ((1 : Int32) <<< (nI j &&& 31) ^^^ -1)))) D ((1 : Int32) <<< (nI j &&& 31)) none σ')))
set_option maxRecDepth 100000 in
theorem c_leave (σ : xSg) (n : Nat) (hn : σ 1 0 = nI n) (hn10 : n ≤ 10) (D : Nat) (hD : σ 0 4 = nI D) (hD6 : D ≤ 6) (x : Int32) : xCtr M_X5_leave [.ref 0, .int (x)] σ (lvQ σ n D x) := by
  refine ctr_ev ok_X5_leave (by decide +kernel) rfl rfl rfl ?_
  show xEv (.inl 2) M_X5_leave _ 0 ([some (.ref 0), some (.int (x))], [], σ)
  refine ev_blk 3 [] 5 ([some (.ref 0), some (.int (x))], [.int (x), .ref 1], σ) rfl ?_ ?_
  · trivial
  refine ev_callV M_X3_isShip [.int (x)] [] 1 rfl rfl ln_X5_119 k_X3_isShip rfl rfl rfl rfl rfl rfl (c_isShip _ _) ?_
  refine pu_k ?_
  show xEv _ _ _ 8 ([some (.ref 0), some (.int (x))], [.int (zi (iSh σ x))], σ)
  refine ev_br 0 [] (¬ (zi (iSh σ x)) = 0) 14 11 ([some (.ref 0), some (.int (x))], [], σ) rfl ?_ (fun c8 => ?_) (fun c8 => ?_)
  · trivial
  · replace c8 := zi_1.mp c8
    have hx := (iSh_iN hn hn10).mp c8
    obtain ⟨j, hj, rfl⟩ := nI_of hx.1
    have hjn : j < n := Nat.lt_of_not_le (fun z => hx.2 (nI_le z hj))
    have hw0 := iWt (w := σ 1 1) hn hn10 (show j < 32 by omega)
    refine ev_blk 3 [] 19 ([some (.ref 0), some (.int (nI j))], [.int (nI j), .ref 1], σ) rfl ?_ ?_
    · trivial
    refine ev_callV M_X3_isWaiting [.int (nI j)] [] 1 rfl rfl ln_X5_122 k_X3_isWaiting rfl rfl rfl rfl rfl rfl (c_isWaiting _ _) ?_
    refine pu_k ?_
    show xEv _ _ _ 22 ([some (.ref 0), some (.int (nI j))], [.int (zi (iSh σ (nI j) ∧ ¬ (σ 1 1 >>> ((nI j) &&& 31)) &&& 1 = 0))], σ)
    refine ev_br 0 [] (¬ (zi (iSh σ (nI j) ∧ ¬ (σ 1 1 >>> ((nI j) &&& 31)) &&& 1 = 0)) = 0) 28 25 ([some (.ref 0), some (.int (nI j))], [], σ) rfl ?_ (fun c22 => ?_) (fun c22 => ?_)
    · trivial
    · replace c22 := zi_1.mp c22
      refine ev_blk 15 [] 49 ([some (.ref 0), some (.int (nI j))], [.int ((1 : Int32) <<< ((nI j) &&& 31)), .ref 0], (x_up σ 1 (upd (σ 1) 1 ((σ 1 1) &&& (((1 : Int32) <<< ((nI j) &&& 31)) ^^^ (-1 : Int32)))))) rfl ?_ ?_
      · trivial
      refine ev_callV M_X5_remember [.int ((1 : Int32) <<< ((nI j) &&& 31))] [] 0 rfl rfl ln_X5_168 k_X5_remember rfl rfl rfl rfl rfl rfl (c_remember _ D (by simp [x_up, hD]) hD6 _) ?_
      rintro r σ' hq
      obtain rfl := hq.1
      have hw : σ' 1 1 = σ 1 1 &&& ((1 : Int32) <<< (nI j &&& 31) ^^^ -1) := by rw [hq.2.1.2.2 1 (by simp)]; simp [x_up, upd]
      show xEv _ _ _ 52 ([some (.ref 0), some (.int (nI j))], [], σ')
      refine ev_blk 3 [] 59 ([some (.ref 0), some (.int (nI j))], [.int ((σ' 1 1))], σ') rfl ?_ ?_
      · trivial
      refine ev_callS M_J6_bitCount_0f7a4 [.int ((σ' 1 1))] [] rfl rfl ln_X5_138 k_J6_bitCount_0f7a4 rfl rfl rfl (c_bitCount _ _) ?_
      refine pu_k ?_
      rw [hw]
      show xEv _ _ _ 62 ([some (.ref 0), some (.int (nI j))], [.int (bcI (σ 1 1 &&& ((1 : Int32) <<< (nI j &&& 31) ^^^ -1)))], σ')
      exact ev_iret rfl rfl rfl (Or.inr ⟨j, hjn, rfl, Or.inr ⟨(hw0.mp c22).2, rfl, hq⟩⟩)
    · replace c22 := zi_n.mp c22
      refine ev_blk 1 [] 27 ([some (.ref 0), some (.int (nI j))], [.int ((-3 : Int32))], σ) rfl ?_ ?_
      · trivial
      exact ev_iret rfl rfl rfl (Or.inr ⟨j, hjn, rfl, Or.inl ⟨by
        cases hz : bt (σ 1 1) j with
        | false => rfl
        | true => exact absurd (hw0.mpr ⟨hjn, hz⟩) c22, rfl, rfl⟩⟩)
  · replace c8 := zi_n.mp c8
    refine ev_blk 1 [] 13 ([some (.ref 0), some (.int (x))], [.int ((-2 : Int32))], σ) rfl ?_ ?_
    · trivial
    exact ev_iret rfl rfl rfl (Or.inl ⟨fun q => c8 ((iSh_iN hn hn10).mpr q), rfl, rfl⟩)
end
