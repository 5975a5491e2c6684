section
-- ===== PART A: goes FIRST, ahead of the names: the tables' words, and 'selects' of the private methods out of them =====
/-- a private method of a class that the tables say can be made, by its rows of tables_1 -/
def lw_okq (q : MethodName × Nat) : Prop := (q.1.cls ≠ "java/lang/invoke/MethodHandle" ∧ q.1.cls ≠ "java/lang/invoke/VarHandle") ∧ Cond.instantiable q.1.cls q.2 ∈ tables_1 ∧ Cond.privateMethod q.1 ∈ tables_1 ∧ Cond.instanceMethod q.1 ∈ tables_1
theorem lw_p0 : lw_okq (⟨"LaneLock$Filling", "nextHead", "(II[II)I"⟩, 8) := ⟨⟨by decide +kernel, by decide +kernel⟩, List.mem_of_getElem? (i := 109) (by decide +kernel), List.mem_of_getElem? (i := 382) (by decide +kernel), List.mem_of_getElem? (i := 383) (by decide +kernel)⟩
theorem lw_p1 : lw_okq (⟨"LaneLock$Filling", "head", "(II[I)I"⟩, 8) := ⟨⟨by decide +kernel, by decide +kernel⟩, List.mem_of_getElem? (i := 109) (by decide +kernel), List.mem_of_getElem? (i := 386) (by decide +kernel), List.mem_of_getElem? (i := 387) (by decide +kernel)⟩
theorem lw_p2 : lw_okq (⟨"LaneLock$Filling", "isSecondTaken", "(III)Z"⟩, 8) := ⟨⟨by decide +kernel, by decide +kernel⟩, List.mem_of_getElem? (i := 109) (by decide +kernel), List.mem_of_getElem? (i := 391) (by decide +kernel), List.mem_of_getElem? (i := 392) (by decide +kernel)⟩
theorem lw_p3 : lw_okq (⟨"LaneLock$Filling", "firstRun", "(II)I"⟩, 8) := ⟨⟨by decide +kernel, by decide +kernel⟩, List.mem_of_getElem? (i := 109) (by decide +kernel), List.mem_of_getElem? (i := 401) (by decide +kernel), List.mem_of_getElem? (i := 402) (by decide +kernel)⟩
theorem lw_p4 : lw_okq (⟨"LaneLock", "remember", "(I)V"⟩, 9) := ⟨⟨by decide +kernel, by decide +kernel⟩, List.mem_of_getElem? (i := 13) (by decide +kernel), List.mem_of_getElem? (i := 417) (by decide +kernel), List.mem_of_getElem? (i := 418) (by decide +kernel)⟩
theorem lw_p5 : lw_okq (⟨"LaneLock$Arrivals", "sortByComes", "()V"⟩, 6) := ⟨⟨by decide +kernel, by decide +kernel⟩, List.mem_of_getElem? (i := 144) (by decide +kernel), List.mem_of_getElem? (i := 476) (by decide +kernel), List.mem_of_getElem? (i := 477) (by decide +kernel)⟩
theorem lw_p6 : lw_okq (⟨"LaneLock$Arrivals", "comeBy", "(II)I"⟩, 6) := ⟨⟨by decide +kernel, by decide +kernel⟩, List.mem_of_getElem? (i := 144) (by decide +kernel), List.mem_of_getElem? (i := 481) (by decide +kernel), List.mem_of_getElem? (i := 482) (by decide +kernel)⟩
theorem lw_p7 : lw_okq (⟨"LaneLock$Arrivals", "begin", "(II)V"⟩, 6) := ⟨⟨by decide +kernel, by decide +kernel⟩, List.mem_of_getElem? (i := 144) (by decide +kernel), List.mem_of_getElem? (i := 486) (by decide +kernel), List.mem_of_getElem? (i := 487) (by decide +kernel)⟩
theorem lw_p8 : lw_okq (⟨"LaneLock$Arrivals", "nextComes", "(II)I"⟩, 6) := ⟨⟨by decide +kernel, by decide +kernel⟩, List.mem_of_getElem? (i := 144) (by decide +kernel), List.mem_of_getElem? (i := 490) (by decide +kernel), List.mem_of_getElem? (i := 491) (by decide +kernel)⟩
theorem lw_p9 : lw_okq (⟨"LaneLock$Arrivals", "ahead", "(I)I"⟩, 6) := ⟨⟨by decide +kernel, by decide +kernel⟩, List.mem_of_getElem? (i := 144) (by decide +kernel), List.mem_of_getElem? (i := 506) (by decide +kernel), List.mem_of_getElem? (i := 507) (by decide +kernel)⟩
theorem lw_p10 : lw_okq (⟨"LaneLock$Choice", "settle", "(II)V"⟩, 10) := ⟨⟨by decide +kernel, by decide +kernel⟩, List.mem_of_getElem? (i := 171) (by decide +kernel), List.mem_of_getElem? (i := 531) (by decide +kernel), List.mem_of_getElem? (i := 532) (by decide +kernel)⟩
theorem lw_p11 : lw_okq (⟨"LaneLock$Choice", "weigh", "(IIII)V"⟩, 10) := ⟨⟨by decide +kernel, by decide +kernel⟩, List.mem_of_getElem? (i := 171) (by decide +kernel), List.mem_of_getElem? (i := 542) (by decide +kernel), List.mem_of_getElem? (i := 543) (by decide +kernel)⟩
theorem lw_p12 : lw_okq (⟨"LaneLock", "firstOtherwise", "(LLaneLock$Sheet;)I"⟩, 9) := ⟨⟨by decide +kernel, by decide +kernel⟩, List.mem_of_getElem? (i := 13) (by decide +kernel), List.mem_of_getElem? (i := 561) (by decide +kernel), List.mem_of_getElem? (i := 562) (by decide +kernel)⟩
theorem lw_p13 : lw_okq (⟨"LaneLock", "tried", "(LLaneLock$Sheet;[IIII)I"⟩, 9) := ⟨⟨by decide +kernel, by decide +kernel⟩, List.mem_of_getElem? (i := 13) (by decide +kernel), List.mem_of_getElem? (i := 565) (by decide +kernel), List.mem_of_getElem? (i := 566) (by decide +kernel)⟩
theorem lw_p14 : lw_okq (⟨"LaneLockModel", "comesTo", "(IIIII)I"⟩, 39) := ⟨⟨by decide +kernel, by decide +kernel⟩, List.mem_of_getElem? (i := 626) (by decide +kernel), List.mem_of_getElem? (i := 754) (by decide +kernel), List.mem_of_getElem? (i := 755) (by decide +kernel)⟩
theorem lw_p15 : lw_okq (⟨"LaneLockModel", "mayOf", "(I)I"⟩, 39) := ⟨⟨by decide +kernel, by decide +kernel⟩, List.mem_of_getElem? (i := 626) (by decide +kernel), List.mem_of_getElem? (i := 779) (by decide +kernel), List.mem_of_getElem? (i := 780) (by decide +kernel)⟩
def lw_privs_1 : List (MethodName × Nat) := [(⟨"LaneLock$Filling", "nextHead", "(II[II)I"⟩, 8), (⟨"LaneLock$Filling", "head", "(II[I)I"⟩, 8), (⟨"LaneLock$Filling", "isSecondTaken", "(III)Z"⟩, 8), (⟨"LaneLock$Filling", "firstRun", "(II)I"⟩, 8), (⟨"LaneLock", "remember", "(I)V"⟩, 9), (⟨"LaneLock$Arrivals", "sortByComes", "()V"⟩, 6), (⟨"LaneLock$Arrivals", "comeBy", "(II)I"⟩, 6), (⟨"LaneLock$Arrivals", "begin", "(II)V"⟩, 6), (⟨"LaneLock$Arrivals", "nextComes", "(II)I"⟩, 6), (⟨"LaneLock$Arrivals", "ahead", "(I)I"⟩, 6), (⟨"LaneLock$Choice", "settle", "(II)V"⟩, 10), (⟨"LaneLock$Choice", "weigh", "(IIII)V"⟩, 10), (⟨"LaneLock", "firstOtherwise", "(LLaneLock$Sheet;)I"⟩, 9), (⟨"LaneLock", "tried", "(LLaneLock$Sheet;[IIII)I"⟩, 9), (⟨"LaneLockModel", "comesTo", "(IIIII)I"⟩, 39), (⟨"LaneLockModel", "mayOf", "(I)I"⟩, 39)]
theorem lw_r1 : ∀ q ∈ lw_privs_1, lw_okq q := List.forall_mem_cons.mpr ⟨lw_p0, List.forall_mem_cons.mpr ⟨lw_p1, List.forall_mem_cons.mpr ⟨lw_p2, List.forall_mem_cons.mpr ⟨lw_p3, List.forall_mem_cons.mpr ⟨lw_p4, List.forall_mem_cons.mpr ⟨lw_p5, List.forall_mem_cons.mpr ⟨lw_p6, List.forall_mem_cons.mpr ⟨lw_p7, List.forall_mem_cons.mpr ⟨lw_p8, List.forall_mem_cons.mpr ⟨lw_p9, List.forall_mem_cons.mpr ⟨lw_p10, List.forall_mem_cons.mpr ⟨lw_p11, List.forall_mem_cons.mpr ⟨lw_p12, List.forall_mem_cons.mpr ⟨lw_p13, List.forall_mem_cons.mpr ⟨lw_p14, List.forall_mem_cons.mpr ⟨lw_p15, fun _ h => absurd h List.not_mem_nil⟩⟩⟩⟩⟩⟩⟩⟩⟩⟩⟩⟩⟩⟩⟩⟩
theorem lw_p16 : lw_okq (⟨"LaneLockModel", "isShip", "(I)Z"⟩, 39) := ⟨⟨by decide +kernel, by decide +kernel⟩, List.mem_of_getElem? (i := 626) (by decide +kernel), List.mem_of_getElem? (i := 788) (by decide +kernel), List.mem_of_getElem? (i := 789) (by decide +kernel)⟩
theorem lw_p17 : lw_okq (⟨"LaneLockModel", "spanOf", "(I)I"⟩, 39) := ⟨⟨by decide +kernel, by decide +kernel⟩, List.mem_of_getElem? (i := 626) (by decide +kernel), List.mem_of_getElem? (i := 792) (by decide +kernel), List.mem_of_getElem? (i := 793) (by decide +kernel)⟩
theorem lw_p18 : lw_okq (⟨"LaneLockModel", "rankOf", "(I)I"⟩, 39) := ⟨⟨by decide +kernel, by decide +kernel⟩, List.mem_of_getElem? (i := 626) (by decide +kernel), List.mem_of_getElem? (i := 797) (by decide +kernel), List.mem_of_getElem? (i := 798) (by decide +kernel)⟩
theorem lw_p19 : lw_okq (⟨"LaneLockModel", "free", "()I"⟩, 39) := ⟨⟨by decide +kernel, by decide +kernel⟩, List.mem_of_getElem? (i := 626) (by decide +kernel), List.mem_of_getElem? (i := 809) (by decide +kernel), List.mem_of_getElem? (i := 810) (by decide +kernel)⟩
theorem lw_p20 : lw_okq (⟨"LaneLockModel", "all", "()V"⟩, 39) := ⟨⟨by decide +kernel, by decide +kernel⟩, List.mem_of_getElem? (i := 626) (by decide +kernel), List.mem_of_getElem? (i := 821) (by decide +kernel), List.mem_of_getElem? (i := 822) (by decide +kernel)⟩
theorem lw_p21 : lw_okq (⟨"LaneLockModel", "fills", "()I"⟩, 39) := ⟨⟨by decide +kernel, by decide +kernel⟩, List.mem_of_getElem? (i := 626) (by decide +kernel), List.mem_of_getElem? (i := 825) (by decide +kernel), List.mem_of_getElem? (i := 826) (by decide +kernel)⟩
theorem lw_p22 : lw_okq (⟨"LaneLockModel", "empties", "()V"⟩, 39) := ⟨⟨by decide +kernel, by decide +kernel⟩, List.mem_of_getElem? (i := 626) (by decide +kernel), List.mem_of_getElem? (i := 829) (by decide +kernel), List.mem_of_getElem? (i := 830) (by decide +kernel)⟩
theorem lw_p23 : lw_okq (⟨"LaneLockModel", "isOther", "(I)Z"⟩, 39) := ⟨⟨by decide +kernel, by decide +kernel⟩, List.mem_of_getElem? (i := 626) (by decide +kernel), List.mem_of_getElem? (i := 833) (by decide +kernel), List.mem_of_getElem? (i := 834) (by decide +kernel)⟩
theorem lw_p24 : lw_okq (⟨"LaneLockModel", "goesIn", "(I)Z"⟩, 39) := ⟨⟨by decide +kernel, by decide +kernel⟩, List.mem_of_getElem? (i := 626) (by decide +kernel), List.mem_of_getElem? (i := 837) (by decide +kernel), List.mem_of_getElem? (i := 838) (by decide +kernel)⟩
theorem lw_p25 : lw_okq (⟨"LaneLockModel", "stepsOn", "(I)V"⟩, 39) := ⟨⟨by decide +kernel, by decide +kernel⟩, List.mem_of_getElem? (i := 626) (by decide +kernel), List.mem_of_getElem? (i := 841) (by decide +kernel), List.mem_of_getElem? (i := 842) (by decide +kernel)⟩
theorem lw_p26 : lw_okq (⟨"LaneLockModel", "keeps", "()V"⟩, 39) := ⟨⟨by decide +kernel, by decide +kernel⟩, List.mem_of_getElem? (i := 626) (by decide +kernel), List.mem_of_getElem? (i := 845) (by decide +kernel), List.mem_of_getElem? (i := 846) (by decide +kernel)⟩
theorem lw_p27 : lw_okq (⟨"LaneLockModel", "spends", "()I"⟩, 39) := ⟨⟨by decide +kernel, by decide +kernel⟩, List.mem_of_getElem? (i := 626) (by decide +kernel), List.mem_of_getElem? (i := 849) (by decide +kernel), List.mem_of_getElem? (i := 850) (by decide +kernel)⟩
theorem lw_p28 : lw_okq (⟨"LaneLockModel", "goesOn", "()V"⟩, 39) := ⟨⟨by decide +kernel, by decide +kernel⟩, List.mem_of_getElem? (i := 626) (by decide +kernel), List.mem_of_getElem? (i := 886) (by decide +kernel), List.mem_of_getElem? (i := 887) (by decide +kernel)⟩
theorem lw_p29 : lw_okq (⟨"LaneLockModel", "gathers", "(II)V"⟩, 39) := ⟨⟨by decide +kernel, by decide +kernel⟩, List.mem_of_getElem? (i := 626) (by decide +kernel), List.mem_of_getElem? (i := 890) (by decide +kernel), List.mem_of_getElem? (i := 891) (by decide +kernel)⟩
theorem lw_p30 : lw_okq (⟨"LaneLockModel", "frees", "()V"⟩, 39) := ⟨⟨by decide +kernel, by decide +kernel⟩, List.mem_of_getElem? (i := 626) (by decide +kernel), List.mem_of_getElem? (i := 906) (by decide +kernel), List.mem_of_getElem? (i := 907) (by decide +kernel)⟩
theorem lw_p31 : lw_okq (⟨"LaneLockModel", "canGo", "(IIII)Z"⟩, 39) := ⟨⟨by decide +kernel, by decide +kernel⟩, List.mem_of_getElem? (i := 626) (by decide +kernel), List.mem_of_getElem? (i := 910) (by decide +kernel), List.mem_of_getElem? (i := 911) (by decide +kernel)⟩
def lw_privs_2 : List (MethodName × Nat) := [(⟨"LaneLockModel", "isShip", "(I)Z"⟩, 39), (⟨"LaneLockModel", "spanOf", "(I)I"⟩, 39), (⟨"LaneLockModel", "rankOf", "(I)I"⟩, 39), (⟨"LaneLockModel", "free", "()I"⟩, 39), (⟨"LaneLockModel", "all", "()V"⟩, 39), (⟨"LaneLockModel", "fills", "()I"⟩, 39), (⟨"LaneLockModel", "empties", "()V"⟩, 39), (⟨"LaneLockModel", "isOther", "(I)Z"⟩, 39), (⟨"LaneLockModel", "goesIn", "(I)Z"⟩, 39), (⟨"LaneLockModel", "stepsOn", "(I)V"⟩, 39), (⟨"LaneLockModel", "keeps", "()V"⟩, 39), (⟨"LaneLockModel", "spends", "()I"⟩, 39), (⟨"LaneLockModel", "goesOn", "()V"⟩, 39), (⟨"LaneLockModel", "gathers", "(II)V"⟩, 39), (⟨"LaneLockModel", "frees", "()V"⟩, 39), (⟨"LaneLockModel", "canGo", "(IIII)Z"⟩, 39)]
theorem lw_r2 : ∀ q ∈ lw_privs_2, lw_okq q := List.forall_mem_cons.mpr ⟨lw_p16, List.forall_mem_cons.mpr ⟨lw_p17, List.forall_mem_cons.mpr ⟨lw_p18, List.forall_mem_cons.mpr ⟨lw_p19, List.forall_mem_cons.mpr ⟨lw_p20, List.forall_mem_cons.mpr ⟨lw_p21, List.forall_mem_cons.mpr ⟨lw_p22, List.forall_mem_cons.mpr ⟨lw_p23, List.forall_mem_cons.mpr ⟨lw_p24, List.forall_mem_cons.mpr ⟨lw_p25, List.forall_mem_cons.mpr ⟨lw_p26, List.forall_mem_cons.mpr ⟨lw_p27, List.forall_mem_cons.mpr ⟨lw_p28, List.forall_mem_cons.mpr ⟨lw_p29, List.forall_mem_cons.mpr ⟨lw_p30, List.forall_mem_cons.mpr ⟨lw_p31, fun _ h => absurd h List.not_mem_nil⟩⟩⟩⟩⟩⟩⟩⟩⟩⟩⟩⟩⟩⟩⟩⟩
theorem lw_p32 : lw_okq (⟨"LaneLockModel", "unlike", "(I)I"⟩, 39) := ⟨⟨by decide +kernel, by decide +kernel⟩, List.mem_of_getElem? (i := 626) (by decide +kernel), List.mem_of_getElem? (i := 921) (by decide +kernel), List.mem_of_getElem? (i := 922) (by decide +kernel)⟩
theorem lw_p33 : lw_okq (⟨"LaneLockModel", "images", "(Z)V"⟩, 39) := ⟨⟨by decide +kernel, by decide +kernel⟩, List.mem_of_getElem? (i := 626) (by decide +kernel), List.mem_of_getElem? (i := 933) (by decide +kernel), List.mem_of_getElem? (i := 934) (by decide +kernel)⟩
theorem lw_p34 : lw_okq (⟨"LaneLockModel", "moves", "(I[IIZ)I"⟩, 39) := ⟨⟨by decide +kernel, by decide +kernel⟩, List.mem_of_getElem? (i := 626) (by decide +kernel), List.mem_of_getElem? (i := 937) (by decide +kernel), List.mem_of_getElem? (i := 938) (by decide +kernel)⟩
def lw_privs_3 : List (MethodName × Nat) := [(⟨"LaneLockModel", "unlike", "(I)I"⟩, 39), (⟨"LaneLockModel", "images", "(Z)V"⟩, 39), (⟨"LaneLockModel", "moves", "(I[IIZ)I"⟩, 39)]
theorem lw_r3 : ∀ q ∈ lw_privs_3, lw_okq q := List.forall_mem_cons.mpr ⟨lw_p32, List.forall_mem_cons.mpr ⟨lw_p33, List.forall_mem_cons.mpr ⟨lw_p34, fun _ h => absurd h List.not_mem_nil⟩⟩⟩
def lw_privs : List (MethodName × Nat) := lw_privs_1 ++ (lw_privs_2 ++ (lw_privs_3))
def lw_tbl : List Cond := k2_sels lw_privs ++ tables_1
theorem lw_privs_ok : ∀ q ∈ lw_privs, lw_okq q := by
  show ∀ q ∈ lw_privs_1 ++ (lw_privs_2 ++ (lw_privs_3)), lw_okq q
  exact List.forall_mem_append.mpr ⟨lw_r1, List.forall_mem_append.mpr ⟨lw_r2, lw_r3⟩⟩
end
section
def RX0 : String := "LaneLock$Arrivals"
def TX0 : u_T := fun k => match k with
  | 0 => ("LaneLock$Arrivals", "keep", "LLaneLock$Keep;", true)
  | 1 => ("LaneLock$Arrivals", "filling", "LLaneLock$Filling;", true)
  | 2 => ("LaneLock$Arrivals", "order", "[I", true)
  | 3 => ("LaneLock$Arrivals", "waits", "[I", true)
  | 4 => ("LaneLock$Arrivals", "fillings", "I", false)
  | _ => ("LaneLock$Arrivals", "latest", "I", false)
def tyX0 : Nat → FieldType := fun k => match k with
  | 0 => .object "LaneLock$Keep"
  | 1 => .object "LaneLock$Filling"
  | 2 => .array .int
  | 3 => .array .int
  | 4 => .int
  | _ => .int
theorem nmX0 : ∀ a, a < 6 → ∀ b, b < 6 → a ≠ b → (TX0 a).2.1 ≠ (TX0 b).2.1 := by decide +kernel
theorem tyX0_ok : ∀ k, k < 6 → parseFieldDescriptor (TX0 k).2.2.1 = some (tyX0 k) := by decide +kernel
def RX1 : String := "LaneLock$Choice"
def TX1 : u_T := fun k => match k with
  | 0 => ("LaneLock$Choice", "keep", "LLaneLock$Keep;", true)
  | 1 => ("LaneLock$Choice", "ofOne", "LLaneLock$Filling;", true)
  | 2 => ("LaneLock$Choice", "ofBoth", "LLaneLock$Filling;", true)
  | 3 => ("LaneLock$Choice", "lanes", "[I", true)
  | 4 => ("LaneLock$Choice", "fewestFrom", "[I", true)
  | 5 => ("LaneLock$Choice", "leastFrom", "[I", true)
  | 6 => ("LaneLock$Choice", "fewest", "I", false)
  | 7 => ("LaneLock$Choice", "least", "I", false)
  | 8 => ("LaneLock$Choice", "ofFirst", "I", false)
  | _ => ("LaneLock$Choice", "ofSecond", "I", false)
def tyX1 : Nat → FieldType := fun k => match k with
  | 0 => .object "LaneLock$Keep"
  | 1 => .object "LaneLock$Filling"
  | 2 => .object "LaneLock$Filling"
  | 3 => .array .int
  | 4 => .array .int
  | 5 => .array .int
  | 6 => .int
  | 7 => .int
  | 8 => .int
  | _ => .int
theorem nmX1 : ∀ a, a < 10 → ∀ b, b < 10 → a ≠ b → (TX1 a).2.1 ≠ (TX1 b).2.1 := by decide +kernel
theorem tyX1_ok : ∀ k, k < 10 → parseFieldDescriptor (TX1 k).2.2.1 = some (tyX1 k) := by decide +kernel
def RX2 : String := "LaneLock$Filling"
def TX2 : u_T := fun k => match k with
  | 0 => ("LaneLock$Filling", "keep", "LLaneLock$Keep;", true)
  | 1 => ("LaneLock$Filling", "closed", "[I", true)
  | 2 => ("LaneLock$Filling", "who", "[I", true)
  | 3 => ("LaneLock$Filling", "rows", "[I", true)
  | 4 => ("LaneLock$Filling", "places", "[I", true)
  | 5 => ("LaneLock$Filling", "size", "I", false)
  | 6 => ("LaneLock$Filling", "loads", "I", false)
  | _ => ("LaneLock$Filling", "hasTanker", "Z", false)
def tyX2 : Nat → FieldType := fun k => match k with
  | 0 => .object "LaneLock$Keep"
  | 1 => .array .int
  | 2 => .array .int
  | 3 => .array .int
  | 4 => .array .int
  | 5 => .int
  | 6 => .int
  | _ => .boolean
theorem nmX2 : ∀ a, a < 8 → ∀ b, b < 8 → a ≠ b → (TX2 a).2.1 ≠ (TX2 b).2.1 := by decide +kernel
theorem tyX2_ok : ∀ k, k < 8 → parseFieldDescriptor (TX2 k).2.2.1 = some (tyX2 k) := by decide +kernel
def RX3 : String := "LaneLock$Keep"
def TX3 : u_T := fun k => match k with
  | 0 => ("LaneLock$Keep", "ships", "I", false)
  | 1 => ("LaneLock$Keep", "waiting", "I", false)
  | 2 => ("LaneLock$Keep", "gone", "I", false)
  | 3 => ("LaneLock$Keep", "kinds", "[I", true)
  | 4 => ("LaneLock$Keep", "lengths", "[I", true)
  | 5 => ("LaneLock$Keep", "firsts", "[I", true)
  | 6 => ("LaneLock$Keep", "loads", "[I", true)
  | 7 => ("LaneLock$Keep", "comes", "[I", true)
  | 8 => ("LaneLock$Keep", "lanes", "[I", true)
  | 9 => ("LaneLock$Keep", "by", "[I", true)
  | 10 => ("LaneLock$Keep", "settings", "[I", true)
  | 11 => ("LaneLock$Keep", "barred", "[I", true)
  | 12 => ("LaneLock$Keep", "caps", "[I", true)
  | 13 => ("LaneLock$Keep", "fillings", "I", false)
  | _ => ("LaneLock$Keep", "ledger", "[I", true)
def tyX3 : Nat → FieldType := fun k => match k with
  | 0 => .int
  | 1 => .int
  | 2 => .int
  | 3 => .array .int
  | 4 => .array .int
  | 5 => .array .int
  | 6 => .array .int
  | 7 => .array .int
  | 8 => .array .int
  | 9 => .array .int
  | 10 => .array .int
  | 11 => .array .int
  | 12 => .array .int
  | 13 => .int
  | _ => .array .int
theorem nmX3 : ∀ a, a < 15 → ∀ b, b < 15 → a ≠ b → (TX3 a).2.1 ≠ (TX3 b).2.1 := by decide +kernel
theorem tyX3_ok : ∀ k, k < 15 → parseFieldDescriptor (TX3 k).2.2.1 = some (tyX3 k) := by decide +kernel
def RX4 : String := "LaneLock$Sheet"
def TX4 : u_T := fun k => match k with
  | 0 => ("LaneLock$Sheet", "sort", "I", false)
  | 1 => ("LaneLock$Sheet", "size", "I", false)
  | _ => ("LaneLock$Sheet", "items", "[I", true)
def tyX4 : Nat → FieldType := fun k => match k with
  | 0 => .int
  | 1 => .int
  | _ => .array .int
theorem nmX4 : ∀ a, a < 3 → ∀ b, b < 3 → a ≠ b → (TX4 a).2.1 ≠ (TX4 b).2.1 := by decide +kernel
theorem tyX4_ok : ∀ k, k < 3 → parseFieldDescriptor (TX4 k).2.2.1 = some (tyX4 k) := by decide +kernel
def RX5 : String := "LaneLock"
def TX5 : u_T := fun k => match k with
  | 0 => ("LaneLock", "now", "LLaneLock$Keep;", true)
  | 1 => ("LaneLock", "kept", "LLaneLock$Keep;", true)
  | 2 => ("LaneLock", "hasImage", "Z", false)
  | 3 => ("LaneLock", "deeds", "[I", true)
  | 4 => ("LaneLock", "deedCount", "I", false)
  | 5 => ("LaneLock", "filling", "LLaneLock$Filling;", true)
  | 6 => ("LaneLock", "arrivals", "LLaneLock$Arrivals;", true)
  | 7 => ("LaneLock", "choice", "LLaneLock$Choice;", true)
  | _ => ("LaneLock", "sheets", "[LLaneLock$Sheet;", true)
def tyX5 : Nat → FieldType := fun k => match k with
  | 0 => .object "LaneLock$Keep"
  | 1 => .object "LaneLock$Keep"
  | 2 => .boolean
  | 3 => .array .int
  | 4 => .int
  | 5 => .object "LaneLock$Filling"
  | 6 => .object "LaneLock$Arrivals"
  | 7 => .object "LaneLock$Choice"
  | _ => .array (.object "LaneLock$Sheet")
theorem nmX5 : ∀ a, a < 9 → ∀ b, b < 9 → a ≠ b → (TX5 a).2.1 ≠ (TX5 b).2.1 := by decide +kernel
theorem tyX5_ok : ∀ k, k < 9 → parseFieldDescriptor (TX5 k).2.2.1 = some (tyX5 k) := by decide +kernel
def RX6 : String := "LaneLockModel"
def TX6 : u_T := fun k => match k with
  | 0 => ("LaneLockModel", "ships", "I", false)
  | 1 => ("LaneLockModel", "kind", "[I", true)
  | 2 => ("LaneLockModel", "length", "[I", true)
  | 3 => ("LaneLockModel", "first", "[I", true)
  | 4 => ("LaneLockModel", "load", "[I", true)
  | 5 => ("LaneLockModel", "comes", "[I", true)
  | 6 => ("LaneLockModel", "laneOf", "[I", true)
  | 7 => ("LaneLockModel", "state", "[I", true)
  | 8 => ("LaneLockModel", "by", "[I", true)
  | 9 => ("LaneLockModel", "lane", "[I", true)
  | 10 => ("LaneLockModel", "many", "[I", true)
  | 11 => ("LaneLockModel", "told", "[I", true)
  | 12 => ("LaneLockModel", "barred", "[Z", true)
  | 13 => ("LaneLockModel", "caps", "[I", true)
  | 14 => ("LaneLockModel", "ledgers", "I", false)
  | 15 => ("LaneLockModel", "ledger", "[I", true)
  | 16 => ("LaneLockModel", "deeds", "I", false)
  | 17 => ("LaneLockModel", "deed", "[I", true)
  | 18 => ("LaneLockModel", "imaged", "Z", false)
  | 19 => ("LaneLockModel", "old", "[I", true)
  | 20 => ("LaneLockModel", "stand", "[I", true)
  | 21 => ("LaneLockModel", "stands", "[I", true)
  | 22 => ("LaneLockModel", "taken", "[Z", true)
  | 23 => ("LaneLockModel", "went", "I", false)
  | 24 => ("LaneLockModel", "who", "[I", true)
  | 25 => ("LaneLockModel", "row", "[I", true)
  | 26 => ("LaneLockModel", "from", "[I", true)
  | 27 => ("LaneLockModel", "spot", "I", false)
  | 28 => ("LaneLockModel", "begins", "[I", true)
  | 29 => ("LaneLockModel", "begun", "I", false)
  | 30 => ("LaneLockModel", "last", "I", false)
  | 31 => ("LaneLockModel", "line", "[I", true)
  | 32 => ("LaneLockModel", "fewest", "[I", true)
  | 33 => ("LaneLockModel", "least", "[I", true)
  | 34 => ("LaneLockModel", "ofOne", "[I", true)
  | 35 => ("LaneLockModel", "ofOther", "[I", true)
  | 36 => ("LaneLockModel", "sort", "[I", true)
  | 37 => ("LaneLockModel", "size", "[I", true)
  | _ => ("LaneLockModel", "items", "[I", true)
def tyX6 : Nat → FieldType := fun k => match k with
  | 0 => .int
  | 1 => .array .int
  | 2 => .array .int
  | 3 => .array .int
  | 4 => .array .int
  | 5 => .array .int
  | 6 => .array .int
  | 7 => .array .int
  | 8 => .array .int
  | 9 => .array .int
  | 10 => .array .int
  | 11 => .array .int
  | 12 => .array .boolean
  | 13 => .array .int
  | 14 => .int
  | 15 => .array .int
  | 16 => .int
  | 17 => .array .int
  | 18 => .boolean
  | 19 => .array .int
  | 20 => .array .int
  | 21 => .array .int
  | 22 => .array .boolean
  | 23 => .int
  | 24 => .array .int
  | 25 => .array .int
  | 26 => .array .int
  | 27 => .int
  | 28 => .array .int
  | 29 => .int
  | 30 => .int
  | 31 => .array .int
  | 32 => .array .int
  | 33 => .array .int
  | 34 => .array .int
  | 35 => .array .int
  | 36 => .array .int
  | 37 => .array .int
  | _ => .array .int
theorem nmX6 : ∀ a, a < 39 → ∀ b, b < 39 → a ≠ b → (TX6 a).2.1 ≠ (TX6 b).2.1 := by decide +kernel
theorem tyX6_ok : ∀ k, k < 39 → parseFieldDescriptor (TX6 k).2.2.1 = some (tyX6 k) := by decide +kernel
abbrev cX0_init : ByteArray := prog_2_method_1_code
def yX0_init : MethodName := ⟨RX0, "<init>", "(LLaneLock$Keep;LLaneLock$Filling;)V"⟩
abbrev cX0_run : ByteArray := prog_2_method_2_code
def yX0_run : MethodName := ⟨RX0, "run", "()V"⟩
abbrev cX0_sortByComes : ByteArray := prog_2_method_3_code
def yX0_sortByComes : MethodName := ⟨RX0, "sortByComes", "()V"⟩
abbrev cX0_comeBy : ByteArray := prog_2_method_4_code
def yX0_comeBy : MethodName := ⟨RX0, "comeBy", "(II)I"⟩
abbrev cX0_nextComes : ByteArray := prog_2_method_5_code
def yX0_nextComes : MethodName := ⟨RX0, "nextComes", "(II)I"⟩
abbrev cX0_begin : ByteArray := prog_2_method_6_code
def yX0_begin : MethodName := ⟨RX0, "begin", "(II)V"⟩
abbrev cX0_waitOf : ByteArray := prog_2_method_7_code
def yX0_waitOf : MethodName := ⟨RX0, "waitOf", "(I)I"⟩
abbrev cX0_allWaits : ByteArray := prog_2_method_8_code
def yX0_allWaits : MethodName := ⟨RX0, "allWaits", "()I"⟩
abbrev cX0_inLine : ByteArray := prog_2_method_9_code
def yX0_inLine : MethodName := ⟨RX0, "inLine", "(I)I"⟩
abbrev cX0_ahead : ByteArray := prog_2_method_10_code
def yX0_ahead : MethodName := ⟨RX0, "ahead", "(I)I"⟩
abbrev cX1_init : ByteArray := prog_3_method_1_code
def yX1_init : MethodName := ⟨RX1, "<init>", "(LLaneLock$Keep;)V"⟩
abbrev cX1_run : ByteArray := prog_3_method_2_code
def yX1_run : MethodName := ⟨RX1, "run", "()V"⟩
abbrev cX1_settle : ByteArray := prog_3_method_3_code
def yX1_settle : MethodName := ⟨RX1, "settle", "(II)V"⟩
abbrev cX1_weigh : ByteArray := prog_3_method_4_code
def yX1_weigh : MethodName := ⟨RX1, "weigh", "(IIII)V"⟩
abbrev cX1_stateOf : ByteArray := prog_3_method_5_code
def yX1_stateOf : MethodName := ⟨RX1, "stateOf", "(II)I"⟩
abbrev cX2_init : ByteArray := prog_4_method_1_code
def yX2_init : MethodName := ⟨RX2, "<init>", "(LLaneLock$Keep;)V"⟩
abbrev cX2_begin : ByteArray := prog_4_method_2_code
def yX2_begin : MethodName := ⟨RX2, "begin", "()V"⟩
abbrev cX2_become : ByteArray := prog_4_method_3_code
def yX2_become : MethodName := ⟨RX2, "become", "(LLaneLock$Filling;)V"⟩
abbrev cX2_spends : ByteArray := prog_4_method_4_code
def yX2_spends : MethodName := ⟨RX2, "spends", "()I"⟩
abbrev cX2_enter : ByteArray := prog_4_method_5_code
def yX2_enter : MethodName := ⟨RX2, "enter", "(I)Z"⟩
abbrev cX2_run : ByteArray := prog_4_method_6_code
def yX2_run : MethodName := ⟨RX2, "run", "(I)I"⟩
abbrev cX2_firstRun : ByteArray := prog_4_method_7_code
def yX2_firstRun : MethodName := ⟨RX2, "firstRun", "(II)I"⟩
abbrev cX2_byRule : ByteArray := prog_4_method_8_code
def yX2_byRule : MethodName := ⟨RX2, "byRule", "(I[I)I"⟩
abbrev cX2_nextHead : ByteArray := prog_4_method_9_code
def yX2_nextHead : MethodName := ⟨RX2, "nextHead", "(II[II)I"⟩
abbrev cX2_head : ByteArray := prog_4_method_10_code
def yX2_head : MethodName := ⟨RX2, "head", "(II[I)I"⟩
abbrev cX2_isSecondTaken : ByteArray := prog_4_method_11_code
def yX2_isSecondTaken : MethodName := ⟨RX2, "isSecondTaken", "(III)Z"⟩
abbrev cX3_init : ByteArray := prog_5_method_1_code
def yX3_init : MethodName := ⟨RX3, "<init>", "()V"⟩
abbrev cX3_become : ByteArray := prog_5_method_2_code
def yX3_become : MethodName := ⟨RX3, "become", "(LLaneLock$Keep;)V"⟩
abbrev cX3_isShip : ByteArray := prog_5_method_3_code
def yX3_isShip : MethodName := ⟨RX3, "isShip", "(I)Z"⟩
abbrev cX3_isWaiting : ByteArray := prog_5_method_4_code
def yX3_isWaiting : MethodName := ⟨RX3, "isWaiting", "(I)Z"⟩
abbrev cX3_isGone : ByteArray := prog_5_method_5_code
def yX3_isGone : MethodName := ⟨RX3, "isGone", "(I)Z"⟩
abbrev cX3_waiter : ByteArray := prog_5_method_6_code
def yX3_waiter : MethodName := ⟨RX3, "waiter", "(II)I"⟩
abbrev cX3_waitersOf : ByteArray := prog_5_method_7_code
def yX3_waitersOf : MethodName := ⟨RX3, "waitersOf", "(I)I"⟩
abbrev cX3_span : ByteArray := prog_5_method_8_code
def yX3_span : MethodName := ⟨RX3, "span", "(I)I"⟩
abbrev cX3_rank : ByteArray := prog_5_method_9_code
def yX3_rank : MethodName := ⟨RX3, "rank", "(I)I"⟩
abbrev cX3_freePlaces : ByteArray := prog_5_method_10_code
def yX3_freePlaces : MethodName := ⟨RX3, "freePlaces", "()I"⟩
abbrev cX3_bound : ByteArray := prog_5_method_11_code
def yX3_bound : MethodName := ⟨RX3, "bound", "(I)I"⟩
abbrev cX3_allows : ByteArray := prog_5_method_12_code
def yX3_allows : MethodName := ⟨RX3, "allows", "(II)Z"⟩
abbrev cX3_dayFor : ByteArray := prog_5_method_13_code
def yX3_dayFor : MethodName := ⟨RX3, "dayFor", "(III)I"⟩
abbrev cX3_goneBy : ByteArray := prog_5_method_14_code
def yX3_goneBy : MethodName := ⟨RX3, "goneBy", "(II)V"⟩
abbrev cX3_takeBack : ByteArray := prog_5_method_15_code
def yX3_takeBack : MethodName := ⟨RX3, "takeBack", "(I)V"⟩
abbrev cX3_spentInAll : ByteArray := prog_5_method_16_code
def yX3_spentInAll : MethodName := ⟨RX3, "spentInAll", "()J"⟩
abbrev cX4_init : ByteArray := prog_6_method_1_code
def yX4_init : MethodName := ⟨RX4, "<init>", "()V"⟩
abbrev cX4_isMissing : ByteArray := prog_6_method_2_code
def yX4_isMissing : MethodName := ⟨RX4, "isMissing", "()Z"⟩
abbrev cX4_has : ByteArray := prog_6_method_3_code
def yX4_has : MethodName := ⟨RX4, "has", "(I)Z"⟩
abbrev cX4_hasRun : ByteArray := prog_6_method_4_code
def yX4_hasRun : MethodName := ⟨RX4, "hasRun", "(II)Z"⟩
abbrev cX4_become : ByteArray := prog_6_method_5_code
def yX4_become : MethodName := ⟨RX4, "become", "(II)V"⟩
abbrev cX4_write : ByteArray := prog_6_method_6_code
def yX4_write : MethodName := ⟨RX4, "write", "(II)V"⟩
abbrev cX5_init : ByteArray := prog_1_method_1_code
def yX5_init : MethodName := ⟨RX5, "<init>", "()V"⟩
abbrev cX5_ship : ByteArray := prog_1_method_2_code
def yX5_ship : MethodName := ⟨RX5, "ship", "(IIIII)I"⟩
abbrev cX5_set : ByteArray := prog_1_method_3_code
def yX5_set : MethodName := ⟨RX5, "set", "(II)I"⟩
abbrev cX5_bar : ByteArray := prog_1_method_4_code
def yX5_bar : MethodName := ⟨RX5, "bar", "(IIZ)I"⟩
abbrev cX5_cap : ByteArray := prog_1_method_5_code
def yX5_cap : MethodName := ⟨RX5, "cap", "(II)I"⟩
abbrev cX5_may : ByteArray := prog_1_method_6_code
def yX5_may : MethodName := ⟨RX5, "may", "(I)I"⟩
abbrev cX5_told : ByteArray := prog_1_method_7_code
def yX5_told : MethodName := ⟨RX5, "told", "(II)I"⟩
abbrev cX5_lane : ByteArray := prog_1_method_8_code
def yX5_lane : MethodName := ⟨RX5, "lane", "(II)I"⟩
abbrev cX5_count : ByteArray := prog_1_method_9_code
def yX5_count : MethodName := ⟨RX5, "count", "(I)I"⟩
abbrev cX5_taken : ByteArray := prog_1_method_10_code
def yX5_taken : MethodName := ⟨RX5, "taken", "(II)I"⟩
abbrev cX5_fill : ByteArray := prog_1_method_11_code
def yX5_fill : MethodName := ⟨RX5, "fill", "()I"⟩
abbrev cX5_next : ByteArray := prog_1_method_12_code
def yX5_next : MethodName := ⟨RX5, "next", "(II)I"⟩
abbrev cX5_water : ByteArray := prog_1_method_13_code
def yX5_water : MethodName := ⟨RX5, "water", "()J"⟩
abbrev cX5_spent : ByteArray := prog_1_method_14_code
def yX5_spent : MethodName := ⟨RX5, "spent", "(I)J"⟩
abbrev cX5_leave : ByteArray := prog_1_method_15_code
def yX5_leave : MethodName := ⟨RX5, "leave", "(I)I"⟩
abbrev cX5_undo : ByteArray := prog_1_method_16_code
def yX5_undo : MethodName := ⟨RX5, "undo", "()I"⟩
abbrev cX5_plan : ByteArray := prog_1_method_17_code
def yX5_plan : MethodName := ⟨RX5, "plan", "(I)I"⟩
abbrev cX5_drought : ByteArray := prog_1_method_18_code
def yX5_drought : MethodName := ⟨RX5, "drought", "()I"⟩
abbrev cX5_waits : ByteArray := prog_1_method_19_code
def yX5_waits : MethodName := ⟨RX5, "waits", "(I)I"⟩
abbrev cX5_line : ByteArray := prog_1_method_20_code
def yX5_line : MethodName := ⟨RX5, "line", "(I)I"⟩
abbrev cX5_day : ByteArray := prog_1_method_21_code
def yX5_day : MethodName := ⟨RX5, "day", "(I)I"⟩
abbrev cX5_freely : ByteArray := prog_1_method_22_code
def yX5_freely : MethodName := ⟨RX5, "freely", "(I)I"⟩
abbrev cX5_tells : ByteArray := prog_1_method_23_code
def yX5_tells : MethodName := ⟨RX5, "tells", "(III)I"⟩
abbrev cX5_film : ByteArray := prog_1_method_24_code
def yX5_film : MethodName := ⟨RX5, "film", "(II)I"⟩
abbrev cX5_image : ByteArray := prog_1_method_25_code
def yX5_image : MethodName := ⟨RX5, "image", "()I"⟩
abbrev cX5_back : ByteArray := prog_1_method_26_code
def yX5_back : MethodName := ⟨RX5, "back", "()I"⟩
abbrev cX5_sheet : ByteArray := prog_1_method_27_code
def yX5_sheet : MethodName := ⟨RX5, "sheet", "(III)I"⟩
abbrev cX5_put : ByteArray := prog_1_method_28_code
def yX5_put : MethodName := ⟨RX5, "put", "(III)I"⟩
abbrev cX5_copy : ByteArray := prog_1_method_29_code
def yX5_copy : MethodName := ⟨RX5, "copy", "(IIIII)I"⟩
abbrev cX5_load : ByteArray := prog_1_method_30_code
def yX5_load : MethodName := ⟨RX5, "load", "(IIII)I"⟩
abbrev cX5_isLane : ByteArray := prog_1_method_31_code
def yX5_isLane : MethodName := ⟨RX5, "isLane", "(I)Z"⟩
abbrev cX5_isKind : ByteArray := prog_1_method_32_code
def yX5_isKind : MethodName := ⟨RX5, "isKind", "(I)Z"⟩
abbrev cX5_isSetting : ByteArray := prog_1_method_33_code
def yX5_isSetting : MethodName := ⟨RX5, "isSetting", "(I)Z"⟩
abbrev cX5_isSheet : ByteArray := prog_1_method_34_code
def yX5_isSheet : MethodName := ⟨RX5, "isSheet", "(I)Z"⟩
abbrev cX5_isSort : ByteArray := prog_1_method_35_code
def yX5_isSort : MethodName := ⟨RX5, "isSort", "(I)Z"⟩
abbrev cX5_isUnder : ByteArray := prog_1_method_36_code
def yX5_isUnder : MethodName := ⟨RX5, "isUnder", "(II)Z"⟩
abbrev cX5_remember : ByteArray := prog_1_method_37_code
def yX5_remember : MethodName := ⟨RX5, "remember", "(I)V"⟩
abbrev cX5_firstOtherwise : ByteArray := prog_1_method_38_code
def yX5_firstOtherwise : MethodName := ⟨RX5, "firstOtherwise", "(LLaneLock$Sheet;)I"⟩
abbrev cX5_tried : ByteArray := prog_1_method_39_code
def yX5_tried : MethodName := ⟨RX5, "tried", "(LLaneLock$Sheet;[IIII)I"⟩
abbrev cX6_init : ByteArray := prog_8_method_1_code
def yX6_init : MethodName := ⟨RX6, "<init>", "()V"⟩
abbrev cX6_within : ByteArray := prog_8_method_2_code
def yX6_within : MethodName := ⟨RX6, "within", "(III)Z"⟩
abbrev cX6_isShip : ByteArray := prog_8_method_3_code
def yX6_isShip : MethodName := ⟨RX6, "isShip", "(I)Z"⟩
abbrev cX6_comesTo : ByteArray := prog_8_method_4_code
def yX6_comesTo : MethodName := ⟨RX6, "comesTo", "(IIIII)I"⟩
abbrev cX6_ship : ByteArray := prog_8_method_5_code
def yX6_ship : MethodName := ⟨RX6, "ship", "(IIIII)I"⟩
abbrev cX6_set : ByteArray := prog_8_method_6_code
def yX6_set : MethodName := ⟨RX6, "set", "(II)I"⟩
abbrev cX6_bar : ByteArray := prog_8_method_7_code
def yX6_bar : MethodName := ⟨RX6, "bar", "(IIZ)I"⟩
abbrev cX6_cap : ByteArray := prog_8_method_8_code
def yX6_cap : MethodName := ⟨RX6, "cap", "(II)I"⟩
abbrev cX6_mayOf : ByteArray := prog_8_method_9_code
def yX6_mayOf : MethodName := ⟨RX6, "mayOf", "(I)I"⟩
abbrev cX6_may : ByteArray := prog_8_method_10_code
def yX6_may : MethodName := ⟨RX6, "may", "(I)I"⟩
abbrev cX6_spanOf : ByteArray := prog_8_method_11_code
def yX6_spanOf : MethodName := ⟨RX6, "spanOf", "(I)I"⟩
abbrev cX6_rankOf : ByteArray := prog_8_method_12_code
def yX6_rankOf : MethodName := ⟨RX6, "rankOf", "(I)I"⟩
abbrev cX6_told : ByteArray := prog_8_method_13_code
def yX6_told : MethodName := ⟨RX6, "told", "(II)I"⟩
abbrev cX6_lane : ByteArray := prog_8_method_14_code
def yX6_lane : MethodName := ⟨RX6, "lane", "(II)I"⟩
abbrev cX6_free : ByteArray := prog_8_method_15_code
def yX6_free : MethodName := ⟨RX6, "free", "()I"⟩
abbrev cX6_count : ByteArray := prog_8_method_16_code
def yX6_count : MethodName := ⟨RX6, "count", "(I)I"⟩
abbrev cX6_taken : ByteArray := prog_8_method_17_code
def yX6_taken : MethodName := ⟨RX6, "taken", "(II)I"⟩
abbrev cX6_all : ByteArray := prog_8_method_18_code
def yX6_all : MethodName := ⟨RX6, "all", "()V"⟩
abbrev cX6_empties : ByteArray := prog_8_method_19_code
def yX6_empties : MethodName := ⟨RX6, "empties", "()V"⟩
abbrev cX6_goesIn : ByteArray := prog_8_method_20_code
def yX6_goesIn : MethodName := ⟨RX6, "goesIn", "(I)Z"⟩
abbrev cX6_isOther : ByteArray := prog_8_method_21_code
def yX6_isOther : MethodName := ⟨RX6, "isOther", "(I)Z"⟩
abbrev cX6_stepsOn : ByteArray := prog_8_method_22_code
def yX6_stepsOn : MethodName := ⟨RX6, "stepsOn", "(I)V"⟩
abbrev cX6_fills : ByteArray := prog_8_method_23_code
def yX6_fills : MethodName := ⟨RX6, "fills", "()I"⟩
abbrev cX6_spends : ByteArray := prog_8_method_24_code
def yX6_spends : MethodName := ⟨RX6, "spends", "()I"⟩
abbrev cX6_keeps : ByteArray := prog_8_method_25_code
def yX6_keeps : MethodName := ⟨RX6, "keeps", "()V"⟩
abbrev cX6_fill : ByteArray := prog_8_method_26_code
def yX6_fill : MethodName := ⟨RX6, "fill", "()I"⟩
abbrev cX6_next : ByteArray := prog_8_method_27_code
def yX6_next : MethodName := ⟨RX6, "next", "(II)I"⟩
abbrev cX6_water : ByteArray := prog_8_method_28_code
def yX6_water : MethodName := ⟨RX6, "water", "()J"⟩
abbrev cX6_spent : ByteArray := prog_8_method_29_code
def yX6_spent : MethodName := ⟨RX6, "spent", "(I)J"⟩
abbrev cX6_leave : ByteArray := prog_8_method_30_code
def yX6_leave : MethodName := ⟨RX6, "leave", "(I)I"⟩
abbrev cX6_undo : ByteArray := prog_8_method_31_code
def yX6_undo : MethodName := ⟨RX6, "undo", "()I"⟩
abbrev cX6_plan : ByteArray := prog_8_method_32_code
def yX6_plan : MethodName := ⟨RX6, "plan", "(I)I"⟩
abbrev cX6_drought : ByteArray := prog_8_method_33_code
def yX6_drought : MethodName := ⟨RX6, "drought", "()I"⟩
abbrev cX6_gathers : ByteArray := prog_8_method_34_code
def yX6_gathers : MethodName := ⟨RX6, "gathers", "(II)V"⟩
abbrev cX6_goesOn : ByteArray := prog_8_method_35_code
def yX6_goesOn : MethodName := ⟨RX6, "goesOn", "()V"⟩
abbrev cX6_waits : ByteArray := prog_8_method_36_code
def yX6_waits : MethodName := ⟨RX6, "waits", "(I)I"⟩
abbrev cX6_line : ByteArray := prog_8_method_37_code
def yX6_line : MethodName := ⟨RX6, "line", "(I)I"⟩
abbrev cX6_day : ByteArray := prog_8_method_38_code
def yX6_day : MethodName := ⟨RX6, "day", "(I)I"⟩
abbrev cX6_canGo : ByteArray := prog_8_method_39_code
def yX6_canGo : MethodName := ⟨RX6, "canGo", "(IIII)Z"⟩
abbrev cX6_frees : ByteArray := prog_8_method_40_code
def yX6_frees : MethodName := ⟨RX6, "frees", "()V"⟩
abbrev cX6_freely : ByteArray := prog_8_method_41_code
def yX6_freely : MethodName := ⟨RX6, "freely", "(I)I"⟩
abbrev cX6_isSheet : ByteArray := prog_8_method_42_code
def yX6_isSheet : MethodName := ⟨RX6, "isSheet", "(I)Z"⟩
abbrev cX6_unlike : ByteArray := prog_8_method_43_code
def yX6_unlike : MethodName := ⟨RX6, "unlike", "(I)I"⟩
abbrev cX6_tells : ByteArray := prog_8_method_44_code
def yX6_tells : MethodName := ⟨RX6, "tells", "(III)I"⟩
abbrev cX6_film : ByteArray := prog_8_method_45_code
def yX6_film : MethodName := ⟨RX6, "film", "(II)I"⟩
abbrev cX6_moves : ByteArray := prog_8_method_46_code
def yX6_moves : MethodName := ⟨RX6, "moves", "(I[IIZ)I"⟩
abbrev cX6_images : ByteArray := prog_8_method_47_code
def yX6_images : MethodName := ⟨RX6, "images", "(Z)V"⟩
abbrev cX6_image : ByteArray := prog_8_method_48_code
def yX6_image : MethodName := ⟨RX6, "image", "()I"⟩
abbrev cX6_back : ByteArray := prog_8_method_49_code
def yX6_back : MethodName := ⟨RX6, "back", "()I"⟩
abbrev cX6_sheet : ByteArray := prog_8_method_50_code
def yX6_sheet : MethodName := ⟨RX6, "sheet", "(III)I"⟩
abbrev cX6_put : ByteArray := prog_8_method_51_code
def yX6_put : MethodName := ⟨RX6, "put", "(III)I"⟩
abbrev cX6_copy : ByteArray := prog_8_method_52_code
def yX6_copy : MethodName := ⟨RX6, "copy", "(IIIII)I"⟩
abbrev cX6_load : ByteArray := prog_8_method_53_code
def yX6_load : MethodName := ⟨RX6, "load", "(IIII)I"⟩
def RJ6 : String := "java/lang/Integer"
abbrev cJ6_bitCount_0f7a4 : ByteArray := prog_10_method_49_code
def yJ6_bitCount_0f7a4 : MethodName := ⟨RJ6, "bitCount", "(I)I"⟩
def RJ9 : String := "java/lang/Math"
abbrev cJ9_max_7cf53 : ByteArray := prog_11_method_65_code
def yJ9_max_7cf53 : MethodName := ⟨RJ9, "max", "(II)I"⟩
abbrev cJ9_min_7cf53 : ByteArray := prog_11_method_69_code
def yJ9_min_7cf53 : MethodName := ⟨RJ9, "min", "(II)I"⟩
def RJ7 : String := "java/util/Arrays"
abbrev cJ7_fill_53178 : ByteArray := prog_13_method_103_code
def yJ7_fill_53178 : MethodName := ⟨RJ7, "fill", "([II)V"⟩
abbrev vwCl : List vw_C := [(RX0, TX0, 6), (RX1, TX1, 10), (RX2, TX2, 8), (RX3, TX3, 15), (RX4, TX4, 3), (RX5, TX5, 9), (RX6, TX6, 39)]
def x_tbl : List Cond := lw_tbl.filter goodWord
set_option maxRecDepth 20000 in
theorem x_in0 : ∀ w ∈ u_ws RX0 TX0 6, w ∈ x_tbl := by decide +kernel
set_option maxRecDepth 20000 in
theorem x_in1 : ∀ w ∈ u_ws RX1 TX1 10, w ∈ x_tbl := by decide +kernel
set_option maxRecDepth 20000 in
theorem x_in2 : ∀ w ∈ u_ws RX2 TX2 8, w ∈ x_tbl := by decide +kernel
set_option maxRecDepth 20000 in
theorem x_in3 : ∀ w ∈ u_ws RX3 TX3 15, w ∈ x_tbl := by decide +kernel
set_option maxRecDepth 20000 in
theorem x_in4 : ∀ w ∈ u_ws RX4 TX4 3, w ∈ x_tbl := by decide +kernel
set_option maxRecDepth 20000 in
theorem x_in5 : ∀ w ∈ u_ws RX5 TX5 9, w ∈ x_tbl := by decide +kernel
set_option maxRecDepth 20000 in
theorem x_in6 : ∀ w ∈ u_ws RX6 TX6 39, w ∈ x_tbl := by decide +kernel
def R_law : String := "LaneLockLaw"
def lw_P (b : Addr) (xs : List Int32) (args : Array Value) (s : State) : Prop := args = #[.ref b] ∧ s.IntsAt b xs ∧ xs.length ≤ 3072 ∧ (Jvm.Cond.and given_1 narrow_1).before args s = true
def lw_Q (_ : Array Value) (s : State) (o : Outcome) (t : State) : Prop := o = .returned (some (.int 1)) ∧ Framed s o t [] 600000 7302250
def lw_Z (below : List Frame) (a : Array Value) (s : State) : State → Prop := fun t => ∃ o, t.status = .running ∧ Ended t below o ∧ lw_Q a s o t
/-- the law's own end, with 1 on the stack, nothing written that was there before, its room as the claim has it -/
theorem lw_ret {p : Program} {l : Launch} {e : Env} {s : State} {m : MethodId} {below : List Frame} {meth : Method} {c : Code} {b : Nat} (hx : p.tables.exec = Jvm.exec) (hb : c.code = code) (hr : meth.sig.returnType = ret) (hlocks : meth.locks = false) {pc : Nat} {H : Heap} {ls : Array Slot} (hdg : decode code pc = .ok (.ireturn, 1)) : W p l e room_1 s m #[Value.ref b] below meth c H [] 600000 7302250 (lw_Z below #[Value.ref b] s) (F0 m pc ls [.int 1]) := by
  intro T hT X
  obtain ⟨fs, hret, hrun, hended, hW, hframe⟩ := X.leave (v := some (.int 1)) (hlocks := hlocks) (fun h => by rw [hr] at h; cases h)
  have hmeth' : T.vm.method? m = some meth := X.method'
  refine ⟨T.setFrames fs, ?_, .returned (some (.int 1)), hrun, hended, rfl, ⟨_, rfl⟩, hW, hframe⟩
  jvm_step X.here [X.here.top, hx, hb, hdg, hmeth', hr, ret, narrow_b1]
  (try refine ⟨rfl, ?_⟩); (try refine ⟨rfl, ?_⟩)
  first | (intro acts; rw [hret _ acts rfl rfl rfl]) | rw [hret _ _ rfl rfl rfl]
  exact Steps.refl _
/-- what holds at the law's entry: the machine, the code, the tables' words (any of lw_tbl by 'hts w (by decide +kernel)'), the script of L ints xs at the cell b, what the Statement gives of the start (any of its parts by flat_of_before) -/
def lw_At (p : Program) (s : State) (m : MethodId) (meth : Method) (c : Code) (b L : Nat) (xs : Nat → Int32) : Prop :=
  p.tables.exec = Jvm.exec ∧ c.code = code ∧ meth.sig.returnType = ret ∧ c.maxLocals = 4 ∧ s.vm.findClass R_law = some m.cls ∧ (∀ w ∈ lw_tbl, w.before #[Value.ref b] s = true) ∧ va_X b L xs s s.heap ∧ b < s.heap.size ∧ meth.locks = false ∧ (Jvm.Cond.and given_1 narrow_1).before #[Value.ref b] s = true
end
section
/-! own layer: abstract frames over one world of cells with fixed references; all that changes is a table of ints -/
abbrev xSg : Type := Nat → Nat → Int32
abbrev xF : Type := List (Option Value) × List Value × xSg
abbrev xSh : Type := Nat × Nat × List (Option Nat)
abbrev xLK : Type := List (Nat × Nat × Nat × Nat) × List (Nat × Nat) × List (Nat × Value) × List (Nat × Nat)
abbrev xM : Type := String × MethodName × ByteArray × Nat × Option FieldType × Nat × xLK × List (Nat × Instr × Nat)
abbrev xO : Type := Nat ⊕ (Nat × (Nat → Int32))
abbrev xR : Type := Option (List Prop × Nat × xF)
abbrev xM_own (M : xM) : String := M.1
abbrev xM_y (M : xM) : MethodName := M.2.1
abbrev xM_code (M : xM) : ByteArray := M.2.2.1
abbrev xM_maxL (M : xM) : Nat := M.2.2.2.1
abbrev xM_ret (M : xM) : Option FieldType := M.2.2.2.2.1
abbrev xM_lev (M : xM) : Nat := M.2.2.2.2.2.1
abbrev xM_lk (M : xM) : xLK := M.2.2.2.2.2.2.1
abbrev xM_tb (M : xM) : List (Nat × Instr × Nat) := M.2.2.2.2.2.2.2
def x_K : Nat := 89
def x_shl : List xSh := [(0, 5, [some 1, some 13, none, some 25, none, some 26, some 31, some 34, some 48]), (0, 3, [none, none, none, some 2, some 3, some 4, some 5, some 6, some 7, some 8, some 9, some 10, some 11, none, some 12]), (1, 10, []), (1, 10, []), (1, 10, []), (1, 10, []), (1, 10, []), (1, 10, []), (1, 10, []), (1, 5, []), (1, 3, []), (1, 100, []), (1, 40, []), (0, 3, [none, none, none, some 14, some 15, some 16, some 17, some 18, some 19, some 20, some 21, some 22, some 23, none, some 24]), (1, 10, []), (1, 10, []), (1, 10, []), (1, 10, []), (1, 10, []), (1, 10, []), (1, 10, []), (1, 5, []), (1, 3, []), (1, 100, []), (1, 40, []), (1, 6, []), (0, 2, [some 1, some 27, some 28, some 29, some 30, none, none, none]), (1, 3, []), (1, 10, []), (1, 10, []), (1, 10, []), (0, 0, [some 1, some 26, some 32, some 33, none, none]), (1, 10, []), (1, 10, []), (0, 1, [some 1, some 38, some 43, some 35, some 36, some 37, none, none, none, none]), (1, 2, []), (1, 121, []), (1, 121, []), (0, 2, [some 1, some 39, some 40, some 41, some 42, none, none, none]), (1, 3, []), (1, 10, []), (1, 10, []), (1, 10, []), (0, 2, [some 1, some 44, some 45, some 46, some 47, none, none, none]), (1, 3, []), (1, 10, []), (1, 10, []), (1, 10, []), (3, 4, [some 49, some 51, some 53, some 55]), (0, 4, [none, none, some 50]), (1, 40, []), (0, 4, [none, none, some 52]), (1, 40, []), (0, 4, [none, none, some 54]), (1, 40, []), (0, 4, [none, none, some 56]), (1, 40, []), (0, 6, [none, some 58, some 59, some 60, some 61, some 62, some 63, some 64, some 65, some 66, some 67, some 68, some 69, some 70, none, some 71, none, some 72, none, some 73, some 74, some 75, some 76, none, some 77, some 78, some 79, none, some 80, none, none, some 81, some 82, some 83, some 84, some 85, some 86, some 87, some 88]), (1, 10, []), (1, 10, []), (1, 10, []), (1, 10, []), (1, 10, []), (1, 10, []), (1, 10, []), (1, 10, []), (1, 20, []), (1, 2, []), (1, 5, []), (2, 60, []), (1, 100, []), (1, 40, []), (1, 258, []), (1, 320, []), (1, 20, []), (1, 2, []), (2, 60, []), (1, 10, []), (1, 10, []), (1, 10, []), (1, 10, []), (1, 10, []), (1, 121, []), (1, 121, []), (1, 121, []), (1, 121, []), (1, 4, []), (1, 4, []), (1, 160, [])]
def x_cst : List (List Int32) := [[-1, 0, 1, 0, 3, 1], [1, 1, 1, 1, 0], [20, 3, 99, 60, 4], [10, 2, 5, 10, 0], [0, 1, 2, 3, 4, 5, 6, 7, 8, 9]]
def x_csn : List String := ["UNDER", "LEAST_SETTING", "MOST_SETTING", "FIRST_SETTING", "BY_NUMBER"]
def x_nth {α : Type} : List α → Nat → Option α
  | [], _ => none
  | a :: _, 0 => some a
  | _ :: l, i + 1 => x_nth l i
def x_sh (k : Nat) : xSh := match x_nth x_shl k with
  | some r => r
  | none => (9, 0, [])
def x_lk {α : Type} : List (Nat × α) → Nat → Option α
  | [], _ => none
  | (j, a) :: l, i => bif Nat.beq i j then some a else x_lk l i
def x_up (σ : xSg) (k : Nat) (g : Nat → Int32) : xSg := fun k' => if k' = k then g else σ k'
def x_cv (ad : Nat → Nat) : Value → Value
  | .ref k => .ref (ad k)
  | v => v
def x_get : List (Option Value) → Nat → Option Value
  | [], _ => none
  | a :: _, 0 => a
  | _ :: l, i + 1 => x_get l i
def x_set : List (Option Value) → Nat → Option Value → List (Option Value)
  | [], _, _ => []
  | _ :: l, 0, a => a :: l
  | b :: l, i + 1, a => b :: x_set l i a
def x_two (v : Option Value) : Bool := match v with
  | some (.long _) => true
  | some (.double _) => true
  | _ => false
def x_plg (L : List (Option Value)) (i : Nat) : Bool := match i with
  | 0 => false
  | j + 1 => x_two (x_get L j)
def x_cat (st : List Value) : Nat := (st.map fun v => v.category).sum
/-! one instruction -/
def x_psh (v : Value) (pc : Nat) (f : xF) : xR := some ([], pc, f.1, v :: f.2.1, f.2.2)
def x_bin (g : Int32 → Int32 → Int32) (pc : Nat) (f : xF) : xR := match f.2.1 with
  | .int y :: .int x :: st => some ([], pc + 1, f.1, .int (g x y) :: st, f.2.2)
  | _ => none
def x_dv (g : Int32 → Int32 → Int32) (pc : Nat) (f : xF) : xR := match f.2.1 with
  | .int y :: .int x :: st => some ([¬ y = 0], pc + 1, f.1, .int (g x y) :: st, f.2.2)
  | _ => none
def x_bil (g : Int64 → Int64 → Value) (pc : Nat) (f : xF) : xR := match f.2.1 with
  | .long y :: .long x :: st => some ([], pc + 1, f.1, g x y :: st, f.2.2)
  | _ => none
def x_uni (g : Int32 → Value) (pc : Nat) (f : xF) : xR := match f.2.1 with
  | .int x :: st => some ([], pc + 1, f.1, g x :: st, f.2.2)
  | _ => none
def x_l2i (pc : Nat) (f : xF) : xR := match f.2.1 with
  | .long x :: st => some ([], pc + 1, f.1, .int x.toInt32 :: st, f.2.2)
  | _ => none
def x_ldi (i pc : Nat) (f : xF) : xR := match x_get f.1 i with
  | some (.int x) => some ([], pc, f.1, .int x :: f.2.1, f.2.2)
  | _ => none
def x_ldl (i pc : Nat) (f : xF) : xR := match x_get f.1 i with
  | some (.long x) => some ([], pc, f.1, .long x :: f.2.1, f.2.2)
  | _ => none
def x_lda (i pc : Nat) (f : xF) : xR := match x_get f.1 i with
  | some (.ref x) => some ([], pc, f.1, .ref x :: f.2.1, f.2.2)
  | _ => none
def x_sti (nL i pc : Nat) (f : xF) : xR := match f.2.1 with
  | .int x :: st => bif Nat.blt i nL && !x_plg f.1 i then some ([], pc, x_set f.1 i (some (.int x)), st, f.2.2) else none
  | _ => none
def x_stl (nL i pc : Nat) (f : xF) : xR := match f.2.1 with
  | .long x :: st => bif Nat.blt (i + 1) nL && !x_plg f.1 i then some ([], pc, x_set (x_set f.1 i (some (.long x))) (i + 1) none, st, f.2.2) else none
  | _ => none
def x_sta (nL i pc : Nat) (f : xF) : xR := match f.2.1 with
  | .ref x :: st => bif Nat.blt i nL && !x_plg f.1 i then some ([], pc, x_set f.1 i (some (.ref x)), st, f.2.2) else none
  | _ => none
def x_inc (nL i : Nat) (n : Int) (pc : Nat) (f : xF) : xR := match x_get f.1 i with
  | some (.int x) => bif Nat.blt i nL && !x_plg f.1 i then some ([], pc + 3, x_set f.1 i (some (.int (x + Int32.ofInt n))), f.2.1, f.2.2) else none
  | _ => none
def x_one (v : Value) : Bool := Nat.beq v.category 1
def x_dup (pc : Nat) (f : xF) : xR := match f.2.1 with
  | a :: st => bif x_one a then some ([], pc + 1, f.1, a :: a :: st, f.2.2) else none
  | _ => none
def x_pop (pc : Nat) (f : xF) : xR := match f.2.1 with
  | a :: st => bif x_one a then some ([], pc + 1, f.1, st, f.2.2) else none
  | _ => none
def x_dup2 (pc : Nat) (f : xF) : xR := match f.2.1 with
  | a :: b :: st => bif x_one a && x_one b then some ([], pc + 1, f.1, a :: b :: a :: b :: st, f.2.2) else none
  | _ => none
def x_dpx (pc : Nat) (f : xF) : xR := match f.2.1 with
  | a :: b :: st => bif x_one a && x_one b then some ([], pc + 1, f.1, a :: b :: a :: st, f.2.2) else none
  | _ => none
def x_gf (X : xLK) (idx pc : Nat) (f : xF) : xR := match f.2.1 with
  | .ref k :: st => match x_lk X.1 idx with
    | some (c, i, _) => match x_sh k with
      | (0, c', rs) => bif Nat.beq c c' then (match x_nth rs i with
        | some (some r) => some ([], pc + 3, f.1, .ref r :: st, f.2.2)
        | some none => some ([], pc + 3, f.1, .int (f.2.2 k i) :: st, f.2.2)
        | none => none) else none
      | _ => none
    | none => none
  | _ => none
def x_pf (X : xLK) (idx pc : Nat) (f : xF) : xR := match f.2.1 with
  | .int x :: .ref k :: st => match x_lk X.1 idx with
    | some (c, i, t) => match x_sh k with
      | (0, c', rs) => bif Nat.beq c c' then (match x_nth rs i with
        | some none => match t with
          | 0 => some ([], pc + 3, f.1, st, x_up f.2.2 k (upd (f.2.2 k) i x))
          | 1 => some ([x = 0 ∨ x = 1], pc + 3, f.1, st, x_up f.2.2 k (upd (f.2.2 k) i x))
          | _ => none
        | _ => none) else none
      | _ => none
    | none => none
  | _ => none
def x_gs (X : xLK) (idx pc : Nat) (f : xF) : xR := match x_lk X.2.1 idx with
  | some j => some ([], pc + 3, f.1, .ref (100 + j) :: f.2.1, f.2.2)
  | none => none
def x_ldc (X : xLK) (idx pc : Nat) (f : xF) : xR := match x_lk X.2.2.1 idx with
  | some (.int v) => some ([], pc + 2, f.1, .int v :: f.2.1, f.2.2)
  | _ => none
def x_ldw (X : xLK) (idx pc : Nat) (f : xF) : xR := match x_lk X.2.2.1 idx with
  | some (.int v) => some ([], pc + 3, f.1, .int v :: f.2.1, f.2.2)
  | _ => none
def x_ldc2 (X : xLK) (idx pc : Nat) (f : xF) : xR := match x_lk X.2.2.1 idx with
  | some (.long v) => some ([], pc + 3, f.1, .long v :: f.2.1, f.2.2)
  | _ => none
def x_rd (o : xO) (σ : xSg) (k : Nat) : Option (Nat × (Nat → Int32)) := match x_sh k with
  | (1, n, _) => some (n, σ k)
  | _ => bif Nat.beq k 99 then (match o with
      | .inr (n, xs) => some (n, xs)
      | .inl _ => none)
    else bif Nat.ble 100 k then (match x_nth x_cst (k - 100) with
      | some l => some (l.length, fun i => l.getD i 0)
      | none => none)
    else none
def x_ial (o : xO) (pc : Nat) (f : xF) : xR := match f.2.1 with
  | .int i :: .ref k :: st => match x_rd o f.2.2 k with
    | some (n, g) => some ([vp_in i n], pc + 1, f.1, .int (g i.toNatClampNeg) :: st, f.2.2)
    | none => none
  | _ => none
def x_len (o : xO) (pc : Nat) (f : xF) : xR := match f.2.1 with
  | .ref k :: st => match x_rd o f.2.2 k with
    | some (n, _) => some ([], pc + 1, f.1, .int (Int32.ofNat n) :: st, f.2.2)
    | none => none
  | _ => none
def x_bal (pc : Nat) (f : xF) : xR := match f.2.1 with
  | .int i :: .ref k :: st => match x_sh k with
    | (2, n, _) => some ([vp_in i n], pc + 1, f.1, .int (f.2.2 k i.toNatClampNeg) :: st, f.2.2)
    | _ => none
  | _ => none
def x_ias (pc : Nat) (f : xF) : xR := match f.2.1 with
  | .int x :: .int i :: .ref k :: st => match x_sh k with
    | (1, n, _) => some ([vp_in i n], pc + 1, f.1, st, x_up f.2.2 k (upd (f.2.2 k) i.toNatClampNeg x))
    | _ => none
  | _ => none
def x_bas (pc : Nat) (f : xF) : xR := match f.2.1 with
  | .int x :: .int i :: .ref k :: st => match x_sh k with
    | (2, n, _) => some ([vp_in i n, x = 0 ∨ x = 1], pc + 1, f.1, st, x_up f.2.2 k (upd (f.2.2 k) i.toNatClampNeg x))
    | _ => none
  | _ => none
def x_aal (pc : Nat) (f : xF) : xR := match f.2.1 with
  | .int i :: .ref k :: st => match x_sh k with
    | (3, n, rs) => match x_nth rs i.toNatClampNeg with
      | some (some r) => some ([vp_in i n], pc + 1, f.1, .ref r :: st, f.2.2)
      | _ => none
    | _ => none
  | _ => none
def x_mx (x y : Int32) : Int32 := if x < y then y else x
def x_mn (x y : Int32) : Int32 := if y < x then y else x
def x_nat (o : xO) (X : xLK) (idx pc : Nat) (f : xF) : xR := match o with
  | .inl (_ + 1) => match x_lk X.2.2.2 idx with
    | some 0 => match f.2.1 with
      | .int y :: .int x :: st => bif Nat.ble (x_cat st) 8 then some ([], pc + 3, f.1, .int (x_mx x y) :: st, f.2.2) else none
      | _ => none
    | some 1 => match f.2.1 with
      | .int y :: .int x :: st => bif Nat.ble (x_cat st) 8 then some ([], pc + 3, f.1, .int (x_mn x y) :: st, f.2.2) else none
      | _ => none
    | some 2 => match f.2.1 with
      | .int n :: .int dp :: .ref k1 :: .int sp :: .ref k0 :: st => match x_sh k0, x_sh k1 with
        | (1, n0, _), (1, n1, _) => bif Nat.ble (x_cat st) 8 then some ([¬ sp < 0, ¬ dp < 0, ¬ n < 0, sp.toNatClampNeg + n.toNatClampNeg ≤ n0, dp.toNatClampNeg + n.toNatClampNeg ≤ n1], pc + 3, f.1, st, x_up f.2.2 k1 (va_cpy (f.2.2 k0) (f.2.2 k1) sp.toNatClampNeg dp.toNatClampNeg n.toNatClampNeg)) else none
        | _, _ => none
      | _ => none
    | _ => none
  | _ => none
def x_gt (off : Int) (pc : Nat) (f : xF) : xR := match (pc : Int) + off with
  | .ofNat t => some ([], t, f)
  | _ => none
def x_ln : Instr → Nat
  | .bipush _ => 2
  | .sipush _ => 3
  | .ldc _ => 2
  | .ldc_w _ => 3
  | .ldc2_w _ => 3
  | .iload _ => 2
  | .lload _ => 2
  | .aload _ => 2
  | .istore _ => 2
  | .lstore _ => 2
  | .astore _ => 2
  | .iinc _ _ => 3
  | .getfield _ => 3
  | .putfield _ => 3
  | .getstatic _ => 3
  | .invokestatic _ => 3
  | .goto _ => 3
  | _ => 1
def x_stp (o : xO) (nL : Nat) (X : xLK) (pc : Nat) (i : Instr) (f : xF) : xR := match i with
  | .iconst z => x_psh (.int (Int32.ofInt z)) (pc + 1) f
  | .bipush z => x_psh (.int (Int8.ofInt z).toInt32) (pc + 2) f
  | .sipush z => x_psh (.int (Int16.ofInt z).toInt32) (pc + 3) f
  | .lconst k => x_psh (.long (Int64.ofNat (k : Nat))) (pc + 1) f
  | .ldc k => x_ldc X k pc f
  | .ldc_w k => x_ldw X k pc f
  | .ldc2_w k => x_ldc2 X k pc f
  | .iload k => x_ldi k (pc + 2) f
  | .iload_n k => x_ldi (k : Nat) (pc + 1) f
  | .lload k => x_ldl k (pc + 2) f
  | .lload_n k => x_ldl (k : Nat) (pc + 1) f
  | .aload k => x_lda k (pc + 2) f
  | .aload_n k => x_lda (k : Nat) (pc + 1) f
  | .istore k => x_sti nL k (pc + 2) f
  | .istore_n k => x_sti nL (k : Nat) (pc + 1) f
  | .lstore k => x_stl nL k (pc + 2) f
  | .lstore_n k => x_stl nL (k : Nat) (pc + 1) f
  | .astore k => x_sta nL k (pc + 2) f
  | .astore_n k => x_sta nL (k : Nat) (pc + 1) f
  | .iinc k n => x_inc nL k n pc f
  | .iadd => x_bin (fun x y => x + y) pc f
  | .isub => x_bin (fun x y => x - y) pc f
  | .imul => x_bin (fun x y => x * y) pc f
  | .iand => x_bin (fun x y => x &&& y) pc f
  | .ior => x_bin (fun x y => x ||| y) pc f
  | .ixor => x_bin (fun x y => x ^^^ y) pc f
  | .ishl => x_bin (fun x y => x <<< (y &&& 31)) pc f
  | .ishr => x_bin (fun x y => x >>> (y &&& 31)) pc f
  | .iushr => x_bin (fun x y => (x.toUInt32 >>> (y.toUInt32 &&& Int32.toUInt32 31)).toInt32) pc f
  | .idiv => x_dv (fun x y => x / y) pc f
  | .irem => x_dv (fun x y => x - x / y * y) pc f
  | .ladd => x_bil (fun x y => .long (x + y)) pc f
  | .lmul => x_bil (fun x y => .long (x * y)) pc f
  | .lcmp => x_bil (fun x y => .int (lg_cmp x y)) pc f
  | .i2l => x_uni (fun x => .long x.toInt64) pc f
  | .i2b => x_uni (fun x => .int x.toInt8.toInt32) pc f
  | .l2i => x_l2i pc f
  | .dup => x_dup pc f
  | .pop => x_pop pc f
  | .dup2 => x_dup2 pc f
  | .dup_x1 => x_dpx pc f
  | .getfield k => x_gf X k pc f
  | .putfield k => x_pf X k pc f
  | .getstatic k => x_gs X k pc f
  | .iaload => x_ial o pc f
  | .arraylength => x_len o pc f
  | .baload => x_bal pc f
  | .iastore => x_ias pc f
  | .bastore => x_bas pc f
  | .aaload => x_aal pc f
  | .invokestatic k => x_nat o X k pc f
  | .goto off => x_gt off pc f
  | _ => none
def x_blk (o : xO) (M : xM) : Nat → Nat → xF → xR
  | 0, pc, f => some ([], pc, f)
  | n + 1, pc, f => match x_lk (xM_tb M) pc with
    | none => none
    | some (i, len) => bif Nat.beq len (x_ln i) then (match x_stp o (xM_maxL M) (xM_lk M) pc i f with
      | none => none
      | some (P, pc', f') => match x_blk o M n pc' f' with
        | none => none
        | some (Ps, r) => some (P ++ Ps, r)) else none
def x_cmp : Jvm.ClassFile.Cond → Int32 → Int32 → Prop
  | .eq, x, y => x = y
  | .ne, x, y => ¬ x = y
  | .lt, x, y => x < y
  | .ge, x, y => y ≤ x
  | .gt, x, y => y < x
  | .le, x, y => x ≤ y
def x_br (i : Instr) (st : List Value) : Option (Prop × Int × List Value) := match i with
  | .if_icmp k off => match st with
    | .int y :: .int x :: st => some (x_cmp k x y, off, st)
    | _ => none
  | .ifCond k off => match st with
    | .int x :: st => some (x_cmp k x 0, off, st)
    | _ => none
  | _ => none
def x_bbr (o : xO) (M : xM) (n pc : Nat) (f : xF) : Option (List Prop × Prop × Nat × Nat × xF) := match x_blk o M n pc f with
  | none => none
  | some (Ps, pc', f') => match x_lk (xM_tb M) pc' with
    | none => none
    | some (i, len) => bif Nat.beq len 3 then (match x_br i f'.2.1 with
      | none => none
      | some (P, off, st) => match (pc' : Int) + off with
        | .ofNat t => some (Ps, P, t, pc' + 3, (f'.1, st, f'.2.2))
        | _ => none) else none
def x_conj : List Prop → Prop
  | [] => True
  | [a] => a
  | a :: b :: l => a ∧ x_conj (b :: l)
end
section
/-! the world of cells, the locals, what a method's context holds -/
theorem x_nth_eq {α : Type} : ∀ (l : List α) (i : Nat), x_nth l i = l[i]?
  | [], i => by simp [x_nth]
  | a :: l, 0 => by simp [x_nth]
  | a :: l, i + 1 => by simp [x_nth, x_nth_eq l i]
theorem x_lk_mem {α : Type} : ∀ {l : List (Nat × α)} {i : Nat} {a : α}, x_lk l i = some a → (i, a) ∈ l
  | [], _, _, h => by simp [x_lk] at h
  | (j, b) :: l, i, a, h => by
    unfold x_lk at h
    cases hb : Nat.beq i j with
    | true =>
      rw [hb] at h
      have hij : i = j := Nat.eq_of_beq_eq_true hb
      cases h
      rw [hij]
      exact List.mem_cons_self
    | false =>
      rw [hb] at h
      exact List.mem_cons_of_mem _ (x_lk_mem h)
theorem x_shl_len : x_shl.length = x_K := by decide +kernel
theorem x_sh_lt {k t n : Nat} {rs : List (Option Nat)} (h : x_sh k = (t, n, rs)) (ht : t ≠ 9) : k < x_K := by
  unfold x_sh at h
  rw [x_nth_eq] at h
  rw [← x_shl_len]
  cases hk : x_shl[k]? with
  | none =>
    rw [hk] at h
    cases h
    exact absurd rfl ht
  | some r => exact (List.getElem?_eq_some_iff.mp hk).1
def x_fs (ad : Nat → Nat) (f : Nat → Int32) : Nat → List (Option Nat) → List Value
  | _, [] => []
  | i, some r :: l => .ref (ad r) :: x_fs ad f (i + 1) l
  | i, none :: l => .int (f i) :: x_fs ad f (i + 1) l
def x_rf (ad : Nat → Nat) (rs : List (Option Nat)) (i : Nat) : Option Nat := match x_nth rs i with
  | some r => r.map ad
  | none => none
def x_ent (ca : Nat → ClassId) (ad : Nat → Nat) (σ : xSg) (k : Nat) : va_E := match x_sh k with
  | (0, c, rs) => .inr (c, x_fs ad (σ k) 0 rs)
  | (3, n, rs) => .inl (ca k, n, .inr (.inr (.inr (.inr (x_rf ad rs)))))
  | (_, n, _) => .inl (ca k, n, .inl (σ k))
def x_wl (ca : Nat → ClassId) (ad : Nat → Nat) (σ : xSg) : va_W := (List.range x_K).map fun k => (ad k, x_ent ca ad σ k)
def x_ety (k : Nat) : FieldType := match (x_sh k).1 with
  | 2 => .boolean
  | 3 => .object "LaneLock$Sheet"
  | _ => .int
def x_tys (ca : Nat → ClassId) : List (ClassId × FieldType) := ((List.range x_K).filter fun k => !(Nat.beq (x_sh k).1 0)).map fun k => (ca k, x_ety k)
theorem x_wl_at {ca : Nat → ClassId} {ad : Nat → Nat} {σ : xSg} {k : Nat} (h : k < x_K) : (x_wl ca ad σ)[k]? = some (ad k, x_ent ca ad σ k) := by
  unfold x_wl
  rw [List.getElem?_map, List.getElem?_range h]
  rfl
theorem x_wl_len {ca : Nat → ClassId} {ad : Nat → Nat} {σ : xSg} : (x_wl ca ad σ).length = x_K := by simp [x_wl]
theorem x_wl_set {ca : Nat → ClassId} {ad : Nat → Nat} {σ σ' : xSg} {k : Nat} {e : va_E} (h : k < x_K) (ho : ∀ j, j ≠ k → σ' j = σ j) (he : e = x_ent ca ad σ' k) : (x_wl ca ad σ).set k (ad k, e) = x_wl ca ad σ' := by
  apply List.ext_getElem?
  intro j
  by_cases hj : j = k
  · subst hj
    rw [List.getElem?_set_self (by rw [x_wl_len]; exact h), x_wl_at h, he]
  · rw [List.getElem?_set_ne (Ne.symm hj)]
    by_cases hl : j < x_K
    · rw [x_wl_at hl, x_wl_at hl]
      unfold x_ent
      rw [ho j hj]
    · rw [List.getElem?_eq_none (by rw [x_wl_len]; omega), List.getElem?_eq_none (by rw [x_wl_len]; omega)]
theorem x_up_ne {σ : xSg} {k j : Nat} {g : Nat → Int32} (h : j ≠ k) : x_up σ k g j = σ j := by unfold x_up; rw [if_neg h]
theorem x_up_eq {σ : xSg} {k : Nat} {g : Nat → Int32} : x_up σ k g k = g := by unfold x_up; rw [if_pos rfl]
theorem x_tys_at (ca : Nat → ClassId) {k t n : Nat} {rs : List (Option Nat)} (h : x_sh k = (t, n, rs)) (h0 : t ≠ 0) (h9 : t ≠ 9) : ∃ i : Nat, (x_tys ca)[i]? = some (ca k, x_ety k) := by
  have hm : (ca k, x_ety k) ∈ x_tys ca := List.mem_map.mpr ⟨k, List.mem_filter.mpr ⟨List.mem_range.mpr (x_sh_lt h h9), by rw [h]; cases t with
    | zero => exact absurd rfl h0
    | succ t => rfl⟩, rfl⟩
  obtain ⟨i, hi⟩ := List.getElem?_of_mem hm
  exact ⟨i, hi⟩
theorem x_fs_congr (ad : Nat → Nat) {f g : Nat → Int32} : ∀ (rs : List (Option Nat)) (j : Nat), (∀ i, j ≤ i → f i = g i) → x_fs ad f j rs = x_fs ad g j rs
  | [], _, _ => rfl
  | some r :: l, j, h => by simp only [x_fs]; rw [x_fs_congr ad l (j + 1) (fun i hi => h i (by omega))]
  | none :: l, j, h => by simp only [x_fs]; rw [x_fs_congr ad l (j + 1) (fun i hi => h i (by omega)), h j (Nat.le_refl _)]
theorem x_fs_int (ad : Nat → Nat) (f : Nat → Int32) : ∀ (rs : List (Option Nat)) (j i : Nat), x_nth rs i = some none → (x_fs ad f j rs)[i]? = some (.int (f (j + i)))
  | [], _, _, h => by simp [x_nth] at h
  | some r :: l, j, 0, h => by simp [x_nth] at h
  | none :: l, j, 0, h => by simp [x_fs]
  | some r :: l, j, i + 1, h => by
    have := x_fs_int ad f l (j + 1) i (by simpa [x_nth] using h)
    simp only [x_fs, List.getElem?_cons_succ, this]; congr 3; omega
  | none :: l, j, i + 1, h => by
    have := x_fs_int ad f l (j + 1) i (by simpa [x_nth] using h)
    simp only [x_fs, List.getElem?_cons_succ, this]; congr 3; omega
theorem x_fs_ref (ad : Nat → Nat) (f : Nat → Int32) : ∀ (rs : List (Option Nat)) (j i r : Nat), x_nth rs i = some (some r) → (x_fs ad f j rs)[i]? = some (.ref (ad r))
  | [], _, _, _, h => by simp [x_nth] at h
  | some a :: l, j, 0, r, h => by
    simp only [x_nth, Option.some.injEq] at h
    simp [x_fs, h]
  | none :: l, j, 0, r, h => by simp [x_nth] at h
  | some a :: l, j, i + 1, r, h => by
    have := x_fs_ref ad f l (j + 1) i r (by simpa [x_nth] using h)
    simp only [x_fs, List.getElem?_cons_succ, this]
  | none :: l, j, i + 1, r, h => by
    have := x_fs_ref ad f l (j + 1) i r (by simpa [x_nth] using h)
    simp only [x_fs, List.getElem?_cons_succ, this]
theorem x_fs_set (ad : Nat → Nat) (f : Nat → Int32) (x : Int32) : ∀ (rs : List (Option Nat)) (j i : Nat), x_nth rs i = some none → (x_fs ad f j rs).set i (.int x) = x_fs ad (upd f (j + i) x) j rs
  | [], _, _, h => by simp [x_nth] at h
  | some r :: l, j, 0, h => by simp [x_nth] at h
  | none :: l, j, 0, h => by
    simp only [x_fs, List.set_cons_zero, Nat.add_zero]
    rw [x_fs_congr ad l (j + 1) (f := f) (g := upd f j x) (fun i hi => by unfold upd; rw [if_neg (by omega)])]
    simp [upd]
  | some r :: l, j, i + 1, h => by
    have := x_fs_set ad f x l (j + 1) i (by simpa [x_nth] using h)
    simp only [x_fs, List.set_cons_succ, this]
    rw [show j + 1 + i = j + (i + 1) by omega]
  | none :: l, j, i + 1, h => by
    have := x_fs_set ad f x l (j + 1) i (by simpa [x_nth] using h)
    simp only [x_fs, List.set_cons_succ, this]
    rw [show j + 1 + i = j + (i + 1) by omega]
    simp [upd]
theorem x_fs_lt (ad : Nat → Nat) (f : Nat → Int32) (rs : List (Option Nat)) (j i : Nat) (h : x_nth rs i = some none) : i < (x_fs ad f j rs).length :=
  (List.getElem?_eq_some_iff.mp (x_fs_int ad f rs j i h)).1
/-! locals -/
def x_L (ad : Nat → Nat) (ls : Array Slot) (nL : Nat) (L : List (Option Value)) : Prop := ls.size = nL ∧ lv_wf ls ∧ ∀ (i : Nat) (v : Value), x_get L i = some v → ls[i]? = some (.val (x_cv ad v))
def x_lvl (ad : Nat → Nat) : Nat → List (Option Value) → List (Nat × Value)
  | _, [] => []
  | i, none :: l => x_lvl ad (i + 1) l
  | i, some v :: l => (i, x_cv ad v) :: x_lvl ad (i + 1) l
theorem x_cv_cat (ad : Nat → Nat) (v : Value) : (x_cv ad v).category = v.category := by cases v <;> rfl
theorem x_lvl_mem (ad : Nat → Nat) : ∀ (L : List (Option Value)) (i : Nat) (q : Nat × Value), q ∈ x_lvl ad i L ↔ ∃ j v, x_get L j = some v ∧ q = (i + j, x_cv ad v)
  | [], i, q => by simp [x_lvl, x_get]
  | none :: l, i, q => by
    simp only [x_lvl]
    rw [x_lvl_mem ad l (i + 1) q]
    constructor
    · rintro ⟨j, v, h1, rfl⟩
      exact ⟨j + 1, v, h1, by congr 1; omega⟩
    · rintro ⟨j, v, h1, rfl⟩
      cases j with
      | zero => simp [x_get] at h1
      | succ j => exact ⟨j, v, h1, by congr 1; omega⟩
  | some w :: l, i, q => by
    simp only [x_lvl, List.mem_cons]
    rw [x_lvl_mem ad l (i + 1) q]
    constructor
    · rintro (rfl | ⟨j, v, h1, rfl⟩)
      · exact ⟨0, w, rfl, rfl⟩
      · exact ⟨j + 1, v, h1, by congr 1; omega⟩
    · rintro ⟨j, v, h1, rfl⟩
      cases j with
      | zero =>
        simp only [x_get, Option.some.injEq] at h1
        subst h1
        exact Or.inl rfl
      | succ j => exact Or.inr ⟨j, v, h1, by congr 1; omega⟩
theorem x_L.has {ad : Nat → Nat} {ls : Array Slot} {nL : Nat} {L : List (Option Value)} (h : x_L ad ls nL L) : lv_has ls nL (x_lvl ad 0 L) := by
  refine ⟨h.1, h.2.1, fun q hq => ?_⟩
  obtain ⟨j, v, h1, rfl⟩ := (x_lvl_mem ad L 0 q).mp hq
  rw [Nat.zero_add]
  exact h.2.2 j v h1
theorem x_get_set_ne : ∀ (L : List (Option Value)) (i j : Nat) (a : Option Value), j ≠ i → x_get (x_set L i a) j = x_get L j
  | [], _, _, _, _ => rfl
  | _ :: _, 0, 0, _, h => absurd rfl h
  | _ :: _, 0, j + 1, _, _ => rfl
  | _ :: _, i + 1, 0, _, _ => rfl
  | _ :: l, i + 1, j + 1, a, h => x_get_set_ne l i j a (by omega)
theorem x_get_set_eq : ∀ (L : List (Option Value)) (i : Nat) (a : Option Value) (v : Value), x_get (x_set L i a) i = some v → a = some v
  | [], _, _, _, h => by simp [x_set, x_get] at h
  | _ :: _, 0, _, _, h => h
  | _ :: l, i + 1, a, v, h => x_get_set_eq l i a v h
theorem x_two_cat {v : Value} (h : x_two (some v) = false) : v.category = 1 := by cases v <;> simp_all [x_two, Value.category]
theorem x_L.st1 {ad : Nat → Nat} {ls' : Array Slot} {nL i : Nat} {L : List (Option Value)} {v : Value} (hp : x_plg L i = false)
    (h : lv_has ls' nL ((i, x_cv ad v) :: (x_lvl ad 0 L).filter (fun q => !(q.1 == i) && !(q.1 + 1 == i && q.2.category == 2)))) : x_L ad ls' nL (x_set L i (some v)) := by
  refine ⟨h.1, h.2.1, fun j w hj => ?_⟩
  by_cases hji : j = i
  · subst hji
    have := x_get_set_eq L j (some v) w hj
    cases this
    exact h.2.2 _ List.mem_cons_self
  · rw [x_get_set_ne L i j _ hji] at hj
    refine h.2.2 (j, x_cv ad w) (List.mem_cons_of_mem _ (List.mem_filter.mpr ⟨(x_lvl_mem ad L 0 _).mpr ⟨j, w, hj, by rw [Nat.zero_add]⟩, ?_⟩))
    by_cases h1 : j + 1 = i
    · subst h1
      have h2 : x_two (some w) = false := by rw [← hj]; exact hp
      simp [x_cv_cat, x_two_cat h2]
    · simp [hji, h1]
theorem x_L.st2 {ad : Nat → Nat} {ls' : Array Slot} {nL i : Nat} {L : List (Option Value)} {v : Value} (hp : x_plg L i = false)
    (h : lv_has ls' nL ((i, x_cv ad v) :: (x_lvl ad 0 L).filter (fun q => !(q.1 == i) && (!(q.1 == i + 1) && !(q.1 + 1 == i && q.2.category == 2))))) : x_L ad ls' nL (x_set (x_set L i (some v)) (i + 1) none) := by
  refine ⟨h.1, h.2.1, fun j w hj => ?_⟩
  by_cases hj1 : j = i + 1
  · subst hj1
    have := x_get_set_eq _ (i + 1) none w hj
    cases this
  · rw [x_get_set_ne _ (i + 1) j _ hj1] at hj
    by_cases hji : j = i
    · subst hji
      have := x_get_set_eq L j (some v) w hj
      cases this
      exact h.2.2 _ List.mem_cons_self
    · rw [x_get_set_ne L i j _ hji] at hj
      refine h.2.2 (j, x_cv ad w) (List.mem_cons_of_mem _ (List.mem_filter.mpr ⟨(x_lvl_mem ad L 0 _).mpr ⟨j, w, hj, by rw [Nat.zero_add]⟩, ?_⟩))
      by_cases h1 : j + 1 = i
      · subst h1
        have h2 : x_two (some w) = false := by rw [← hj]; exact hp
        simp [x_cv_cat, x_two_cat h2, hj1]
      · simp [hji, h1, hj1]
/-! context -/
def x_AA (ad : Nat → Nat) : Nat → Prop := fun q => ∃ k, k < x_K ∧ ad k = q
def x_A (o : xO) (ad : Nat → Nat) (s : State) : Nat → Prop := match o with
  | .inl _ => x_AA ad
  | .inr _ => fun q => s.heap.size ≤ q
def x_Rm (o : xO) : Room := match o with
  | .inl d => { frames := d, cells := 0, slots := 0, locals := 36 * d }
  | .inr _ => room_1
def x_Cc (o : xO) : Nat := match o with
  | .inl _ => 0
  | .inr _ => 600000
def x_Cs (o : xO) : Nat := match o with
  | .inl _ => 0
  | .inr _ => 7302250
def x_Inj (ad : Nat → Nat) : Prop := ∀ i j, i < x_K → j < x_K → ad i = ad j → i = j
def x_Cst (ad : Nat → Nat) (A : Nat → Prop) (U : State) : Prop := ∀ (j : Nat) (l : List Int32), x_nth x_cst j = some l → va_T .int (ad (100 + j)) l.length (fun i => .int (l.getD i 0)) A U U.heap ∧ ∀ nm, x_nth x_csn j = some nm → va_Z "LaneLock" nm "[I" (.ref (ad (100 + j))) A U U.heap
def x_Scr (o : xO) (ad : Nat → Nat) (s : State) : Prop := match o with
  | .inl _ => True
  | .inr (n, xs) => va_X (ad 99) n xs s s.heap ∧ ad 99 < s.heap.size
def x_Cx (o : xO) (M : xM) (p : Program) (s : State) (m : MethodId) (args : Array Value) (meth : Method) (c : Code) (ad : Nat → Nat) (ca : Nat → ClassId) (D : va_G) : Prop :=
  p.tables.exec = Jvm.exec ∧ c.code = xM_code M ∧ c.maxLocals = xM_maxL M ∧ meth.sig.returnType = xM_ret M ∧ meth.locks = false ∧ s.vm.findClass (xM_own M) = some m.cls ∧ (∀ w ∈ x_tbl, w.before args s = true) ∧ va_K D vwCl (x_tys ca) s ∧ x_Cst ad (x_A o ad s) s ∧ x_Inj ad ∧ (∀ k, k < x_K → x_A o ad s (ad k)) ∧ x_Scr o ad s
def x_fok (own : String) (q : Nat × Nat × Nat × Nat) : Prop := ∃ (C : String) (T : u_T) (N : Nat), vwCl[q.2.1]? = some (C, T, N) ∧ q.2.2.1 < N ∧ Cond.fieldLink own q.1 (T q.2.2.1).1 (T q.2.2.1).2.1 (T q.2.2.1).2.2.1 ∈ x_tbl ∧ (q.2.2.2 = 0 → (T q.2.2.1).2.2.1 = "I" ∧ (T q.2.2.1).2.2.2 = false) ∧ (q.2.2.2 = 1 → (T q.2.2.1).2.2.1 = "Z" ∧ (T q.2.2.1).2.2.2 = false)
def x_sok (own : String) (q : Nat × Nat) : Prop := ∃ nm, x_nth x_csn q.2 = some nm ∧ (∃ l, x_nth x_cst q.2 = some l) ∧ Cond.fieldLink own q.1 "LaneLock" nm "[I" ∈ x_tbl
def x_kok (own : String) (q : Nat × Value) : Prop := match q.2 with
  | .int v => Cond.constant own q.1 v ∈ x_tbl
  | .long v => Cond.constantLong own q.1 v ∈ x_tbl
  | _ => False
def x_nok (own : String) (q : Nat × Nat) : Prop := match q.2 with
  | 0 => Cond.methodLink own q.1 Lib.Math.max.name ∈ x_tbl
  | 1 => Cond.methodLink own q.1 Lib.Math.min.name ∈ x_tbl
  | _ => Cond.methodLink own q.1 arraycopyName ∈ x_tbl
def x_lkok (own : String) (X : xLK) : Prop := (∀ q ∈ X.1, x_fok own q) ∧ (∀ q ∈ X.2.1, x_sok own q) ∧ (∀ q ∈ X.2.2.1, x_kok own q) ∧ ∀ q ∈ X.2.2.2, x_nok own q
def x_ok (M : xM) : Prop := x_lkok (xM_own M) (xM_lk M) ∧ ∀ q ∈ xM_tb M, decode (xM_code M) q.1 = .ok q.2
theorem x_inCl {k : Nat} {q : vw_C} (h : vwCl[k]? = some q) : ∀ w ∈ u_ws q.1 q.2.1 q.2.2, w ∈ x_tbl := by
  match k, h with
  | 0, h => cases h; exact x_in0
  | 1, h => cases h; exact x_in1
  | 2, h => cases h; exact x_in2
  | 3, h => cases h; exact x_in3
  | 4, h => cases h; exact x_in4
  | 5, h => cases h; exact x_in5
  | 6, h => cases h; exact x_in6
  | k + 7, h => simp [vwCl] at h
theorem x_tyCl {k : Nat} {q : vw_C} (h : vwCl[k]? = some q) : ∃ ty0 : Nat → FieldType, ∀ k, k < q.2.2 → parseFieldDescriptor (q.2.1 k).2.2.1 = some (ty0 k) := by
  match k, h with
  | 0, h => cases h; exact ⟨_, tyX0_ok⟩
  | 1, h => cases h; exact ⟨_, tyX1_ok⟩
  | 2, h => cases h; exact ⟨_, tyX2_ok⟩
  | 3, h => cases h; exact ⟨_, tyX3_ok⟩
  | 4, h => cases h; exact ⟨_, tyX4_ok⟩
  | 5, h => cases h; exact ⟨_, tyX5_ok⟩
  | 6, h => cases h; exact ⟨_, tyX6_ok⟩
  | k + 7, h => simp [vwCl] at h
theorem x_nmCl {k : Nat} {q : vw_C} (h : vwCl[k]? = some q) : ∀ a, a < q.2.2 → ∀ b, b < q.2.2 → a ≠ b → (q.2.1 a).2.1 ≠ (q.2.1 b).2.1 := by
  match k, h with
  | 0, h => cases h; exact nmX0
  | 1, h => cases h; exact nmX1
  | 2, h => cases h; exact nmX2
  | 3, h => cases h; exact nmX3
  | 4, h => cases h; exact nmX4
  | 5, h => cases h; exact nmX5
  | 6, h => cases h; exact nmX6
  | k + 7, h => simp [vwCl] at h
set_option maxRecDepth 20000 in
theorem x_w_max : Cond.static Lib.Math.max.name ∈ x_tbl ∧ Cond.initialized "java/lang/Math" ∈ x_tbl ∧ Cond.code Lib.Math.max.name Lib.Math.max.code 2 (some .int) ∈ x_tbl := by decide +kernel
set_option maxRecDepth 20000 in
theorem x_w_min : Cond.static Lib.Math.min.name ∈ x_tbl ∧ Cond.initialized "java/lang/Math" ∈ x_tbl ∧ Cond.code Lib.Math.min.name Lib.Math.min.code 2 (some .int) ∈ x_tbl := by decide +kernel
set_option maxRecDepth 20000 in
theorem x_w_cpy : Cond.native arraycopyName ∈ x_tbl ∧ Cond.static arraycopyName ∈ x_tbl ∧ Cond.initialized "java/lang/System" ∈ x_tbl := by decide +kernel
theorem x_w_nfw : nativeFrameWords "java/lang/System" "arraycopy" 5 + 19 ≤ 36 := by decide +kernel
theorem x_wD {ca : Nat → ClassId} {ad : Nat → Nat} {σ : xSg} {A : Nat → Prop} (hi : x_Inj ad) (hA : ∀ k, k < x_K → A (ad k)) : va_D A (x_wl ca ad σ) := by
  have at' : ∀ {i : Nat} {q : Nat × va_E}, (x_wl ca ad σ)[i]? = some q → i < x_K ∧ q.1 = ad i := by
    intro i q h
    have hl : i < x_K := by
      have := (List.getElem?_eq_some_iff.mp h).1
      rwa [x_wl_len] at this
    rw [x_wl_at hl] at h
    cases h
    exact ⟨hl, rfl⟩
  refine ⟨fun i j x y hx hy hxy => ?_, fun k q hq => ?_⟩
  · obtain ⟨a1, a2⟩ := at' hx
    obtain ⟨b1, b2⟩ := at' hy
    exact hi i j a1 b1 (by rw [← a2, ← b2]; exact hxy)
  · obtain ⟨a1, a2⟩ := at' hq
    rw [a2]
    exact hA k a1
end
section
/-! each instruction over the machine -/
section XS
variable {o : xO} {M : xM} {p : Program} {l : Launch} {e : Env} {s : State} {m : MethodId} {args : Array Value} {below : List Frame} {meth : Method} {c : Code} {ad : Nat → Nat} {ca : Nat → ClassId} {D : va_G} {Qf : State → Prop}
def x_G (o : xO) (M : xM) (p : Program) (l : Launch) (e : Env) (s : State) (m : MethodId) (args : Array Value) (below : List Frame) (meth : Method) (c : Code) (ad : Nat → Nat) (ca : Nat → ClassId) (D : va_G) (Qf : State → Prop) (pc : Nat) (f : xF) : Prop :=
  ∀ (H : Heap) (locs : List Loc) (ls : Array Slot), va_P D vwCl (x_wl ca ad f.2.2) H → va_S (x_A o ad s) s.heap H locs → x_L ad ls (xM_maxL M) f.1 → W p l e (x_Rm o) s m args below meth c H locs (x_Cc o) (x_Cs o) Qf (F0 m pc ls (f.2.1.map (x_cv ad)))
variable {pc pc' : Nat} {f f' : xF} {Ps : List Prop}
theorem x_psh_ok {v : Value} {n : Nat} (hv : x_cv ad v = v)
    (row : ∀ (H : Heap) (locs : List Loc) (ls : Array Slot) (rest : List Value), W p l e (x_Rm o) s m args below meth c H locs (x_Cc o) (x_Cs o) Qf (F0 m n ls (v :: rest)) → W p l e (x_Rm o) s m args below meth c H locs (x_Cc o) (x_Cs o) Qf (F0 m pc ls rest))
    (h : x_psh v n f = some (Ps, pc', f')) (k : x_G o M p l e s m args below meth c ad ca D Qf pc' f') : x_G o M p l e s m args below meth c ad ca D Qf pc f := by
  unfold x_psh at h
  cases h
  intro H locs ls hP hS hL
  refine row H locs ls _ ?_
  have := k H locs ls hP hS hL
  rw [List.map_cons, hv] at this
  exact this
theorem x_bin_ok {g : Int32 → Int32 → Int32}
    (row : ∀ (H : Heap) (locs : List Loc) (ls : Array Slot) (rest : List Value) (x y : Int32), W p l e (x_Rm o) s m args below meth c H locs (x_Cc o) (x_Cs o) Qf (F0 m (pc + 1) ls (.int (g x y) :: rest)) → W p l e (x_Rm o) s m args below meth c H locs (x_Cc o) (x_Cs o) Qf (F0 m pc ls (.int y :: .int x :: rest)))
    (h : x_bin g pc f = some (Ps, pc', f')) (k : x_G o M p l e s m args below meth c ad ca D Qf pc' f') : x_G o M p l e s m args below meth c ad ca D Qf pc f := by
  unfold x_bin at h
  split at h
  next y x st heq =>
    cases h
    intro H locs ls hP hS hL
    rw [heq]
    exact row H locs ls _ x y (k H locs ls hP hS hL)
  next => cases h
theorem x_dv_ok {g : Int32 → Int32 → Int32} (hp : ∀ P ∈ Ps, P)
    (row : ∀ (H : Heap) (locs : List Loc) (ls : Array Slot) (rest : List Value) (x y : Int32), ¬ y = 0 → W p l e (x_Rm o) s m args below meth c H locs (x_Cc o) (x_Cs o) Qf (F0 m (pc + 1) ls (.int (g x y) :: rest)) → W p l e (x_Rm o) s m args below meth c H locs (x_Cc o) (x_Cs o) Qf (F0 m pc ls (.int y :: .int x :: rest)))
    (h : x_dv g pc f = some (Ps, pc', f')) (k : x_G o M p l e s m args below meth c ad ca D Qf pc' f') : x_G o M p l e s m args below meth c ad ca D Qf pc f := by
  unfold x_dv at h
  split at h
  next y x st heq =>
    cases h
    intro H locs ls hP hS hL
    rw [heq]
    exact row H locs ls _ x y (hp _ List.mem_cons_self) (k H locs ls hP hS hL)
  next => cases h
theorem x_bil_ok {g : Int64 → Int64 → Value} (hv : ∀ x y, x_cv ad (g x y) = g x y)
    (row : ∀ (H : Heap) (locs : List Loc) (ls : Array Slot) (rest : List Value) (x y : Int64), W p l e (x_Rm o) s m args below meth c H locs (x_Cc o) (x_Cs o) Qf (F0 m (pc + 1) ls (g x y :: rest)) → W p l e (x_Rm o) s m args below meth c H locs (x_Cc o) (x_Cs o) Qf (F0 m pc ls (.long y :: .long x :: rest)))
    (h : x_bil g pc f = some (Ps, pc', f')) (k : x_G o M p l e s m args below meth c ad ca D Qf pc' f') : x_G o M p l e s m args below meth c ad ca D Qf pc f := by
  unfold x_bil at h
  split at h
  next y x st heq =>
    cases h
    intro H locs ls hP hS hL
    rw [heq]
    refine row H locs ls _ x y ?_
    have := k H locs ls hP hS hL
    rw [List.map_cons, hv] at this
    exact this
  next => cases h
theorem x_uni_ok {g : Int32 → Value} (hv : ∀ x, x_cv ad (g x) = g x)
    (row : ∀ (H : Heap) (locs : List Loc) (ls : Array Slot) (rest : List Value) (x : Int32), W p l e (x_Rm o) s m args below meth c H locs (x_Cc o) (x_Cs o) Qf (F0 m (pc + 1) ls (g x :: rest)) → W p l e (x_Rm o) s m args below meth c H locs (x_Cc o) (x_Cs o) Qf (F0 m pc ls (.int x :: rest)))
    (h : x_uni g pc f = some (Ps, pc', f')) (k : x_G o M p l e s m args below meth c ad ca D Qf pc' f') : x_G o M p l e s m args below meth c ad ca D Qf pc f := by
  unfold x_uni at h
  split at h
  next x st heq =>
    cases h
    intro H locs ls hP hS hL
    rw [heq]
    refine row H locs ls _ x ?_
    have := k H locs ls hP hS hL
    rw [List.map_cons, hv] at this
    exact this
  next => cases h
theorem x_l2i_ok
    (row : ∀ (H : Heap) (locs : List Loc) (ls : Array Slot) (rest : List Value) (x : Int64), W p l e (x_Rm o) s m args below meth c H locs (x_Cc o) (x_Cs o) Qf (F0 m (pc + 1) ls (.int x.toInt32 :: rest)) → W p l e (x_Rm o) s m args below meth c H locs (x_Cc o) (x_Cs o) Qf (F0 m pc ls (.long x :: rest)))
    (h : x_l2i pc f = some (Ps, pc', f')) (k : x_G o M p l e s m args below meth c ad ca D Qf pc' f') : x_G o M p l e s m args below meth c ad ca D Qf pc f := by
  unfold x_l2i at h
  split at h
  next x st heq =>
    cases h
    intro H locs ls hP hS hL
    rw [heq]
    exact row H locs ls _ x (k H locs ls hP hS hL)
  next => cases h
theorem x_ldi_ok {i n : Nat}
    (row : ∀ (H : Heap) (locs : List Loc) (ls : Array Slot) (rest : List Value) (x : Int32), ls[i]? = some (.val (.int x)) → W p l e (x_Rm o) s m args below meth c H locs (x_Cc o) (x_Cs o) Qf (F0 m n ls (.int x :: rest)) → W p l e (x_Rm o) s m args below meth c H locs (x_Cc o) (x_Cs o) Qf (F0 m pc ls rest))
    (h : x_ldi i n f = some (Ps, pc', f')) (k : x_G o M p l e s m args below meth c ad ca D Qf pc' f') : x_G o M p l e s m args below meth c ad ca D Qf pc f := by
  unfold x_ldi at h
  split at h
  next x heq =>
    cases h
    intro H locs ls hP hS hL
    exact row H locs ls _ x (hL.2.2 _ _ heq) (k H locs ls hP hS hL)
  next => cases h
theorem x_ldl_ok {i n : Nat}
    (row : ∀ (H : Heap) (locs : List Loc) (ls : Array Slot) (rest : List Value) (x : Int64), ls[i]? = some (.val (.long x)) → W p l e (x_Rm o) s m args below meth c H locs (x_Cc o) (x_Cs o) Qf (F0 m n ls (.long x :: rest)) → W p l e (x_Rm o) s m args below meth c H locs (x_Cc o) (x_Cs o) Qf (F0 m pc ls rest))
    (h : x_ldl i n f = some (Ps, pc', f')) (k : x_G o M p l e s m args below meth c ad ca D Qf pc' f') : x_G o M p l e s m args below meth c ad ca D Qf pc f := by
  unfold x_ldl at h
  split at h
  next x heq =>
    cases h
    intro H locs ls hP hS hL
    exact row H locs ls _ x (hL.2.2 _ _ heq) (k H locs ls hP hS hL)
  next => cases h
theorem x_lda_ok {i n : Nat}
    (row : ∀ (H : Heap) (locs : List Loc) (ls : Array Slot) (rest : List Value) (x : Nat), ls[i]? = some (.val (.ref x)) → W p l e (x_Rm o) s m args below meth c H locs (x_Cc o) (x_Cs o) Qf (F0 m n ls (.ref x :: rest)) → W p l e (x_Rm o) s m args below meth c H locs (x_Cc o) (x_Cs o) Qf (F0 m pc ls rest))
    (h : x_lda i n f = some (Ps, pc', f')) (k : x_G o M p l e s m args below meth c ad ca D Qf pc' f') : x_G o M p l e s m args below meth c ad ca D Qf pc f := by
  unfold x_lda at h
  split at h
  next x heq =>
    cases h
    intro H locs ls hP hS hL
    exact row H locs ls _ (ad x) (hL.2.2 _ _ heq) (k H locs ls hP hS hL)
  next => cases h
theorem x_blt {a b : Nat} {P : Bool} (h : (Nat.blt a b && P) = true) : a < b ∧ P = true := by
  rw [Bool.and_eq_true] at h
  exact ⟨Nat.le_of_ble_eq_true h.1, h.2⟩
theorem x_notT {P : Bool} (h : (!P) = true) : P = false := by cases P <;> simp_all
theorem x_sti_ok {i n : Nat}
    (row : ∀ (H : Heap) (locs : List Loc) (ls : Array Slot) (rest : List Value) (x : Int32) (lv lv' : List (Nat × Value)), lv_has ls (xM_maxL M) lv → i < xM_maxL M → (i, Value.int x) :: lv.filter (fun q => !(q.1 == i) && !(q.1 + 1 == i && q.2.category == 2)) = lv' → (∀ ls' : Array Slot, lv_has ls' (xM_maxL M) lv' → W p l e (x_Rm o) s m args below meth c H locs (x_Cc o) (x_Cs o) Qf (F0 m n ls' rest)) → W p l e (x_Rm o) s m args below meth c H locs (x_Cc o) (x_Cs o) Qf (F0 m pc ls (.int x :: rest)))
    (h : x_sti (xM_maxL M) i n f = some (Ps, pc', f')) (k : x_G o M p l e s m args below meth c ad ca D Qf pc' f') : x_G o M p l e s m args below meth c ad ca D Qf pc f := by
  unfold x_sti at h
  split at h
  next x st heq =>
    cases hb : (Nat.blt i (xM_maxL M) && !x_plg f.1 i) with
    | false => rw [hb] at h; cases h
    | true =>
      rw [hb] at h
      cases h
      obtain ⟨hlt, hp⟩ := x_blt hb
      intro H locs ls hP hS hL
      rw [heq]
      exact row H locs ls _ x _ _ hL.has hlt rfl (fun ls' hl => k H locs ls' hP hS (x_L.st1 (v := .int x) (x_notT hp) hl))
  next => cases h
theorem x_sta_ok {i n : Nat}
    (row : ∀ (H : Heap) (locs : List Loc) (ls : Array Slot) (rest : List Value) (x : Nat) (lv lv' : List (Nat × Value)), lv_has ls (xM_maxL M) lv → i < xM_maxL M → (i, Value.ref x) :: lv.filter (fun q => !(q.1 == i) && !(q.1 + 1 == i && q.2.category == 2)) = lv' → (∀ ls' : Array Slot, lv_has ls' (xM_maxL M) lv' → W p l e (x_Rm o) s m args below meth c H locs (x_Cc o) (x_Cs o) Qf (F0 m n ls' rest)) → W p l e (x_Rm o) s m args below meth c H locs (x_Cc o) (x_Cs o) Qf (F0 m pc ls (.ref x :: rest)))
    (h : x_sta (xM_maxL M) i n f = some (Ps, pc', f')) (k : x_G o M p l e s m args below meth c ad ca D Qf pc' f') : x_G o M p l e s m args below meth c ad ca D Qf pc f := by
  unfold x_sta at h
  split at h
  next x st heq =>
    cases hb : (Nat.blt i (xM_maxL M) && !x_plg f.1 i) with
    | false => rw [hb] at h; cases h
    | true =>
      rw [hb] at h
      cases h
      obtain ⟨hlt, hp⟩ := x_blt hb
      intro H locs ls hP hS hL
      rw [heq]
      exact row H locs ls _ (ad x) _ _ hL.has hlt rfl (fun ls' hl => k H locs ls' hP hS (x_L.st1 (v := .ref x) (x_notT hp) hl))
  next => cases h
theorem x_stl_ok {i n : Nat}
    (row : ∀ (H : Heap) (locs : List Loc) (ls : Array Slot) (rest : List Value) (x : Int64) (lv lv' : List (Nat × Value)), lv_has ls (xM_maxL M) lv → i + 1 < xM_maxL M → (i, Value.long x) :: lv.filter (fun q => !(q.1 == i) && (!(q.1 == i + 1) && !(q.1 + 1 == i && q.2.category == 2))) = lv' → (∀ ls' : Array Slot, lv_has ls' (xM_maxL M) lv' → W p l e (x_Rm o) s m args below meth c H locs (x_Cc o) (x_Cs o) Qf (F0 m n ls' rest)) → W p l e (x_Rm o) s m args below meth c H locs (x_Cc o) (x_Cs o) Qf (F0 m pc ls (.long x :: rest)))
    (h : x_stl (xM_maxL M) i n f = some (Ps, pc', f')) (k : x_G o M p l e s m args below meth c ad ca D Qf pc' f') : x_G o M p l e s m args below meth c ad ca D Qf pc f := by
  unfold x_stl at h
  split at h
  next x st heq =>
    cases hb : (Nat.blt (i + 1) (xM_maxL M) && !x_plg f.1 i) with
    | false => rw [hb] at h; cases h
    | true =>
      rw [hb] at h
      cases h
      obtain ⟨hlt, hp⟩ := x_blt hb
      intro H locs ls hP hS hL
      rw [heq]
      exact row H locs ls _ x _ _ hL.has hlt rfl (fun ls' hl => k H locs ls' hP hS (x_L.st2 (v := .long x) (x_notT hp) hl))
  next => cases h
theorem x_inc_ok (hx : p.tables.exec = Jvm.exec) (hb : c.code = xM_code M) {i : Nat} {n : Int} (hd : decode (xM_code M) pc = .ok (.iinc i n, 3))
    (h : x_inc (xM_maxL M) i n pc f = some (Ps, pc', f')) (k : x_G o M p l e s m args below meth c ad ca D Qf pc' f') : x_G o M p l e s m args below meth c ad ca D Qf pc f := by
  unfold x_inc at h
  split at h
  next x heq =>
    cases hb2 : (Nat.blt i (xM_maxL M) && !x_plg f.1 i) with
    | false => rw [hb2] at h; cases h
    | true =>
      rw [hb2] at h
      cases h
      obtain ⟨hlt, hp⟩ := x_blt hb2
      intro H locs ls hP hS hL
      have hm : (i, Value.int x) ∈ x_lvl ad 0 f.1 := (x_lvl_mem ad f.1 0 _).mpr ⟨i, .int x, heq, by rw [Nat.zero_add]; rfl⟩
      obtain ⟨kk, hk⟩ := List.getElem?_of_mem hm
      exact lv_iinc hx hb hd hL.has hk rfl hlt rfl (fun ls' hl => k H locs ls' hP hS (x_L.st1 (v := .int (x + Int32.ofInt n)) (x_notT hp) hl))
  next => cases h
theorem x_oneC {v : Value} (h : x_one v = true) : (x_cv ad v).category = 1 := by rw [x_cv_cat]; exact Nat.eq_of_beq_eq_true h
theorem x_dup_ok (hx : p.tables.exec = Jvm.exec) (hb : c.code = xM_code M) (hd : decode (xM_code M) pc = .ok (.dup, 1))
    (h : x_dup pc f = some (Ps, pc', f')) (k : x_G o M p l e s m args below meth c ad ca D Qf pc' f') : x_G o M p l e s m args below meth c ad ca D Qf pc f := by
  unfold x_dup at h
  split at h
  next a st heq =>
    cases h1 : x_one a with
    | false => rw [h1] at h; cases h
    | true =>
      rw [h1] at h
      cases h
      intro H locs ls hP hS hL
      rw [heq]
      exact lv_dup hx hb hd (x_oneC h1) (k H locs ls hP hS hL)
  next => cases h
theorem x_pop_ok (hx : p.tables.exec = Jvm.exec) (hb : c.code = xM_code M) (hd : decode (xM_code M) pc = .ok (.pop, 1))
    (h : x_pop pc f = some (Ps, pc', f')) (k : x_G o M p l e s m args below meth c ad ca D Qf pc' f') : x_G o M p l e s m args below meth c ad ca D Qf pc f := by
  unfold x_pop at h
  split at h
  next a st heq =>
    cases h1 : x_one a with
    | false => rw [h1] at h; cases h
    | true =>
      rw [h1] at h
      cases h
      intro H locs ls hP hS hL
      rw [heq]
      exact lv_pop hx hb hd (x_oneC h1) (k H locs ls hP hS hL)
  next => cases h
theorem x_dup2_ok (hx : p.tables.exec = Jvm.exec) (hb : c.code = xM_code M) (hd : decode (xM_code M) pc = .ok (.dup2, 1))
    (h : x_dup2 pc f = some (Ps, pc', f')) (k : x_G o M p l e s m args below meth c ad ca D Qf pc' f') : x_G o M p l e s m args below meth c ad ca D Qf pc f := by
  unfold x_dup2 at h
  split at h
  next a b st heq =>
    cases h1 : (x_one a && x_one b) with
    | false => rw [h1] at h; cases h
    | true =>
      rw [h1] at h
      cases h
      rw [Bool.and_eq_true] at h1
      intro H locs ls hP hS hL
      rw [heq]
      exact lv_dup2_11 hx hb hd (x_oneC h1.1) (x_oneC h1.2) (k H locs ls hP hS hL)
  next => cases h
theorem x_dpx_ok (hx : p.tables.exec = Jvm.exec) (hb : c.code = xM_code M) (hd : decode (xM_code M) pc = .ok (.dup_x1, 1))
    (h : x_dpx pc f = some (Ps, pc', f')) (k : x_G o M p l e s m args below meth c ad ca D Qf pc' f') : x_G o M p l e s m args below meth c ad ca D Qf pc f := by
  unfold x_dpx at h
  split at h
  next a b st heq =>
    cases h1 : (x_one a && x_one b) with
    | false => rw [h1] at h; cases h
    | true =>
      rw [h1] at h
      cases h
      rw [Bool.and_eq_true] at h1
      intro H locs ls hP hS hL
      rw [heq]
      exact lv_dup_x1 hx hb hd (x_oneC h1.1) (x_oneC h1.2) (k H locs ls hP hS hL)
  next => cases h
theorem x_ent0 {σ : xSg} {k cI : Nat} {rs : List (Option Nat)} (h : x_sh k = (0, cI, rs)) : x_ent ca ad σ k = .inr (cI, x_fs ad (σ k) 0 rs) := by
  unfold x_ent; rw [h]; rfl
theorem x_ent1 {σ : xSg} {k n : Nat} {rs : List (Option Nat)} (h : x_sh k = (1, n, rs)) : x_ent ca ad σ k = .inl (ca k, n, .inl (σ k)) := by
  unfold x_ent; rw [h]; rfl
theorem x_ent2 {σ : xSg} {k n : Nat} {rs : List (Option Nat)} (h : x_sh k = (2, n, rs)) : x_ent ca ad σ k = .inl (ca k, n, .inl (σ k)) := by
  unfold x_ent; rw [h]; rfl
theorem x_ent3 {σ : xSg} {k n : Nat} {rs : List (Option Nat)} (h : x_sh k = (3, n, rs)) : x_ent ca ad σ k = .inl (ca k, n, .inr (.inr (.inr (.inr (x_rf ad rs))))) := by
  unfold x_ent; rw [h]; rfl
theorem x_gf_ok (X : x_Cx o M p s m args meth c ad ca D) (ok : x_lkok (xM_own M) (xM_lk M)) {idx : Nat} (hd : decode (xM_code M) pc = .ok (.getfield idx, 3))
    (h : x_gf (xM_lk M) idx pc f = some (Ps, pc', f')) (k : x_G o M p l e s m args below meth c ad ca D Qf pc' f') : x_G o M p l e s m args below meth c ad ca D Qf pc f := by
  unfold x_gf at h
  split at h
  next kc st heq =>
    split at h
    next cI i t hlk =>
      obtain ⟨C, T, N, hcl, hiN, hfl, -, -⟩ := ok.1 _ (x_lk_mem hlk)
      dsimp only at hcl hiN hfl
      split at h
      next c2 rs hsh =>
        cases hb : Nat.beq cI c2 with
        | false => rw [hb] at h; cases h
        | true =>
          rw [hb] at h
          have hc2 : cI = c2 := Nat.eq_of_beq_eq_true hb
          subst hc2
          have hk : kc < x_K := x_sh_lt hsh (by decide)
          dsimp only [cond_true] at h
          split at h
          next r hr =>
            cases h
            intro H locs ls hP hS hL
            rw [heq]
            exact va_get X.1 X.2.1 X.2.2.2.2.2.2.1 (x_inCl hcl) X.2.2.2.2.2.1 X.2.2.2.2.2.2.2.1 hP kc (by rw [x_wl_at hk, x_ent0 hsh]) hcl i hiN (X.2.2.2.2.2.2.1 _ hfl) (fun x hx => hx) (x_fs_ref ad _ rs 0 i r hr) hd (k H locs ls hP hS hL)
          next hr =>
            cases h
            intro H locs ls hP hS hL
            rw [heq]
            have hv := x_fs_int ad (f.2.2 kc) rs 0 i hr
            rw [Nat.zero_add] at hv
            exact va_get X.1 X.2.1 X.2.2.2.2.2.2.1 (x_inCl hcl) X.2.2.2.2.2.1 X.2.2.2.2.2.2.2.1 hP kc (by rw [x_wl_at hk, x_ent0 hsh]) hcl i hiN (X.2.2.2.2.2.2.1 _ hfl) (fun x hx => hx) hv hd (k H locs ls hP hS hL)
          next => cases h
      next => cases h
    next => cases h
  next => cases h
theorem x_pfl (X : x_Cx o M p s m args meth c ad ca D) {idx cI i kc : Nat} {C : String} {T : u_T} {N : Nat} {rs : List (Option Nat)} {x : Int32} {ty : FieldType} {rest : List Value} {σ : xSg} {H : Heap} {locs : List Loc} {ls : Array Slot}
    (hd : decode (xM_code M) pc = .ok (.putfield idx, 3)) (hcl : vwCl[cI]? = some (C, T, N)) (hiN : i < N) (hfl : Cond.fieldLink (xM_own M) idx (T i).1 (T i).2.1 (T i).2.2.1 ∈ x_tbl) (hfin : (T i).2.2.2 = false) (hty : parseFieldDescriptor (T i).2.2.1 = some ty) (hn : narrow ty (.int x) = .int x) (hf : fits ty (.int x) = true)
    (hsh : x_sh kc = (0, cI, rs)) (hr : x_nth rs i = some none) (hP : va_P D vwCl (x_wl ca ad σ) H) (hS : va_S (x_A o ad s) s.heap H locs)
    (kk : ∀ (H1 : Heap) (locs1 : List Loc), va_P D vwCl (x_wl ca ad (x_up σ kc (upd (σ kc) i x))) H1 → va_S (x_A o ad s) s.heap H1 locs1 → W p l e (x_Rm o) s m args below meth c H1 locs1 (x_Cc o) (x_Cs o) Qf (F0 m (pc + 3) ls rest)) :
    W p l e (x_Rm o) s m args below meth c H locs (x_Cc o) (x_Cs o) Qf (F0 m pc ls (.int x :: .ref (ad kc) :: rest)) := by
  have hk : kc < x_K := x_sh_lt hsh (by decide)
  obtain ⟨ty0, hty0⟩ := x_tyCl hcl
  refine va_put X.1 X.2.1 X.2.2.2.2.2.2.1 (x_inCl hcl) ty0 hty0 (x_nmCl hcl) X.2.2.2.2.2.1 X.2.2.2.2.2.2.2.1 hP (x_wD X.2.2.2.2.2.2.2.2.2.1 X.2.2.2.2.2.2.2.2.2.2.1) hS kc (by rw [x_wl_at hk, x_ent0 hsh]) hcl i hiN (X.2.2.2.2.2.2.1 _ hfl) (fun x hx => hx) hfin hty hn hf (x_fs_lt ad _ rs 0 i hr) hd ?_
  intro H1 locs1 hP1 hD1 hS1
  refine kk H1 locs1 ?_ hS1
  have hset := x_fs_set ad (σ kc) x rs 0 i hr
  rw [Nat.zero_add] at hset
  rw [x_wl_set (σ' := x_up σ kc (upd (σ kc) i x)) hk (fun j hj => x_up_ne hj) (by rw [x_ent0 hsh, hset, x_up_eq])] at hP1
  exact hP1
theorem x_fitI (x : Int32) : fits .int (.int x) = true := rfl
theorem x_narZ {x : Int32} (h : x = 0 ∨ x = 1) : narrow .boolean (.int x) = .int x ∧ fits .boolean (.int x) = true := by
  rcases h with rfl | rfl <;> exact ⟨by decide +kernel, by decide +kernel⟩
theorem x_pf_ok (X : x_Cx o M p s m args meth c ad ca D) (ok : x_lkok (xM_own M) (xM_lk M)) (hp : ∀ P ∈ Ps, P) {idx : Nat} (hd : decode (xM_code M) pc = .ok (.putfield idx, 3))
    (h : x_pf (xM_lk M) idx pc f = some (Ps, pc', f')) (k : x_G o M p l e s m args below meth c ad ca D Qf pc' f') : x_G o M p l e s m args below meth c ad ca D Qf pc f := by
  unfold x_pf at h
  split at h
  next x kc st heq =>
    split at h
    next cI i t hlk =>
      obtain ⟨C, T, N, hcl, hiN, hfl, ht0, ht1⟩ := ok.1 _ (x_lk_mem hlk)
      dsimp only at hcl hiN hfl ht0 ht1
      split at h
      next c2 rs hsh =>
        cases hb : Nat.beq cI c2 with
        | false => rw [hb] at h; cases h
        | true =>
          rw [hb] at h
          have hc2 : cI = c2 := Nat.eq_of_beq_eq_true hb
          subst hc2
          dsimp only [cond_true] at h
          split at h
          next hr =>
            split at h
            next =>
              cases h
              intro H locs ls hP hS hL
              rw [heq]
              obtain ⟨e1, e2⟩ := ht0 rfl
              exact x_pfl X hd hcl hiN hfl e2 (ty := .int) (by rw [e1]; decide +kernel) (vp_nar_int x) (x_fitI x) hsh hr hP hS (fun H1 locs1 hP1 hS1 => k H1 locs1 ls hP1 hS1 hL)
            next =>
              cases h
              intro H locs ls hP hS hL
              rw [heq]
              obtain ⟨e1, e2⟩ := ht1 rfl
              obtain ⟨n1, n2⟩ := x_narZ (hp _ List.mem_cons_self)
              exact x_pfl X hd hcl hiN hfl e2 (ty := .boolean) (by rw [e1]; decide +kernel) n1 n2 hsh hr hP hS (fun H1 locs1 hP1 hS1 => k H1 locs1 ls hP1 hS1 hL)
            next => cases h
          next => cases h
      next => cases h
    next => cases h
  next => cases h
theorem x_gs_ok (X : x_Cx o M p s m args meth c ad ca D) (ok : x_lkok (xM_own M) (xM_lk M)) {idx : Nat} (hd : decode (xM_code M) pc = .ok (.getstatic idx, 3))
    (h : x_gs (xM_lk M) idx pc f = some (Ps, pc', f')) (k : x_G o M p l e s m args below meth c ad ca D Qf pc' f') : x_G o M p l e s m args below meth c ad ca D Qf pc f := by
  unfold x_gs at h
  split at h
  next j hlk =>
    obtain ⟨nm, h1, ⟨lc, h2⟩, h3⟩ := ok.2.1 _ (x_lk_mem hlk)
    cases h
    intro H locs ls hP hS hL
    exact va_gets X.1 X.2.1 ((X.2.2.2.2.2.2.2.2.1 j lc h2).2 nm h1) hS X.2.2.2.2.2.1 (X.2.2.2.2.2.2.1 _ h3) (fun x hx => hx) hd (k H locs ls hP hS hL)
  next => cases h
theorem x_ldc_ok (X : x_Cx o M p s m args meth c ad ca D) (ok : x_lkok (xM_own M) (xM_lk M)) {idx : Nat} (hd : decode (xM_code M) pc = .ok (.ldc idx, 2))
    (h : x_ldc (xM_lk M) idx pc f = some (Ps, pc', f')) (k : x_G o M p l e s m args below meth c ad ca D Qf pc' f') : x_G o M p l e s m args below meth c ad ca D Qf pc f := by
  unfold x_ldc at h
  split at h
  next v hlk =>
    have h1 : Cond.constant (xM_own M) idx v ∈ x_tbl := ok.2.2.1 _ (x_lk_mem hlk)
    cases h
    intro H locs ls hP hS hL
    exact lv_ldc X.1 X.2.1 X.2.2.2.2.2.1 (X.2.2.2.2.2.2.1 _ h1) hd (k H locs ls hP hS hL)
  next => cases h
theorem x_ldw_ok (X : x_Cx o M p s m args meth c ad ca D) (ok : x_lkok (xM_own M) (xM_lk M)) {idx : Nat} (hd : decode (xM_code M) pc = .ok (.ldc_w idx, 3))
    (h : x_ldw (xM_lk M) idx pc f = some (Ps, pc', f')) (k : x_G o M p l e s m args below meth c ad ca D Qf pc' f') : x_G o M p l e s m args below meth c ad ca D Qf pc f := by
  unfold x_ldw at h
  split at h
  next v hlk =>
    have h1 : Cond.constant (xM_own M) idx v ∈ x_tbl := ok.2.2.1 _ (x_lk_mem hlk)
    cases h
    intro H locs ls hP hS hL
    exact lv_ldcw X.1 X.2.1 X.2.2.2.2.2.1 (X.2.2.2.2.2.2.1 _ h1) hd (k H locs ls hP hS hL)
  next => cases h
theorem x_ldc2_ok (X : x_Cx o M p s m args meth c ad ca D) (ok : x_lkok (xM_own M) (xM_lk M)) {idx : Nat} (hd : decode (xM_code M) pc = .ok (.ldc2_w idx, 3))
    (h : x_ldc2 (xM_lk M) idx pc f = some (Ps, pc', f')) (k : x_G o M p l e s m args below meth c ad ca D Qf pc' f') : x_G o M p l e s m args below meth c ad ca D Qf pc f := by
  unfold x_ldc2 at h
  split at h
  next v hlk =>
    have h1 : Cond.constantLong (xM_own M) idx v ∈ x_tbl := ok.2.2.1 _ (x_lk_mem hlk)
    cases h
    intro H locs ls hP hS hL
    exact lv_ldc2 X.1 X.2.1 X.2.2.2.2.2.1 (X.2.2.2.2.2.2.1 _ h1) hd (k H locs ls hP hS hL)
  next => cases h
theorem x_ety1 {k n : Nat} {rs : List (Option Nat)} (h : x_sh k = (1, n, rs)) : x_ety k = .int := by unfold x_ety; rw [h]; rfl
theorem x_ety2 {k n : Nat} {rs : List (Option Nat)} (h : x_sh k = (2, n, rs)) : x_ety k = .boolean := by unfold x_ety; rw [h]; rfl
theorem x_ety3 {k n : Nat} {rs : List (Option Nat)} (h : x_sh k = (3, n, rs)) : x_ety k = .object "LaneLock$Sheet" := by unfold x_ety; rw [h]; rfl
theorem x_ial_ok (X : x_Cx o M p s m args meth c ad ca D) (hp : ∀ P ∈ Ps, P) (hd : decode (xM_code M) pc = .ok (.iaload, 1))
    (h : x_ial o pc f = some (Ps, pc', f')) (k : x_G o M p l e s m args below meth c ad ca D Qf pc' f') : x_G o M p l e s m args below meth c ad ca D Qf pc f := by
  unfold x_ial at h
  split at h
  next i kc st heq =>
    split at h
    next n g hrd =>
      cases h
      have hin := hp _ List.mem_cons_self
      intro H locs ls hP hS hL
      rw [heq]
      unfold x_rd at hrd
      split at hrd
      next n2 rs hsh =>
        cases hrd
        obtain ⟨t0, ht⟩ := x_tys_at ca hsh (by decide) (by decide)
        rw [x_ety1 hsh] at ht
        exact va_iald X.1 X.2.1 X.2.2.2.2.2.2.2.1 hP kc t0 (by rw [x_wl_at (x_sh_lt hsh (by decide)), x_ent1 hsh]) ht hin hd (k H locs ls hP hS hL)
      next =>
        cases h99 : Nat.beq kc 99 with
        | true =>
          rw [h99] at hrd
          have e99 : kc = 99 := Nat.eq_of_beq_eq_true h99
          subst e99
          dsimp only [cond_true] at hrd
          split at hrd
          next n3 xs =>
            cases hrd
            obtain ⟨hX, hlt⟩ : va_X (ad 99) n g s s.heap ∧ ad 99 < s.heap.size := X.2.2.2.2.2.2.2.2.2.2.2
            exact va_sld X.1 X.2.1 hX hlt (A := x_A (.inr (n, g)) ad s) (Nat.not_le.mpr hlt) hS hin hd (k H locs ls hP hS hL)
          next => cases hrd
        | false =>
          rw [h99] at hrd
          dsimp only [cond_false] at hrd
          cases h100 : Nat.ble 100 kc with
          | false => rw [h100] at hrd; cases hrd
          | true =>
            rw [h100] at hrd
            dsimp only [cond_true] at hrd
            split at hrd
            next lc hlc =>
              cases hrd
              have hT := (X.2.2.2.2.2.2.2.2.1 (kc - 100) lc hlc).1
              have e1 : 100 + (kc - 100) = kc := Nat.add_sub_cancel' (Nat.le_of_ble_eq_true h100)
              rw [e1] at hT
              exact va_ti X.1 X.2.1 hT hS hin rfl hd (k H locs ls hP hS hL)
            next => cases hrd
    next => cases h
  next => cases h
theorem x_len_ok (X : x_Cx o M p s m args meth c ad ca D) (hd : decode (xM_code M) pc = .ok (.arraylength, 1))
    (h : x_len o pc f = some (Ps, pc', f')) (k : x_G o M p l e s m args below meth c ad ca D Qf pc' f') : x_G o M p l e s m args below meth c ad ca D Qf pc f := by
  unfold x_len at h
  split at h
  next kc st heq =>
    split at h
    next n g hrd =>
      cases h
      intro H locs ls hP hS hL
      rw [heq]
      unfold x_rd at hrd
      split at hrd
      next n2 rs hsh =>
        cases hrd
        obtain ⟨t0, ht⟩ := x_tys_at ca hsh (by decide) (by decide)
        exact va_alen (x := (n, .inl (f.2.2 kc))) X.1 X.2.1 X.2.2.2.2.2.2.2.1 hP kc t0 (by rw [x_wl_at (x_sh_lt hsh (by decide)), x_ent1 hsh]) ht rfl hd (k H locs ls hP hS hL)
      next =>
        cases h99 : Nat.beq kc 99 with
        | true =>
          rw [h99] at hrd
          have e99 : kc = 99 := Nat.eq_of_beq_eq_true h99
          subst e99
          dsimp only [cond_true] at hrd
          split at hrd
          next n3 xs =>
            cases hrd
            obtain ⟨hX, hlt⟩ : va_X (ad 99) n g s s.heap ∧ ad 99 < s.heap.size := X.2.2.2.2.2.2.2.2.2.2.2
            exact va_slen X.1 X.2.1 hX hlt (A := x_A (.inr (n, g)) ad s) (Nat.not_le.mpr hlt) hS hd (k H locs ls hP hS hL)
          next => cases hrd
        | false =>
          rw [h99] at hrd
          dsimp only [cond_false] at hrd
          cases h100 : Nat.ble 100 kc with
          | false => rw [h100] at hrd; cases hrd
          | true =>
            rw [h100] at hrd
            dsimp only [cond_true] at hrd
            split at hrd
            next lc hlc =>
              cases hrd
              have hT := (X.2.2.2.2.2.2.2.2.1 (kc - 100) lc hlc).1
              have e1 : 100 + (kc - 100) = kc := Nat.add_sub_cancel' (Nat.le_of_ble_eq_true h100)
              rw [e1] at hT
              exact va_tlen X.1 X.2.1 hT hS rfl hd (k H locs ls hP hS hL)
            next => cases hrd
    next => cases h
  next => cases h
theorem x_bal_ok (X : x_Cx o M p s m args meth c ad ca D) (hp : ∀ P ∈ Ps, P) (hd : decode (xM_code M) pc = .ok (.baload, 1))
    (h : x_bal pc f = some (Ps, pc', f')) (k : x_G o M p l e s m args below meth c ad ca D Qf pc' f') : x_G o M p l e s m args below meth c ad ca D Qf pc f := by
  unfold x_bal at h
  split at h
  next i kc st heq =>
    split at h
    next n rs hsh =>
      cases h
      have hin := hp _ List.mem_cons_self
      intro H locs ls hP hS hL
      rw [heq]
      obtain ⟨t0, ht⟩ := x_tys_at ca hsh (by decide) (by decide)
      rw [x_ety2 hsh] at ht
      exact va_zald X.1 X.2.1 X.2.2.2.2.2.2.2.1 hP kc t0 (by rw [x_wl_at (x_sh_lt hsh (by decide)), x_ent2 hsh]) ht hin hd (k H locs ls hP hS hL)
    next => cases h
  next => cases h
theorem x_ias_ok (X : x_Cx o M p s m args meth c ad ca D) (hp : ∀ P ∈ Ps, P) (hd : decode (xM_code M) pc = .ok (.iastore, 1))
    (h : x_ias pc f = some (Ps, pc', f')) (k : x_G o M p l e s m args below meth c ad ca D Qf pc' f') : x_G o M p l e s m args below meth c ad ca D Qf pc f := by
  unfold x_ias at h
  split at h
  next x i kc st heq =>
    split at h
    next n rs hsh =>
      cases h
      have hin := hp _ List.mem_cons_self
      intro H locs ls hP hS hL
      rw [heq]
      have hk : kc < x_K := x_sh_lt hsh (by decide)
      obtain ⟨t0, ht⟩ := x_tys_at ca hsh (by decide) (by decide)
      rw [x_ety1 hsh] at ht
      refine va_iast X.1 X.2.1 X.2.2.2.2.2.2.2.1 hP (x_wD X.2.2.2.2.2.2.2.2.2.1 X.2.2.2.2.2.2.2.2.2.2.1) hS kc t0 (by rw [x_wl_at hk, x_ent1 hsh]) ht hin hd ?_
      intro H1 locs1 hP1 hD1 hS1
      rw [x_wl_set (σ' := x_up f.2.2 kc (upd (f.2.2 kc) i.toNatClampNeg x)) hk (fun j hj => x_up_ne hj) (by rw [x_ent1 hsh, x_up_eq])] at hP1
      exact k H1 locs1 ls hP1 hS1 hL
    next => cases h
  next => cases h
theorem x_narB {x : Int32} (h : x = 0 ∨ x = 1) : vp_nar .boolean x = x := by rcases h with rfl | rfl <;> decide +kernel
theorem x_bas_ok (X : x_Cx o M p s m args meth c ad ca D) (hp : ∀ P ∈ Ps, P) (hd : decode (xM_code M) pc = .ok (.bastore, 1))
    (h : x_bas pc f = some (Ps, pc', f')) (k : x_G o M p l e s m args below meth c ad ca D Qf pc' f') : x_G o M p l e s m args below meth c ad ca D Qf pc f := by
  unfold x_bas at h
  split at h
  next x i kc st heq =>
    split at h
    next n rs hsh =>
      cases h
      have hin := hp _ List.mem_cons_self
      have hz := hp _ (List.mem_cons_of_mem _ List.mem_cons_self)
      intro H locs ls hP hS hL
      rw [heq]
      have hk : kc < x_K := x_sh_lt hsh (by decide)
      obtain ⟨t0, ht⟩ := x_tys_at ca hsh (by decide) (by decide)
      rw [x_ety2 hsh] at ht
      refine va_zast X.1 X.2.1 X.2.2.2.2.2.2.2.1 hP (x_wD X.2.2.2.2.2.2.2.2.2.1 X.2.2.2.2.2.2.2.2.2.2.1) hS kc t0 (by rw [x_wl_at hk, x_ent2 hsh]) ht hin hd ?_
      intro H1 locs1 hP1 hD1 hS1
      rw [x_narB hz] at hP1
      rw [x_wl_set (σ' := x_up f.2.2 kc (upd (f.2.2 kc) i.toNatClampNeg x)) hk (fun j hj => x_up_ne hj) (by rw [x_ent2 hsh, x_up_eq])] at hP1
      exact k H1 locs1 ls hP1 hS1 hL
    next => cases h
  next => cases h
theorem x_aal_ok (X : x_Cx o M p s m args meth c ad ca D) (hp : ∀ P ∈ Ps, P) (hd : decode (xM_code M) pc = .ok (.aaload, 1))
    (h : x_aal pc f = some (Ps, pc', f')) (k : x_G o M p l e s m args below meth c ad ca D Qf pc' f') : x_G o M p l e s m args below meth c ad ca D Qf pc f := by
  unfold x_aal at h
  split at h
  next i kc st heq =>
    split at h
    next n rs hsh =>
      split at h
      next r hr =>
        cases h
        have hin := hp _ List.mem_cons_self
        intro H locs ls hP hS hL
        rw [heq]
        obtain ⟨t0, ht⟩ := x_tys_at ca hsh (by decide) (by decide)
        rw [x_ety3 hsh] at ht
        refine va_aldq X.1 X.2.1 X.2.2.2.2.2.2.2.1 hP kc t0 (by rw [x_wl_at (x_sh_lt hsh (by decide)), x_ent3 hsh]) ht hin hd ?_
        have e1 : x_rf ad rs i.toNatClampNeg = some (ad r) := by unfold x_rf; rw [hr]; rfl
        rw [e1]
        exact k H locs ls hP hS hL
      next => cases h
    next => cases h
  next => cases h
theorem x_nat_ok (X : x_Cx o M p s m args meth c ad ca D) (ok : x_lkok (xM_own M) (xM_lk M)) (hp : ∀ P ∈ Ps, P) {idx : Nat} (hd : decode (xM_code M) pc = .ok (.invokestatic idx, 3))
    (h : x_nat o (xM_lk M) idx pc f = some (Ps, pc', f')) (k : x_G o M p l e s m args below meth c ad ca D Qf pc' f') : x_G o M p l e s m args below meth c ad ca D Qf pc f := by
  have catm : ∀ st : List Value, ((st.map (x_cv ad)).map fun v => v.category).sum = x_cat st := by
    intro st
    unfold x_cat
    congr 1
    rw [List.map_map]
    exact List.map_congr_left (fun v _ => x_cv_cat ad v)
  unfold x_nat at h
  split at h
  next d =>
    have hfr : 1 ≤ (x_Rm (.inl (d + 1))).frames := by show 1 ≤ d + 1; omega
    have hlo : 36 ≤ (x_Rm (.inl (d + 1))).locals := by show 36 ≤ 36 * (d + 1); omega
    split at h
    next hlk =>
      have hl : Cond.methodLink (xM_own M) idx Lib.Math.max.name ∈ x_tbl := ok.2.2.2 _ (x_lk_mem hlk)
      split at h
      next y x st heq =>
        cases hb : Nat.ble (x_cat st) 8 with
        | false => rw [hb] at h; cases h
        | true =>
          rw [hb] at h
          cases h
          have h8 := Nat.le_of_ble_eq_true hb
          intro H locs ls hP hS hL
          rw [heq]
          exact va_mmax X.1 X.2.1 (X.2.2.1.trans hL.1.symm) X.2.2.2.2.2.1 (X.2.2.2.2.2.2.1 _ hl) (X.2.2.2.2.2.2.1 _ x_w_max.1) (X.2.2.2.2.2.2.1 _ x_w_max.2.1) (X.2.2.2.2.2.2.1 _ x_w_max.2.2) hfr (by rw [catm]; omega) (Nat.zero_le _) (Nat.zero_le _) hd (k H locs ls hP hS hL)
      next => cases h
    next hlk =>
      have hl : Cond.methodLink (xM_own M) idx Lib.Math.min.name ∈ x_tbl := ok.2.2.2 _ (x_lk_mem hlk)
      split at h
      next y x st heq =>
        cases hb : Nat.ble (x_cat st) 8 with
        | false => rw [hb] at h; cases h
        | true =>
          rw [hb] at h
          cases h
          have h8 := Nat.le_of_ble_eq_true hb
          intro H locs ls hP hS hL
          rw [heq]
          exact va_mmin X.1 X.2.1 (X.2.2.1.trans hL.1.symm) X.2.2.2.2.2.1 (X.2.2.2.2.2.2.1 _ hl) (X.2.2.2.2.2.2.1 _ x_w_min.1) (X.2.2.2.2.2.2.1 _ x_w_min.2.1) (X.2.2.2.2.2.2.1 _ x_w_min.2.2) hfr (by rw [catm]; omega) (Nat.zero_le _) (Nat.zero_le _) hd (k H locs ls hP hS hL)
      next => cases h
    next hlk =>
      have hl : Cond.methodLink (xM_own M) idx arraycopyName ∈ x_tbl := ok.2.2.2 _ (x_lk_mem hlk)
      split at h
      next n dp k1 sp k0 st heq =>
        split at h
        next n0 rs0 n1 rs1 hsh0 hsh1 =>
          cases hb : Nat.ble (x_cat st) 8 with
          | false => rw [hb] at h; cases h
          | true =>
            rw [hb] at h
            cases h
            have h8 := Nat.le_of_ble_eq_true hb
            intro H locs ls hP hS hL
            rw [heq]
            have hk0 : k0 < x_K := x_sh_lt hsh0 (by decide)
            have hk1 : k1 < x_K := x_sh_lt hsh1 (by decide)
            obtain ⟨t0, ht0⟩ := x_tys_at ca hsh0 (by decide) (by decide)
            obtain ⟨t1, ht1⟩ := x_tys_at ca hsh1 (by decide) (by decide)
            rw [x_ety1 hsh0] at ht0
            rw [x_ety1 hsh1] at ht1
            have hnf := x_w_nfw
            refine va_copyi X.1 X.2.1 (X.2.2.1.trans hL.1.symm) X.2.2.2.2.2.1 (X.2.2.2.2.2.2.1 _ hl) (X.2.2.2.2.2.2.1 _ x_w_cpy.1) (X.2.2.2.2.2.2.1 _ x_w_cpy.2.1) (X.2.2.2.2.2.2.1 _ x_w_cpy.2.2)
              X.2.2.2.2.2.2.2.1 hP (x_wD X.2.2.2.2.2.2.2.2.2.1 X.2.2.2.2.2.2.2.2.2.2.1) hS k0 k1 t0 t1 (by rw [x_wl_at hk0, x_ent1 hsh0]) (by rw [x_wl_at hk1, x_ent1 hsh1]) ht0 ht1 rfl
              (hp _ (by simp)) (hp _ (by simp)) (hp _ (by simp)) (hp _ (by simp)) (hp _ (by simp)) (fun i _ => rfl) hfr (Nat.le_trans (show _ ≤ 36 by rw [catm]; omega) hlo) hd ?_
            intro H1 locs1 hP1 hD1 hS1
            rw [x_wl_set (σ' := x_up f.2.2 k1 (va_cpy (f.2.2 k0) (f.2.2 k1) sp.toNatClampNeg dp.toNatClampNeg n.toNatClampNeg)) hk1 (fun j hj => x_up_ne hj) (by rw [x_ent1 hsh1, x_up_eq])] at hP1
            exact k H1 locs1 ls hP1 hS1 hL
        next => cases h
      next => cases h
    next => cases h
  next => cases h
theorem x_gt_ok (hx : p.tables.exec = Jvm.exec) (hb : c.code = xM_code M) {off : Int} (hd : decode (xM_code M) pc = .ok (.goto off, 3))
    (h : x_gt off pc f = some (Ps, pc', f')) (k : x_G o M p l e s m args below meth c ad ca D Qf pc' f') : x_G o M p l e s m args below meth c ad ca D Qf pc f := by
  unfold x_gt at h
  split at h
  next t ht =>
    cases h
    intro H locs ls hP hS hL
    exact lv_goto hx hb hd ht (k H locs ls hP hS hL)
  next => cases h
end XS
end
section
/-! the judgement on frames, its rules -/
section XR
variable {o : xO} {M : xM} {p : Program} {l : Launch} {e : Env} {s : State} {m : MethodId} {args : Array Value} {below : List Frame} {meth : Method} {c : Code} {ad : Nat → Nat} {ca : Nat → ClassId} {D : va_G} {Qf : State → Prop}
variable {pc pc' : Nat} {f f' : xF} {Ps : List Prop}
set_option maxHeartbeats 4000000 in
theorem x_stp_ok (X : x_Cx o M p s m args meth c ad ca D) (ok : x_lkok (xM_own M) (xM_lk M)) (hp : ∀ P ∈ Ps, P) {i : Instr} (hd : decode (xM_code M) pc = .ok (i, x_ln i))
    (h : x_stp o (xM_maxL M) (xM_lk M) pc i f = some (Ps, pc', f')) (k : x_G o M p l e s m args below meth c ad ca D Qf pc' f') : x_G o M p l e s m args below meth c ad ca D Qf pc f := by
  have hx := X.1
  have hb := X.2.1
  unfold x_stp at h
  split at h
  · exact x_psh_ok rfl (fun H locs ls rest kk => lv_iconst hx hb hd rfl kk) h k
  · exact x_psh_ok rfl (fun H locs ls rest kk => lv_bipush hx hb hd rfl kk) h k
  · exact x_psh_ok rfl (fun H locs ls rest kk => lv_sipush hx hb hd rfl kk) h k
  · exact x_psh_ok rfl (fun H locs ls rest kk => lv_lconst hx hb hd rfl kk) h k
  · exact x_ldc_ok X ok hd h k
  · exact x_ldw_ok X ok hd h k
  · exact x_ldc2_ok X ok hd h k
  · exact x_ldi_ok (fun H locs ls rest x hl kk => lv_iload hx hb hd hl kk) h k
  · exact x_ldi_ok (fun H locs ls rest x hl kk => lv_iload_n hx hb hd rfl hl kk) h k
  · exact x_ldl_ok (fun H locs ls rest x hl kk => lv_lload hx hb hd hl kk) h k
  · exact x_ldl_ok (fun H locs ls rest x hl kk => lv_lload_n hx hb hd rfl hl kk) h k
  · exact x_lda_ok (fun H locs ls rest x hl kk => lv_aload hx hb hd hl kk) h k
  · exact x_lda_ok (fun H locs ls rest x hl kk => lv_aload_n hx hb hd rfl hl kk) h k
  · exact x_sti_ok (fun H locs ls rest x lv lv' hl hn he kk => lv_istore hx hb hd hl hn he kk) h k
  · exact x_sti_ok (fun H locs ls rest x lv lv' hl hn he kk => lv_istore_n hx hb hd rfl hl hn he kk) h k
  · exact x_stl_ok (fun H locs ls rest x lv lv' hl hn he kk => lv_lstore hx hb hd hl hn he kk) h k
  · exact x_stl_ok (fun H locs ls rest x lv lv' hl hn he kk => lv_lstore_n hx hb hd rfl hl hn he kk) h k
  · exact x_sta_ok (fun H locs ls rest x lv lv' hl hn he kk => lv_astore hx hb hd hl hn he kk) h k
  · exact x_sta_ok (fun H locs ls rest x lv lv' hl hn he kk => lv_astore_n hx hb hd rfl hl hn he kk) h k
  · exact x_inc_ok hx hb hd h k
  · exact x_bin_ok (fun H locs ls rest x y kk => lv_iadd hx hb hd kk) h k
  · exact x_bin_ok (fun H locs ls rest x y kk => lv_isub hx hb hd kk) h k
  · exact x_bin_ok (fun H locs ls rest x y kk => lv_imul hx hb hd kk) h k
  · exact x_bin_ok (fun H locs ls rest x y kk => lv_iand hx hb hd kk) h k
  · exact x_bin_ok (fun H locs ls rest x y kk => lv_ior hx hb hd kk) h k
  · exact x_bin_ok (fun H locs ls rest x y kk => lv_ixor hx hb hd kk) h k
  · exact x_bin_ok (fun H locs ls rest x y kk => lv_ishl hx hb hd kk) h k
  · exact x_bin_ok (fun H locs ls rest x y kk => lv_ishr hx hb hd kk) h k
  · exact x_bin_ok (fun H locs ls rest x y kk => lv_iushr hx hb hd rfl kk) h k
  · exact x_dv_ok hp (fun H locs ls rest x y hy kk => lv_idiv hx hb hd hy kk) h k
  · exact x_dv_ok hp (fun H locs ls rest x y hy kk => lv_irem hx hb hd hy kk) h k
  · exact x_bil_ok (fun _ _ => rfl) (fun H locs ls rest x y kk => lv_ladd hx hb hd kk) h k
  · exact x_bil_ok (fun _ _ => rfl) (fun H locs ls rest x y kk => lv_lmul hx hb hd kk) h k
  · exact x_bil_ok (fun _ _ => rfl) (fun H locs ls rest x y kk => W.lcmp hx hb hd kk) h k
  · exact x_uni_ok (fun _ => rfl) (fun H locs ls rest x kk => lv_i2l hx hb hd rfl kk) h k
  · exact x_uni_ok (fun _ => rfl) (fun H locs ls rest x kk => lv_i2b hx hb hd rfl kk) h k
  · exact x_l2i_ok (fun H locs ls rest x kk => lv_l2i hx hb hd rfl kk) h k
  · exact x_dup_ok hx hb hd h k
  · exact x_pop_ok hx hb hd h k
  · exact x_dup2_ok hx hb hd h k
  · exact x_dpx_ok hx hb hd h k
  · exact x_gf_ok X ok hd h k
  · exact x_pf_ok X ok hp hd h k
  · exact x_gs_ok X ok hd h k
  · exact x_ial_ok X hp hd h k
  · exact x_len_ok X hd h k
  · exact x_bal_ok X hp hd h k
  · exact x_ias_ok X hp hd h k
  · exact x_bas_ok X hp hd h k
  · exact x_aal_ok X hp hd h k
  · exact x_nat_ok X ok hp hd h k
  · exact x_gt_ok hx hb hd h k
  · cases h
theorem x_tbd {M : xM} {pc len : Nat} {i : Instr} (ok : x_ok M) (h : x_lk (xM_tb M) pc = some (i, len)) : decode (xM_code M) pc = .ok (i, len) := ok.2 (pc, i, len) (x_lk_mem h)
theorem x_blk_ok (X : x_Cx o M p s m args meth c ad ca D) (ok : x_ok M) : ∀ (n : Nat) {pc pc' : Nat} {f f' : xF} {Ps : List Prop}, (∀ P ∈ Ps, P) → x_blk o M n pc f = some (Ps, pc', f') → x_G o M p l e s m args below meth c ad ca D Qf pc' f' → x_G o M p l e s m args below meth c ad ca D Qf pc f
  | 0, pc, pc', f, f', Ps, hp, h, k => by
    unfold x_blk at h
    cases h
    exact k
  | n + 1, pc, pc', f, f', Ps, hp, h, k => by
    unfold x_blk at h
    split at h
    next => cases h
    next i len hlk =>
      cases hb : Nat.beq len (x_ln i) with
      | false => rw [hb] at h; cases h
      | true =>
        rw [hb] at h
        have hlen : len = x_ln i := Nat.eq_of_beq_eq_true hb
        subst hlen
        dsimp only [cond_true] at h
        split at h
        next => cases h
        next P pc1 f1 h1 =>
          split at h
          next => cases h
          next Ps2 r h2 =>
            cases h
            exact x_stp_ok X ok.1 (fun Q hQ => hp Q (List.mem_append_left _ hQ)) (x_tbd ok hlk) h1 (x_blk_ok X ok n (fun Q hQ => hp Q (List.mem_append_right _ hQ)) h2 k)
theorem x_conj_all : ∀ {Ps : List Prop}, x_conj Ps → ∀ P ∈ Ps, P
  | [], _, P, hP => by cases hP
  | [a], h, P, hP => by
    rcases List.mem_cons.mp hP with rfl | hP
    · exact h
    · cases hP
  | a :: b :: l, h, P, hP => by
    rcases List.mem_cons.mp hP with rfl | hP
    · exact h.1
    · exact x_conj_all h.2 P hP
theorem x_br_ok (hx : p.tables.exec = Jvm.exec) (hb : c.code = xM_code M) {i : Instr} {P : Prop} {off : Int} {t : Nat} {st' : List Value} (hd : decode (xM_code M) pc = .ok (i, 3)) (h : x_br i f.2.1 = some (P, off, st')) (ht : (pc : Int) + off = (t : Int))
    (kt : P → x_G o M p l e s m args below meth c ad ca D Qf t (f.1, st', f.2.2)) (kf : ¬ P → x_G o M p l e s m args below meth c ad ca D Qf (pc + 3) (f.1, st', f.2.2)) : x_G o M p l e s m args below meth c ad ca D Qf pc f := by
  unfold x_br at h
  split at h
  next k off2 =>
    split at h
    next y x st heq =>
      cases h
      intro H locs ls hP hS hL
      rw [heq]
      cases k with
      | eq => exact lv_icmp_eq hx hb hd ht (fun q => kt q H locs ls hP hS hL) (fun q => kf q H locs ls hP hS hL)
      | ne => exact lv_icmp_ne hx hb hd ht (fun q => kt q H locs ls hP hS hL) (fun q => kf (fun z => z q) H locs ls hP hS hL)
      | lt => exact lv_icmp_lt hx hb hd ht (fun q => kt q H locs ls hP hS hL) (fun q => kf q H locs ls hP hS hL)
      | ge => exact lv_icmp_ge hx hb hd ht (fun q => kt q H locs ls hP hS hL) (fun q => kf q H locs ls hP hS hL)
      | gt => exact lv_icmp_gt hx hb hd ht (fun q => kt q H locs ls hP hS hL) (fun q => kf q H locs ls hP hS hL)
      | le => exact lv_icmp_le hx hb hd ht (fun q => kt q H locs ls hP hS hL) (fun q => kf q H locs ls hP hS hL)
    next => cases h
  next k off2 =>
    split at h
    next x st heq =>
      cases h
      intro H locs ls hP hS hL
      rw [heq]
      cases k with
      | eq => exact lv_if_eq hx hb hd ht (fun q => kt q H locs ls hP hS hL) (fun q => kf q H locs ls hP hS hL)
      | ne => exact lv_if_ne hx hb hd ht (fun q => kt q H locs ls hP hS hL) (fun q => kf (fun z => z q) H locs ls hP hS hL)
      | lt => exact lv_if_lt hx hb hd ht (fun q => kt q H locs ls hP hS hL) (fun q => kf q H locs ls hP hS hL)
      | ge => exact lv_if_ge hx hb hd ht (fun q => kt q H locs ls hP hS hL) (fun q => kf q H locs ls hP hS hL)
      | gt => exact lv_if_gt hx hb hd ht (fun q => kt q H locs ls hP hS hL) (fun q => kf q H locs ls hP hS hL)
      | le => exact lv_if_le hx hb hd ht (fun q => kt q H locs ls hP hS hL) (fun q => kf q H locs ls hP hS hL)
    next => cases h
  next => cases h
end XR
end
section
/-! the judgement -/
def x_Qc (Q : Option Value → xSg → Prop) (ad : Nat → Nat) (ca : Nat → ClassId) (D : va_G) : Array Value → State → Outcome → State → Prop := fun _ st oc t => (∃ (r : Option Value) (σ' : xSg), oc = .returned (r.map (x_cv ad)) ∧ Q r σ' ∧ va_P D vwCl (x_wl ca ad σ') t.heap) ∧ va_F (x_AA ad) st t
def x_fin (o : xO) (Q : Option Value → xSg → Prop) (below : List Frame) (args : Array Value) (s : State) (ad : Nat → Nat) (ca : Nat → ClassId) (D : va_G) : State → Prop := match o with
  | .inl _ => MQ below (x_Qc Q ad ca D) args s 0 0 (x_AA ad)
  | .inr _ => lw_Z below args s
def xEv (o : xO) (M : xM) (Q : Option Value → xSg → Prop) (pc : Nat) (f : xF) : Prop := x_ok M → ∀ (p : Program) (l : Launch) (e : Env) (s : State) (m : MethodId) (args : Array Value) (below : List Frame) (meth : Method) (c : Code) (ad : Nat → Nat) (ca : Nat → ClassId) (D : va_G), x_Cx o M p s m args meth c ad ca D → x_G o M p l e s m args below meth c ad ca D (x_fin o Q below args s ad ca D) pc f
def x_Pre (ad : Nat → Nat) (ca : Nat → ClassId) (D : va_G) (σ : xSg) (U : State) : Prop := va_P D vwCl (x_wl ca ad σ) U.heap ∧ va_K D vwCl (x_tys ca) U ∧ x_Cst ad (x_AA ad) U
def x_ws (M : xM) : List Cond := .code (xM_y M) (xM_code M) (xM_maxL M) (xM_ret M) :: x_tbl
def xCtr (M : xM) (As : List Value) (σ : xSg) (Q : Option Value → xSg → Prop) : Prop := ∀ (l : Launch) (ad : Nat → Nat) (ca : Nat → ClassId) (D : va_G), x_Inj ad → Met l (xM_y M) (x_ws M) (x_Rm (.inl (xM_lev M))) (va_Pc (As.map (x_cv ad)) (x_Pre ad ca D σ)) (x_Qc Q ad ca D) 0 0 (x_AA ad)
section XE
variable {o : xO} {M : xM} {Q : Option Value → xSg → Prop} {pc pc' : Nat} {f f' : xF} {Ps : List Prop}
theorem ev_blk (n : Nat) (Ps : List Prop) (pc' : Nat) (f' : xF) (h : x_blk o M n pc f = some (Ps, pc', f')) (hc : x_conj Ps) (k : xEv o M Q pc' f') : xEv o M Q pc f :=
  fun ok p l e s m args below meth c ad ca D X => x_blk_ok X ok n (x_conj_all hc) h (k ok p l e s m args below meth c ad ca D X)
theorem ev_br (n : Nat) (Ps : List Prop) (P : Prop) (t nx : Nat) (f' : xF) (h : x_bbr o M n pc f = some (Ps, P, t, nx, f')) (hc : x_conj Ps) (kt : P → xEv o M Q t f') (kf : ¬ P → xEv o M Q nx f') : xEv o M Q pc f := by
  intro ok p l e s m args below meth c ad ca D X
  unfold x_bbr at h
  split at h
  next => cases h
  next Ps1 pc1 f1 h1 =>
    split at h
    next => cases h
    next i len hlk =>
      cases hb : Nat.beq len 3 with
      | false => rw [hb] at h; cases h
      | true =>
        rw [hb] at h
        have hlen : len = 3 := Nat.eq_of_beq_eq_true hb
        subst hlen
        dsimp only [cond_true] at h
        split at h
        next => cases h
        next P1 off st h2 =>
          split at h
          next t1 ht =>
            cases h
            exact x_blk_ok X ok n (x_conj_all hc) h1 (x_br_ok X.1 X.2.1 (x_tbd ok hlk) h2 ht (fun q => kt q ok p l e s m args below meth c ad ca D X) (fun q => kf q ok p l e s m args below meth c ad ca D X))
          next => cases h
/-- the end of a method with an int -/
theorem ev_iret {d : Nat} {v : Int32} {ty : FieldType} {L : List (Option Value)} {σ : xSg} (hi : x_lk (xM_tb M) pc = some (.ireturn, 1)) (hr : xM_ret M = some ty) (hn : narrow ty (.int v) = .int v) (hq : Q (some (.int v)) σ) : xEv (.inl d) M Q pc (L, [.int v], σ) := by
  intro ok p l e s m args below meth c ad ca D X H locs ls hP hS hL
  exact W.zret (hlocks := X.2.2.2.2.1) X.1 X.2.1 (X.2.2.2.1.trans hr) hn (fun t ht _ => ⟨⟨some (.int v), σ, rfl, hq, by rw [ht]; exact hP⟩, hS.F ht⟩) hS.2.2 (x_tbd ok hi)
theorem ev_lret {d : Nat} {v : Int64} {L : List (Option Value)} {σ : xSg} (hi : x_lk (xM_tb M) pc = some (.lreturn, 1)) (hr : xM_ret M = some .long) (hq : Q (some (.long v)) σ) : xEv (.inl d) M Q pc (L, [.long v], σ) := by
  intro ok p l e s m args below meth c ad ca D X H locs ls hP hS hL
  exact W.lret (hlocks := X.2.2.2.2.1) X.1 X.2.1 (X.2.2.2.1.trans hr) (fun t ht _ => ⟨⟨some (.long v), σ, rfl, hq, by rw [ht]; exact hP⟩, hS.F ht⟩) hS.2.2 (x_tbd ok hi)
theorem ev_vret {d : Nat} {L : List (Option Value)} {σ : xSg} (hi : x_lk (xM_tb M) pc = some (.return_, 1)) (hr : xM_ret M = none) (hq : Q none σ) : xEv (.inl d) M Q pc (L, [], σ) := by
  intro ok p l e s m args below meth c ad ca D X H locs ls hP hS hL
  exact W.vret (hlocks := X.2.2.2.2.1) X.1 X.2.1 (X.2.2.2.1.trans hr) (fun t ht _ => ⟨⟨none, σ, rfl, hq, by rw [ht]; exact hP⟩, hS.F ht⟩) hS.2.2 (x_tbd ok hi)
/-- from the body to the contract -/
def x_ini : Nat → List Value → List (Option Value)
  | 0, _ => []
  | n + 1, [] => none :: x_ini n []
  | n + 1, v :: vs => some v :: x_ini n vs
theorem x_ini_nil : ∀ (n i : Nat), x_get (x_ini n []) i = none
  | 0, i => by simp [x_ini, x_get]
  | n + 1, 0 => by simp [x_ini, x_get]
  | n + 1, i + 1 => by
    show x_get (x_ini n []) i = none
    exact x_ini_nil n i
theorem x_ini_get (ad : Nat → Nat) : ∀ (n : Nat) (As : List Value) (j i : Nat) (v : Value), (∀ a ∈ As, a.category = 1) → x_get (x_ini n As) i = some v → (j + i, x_cv ad v) ∈ lv_args j (As.map (x_cv ad))
  | 0, _, _, _, _, _, h => by simp [x_ini, x_get] at h
  | n + 1, [], j, i, v, _, h => by rw [x_ini_nil] at h; cases h
  | n + 1, a :: As, j, 0, v, hc, h => by
    simp only [x_ini, x_get, Option.some.injEq] at h
    subst h
    simp [lv_args]
  | n + 1, a :: As, j, i + 1, v, hc, h => by
    have h1 := x_ini_get ad n As (j + 1) i v (fun b hb => hc b (List.mem_cons_of_mem _ hb)) h
    have hca : ¬ (x_cv ad a).category = 2 := by rw [x_cv_cat, hc a List.mem_cons_self]; decide
    simp only [List.map_cons, lv_args, if_neg hca, List.mem_cons]
    exact Or.inr (by rw [show j + (i + 1) = j + 1 + i by omega]; exact h1)
theorem x_sl_len : ∀ (vs : List Value), (∀ a ∈ vs, a.category = 1) → (lg_sl vs).length = vs.length
  | [], _ => rfl
  | a :: vs, h => by
    have h1 := x_sl_len vs (fun b hb => h b (List.mem_cons_of_mem _ hb))
    have h2 : ¬ a.category = 2 := by rw [h a List.mem_cons_self]; decide
    unfold lg_sl at h1 ⊢
    rw [List.flatMap_cons, List.length_append, h1, if_neg h2, List.length_cons]
    simp [Nat.add_comm]
theorem x_Cst.to {ad : Nat → Nat} {A B : Nat → Prop} {u U : State} (h : x_Cst ad A u) (hAB : ∀ q, B q → A q) (hvm : u.vm.Alike U.vm) (hq : ∀ a : Nat, a < u.heap.size → ¬ A a → U.heap[a]? = u.heap[a]?) : x_Cst ad B U := by
  intro j lc hj
  obtain ⟨h1, h2⟩ := h j lc hj
  exact ⟨((h1.kept hq).moved hvm).narrow hAB, fun nm hn => (((h2 nm hn).kept hq).moved hvm).narrow hAB⟩
theorem ctr_of_ev {As : List Value} {σ : xSg} (ok : x_ok M) (hpl : plainName (xM_y M).cls = true) (how : (xM_y M).cls = xM_own M) (hcat : ∀ a ∈ As, a.category = 1) (hlen : As.length ≤ xM_maxL M)
    (h : xEv (.inl (xM_lev M)) M Q 0 (x_ini (xM_maxL M) As, [], σ)) : xCtr M As σ Q := by
  intro l ad ca D hinj
  refine Met.ofW (cc := xM_code M) (maxL := xM_maxL M) (ret := xM_ret M) hpl rfl ?_
  intro p e s m args below meth c s₁ B hml hv
  obtain ⟨rfl, hP, hK, hC⟩ := hv
  have hts := atoms_spec (ws := x_ws M) B.pre
  have hown : s.vm.findClass (xM_own M) = some m.cls := by rw [← how]; exact findClass_of_methodNamed B.named
  have hcat' : ∀ a ∈ As.map (x_cv ad), a.category = 1 := fun a ha => by
    obtain ⟨b, hb, rfl⟩ := List.mem_map.mp ha
    rw [x_cv_cat]
    exact hcat b hb
  have hsl := x_sl_len (As.map (x_cv ad)) hcat'
  have hl := lv_entry (As.map (x_cv ad)) (n := xM_maxL M) (by rw [hsl, List.length_map]; exact hlen)
  have X : x_Cx (.inl (xM_lev M)) M p s m (As.map (x_cv ad)).toArray meth c ad ca D := ⟨B.exec, B.bytes, hml, B.returns, B.notSynchronized, hown, fun w hw => hts w (List.mem_cons_of_mem _ hw), hK, hC, hinj, fun k hk => ⟨k, hk, rfl⟩, trivial⟩
  rw [lg_entry_eq]
  refine h ok p l e s m _ below meth c ad ca D X s.heap [] _ hP va_S.rf ⟨hl.1, hl.2.1, fun i v hi => ?_⟩
  have := hl.2.2 _ (x_ini_get ad (xM_maxL M) As 0 i v hcat hi)
  rwa [Nat.zero_add] at this
/-! calls -/
def x_cal (M : xM) (n : Nat) : Prop := Cond.code (xM_y M) (xM_code M) (xM_maxL M) (xM_ret M) ∈ x_tbl ∧ Cond.initialized (xM_y M).cls ∈ x_tbl ∧ (xM_y M).cls ≠ "java/lang/invoke/MethodHandle" ∧ (xM_y M).cls ≠ "java/lang/invoke/VarHandle" ∧ (parseMethodDescriptor (xM_y M).desc).map (fun d => d.parameters.length) = some n
def x_calV (M : xM) (n : Nat) : Prop := x_cal M n ∧ Cond.instanceMethod (xM_y M) ∈ x_tbl ∧ Cond.selects (xM_y M).cls (xM_y M) (xM_y M) ∈ x_tbl
def x_calS (M : xM) (n : Nat) : Prop := x_cal M n ∧ Cond.static (xM_y M) ∈ x_tbl
def x_fit (o : xO) (lev maxL : Nat) : Bool := Nat.ble (lev + 1) (x_Rm o).frames && Nat.ble (8 + (maxL + 11) + 36 * lev) (x_Rm o).locals
theorem x_wsG (M' : xM) (h : Cond.code (xM_y M') (xM_code M') (xM_maxL M') (xM_ret M') ∈ x_tbl) : GoodIn x_tbl (x_ws M') := by
  intro w hw
  have hm : w ∈ x_tbl := by
    rcases List.mem_cons.mp hw with rfl | hw
    · exact h
    · exact hw
  exact ⟨hm, good_of_word (List.mem_filter.mp hm).2⟩
theorem x_mapcat (ad : Nat → Nat) (st : List Value) : ((st.map (x_cv ad)).map fun v => v.category).sum = x_cat st := by
  unfold x_cat
  congr 1
  rw [List.map_map]
  exact List.map_congr_left (fun v _ => x_cv_cat ad v)
theorem x_AAA (o : xO) {ad : Nat → Nat} {s : State} (h : ∀ k, k < x_K → x_A o ad s (ad k)) : ∀ q, x_AA ad q → x_A o ad s q := by
  rintro q ⟨k, hk, rfl⟩
  exact h k hk
theorem x_PreU {p : Program} {s : State} {m : MethodId} {args : Array Value} {meth : Method} {c : Code} {ad : Nat → Nat} {ca : Nat → ClassId} {D : va_G} {H : Heap} {locs : List Loc} {σ : xSg} (X : x_Cx o M p s m args meth c ad ca D) (hP : va_P D vwCl (x_wl ca ad σ) H) (hS : va_S (x_A o ad s) s.heap H locs) {U : State} (hU : U.heap = H) (hW : s.WarmedH U.vm) : x_Pre ad ca D σ U :=
  ⟨by rw [hU]; exact hP, va_K.moved hW.alike X.2.2.2.2.2.2.2.1, X.2.2.2.2.2.2.2.2.1.to (x_AAA o X.2.2.2.2.2.2.2.2.2.2.1) hW.alike (fun a h1 h2 => by rw [hU]; exact hS.2.1 a h1 h2)⟩
theorem x_blind {As : List Value} {ad : Nat → Nat} {ca : Nat → ClassId} {D : va_G} {σ : xSg} : FrameBlind (va_Pc As (x_Pre ad ca D σ)) := fun a U g mk q => by
  obtain ⟨h1, hP, hK, hC⟩ := q
  exact ⟨h1, hP, va_K.moved (u := U) (U := U.calling g mk a) (Vm.Alike.refl U.vm) hK, hC.to (fun _ h => h) (Vm.Alike.refl U.vm) (fun _ _ _ => rfl)⟩
theorem x_after {p : Program} {l : Launch} {e : Env} {s : State} {m : MethodId} {args : Array Value} {below : List Frame} {meth : Method} {c : Code} {ad : Nat → Nat} {ca : Nat → ClassId} {D : va_G} {H : Heap} {locs : List Loc} {ls : Array Slot} {Qf : State → Prop} {Q' : Option Value → xSg → Prop} {L : List (Option Value)} {rest st : List Value} {ax : Array Value}
    (X : x_Cx o M p s m args meth c ad ca D) (hS : va_S (x_A o ad s) s.heap H locs) (hL : x_L ad ls (xM_maxL M) L)
    (hr : va_Run p l e (x_Rm o) s m args below meth c H locs (x_Cc o) (x_Cs o) 0 0 (F0 m pc ls st) (rest.map (x_cv ad)) (x_Qc Q' ad ca D ax) (x_AA ad))
    (kk : ∀ (r : Option Value) (σ' : xSg), Q' r σ' → x_G o M p l e s m args below meth c ad ca D Qf (pc + 3) (L, r.toList ++ rest, σ')) : W p l e (x_Rm o) s m args below meth c H locs (x_Cc o) (x_Cs o) Qf (F0 m pc ls st) := by
  intro T hT Xs
  obtain ⟨v, st₀, t, T', Lq, h0, X', hLq, e1, e2, ⟨⟨r, σ', hv, hq, hP'⟩, hz, hk⟩, stp⟩ := hr T hT Xs
  cases hv
  rw [h0] at hz hk
  have hAA := x_AAA o X.2.2.2.2.2.2.2.2.2.2.1
  have hS' : va_S (x_A o ad s) s.heap T'.heap (locs ++ Lq) := ⟨Nat.le_trans hS.1 (by rw [e1]; exact hz), fun q h1 h2 => by
    rw [e1, hk q (Nat.lt_of_lt_of_le h1 hS.1) (fun z => h2 (hAA q z))]
    exact hS.2.1 q h1 h2, fun q hq => by
      rcases List.mem_append.mp hq with h | h
      · exact hS.2.2 q h
      · exact hAA _ (hLq q h)⟩
  obtain ⟨t2, a1, b1⟩ := kk r σ' hq T'.heap (locs ++ Lq) ls (by rw [e1]; exact hP') hS' hL T' rfl X'
  refine ⟨t2, stp t2 ?_, b1⟩
  have e3 : (r.toList ++ rest).map (x_cv ad) = (r.map (x_cv ad)).toList ++ rest.map (x_cv ad) := by cases r <;> simp
  rw [← e3]
  exact a1
theorem x_fitH {o : xO} {lev maxL : Nat} (h : x_fit o lev maxL = true) : lev + 1 ≤ (x_Rm o).frames ∧ 8 + (maxL + 11) + 36 * lev ≤ (x_Rm o).locals := by
  unfold x_fit at h
  rw [Bool.and_eq_true] at h
  exact ⟨Nat.le_of_ble_eq_true h.1, Nat.le_of_ble_eq_true h.2⟩
theorem x_room (o : xO) : x_Cc o + 0 ≤ (x_Rm o).cells ∧ x_Cs o + 0 ≤ (x_Rm o).slots := by
  cases o with
  | inl d => exact ⟨Nat.le_refl _, Nat.le_refl _⟩
  | inr q => exact ⟨Nat.le_of_ble_eq_true rfl, Nat.le_of_ble_eq_true rfl⟩
/-- a call of a method with a receiver -/
theorem ev_callV (M' : xM) (As rest : List Value) (kc : Nat) {idx cI nf n : Nat} {rs : List (Option Nat)} {L : List (Option Value)} {st : List Value} {σ : xSg} {Q' : Option Value → xSg → Prop} {C : String} {T : u_T}
    (hi : x_lk (xM_tb M) pc = some (.invokevirtual idx, 3)) (hst : st = As.reverse ++ .ref kc :: rest) (hl : Cond.methodLink (xM_own M) idx (xM_y M') ∈ x_tbl) (hcal : x_calV M' n) (hn : As.length = n)
    (hsh : x_sh kc = (0, cI, rs)) (hcl : vwCl[cI]? = some (C, T, nf)) (hC : (xM_y M').cls = C) (hcat : Nat.ble (x_cat rest) 8 = true) (hfit : x_fit o (xM_lev M') (xM_maxL M') = true)
    (hct : xCtr M' (.ref kc :: As) σ Q') (kk : ∀ (r : Option Value) (σ' : xSg), Q' r σ' → xEv o M Q (pc + 3) (L, r.toList ++ rest, σ')) : xEv o M Q pc (L, st, σ) := by
  intro ok p l e s m args below meth c ad ca D X H locs ls hP hS hL
  obtain ⟨⟨c1, c2, c3, c4, c5⟩, c6, c7⟩ := hcal
  obtain ⟨f1, f2⟩ := x_fitH hfit
  have hts := X.2.2.2.2.2.2.1
  have hk : kc < x_K := x_sh_lt hsh (by decide)
  have cw : CallW (x_Rm o) s args (xM_own M) C idx (xM_y M') (xM_code M') (xM_maxL M') (xM_ret M') (x_ws M') (x_Rm (.inl (xM_lev M'))) 0 0 n :=
    ⟨callB_of n hts (x_wsG M' c1) rfl rfl rfl (hts _ c2) (hts _ hl) ⟨c3, c4, c5⟩ ⟨f1, f2⟩, hts _ c6, by rw [← hC]; exact hts _ c7⟩
  have hmap : (st.map (x_cv ad)) = (As.map (x_cv ad)).reverse ++ .ref (ad kc) :: rest.map (x_cv ad) := by
    rw [hst, List.map_append, List.map_reverse, List.map_cons]
    rfl
  refine x_after X hS hL (va_runV (As := As.map (x_cv ad)) (rest := rest.map (x_cv ad)) (b := ad kc) (C := C) ⟨X.1, X.2.1, X.2.2.1, X.2.2.2.2.2.1, hts⟩ (hct l ad ca D X.2.2.2.2.2.2.2.2.2.1) cw
    ⟨x_blind, va_recv X.2.2.2.2.2.2.2.1 hP (q0 := kc) hcl (by rw [x_wl_at hk, x_ent0 hsh]), fun U hU hW => ⟨rfl, x_PreU X hP hS hU hW⟩⟩ rfl (by rw [List.length_map]; exact hn) hL.1 hmap (lv_room (by rw [x_mapcat]; exact Nat.le_of_ble_eq_true hcat)) (x_tbd ok hi) (x_room o)) ?_
  intro r σ' hq
  exact kk r σ' hq ok p l e s m args below meth c ad ca D X
/-- a call of a static method -/
theorem ev_callS (M' : xM) (As rest : List Value) {idx n : Nat} {L : List (Option Value)} {st : List Value} {σ : xSg} {Q' : Option Value → xSg → Prop}
    (hi : x_lk (xM_tb M) pc = some (.invokestatic idx, 3)) (hst : st = As.reverse ++ rest) (hl : Cond.methodLink (xM_own M) idx (xM_y M') ∈ x_tbl) (hcal : x_calS M' n) (hn : As.length = n)
    (hcat : Nat.ble (x_cat rest) 8 = true) (hfit : x_fit o (xM_lev M') (xM_maxL M') = true)
    (hct : xCtr M' As σ Q') (kk : ∀ (r : Option Value) (σ' : xSg), Q' r σ' → xEv o M Q (pc + 3) (L, r.toList ++ rest, σ')) : xEv o M Q pc (L, st, σ) := by
  intro ok p l e s m args below meth c ad ca D X H locs ls hP hS hL
  obtain ⟨⟨c1, c2, c3, c4, c5⟩, c6⟩ := hcal
  obtain ⟨f1, f2⟩ := x_fitH hfit
  have hts := X.2.2.2.2.2.2.1
  have cw : CallB (x_Rm o) s args (xM_own M) idx (xM_y M') (xM_code M') (xM_maxL M') (xM_ret M') (x_ws M') (x_Rm (.inl (xM_lev M'))) 0 0 n ∧ (Cond.static (xM_y M')).before args s = true :=
    ⟨callB_of n hts (x_wsG M' c1) rfl rfl rfl (hts _ c2) (hts _ hl) ⟨c3, c4, c5⟩ ⟨f1, f2⟩, hts _ c6⟩
  have hmap : (st.map (x_cv ad)) = (As.map (x_cv ad)).reverse ++ rest.map (x_cv ad) := by
    rw [hst, List.map_append, List.map_reverse]
  refine x_after X hS hL (va_runS (As := As.map (x_cv ad)) (rest := rest.map (x_cv ad)) ⟨X.1, X.2.1, X.2.2.1, X.2.2.2.2.2.1, hts⟩ (hct l ad ca D X.2.2.2.2.2.2.2.2.2.1) cw
    ⟨x_blind, fun U hU hW => ⟨rfl, x_PreU X hP hS hU hW⟩⟩ rfl (by rw [List.length_map]; exact hn) hL.1 hmap (lv_room (by rw [x_mapcat]; exact Nat.le_of_ble_eq_true hcat)) (x_tbd ok hi) (x_room o)) ?_
  intro r σ' hq
  exact kk r σ' hq ok p l e s m args below meth c ad ca D X
end XE
/-! switches -/
def x_prs (pc : Nat) : Int → List Int → Option (List (Int32 × Nat))
  | _, [] => some []
  | v, off :: l => match (pc : Int) + off with
    | .ofNat t => match x_prs pc (v + 1) l with
      | some r => some ((Int32.ofInt v, t) :: r)
      | none => none
    | _ => none
def x_chn (x : Int32) : List (Int32 × Nat) → Nat → (Nat → Prop) → Prop
  | [], d, E => E d
  | (v, t) :: l, d, E => (x = v → E t) ∧ (¬ x = v → x_chn x l d E)
def x_lks (pc : Nat) : List (Int × Int) → Option (List (Int32 × Nat))
  | [] => some []
  | (v, off) :: l => match (pc : Int) + off with
    | .ofNat t => match x_lks pc l with
      | some r => some ((Int32.ofInt v, t) :: r)
      | none => none
    | _ => none
def x_bsw (o : xO) (M : xM) (n pc : Nat) (f : xF) : Option (List Prop × Int32 × List (Int32 × Nat) × Nat × xF) := match x_blk o M n pc f with
  | none => none
  | some (Ps, pc', f') => match f'.2.1 with
    | .int x :: st => match x_lk (xM_tb M) pc' with
      | some (.tableswitch d lo hi offs, _) => bif decide (-2147483648 ≤ lo) && decide (hi < 2147483648) && decide (hi + 1 = lo + (offs.toList.length : Int)) then (match (pc' : Int) + d with
        | .ofNat td => match x_prs pc' lo offs.toList with
          | some r => some (Ps, x, r, td, (f'.1, st, f'.2.2))
          | none => none
        | _ => none) else none
      | some (.lookupswitch d ps, _) => bif ((ps.toList.zip (ps.toList.drop 1)).all (fun (a, next) => a.1 < next.1)) && ps.toList.all (fun a => decide (-2147483648 ≤ a.1) && decide (a.1 < 2147483648)) then (match (pc' : Int) + d with
        | .ofNat td => match x_lks pc' ps.toList with
          | some r => some (Ps, x, r, td, (f'.1, st, f'.2.2))
          | none => none
        | _ => none) else none
      | _ => none
    | _ => none
theorem x_ofI {x : Int32} {v : Int} (h1 : -2147483648 ≤ v) (h2 : v < 2147483648) : x = Int32.ofInt v ↔ x.toInt = v := by
  have hv : (Int32.ofInt v).toInt = v := Int32.toInt_ofInt_of_le (by omega) (by omega)
  constructor
  · intro h; rw [h]; exact hv
  · intro h; exact Int32.toInt_inj.mp (by rw [h, hv])
theorem x_prs_in {pc : Nat} {x : Int32} {E : Nat → Prop} : ∀ {offs : List Int} {v : Int} {r : List (Int32 × Nat)} {d : Nat}, -2147483648 ≤ v → v + offs.length ≤ 2147483648 → x_prs pc v offs = some r → x_chn x r d E →
    (∀ (j : Nat) (off : Int), offs[j]? = some off → x.toInt = v + j → ∃ t : Nat, (pc : Int) + off = (t : Int) ∧ E t) ∧ ((x.toInt < v ∨ v + offs.length ≤ x.toInt) → E d)
  | [], v, r, d, _, _, h, k => by
    unfold x_prs at h
    cases h
    exact ⟨fun j off hj => by simp at hj, fun _ => k⟩
  | off :: l, v, r, d, h1, h2, h, k => by
    unfold x_prs at h
    split at h
    next t ht =>
      split at h
      next r2 hr2 =>
        cases h
        simp only [List.length_cons, Int.natCast_add, Int.natCast_one] at h2
        obtain ⟨k1, k2⟩ := k
        have hv : x = Int32.ofInt v ↔ x.toInt = v := x_ofI h1 (by omega)
        refine ⟨fun j off' hj hx => ?_, fun hx => ?_⟩
        · cases j with
          | zero =>
            simp only [List.getElem?_cons_zero, Option.some.injEq] at hj
            subst hj
            exact ⟨t, ht, k1 (hv.mpr (by rw [hx]; simp))⟩
          | succ j =>
            have hne : ¬ x = Int32.ofInt v := fun q => by
              have := hv.mp q
              rw [this] at hx
              simp at hx
              omega
            exact (x_prs_in (by omega) (by omega) hr2 (k2 hne)).1 j off' (by simpa using hj) (by rw [hx]; simp; omega)
        · simp only [List.length_cons, Int.natCast_add, Int.natCast_one] at hx
          have hne : ¬ x = Int32.ofInt v := fun q => by
            have := hv.mp q
            omega
          exact (x_prs_in (by omega) (by omega) hr2 (k2 hne)).2 (by omega)
      next => cases h
    next => cases h
theorem x_lks_in {pc : Nat} {x : Int32} {E : Nat → Prop} {dflt : Int} {d : Nat} (hd : (pc : Int) + dflt = (d : Int)) : ∀ {ps : List (Int × Int)} {r : List (Int32 × Nat)}, (ps.all (fun a => decide (-2147483648 ≤ a.1) && decide (a.1 < 2147483648)) = true) → x_lks pc ps = some r → x_chn x r d E → ∃ t : Nat, (pc : Int) + Op.lookupswitch.offset ps dflt x.toInt = (t : Int) ∧ E t
  | [], r, _, h, k => by
    unfold x_lks at h
    cases h
    exact ⟨d, hd, k⟩
  | (v, off) :: l, r, ha, h, k => by
    simp only [List.all_cons, Bool.and_eq_true, decide_eq_true_eq] at ha
    unfold x_lks at h
    split at h
    next t ht =>
      split at h
      next r2 hr2 =>
        cases h
        obtain ⟨k1, k2⟩ := k
        have hv : x = Int32.ofInt v ↔ x.toInt = v := x_ofI ha.1.1 ha.1.2
        by_cases hx : x.toInt = v
        · refine ⟨t, ?_, k1 (hv.mpr hx)⟩
          show (pc : Int) + (if v = x.toInt then off else Op.lookupswitch.offset l dflt x.toInt) = (t : Int)
          rw [if_pos hx.symm]
          exact ht
        · obtain ⟨t2, a1, a2⟩ := x_lks_in hd (by simpa using ha.2) hr2 (k2 (fun q => hx (hv.mp q)))
          refine ⟨t2, ?_, a2⟩
          show (pc : Int) + (if v = x.toInt then off else Op.lookupswitch.offset l dflt x.toInt) = (t2 : Int)
          rw [if_neg (Ne.symm hx)]
          exact a1
      next => cases h
    next => cases h
section XW
variable {o : xO} {M : xM} {Q : Option Value → xSg → Prop} {pc : Nat} {f : xF}
theorem ev_sw (n : Nat) (Ps : List Prop) (x : Int32) (r : List (Int32 × Nat)) (d : Nat) (f' : xF) (h : x_bsw o M n pc f = some (Ps, x, r, d, f')) (hc : x_conj Ps) (k : x_chn x r d (fun t => xEv o M Q t f')) : xEv o M Q pc f := by
  intro ok p l e s m args below meth c ad ca D X
  unfold x_bsw at h
  split at h
  next => cases h
  next Ps1 pc1 f1 h1 =>
    split at h
    next x1 st heq =>
      split at h
      next d1 lo hi offs len hlk =>
        cases hb : (decide (-2147483648 ≤ lo) && decide (hi < 2147483648) && decide (hi + 1 = lo + (offs.toList.length : Int))) with
        | false => rw [hb] at h; cases h
        | true =>
          rw [hb] at h
          simp only [Bool.and_eq_true, decide_eq_true_eq] at hb
          obtain ⟨⟨b1, b2⟩, b3⟩ := hb
          dsimp only [cond_true] at h
          split at h
          next td htd =>
            split at h
            next r1 hr1 =>
              cases h
              refine x_blk_ok X ok n (x_conj_all hc) h1 ?_
              intro H locs ls hP hS hL
              rw [heq]
              have hd := x_tbd ok hlk
              obtain ⟨g1, g2⟩ := x_prs_in b1 (by omega) hr1 k
              by_cases hout : x.toInt < lo ∨ hi < x.toInt
              · exact lv_tableOut X.1 X.2.1 hd hout htd (g2 (by omega) ok p l e s m args below meth c ad ca D X H locs ls hP hS hL)
              · have h3 : ¬ x.toInt < lo := fun q => hout (Or.inl q)
                have h4 : ¬ hi < x.toInt := fun q => hout (Or.inr q)
                have hj : (x.toInt - lo).toNat < offs.toList.length := by omega
                have hjo : offs.toList[(x.toInt - lo).toNat]? = some offs.toList[(x.toInt - lo).toNat] := List.getElem?_eq_getElem hj
                obtain ⟨t, ht, hE⟩ := g1 (x.toInt - lo).toNat _ hjo (by omega)
                exact lv_tableIn X.1 X.2.1 hd h3 h4 (by rw [← Array.getElem?_toList]; exact hjo) ht (hE ok p l e s m args below meth c ad ca D X H locs ls hP hS hL)
            next => cases h
          next => cases h
      next d1 ps len hlk =>
        cases hb : (((ps.toList.zip (ps.toList.drop 1)).all (fun (a, next) => a.1 < next.1)) && ps.toList.all (fun a => decide (-2147483648 ≤ a.1) && decide (a.1 < 2147483648))) with
        | false => rw [hb] at h; cases h
        | true =>
          rw [hb] at h
          rw [Bool.and_eq_true] at hb
          dsimp only [cond_true] at h
          split at h
          next td htd =>
            split at h
            next r1 hr1 =>
              cases h
              refine x_blk_ok X ok n (x_conj_all hc) h1 ?_
              intro H locs ls hP hS hL
              rw [heq]
              have hd := x_tbd ok hlk
              obtain ⟨t, ht, hE⟩ := x_lks_in htd hb.2 hr1 k
              exact lv_lookup X.1 X.2.1 hd hb.1 rfl ht (hE ok p l e s m args below meth c ad ca D X H locs ls hP hS hL)
            next => cases h
          next => cases h
      next => cases h
    next => cases h
end XW
end
