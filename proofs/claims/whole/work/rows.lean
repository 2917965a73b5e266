section
-- ===== PART A: goes FIRST, ahead of the names: the tables' words, and 'selects' of the private methods out of them =====
/-- a private method of a class that the tables say can be made, by its rows of tables_1 -/
def lw_okq (q : MethodName × Nat) : Prop := (q.1.cls ≠ "java/lang/invoke/MethodHandle" ∧ q.1.cls ≠ "java/lang/invoke/VarHandle") ∧ Cond.instantiable q.1.cls q.2 ∈ tables_1 ∧ Cond.privateMethod q.1 ∈ tables_1 ∧ Cond.instanceMethod q.1 ∈ tables_1
theorem lw_p0 : lw_okq (⟨"FareDrops$History", "rowAt", "(I)LFareDrops$Meter;"⟩, 3) := ⟨⟨by decide +kernel, by decide +kernel⟩, List.mem_of_getElem? (i := 169) (by decide +kernel), List.mem_of_getElem? (i := 325) (by decide +kernel), List.mem_of_getElem? (i := 326) (by decide +kernel)⟩
theorem lw_p1 : lw_okq (⟨"FareDrops$Drive", "takeTariff", "(LFareDrops$Tariffs;I)V"⟩, 11) := ⟨⟨by decide +kernel, by decide +kernel⟩, List.mem_of_getElem? (i := 248) (by decide +kernel), List.mem_of_getElem? (i := 429) (by decide +kernel), List.mem_of_getElem? (i := 430) (by decide +kernel)⟩
theorem lw_p2 : lw_okq (⟨"FareDrops$Drive", "runCut", "(II)V"⟩, 11) := ⟨⟨by decide +kernel, by decide +kernel⟩, List.mem_of_getElem? (i := 248) (by decide +kernel), List.mem_of_getElem? (i := 437) (by decide +kernel), List.mem_of_getElem? (i := 438) (by decide +kernel)⟩
theorem lw_p3 : lw_okq (⟨"FareDrops$Drive", "behind", "(I)I"⟩, 11) := ⟨⟨by decide +kernel, by decide +kernel⟩, List.mem_of_getElem? (i := 248) (by decide +kernel), List.mem_of_getElem? (i := 441) (by decide +kernel), List.mem_of_getElem? (i := 442) (by decide +kernel)⟩
theorem lw_p4 : lw_okq (⟨"FareDrops$Drive", "isByWay", "(I)Z"⟩, 11) := ⟨⟨by decide +kernel, by decide +kernel⟩, List.mem_of_getElem? (i := 248) (by decide +kernel), List.mem_of_getElem? (i := 445) (by decide +kernel), List.mem_of_getElem? (i := 446) (by decide +kernel)⟩
theorem lw_p5 : lw_okq (⟨"FareDrops$Drive", "gain", "(I)I"⟩, 11) := ⟨⟨by decide +kernel, by decide +kernel⟩, List.mem_of_getElem? (i := 248) (by decide +kernel), List.mem_of_getElem? (i := 449) (by decide +kernel), List.mem_of_getElem? (i := 450) (by decide +kernel)⟩
theorem lw_p6 : lw_okq (⟨"FareDrops$Drive", "grow", "(IZ)V"⟩, 11) := ⟨⟨by decide +kernel, by decide +kernel⟩, List.mem_of_getElem? (i := 248) (by decide +kernel), List.mem_of_getElem? (i := 453) (by decide +kernel), List.mem_of_getElem? (i := 454) (by decide +kernel)⟩
theorem lw_p7 : lw_okq (⟨"FareDrops", "priceAt", "(III)I"⟩, 6) := ⟨⟨by decide +kernel, by decide +kernel⟩, List.mem_of_getElem? (i := 20) (by decide +kernel), List.mem_of_getElem? (i := 537) (by decide +kernel), List.mem_of_getElem? (i := 538) (by decide +kernel)⟩
theorem lw_p8 : lw_okq (⟨"FareDrops$Orders", "takeLetter", "(C)Z"⟩, 4) := ⟨⟨by decide +kernel, by decide +kernel⟩, List.mem_of_getElem? (i := 226) (by decide +kernel), List.mem_of_getElem? (i := 592) (by decide +kernel), List.mem_of_getElem? (i := 593) (by decide +kernel)⟩
theorem lw_p9 : lw_okq (⟨"FareDrops$Orders", "takeDigit", "(I)Z"⟩, 4) := ⟨⟨by decide +kernel, by decide +kernel⟩, List.mem_of_getElem? (i := 226) (by decide +kernel), List.mem_of_getElem? (i := 679) (by decide +kernel), List.mem_of_getElem? (i := 680) (by decide +kernel)⟩
theorem lw_p10 : lw_okq (⟨"FareDrops$Orders", "mayEnd", "()Z"⟩, 4) := ⟨⟨by decide +kernel, by decide +kernel⟩, List.mem_of_getElem? (i := 226) (by decide +kernel), List.mem_of_getElem? (i := 683) (by decide +kernel), List.mem_of_getElem? (i := 684) (by decide +kernel)⟩
theorem lw_p11 : lw_okq (⟨"FareDrops", "carryOrder", "()I"⟩, 6) := ⟨⟨by decide +kernel, by decide +kernel⟩, List.mem_of_getElem? (i := 20) (by decide +kernel), List.mem_of_getElem? (i := 694) (by decide +kernel), List.mem_of_getElem? (i := 695) (by decide +kernel)⟩
theorem lw_p12 : lw_okq (⟨"FareDropsModel", "record", "()V"⟩, 12) := ⟨⟨by decide +kernel, by decide +kernel⟩, List.mem_of_getElem? (i := 724) (by decide +kernel), List.mem_of_getElem? (i := 783) (by decide +kernel), List.mem_of_getElem? (i := 784) (by decide +kernel)⟩
theorem lw_p13 : lw_okq (⟨"FareDropsModel", "its", "(II)I"⟩, 12) := ⟨⟨by decide +kernel, by decide +kernel⟩, List.mem_of_getElem? (i := 724) (by decide +kernel), List.mem_of_getElem? (i := 794) (by decide +kernel), List.mem_of_getElem? (i := 795) (by decide +kernel)⟩
theorem lw_p14 : lw_okq (⟨"FareDropsModel", "hireIt", "()I"⟩, 12) := ⟨⟨by decide +kernel, by decide +kernel⟩, List.mem_of_getElem? (i := 724) (by decide +kernel), List.mem_of_getElem? (i := 810) (by decide +kernel), List.mem_of_getElem? (i := 811) (by decide +kernel)⟩
theorem lw_p15 : lw_okq (⟨"FareDropsModel", "tariffAt", "(I)I"⟩, 12) := ⟨⟨by decide +kernel, by decide +kernel⟩, List.mem_of_getElem? (i := 724) (by decide +kernel), List.mem_of_getElem? (i := 814) (by decide +kernel), List.mem_of_getElem? (i := 815) (by decide +kernel)⟩
def lw_privs_1 : List (MethodName × Nat) := [(⟨"FareDrops$History", "rowAt", "(I)LFareDrops$Meter;"⟩, 3), (⟨"FareDrops$Drive", "takeTariff", "(LFareDrops$Tariffs;I)V"⟩, 11), (⟨"FareDrops$Drive", "runCut", "(II)V"⟩, 11), (⟨"FareDrops$Drive", "behind", "(I)I"⟩, 11), (⟨"FareDrops$Drive", "isByWay", "(I)Z"⟩, 11), (⟨"FareDrops$Drive", "gain", "(I)I"⟩, 11), (⟨"FareDrops$Drive", "grow", "(IZ)V"⟩, 11), (⟨"FareDrops", "priceAt", "(III)I"⟩, 6), (⟨"FareDrops$Orders", "takeLetter", "(C)Z"⟩, 4), (⟨"FareDrops$Orders", "takeDigit", "(I)Z"⟩, 4), (⟨"FareDrops$Orders", "mayEnd", "()Z"⟩, 4), (⟨"FareDrops", "carryOrder", "()I"⟩, 6), (⟨"FareDropsModel", "record", "()V"⟩, 12), (⟨"FareDropsModel", "its", "(II)I"⟩, 12), (⟨"FareDropsModel", "hireIt", "()I"⟩, 12), (⟨"FareDropsModel", "tariffAt", "(I)I"⟩, 12)]
theorem lw_r1 : ∀ q ∈ lw_privs_1, lw_okq q := List.forall_mem_cons.mpr ⟨lw_p0, List.forall_mem_cons.mpr ⟨lw_p1, List.forall_mem_cons.mpr ⟨lw_p2, List.forall_mem_cons.mpr ⟨lw_p3, List.forall_mem_cons.mpr ⟨lw_p4, List.forall_mem_cons.mpr ⟨lw_p5, List.forall_mem_cons.mpr ⟨lw_p6, List.forall_mem_cons.mpr ⟨lw_p7, List.forall_mem_cons.mpr ⟨lw_p8, List.forall_mem_cons.mpr ⟨lw_p9, List.forall_mem_cons.mpr ⟨lw_p10, List.forall_mem_cons.mpr ⟨lw_p11, List.forall_mem_cons.mpr ⟨lw_p12, List.forall_mem_cons.mpr ⟨lw_p13, List.forall_mem_cons.mpr ⟨lw_p14, List.forall_mem_cons.mpr ⟨lw_p15, fun _ h => absurd h List.not_mem_nil⟩⟩⟩⟩⟩⟩⟩⟩⟩⟩⟩⟩⟩⟩⟩⟩
theorem lw_p16 : lw_okq (⟨"FareDropsModel", "productOf", "(I)I"⟩, 12) := ⟨⟨by decide +kernel, by decide +kernel⟩, List.mem_of_getElem? (i := 724) (by decide +kernel), List.mem_of_getElem? (i := 818) (by decide +kernel), List.mem_of_getElem? (i := 819) (by decide +kernel)⟩
theorem lw_p17 : lw_okq (⟨"FareDropsModel", "whyNotDrive", "(II)I"⟩, 12) := ⟨⟨by decide +kernel, by decide +kernel⟩, List.mem_of_getElem? (i := 724) (by decide +kernel), List.mem_of_getElem? (i := 826) (by decide +kernel), List.mem_of_getElem? (i := 827) (by decide +kernel)⟩
theorem lw_p18 : lw_okq (⟨"FareDropsModel", "driveIt", "(II)I"⟩, 12) := ⟨⟨by decide +kernel, by decide +kernel⟩, List.mem_of_getElem? (i := 724) (by decide +kernel), List.mem_of_getElem? (i := 833) (by decide +kernel), List.mem_of_getElem? (i := 834) (by decide +kernel)⟩
theorem lw_p19 : lw_okq (⟨"FareDropsModel", "driveSecond", "(I)I"⟩, 12) := ⟨⟨by decide +kernel, by decide +kernel⟩, List.mem_of_getElem? (i := 724) (by decide +kernel), List.mem_of_getElem? (i := 837) (by decide +kernel), List.mem_of_getElem? (i := 838) (by decide +kernel)⟩
theorem lw_p20 : lw_okq (⟨"FareDropsModel", "carry", "(I)V"⟩, 12) := ⟨⟨by decide +kernel, by decide +kernel⟩, List.mem_of_getElem? (i := 724) (by decide +kernel), List.mem_of_getElem? (i := 841) (by decide +kernel), List.mem_of_getElem? (i := 842) (by decide +kernel)⟩
theorem lw_p21 : lw_okq (⟨"FareDropsModel", "whyNotRest", "(I)I"⟩, 12) := ⟨⟨by decide +kernel, by decide +kernel⟩, List.mem_of_getElem? (i := 724) (by decide +kernel), List.mem_of_getElem? (i := 851) (by decide +kernel), List.mem_of_getElem? (i := 852) (by decide +kernel)⟩
theorem lw_p22 : lw_okq (⟨"FareDropsModel", "restIt", "(I)I"⟩, 12) := ⟨⟨by decide +kernel, by decide +kernel⟩, List.mem_of_getElem? (i := 724) (by decide +kernel), List.mem_of_getElem? (i := 855) (by decide +kernel), List.mem_of_getElem? (i := 856) (by decide +kernel)⟩
theorem lw_p23 : lw_okq (⟨"FareDropsModel", "haltIt", "()I"⟩, 12) := ⟨⟨by decide +kernel, by decide +kernel⟩, List.mem_of_getElem? (i := 724) (by decide +kernel), List.mem_of_getElem? (i := 863) (by decide +kernel), List.mem_of_getElem? (i := 864) (by decide +kernel)⟩
theorem lw_p24 : lw_okq (⟨"FareDropsModel", "whyNotExtra", "()I"⟩, 12) := ⟨⟨by decide +kernel, by decide +kernel⟩, List.mem_of_getElem? (i := 724) (by decide +kernel), List.mem_of_getElem? (i := 871) (by decide +kernel), List.mem_of_getElem? (i := 872) (by decide +kernel)⟩
theorem lw_p25 : lw_okq (⟨"FareDropsModel", "extraIt", "()I"⟩, 12) := ⟨⟨by decide +kernel, by decide +kernel⟩, List.mem_of_getElem? (i := 724) (by decide +kernel), List.mem_of_getElem? (i := 875) (by decide +kernel), List.mem_of_getElem? (i := 876) (by decide +kernel)⟩
theorem lw_p26 : lw_okq (⟨"FareDropsModel", "endIt", "()I"⟩, 12) := ⟨⟨by decide +kernel, by decide +kernel⟩, List.mem_of_getElem? (i := 724) (by decide +kernel), List.mem_of_getElem? (i := 883) (by decide +kernel), List.mem_of_getElem? (i := 884) (by decide +kernel)⟩
theorem lw_p27 : lw_okq (⟨"FareDropsModel", "hoursWith", "(I)I"⟩, 12) := ⟨⟨by decide +kernel, by decide +kernel⟩, List.mem_of_getElem? (i := 724) (by decide +kernel), List.mem_of_getElem? (i := 892) (by decide +kernel), List.mem_of_getElem? (i := 893) (by decide +kernel)⟩
theorem lw_p28 : lw_okq (⟨"FareDropsModel", "putAside", "()V"⟩, 12) := ⟨⟨by decide +kernel, by decide +kernel⟩, List.mem_of_getElem? (i := 724) (by decide +kernel), List.mem_of_getElem? (i := 912) (by decide +kernel), List.mem_of_getElem? (i := 913) (by decide +kernel)⟩
theorem lw_p29 : lw_okq (⟨"FareDropsModel", "bringBack", "()V"⟩, 12) := ⟨⟨by decide +kernel, by decide +kernel⟩, List.mem_of_getElem? (i := 724) (by decide +kernel), List.mem_of_getElem? (i := 916) (by decide +kernel), List.mem_of_getElem? (i := 917) (by decide +kernel)⟩
theorem lw_p30 : lw_okq (⟨"FareDropsModel", "costAt", "(III)I"⟩, 12) := ⟨⟨by decide +kernel, by decide +kernel⟩, List.mem_of_getElem? (i := 724) (by decide +kernel), List.mem_of_getElem? (i := 924) (by decide +kernel), List.mem_of_getElem? (i := 925) (by decide +kernel)⟩
theorem lw_p31 : lw_okq (⟨"FareDropsModel", "readPad", "()I"⟩, 12) := ⟨⟨by decide +kernel, by decide +kernel⟩, List.mem_of_getElem? (i := 724) (by decide +kernel), List.mem_of_getElem? (i := 949) (by decide +kernel), List.mem_of_getElem? (i := 950) (by decide +kernel)⟩
def lw_privs_2 : List (MethodName × Nat) := [(⟨"FareDropsModel", "productOf", "(I)I"⟩, 12), (⟨"FareDropsModel", "whyNotDrive", "(II)I"⟩, 12), (⟨"FareDropsModel", "driveIt", "(II)I"⟩, 12), (⟨"FareDropsModel", "driveSecond", "(I)I"⟩, 12), (⟨"FareDropsModel", "carry", "(I)V"⟩, 12), (⟨"FareDropsModel", "whyNotRest", "(I)I"⟩, 12), (⟨"FareDropsModel", "restIt", "(I)I"⟩, 12), (⟨"FareDropsModel", "haltIt", "()I"⟩, 12), (⟨"FareDropsModel", "whyNotExtra", "()I"⟩, 12), (⟨"FareDropsModel", "extraIt", "()I"⟩, 12), (⟨"FareDropsModel", "endIt", "()I"⟩, 12), (⟨"FareDropsModel", "hoursWith", "(I)I"⟩, 12), (⟨"FareDropsModel", "putAside", "()V"⟩, 12), (⟨"FareDropsModel", "bringBack", "()V"⟩, 12), (⟨"FareDropsModel", "costAt", "(III)I"⟩, 12), (⟨"FareDropsModel", "readPad", "()I"⟩, 12)]
theorem lw_r2 : ∀ q ∈ lw_privs_2, lw_okq q := List.forall_mem_cons.mpr ⟨lw_p16, List.forall_mem_cons.mpr ⟨lw_p17, List.forall_mem_cons.mpr ⟨lw_p18, List.forall_mem_cons.mpr ⟨lw_p19, List.forall_mem_cons.mpr ⟨lw_p20, List.forall_mem_cons.mpr ⟨lw_p21, List.forall_mem_cons.mpr ⟨lw_p22, List.forall_mem_cons.mpr ⟨lw_p23, List.forall_mem_cons.mpr ⟨lw_p24, List.forall_mem_cons.mpr ⟨lw_p25, List.forall_mem_cons.mpr ⟨lw_p26, List.forall_mem_cons.mpr ⟨lw_p27, List.forall_mem_cons.mpr ⟨lw_p28, List.forall_mem_cons.mpr ⟨lw_p29, List.forall_mem_cons.mpr ⟨lw_p30, List.forall_mem_cons.mpr ⟨lw_p31, fun _ h => absurd h List.not_mem_nil⟩⟩⟩⟩⟩⟩⟩⟩⟩⟩⟩⟩⟩⟩⟩⟩
theorem lw_p32 : lw_okq (⟨"FareDropsModel", "readOrder", "()V"⟩, 12) := ⟨⟨by decide +kernel, by decide +kernel⟩, List.mem_of_getElem? (i := 724) (by decide +kernel), List.mem_of_getElem? (i := 953) (by decide +kernel), List.mem_of_getElem? (i := 954) (by decide +kernel)⟩
theorem lw_p33 : lw_okq (⟨"FareDropsModel", "letter", "()I"⟩, 12) := ⟨⟨by decide +kernel, by decide +kernel⟩, List.mem_of_getElem? (i := 724) (by decide +kernel), List.mem_of_getElem? (i := 957) (by decide +kernel), List.mem_of_getElem? (i := 958) (by decide +kernel)⟩
theorem lw_p34 : lw_okq (⟨"FareDropsModel", "wants", "(Z)V"⟩, 12) := ⟨⟨by decide +kernel, by decide +kernel⟩, List.mem_of_getElem? (i := 724) (by decide +kernel), List.mem_of_getElem? (i := 961) (by decide +kernel), List.mem_of_getElem? (i := 962) (by decide +kernel)⟩
theorem lw_p35 : lw_okq (⟨"FareDropsModel", "number", "()I"⟩, 12) := ⟨⟨by decide +kernel, by decide +kernel⟩, List.mem_of_getElem? (i := 724) (by decide +kernel), List.mem_of_getElem? (i := 965) (by decide +kernel), List.mem_of_getElem? (i := 966) (by decide +kernel)⟩
theorem lw_p36 : lw_okq (⟨"FareDropsModel", "does", "(I)Z"⟩, 12) := ⟨⟨by decide +kernel, by decide +kernel⟩, List.mem_of_getElem? (i := 724) (by decide +kernel), List.mem_of_getElem? (i := 973) (by decide +kernel), List.mem_of_getElem? (i := 974) (by decide +kernel)⟩
theorem lw_p37 : lw_okq (⟨"FareDropsModel", "whyNot", "(III)I"⟩, 12) := ⟨⟨by decide +kernel, by decide +kernel⟩, List.mem_of_getElem? (i := 724) (by decide +kernel), List.mem_of_getElem? (i := 977) (by decide +kernel), List.mem_of_getElem? (i := 978) (by decide +kernel)⟩
def lw_privs_3 : List (MethodName × Nat) := [(⟨"FareDropsModel", "readOrder", "()V"⟩, 12), (⟨"FareDropsModel", "letter", "()I"⟩, 12), (⟨"FareDropsModel", "wants", "(Z)V"⟩, 12), (⟨"FareDropsModel", "number", "()I"⟩, 12), (⟨"FareDropsModel", "does", "(I)Z"⟩, 12), (⟨"FareDropsModel", "whyNot", "(III)I"⟩, 12)]
theorem lw_r3 : ∀ q ∈ lw_privs_3, lw_okq q := List.forall_mem_cons.mpr ⟨lw_p32, List.forall_mem_cons.mpr ⟨lw_p33, List.forall_mem_cons.mpr ⟨lw_p34, List.forall_mem_cons.mpr ⟨lw_p35, List.forall_mem_cons.mpr ⟨lw_p36, List.forall_mem_cons.mpr ⟨lw_p37, fun _ h => absurd h List.not_mem_nil⟩⟩⟩⟩⟩⟩
def lw_privs : List (MethodName × Nat) := lw_privs_1 ++ (lw_privs_2 ++ (lw_privs_3))
def lw_tbl : List Cond := k2_sels lw_privs ++ tables_1
theorem lw_privs_ok : ∀ q ∈ lw_privs, lw_okq q := by
  show ∀ q ∈ lw_privs_1 ++ (lw_privs_2 ++ (lw_privs_3)), lw_okq q
  exact List.forall_mem_append.mpr ⟨lw_r1, List.forall_mem_append.mpr ⟨lw_r2, lw_r3⟩⟩
end
section
def RX0 : String := "FareDrops$Drive"
def TX0 : u_T := fun k => match k with
  | 0 => ("FareDrops$Drive", "fare", "I", false)
  | 1 => ("FareDrops$Drive", "rest", "I", false)
  | 2 => ("FareDrops$Drive", "measure", "I", false)
  | 3 => ("FareDrops$Drive", "dropsByWay", "I", false)
  | 4 => ("FareDrops$Drive", "dropsByTime", "I", false)
  | 5 => ("FareDrops$Drive", "tellsKinds", "Z", false)
  | 6 => ("FareDrops$Drive", "pulses", "I", false)
  | 7 => ("FareDrops$Drive", "seconds", "I", false)
  | 8 => ("FareDrops$Drive", "drop", "I", false)
  | 9 => ("FareDrops$Drive", "way", "I", false)
  | _ => ("FareDrops$Drive", "time", "I", false)
def tyX0 : Nat → FieldType := fun k => match k with
  | 0 => .int
  | 1 => .int
  | 2 => .int
  | 3 => .int
  | 4 => .int
  | 5 => .boolean
  | 6 => .int
  | 7 => .int
  | 8 => .int
  | 9 => .int
  | _ => .int
abbrev wsX00 : List Cond := u_ws RX0 TX0 11
theorem nmX0 : ∀ a, a < 11 → ∀ b, b < 11 → a ≠ b → (TX0 a).2.1 ≠ (TX0 b).2.1 := by decide +kernel
theorem tyX0_ok : ∀ k, k < 11 → parseFieldDescriptor (TX0 k).2.2.1 = some (tyX0 k) := by decide +kernel
abbrev cX0_init : ByteArray := prog_2_method_1_code
def yX0_init : MethodName := ⟨RX0, "<init>", "()V"⟩
abbrev cX0_startNew : ByteArray := prog_2_method_2_code
def yX0_startNew : MethodName := ⟨RX0, "startNew", "(LFareDrops$Tariffs;I)V"⟩
abbrev cX0_goOnFrom : ByteArray := prog_2_method_3_code
def yX0_goOnFrom : MethodName := ⟨RX0, "goOnFrom", "(LFareDrops$Ride;)V"⟩
abbrev cX0_run : ByteArray := prog_2_method_4_code
def yX0_run : MethodName := ⟨RX0, "run", "(LFareDrops$Tariffs;III)V"⟩
abbrev cX0_takeTariff : ByteArray := prog_2_method_5_code
def yX0_takeTariff : MethodName := ⟨RX0, "takeTariff", "(LFareDrops$Tariffs;I)V"⟩
abbrev cX0_runCut : ByteArray := prog_2_method_6_code
def yX0_runCut : MethodName := ⟨RX0, "runCut", "(II)V"⟩
abbrev cX0_behind : ByteArray := prog_2_method_7_code
def yX0_behind : MethodName := ⟨RX0, "behind", "(I)I"⟩
abbrev cX0_isByWay : ByteArray := prog_2_method_8_code
def yX0_isByWay : MethodName := ⟨RX0, "isByWay", "(I)Z"⟩
abbrev cX0_gain : ByteArray := prog_2_method_9_code
def yX0_gain : MethodName := ⟨RX0, "gain", "(I)I"⟩
abbrev cX0_grow : ByteArray := prog_2_method_10_code
def yX0_grow : MethodName := ⟨RX0, "grow", "(IZ)V"⟩
def RX1 : String := "FareDrops$History"
def TX1 : u_T := fun k => match k with
  | 0 => ("FareDrops$History", "rows", "[LFareDrops$Meter;", true)
  | 1 => ("FareDrops$History", "next", "I", false)
  | _ => ("FareDrops$History", "size", "I", false)
def tyX1 : Nat → FieldType := fun k => match k with
  | 0 => .array (.object "FareDrops$Meter")
  | 1 => .int
  | _ => .int
abbrev wsX10 : List Cond := u_ws RX1 TX1 3
theorem nmX1 : ∀ a, a < 3 → ∀ b, b < 3 → a ≠ b → (TX1 a).2.1 ≠ (TX1 b).2.1 := by decide +kernel
theorem tyX1_ok : ∀ k, k < 3 → parseFieldDescriptor (TX1 k).2.2.1 = some (tyX1 k) := by decide +kernel
abbrev cX1_init : ByteArray := prog_3_method_1_code
def yX1_init : MethodName := ⟨RX1, "<init>", "()V"⟩
abbrev cX1_draft : ByteArray := prog_3_method_2_code
def yX1_draft : MethodName := ⟨RX1, "draft", "(LFareDrops$Meter;)V"⟩
abbrev cX1_settle : ByteArray := prog_3_method_3_code
def yX1_settle : MethodName := ⟨RX1, "settle", "(I)I"⟩
abbrev cX1_takeBack : ByteArray := prog_3_method_4_code
def yX1_takeBack : MethodName := ⟨RX1, "takeBack", "(LFareDrops$Meter;)V"⟩
abbrev cX1_rowAt : ByteArray := prog_3_method_5_code
def yX1_rowAt : MethodName := ⟨RX1, "rowAt", "(I)LFareDrops$Meter;"⟩
def RX2 : String := "FareDrops$Log"
def TX2 : u_T := fun k => match k with
  | 0 => ("FareDrops$Log", "numbers", "[I", true)
  | 1 => ("FareDrops$Log", "next", "I", false)
  | _ => ("FareDrops$Log", "size", "I", false)
def tyX2 : Nat → FieldType := fun k => match k with
  | 0 => .array .int
  | 1 => .int
  | _ => .int
abbrev wsX20 : List Cond := u_ws RX2 TX2 3
theorem nmX2 : ∀ a, a < 3 → ∀ b, b < 3 → a ≠ b → (TX2 a).2.1 ≠ (TX2 b).2.1 := by decide +kernel
theorem tyX2_ok : ∀ k, k < 3 → parseFieldDescriptor (TX2 k).2.2.1 = some (tyX2 k) := by decide +kernel
abbrev cX2_init : ByteArray := prog_4_method_1_code
def yX2_init : MethodName := ⟨RX2, "<init>", "()V"⟩
abbrev cX2_copyFrom : ByteArray := prog_4_method_2_code
def yX2_copyFrom : MethodName := ⟨RX2, "copyFrom", "(LFareDrops$Log;)V"⟩
abbrev cX2_add : ByteArray := prog_4_method_3_code
def yX2_add : MethodName := ⟨RX2, "add", "(LFareDrops$Ride;)V"⟩
abbrev cX2_about : ByteArray := prog_4_method_4_code
def yX2_about : MethodName := ⟨RX2, "about", "(II)I"⟩
def RX3 : String := "FareDrops$Meter"
def TX3 : u_T := fun k => match k with
  | 0 => ("FareDrops$Meter", "tariffs", "LFareDrops$Tariffs;", true)
  | 1 => ("FareDrops$Meter", "ride", "LFareDrops$Ride;", true)
  | 2 => ("FareDrops$Meter", "log", "LFareDrops$Log;", true)
  | 3 => ("FareDrops$Meter", "second", "I", false)
  | 4 => ("FareDrops$Meter", "state", "I", false)
  | 5 => ("FareDrops$Meter", "extraPrice", "I", false)
  | 6 => ("FareDrops$Meter", "ended", "I", false)
  | _ => ("FareDrops$Meter", "income", "I", false)
def tyX3 : Nat → FieldType := fun k => match k with
  | 0 => .object "FareDrops$Tariffs"
  | 1 => .object "FareDrops$Ride"
  | 2 => .object "FareDrops$Log"
  | 3 => .int
  | 4 => .int
  | 5 => .int
  | 6 => .int
  | _ => .int
abbrev wsX30 : List Cond := u_ws RX3 TX3 8
theorem nmX3 : ∀ a, a < 8 → ∀ b, b < 8 → a ≠ b → (TX3 a).2.1 ≠ (TX3 b).2.1 := by decide +kernel
theorem tyX3_ok : ∀ k, k < 8 → parseFieldDescriptor (TX3 k).2.2.1 = some (tyX3 k) := by decide +kernel
abbrev cX3_init : ByteArray := prog_5_method_1_code
def yX3_init : MethodName := ⟨RX3, "<init>", "()V"⟩
abbrev cX3_copyFrom : ByteArray := prog_5_method_2_code
def yX3_copyFrom : MethodName := ⟨RX3, "copyFrom", "(LFareDrops$Meter;)V"⟩
abbrev cX3_beginRide : ByteArray := prog_5_method_3_code
def yX3_beginRide : MethodName := ⟨RX3, "beginRide", "()I"⟩
abbrev cX3_makeDrive : ByteArray := prog_5_method_4_code
def yX3_makeDrive : MethodName := ⟨RX3, "makeDrive", "(LFareDrops$Drive;II)I"⟩
abbrev cX3_letTimePass : ByteArray := prog_5_method_5_code
def yX3_letTimePass : MethodName := ⟨RX3, "letTimePass", "(I)I"⟩
abbrev cX3_turnHalt : ByteArray := prog_5_method_6_code
def yX3_turnHalt : MethodName := ⟨RX3, "turnHalt", "()I"⟩
abbrev cX3_takeExtra : ByteArray := prog_5_method_7_code
def yX3_takeExtra : MethodName := ⟨RX3, "takeExtra", "()I"⟩
abbrev cX3_endRide : ByteArray := prog_5_method_8_code
def yX3_endRide : MethodName := ⟨RX3, "endRide", "()I"⟩
def RX4 : String := "FareDrops$Orders"
def TX4 : u_T := fun k => match k with
  | 0 => ("FareDrops$Orders", "letter", "C", false)
  | 1 => ("FareDrops$Orders", "first", "I", false)
  | 2 => ("FareDrops$Orders", "number", "I", false)
  | _ => ("FareDrops$Orders", "place", "I", false)
def tyX4 : Nat → FieldType := fun k => match k with
  | 0 => .char
  | 1 => .int
  | 2 => .int
  | _ => .int
abbrev wsX40 : List Cond := u_ws RX4 TX4 4
theorem nmX4 : ∀ a, a < 4 → ∀ b, b < 4 → a ≠ b → (TX4 a).2.1 ≠ (TX4 b).2.1 := by decide +kernel
theorem tyX4_ok : ∀ k, k < 4 → parseFieldDescriptor (TX4 k).2.2.1 = some (tyX4 k) := by decide +kernel
abbrev cX4_init : ByteArray := prog_6_method_1_code
def yX4_init : MethodName := ⟨RX4, "<init>", "()V"⟩
abbrev cX4_start : ByteArray := prog_6_method_2_code
def yX4_start : MethodName := ⟨RX4, "start", "()V"⟩
abbrev cX4_faultOf : ByteArray := prog_6_method_3_code
def yX4_faultOf : MethodName := ⟨RX4, "faultOf", "(LFareDrops$Pad;)I"⟩
abbrev cX4_take : ByteArray := prog_6_method_4_code
def yX4_take : MethodName := ⟨RX4, "take", "(C)Z"⟩
abbrev cX4_mayEnd : ByteArray := prog_6_method_5_code
def yX4_mayEnd : MethodName := ⟨RX4, "mayEnd", "()Z"⟩
abbrev cX4_takeLetter : ByteArray := prog_6_method_6_code
def yX4_takeLetter : MethodName := ⟨RX4, "takeLetter", "(C)Z"⟩
abbrev cX4_takeDigit : ByteArray := prog_6_method_7_code
def yX4_takeDigit : MethodName := ⟨RX4, "takeDigit", "(I)Z"⟩
def RX5 : String := "FareDrops$Pad"
def TX5 : u_T := fun k => match k with
  | 0 => ("FareDrops$Pad", "signs", "[C", true)
  | _ => ("FareDrops$Pad", "length", "I", false)
def tyX5 : Nat → FieldType := fun k => match k with
  | 0 => .array .char
  | _ => .int
abbrev wsX50 : List Cond := u_ws RX5 TX5 2
theorem nmX5 : ∀ a, a < 2 → ∀ b, b < 2 → a ≠ b → (TX5 a).2.1 ≠ (TX5 b).2.1 := by decide +kernel
theorem tyX5_ok : ∀ k, k < 2 → parseFieldDescriptor (TX5 k).2.2.1 = some (tyX5 k) := by decide +kernel
abbrev cX5_init : ByteArray := prog_7_method_1_code
def yX5_init : MethodName := ⟨RX5, "<init>", "()V"⟩
abbrev cX5_countOf : ByteArray := prog_7_method_2_code
def yX5_countOf : MethodName := ⟨RX5, "countOf", "(J)I"⟩
abbrev cX5_codeAt : ByteArray := prog_7_method_3_code
def yX5_codeAt : MethodName := ⟨RX5, "codeAt", "(JI)I"⟩
abbrev cX5_append : ByteArray := prog_7_method_4_code
def yX5_append : MethodName := ⟨RX5, "append", "(JI)V"⟩
abbrev cX5_signAt : ByteArray := prog_7_method_5_code
def yX5_signAt : MethodName := ⟨RX5, "signAt", "(I)C"⟩
def RX6 : String := "FareDrops$Ride"
def TX6 : u_T := fun k => match k with
  | 0 => ("FareDrops$Ride", "beganAt", "I", false)
  | 1 => ("FareDrops$Ride", "fare", "I", false)
  | 2 => ("FareDrops$Ride", "extraCoins", "I", false)
  | 3 => ("FareDrops$Ride", "extras", "I", false)
  | 4 => ("FareDrops$Ride", "pulses", "I", false)
  | 5 => ("FareDrops$Ride", "driveSeconds", "I", false)
  | 6 => ("FareDrops$Ride", "haltSeconds", "I", false)
  | 7 => ("FareDrops$Ride", "dropsByWay", "I", false)
  | 8 => ("FareDrops$Ride", "dropsByTime", "I", false)
  | 9 => ("FareDrops$Ride", "rest", "I", false)
  | _ => ("FareDrops$Ride", "measure", "I", false)
def tyX6 : Nat → FieldType := fun k => match k with
  | 0 => .int
  | 1 => .int
  | 2 => .int
  | 3 => .int
  | 4 => .int
  | 5 => .int
  | 6 => .int
  | 7 => .int
  | 8 => .int
  | 9 => .int
  | _ => .int
abbrev wsX60 : List Cond := u_ws RX6 TX6 11
theorem nmX6 : ∀ a, a < 11 → ∀ b, b < 11 → a ≠ b → (TX6 a).2.1 ≠ (TX6 b).2.1 := by decide +kernel
theorem tyX6_ok : ∀ k, k < 11 → parseFieldDescriptor (TX6 k).2.2.1 = some (tyX6 k) := by decide +kernel
abbrev cX6_init : ByteArray := prog_8_method_1_code
def yX6_init : MethodName := ⟨RX6, "<init>", "()V"⟩
abbrev cX6_copyFrom : ByteArray := prog_8_method_2_code
def yX6_copyFrom : MethodName := ⟨RX6, "copyFrom", "(LFareDrops$Ride;)V"⟩
abbrev cX6_startAt : ByteArray := prog_8_method_3_code
def yX6_startAt : MethodName := ⟨RX6, "startAt", "(II)V"⟩
def RX7 : String := "FareDrops$Slots"
def TX7 : u_T := fun k => match k with
  | 0 => ("FareDrops$Slots", "first", "LFareDrops$Meter;", true)
  | 1 => ("FareDrops$Slots", "second", "LFareDrops$Meter;", true)
  | 2 => ("FareDrops$Slots", "firstIsSaved", "Z", false)
  | _ => ("FareDrops$Slots", "secondIsSaved", "Z", false)
def tyX7 : Nat → FieldType := fun k => match k with
  | 0 => .object "FareDrops$Meter"
  | 1 => .object "FareDrops$Meter"
  | 2 => .boolean
  | _ => .boolean
abbrev wsX70 : List Cond := u_ws RX7 TX7 4
theorem nmX7 : ∀ a, a < 4 → ∀ b, b < 4 → a ≠ b → (TX7 a).2.1 ≠ (TX7 b).2.1 := by decide +kernel
theorem tyX7_ok : ∀ k, k < 4 → parseFieldDescriptor (TX7 k).2.2.1 = some (tyX7 k) := by decide +kernel
abbrev cX7_init : ByteArray := prog_9_method_1_code
def yX7_init : MethodName := ⟨RX7, "<init>", "()V"⟩
abbrev cX7_store : ByteArray := prog_9_method_2_code
def yX7_store : MethodName := ⟨RX7, "store", "(ILFareDrops$Meter;)V"⟩
abbrev cX7_fetch : ByteArray := prog_9_method_3_code
def yX7_fetch : MethodName := ⟨RX7, "fetch", "(ILFareDrops$Meter;)I"⟩
def RX8 : String := "FareDrops$Tariffs"
def TX8 : u_T := fun k => match k with
  | 0 => ("FareDrops$Tariffs", "numbers", "[I", true)
  | _ => ("FareDrops$Tariffs", "hours", "[I", true)
def tyX8 : Nat → FieldType := fun k => match k with
  | 0 => .array .int
  | _ => .array .int
abbrev wsX80 : List Cond := u_ws RX8 TX8 2
theorem nmX8 : ∀ a, a < 2 → ∀ b, b < 2 → a ≠ b → (TX8 a).2.1 ≠ (TX8 b).2.1 := by decide +kernel
theorem tyX8_ok : ∀ k, k < 2 → parseFieldDescriptor (TX8 k).2.2.1 = some (tyX8 k) := by decide +kernel
abbrev cX8_init : ByteArray := prog_10_method_1_code
def yX8_init : MethodName := ⟨RX8, "<init>", "()V"⟩
abbrev cX8_copyFrom : ByteArray := prog_10_method_2_code
def yX8_copyFrom : MethodName := ⟨RX8, "copyFrom", "(LFareDrops$Tariffs;)V"⟩
abbrev cX8_about : ByteArray := prog_10_method_3_code
def yX8_about : MethodName := ⟨RX8, "about", "(II)I"⟩
abbrev cX8_change : ByteArray := prog_10_method_4_code
def yX8_change : MethodName := ⟨RX8, "change", "(III)V"⟩
abbrev cX8_ofHour : ByteArray := prog_10_method_5_code
def yX8_ofHour : MethodName := ⟨RX8, "ofHour", "(I)I"⟩
abbrev cX8_ofSecond : ByteArray := prog_10_method_6_code
def yX8_ofSecond : MethodName := ⟨RX8, "ofSecond", "(I)I"⟩
abbrev cX8_giveHour : ByteArray := prog_10_method_7_code
def yX8_giveHour : MethodName := ⟨RX8, "giveHour", "(II)V"⟩
abbrev cX8_hoursOf : ByteArray := prog_10_method_8_code
def yX8_hoursOf : MethodName := ⟨RX8, "hoursOf", "(I)I"⟩
def RX9 : String := "FareDrops"
def TX9 : u_T := fun k => match k with
  | 0 => ("FareDrops", "meter", "LFareDrops$Meter;", true)
  | 1 => ("FareDrops", "history", "LFareDrops$History;", true)
  | 2 => ("FareDrops", "slots", "LFareDrops$Slots;", true)
  | 3 => ("FareDrops", "pad", "LFareDrops$Pad;", true)
  | 4 => ("FareDrops", "orders", "LFareDrops$Orders;", true)
  | _ => ("FareDrops", "drive", "LFareDrops$Drive;", true)
def tyX9 : Nat → FieldType := fun k => match k with
  | 0 => .object "FareDrops$Meter"
  | 1 => .object "FareDrops$History"
  | 2 => .object "FareDrops$Slots"
  | 3 => .object "FareDrops$Pad"
  | 4 => .object "FareDrops$Orders"
  | _ => .object "FareDrops$Drive"
abbrev wsX90 : List Cond := u_ws RX9 TX9 6
theorem nmX9 : ∀ a, a < 6 → ∀ b, b < 6 → a ≠ b → (TX9 a).2.1 ≠ (TX9 b).2.1 := by decide +kernel
theorem tyX9_ok : ∀ k, k < 6 → parseFieldDescriptor (TX9 k).2.2.1 = some (tyX9 k) := by decide +kernel
abbrev cX9_init : ByteArray := prog_1_method_1_code
def yX9_init : MethodName := ⟨RX9, "<init>", "()V"⟩
abbrev cX9_tariff : ByteArray := prog_1_method_2_code
def yX9_tariff : MethodName := ⟨RX9, "tariff", "(IIIII)I"⟩
abbrev cX9_hour : ByteArray := prog_1_method_3_code
def yX9_hour : MethodName := ⟨RX9, "hour", "(II)I"⟩
abbrev cX9_priceOfExtra : ByteArray := prog_1_method_4_code
def yX9_priceOfExtra : MethodName := ⟨RX9, "priceOfExtra", "(I)I"⟩
abbrev cX9_hire : ByteArray := prog_1_method_5_code
def yX9_hire : MethodName := ⟨RX9, "hire", "()I"⟩
abbrev cX9_drive : ByteArray := prog_1_method_6_code
def yX9_drive : MethodName := ⟨RX9, "drive", "(II)I"⟩
abbrev cX9_rest : ByteArray := prog_1_method_7_code
def yX9_rest : MethodName := ⟨RX9, "rest", "(I)I"⟩
abbrev cX9_halt : ByteArray := prog_1_method_8_code
def yX9_halt : MethodName := ⟨RX9, "halt", "()I"⟩
abbrev cX9_extra : ByteArray := prog_1_method_9_code
def yX9_extra : MethodName := ⟨RX9, "extra", "()I"⟩
abbrev cX9_end : ByteArray := prog_1_method_10_code
def yX9_end : MethodName := ⟨RX9, "end", "()I"⟩
abbrev cX9_ofTariff : ByteArray := prog_1_method_11_code
def yX9_ofTariff : MethodName := ⟨RX9, "ofTariff", "(II)I"⟩
abbrev cX9_ride : ByteArray := prog_1_method_12_code
def yX9_ride : MethodName := ⟨RX9, "ride", "(I)I"⟩
abbrev cX9_log : ByteArray := prog_1_method_13_code
def yX9_log : MethodName := ⟨RX9, "log", "(II)I"⟩
abbrev cX9_count : ByteArray := prog_1_method_14_code
def yX9_count : MethodName := ⟨RX9, "count", "(I)I"⟩
abbrev cX9_would : ByteArray := prog_1_method_15_code
def yX9_would : MethodName := ⟨RX9, "would", "(II)I"⟩
abbrev cX9_price : ByteArray := prog_1_method_16_code
def yX9_price : MethodName := ⟨RX9, "price", "(II)I"⟩
abbrev cX9_farthest : ByteArray := prog_1_method_17_code
def yX9_farthest : MethodName := ⟨RX9, "farthest", "(II)I"⟩
abbrev cX9_cheapest : ByteArray := prog_1_method_18_code
def yX9_cheapest : MethodName := ⟨RX9, "cheapest", "(III)I"⟩
abbrev cX9_put : ByteArray := prog_1_method_19_code
def yX9_put : MethodName := ⟨RX9, "put", "(J)I"⟩
abbrev cX9_wipe : ByteArray := prog_1_method_20_code
def yX9_wipe : MethodName := ⟨RX9, "wipe", "()I"⟩
abbrev cX9_fault : ByteArray := prog_1_method_21_code
def yX9_fault : MethodName := ⟨RX9, "fault", "()I"⟩
abbrev cX9_carryOut : ByteArray := prog_1_method_22_code
def yX9_carryOut : MethodName := ⟨RX9, "carryOut", "()I"⟩
abbrev cX9_undo : ByteArray := prog_1_method_23_code
def yX9_undo : MethodName := ⟨RX9, "undo", "()I"⟩
abbrev cX9_save : ByteArray := prog_1_method_24_code
def yX9_save : MethodName := ⟨RX9, "save", "(I)I"⟩
abbrev cX9_restore : ByteArray := prog_1_method_25_code
def yX9_restore : MethodName := ⟨RX9, "restore", "(I)I"⟩
abbrev cX9_priceAt : ByteArray := prog_1_method_26_code
def yX9_priceAt : MethodName := ⟨RX9, "priceAt", "(III)I"⟩
abbrev cX9_carryOrder : ByteArray := prog_1_method_27_code
def yX9_carryOrder : MethodName := ⟨RX9, "carryOrder", "()I"⟩
abbrev cX9_isIn : ByteArray := prog_1_method_28_code
def yX9_isIn : MethodName := ⟨RX9, "isIn", "(III)Z"⟩
abbrev cX9_isDrive : ByteArray := prog_1_method_29_code
def yX9_isDrive : MethodName := ⟨RX9, "isDrive", "(II)Z"⟩
abbrev cX9_at : ByteArray := prog_1_method_30_code
def yX9_at : MethodName := ⟨RX9, "at", "([II)I"⟩
abbrev cX9_setAt : ByteArray := prog_1_method_31_code
def yX9_setAt : MethodName := ⟨RX9, "setAt", "([III)V"⟩
abbrev cX9_copyRow : ByteArray := prog_1_method_32_code
def yX9_copyRow : MethodName := ⟨RX9, "copyRow", "([I[I)V"⟩
def RX10 : String := "FareDropsModel"
def TX10 : u_T := fun k => match k with
  | 0 => ("FareDropsModel", "z", "[I", true)
  | 1 => ("FareDropsModel", "past", "[I", true)
  | 2 => ("FareDropsModel", "slots", "[I", true)
  | 3 => ("FareDropsModel", "isSaved", "[Z", true)
  | 4 => ("FareDropsModel", "pastMany", "I", false)
  | 5 => ("FareDropsModel", "spare", "[I", true)
  | 6 => ("FareDropsModel", "pad", "[C", true)
  | 7 => ("FareDropsModel", "typed", "I", false)
  | 8 => ("FareDropsModel", "orders", "[I", true)
  | 9 => ("FareDropsModel", "orderMany", "I", false)
  | 10 => ("FareDropsModel", "spot", "I", false)
  | _ => ("FareDropsModel", "wrong", "I", false)
def tyX10 : Nat → FieldType := fun k => match k with
  | 0 => .array .int
  | 1 => .array .int
  | 2 => .array .int
  | 3 => .array .boolean
  | 4 => .int
  | 5 => .array .int
  | 6 => .array .char
  | 7 => .int
  | 8 => .array .int
  | 9 => .int
  | 10 => .int
  | _ => .int
abbrev wsX100 : List Cond := u_ws RX10 TX10 12
theorem nmX10 : ∀ a, a < 12 → ∀ b, b < 12 → a ≠ b → (TX10 a).2.1 ≠ (TX10 b).2.1 := by decide +kernel
theorem tyX10_ok : ∀ k, k < 12 → parseFieldDescriptor (TX10 k).2.2.1 = some (tyX10 k) := by decide +kernel
abbrev cX10_init : ByteArray := prog_12_method_1_code
def yX10_init : MethodName := ⟨RX10, "<init>", "()V"⟩
abbrev cX10_in : ByteArray := prog_12_method_2_code
def yX10_in : MethodName := ⟨RX10, "in", "(III)Z"⟩
abbrev cX10_isTariff : ByteArray := prog_12_method_3_code
def yX10_isTariff : MethodName := ⟨RX10, "isTariff", "(I)Z"⟩
abbrev cX10_its : ByteArray := prog_12_method_4_code
def yX10_its : MethodName := ⟨RX10, "its", "(II)I"⟩
abbrev cX10_tariffAt : ByteArray := prog_12_method_5_code
def yX10_tariffAt : MethodName := ⟨RX10, "tariffAt", "(I)I"⟩
abbrev cX10_productOf : ByteArray := prog_12_method_6_code
def yX10_productOf : MethodName := ⟨RX10, "productOf", "(I)I"⟩
abbrev cX10_record : ByteArray := prog_12_method_7_code
def yX10_record : MethodName := ⟨RX10, "record", "()V"⟩
abbrev cX10_undo : ByteArray := prog_12_method_8_code
def yX10_undo : MethodName := ⟨RX10, "undo", "()I"⟩
abbrev cX10_save : ByteArray := prog_12_method_9_code
def yX10_save : MethodName := ⟨RX10, "save", "(I)I"⟩
abbrev cX10_restore : ByteArray := prog_12_method_10_code
def yX10_restore : MethodName := ⟨RX10, "restore", "(I)I"⟩
abbrev cX10_putAside : ByteArray := prog_12_method_11_code
def yX10_putAside : MethodName := ⟨RX10, "putAside", "()V"⟩
abbrev cX10_bringBack : ByteArray := prog_12_method_12_code
def yX10_bringBack : MethodName := ⟨RX10, "bringBack", "()V"⟩
abbrev cX10_tariff : ByteArray := prog_12_method_13_code
def yX10_tariff : MethodName := ⟨RX10, "tariff", "(IIIII)I"⟩
abbrev cX10_hour : ByteArray := prog_12_method_14_code
def yX10_hour : MethodName := ⟨RX10, "hour", "(II)I"⟩
abbrev cX10_priceOfExtra : ByteArray := prog_12_method_15_code
def yX10_priceOfExtra : MethodName := ⟨RX10, "priceOfExtra", "(I)I"⟩
abbrev cX10_hireIt : ByteArray := prog_12_method_16_code
def yX10_hireIt : MethodName := ⟨RX10, "hireIt", "()I"⟩
abbrev cX10_hire : ByteArray := prog_12_method_17_code
def yX10_hire : MethodName := ⟨RX10, "hire", "()I"⟩
abbrev cX10_carry : ByteArray := prog_12_method_18_code
def yX10_carry : MethodName := ⟨RX10, "carry", "(I)V"⟩
abbrev cX10_driveSecond : ByteArray := prog_12_method_19_code
def yX10_driveSecond : MethodName := ⟨RX10, "driveSecond", "(I)I"⟩
abbrev cX10_driveIt : ByteArray := prog_12_method_20_code
def yX10_driveIt : MethodName := ⟨RX10, "driveIt", "(II)I"⟩
abbrev cX10_isDrive : ByteArray := prog_12_method_21_code
def yX10_isDrive : MethodName := ⟨RX10, "isDrive", "(II)Z"⟩
abbrev cX10_whyNotDrive : ByteArray := prog_12_method_22_code
def yX10_whyNotDrive : MethodName := ⟨RX10, "whyNotDrive", "(II)I"⟩
abbrev cX10_drive : ByteArray := prog_12_method_23_code
def yX10_drive : MethodName := ⟨RX10, "drive", "(II)I"⟩
abbrev cX10_whyNotRest : ByteArray := prog_12_method_24_code
def yX10_whyNotRest : MethodName := ⟨RX10, "whyNotRest", "(I)I"⟩
abbrev cX10_restIt : ByteArray := prog_12_method_25_code
def yX10_restIt : MethodName := ⟨RX10, "restIt", "(I)I"⟩
abbrev cX10_rest : ByteArray := prog_12_method_26_code
def yX10_rest : MethodName := ⟨RX10, "rest", "(I)I"⟩
abbrev cX10_haltIt : ByteArray := prog_12_method_27_code
def yX10_haltIt : MethodName := ⟨RX10, "haltIt", "()I"⟩
abbrev cX10_halt : ByteArray := prog_12_method_28_code
def yX10_halt : MethodName := ⟨RX10, "halt", "()I"⟩
abbrev cX10_whyNotExtra : ByteArray := prog_12_method_29_code
def yX10_whyNotExtra : MethodName := ⟨RX10, "whyNotExtra", "()I"⟩
abbrev cX10_extraIt : ByteArray := prog_12_method_30_code
def yX10_extraIt : MethodName := ⟨RX10, "extraIt", "()I"⟩
abbrev cX10_extra : ByteArray := prog_12_method_31_code
def yX10_extra : MethodName := ⟨RX10, "extra", "()I"⟩
abbrev cX10_endIt : ByteArray := prog_12_method_32_code
def yX10_endIt : MethodName := ⟨RX10, "endIt", "()I"⟩
abbrev cX10_end : ByteArray := prog_12_method_33_code
def yX10_end : MethodName := ⟨RX10, "end", "()I"⟩
abbrev cX10_hoursWith : ByteArray := prog_12_method_34_code
def yX10_hoursWith : MethodName := ⟨RX10, "hoursWith", "(I)I"⟩
abbrev cX10_ofTariff : ByteArray := prog_12_method_35_code
def yX10_ofTariff : MethodName := ⟨RX10, "ofTariff", "(II)I"⟩
abbrev cX10_ride : ByteArray := prog_12_method_36_code
def yX10_ride : MethodName := ⟨RX10, "ride", "(I)I"⟩
abbrev cX10_log : ByteArray := prog_12_method_37_code
def yX10_log : MethodName := ⟨RX10, "log", "(II)I"⟩
abbrev cX10_count : ByteArray := prog_12_method_38_code
def yX10_count : MethodName := ⟨RX10, "count", "(I)I"⟩
abbrev cX10_would : ByteArray := prog_12_method_39_code
def yX10_would : MethodName := ⟨RX10, "would", "(II)I"⟩
abbrev cX10_costAt : ByteArray := prog_12_method_40_code
def yX10_costAt : MethodName := ⟨RX10, "costAt", "(III)I"⟩
abbrev cX10_price : ByteArray := prog_12_method_41_code
def yX10_price : MethodName := ⟨RX10, "price", "(II)I"⟩
abbrev cX10_farthest : ByteArray := prog_12_method_42_code
def yX10_farthest : MethodName := ⟨RX10, "farthest", "(II)I"⟩
abbrev cX10_cheapest : ByteArray := prog_12_method_43_code
def yX10_cheapest : MethodName := ⟨RX10, "cheapest", "(III)I"⟩
abbrev cX10_put : ByteArray := prog_12_method_44_code
def yX10_put : MethodName := ⟨RX10, "put", "(J)I"⟩
abbrev cX10_wipe : ByteArray := prog_12_method_45_code
def yX10_wipe : MethodName := ⟨RX10, "wipe", "()I"⟩
abbrev cX10_letter : ByteArray := prog_12_method_46_code
def yX10_letter : MethodName := ⟨RX10, "letter", "()I"⟩
abbrev cX10_wants : ByteArray := prog_12_method_47_code
def yX10_wants : MethodName := ⟨RX10, "wants", "(Z)V"⟩
abbrev cX10_number : ByteArray := prog_12_method_48_code
def yX10_number : MethodName := ⟨RX10, "number", "()I"⟩
abbrev cX10_readOrder : ByteArray := prog_12_method_49_code
def yX10_readOrder : MethodName := ⟨RX10, "readOrder", "()V"⟩
abbrev cX10_readPad : ByteArray := prog_12_method_50_code
def yX10_readPad : MethodName := ⟨RX10, "readPad", "()I"⟩
abbrev cX10_fault : ByteArray := prog_12_method_51_code
def yX10_fault : MethodName := ⟨RX10, "fault", "()I"⟩
abbrev cX10_whyNot : ByteArray := prog_12_method_52_code
def yX10_whyNot : MethodName := ⟨RX10, "whyNot", "(III)I"⟩
abbrev cX10_does : ByteArray := prog_12_method_53_code
def yX10_does : MethodName := ⟨RX10, "does", "(I)Z"⟩
abbrev cX10_carryOut : ByteArray := prog_12_method_54_code
def yX10_carryOut : MethodName := ⟨RX10, "carryOut", "()I"⟩
def RJ11 : String := "java/lang/Character"
def TJ11 : u_T := fun k => match k with
  | _ => ("", "", "", false)
def tyJ11 : Nat → FieldType := fun k => match k with
  | _ => .int
abbrev wsJ110 : List Cond := u_ws RJ11 TJ11 0
theorem nmJ11 : ∀ a, a < 0 → ∀ b, b < 0 → a ≠ b → (TJ11 a).2.1 ≠ (TJ11 b).2.1 := by decide +kernel
theorem tyJ11_ok : ∀ k, k < 0 → parseFieldDescriptor (TJ11 k).2.2.1 = some (tyJ11 k) := by decide +kernel
abbrev cJ11_isValidCodePoint_9a6ad : ByteArray := prog_13_method_11_code
def yJ11_isValidCodePoint_9a6ad : MethodName := ⟨RJ11, "isValidCodePoint", "(I)Z"⟩
abbrev cJ11_highSurrogate_5068e : ByteArray := prog_13_method_28_code
def yJ11_highSurrogate_5068e : MethodName := ⟨RJ11, "highSurrogate", "(I)C"⟩
abbrev cJ11_lowSurrogate_5068e : ByteArray := prog_13_method_29_code
def yJ11_lowSurrogate_5068e : MethodName := ⟨RJ11, "lowSurrogate", "(I)C"⟩
def RJ9 : String := "java/lang/Math"
def TJ9 : u_T := fun k => match k with
  | _ => ("", "", "", false)
def tyJ9 : Nat → FieldType := fun k => match k with
  | _ => .int
abbrev wsJ90 : List Cond := u_ws RJ9 TJ9 0
theorem nmJ9 : ∀ a, a < 0 → ∀ b, b < 0 → a ≠ b → (TJ9 a).2.1 ≠ (TJ9 b).2.1 := by decide +kernel
theorem tyJ9_ok : ∀ k, k < 0 → parseFieldDescriptor (TJ9 k).2.2.1 = some (tyJ9 k) := by decide +kernel
abbrev cJ9_max_7cf53 : ByteArray := prog_14_method_65_code
def yJ9_max_7cf53 : MethodName := ⟨RJ9, "max", "(II)I"⟩
abbrev cJ9_min_7cf53 : ByteArray := prog_14_method_69_code
def yJ9_min_7cf53 : MethodName := ⟨RJ9, "min", "(II)I"⟩
def RJ0 : String := "java/lang/String"
def TJ0 : u_T := fun k => match k with
  | _ => ("", "", "", false)
def tyJ0 : Nat → FieldType := fun k => match k with
  | _ => .int
abbrev wsJ00 : List Cond := u_ws RJ0 TJ0 0
theorem nmJ0 : ∀ a, a < 0 → ∀ b, b < 0 → a ≠ b → (TJ0 a).2.1 ≠ (TJ0 b).2.1 := by decide +kernel
theorem tyJ0_ok : ∀ k, k < 0 → parseFieldDescriptor (TJ0 k).2.2.1 = some (tyJ0 k) := by decide +kernel
abbrev cJ0_length_8abf5 : ByteArray := prog_15_method_54_code
def yJ0_length_8abf5 : MethodName := ⟨RJ0, "length", "()I"⟩
abbrev cJ0_indexOf_0f7a4 : ByteArray := prog_15_method_79_code
def yJ0_indexOf_0f7a4 : MethodName := ⟨RJ0, "indexOf", "(I)I"⟩
abbrev cJ0_indexOf_7cf53 : ByteArray := prog_15_method_80_code
def yJ0_indexOf_7cf53 : MethodName := ⟨RJ0, "indexOf", "(II)I"⟩
abbrev cJ0_coder_7d493 : ByteArray := prog_15_method_152_code
def yJ0_coder_7d493 : MethodName := ⟨RJ0, "coder", "()B"⟩
abbrev cJ0_isLatin1_aae02 : ByteArray := prog_15_method_154_code
def yJ0_isLatin1_aae02 : MethodName := ⟨RJ0, "isLatin1", "()Z"⟩
abbrev cJ0_checkBoundsBeginEnd_23922 : ByteArray := prog_15_method_158_code
def yJ0_checkBoundsBeginEnd_23922 : MethodName := ⟨RJ0, "checkBoundsBeginEnd", "(III)V"⟩
def RJ1 : String := "java/lang/StringLatin1"
def TJ1 : u_T := fun k => match k with
  | _ => ("", "", "", false)
def tyJ1 : Nat → FieldType := fun k => match k with
  | _ => .int
abbrev wsJ10 : List Cond := u_ws RJ1 TJ1 0
theorem nmJ1 : ∀ a, a < 0 → ∀ b, b < 0 → a ≠ b → (TJ1 a).2.1 ≠ (TJ1 b).2.1 := by decide +kernel
theorem tyJ1_ok : ∀ k, k < 0 → parseFieldDescriptor (TJ1 k).2.2.1 = some (tyJ1 k) := by decide +kernel
abbrev cJ1_canEncode_9a6ad : ByteArray := prog_16_method_4_code
def yJ1_canEncode_9a6ad : MethodName := ⟨RJ1, "canEncode", "(I)Z"⟩
abbrev cJ1_indexOf_4cfef : ByteArray := prog_16_method_22_code
def yJ1_indexOf_4cfef : MethodName := ⟨RJ1, "indexOf", "([BIII)I"⟩
abbrev cJ1_indexOfChar_4cfef : ByteArray := prog_16_method_23_code
def yJ1_indexOfChar_4cfef : MethodName := ⟨RJ1, "indexOfChar", "([BIII)I"⟩
def RJ2 : String := "java/lang/StringUTF16"
def TJ2 : u_T := fun k => match k with
  | _ => ("", "", "", false)
def tyJ2 : Nat → FieldType := fun k => match k with
  | _ => .int
abbrev wsJ20 : List Cond := u_ws RJ2 TJ2 0
theorem nmJ2 : ∀ a, a < 0 → ∀ b, b < 0 → a ≠ b → (TJ2 a).2.1 ≠ (TJ2 b).2.1 := by decide +kernel
theorem tyJ2_ok : ∀ k, k < 0 → parseFieldDescriptor (TJ2 k).2.2.1 = some (tyJ2 k) := by decide +kernel
abbrev cJ2_getChar_3b067 : ByteArray := prog_17_method_5_code
def yJ2_getChar_3b067 : MethodName := ⟨RJ2, "getChar", "([BI)C"⟩
abbrev cJ2_length_9d52b : ByteArray := prog_17_method_6_code
def yJ2_length_9d52b : MethodName := ⟨RJ2, "length", "([B)I"⟩
abbrev cJ2_indexOf_4cfef : ByteArray := prog_17_method_40_code
def yJ2_indexOf_4cfef : MethodName := ⟨RJ2, "indexOf", "([BIII)I"⟩
abbrev cJ2_indexOfChar_4cfef : ByteArray := prog_17_method_47_code
def yJ2_indexOfChar_4cfef : MethodName := ⟨RJ2, "indexOfChar", "([BIII)I"⟩
abbrev cJ2_indexOfCharUnsafe_4cfef : ByteArray := prog_17_method_48_code
def yJ2_indexOfCharUnsafe_4cfef : MethodName := ⟨RJ2, "indexOfCharUnsafe", "([BIII)I"⟩
abbrev cJ2_indexOfSupplementary_4cfef : ByteArray := prog_17_method_49_code
def yJ2_indexOfSupplementary_4cfef : MethodName := ⟨RJ2, "indexOfSupplementary", "([BIII)I"⟩
abbrev cJ2_checkBoundsBeginEnd_d044e : ByteArray := prog_17_method_93_code
def yJ2_checkBoundsBeginEnd_d044e : MethodName := ⟨RJ2, "checkBoundsBeginEnd", "(II[B)V"⟩
def RJ10 : String := "java/lang/System"
def TJ10 : u_T := fun k => match k with
  | _ => ("", "", "", false)
def tyJ10 : Nat → FieldType := fun k => match k with
  | _ => .int
abbrev wsJ100 : List Cond := u_ws RJ10 TJ10 0
theorem nmJ10 : ∀ a, a < 0 → ∀ b, b < 0 → a ≠ b → (TJ10 a).2.1 ≠ (TJ10 b).2.1 := by decide +kernel
theorem tyJ10_ok : ∀ k, k < 0 → parseFieldDescriptor (TJ10 k).2.2.1 = some (tyJ10 k) := by decide +kernel
def RJ3 : String := "jdk/internal/util/Preconditions"
def TJ3 : u_T := fun k => match k with
  | _ => ("", "", "", false)
def tyJ3 : Nat → FieldType := fun k => match k with
  | _ => .int
abbrev wsJ30 : List Cond := u_ws RJ3 TJ3 0
theorem nmJ3 : ∀ a, a < 0 → ∀ b, b < 0 → a ≠ b → (TJ3 a).2.1 ≠ (TJ3 b).2.1 := by decide +kernel
theorem tyJ3_ok : ∀ k, k < 0 → parseFieldDescriptor (TJ3 k).2.2.1 = some (tyJ3 k) := by decide +kernel
abbrev cJ3_checkFromToIndex_8c36e : ByteArray := prog_19_method_12_code
def yJ3_checkFromToIndex_8c36e : MethodName := ⟨RJ3, "checkFromToIndex", "(IIILjava/util/function/BiFunction;)I"⟩
def RL : String := "FareDropsLaw"
abbrev cL_law : ByteArray := code
def yL_law : MethodName := ⟨RL, "law", "([I)Z"⟩
theorem inJ11 : ∀ w ∈ wsJ110, w ∈ lw_tbl := by decide +kernel
theorem inJ9 : ∀ w ∈ wsJ90, w ∈ lw_tbl := by decide +kernel
theorem inJ0 : ∀ w ∈ wsJ00, w ∈ lw_tbl := by decide +kernel
theorem inJ1 : ∀ w ∈ wsJ10, w ∈ lw_tbl := by decide +kernel
theorem inJ2 : ∀ w ∈ wsJ20, w ∈ lw_tbl := by decide +kernel
theorem inJ10 : ∀ w ∈ wsJ100, w ∈ lw_tbl := by decide +kernel
theorem inJ3 : ∀ w ∈ wsJ30, w ∈ lw_tbl := by decide +kernel
abbrev vwCl : List vw_C := [(RX0, TX0, 11), (RX1, TX1, 3), (RX2, TX2, 3), (RX3, TX3, 8), (RX4, TX4, 4), (RX5, TX5, 2), (RX6, TX6, 11), (RX7, TX7, 4), (RX8, TX8, 2), (RX9, TX9, 6), (RX10, TX10, 12)]
end
section
theorem dX0_init_0 : decode cX0_init 0 = .ok (.aload_n 0, 1) := by decide +kernel
theorem dX0_init_1 : decode cX0_init 1 = .ok (.invokespecial 3, 3) := by decide +kernel
theorem dX0_init_4 : decode cX0_init 4 = .ok (.return_, 1) := by decide +kernel
theorem dX0_startNew_0 : decode cX0_startNew 0 = .ok (.aload_n 0, 1) := by decide +kernel
theorem dX0_startNew_1 : decode cX0_startNew 1 = .ok (.aload_n 1, 1) := by decide +kernel
theorem dX0_startNew_2 : decode cX0_startNew 2 = .ok (.aload_n 1, 1) := by decide +kernel
theorem dX0_startNew_3 : decode cX0_startNew 3 = .ok (.iload_n 2, 1) := by decide +kernel
theorem dX0_startNew_4 : decode cX0_startNew 4 = .ok (.invokevirtual 9, 3) := by decide +kernel
theorem dX0_startNew_7 : decode cX0_startNew 7 = .ok (.iconst 0, 1) := by decide +kernel
theorem dX0_startNew_8 : decode cX0_startNew 8 = .ok (.invokevirtual 15, 3) := by decide +kernel
theorem dX0_startNew_11 : decode cX0_startNew 11 = .ok (.putfield 19, 3) := by decide +kernel
theorem dX0_startNew_14 : decode cX0_startNew 14 = .ok (.aload_n 0, 1) := by decide +kernel
theorem dX0_startNew_15 : decode cX0_startNew 15 = .ok (.iconst 0, 1) := by decide +kernel
theorem dX0_startNew_16 : decode cX0_startNew 16 = .ok (.putfield 25, 3) := by decide +kernel
theorem dX0_startNew_19 : decode cX0_startNew 19 = .ok (.aload_n 0, 1) := by decide +kernel
theorem dX0_startNew_20 : decode cX0_startNew 20 = .ok (.iconst 0, 1) := by decide +kernel
theorem dX0_startNew_21 : decode cX0_startNew 21 = .ok (.putfield 28, 3) := by decide +kernel
theorem dX0_startNew_24 : decode cX0_startNew 24 = .ok (.aload_n 0, 1) := by decide +kernel
theorem dX0_startNew_25 : decode cX0_startNew 25 = .ok (.iconst 0, 1) := by decide +kernel
theorem dX0_startNew_26 : decode cX0_startNew 26 = .ok (.putfield 31, 3) := by decide +kernel
theorem dX0_startNew_29 : decode cX0_startNew 29 = .ok (.return_, 1) := by decide +kernel
theorem dX0_goOnFrom_0 : decode cX0_goOnFrom 0 = .ok (.aload_n 0, 1) := by decide +kernel
theorem dX0_goOnFrom_1 : decode cX0_goOnFrom 1 = .ok (.aload_n 1, 1) := by decide +kernel
theorem dX0_goOnFrom_2 : decode cX0_goOnFrom 2 = .ok (.getfield 35, 3) := by decide +kernel
theorem dX0_goOnFrom_5 : decode cX0_goOnFrom 5 = .ok (.putfield 19, 3) := by decide +kernel
theorem dX0_goOnFrom_8 : decode cX0_goOnFrom 8 = .ok (.aload_n 0, 1) := by decide +kernel
theorem dX0_goOnFrom_9 : decode cX0_goOnFrom 9 = .ok (.aload_n 1, 1) := by decide +kernel
theorem dX0_goOnFrom_10 : decode cX0_goOnFrom 10 = .ok (.getfield 38, 3) := by decide +kernel
theorem dX0_goOnFrom_13 : decode cX0_goOnFrom 13 = .ok (.putfield 25, 3) := by decide +kernel
theorem dX0_goOnFrom_16 : decode cX0_goOnFrom 16 = .ok (.aload_n 0, 1) := by decide +kernel
theorem dX0_goOnFrom_17 : decode cX0_goOnFrom 17 = .ok (.aload_n 1, 1) := by decide +kernel
theorem dX0_goOnFrom_18 : decode cX0_goOnFrom 18 = .ok (.getfield 39, 3) := by decide +kernel
theorem dX0_goOnFrom_21 : decode cX0_goOnFrom 21 = .ok (.putfield 28, 3) := by decide +kernel
theorem dX0_goOnFrom_24 : decode cX0_goOnFrom 24 = .ok (.aload_n 0, 1) := by decide +kernel
theorem dX0_goOnFrom_25 : decode cX0_goOnFrom 25 = .ok (.iconst 0, 1) := by decide +kernel
theorem dX0_goOnFrom_26 : decode cX0_goOnFrom 26 = .ok (.putfield 31, 3) := by decide +kernel
theorem dX0_goOnFrom_29 : decode cX0_goOnFrom 29 = .ok (.return_, 1) := by decide +kernel
theorem dX0_run_0 : decode cX0_run 0 = .ok (.aload_n 0, 1) := by decide +kernel
theorem dX0_run_1 : decode cX0_run 1 = .ok (.iload_n 3, 1) := by decide +kernel
theorem dX0_run_2 : decode cX0_run 2 = .ok (.putfield 40, 3) := by decide +kernel
theorem dX0_run_5 : decode cX0_run 5 = .ok (.aload_n 0, 1) := by decide +kernel
theorem dX0_run_6 : decode cX0_run 6 = .ok (.iload 4, 2) := by decide +kernel
theorem dX0_run_8 : decode cX0_run 8 = .ok (.putfield 43, 3) := by decide +kernel
theorem dX0_run_11 : decode cX0_run 11 = .ok (.aload_n 0, 1) := by decide +kernel
theorem dX0_run_12 : decode cX0_run 12 = .ok (.iconst 0, 1) := by decide +kernel
theorem dX0_run_13 : decode cX0_run 13 = .ok (.putfield 46, 3) := by decide +kernel
theorem dX0_run_16 : decode cX0_run 16 = .ok (.aload_n 0, 1) := by decide +kernel
theorem dX0_run_17 : decode cX0_run 17 = .ok (.iconst 0, 1) := by decide +kernel
theorem dX0_run_18 : decode cX0_run 18 = .ok (.putfield 49, 3) := by decide +kernel
theorem dX0_run_21 : decode cX0_run 21 = .ok (.iconst 0, 1) := by decide +kernel
theorem dX0_run_22 : decode cX0_run 22 = .ok (.istore 5, 2) := by decide +kernel
theorem dX0_run_24 : decode cX0_run 24 = .ok (.iconst 0, 1) := by decide +kernel
theorem dX0_run_25 : decode cX0_run 25 = .ok (.istore 6, 2) := by decide +kernel
theorem dX0_run_27 : decode cX0_run 27 = .ok (.iload 6, 2) := by decide +kernel
theorem dX0_run_29 : decode cX0_run 29 = .ok (.bipush 24, 2) := by decide +kernel
theorem dX0_run_31 : decode cX0_run 31 = .ok (.if_icmp .ge 68, 3) := by decide +kernel
theorem dX0_run_34 : decode cX0_run 34 = .ok (.iload 5, 2) := by decide +kernel
theorem dX0_run_36 : decode cX0_run 36 = .ok (.iload 4, 2) := by decide +kernel
theorem dX0_run_38 : decode cX0_run 38 = .ok (.if_icmp .ge 61, 3) := by decide +kernel
theorem dX0_run_41 : decode cX0_run 41 = .ok (.iload_n 2, 1) := by decide +kernel
theorem dX0_run_42 : decode cX0_run 42 = .ok (.iload 5, 2) := by decide +kernel
theorem dX0_run_44 : decode cX0_run 44 = .ok (.iadd, 1) := by decide +kernel
theorem dX0_run_45 : decode cX0_run 45 = .ok (.ldc 52, 2) := by decide +kernel
theorem dX0_run_47 : decode cX0_run 47 = .ok (.irem, 1) := by decide +kernel
theorem dX0_run_48 : decode cX0_run 48 = .ok (.istore 7, 2) := by decide +kernel
theorem dX0_run_50 : decode cX0_run 50 = .ok (.iload 4, 2) := by decide +kernel
theorem dX0_run_52 : decode cX0_run 52 = .ok (.iload 5, 2) := by decide +kernel
theorem dX0_run_54 : decode cX0_run 54 = .ok (.sipush 3600, 3) := by decide +kernel
theorem dX0_run_57 : decode cX0_run 57 = .ok (.iadd, 1) := by decide +kernel
theorem dX0_run_58 : decode cX0_run 58 = .ok (.iload 7, 2) := by decide +kernel
theorem dX0_run_60 : decode cX0_run 60 = .ok (.sipush 3600, 3) := by decide +kernel
theorem dX0_run_63 : decode cX0_run 63 = .ok (.irem, 1) := by decide +kernel
theorem dX0_run_64 : decode cX0_run 64 = .ok (.isub, 1) := by decide +kernel
theorem dX0_run_65 : decode cX0_run 65 = .ok (.invokestatic 53, 3) := by decide +kernel
theorem dX0_run_68 : decode cX0_run 68 = .ok (.istore 8, 2) := by decide +kernel
theorem dX0_run_70 : decode cX0_run 70 = .ok (.aload_n 0, 1) := by decide +kernel
theorem dX0_run_71 : decode cX0_run 71 = .ok (.aload_n 1, 1) := by decide +kernel
theorem dX0_run_72 : decode cX0_run 72 = .ok (.aload_n 1, 1) := by decide +kernel
theorem dX0_run_73 : decode cX0_run 73 = .ok (.iload 7, 2) := by decide +kernel
theorem dX0_run_75 : decode cX0_run 75 = .ok (.invokevirtual 9, 3) := by decide +kernel
theorem dX0_run_78 : decode cX0_run 78 = .ok (.invokevirtual 58, 3) := by decide +kernel
theorem dX0_run_81 : decode cX0_run 81 = .ok (.aload_n 0, 1) := by decide +kernel
theorem dX0_run_82 : decode cX0_run 82 = .ok (.iload 5, 2) := by decide +kernel
theorem dX0_run_84 : decode cX0_run 84 = .ok (.iload 8, 2) := by decide +kernel
theorem dX0_run_86 : decode cX0_run 86 = .ok (.invokevirtual 62, 3) := by decide +kernel
theorem dX0_run_89 : decode cX0_run 89 = .ok (.iload 8, 2) := by decide +kernel
theorem dX0_run_91 : decode cX0_run 91 = .ok (.istore 5, 2) := by decide +kernel
theorem dX0_run_93 : decode cX0_run 93 = .ok (.iinc 6 1, 3) := by decide +kernel
theorem dX0_run_96 : decode cX0_run 96 = .ok (.goto (-69), 3) := by decide +kernel
theorem dX0_run_99 : decode cX0_run 99 = .ok (.return_, 1) := by decide +kernel
theorem dX0_takeTariff_0 : decode cX0_takeTariff 0 = .ok (.aload_n 0, 1) := by decide +kernel
theorem dX0_takeTariff_1 : decode cX0_takeTariff 1 = .ok (.aload_n 1, 1) := by decide +kernel
theorem dX0_takeTariff_2 : decode cX0_takeTariff 2 = .ok (.iload_n 2, 1) := by decide +kernel
theorem dX0_takeTariff_3 : decode cX0_takeTariff 3 = .ok (.iconst 1, 1) := by decide +kernel
theorem dX0_takeTariff_4 : decode cX0_takeTariff 4 = .ok (.invokevirtual 15, 3) := by decide +kernel
theorem dX0_takeTariff_7 : decode cX0_takeTariff 7 = .ok (.putfield 66, 3) := by decide +kernel
theorem dX0_takeTariff_10 : decode cX0_takeTariff 10 = .ok (.aload_n 0, 1) := by decide +kernel
theorem dX0_takeTariff_11 : decode cX0_takeTariff 11 = .ok (.aload_n 1, 1) := by decide +kernel
theorem dX0_takeTariff_12 : decode cX0_takeTariff 12 = .ok (.iload_n 2, 1) := by decide +kernel
theorem dX0_takeTariff_13 : decode cX0_takeTariff 13 = .ok (.iconst 2, 1) := by decide +kernel
theorem dX0_takeTariff_14 : decode cX0_takeTariff 14 = .ok (.invokevirtual 15, 3) := by decide +kernel
theorem dX0_takeTariff_17 : decode cX0_takeTariff 17 = .ok (.putfield 69, 3) := by decide +kernel
theorem dX0_takeTariff_20 : decode cX0_takeTariff 20 = .ok (.aload_n 0, 1) := by decide +kernel
theorem dX0_takeTariff_21 : decode cX0_takeTariff 21 = .ok (.aload_n 1, 1) := by decide +kernel
theorem dX0_takeTariff_22 : decode cX0_takeTariff 22 = .ok (.iload_n 2, 1) := by decide +kernel
theorem dX0_takeTariff_23 : decode cX0_takeTariff 23 = .ok (.iconst 3, 1) := by decide +kernel
theorem dX0_takeTariff_24 : decode cX0_takeTariff 24 = .ok (.invokevirtual 15, 3) := by decide +kernel
theorem dX0_takeTariff_27 : decode cX0_takeTariff 27 = .ok (.putfield 72, 3) := by decide +kernel
theorem dX0_takeTariff_30 : decode cX0_takeTariff 30 = .ok (.aload_n 0, 1) := by decide +kernel
theorem dX0_takeTariff_31 : decode cX0_takeTariff 31 = .ok (.getfield 28, 3) := by decide +kernel
theorem dX0_takeTariff_34 : decode cX0_takeTariff 34 = .ok (.istore_n 3, 1) := by decide +kernel
theorem dX0_takeTariff_35 : decode cX0_takeTariff 35 = .ok (.aload_n 0, 1) := by decide +kernel
theorem dX0_takeTariff_36 : decode cX0_takeTariff 36 = .ok (.iconst 1, 1) := by decide +kernel
theorem dX0_takeTariff_37 : decode cX0_takeTariff 37 = .ok (.aload_n 0, 1) := by decide +kernel
theorem dX0_takeTariff_38 : decode cX0_takeTariff 38 = .ok (.getfield 69, 3) := by decide +kernel
theorem dX0_takeTariff_41 : decode cX0_takeTariff 41 = .ok (.aload_n 0, 1) := by decide +kernel
theorem dX0_takeTariff_42 : decode cX0_takeTariff 42 = .ok (.getfield 72, 3) := by decide +kernel
theorem dX0_takeTariff_45 : decode cX0_takeTariff 45 = .ok (.imul, 1) := by decide +kernel
theorem dX0_takeTariff_46 : decode cX0_takeTariff 46 = .ok (.invokestatic 75, 3) := by decide +kernel
theorem dX0_takeTariff_49 : decode cX0_takeTariff 49 = .ok (.putfield 28, 3) := by decide +kernel
theorem dX0_takeTariff_52 : decode cX0_takeTariff 52 = .ok (.iload_n 3, 1) := by decide +kernel
theorem dX0_takeTariff_53 : decode cX0_takeTariff 53 = .ok (.ifCond .le 22, 3) := by decide +kernel
theorem dX0_takeTariff_56 : decode cX0_takeTariff 56 = .ok (.aload_n 0, 1) := by decide +kernel
theorem dX0_takeTariff_57 : decode cX0_takeTariff 57 = .ok (.aload_n 0, 1) := by decide +kernel
theorem dX0_takeTariff_58 : decode cX0_takeTariff 58 = .ok (.getfield 25, 3) := by decide +kernel
theorem dX0_takeTariff_61 : decode cX0_takeTariff 61 = .ok (.i2l, 1) := by decide +kernel
theorem dX0_takeTariff_62 : decode cX0_takeTariff 62 = .ok (.aload_n 0, 1) := by decide +kernel
theorem dX0_takeTariff_63 : decode cX0_takeTariff 63 = .ok (.getfield 28, 3) := by decide +kernel
theorem dX0_takeTariff_66 : decode cX0_takeTariff 66 = .ok (.i2l, 1) := by decide +kernel
theorem dX0_takeTariff_67 : decode cX0_takeTariff 67 = .ok (.lmul, 1) := by decide +kernel
theorem dX0_takeTariff_68 : decode cX0_takeTariff 68 = .ok (.iload_n 3, 1) := by decide +kernel
theorem dX0_takeTariff_69 : decode cX0_takeTariff 69 = .ok (.i2l, 1) := by decide +kernel
theorem dX0_takeTariff_70 : decode cX0_takeTariff 70 = .ok (.ldiv, 1) := by decide +kernel
theorem dX0_takeTariff_71 : decode cX0_takeTariff 71 = .ok (.l2i, 1) := by decide +kernel
theorem dX0_takeTariff_72 : decode cX0_takeTariff 72 = .ok (.putfield 25, 3) := by decide +kernel
theorem dX0_takeTariff_75 : decode cX0_takeTariff 75 = .ok (.return_, 1) := by decide +kernel
theorem dX0_runCut_0 : decode cX0_runCut 0 = .ok (.aload_n 0, 1) := by decide +kernel
theorem dX0_runCut_1 : decode cX0_runCut 1 = .ok (.iconst 1, 1) := by decide +kernel
theorem dX0_runCut_2 : decode cX0_runCut 2 = .ok (.invokevirtual 78, 3) := by decide +kernel
theorem dX0_runCut_5 : decode cX0_runCut 5 = .ok (.istore_n 3, 1) := by decide +kernel
theorem dX0_runCut_6 : decode cX0_runCut 6 = .ok (.aload_n 0, 1) := by decide +kernel
theorem dX0_runCut_7 : decode cX0_runCut 7 = .ok (.iload_n 2, 1) := by decide +kernel
theorem dX0_runCut_8 : decode cX0_runCut 8 = .ok (.invokevirtual 78, 3) := by decide +kernel
theorem dX0_runCut_11 : decode cX0_runCut 11 = .ok (.aload_n 0, 1) := by decide +kernel
theorem dX0_runCut_12 : decode cX0_runCut 12 = .ok (.iload_n 1, 1) := by decide +kernel
theorem dX0_runCut_13 : decode cX0_runCut 13 = .ok (.invokevirtual 78, 3) := by decide +kernel
theorem dX0_runCut_16 : decode cX0_runCut 16 = .ok (.isub, 1) := by decide +kernel
theorem dX0_runCut_17 : decode cX0_runCut 17 = .ok (.iload_n 3, 1) := by decide +kernel
theorem dX0_runCut_18 : decode cX0_runCut 18 = .ok (.iload_n 2, 1) := by decide +kernel
theorem dX0_runCut_19 : decode cX0_runCut 19 = .ok (.iload_n 1, 1) := by decide +kernel
theorem dX0_runCut_20 : decode cX0_runCut 20 = .ok (.isub, 1) := by decide +kernel
theorem dX0_runCut_21 : decode cX0_runCut 21 = .ok (.imul, 1) := by decide +kernel
theorem dX0_runCut_22 : decode cX0_runCut 22 = .ok (.isub, 1) := by decide +kernel
theorem dX0_runCut_23 : decode cX0_runCut 23 = .ok (.istore 4, 2) := by decide +kernel
theorem dX0_runCut_25 : decode cX0_runCut 25 = .ok (.aload_n 0, 1) := by decide +kernel
theorem dX0_runCut_26 : decode cX0_runCut 26 = .ok (.getfield 31, 3) := by decide +kernel
theorem dX0_runCut_29 : decode cX0_runCut 29 = .ok (.ifCond .eq 23, 3) := by decide +kernel
theorem dX0_runCut_32 : decode cX0_runCut 32 = .ok (.iload 4, 2) := by decide +kernel
theorem dX0_runCut_34 : decode cX0_runCut 34 = .ok (.ifCond .eq 18, 3) := by decide +kernel
theorem dX0_runCut_37 : decode cX0_runCut 37 = .ok (.aload_n 0, 1) := by decide +kernel
theorem dX0_runCut_38 : decode cX0_runCut 38 = .ok (.iload_n 3, 1) := by decide +kernel
theorem dX0_runCut_39 : decode cX0_runCut 39 = .ok (.invokevirtual 81, 3) := by decide +kernel
theorem dX0_runCut_42 : decode cX0_runCut 42 = .ok (.aload_n 0, 1) := by decide +kernel
theorem dX0_runCut_43 : decode cX0_runCut 43 = .ok (.iload_n 3, 1) := by decide +kernel
theorem dX0_runCut_44 : decode cX0_runCut 44 = .ok (.iconst 1, 1) := by decide +kernel
theorem dX0_runCut_45 : decode cX0_runCut 45 = .ok (.iadd, 1) := by decide +kernel
theorem dX0_runCut_46 : decode cX0_runCut 46 = .ok (.invokevirtual 81, 3) := by decide +kernel
theorem dX0_runCut_49 : decode cX0_runCut 49 = .ok (.if_icmp .ne 36, 3) := by decide +kernel
theorem dX0_runCut_52 : decode cX0_runCut 52 = .ok (.aload_n 0, 1) := by decide +kernel
theorem dX0_runCut_53 : decode cX0_runCut 53 = .ok (.iload_n 2, 1) := by decide +kernel
theorem dX0_runCut_54 : decode cX0_runCut 54 = .ok (.iload_n 1, 1) := by decide +kernel
theorem dX0_runCut_55 : decode cX0_runCut 55 = .ok (.isub, 1) := by decide +kernel
theorem dX0_runCut_56 : decode cX0_runCut 56 = .ok (.iload 4, 2) := by decide +kernel
theorem dX0_runCut_58 : decode cX0_runCut 58 = .ok (.isub, 1) := by decide +kernel
theorem dX0_runCut_59 : decode cX0_runCut 59 = .ok (.aload_n 0, 1) := by decide +kernel
theorem dX0_runCut_60 : decode cX0_runCut 60 = .ok (.iload_n 3, 1) := by decide +kernel
theorem dX0_runCut_61 : decode cX0_runCut 61 = .ok (.invokevirtual 85, 3) := by decide +kernel
theorem dX0_runCut_64 : decode cX0_runCut 64 = .ok (.imul, 1) := by decide +kernel
theorem dX0_runCut_65 : decode cX0_runCut 65 = .ok (.iload 4, 2) := by decide +kernel
theorem dX0_runCut_67 : decode cX0_runCut 67 = .ok (.aload_n 0, 1) := by decide +kernel
theorem dX0_runCut_68 : decode cX0_runCut 68 = .ok (.iload_n 3, 1) := by decide +kernel
theorem dX0_runCut_69 : decode cX0_runCut 69 = .ok (.iconst 1, 1) := by decide +kernel
theorem dX0_runCut_70 : decode cX0_runCut 70 = .ok (.iadd, 1) := by decide +kernel
theorem dX0_runCut_71 : decode cX0_runCut 71 = .ok (.invokevirtual 85, 3) := by decide +kernel
theorem dX0_runCut_74 : decode cX0_runCut 74 = .ok (.imul, 1) := by decide +kernel
theorem dX0_runCut_75 : decode cX0_runCut 75 = .ok (.iadd, 1) := by decide +kernel
theorem dX0_runCut_76 : decode cX0_runCut 76 = .ok (.aload_n 0, 1) := by decide +kernel
theorem dX0_runCut_77 : decode cX0_runCut 77 = .ok (.iload_n 3, 1) := by decide +kernel
theorem dX0_runCut_78 : decode cX0_runCut 78 = .ok (.invokevirtual 81, 3) := by decide +kernel
theorem dX0_runCut_81 : decode cX0_runCut 81 = .ok (.invokevirtual 88, 3) := by decide +kernel
theorem dX0_runCut_84 : decode cX0_runCut 84 = .ok (.return_, 1) := by decide +kernel
theorem dX0_runCut_85 : decode cX0_runCut 85 = .ok (.iload_n 1, 1) := by decide +kernel
theorem dX0_runCut_86 : decode cX0_runCut 86 = .ok (.istore 5, 2) := by decide +kernel
theorem dX0_runCut_88 : decode cX0_runCut 88 = .ok (.iload 5, 2) := by decide +kernel
theorem dX0_runCut_90 : decode cX0_runCut 90 = .ok (.iload_n 2, 1) := by decide +kernel
theorem dX0_runCut_91 : decode cX0_runCut 91 = .ok (.if_icmp .ge 42, 3) := by decide +kernel
theorem dX0_runCut_94 : decode cX0_runCut 94 = .ok (.aload_n 0, 1) := by decide +kernel
theorem dX0_runCut_95 : decode cX0_runCut 95 = .ok (.iload 5, 2) := by decide +kernel
theorem dX0_runCut_97 : decode cX0_runCut 97 = .ok (.iconst 1, 1) := by decide +kernel
theorem dX0_runCut_98 : decode cX0_runCut 98 = .ok (.iadd, 1) := by decide +kernel
theorem dX0_runCut_99 : decode cX0_runCut 99 = .ok (.invokevirtual 78, 3) := by decide +kernel
theorem dX0_runCut_102 : decode cX0_runCut 102 = .ok (.aload_n 0, 1) := by decide +kernel
theorem dX0_runCut_103 : decode cX0_runCut 103 = .ok (.iload 5, 2) := by decide +kernel
theorem dX0_runCut_105 : decode cX0_runCut 105 = .ok (.invokevirtual 78, 3) := by decide +kernel
theorem dX0_runCut_108 : decode cX0_runCut 108 = .ok (.isub, 1) := by decide +kernel
theorem dX0_runCut_109 : decode cX0_runCut 109 = .ok (.istore 6, 2) := by decide +kernel
theorem dX0_runCut_111 : decode cX0_runCut 111 = .ok (.aload_n 0, 1) := by decide +kernel
theorem dX0_runCut_112 : decode cX0_runCut 112 = .ok (.aload_n 0, 1) := by decide +kernel
theorem dX0_runCut_113 : decode cX0_runCut 113 = .ok (.iload 6, 2) := by decide +kernel
theorem dX0_runCut_115 : decode cX0_runCut 115 = .ok (.invokevirtual 85, 3) := by decide +kernel
theorem dX0_runCut_118 : decode cX0_runCut 118 = .ok (.aload_n 0, 1) := by decide +kernel
theorem dX0_runCut_119 : decode cX0_runCut 119 = .ok (.iload 6, 2) := by decide +kernel
theorem dX0_runCut_121 : decode cX0_runCut 121 = .ok (.invokevirtual 81, 3) := by decide +kernel
theorem dX0_runCut_124 : decode cX0_runCut 124 = .ok (.invokevirtual 88, 3) := by decide +kernel
theorem dX0_runCut_127 : decode cX0_runCut 127 = .ok (.iinc 5 1, 3) := by decide +kernel
theorem dX0_runCut_130 : decode cX0_runCut 130 = .ok (.goto (-42), 3) := by decide +kernel
theorem dX0_runCut_133 : decode cX0_runCut 133 = .ok (.return_, 1) := by decide +kernel
theorem dX0_behind_0 : decode cX0_behind 0 = .ok (.aload_n 0, 1) := by decide +kernel
theorem dX0_behind_1 : decode cX0_behind 1 = .ok (.getfield 43, 3) := by decide +kernel
theorem dX0_behind_4 : decode cX0_behind 4 = .ok (.ifCond .le 17, 3) := by decide +kernel
theorem dX0_behind_7 : decode cX0_behind 7 = .ok (.aload_n 0, 1) := by decide +kernel
theorem dX0_behind_8 : decode cX0_behind 8 = .ok (.getfield 40, 3) := by decide +kernel
theorem dX0_behind_11 : decode cX0_behind 11 = .ok (.iload_n 1, 1) := by decide +kernel
theorem dX0_behind_12 : decode cX0_behind 12 = .ok (.imul, 1) := by decide +kernel
theorem dX0_behind_13 : decode cX0_behind 13 = .ok (.aload_n 0, 1) := by decide +kernel
theorem dX0_behind_14 : decode cX0_behind 14 = .ok (.getfield 43, 3) := by decide +kernel
theorem dX0_behind_17 : decode cX0_behind 17 = .ok (.idiv, 1) := by decide +kernel
theorem dX0_behind_18 : decode cX0_behind 18 = .ok (.goto 4, 3) := by decide +kernel
theorem dX0_behind_21 : decode cX0_behind 21 = .ok (.iconst 0, 1) := by decide +kernel
theorem dX0_behind_22 : decode cX0_behind 22 = .ok (.ireturn, 1) := by decide +kernel
theorem dX0_isByWay_0 : decode cX0_isByWay 0 = .ok (.iload_n 1, 1) := by decide +kernel
theorem dX0_isByWay_1 : decode cX0_isByWay 1 = .ok (.aload_n 0, 1) := by decide +kernel
theorem dX0_isByWay_2 : decode cX0_isByWay 2 = .ok (.getfield 72, 3) := by decide +kernel
theorem dX0_isByWay_5 : decode cX0_isByWay 5 = .ok (.imul, 1) := by decide +kernel
theorem dX0_isByWay_6 : decode cX0_isByWay 6 = .ok (.aload_n 0, 1) := by decide +kernel
theorem dX0_isByWay_7 : decode cX0_isByWay 7 = .ok (.getfield 69, 3) := by decide +kernel
theorem dX0_isByWay_10 : decode cX0_isByWay 10 = .ok (.if_icmp .lt 7, 3) := by decide +kernel
theorem dX0_isByWay_13 : decode cX0_isByWay 13 = .ok (.iconst 1, 1) := by decide +kernel
theorem dX0_isByWay_14 : decode cX0_isByWay 14 = .ok (.goto 4, 3) := by decide +kernel
theorem dX0_isByWay_17 : decode cX0_isByWay 17 = .ok (.iconst 0, 1) := by decide +kernel
theorem dX0_isByWay_18 : decode cX0_isByWay 18 = .ok (.ireturn, 1) := by decide +kernel
theorem dX0_gain_0 : decode cX0_gain 0 = .ok (.iload_n 1, 1) := by decide +kernel
theorem dX0_gain_1 : decode cX0_gain 1 = .ok (.aload_n 0, 1) := by decide +kernel
theorem dX0_gain_2 : decode cX0_gain 2 = .ok (.getfield 72, 3) := by decide +kernel
theorem dX0_gain_5 : decode cX0_gain 5 = .ok (.imul, 1) := by decide +kernel
theorem dX0_gain_6 : decode cX0_gain 6 = .ok (.aload_n 0, 1) := by decide +kernel
theorem dX0_gain_7 : decode cX0_gain 7 = .ok (.getfield 69, 3) := by decide +kernel
theorem dX0_gain_10 : decode cX0_gain 10 = .ok (.invokestatic 75, 3) := by decide +kernel
theorem dX0_gain_13 : decode cX0_gain 13 = .ok (.ireturn, 1) := by decide +kernel
theorem dX0_grow_0 : decode cX0_grow 0 = .ok (.aload_n 0, 1) := by decide +kernel
theorem dX0_grow_1 : decode cX0_grow 1 = .ok (.dup, 1) := by decide +kernel
theorem dX0_grow_2 : decode cX0_grow 2 = .ok (.getfield 25, 3) := by decide +kernel
theorem dX0_grow_5 : decode cX0_grow 5 = .ok (.iload_n 1, 1) := by decide +kernel
theorem dX0_grow_6 : decode cX0_grow 6 = .ok (.iadd, 1) := by decide +kernel
theorem dX0_grow_7 : decode cX0_grow 7 = .ok (.putfield 25, 3) := by decide +kernel
theorem dX0_grow_10 : decode cX0_grow 10 = .ok (.aload_n 0, 1) := by decide +kernel
theorem dX0_grow_11 : decode cX0_grow 11 = .ok (.getfield 28, 3) := by decide +kernel
theorem dX0_grow_14 : decode cX0_grow 14 = .ok (.ifCond .gt 4, 3) := by decide +kernel
theorem dX0_grow_17 : decode cX0_grow 17 = .ok (.return_, 1) := by decide +kernel
theorem dX0_grow_18 : decode cX0_grow 18 = .ok (.aload_n 0, 1) := by decide +kernel
theorem dX0_grow_19 : decode cX0_grow 19 = .ok (.getfield 25, 3) := by decide +kernel
theorem dX0_grow_22 : decode cX0_grow 22 = .ok (.aload_n 0, 1) := by decide +kernel
theorem dX0_grow_23 : decode cX0_grow 23 = .ok (.getfield 28, 3) := by decide +kernel
theorem dX0_grow_26 : decode cX0_grow 26 = .ok (.idiv, 1) := by decide +kernel
theorem dX0_grow_27 : decode cX0_grow 27 = .ok (.istore_n 3, 1) := by decide +kernel
theorem dX0_grow_28 : decode cX0_grow 28 = .ok (.aload_n 0, 1) := by decide +kernel
theorem dX0_grow_29 : decode cX0_grow 29 = .ok (.dup, 1) := by decide +kernel
theorem dX0_grow_30 : decode cX0_grow 30 = .ok (.getfield 25, 3) := by decide +kernel
theorem dX0_grow_33 : decode cX0_grow 33 = .ok (.aload_n 0, 1) := by decide +kernel
theorem dX0_grow_34 : decode cX0_grow 34 = .ok (.getfield 28, 3) := by decide +kernel
theorem dX0_grow_37 : decode cX0_grow 37 = .ok (.irem, 1) := by decide +kernel
theorem dX0_grow_38 : decode cX0_grow 38 = .ok (.putfield 25, 3) := by decide +kernel
theorem dX0_grow_41 : decode cX0_grow 41 = .ok (.aload_n 0, 1) := by decide +kernel
theorem dX0_grow_42 : decode cX0_grow 42 = .ok (.ldc 92, 2) := by decide +kernel
theorem dX0_grow_44 : decode cX0_grow 44 = .ok (.aload_n 0, 1) := by decide +kernel
theorem dX0_grow_45 : decode cX0_grow 45 = .ok (.getfield 19, 3) := by decide +kernel
theorem dX0_grow_48 : decode cX0_grow 48 = .ok (.iload_n 3, 1) := by decide +kernel
theorem dX0_grow_49 : decode cX0_grow 49 = .ok (.aload_n 0, 1) := by decide +kernel
theorem dX0_grow_50 : decode cX0_grow 50 = .ok (.getfield 66, 3) := by decide +kernel
theorem dX0_grow_53 : decode cX0_grow 53 = .ok (.imul, 1) := by decide +kernel
theorem dX0_grow_54 : decode cX0_grow 54 = .ok (.iadd, 1) := by decide +kernel
theorem dX0_grow_55 : decode cX0_grow 55 = .ok (.invokestatic 53, 3) := by decide +kernel
theorem dX0_grow_58 : decode cX0_grow 58 = .ok (.putfield 19, 3) := by decide +kernel
theorem dX0_grow_61 : decode cX0_grow 61 = .ok (.iload_n 2, 1) := by decide +kernel
theorem dX0_grow_62 : decode cX0_grow 62 = .ok (.ifCond .eq 16, 3) := by decide +kernel
theorem dX0_grow_65 : decode cX0_grow 65 = .ok (.aload_n 0, 1) := by decide +kernel
theorem dX0_grow_66 : decode cX0_grow 66 = .ok (.dup, 1) := by decide +kernel
theorem dX0_grow_67 : decode cX0_grow 67 = .ok (.getfield 46, 3) := by decide +kernel
theorem dX0_grow_70 : decode cX0_grow 70 = .ok (.iload_n 3, 1) := by decide +kernel
theorem dX0_grow_71 : decode cX0_grow 71 = .ok (.iadd, 1) := by decide +kernel
theorem dX0_grow_72 : decode cX0_grow 72 = .ok (.putfield 46, 3) := by decide +kernel
theorem dX0_grow_75 : decode cX0_grow 75 = .ok (.goto 13, 3) := by decide +kernel
theorem dX0_grow_78 : decode cX0_grow 78 = .ok (.aload_n 0, 1) := by decide +kernel
theorem dX0_grow_79 : decode cX0_grow 79 = .ok (.dup, 1) := by decide +kernel
theorem dX0_grow_80 : decode cX0_grow 80 = .ok (.getfield 49, 3) := by decide +kernel
theorem dX0_grow_83 : decode cX0_grow 83 = .ok (.iload_n 3, 1) := by decide +kernel
theorem dX0_grow_84 : decode cX0_grow 84 = .ok (.iadd, 1) := by decide +kernel
theorem dX0_grow_85 : decode cX0_grow 85 = .ok (.putfield 49, 3) := by decide +kernel
theorem dX0_grow_88 : decode cX0_grow 88 = .ok (.return_, 1) := by decide +kernel
theorem dX1_init_0 : decode cX1_init 0 = .ok (.aload_n 0, 1) := by decide +kernel
theorem dX1_init_1 : decode cX1_init 1 = .ok (.invokespecial 1, 3) := by decide +kernel
theorem dX1_init_4 : decode cX1_init 4 = .ok (.aload_n 0, 1) := by decide +kernel
theorem dX1_init_5 : decode cX1_init 5 = .ok (.bipush 7, 2) := by decide +kernel
theorem dX1_init_7 : decode cX1_init 7 = .ok (.anewarray 9, 3) := by decide +kernel
theorem dX1_init_10 : decode cX1_init 10 = .ok (.putfield 11, 3) := by decide +kernel
theorem dX1_init_13 : decode cX1_init 13 = .ok (.iconst 0, 1) := by decide +kernel
theorem dX1_init_14 : decode cX1_init 14 = .ok (.istore_n 1, 1) := by decide +kernel
theorem dX1_init_15 : decode cX1_init 15 = .ok (.iload_n 1, 1) := by decide +kernel
theorem dX1_init_16 : decode cX1_init 16 = .ok (.aload_n 0, 1) := by decide +kernel
theorem dX1_init_17 : decode cX1_init 17 = .ok (.getfield 11, 3) := by decide +kernel
theorem dX1_init_20 : decode cX1_init 20 = .ok (.arraylength, 1) := by decide +kernel
theorem dX1_init_21 : decode cX1_init 21 = .ok (.if_icmp .ge 22, 3) := by decide +kernel
theorem dX1_init_24 : decode cX1_init 24 = .ok (.aload_n 0, 1) := by decide +kernel
theorem dX1_init_25 : decode cX1_init 25 = .ok (.getfield 11, 3) := by decide +kernel
theorem dX1_init_28 : decode cX1_init 28 = .ok (.iload_n 1, 1) := by decide +kernel
theorem dX1_init_29 : decode cX1_init 29 = .ok (.new 9, 3) := by decide +kernel
theorem dX1_init_32 : decode cX1_init 32 = .ok (.dup, 1) := by decide +kernel
theorem dX1_init_33 : decode cX1_init 33 = .ok (.invokespecial 15, 3) := by decide +kernel
theorem dX1_init_36 : decode cX1_init 36 = .ok (.aastore, 1) := by decide +kernel
theorem dX1_init_37 : decode cX1_init 37 = .ok (.iinc 1 1, 3) := by decide +kernel
theorem dX1_init_40 : decode cX1_init 40 = .ok (.goto (-25), 3) := by decide +kernel
theorem dX1_init_43 : decode cX1_init 43 = .ok (.return_, 1) := by decide +kernel
theorem dX1_draft_0 : decode cX1_draft 0 = .ok (.aload_n 0, 1) := by decide +kernel
theorem dX1_draft_1 : decode cX1_draft 1 = .ok (.aload_n 0, 1) := by decide +kernel
theorem dX1_draft_2 : decode cX1_draft 2 = .ok (.getfield 16, 3) := by decide +kernel
theorem dX1_draft_5 : decode cX1_draft 5 = .ok (.invokevirtual 20, 3) := by decide +kernel
theorem dX1_draft_8 : decode cX1_draft 8 = .ok (.astore_n 2, 1) := by decide +kernel
theorem dX1_draft_9 : decode cX1_draft 9 = .ok (.aload_n 2, 1) := by decide +kernel
theorem dX1_draft_10 : decode cX1_draft 10 = .ok (.ifnull 8, 3) := by decide +kernel
theorem dX1_draft_13 : decode cX1_draft 13 = .ok (.aload_n 2, 1) := by decide +kernel
theorem dX1_draft_14 : decode cX1_draft 14 = .ok (.aload_n 1, 1) := by decide +kernel
theorem dX1_draft_15 : decode cX1_draft 15 = .ok (.invokevirtual 24, 3) := by decide +kernel
theorem dX1_draft_18 : decode cX1_draft 18 = .ok (.return_, 1) := by decide +kernel
theorem dX1_settle_0 : decode cX1_settle 0 = .ok (.iload_n 1, 1) := by decide +kernel
theorem dX1_settle_1 : decode cX1_settle 1 = .ok (.ifCond .lt 31, 3) := by decide +kernel
theorem dX1_settle_4 : decode cX1_settle 4 = .ok (.aload_n 0, 1) := by decide +kernel
theorem dX1_settle_5 : decode cX1_settle 5 = .ok (.aload_n 0, 1) := by decide +kernel
theorem dX1_settle_6 : decode cX1_settle 6 = .ok (.getfield 16, 3) := by decide +kernel
theorem dX1_settle_9 : decode cX1_settle 9 = .ok (.iconst 1, 1) := by decide +kernel
theorem dX1_settle_10 : decode cX1_settle 10 = .ok (.iadd, 1) := by decide +kernel
theorem dX1_settle_11 : decode cX1_settle 11 = .ok (.bipush 7, 2) := by decide +kernel
theorem dX1_settle_13 : decode cX1_settle 13 = .ok (.irem, 1) := by decide +kernel
theorem dX1_settle_14 : decode cX1_settle 14 = .ok (.putfield 16, 3) := by decide +kernel
theorem dX1_settle_17 : decode cX1_settle 17 = .ok (.aload_n 0, 1) := by decide +kernel
theorem dX1_settle_18 : decode cX1_settle 18 = .ok (.aload_n 0, 1) := by decide +kernel
theorem dX1_settle_19 : decode cX1_settle 19 = .ok (.getfield 28, 3) := by decide +kernel
theorem dX1_settle_22 : decode cX1_settle 22 = .ok (.iconst 1, 1) := by decide +kernel
theorem dX1_settle_23 : decode cX1_settle 23 = .ok (.iadd, 1) := by decide +kernel
theorem dX1_settle_24 : decode cX1_settle 24 = .ok (.bipush 6, 2) := by decide +kernel
theorem dX1_settle_26 : decode cX1_settle 26 = .ok (.invokestatic 31, 3) := by decide +kernel
theorem dX1_settle_29 : decode cX1_settle 29 = .ok (.putfield 28, 3) := by decide +kernel
theorem dX1_settle_32 : decode cX1_settle 32 = .ok (.iload_n 1, 1) := by decide +kernel
theorem dX1_settle_33 : decode cX1_settle 33 = .ok (.ireturn, 1) := by decide +kernel
theorem dX1_takeBack_0 : decode cX1_takeBack 0 = .ok (.aload_n 0, 1) := by decide +kernel
theorem dX1_takeBack_1 : decode cX1_takeBack 1 = .ok (.aload_n 0, 1) := by decide +kernel
theorem dX1_takeBack_2 : decode cX1_takeBack 2 = .ok (.getfield 16, 3) := by decide +kernel
theorem dX1_takeBack_5 : decode cX1_takeBack 5 = .ok (.bipush 6, 2) := by decide +kernel
theorem dX1_takeBack_7 : decode cX1_takeBack 7 = .ok (.iadd, 1) := by decide +kernel
theorem dX1_takeBack_8 : decode cX1_takeBack 8 = .ok (.bipush 7, 2) := by decide +kernel
theorem dX1_takeBack_10 : decode cX1_takeBack 10 = .ok (.irem, 1) := by decide +kernel
theorem dX1_takeBack_11 : decode cX1_takeBack 11 = .ok (.putfield 16, 3) := by decide +kernel
theorem dX1_takeBack_14 : decode cX1_takeBack 14 = .ok (.aload_n 0, 1) := by decide +kernel
theorem dX1_takeBack_15 : decode cX1_takeBack 15 = .ok (.dup, 1) := by decide +kernel
theorem dX1_takeBack_16 : decode cX1_takeBack 16 = .ok (.getfield 28, 3) := by decide +kernel
theorem dX1_takeBack_19 : decode cX1_takeBack 19 = .ok (.iconst 1, 1) := by decide +kernel
theorem dX1_takeBack_20 : decode cX1_takeBack 20 = .ok (.isub, 1) := by decide +kernel
theorem dX1_takeBack_21 : decode cX1_takeBack 21 = .ok (.putfield 28, 3) := by decide +kernel
theorem dX1_takeBack_24 : decode cX1_takeBack 24 = .ok (.aload_n 0, 1) := by decide +kernel
theorem dX1_takeBack_25 : decode cX1_takeBack 25 = .ok (.aload_n 0, 1) := by decide +kernel
theorem dX1_takeBack_26 : decode cX1_takeBack 26 = .ok (.getfield 16, 3) := by decide +kernel
theorem dX1_takeBack_29 : decode cX1_takeBack 29 = .ok (.invokevirtual 20, 3) := by decide +kernel
theorem dX1_takeBack_32 : decode cX1_takeBack 32 = .ok (.astore_n 2, 1) := by decide +kernel
theorem dX1_takeBack_33 : decode cX1_takeBack 33 = .ok (.aload_n 2, 1) := by decide +kernel
theorem dX1_takeBack_34 : decode cX1_takeBack 34 = .ok (.ifnull 8, 3) := by decide +kernel
theorem dX1_takeBack_37 : decode cX1_takeBack 37 = .ok (.aload_n 1, 1) := by decide +kernel
theorem dX1_takeBack_38 : decode cX1_takeBack 38 = .ok (.aload_n 2, 1) := by decide +kernel
theorem dX1_takeBack_39 : decode cX1_takeBack 39 = .ok (.invokevirtual 24, 3) := by decide +kernel
theorem dX1_takeBack_42 : decode cX1_takeBack 42 = .ok (.return_, 1) := by decide +kernel
theorem dX1_rowAt_0 : decode cX1_rowAt 0 = .ok (.iload_n 1, 1) := by decide +kernel
theorem dX1_rowAt_1 : decode cX1_rowAt 1 = .ok (.ifCond .lt 21, 3) := by decide +kernel
theorem dX1_rowAt_4 : decode cX1_rowAt 4 = .ok (.iload_n 1, 1) := by decide +kernel
theorem dX1_rowAt_5 : decode cX1_rowAt 5 = .ok (.aload_n 0, 1) := by decide +kernel
theorem dX1_rowAt_6 : decode cX1_rowAt 6 = .ok (.getfield 11, 3) := by decide +kernel
theorem dX1_rowAt_9 : decode cX1_rowAt 9 = .ok (.arraylength, 1) := by decide +kernel
theorem dX1_rowAt_10 : decode cX1_rowAt 10 = .ok (.if_icmp .ge 12, 3) := by decide +kernel
theorem dX1_rowAt_13 : decode cX1_rowAt 13 = .ok (.aload_n 0, 1) := by decide +kernel
theorem dX1_rowAt_14 : decode cX1_rowAt 14 = .ok (.getfield 11, 3) := by decide +kernel
theorem dX1_rowAt_17 : decode cX1_rowAt 17 = .ok (.iload_n 1, 1) := by decide +kernel
theorem dX1_rowAt_18 : decode cX1_rowAt 18 = .ok (.aaload, 1) := by decide +kernel
theorem dX1_rowAt_19 : decode cX1_rowAt 19 = .ok (.goto 4, 3) := by decide +kernel
theorem dX1_rowAt_22 : decode cX1_rowAt 22 = .ok (.aconst_null, 1) := by decide +kernel
theorem dX1_rowAt_23 : decode cX1_rowAt 23 = .ok (.areturn, 1) := by decide +kernel
theorem dX2_init_0 : decode cX2_init 0 = .ok (.aload_n 0, 1) := by decide +kernel
theorem dX2_init_1 : decode cX2_init 1 = .ok (.invokespecial 1, 3) := by decide +kernel
theorem dX2_init_4 : decode cX2_init 4 = .ok (.aload_n 0, 1) := by decide +kernel
theorem dX2_init_5 : decode cX2_init 5 = .ok (.bipush 60, 2) := by decide +kernel
theorem dX2_init_7 : decode cX2_init 7 = .ok (.newarray .int, 2) := by decide +kernel
theorem dX2_init_9 : decode cX2_init 9 = .ok (.putfield 9, 3) := by decide +kernel
theorem dX2_init_12 : decode cX2_init 12 = .ok (.return_, 1) := by decide +kernel
theorem dX2_copyFrom_0 : decode cX2_copyFrom 0 = .ok (.aload_n 1, 1) := by decide +kernel
theorem dX2_copyFrom_1 : decode cX2_copyFrom 1 = .ok (.getfield 9, 3) := by decide +kernel
theorem dX2_copyFrom_4 : decode cX2_copyFrom 4 = .ok (.aload_n 0, 1) := by decide +kernel
theorem dX2_copyFrom_5 : decode cX2_copyFrom 5 = .ok (.getfield 9, 3) := by decide +kernel
theorem dX2_copyFrom_8 : decode cX2_copyFrom 8 = .ok (.invokestatic 13, 3) := by decide +kernel
theorem dX2_copyFrom_11 : decode cX2_copyFrom 11 = .ok (.aload_n 0, 1) := by decide +kernel
theorem dX2_copyFrom_12 : decode cX2_copyFrom 12 = .ok (.aload_n 1, 1) := by decide +kernel
theorem dX2_copyFrom_13 : decode cX2_copyFrom 13 = .ok (.getfield 19, 3) := by decide +kernel
theorem dX2_copyFrom_16 : decode cX2_copyFrom 16 = .ok (.putfield 19, 3) := by decide +kernel
theorem dX2_copyFrom_19 : decode cX2_copyFrom 19 = .ok (.aload_n 0, 1) := by decide +kernel
theorem dX2_copyFrom_20 : decode cX2_copyFrom 20 = .ok (.aload_n 1, 1) := by decide +kernel
theorem dX2_copyFrom_21 : decode cX2_copyFrom 21 = .ok (.getfield 23, 3) := by decide +kernel
theorem dX2_copyFrom_24 : decode cX2_copyFrom 24 = .ok (.putfield 23, 3) := by decide +kernel
theorem dX2_copyFrom_27 : decode cX2_copyFrom 27 = .ok (.return_, 1) := by decide +kernel
theorem dX2_add_0 : decode cX2_add 0 = .ok (.aload_n 0, 1) := by decide +kernel
theorem dX2_add_1 : decode cX2_add 1 = .ok (.getfield 19, 3) := by decide +kernel
theorem dX2_add_4 : decode cX2_add 4 = .ok (.iconst 5, 1) := by decide +kernel
theorem dX2_add_5 : decode cX2_add 5 = .ok (.imul, 1) := by decide +kernel
theorem dX2_add_6 : decode cX2_add 6 = .ok (.istore_n 2, 1) := by decide +kernel
theorem dX2_add_7 : decode cX2_add 7 = .ok (.aload_n 0, 1) := by decide +kernel
theorem dX2_add_8 : decode cX2_add 8 = .ok (.getfield 9, 3) := by decide +kernel
theorem dX2_add_11 : decode cX2_add 11 = .ok (.iload_n 2, 1) := by decide +kernel
theorem dX2_add_12 : decode cX2_add 12 = .ok (.aload_n 1, 1) := by decide +kernel
theorem dX2_add_13 : decode cX2_add 13 = .ok (.getfield 26, 3) := by decide +kernel
theorem dX2_add_16 : decode cX2_add 16 = .ok (.aload_n 1, 1) := by decide +kernel
theorem dX2_add_17 : decode cX2_add 17 = .ok (.getfield 31, 3) := by decide +kernel
theorem dX2_add_20 : decode cX2_add 20 = .ok (.iadd, 1) := by decide +kernel
theorem dX2_add_21 : decode cX2_add 21 = .ok (.invokestatic 34, 3) := by decide +kernel
theorem dX2_add_24 : decode cX2_add 24 = .ok (.aload_n 0, 1) := by decide +kernel
theorem dX2_add_25 : decode cX2_add 25 = .ok (.getfield 9, 3) := by decide +kernel
theorem dX2_add_28 : decode cX2_add 28 = .ok (.iload_n 2, 1) := by decide +kernel
theorem dX2_add_29 : decode cX2_add 29 = .ok (.iconst 1, 1) := by decide +kernel
theorem dX2_add_30 : decode cX2_add 30 = .ok (.iadd, 1) := by decide +kernel
theorem dX2_add_31 : decode cX2_add 31 = .ok (.aload_n 1, 1) := by decide +kernel
theorem dX2_add_32 : decode cX2_add 32 = .ok (.getfield 38, 3) := by decide +kernel
theorem dX2_add_35 : decode cX2_add 35 = .ok (.invokestatic 34, 3) := by decide +kernel
theorem dX2_add_38 : decode cX2_add 38 = .ok (.aload_n 0, 1) := by decide +kernel
theorem dX2_add_39 : decode cX2_add 39 = .ok (.getfield 9, 3) := by decide +kernel
theorem dX2_add_42 : decode cX2_add 42 = .ok (.iload_n 2, 1) := by decide +kernel
theorem dX2_add_43 : decode cX2_add 43 = .ok (.iconst 2, 1) := by decide +kernel
theorem dX2_add_44 : decode cX2_add 44 = .ok (.iadd, 1) := by decide +kernel
theorem dX2_add_45 : decode cX2_add 45 = .ok (.aload_n 1, 1) := by decide +kernel
theorem dX2_add_46 : decode cX2_add 46 = .ok (.getfield 41, 3) := by decide +kernel
theorem dX2_add_49 : decode cX2_add 49 = .ok (.aload_n 1, 1) := by decide +kernel
theorem dX2_add_50 : decode cX2_add 50 = .ok (.getfield 44, 3) := by decide +kernel
theorem dX2_add_53 : decode cX2_add 53 = .ok (.iadd, 1) := by decide +kernel
theorem dX2_add_54 : decode cX2_add 54 = .ok (.invokestatic 34, 3) := by decide +kernel
theorem dX2_add_57 : decode cX2_add 57 = .ok (.aload_n 0, 1) := by decide +kernel
theorem dX2_add_58 : decode cX2_add 58 = .ok (.getfield 9, 3) := by decide +kernel
theorem dX2_add_61 : decode cX2_add 61 = .ok (.iload_n 2, 1) := by decide +kernel
theorem dX2_add_62 : decode cX2_add 62 = .ok (.iconst 3, 1) := by decide +kernel
theorem dX2_add_63 : decode cX2_add 63 = .ok (.iadd, 1) := by decide +kernel
theorem dX2_add_64 : decode cX2_add 64 = .ok (.aload_n 1, 1) := by decide +kernel
theorem dX2_add_65 : decode cX2_add 65 = .ok (.getfield 47, 3) := by decide +kernel
theorem dX2_add_68 : decode cX2_add 68 = .ok (.aload_n 1, 1) := by decide +kernel
theorem dX2_add_69 : decode cX2_add 69 = .ok (.getfield 50, 3) := by decide +kernel
theorem dX2_add_72 : decode cX2_add 72 = .ok (.iadd, 1) := by decide +kernel
theorem dX2_add_73 : decode cX2_add 73 = .ok (.invokestatic 34, 3) := by decide +kernel
theorem dX2_add_76 : decode cX2_add 76 = .ok (.aload_n 0, 1) := by decide +kernel
theorem dX2_add_77 : decode cX2_add 77 = .ok (.getfield 9, 3) := by decide +kernel
theorem dX2_add_80 : decode cX2_add 80 = .ok (.iload_n 2, 1) := by decide +kernel
theorem dX2_add_81 : decode cX2_add 81 = .ok (.iconst 4, 1) := by decide +kernel
theorem dX2_add_82 : decode cX2_add 82 = .ok (.iadd, 1) := by decide +kernel
theorem dX2_add_83 : decode cX2_add 83 = .ok (.aload_n 1, 1) := by decide +kernel
theorem dX2_add_84 : decode cX2_add 84 = .ok (.getfield 53, 3) := by decide +kernel
theorem dX2_add_87 : decode cX2_add 87 = .ok (.invokestatic 34, 3) := by decide +kernel
theorem dX2_add_90 : decode cX2_add 90 = .ok (.aload_n 0, 1) := by decide +kernel
theorem dX2_add_91 : decode cX2_add 91 = .ok (.aload_n 0, 1) := by decide +kernel
theorem dX2_add_92 : decode cX2_add 92 = .ok (.getfield 19, 3) := by decide +kernel
theorem dX2_add_95 : decode cX2_add 95 = .ok (.iconst 1, 1) := by decide +kernel
theorem dX2_add_96 : decode cX2_add 96 = .ok (.iadd, 1) := by decide +kernel
theorem dX2_add_97 : decode cX2_add 97 = .ok (.bipush 12, 2) := by decide +kernel
theorem dX2_add_99 : decode cX2_add 99 = .ok (.irem, 1) := by decide +kernel
theorem dX2_add_100 : decode cX2_add 100 = .ok (.putfield 19, 3) := by decide +kernel
theorem dX2_add_103 : decode cX2_add 103 = .ok (.aload_n 0, 1) := by decide +kernel
theorem dX2_add_104 : decode cX2_add 104 = .ok (.aload_n 0, 1) := by decide +kernel
theorem dX2_add_105 : decode cX2_add 105 = .ok (.getfield 23, 3) := by decide +kernel
theorem dX2_add_108 : decode cX2_add 108 = .ok (.iconst 1, 1) := by decide +kernel
theorem dX2_add_109 : decode cX2_add 109 = .ok (.iadd, 1) := by decide +kernel
theorem dX2_add_110 : decode cX2_add 110 = .ok (.bipush 12, 2) := by decide +kernel
theorem dX2_add_112 : decode cX2_add 112 = .ok (.invokestatic 56, 3) := by decide +kernel
theorem dX2_add_115 : decode cX2_add 115 = .ok (.putfield 23, 3) := by decide +kernel
theorem dX2_add_118 : decode cX2_add 118 = .ok (.return_, 1) := by decide +kernel
theorem dX2_about_0 : decode cX2_about 0 = .ok (.aload_n 0, 1) := by decide +kernel
theorem dX2_about_1 : decode cX2_about 1 = .ok (.getfield 19, 3) := by decide +kernel
theorem dX2_about_4 : decode cX2_about 4 = .ok (.bipush 12, 2) := by decide +kernel
theorem dX2_about_6 : decode cX2_about 6 = .ok (.iadd, 1) := by decide +kernel
theorem dX2_about_7 : decode cX2_about 7 = .ok (.iconst 1, 1) := by decide +kernel
theorem dX2_about_8 : decode cX2_about 8 = .ok (.isub, 1) := by decide +kernel
theorem dX2_about_9 : decode cX2_about 9 = .ok (.iload_n 1, 1) := by decide +kernel
theorem dX2_about_10 : decode cX2_about 10 = .ok (.isub, 1) := by decide +kernel
theorem dX2_about_11 : decode cX2_about 11 = .ok (.bipush 12, 2) := by decide +kernel
theorem dX2_about_13 : decode cX2_about 13 = .ok (.irem, 1) := by decide +kernel
theorem dX2_about_14 : decode cX2_about 14 = .ok (.istore_n 3, 1) := by decide +kernel
theorem dX2_about_15 : decode cX2_about 15 = .ok (.aload_n 0, 1) := by decide +kernel
theorem dX2_about_16 : decode cX2_about 16 = .ok (.getfield 9, 3) := by decide +kernel
theorem dX2_about_19 : decode cX2_about 19 = .ok (.iload_n 3, 1) := by decide +kernel
theorem dX2_about_20 : decode cX2_about 20 = .ok (.iconst 5, 1) := by decide +kernel
theorem dX2_about_21 : decode cX2_about 21 = .ok (.imul, 1) := by decide +kernel
theorem dX2_about_22 : decode cX2_about 22 = .ok (.iload_n 2, 1) := by decide +kernel
theorem dX2_about_23 : decode cX2_about 23 = .ok (.iadd, 1) := by decide +kernel
theorem dX2_about_24 : decode cX2_about 24 = .ok (.invokestatic 62, 3) := by decide +kernel
theorem dX2_about_27 : decode cX2_about 27 = .ok (.ireturn, 1) := by decide +kernel
theorem dX3_init_0 : decode cX3_init 0 = .ok (.aload_n 0, 1) := by decide +kernel
theorem dX3_init_1 : decode cX3_init 1 = .ok (.invokespecial 3, 3) := by decide +kernel
theorem dX3_init_4 : decode cX3_init 4 = .ok (.aload_n 0, 1) := by decide +kernel
theorem dX3_init_5 : decode cX3_init 5 = .ok (.new 9, 3) := by decide +kernel
theorem dX3_init_8 : decode cX3_init 8 = .ok (.dup, 1) := by decide +kernel
theorem dX3_init_9 : decode cX3_init 9 = .ok (.invokespecial 11, 3) := by decide +kernel
theorem dX3_init_12 : decode cX3_init 12 = .ok (.putfield 12, 3) := by decide +kernel
theorem dX3_init_15 : decode cX3_init 15 = .ok (.aload_n 0, 1) := by decide +kernel
theorem dX3_init_16 : decode cX3_init 16 = .ok (.new 18, 3) := by decide +kernel
theorem dX3_init_19 : decode cX3_init 19 = .ok (.dup, 1) := by decide +kernel
theorem dX3_init_20 : decode cX3_init 20 = .ok (.invokespecial 20, 3) := by decide +kernel
theorem dX3_init_23 : decode cX3_init 23 = .ok (.putfield 21, 3) := by decide +kernel
theorem dX3_init_26 : decode cX3_init 26 = .ok (.aload_n 0, 1) := by decide +kernel
theorem dX3_init_27 : decode cX3_init 27 = .ok (.new 25, 3) := by decide +kernel
theorem dX3_init_30 : decode cX3_init 30 = .ok (.dup, 1) := by decide +kernel
theorem dX3_init_31 : decode cX3_init 31 = .ok (.invokespecial 27, 3) := by decide +kernel
theorem dX3_init_34 : decode cX3_init 34 = .ok (.putfield 28, 3) := by decide +kernel
theorem dX3_init_37 : decode cX3_init 37 = .ok (.aload_n 0, 1) := by decide +kernel
theorem dX3_init_38 : decode cX3_init 38 = .ok (.iconst 0, 1) := by decide +kernel
theorem dX3_init_39 : decode cX3_init 39 = .ok (.putfield 32, 3) := by decide +kernel
theorem dX3_init_42 : decode cX3_init 42 = .ok (.aload_n 0, 1) := by decide +kernel
theorem dX3_init_43 : decode cX3_init 43 = .ok (.iconst 5, 1) := by decide +kernel
theorem dX3_init_44 : decode cX3_init 44 = .ok (.putfield 36, 3) := by decide +kernel
theorem dX3_init_47 : decode cX3_init 47 = .ok (.return_, 1) := by decide +kernel
theorem dX3_copyFrom_0 : decode cX3_copyFrom 0 = .ok (.aload_n 0, 1) := by decide +kernel
theorem dX3_copyFrom_1 : decode cX3_copyFrom 1 = .ok (.getfield 12, 3) := by decide +kernel
theorem dX3_copyFrom_4 : decode cX3_copyFrom 4 = .ok (.aload_n 1, 1) := by decide +kernel
theorem dX3_copyFrom_5 : decode cX3_copyFrom 5 = .ok (.getfield 12, 3) := by decide +kernel
theorem dX3_copyFrom_8 : decode cX3_copyFrom 8 = .ok (.invokevirtual 39, 3) := by decide +kernel
theorem dX3_copyFrom_11 : decode cX3_copyFrom 11 = .ok (.aload_n 0, 1) := by decide +kernel
theorem dX3_copyFrom_12 : decode cX3_copyFrom 12 = .ok (.getfield 21, 3) := by decide +kernel
theorem dX3_copyFrom_15 : decode cX3_copyFrom 15 = .ok (.aload_n 1, 1) := by decide +kernel
theorem dX3_copyFrom_16 : decode cX3_copyFrom 16 = .ok (.getfield 21, 3) := by decide +kernel
theorem dX3_copyFrom_19 : decode cX3_copyFrom 19 = .ok (.invokevirtual 43, 3) := by decide +kernel
theorem dX3_copyFrom_22 : decode cX3_copyFrom 22 = .ok (.aload_n 0, 1) := by decide +kernel
theorem dX3_copyFrom_23 : decode cX3_copyFrom 23 = .ok (.getfield 28, 3) := by decide +kernel
theorem dX3_copyFrom_26 : decode cX3_copyFrom 26 = .ok (.aload_n 1, 1) := by decide +kernel
theorem dX3_copyFrom_27 : decode cX3_copyFrom 27 = .ok (.getfield 28, 3) := by decide +kernel
theorem dX3_copyFrom_30 : decode cX3_copyFrom 30 = .ok (.invokevirtual 46, 3) := by decide +kernel
theorem dX3_copyFrom_33 : decode cX3_copyFrom 33 = .ok (.aload_n 0, 1) := by decide +kernel
theorem dX3_copyFrom_34 : decode cX3_copyFrom 34 = .ok (.aload_n 1, 1) := by decide +kernel
theorem dX3_copyFrom_35 : decode cX3_copyFrom 35 = .ok (.getfield 49, 3) := by decide +kernel
theorem dX3_copyFrom_38 : decode cX3_copyFrom 38 = .ok (.putfield 49, 3) := by decide +kernel
theorem dX3_copyFrom_41 : decode cX3_copyFrom 41 = .ok (.aload_n 0, 1) := by decide +kernel
theorem dX3_copyFrom_42 : decode cX3_copyFrom 42 = .ok (.aload_n 1, 1) := by decide +kernel
theorem dX3_copyFrom_43 : decode cX3_copyFrom 43 = .ok (.getfield 32, 3) := by decide +kernel
theorem dX3_copyFrom_46 : decode cX3_copyFrom 46 = .ok (.putfield 32, 3) := by decide +kernel
theorem dX3_copyFrom_49 : decode cX3_copyFrom 49 = .ok (.aload_n 0, 1) := by decide +kernel
theorem dX3_copyFrom_50 : decode cX3_copyFrom 50 = .ok (.aload_n 1, 1) := by decide +kernel
theorem dX3_copyFrom_51 : decode cX3_copyFrom 51 = .ok (.getfield 36, 3) := by decide +kernel
theorem dX3_copyFrom_54 : decode cX3_copyFrom 54 = .ok (.putfield 36, 3) := by decide +kernel
theorem dX3_copyFrom_57 : decode cX3_copyFrom 57 = .ok (.aload_n 0, 1) := by decide +kernel
theorem dX3_copyFrom_58 : decode cX3_copyFrom 58 = .ok (.aload_n 1, 1) := by decide +kernel
theorem dX3_copyFrom_59 : decode cX3_copyFrom 59 = .ok (.getfield 52, 3) := by decide +kernel
theorem dX3_copyFrom_62 : decode cX3_copyFrom 62 = .ok (.putfield 52, 3) := by decide +kernel
theorem dX3_copyFrom_65 : decode cX3_copyFrom 65 = .ok (.aload_n 0, 1) := by decide +kernel
theorem dX3_copyFrom_66 : decode cX3_copyFrom 66 = .ok (.aload_n 1, 1) := by decide +kernel
theorem dX3_copyFrom_67 : decode cX3_copyFrom 67 = .ok (.getfield 55, 3) := by decide +kernel
theorem dX3_copyFrom_70 : decode cX3_copyFrom 70 = .ok (.putfield 55, 3) := by decide +kernel
theorem dX3_copyFrom_73 : decode cX3_copyFrom 73 = .ok (.return_, 1) := by decide +kernel
theorem dX3_beginRide_0 : decode cX3_beginRide 0 = .ok (.aload_n 0, 1) := by decide +kernel
theorem dX3_beginRide_1 : decode cX3_beginRide 1 = .ok (.getfield 32, 3) := by decide +kernel
theorem dX3_beginRide_4 : decode cX3_beginRide 4 = .ok (.ifCond .eq 6, 3) := by decide +kernel
theorem dX3_beginRide_7 : decode cX3_beginRide 7 = .ok (.bipush (-5), 2) := by decide +kernel
theorem dX3_beginRide_9 : decode cX3_beginRide 9 = .ok (.ireturn, 1) := by decide +kernel
theorem dX3_beginRide_10 : decode cX3_beginRide 10 = .ok (.aload_n 0, 1) := by decide +kernel
theorem dX3_beginRide_11 : decode cX3_beginRide 11 = .ok (.getfield 12, 3) := by decide +kernel
theorem dX3_beginRide_14 : decode cX3_beginRide 14 = .ok (.aload_n 0, 1) := by decide +kernel
theorem dX3_beginRide_15 : decode cX3_beginRide 15 = .ok (.getfield 49, 3) := by decide +kernel
theorem dX3_beginRide_18 : decode cX3_beginRide 18 = .ok (.invokevirtual 58, 3) := by decide +kernel
theorem dX3_beginRide_21 : decode cX3_beginRide 21 = .ok (.istore_n 1, 1) := by decide +kernel
theorem dX3_beginRide_22 : decode cX3_beginRide 22 = .ok (.aload_n 0, 1) := by decide +kernel
theorem dX3_beginRide_23 : decode cX3_beginRide 23 = .ok (.getfield 21, 3) := by decide +kernel
theorem dX3_beginRide_26 : decode cX3_beginRide 26 = .ok (.aload_n 0, 1) := by decide +kernel
theorem dX3_beginRide_27 : decode cX3_beginRide 27 = .ok (.getfield 49, 3) := by decide +kernel
theorem dX3_beginRide_30 : decode cX3_beginRide 30 = .ok (.aload_n 0, 1) := by decide +kernel
theorem dX3_beginRide_31 : decode cX3_beginRide 31 = .ok (.getfield 12, 3) := by decide +kernel
theorem dX3_beginRide_34 : decode cX3_beginRide 34 = .ok (.iload_n 1, 1) := by decide +kernel
theorem dX3_beginRide_35 : decode cX3_beginRide 35 = .ok (.iconst 0, 1) := by decide +kernel
theorem dX3_beginRide_36 : decode cX3_beginRide 36 = .ok (.invokevirtual 62, 3) := by decide +kernel
theorem dX3_beginRide_39 : decode cX3_beginRide 39 = .ok (.invokevirtual 66, 3) := by decide +kernel
theorem dX3_beginRide_42 : decode cX3_beginRide 42 = .ok (.aload_n 0, 1) := by decide +kernel
theorem dX3_beginRide_43 : decode cX3_beginRide 43 = .ok (.iconst 1, 1) := by decide +kernel
theorem dX3_beginRide_44 : decode cX3_beginRide 44 = .ok (.putfield 32, 3) := by decide +kernel
theorem dX3_beginRide_47 : decode cX3_beginRide 47 = .ok (.iload_n 1, 1) := by decide +kernel
theorem dX3_beginRide_48 : decode cX3_beginRide 48 = .ok (.ireturn, 1) := by decide +kernel
theorem dX3_makeDrive_0 : decode cX3_makeDrive 0 = .ok (.iload_n 2, 1) := by decide +kernel
theorem dX3_makeDrive_1 : decode cX3_makeDrive 1 = .ok (.iload_n 3, 1) := by decide +kernel
theorem dX3_makeDrive_2 : decode cX3_makeDrive 2 = .ok (.invokestatic 70, 3) := by decide +kernel
theorem dX3_makeDrive_5 : decode cX3_makeDrive 5 = .ok (.ifCond .ne 6, 3) := by decide +kernel
theorem dX3_makeDrive_8 : decode cX3_makeDrive 8 = .ok (.bipush (-2), 2) := by decide +kernel
theorem dX3_makeDrive_10 : decode cX3_makeDrive 10 = .ok (.ireturn, 1) := by decide +kernel
theorem dX3_makeDrive_11 : decode cX3_makeDrive 11 = .ok (.aload_n 0, 1) := by decide +kernel
theorem dX3_makeDrive_12 : decode cX3_makeDrive 12 = .ok (.getfield 32, 3) := by decide +kernel
theorem dX3_makeDrive_15 : decode cX3_makeDrive 15 = .ok (.iconst 1, 1) := by decide +kernel
theorem dX3_makeDrive_16 : decode cX3_makeDrive 16 = .ok (.if_icmp .eq 6, 3) := by decide +kernel
theorem dX3_makeDrive_19 : decode cX3_makeDrive 19 = .ok (.bipush (-5), 2) := by decide +kernel
theorem dX3_makeDrive_21 : decode cX3_makeDrive 21 = .ok (.ireturn, 1) := by decide +kernel
theorem dX3_makeDrive_22 : decode cX3_makeDrive 22 = .ok (.aload_n 1, 1) := by decide +kernel
theorem dX3_makeDrive_23 : decode cX3_makeDrive 23 = .ok (.aload_n 0, 1) := by decide +kernel
theorem dX3_makeDrive_24 : decode cX3_makeDrive 24 = .ok (.getfield 21, 3) := by decide +kernel
theorem dX3_makeDrive_27 : decode cX3_makeDrive 27 = .ok (.invokevirtual 74, 3) := by decide +kernel
theorem dX3_makeDrive_30 : decode cX3_makeDrive 30 = .ok (.aload_n 1, 1) := by decide +kernel
theorem dX3_makeDrive_31 : decode cX3_makeDrive 31 = .ok (.iconst 1, 1) := by decide +kernel
theorem dX3_makeDrive_32 : decode cX3_makeDrive 32 = .ok (.putfield 79, 3) := by decide +kernel
theorem dX3_makeDrive_35 : decode cX3_makeDrive 35 = .ok (.aload_n 1, 1) := by decide +kernel
theorem dX3_makeDrive_36 : decode cX3_makeDrive 36 = .ok (.aload_n 0, 1) := by decide +kernel
theorem dX3_makeDrive_37 : decode cX3_makeDrive 37 = .ok (.getfield 12, 3) := by decide +kernel
theorem dX3_makeDrive_40 : decode cX3_makeDrive 40 = .ok (.aload_n 0, 1) := by decide +kernel
theorem dX3_makeDrive_41 : decode cX3_makeDrive 41 = .ok (.getfield 49, 3) := by decide +kernel
theorem dX3_makeDrive_44 : decode cX3_makeDrive 44 = .ok (.iload_n 2, 1) := by decide +kernel
theorem dX3_makeDrive_45 : decode cX3_makeDrive 45 = .ok (.iload_n 3, 1) := by decide +kernel
theorem dX3_makeDrive_46 : decode cX3_makeDrive 46 = .ok (.invokevirtual 83, 3) := by decide +kernel
theorem dX3_makeDrive_49 : decode cX3_makeDrive 49 = .ok (.aload_n 0, 1) := by decide +kernel
theorem dX3_makeDrive_50 : decode cX3_makeDrive 50 = .ok (.getfield 21, 3) := by decide +kernel
theorem dX3_makeDrive_53 : decode cX3_makeDrive 53 = .ok (.aload_n 1, 1) := by decide +kernel
theorem dX3_makeDrive_54 : decode cX3_makeDrive 54 = .ok (.getfield 87, 3) := by decide +kernel
theorem dX3_makeDrive_57 : decode cX3_makeDrive 57 = .ok (.putfield 90, 3) := by decide +kernel
theorem dX3_makeDrive_60 : decode cX3_makeDrive 60 = .ok (.aload_n 0, 1) := by decide +kernel
theorem dX3_makeDrive_61 : decode cX3_makeDrive 61 = .ok (.getfield 21, 3) := by decide +kernel
theorem dX3_makeDrive_64 : decode cX3_makeDrive 64 = .ok (.aload_n 1, 1) := by decide +kernel
theorem dX3_makeDrive_65 : decode cX3_makeDrive 65 = .ok (.getfield 91, 3) := by decide +kernel
theorem dX3_makeDrive_68 : decode cX3_makeDrive 68 = .ok (.putfield 94, 3) := by decide +kernel
theorem dX3_makeDrive_71 : decode cX3_makeDrive 71 = .ok (.aload_n 0, 1) := by decide +kernel
theorem dX3_makeDrive_72 : decode cX3_makeDrive 72 = .ok (.getfield 21, 3) := by decide +kernel
theorem dX3_makeDrive_75 : decode cX3_makeDrive 75 = .ok (.aload_n 1, 1) := by decide +kernel
theorem dX3_makeDrive_76 : decode cX3_makeDrive 76 = .ok (.getfield 95, 3) := by decide +kernel
theorem dX3_makeDrive_79 : decode cX3_makeDrive 79 = .ok (.putfield 98, 3) := by decide +kernel
theorem dX3_makeDrive_82 : decode cX3_makeDrive 82 = .ok (.aload_n 0, 1) := by decide +kernel
theorem dX3_makeDrive_83 : decode cX3_makeDrive 83 = .ok (.getfield 21, 3) := by decide +kernel
theorem dX3_makeDrive_86 : decode cX3_makeDrive 86 = .ok (.dup, 1) := by decide +kernel
theorem dX3_makeDrive_87 : decode cX3_makeDrive 87 = .ok (.getfield 99, 3) := by decide +kernel
theorem dX3_makeDrive_90 : decode cX3_makeDrive 90 = .ok (.aload_n 1, 1) := by decide +kernel
theorem dX3_makeDrive_91 : decode cX3_makeDrive 91 = .ok (.getfield 102, 3) := by decide +kernel
theorem dX3_makeDrive_94 : decode cX3_makeDrive 94 = .ok (.iadd, 1) := by decide +kernel
theorem dX3_makeDrive_95 : decode cX3_makeDrive 95 = .ok (.putfield 99, 3) := by decide +kernel
theorem dX3_makeDrive_98 : decode cX3_makeDrive 98 = .ok (.aload_n 0, 1) := by decide +kernel
theorem dX3_makeDrive_99 : decode cX3_makeDrive 99 = .ok (.getfield 21, 3) := by decide +kernel
theorem dX3_makeDrive_102 : decode cX3_makeDrive 102 = .ok (.dup, 1) := by decide +kernel
theorem dX3_makeDrive_103 : decode cX3_makeDrive 103 = .ok (.getfield 103, 3) := by decide +kernel
theorem dX3_makeDrive_106 : decode cX3_makeDrive 106 = .ok (.aload_n 1, 1) := by decide +kernel
theorem dX3_makeDrive_107 : decode cX3_makeDrive 107 = .ok (.getfield 106, 3) := by decide +kernel
theorem dX3_makeDrive_110 : decode cX3_makeDrive 110 = .ok (.iadd, 1) := by decide +kernel
theorem dX3_makeDrive_111 : decode cX3_makeDrive 111 = .ok (.putfield 103, 3) := by decide +kernel
theorem dX3_makeDrive_114 : decode cX3_makeDrive 114 = .ok (.aload_n 0, 1) := by decide +kernel
theorem dX3_makeDrive_115 : decode cX3_makeDrive 115 = .ok (.getfield 21, 3) := by decide +kernel
theorem dX3_makeDrive_118 : decode cX3_makeDrive 118 = .ok (.dup, 1) := by decide +kernel
theorem dX3_makeDrive_119 : decode cX3_makeDrive 119 = .ok (.getfield 107, 3) := by decide +kernel
theorem dX3_makeDrive_122 : decode cX3_makeDrive 122 = .ok (.iload_n 2, 1) := by decide +kernel
theorem dX3_makeDrive_123 : decode cX3_makeDrive 123 = .ok (.iadd, 1) := by decide +kernel
theorem dX3_makeDrive_124 : decode cX3_makeDrive 124 = .ok (.putfield 107, 3) := by decide +kernel
theorem dX3_makeDrive_127 : decode cX3_makeDrive 127 = .ok (.aload_n 0, 1) := by decide +kernel
theorem dX3_makeDrive_128 : decode cX3_makeDrive 128 = .ok (.getfield 21, 3) := by decide +kernel
theorem dX3_makeDrive_131 : decode cX3_makeDrive 131 = .ok (.dup, 1) := by decide +kernel
theorem dX3_makeDrive_132 : decode cX3_makeDrive 132 = .ok (.getfield 110, 3) := by decide +kernel
theorem dX3_makeDrive_135 : decode cX3_makeDrive 135 = .ok (.iload_n 3, 1) := by decide +kernel
theorem dX3_makeDrive_136 : decode cX3_makeDrive 136 = .ok (.iadd, 1) := by decide +kernel
theorem dX3_makeDrive_137 : decode cX3_makeDrive 137 = .ok (.putfield 110, 3) := by decide +kernel
theorem dX3_makeDrive_140 : decode cX3_makeDrive 140 = .ok (.aload_n 0, 1) := by decide +kernel
theorem dX3_makeDrive_141 : decode cX3_makeDrive 141 = .ok (.aload_n 0, 1) := by decide +kernel
theorem dX3_makeDrive_142 : decode cX3_makeDrive 142 = .ok (.getfield 49, 3) := by decide +kernel
theorem dX3_makeDrive_145 : decode cX3_makeDrive 145 = .ok (.iload_n 3, 1) := by decide +kernel
theorem dX3_makeDrive_146 : decode cX3_makeDrive 146 = .ok (.iadd, 1) := by decide +kernel
theorem dX3_makeDrive_147 : decode cX3_makeDrive 147 = .ok (.ldc 113, 2) := by decide +kernel
theorem dX3_makeDrive_149 : decode cX3_makeDrive 149 = .ok (.irem, 1) := by decide +kernel
theorem dX3_makeDrive_150 : decode cX3_makeDrive 150 = .ok (.putfield 49, 3) := by decide +kernel
theorem dX3_makeDrive_153 : decode cX3_makeDrive 153 = .ok (.aload_n 1, 1) := by decide +kernel
theorem dX3_makeDrive_154 : decode cX3_makeDrive 154 = .ok (.getfield 102, 3) := by decide +kernel
theorem dX3_makeDrive_157 : decode cX3_makeDrive 157 = .ok (.aload_n 1, 1) := by decide +kernel
theorem dX3_makeDrive_158 : decode cX3_makeDrive 158 = .ok (.getfield 106, 3) := by decide +kernel
theorem dX3_makeDrive_161 : decode cX3_makeDrive 161 = .ok (.iadd, 1) := by decide +kernel
theorem dX3_makeDrive_162 : decode cX3_makeDrive 162 = .ok (.ireturn, 1) := by decide +kernel
theorem dX3_letTimePass_0 : decode cX3_letTimePass 0 = .ok (.iload_n 1, 1) := by decide +kernel
theorem dX3_letTimePass_1 : decode cX3_letTimePass 1 = .ok (.iconst 1, 1) := by decide +kernel
theorem dX3_letTimePass_2 : decode cX3_letTimePass 2 = .ok (.sipush 9999, 3) := by decide +kernel
theorem dX3_letTimePass_5 : decode cX3_letTimePass 5 = .ok (.invokestatic 114, 3) := by decide +kernel
theorem dX3_letTimePass_8 : decode cX3_letTimePass 8 = .ok (.ifCond .ne 6, 3) := by decide +kernel
theorem dX3_letTimePass_11 : decode cX3_letTimePass 11 = .ok (.bipush (-2), 2) := by decide +kernel
theorem dX3_letTimePass_13 : decode cX3_letTimePass 13 = .ok (.ireturn, 1) := by decide +kernel
theorem dX3_letTimePass_14 : decode cX3_letTimePass 14 = .ok (.aload_n 0, 1) := by decide +kernel
theorem dX3_letTimePass_15 : decode cX3_letTimePass 15 = .ok (.getfield 32, 3) := by decide +kernel
theorem dX3_letTimePass_18 : decode cX3_letTimePass 18 = .ok (.iconst 1, 1) := by decide +kernel
theorem dX3_letTimePass_19 : decode cX3_letTimePass 19 = .ok (.if_icmp .ne 6, 3) := by decide +kernel
theorem dX3_letTimePass_22 : decode cX3_letTimePass 22 = .ok (.bipush (-5), 2) := by decide +kernel
theorem dX3_letTimePass_24 : decode cX3_letTimePass 24 = .ok (.ireturn, 1) := by decide +kernel
theorem dX3_letTimePass_25 : decode cX3_letTimePass 25 = .ok (.aload_n 0, 1) := by decide +kernel
theorem dX3_letTimePass_26 : decode cX3_letTimePass 26 = .ok (.getfield 32, 3) := by decide +kernel
theorem dX3_letTimePass_29 : decode cX3_letTimePass 29 = .ok (.iconst 2, 1) := by decide +kernel
theorem dX3_letTimePass_30 : decode cX3_letTimePass 30 = .ok (.if_icmp .ne 16, 3) := by decide +kernel
theorem dX3_letTimePass_33 : decode cX3_letTimePass 33 = .ok (.aload_n 0, 1) := by decide +kernel
theorem dX3_letTimePass_34 : decode cX3_letTimePass 34 = .ok (.getfield 21, 3) := by decide +kernel
theorem dX3_letTimePass_37 : decode cX3_letTimePass 37 = .ok (.dup, 1) := by decide +kernel
theorem dX3_letTimePass_38 : decode cX3_letTimePass 38 = .ok (.getfield 118, 3) := by decide +kernel
theorem dX3_letTimePass_41 : decode cX3_letTimePass 41 = .ok (.iload_n 1, 1) := by decide +kernel
theorem dX3_letTimePass_42 : decode cX3_letTimePass 42 = .ok (.iadd, 1) := by decide +kernel
theorem dX3_letTimePass_43 : decode cX3_letTimePass 43 = .ok (.putfield 118, 3) := by decide +kernel
theorem dX3_letTimePass_46 : decode cX3_letTimePass 46 = .ok (.aload_n 0, 1) := by decide +kernel
theorem dX3_letTimePass_47 : decode cX3_letTimePass 47 = .ok (.aload_n 0, 1) := by decide +kernel
theorem dX3_letTimePass_48 : decode cX3_letTimePass 48 = .ok (.getfield 49, 3) := by decide +kernel
theorem dX3_letTimePass_51 : decode cX3_letTimePass 51 = .ok (.iload_n 1, 1) := by decide +kernel
theorem dX3_letTimePass_52 : decode cX3_letTimePass 52 = .ok (.iadd, 1) := by decide +kernel
theorem dX3_letTimePass_53 : decode cX3_letTimePass 53 = .ok (.ldc 113, 2) := by decide +kernel
theorem dX3_letTimePass_55 : decode cX3_letTimePass 55 = .ok (.irem, 1) := by decide +kernel
theorem dX3_letTimePass_56 : decode cX3_letTimePass 56 = .ok (.putfield 49, 3) := by decide +kernel
theorem dX3_letTimePass_59 : decode cX3_letTimePass 59 = .ok (.aload_n 0, 1) := by decide +kernel
theorem dX3_letTimePass_60 : decode cX3_letTimePass 60 = .ok (.getfield 49, 3) := by decide +kernel
theorem dX3_letTimePass_63 : decode cX3_letTimePass 63 = .ok (.ireturn, 1) := by decide +kernel
theorem dX3_turnHalt_0 : decode cX3_turnHalt 0 = .ok (.aload_n 0, 1) := by decide +kernel
theorem dX3_turnHalt_1 : decode cX3_turnHalt 1 = .ok (.getfield 32, 3) := by decide +kernel
theorem dX3_turnHalt_4 : decode cX3_turnHalt 4 = .ok (.ifCond .ne 6, 3) := by decide +kernel
theorem dX3_turnHalt_7 : decode cX3_turnHalt 7 = .ok (.bipush (-5), 2) := by decide +kernel
theorem dX3_turnHalt_9 : decode cX3_turnHalt 9 = .ok (.ireturn, 1) := by decide +kernel
theorem dX3_turnHalt_10 : decode cX3_turnHalt 10 = .ok (.aload_n 0, 1) := by decide +kernel
theorem dX3_turnHalt_11 : decode cX3_turnHalt 11 = .ok (.aload_n 0, 1) := by decide +kernel
theorem dX3_turnHalt_12 : decode cX3_turnHalt 12 = .ok (.getfield 32, 3) := by decide +kernel
theorem dX3_turnHalt_15 : decode cX3_turnHalt 15 = .ok (.iconst 1, 1) := by decide +kernel
theorem dX3_turnHalt_16 : decode cX3_turnHalt 16 = .ok (.if_icmp .ne 7, 3) := by decide +kernel
theorem dX3_turnHalt_19 : decode cX3_turnHalt 19 = .ok (.iconst 2, 1) := by decide +kernel
theorem dX3_turnHalt_20 : decode cX3_turnHalt 20 = .ok (.goto 4, 3) := by decide +kernel
theorem dX3_turnHalt_23 : decode cX3_turnHalt 23 = .ok (.iconst 1, 1) := by decide +kernel
theorem dX3_turnHalt_24 : decode cX3_turnHalt 24 = .ok (.putfield 32, 3) := by decide +kernel
theorem dX3_turnHalt_27 : decode cX3_turnHalt 27 = .ok (.aload_n 0, 1) := by decide +kernel
theorem dX3_turnHalt_28 : decode cX3_turnHalt 28 = .ok (.getfield 32, 3) := by decide +kernel
theorem dX3_turnHalt_31 : decode cX3_turnHalt 31 = .ok (.ireturn, 1) := by decide +kernel
theorem dX3_takeExtra_0 : decode cX3_takeExtra 0 = .ok (.aload_n 0, 1) := by decide +kernel
theorem dX3_takeExtra_1 : decode cX3_takeExtra 1 = .ok (.getfield 32, 3) := by decide +kernel
theorem dX3_takeExtra_4 : decode cX3_takeExtra 4 = .ok (.ifCond .ne 6, 3) := by decide +kernel
theorem dX3_takeExtra_7 : decode cX3_takeExtra 7 = .ok (.bipush (-5), 2) := by decide +kernel
theorem dX3_takeExtra_9 : decode cX3_takeExtra 9 = .ok (.ireturn, 1) := by decide +kernel
theorem dX3_takeExtra_10 : decode cX3_takeExtra 10 = .ok (.aload_n 0, 1) := by decide +kernel
theorem dX3_takeExtra_11 : decode cX3_takeExtra 11 = .ok (.getfield 21, 3) := by decide +kernel
theorem dX3_takeExtra_14 : decode cX3_takeExtra 14 = .ok (.getfield 121, 3) := by decide +kernel
theorem dX3_takeExtra_17 : decode cX3_takeExtra 17 = .ok (.bipush 9, 2) := by decide +kernel
theorem dX3_takeExtra_19 : decode cX3_takeExtra 19 = .ok (.if_icmp .lt 6, 3) := by decide +kernel
theorem dX3_takeExtra_22 : decode cX3_takeExtra 22 = .ok (.bipush (-4), 2) := by decide +kernel
theorem dX3_takeExtra_24 : decode cX3_takeExtra 24 = .ok (.ireturn, 1) := by decide +kernel
theorem dX3_takeExtra_25 : decode cX3_takeExtra 25 = .ok (.aload_n 0, 1) := by decide +kernel
theorem dX3_takeExtra_26 : decode cX3_takeExtra 26 = .ok (.getfield 21, 3) := by decide +kernel
theorem dX3_takeExtra_29 : decode cX3_takeExtra 29 = .ok (.dup, 1) := by decide +kernel
theorem dX3_takeExtra_30 : decode cX3_takeExtra 30 = .ok (.getfield 121, 3) := by decide +kernel
theorem dX3_takeExtra_33 : decode cX3_takeExtra 33 = .ok (.iconst 1, 1) := by decide +kernel
theorem dX3_takeExtra_34 : decode cX3_takeExtra 34 = .ok (.iadd, 1) := by decide +kernel
theorem dX3_takeExtra_35 : decode cX3_takeExtra 35 = .ok (.putfield 121, 3) := by decide +kernel
theorem dX3_takeExtra_38 : decode cX3_takeExtra 38 = .ok (.aload_n 0, 1) := by decide +kernel
theorem dX3_takeExtra_39 : decode cX3_takeExtra 39 = .ok (.getfield 21, 3) := by decide +kernel
theorem dX3_takeExtra_42 : decode cX3_takeExtra 42 = .ok (.dup, 1) := by decide +kernel
theorem dX3_takeExtra_43 : decode cX3_takeExtra 43 = .ok (.getfield 124, 3) := by decide +kernel
theorem dX3_takeExtra_46 : decode cX3_takeExtra 46 = .ok (.aload_n 0, 1) := by decide +kernel
theorem dX3_takeExtra_47 : decode cX3_takeExtra 47 = .ok (.getfield 36, 3) := by decide +kernel
theorem dX3_takeExtra_50 : decode cX3_takeExtra 50 = .ok (.iadd, 1) := by decide +kernel
theorem dX3_takeExtra_51 : decode cX3_takeExtra 51 = .ok (.putfield 124, 3) := by decide +kernel
theorem dX3_takeExtra_54 : decode cX3_takeExtra 54 = .ok (.aload_n 0, 1) := by decide +kernel
theorem dX3_takeExtra_55 : decode cX3_takeExtra 55 = .ok (.getfield 21, 3) := by decide +kernel
theorem dX3_takeExtra_58 : decode cX3_takeExtra 58 = .ok (.getfield 121, 3) := by decide +kernel
theorem dX3_takeExtra_61 : decode cX3_takeExtra 61 = .ok (.ireturn, 1) := by decide +kernel
theorem dX3_endRide_0 : decode cX3_endRide 0 = .ok (.aload_n 0, 1) := by decide +kernel
theorem dX3_endRide_1 : decode cX3_endRide 1 = .ok (.getfield 32, 3) := by decide +kernel
theorem dX3_endRide_4 : decode cX3_endRide 4 = .ok (.ifCond .ne 6, 3) := by decide +kernel
theorem dX3_endRide_7 : decode cX3_endRide 7 = .ok (.bipush (-5), 2) := by decide +kernel
theorem dX3_endRide_9 : decode cX3_endRide 9 = .ok (.ireturn, 1) := by decide +kernel
theorem dX3_endRide_10 : decode cX3_endRide 10 = .ok (.aload_n 0, 1) := by decide +kernel
theorem dX3_endRide_11 : decode cX3_endRide 11 = .ok (.getfield 21, 3) := by decide +kernel
theorem dX3_endRide_14 : decode cX3_endRide 14 = .ok (.getfield 90, 3) := by decide +kernel
theorem dX3_endRide_17 : decode cX3_endRide 17 = .ok (.aload_n 0, 1) := by decide +kernel
theorem dX3_endRide_18 : decode cX3_endRide 18 = .ok (.getfield 21, 3) := by decide +kernel
theorem dX3_endRide_21 : decode cX3_endRide 21 = .ok (.getfield 124, 3) := by decide +kernel
theorem dX3_endRide_24 : decode cX3_endRide 24 = .ok (.iadd, 1) := by decide +kernel
theorem dX3_endRide_25 : decode cX3_endRide 25 = .ok (.istore_n 1, 1) := by decide +kernel
theorem dX3_endRide_26 : decode cX3_endRide 26 = .ok (.aload_n 0, 1) := by decide +kernel
theorem dX3_endRide_27 : decode cX3_endRide 27 = .ok (.getfield 28, 3) := by decide +kernel
theorem dX3_endRide_30 : decode cX3_endRide 30 = .ok (.aload_n 0, 1) := by decide +kernel
theorem dX3_endRide_31 : decode cX3_endRide 31 = .ok (.getfield 21, 3) := by decide +kernel
theorem dX3_endRide_34 : decode cX3_endRide 34 = .ok (.invokevirtual 127, 3) := by decide +kernel
theorem dX3_endRide_37 : decode cX3_endRide 37 = .ok (.aload_n 0, 1) := by decide +kernel
theorem dX3_endRide_38 : decode cX3_endRide 38 = .ok (.dup, 1) := by decide +kernel
theorem dX3_endRide_39 : decode cX3_endRide 39 = .ok (.getfield 52, 3) := by decide +kernel
theorem dX3_endRide_42 : decode cX3_endRide 42 = .ok (.iconst 1, 1) := by decide +kernel
theorem dX3_endRide_43 : decode cX3_endRide 43 = .ok (.iadd, 1) := by decide +kernel
theorem dX3_endRide_44 : decode cX3_endRide 44 = .ok (.putfield 52, 3) := by decide +kernel
theorem dX3_endRide_47 : decode cX3_endRide 47 = .ok (.aload_n 0, 1) := by decide +kernel
theorem dX3_endRide_48 : decode cX3_endRide 48 = .ok (.aload_n 0, 1) := by decide +kernel
theorem dX3_endRide_49 : decode cX3_endRide 49 = .ok (.getfield 55, 3) := by decide +kernel
theorem dX3_endRide_52 : decode cX3_endRide 52 = .ok (.iload_n 1, 1) := by decide +kernel
theorem dX3_endRide_53 : decode cX3_endRide 53 = .ok (.iadd, 1) := by decide +kernel
theorem dX3_endRide_54 : decode cX3_endRide 54 = .ok (.ldc 130, 2) := by decide +kernel
theorem dX3_endRide_56 : decode cX3_endRide 56 = .ok (.irem, 1) := by decide +kernel
theorem dX3_endRide_57 : decode cX3_endRide 57 = .ok (.putfield 55, 3) := by decide +kernel
theorem dX3_endRide_60 : decode cX3_endRide 60 = .ok (.aload_n 0, 1) := by decide +kernel
theorem dX3_endRide_61 : decode cX3_endRide 61 = .ok (.iconst 0, 1) := by decide +kernel
theorem dX3_endRide_62 : decode cX3_endRide 62 = .ok (.putfield 32, 3) := by decide +kernel
theorem dX3_endRide_65 : decode cX3_endRide 65 = .ok (.iload_n 1, 1) := by decide +kernel
theorem dX3_endRide_66 : decode cX3_endRide 66 = .ok (.ireturn, 1) := by decide +kernel
theorem dX4_init_0 : decode cX4_init 0 = .ok (.aload_n 0, 1) := by decide +kernel
theorem dX4_init_1 : decode cX4_init 1 = .ok (.invokespecial 3, 3) := by decide +kernel
theorem dX4_init_4 : decode cX4_init 4 = .ok (.return_, 1) := by decide +kernel
theorem dX4_start_0 : decode cX4_start 0 = .ok (.aload_n 0, 1) := by decide +kernel
theorem dX4_start_1 : decode cX4_start 1 = .ok (.iconst 0, 1) := by decide +kernel
theorem dX4_start_2 : decode cX4_start 2 = .ok (.putfield 11, 3) := by decide +kernel
theorem dX4_start_5 : decode cX4_start 5 = .ok (.aload_n 0, 1) := by decide +kernel
theorem dX4_start_6 : decode cX4_start 6 = .ok (.iconst (-1), 1) := by decide +kernel
theorem dX4_start_7 : decode cX4_start 7 = .ok (.putfield 15, 3) := by decide +kernel
theorem dX4_start_10 : decode cX4_start 10 = .ok (.return_, 1) := by decide +kernel
theorem dX4_faultOf_0 : decode cX4_faultOf 0 = .ok (.aload_n 0, 1) := by decide +kernel
theorem dX4_faultOf_1 : decode cX4_faultOf 1 = .ok (.invokevirtual 18, 3) := by decide +kernel
theorem dX4_faultOf_4 : decode cX4_faultOf 4 = .ok (.iconst 0, 1) := by decide +kernel
theorem dX4_faultOf_5 : decode cX4_faultOf 5 = .ok (.istore_n 2, 1) := by decide +kernel
theorem dX4_faultOf_6 : decode cX4_faultOf 6 = .ok (.iload_n 2, 1) := by decide +kernel
theorem dX4_faultOf_7 : decode cX4_faultOf 7 = .ok (.aload_n 1, 1) := by decide +kernel
theorem dX4_faultOf_8 : decode cX4_faultOf 8 = .ok (.getfield 21, 3) := by decide +kernel
theorem dX4_faultOf_11 : decode cX4_faultOf 11 = .ok (.if_icmp .ge 23, 3) := by decide +kernel
theorem dX4_faultOf_14 : decode cX4_faultOf 14 = .ok (.aload_n 0, 1) := by decide +kernel
theorem dX4_faultOf_15 : decode cX4_faultOf 15 = .ok (.aload_n 1, 1) := by decide +kernel
theorem dX4_faultOf_16 : decode cX4_faultOf 16 = .ok (.iload_n 2, 1) := by decide +kernel
theorem dX4_faultOf_17 : decode cX4_faultOf 17 = .ok (.invokevirtual 26, 3) := by decide +kernel
theorem dX4_faultOf_20 : decode cX4_faultOf 20 = .ok (.invokevirtual 30, 3) := by decide +kernel
theorem dX4_faultOf_23 : decode cX4_faultOf 23 = .ok (.ifCond .ne 5, 3) := by decide +kernel
theorem dX4_faultOf_26 : decode cX4_faultOf 26 = .ok (.iload_n 2, 1) := by decide +kernel
theorem dX4_faultOf_27 : decode cX4_faultOf 27 = .ok (.ireturn, 1) := by decide +kernel
theorem dX4_faultOf_28 : decode cX4_faultOf 28 = .ok (.iinc 2 1, 3) := by decide +kernel
theorem dX4_faultOf_31 : decode cX4_faultOf 31 = .ok (.goto (-25), 3) := by decide +kernel
theorem dX4_faultOf_34 : decode cX4_faultOf 34 = .ok (.aload_n 0, 1) := by decide +kernel
theorem dX4_faultOf_35 : decode cX4_faultOf 35 = .ok (.invokevirtual 34, 3) := by decide +kernel
theorem dX4_faultOf_38 : decode cX4_faultOf 38 = .ok (.ifCond .eq 8, 3) := by decide +kernel
theorem dX4_faultOf_41 : decode cX4_faultOf 41 = .ok (.bipush (-6), 2) := by decide +kernel
theorem dX4_faultOf_43 : decode cX4_faultOf 43 = .ok (.goto 7, 3) := by decide +kernel
theorem dX4_faultOf_46 : decode cX4_faultOf 46 = .ok (.aload_n 1, 1) := by decide +kernel
theorem dX4_faultOf_47 : decode cX4_faultOf 47 = .ok (.getfield 21, 3) := by decide +kernel
theorem dX4_faultOf_50 : decode cX4_faultOf 50 = .ok (.ireturn, 1) := by decide +kernel
theorem dX4_take_0 : decode cX4_take 0 = .ok (.aload_n 0, 1) := by decide +kernel
theorem dX4_take_1 : decode cX4_take 1 = .ok (.getfield 11, 3) := by decide +kernel
theorem dX4_take_4 : decode cX4_take 4 = .ok (.ifCond .ne 9, 3) := by decide +kernel
theorem dX4_take_7 : decode cX4_take 7 = .ok (.aload_n 0, 1) := by decide +kernel
theorem dX4_take_8 : decode cX4_take 8 = .ok (.iload_n 1, 1) := by decide +kernel
theorem dX4_take_9 : decode cX4_take 9 = .ok (.invokevirtual 38, 3) := by decide +kernel
theorem dX4_take_12 : decode cX4_take 12 = .ok (.ireturn, 1) := by decide +kernel
theorem dX4_take_13 : decode cX4_take 13 = .ok (.iload_n 1, 1) := by decide +kernel
theorem dX4_take_14 : decode cX4_take 14 = .ok (.bipush 48, 2) := by decide +kernel
theorem dX4_take_16 : decode cX4_take 16 = .ok (.if_icmp .lt 18, 3) := by decide +kernel
theorem dX4_take_19 : decode cX4_take 19 = .ok (.iload_n 1, 1) := by decide +kernel
theorem dX4_take_20 : decode cX4_take 20 = .ok (.bipush 57, 2) := by decide +kernel
theorem dX4_take_22 : decode cX4_take 22 = .ok (.if_icmp .gt 12, 3) := by decide +kernel
theorem dX4_take_25 : decode cX4_take 25 = .ok (.aload_n 0, 1) := by decide +kernel
theorem dX4_take_26 : decode cX4_take 26 = .ok (.iload_n 1, 1) := by decide +kernel
theorem dX4_take_27 : decode cX4_take 27 = .ok (.bipush 48, 2) := by decide +kernel
theorem dX4_take_29 : decode cX4_take 29 = .ok (.isub, 1) := by decide +kernel
theorem dX4_take_30 : decode cX4_take 30 = .ok (.invokevirtual 41, 3) := by decide +kernel
theorem dX4_take_33 : decode cX4_take 33 = .ok (.ireturn, 1) := by decide +kernel
theorem dX4_take_34 : decode cX4_take 34 = .ok (.iload_n 1, 1) := by decide +kernel
theorem dX4_take_35 : decode cX4_take 35 = .ok (.bipush 47, 2) := by decide +kernel
theorem dX4_take_37 : decode cX4_take 37 = .ok (.if_icmp .ne 39, 3) := by decide +kernel
theorem dX4_take_40 : decode cX4_take 40 = .ok (.aload_n 0, 1) := by decide +kernel
theorem dX4_take_41 : decode cX4_take 41 = .ok (.getfield 11, 3) := by decide +kernel
theorem dX4_take_44 : decode cX4_take 44 = .ok (.iconst 1, 1) := by decide +kernel
theorem dX4_take_45 : decode cX4_take 45 = .ok (.if_icmp .ne 31, 3) := by decide +kernel
theorem dX4_take_48 : decode cX4_take 48 = .ok (.aload_n 0, 1) := by decide +kernel
theorem dX4_take_49 : decode cX4_take 49 = .ok (.getfield 15, 3) := by decide +kernel
theorem dX4_take_52 : decode cX4_take 52 = .ok (.iconst (-1), 1) := by decide +kernel
theorem dX4_take_53 : decode cX4_take 53 = .ok (.if_icmp .eq 23, 3) := by decide +kernel
theorem dX4_take_56 : decode cX4_take 56 = .ok (.aload_n 0, 1) := by decide +kernel
theorem dX4_take_57 : decode cX4_take 57 = .ok (.aload_n 0, 1) := by decide +kernel
theorem dX4_take_58 : decode cX4_take 58 = .ok (.getfield 15, 3) := by decide +kernel
theorem dX4_take_61 : decode cX4_take 61 = .ok (.putfield 45, 3) := by decide +kernel
theorem dX4_take_64 : decode cX4_take 64 = .ok (.aload_n 0, 1) := by decide +kernel
theorem dX4_take_65 : decode cX4_take 65 = .ok (.iconst (-1), 1) := by decide +kernel
theorem dX4_take_66 : decode cX4_take 66 = .ok (.putfield 15, 3) := by decide +kernel
theorem dX4_take_69 : decode cX4_take 69 = .ok (.aload_n 0, 1) := by decide +kernel
theorem dX4_take_70 : decode cX4_take 70 = .ok (.iconst 2, 1) := by decide +kernel
theorem dX4_take_71 : decode cX4_take 71 = .ok (.putfield 11, 3) := by decide +kernel
theorem dX4_take_74 : decode cX4_take 74 = .ok (.iconst 1, 1) := by decide +kernel
theorem dX4_take_75 : decode cX4_take 75 = .ok (.ireturn, 1) := by decide +kernel
theorem dX4_take_76 : decode cX4_take 76 = .ok (.iload_n 1, 1) := by decide +kernel
theorem dX4_take_77 : decode cX4_take 77 = .ok (.bipush 59, 2) := by decide +kernel
theorem dX4_take_79 : decode cX4_take 79 = .ok (.if_icmp .ne 17, 3) := by decide +kernel
theorem dX4_take_82 : decode cX4_take 82 = .ok (.aload_n 0, 1) := by decide +kernel
theorem dX4_take_83 : decode cX4_take 83 = .ok (.invokevirtual 34, 3) := by decide +kernel
theorem dX4_take_86 : decode cX4_take 86 = .ok (.ifCond .eq 10, 3) := by decide +kernel
theorem dX4_take_89 : decode cX4_take 89 = .ok (.aload_n 0, 1) := by decide +kernel
theorem dX4_take_90 : decode cX4_take 90 = .ok (.iconst 0, 1) := by decide +kernel
theorem dX4_take_91 : decode cX4_take 91 = .ok (.putfield 11, 3) := by decide +kernel
theorem dX4_take_94 : decode cX4_take 94 = .ok (.iconst 1, 1) := by decide +kernel
theorem dX4_take_95 : decode cX4_take 95 = .ok (.ireturn, 1) := by decide +kernel
theorem dX4_take_96 : decode cX4_take 96 = .ok (.iconst 0, 1) := by decide +kernel
theorem dX4_take_97 : decode cX4_take 97 = .ok (.ireturn, 1) := by decide +kernel
theorem dX4_mayEnd_0 : decode cX4_mayEnd 0 = .ok (.aload_n 0, 1) := by decide +kernel
theorem dX4_mayEnd_1 : decode cX4_mayEnd 1 = .ok (.getfield 11, 3) := by decide +kernel
theorem dX4_mayEnd_4 : decode cX4_mayEnd 4 = .ok (.iconst 3, 1) := by decide +kernel
theorem dX4_mayEnd_5 : decode cX4_mayEnd 5 = .ok (.if_icmp .eq 19, 3) := by decide +kernel
theorem dX4_mayEnd_8 : decode cX4_mayEnd 8 = .ok (.aload_n 0, 1) := by decide +kernel
theorem dX4_mayEnd_9 : decode cX4_mayEnd 9 = .ok (.getfield 11, 3) := by decide +kernel
theorem dX4_mayEnd_12 : decode cX4_mayEnd 12 = .ok (.iconst 2, 1) := by decide +kernel
theorem dX4_mayEnd_13 : decode cX4_mayEnd 13 = .ok (.if_icmp .ne 15, 3) := by decide +kernel
theorem dX4_mayEnd_16 : decode cX4_mayEnd 16 = .ok (.aload_n 0, 1) := by decide +kernel
theorem dX4_mayEnd_17 : decode cX4_mayEnd 17 = .ok (.getfield 15, 3) := by decide +kernel
theorem dX4_mayEnd_20 : decode cX4_mayEnd 20 = .ok (.iconst (-1), 1) := by decide +kernel
theorem dX4_mayEnd_21 : decode cX4_mayEnd 21 = .ok (.if_icmp .eq 7, 3) := by decide +kernel
theorem dX4_mayEnd_24 : decode cX4_mayEnd 24 = .ok (.iconst 1, 1) := by decide +kernel
theorem dX4_mayEnd_25 : decode cX4_mayEnd 25 = .ok (.goto 4, 3) := by decide +kernel
theorem dX4_mayEnd_28 : decode cX4_mayEnd 28 = .ok (.iconst 0, 1) := by decide +kernel
theorem dX4_mayEnd_29 : decode cX4_mayEnd 29 = .ok (.ireturn, 1) := by decide +kernel
theorem dX4_takeLetter_0 : decode cX4_takeLetter 0 = .ok (.ldc 48, 2) := by decide +kernel
theorem dX4_takeLetter_2 : decode cX4_takeLetter 2 = .ok (.iload_n 1, 1) := by decide +kernel
theorem dX4_takeLetter_3 : decode cX4_takeLetter 3 = .ok (.invokevirtual 50, 3) := by decide +kernel
theorem dX4_takeLetter_6 : decode cX4_takeLetter 6 = .ok (.ifCond .ge 5, 3) := by decide +kernel
theorem dX4_takeLetter_9 : decode cX4_takeLetter 9 = .ok (.iconst 0, 1) := by decide +kernel
theorem dX4_takeLetter_10 : decode cX4_takeLetter 10 = .ok (.ireturn, 1) := by decide +kernel
theorem dX4_takeLetter_11 : decode cX4_takeLetter 11 = .ok (.aload_n 0, 1) := by decide +kernel
theorem dX4_takeLetter_12 : decode cX4_takeLetter 12 = .ok (.iload_n 1, 1) := by decide +kernel
theorem dX4_takeLetter_13 : decode cX4_takeLetter 13 = .ok (.putfield 56, 3) := by decide +kernel
theorem dX4_takeLetter_16 : decode cX4_takeLetter 16 = .ok (.aload_n 0, 1) := by decide +kernel
theorem dX4_takeLetter_17 : decode cX4_takeLetter 17 = .ok (.iconst (-1), 1) := by decide +kernel
theorem dX4_takeLetter_18 : decode cX4_takeLetter 18 = .ok (.putfield 15, 3) := by decide +kernel
theorem dX4_takeLetter_21 : decode cX4_takeLetter 21 = .ok (.aload_n 0, 1) := by decide +kernel
theorem dX4_takeLetter_22 : decode cX4_takeLetter 22 = .ok (.iload_n 1, 1) := by decide +kernel
theorem dX4_takeLetter_23 : decode cX4_takeLetter 23 = .ok (.bipush 100, 2) := by decide +kernel
theorem dX4_takeLetter_25 : decode cX4_takeLetter 25 = .ok (.if_icmp .ne 7, 3) := by decide +kernel
theorem dX4_takeLetter_28 : decode cX4_takeLetter 28 = .ok (.iconst 1, 1) := by decide +kernel
theorem dX4_takeLetter_29 : decode cX4_takeLetter 29 = .ok (.goto 14, 3) := by decide +kernel
theorem dX4_takeLetter_32 : decode cX4_takeLetter 32 = .ok (.iload_n 1, 1) := by decide +kernel
theorem dX4_takeLetter_33 : decode cX4_takeLetter 33 = .ok (.bipush 119, 2) := by decide +kernel
theorem dX4_takeLetter_35 : decode cX4_takeLetter 35 = .ok (.if_icmp .ne 7, 3) := by decide +kernel
theorem dX4_takeLetter_38 : decode cX4_takeLetter 38 = .ok (.iconst 2, 1) := by decide +kernel
theorem dX4_takeLetter_39 : decode cX4_takeLetter 39 = .ok (.goto 4, 3) := by decide +kernel
theorem dX4_takeLetter_42 : decode cX4_takeLetter 42 = .ok (.iconst 3, 1) := by decide +kernel
theorem dX4_takeLetter_43 : decode cX4_takeLetter 43 = .ok (.putfield 11, 3) := by decide +kernel
theorem dX4_takeLetter_46 : decode cX4_takeLetter 46 = .ok (.iconst 1, 1) := by decide +kernel
theorem dX4_takeLetter_47 : decode cX4_takeLetter 47 = .ok (.ireturn, 1) := by decide +kernel
theorem dX4_takeDigit_0 : decode cX4_takeDigit 0 = .ok (.aload_n 0, 1) := by decide +kernel
theorem dX4_takeDigit_1 : decode cX4_takeDigit 1 = .ok (.getfield 11, 3) := by decide +kernel
theorem dX4_takeDigit_4 : decode cX4_takeDigit 4 = .ok (.iconst 3, 1) := by decide +kernel
theorem dX4_takeDigit_5 : decode cX4_takeDigit 5 = .ok (.if_icmp .eq 10, 3) := by decide +kernel
theorem dX4_takeDigit_8 : decode cX4_takeDigit 8 = .ok (.aload_n 0, 1) := by decide +kernel
theorem dX4_takeDigit_9 : decode cX4_takeDigit 9 = .ok (.getfield 15, 3) := by decide +kernel
theorem dX4_takeDigit_12 : decode cX4_takeDigit 12 = .ok (.ifCond .ne 5, 3) := by decide +kernel
theorem dX4_takeDigit_15 : decode cX4_takeDigit 15 = .ok (.iconst 0, 1) := by decide +kernel
theorem dX4_takeDigit_16 : decode cX4_takeDigit 16 = .ok (.ireturn, 1) := by decide +kernel
theorem dX4_takeDigit_17 : decode cX4_takeDigit 17 = .ok (.aload_n 0, 1) := by decide +kernel
theorem dX4_takeDigit_18 : decode cX4_takeDigit 18 = .ok (.getfield 15, 3) := by decide +kernel
theorem dX4_takeDigit_21 : decode cX4_takeDigit 21 = .ok (.iconst (-1), 1) := by decide +kernel
theorem dX4_takeDigit_22 : decode cX4_takeDigit 22 = .ok (.if_icmp .ne 7, 3) := by decide +kernel
theorem dX4_takeDigit_25 : decode cX4_takeDigit 25 = .ok (.iload_n 1, 1) := by decide +kernel
theorem dX4_takeDigit_26 : decode cX4_takeDigit 26 = .ok (.goto 12, 3) := by decide +kernel
theorem dX4_takeDigit_29 : decode cX4_takeDigit 29 = .ok (.aload_n 0, 1) := by decide +kernel
theorem dX4_takeDigit_30 : decode cX4_takeDigit 30 = .ok (.getfield 15, 3) := by decide +kernel
theorem dX4_takeDigit_33 : decode cX4_takeDigit 33 = .ok (.bipush 10, 2) := by decide +kernel
theorem dX4_takeDigit_35 : decode cX4_takeDigit 35 = .ok (.imul, 1) := by decide +kernel
theorem dX4_takeDigit_36 : decode cX4_takeDigit 36 = .ok (.iload_n 1, 1) := by decide +kernel
theorem dX4_takeDigit_37 : decode cX4_takeDigit 37 = .ok (.iadd, 1) := by decide +kernel
theorem dX4_takeDigit_38 : decode cX4_takeDigit 38 = .ok (.istore_n 2, 1) := by decide +kernel
theorem dX4_takeDigit_39 : decode cX4_takeDigit 39 = .ok (.iload_n 2, 1) := by decide +kernel
theorem dX4_takeDigit_40 : decode cX4_takeDigit 40 = .ok (.sipush 9999, 3) := by decide +kernel
theorem dX4_takeDigit_43 : decode cX4_takeDigit 43 = .ok (.if_icmp .le 5, 3) := by decide +kernel
theorem dX4_takeDigit_46 : decode cX4_takeDigit 46 = .ok (.iconst 0, 1) := by decide +kernel
theorem dX4_takeDigit_47 : decode cX4_takeDigit 47 = .ok (.ireturn, 1) := by decide +kernel
theorem dX4_takeDigit_48 : decode cX4_takeDigit 48 = .ok (.aload_n 0, 1) := by decide +kernel
theorem dX4_takeDigit_49 : decode cX4_takeDigit 49 = .ok (.iload_n 2, 1) := by decide +kernel
theorem dX4_takeDigit_50 : decode cX4_takeDigit 50 = .ok (.putfield 15, 3) := by decide +kernel
theorem dX4_takeDigit_53 : decode cX4_takeDigit 53 = .ok (.iconst 1, 1) := by decide +kernel
theorem dX4_takeDigit_54 : decode cX4_takeDigit 54 = .ok (.ireturn, 1) := by decide +kernel
theorem dX5_init_0 : decode cX5_init 0 = .ok (.aload_n 0, 1) := by decide +kernel
theorem dX5_init_1 : decode cX5_init 1 = .ok (.invokespecial 1, 3) := by decide +kernel
theorem dX5_init_4 : decode cX5_init 4 = .ok (.aload_n 0, 1) := by decide +kernel
theorem dX5_init_5 : decode cX5_init 5 = .ok (.bipush 80, 2) := by decide +kernel
theorem dX5_init_7 : decode cX5_init 7 = .ok (.newarray .char, 2) := by decide +kernel
theorem dX5_init_9 : decode cX5_init 9 = .ok (.putfield 9, 3) := by decide +kernel
theorem dX5_init_12 : decode cX5_init 12 = .ok (.return_, 1) := by decide +kernel
theorem dX5_countOf_0 : decode cX5_countOf 0 = .ok (.iconst 0, 1) := by decide +kernel
theorem dX5_countOf_1 : decode cX5_countOf 1 = .ok (.istore_n 2, 1) := by decide +kernel
theorem dX5_countOf_2 : decode cX5_countOf 2 = .ok (.iconst 0, 1) := by decide +kernel
theorem dX5_countOf_3 : decode cX5_countOf 3 = .ok (.istore_n 3, 1) := by decide +kernel
theorem dX5_countOf_4 : decode cX5_countOf 4 = .ok (.iload_n 3, 1) := by decide +kernel
theorem dX5_countOf_5 : decode cX5_countOf 5 = .ok (.bipush 8, 2) := by decide +kernel
theorem dX5_countOf_7 : decode cX5_countOf 7 = .ok (.if_icmp .ge 55, 3) := by decide +kernel
theorem dX5_countOf_10 : decode cX5_countOf 10 = .ok (.lload_n 0, 1) := by decide +kernel
theorem dX5_countOf_11 : decode cX5_countOf 11 = .ok (.iload_n 3, 1) := by decide +kernel
theorem dX5_countOf_12 : decode cX5_countOf 12 = .ok (.invokestatic 13, 3) := by decide +kernel
theorem dX5_countOf_15 : decode cX5_countOf 15 = .ok (.istore 4, 2) := by decide +kernel
theorem dX5_countOf_17 : decode cX5_countOf 17 = .ok (.iload 4, 2) := by decide +kernel
theorem dX5_countOf_19 : decode cX5_countOf 19 = .ok (.ifCond .ne 20, 3) := by decide +kernel
theorem dX5_countOf_22 : decode cX5_countOf 22 = .ok (.lload_n 0, 1) := by decide +kernel
theorem dX5_countOf_23 : decode cX5_countOf 23 = .ok (.bipush 8, 2) := by decide +kernel
theorem dX5_countOf_25 : decode cX5_countOf 25 = .ok (.iload_n 3, 1) := by decide +kernel
theorem dX5_countOf_26 : decode cX5_countOf 26 = .ok (.imul, 1) := by decide +kernel
theorem dX5_countOf_27 : decode cX5_countOf 27 = .ok (.lushr, 1) := by decide +kernel
theorem dX5_countOf_28 : decode cX5_countOf 28 = .ok (.lconst 0, 1) := by decide +kernel
theorem dX5_countOf_29 : decode cX5_countOf 29 = .ok (.lcmp, 1) := by decide +kernel
theorem dX5_countOf_30 : decode cX5_countOf 30 = .ok (.ifCond .ne 7, 3) := by decide +kernel
theorem dX5_countOf_33 : decode cX5_countOf 33 = .ok (.iload_n 2, 1) := by decide +kernel
theorem dX5_countOf_34 : decode cX5_countOf 34 = .ok (.goto 4, 3) := by decide +kernel
theorem dX5_countOf_37 : decode cX5_countOf 37 = .ok (.iconst 0, 1) := by decide +kernel
theorem dX5_countOf_38 : decode cX5_countOf 38 = .ok (.ireturn, 1) := by decide +kernel
theorem dX5_countOf_39 : decode cX5_countOf 39 = .ok (.iload 4, 2) := by decide +kernel
theorem dX5_countOf_41 : decode cX5_countOf 41 = .ok (.bipush 33, 2) := by decide +kernel
theorem dX5_countOf_43 : decode cX5_countOf 43 = .ok (.bipush 126, 2) := by decide +kernel
theorem dX5_countOf_45 : decode cX5_countOf 45 = .ok (.invokestatic 17, 3) := by decide +kernel
theorem dX5_countOf_48 : decode cX5_countOf 48 = .ok (.ifCond .ne 5, 3) := by decide +kernel
theorem dX5_countOf_51 : decode cX5_countOf 51 = .ok (.iconst 0, 1) := by decide +kernel
theorem dX5_countOf_52 : decode cX5_countOf 52 = .ok (.ireturn, 1) := by decide +kernel
theorem dX5_countOf_53 : decode cX5_countOf 53 = .ok (.iinc 2 1, 3) := by decide +kernel
theorem dX5_countOf_56 : decode cX5_countOf 56 = .ok (.iinc 3 1, 3) := by decide +kernel
theorem dX5_countOf_59 : decode cX5_countOf 59 = .ok (.goto (-55), 3) := by decide +kernel
theorem dX5_countOf_62 : decode cX5_countOf 62 = .ok (.iload_n 2, 1) := by decide +kernel
theorem dX5_countOf_63 : decode cX5_countOf 63 = .ok (.ireturn, 1) := by decide +kernel
theorem dX5_codeAt_0 : decode cX5_codeAt 0 = .ok (.lload_n 0, 1) := by decide +kernel
theorem dX5_codeAt_1 : decode cX5_codeAt 1 = .ok (.bipush 8, 2) := by decide +kernel
theorem dX5_codeAt_3 : decode cX5_codeAt 3 = .ok (.iload_n 2, 1) := by decide +kernel
theorem dX5_codeAt_4 : decode cX5_codeAt 4 = .ok (.imul, 1) := by decide +kernel
theorem dX5_codeAt_5 : decode cX5_codeAt 5 = .ok (.lushr, 1) := by decide +kernel
theorem dX5_codeAt_6 : decode cX5_codeAt 6 = .ok (.l2i, 1) := by decide +kernel
theorem dX5_codeAt_7 : decode cX5_codeAt 7 = .ok (.sipush 255, 3) := by decide +kernel
theorem dX5_codeAt_10 : decode cX5_codeAt 10 = .ok (.iand, 1) := by decide +kernel
theorem dX5_codeAt_11 : decode cX5_codeAt 11 = .ok (.ireturn, 1) := by decide +kernel
theorem dX5_append_0 : decode cX5_append 0 = .ok (.iload_n 3, 1) := by decide +kernel
theorem dX5_append_1 : decode cX5_append 1 = .ok (.iconst 1, 1) := by decide +kernel
theorem dX5_append_2 : decode cX5_append 2 = .ok (.isub, 1) := by decide +kernel
theorem dX5_append_3 : decode cX5_append 3 = .ok (.istore 4, 2) := by decide +kernel
theorem dX5_append_5 : decode cX5_append 5 = .ok (.iload 4, 2) := by decide +kernel
theorem dX5_append_7 : decode cX5_append 7 = .ok (.ifCond .lt 54, 3) := by decide +kernel
theorem dX5_append_10 : decode cX5_append 10 = .ok (.aload_n 0, 1) := by decide +kernel
theorem dX5_append_11 : decode cX5_append 11 = .ok (.getfield 23, 3) := by decide +kernel
theorem dX5_append_14 : decode cX5_append 14 = .ok (.ifCond .lt 41, 3) := by decide +kernel
theorem dX5_append_17 : decode cX5_append 17 = .ok (.aload_n 0, 1) := by decide +kernel
theorem dX5_append_18 : decode cX5_append 18 = .ok (.getfield 23, 3) := by decide +kernel
theorem dX5_append_21 : decode cX5_append 21 = .ok (.aload_n 0, 1) := by decide +kernel
theorem dX5_append_22 : decode cX5_append 22 = .ok (.getfield 9, 3) := by decide +kernel
theorem dX5_append_25 : decode cX5_append 25 = .ok (.arraylength, 1) := by decide +kernel
theorem dX5_append_26 : decode cX5_append 26 = .ok (.if_icmp .ge 29, 3) := by decide +kernel
theorem dX5_append_29 : decode cX5_append 29 = .ok (.aload_n 0, 1) := by decide +kernel
theorem dX5_append_30 : decode cX5_append 30 = .ok (.getfield 9, 3) := by decide +kernel
theorem dX5_append_33 : decode cX5_append 33 = .ok (.aload_n 0, 1) := by decide +kernel
theorem dX5_append_34 : decode cX5_append 34 = .ok (.getfield 23, 3) := by decide +kernel
theorem dX5_append_37 : decode cX5_append 37 = .ok (.lload_n 1, 1) := by decide +kernel
theorem dX5_append_38 : decode cX5_append 38 = .ok (.iload 4, 2) := by decide +kernel
theorem dX5_append_40 : decode cX5_append 40 = .ok (.invokestatic 13, 3) := by decide +kernel
theorem dX5_append_43 : decode cX5_append 43 = .ok (.i2c, 1) := by decide +kernel
theorem dX5_append_44 : decode cX5_append 44 = .ok (.castore, 1) := by decide +kernel
theorem dX5_append_45 : decode cX5_append 45 = .ok (.aload_n 0, 1) := by decide +kernel
theorem dX5_append_46 : decode cX5_append 46 = .ok (.dup, 1) := by decide +kernel
theorem dX5_append_47 : decode cX5_append 47 = .ok (.getfield 23, 3) := by decide +kernel
theorem dX5_append_50 : decode cX5_append 50 = .ok (.iconst 1, 1) := by decide +kernel
theorem dX5_append_51 : decode cX5_append 51 = .ok (.iadd, 1) := by decide +kernel
theorem dX5_append_52 : decode cX5_append 52 = .ok (.putfield 23, 3) := by decide +kernel
theorem dX5_append_55 : decode cX5_append 55 = .ok (.iinc 4 (-1), 3) := by decide +kernel
theorem dX5_append_58 : decode cX5_append 58 = .ok (.goto (-53), 3) := by decide +kernel
theorem dX5_append_61 : decode cX5_append 61 = .ok (.return_, 1) := by decide +kernel
theorem dX5_signAt_0 : decode cX5_signAt 0 = .ok (.iload_n 1, 1) := by decide +kernel
theorem dX5_signAt_1 : decode cX5_signAt 1 = .ok (.ifCond .lt 21, 3) := by decide +kernel
theorem dX5_signAt_4 : decode cX5_signAt 4 = .ok (.iload_n 1, 1) := by decide +kernel
theorem dX5_signAt_5 : decode cX5_signAt 5 = .ok (.aload_n 0, 1) := by decide +kernel
theorem dX5_signAt_6 : decode cX5_signAt 6 = .ok (.getfield 9, 3) := by decide +kernel
theorem dX5_signAt_9 : decode cX5_signAt 9 = .ok (.arraylength, 1) := by decide +kernel
theorem dX5_signAt_10 : decode cX5_signAt 10 = .ok (.if_icmp .ge 12, 3) := by decide +kernel
theorem dX5_signAt_13 : decode cX5_signAt 13 = .ok (.aload_n 0, 1) := by decide +kernel
theorem dX5_signAt_14 : decode cX5_signAt 14 = .ok (.getfield 9, 3) := by decide +kernel
theorem dX5_signAt_17 : decode cX5_signAt 17 = .ok (.iload_n 1, 1) := by decide +kernel
theorem dX5_signAt_18 : decode cX5_signAt 18 = .ok (.caload, 1) := by decide +kernel
theorem dX5_signAt_19 : decode cX5_signAt 19 = .ok (.goto 4, 3) := by decide +kernel
theorem dX5_signAt_22 : decode cX5_signAt 22 = .ok (.iconst 0, 1) := by decide +kernel
theorem dX5_signAt_23 : decode cX5_signAt 23 = .ok (.ireturn, 1) := by decide +kernel
theorem dX6_init_0 : decode cX6_init 0 = .ok (.aload_n 0, 1) := by decide +kernel
theorem dX6_init_1 : decode cX6_init 1 = .ok (.invokespecial 1, 3) := by decide +kernel
theorem dX6_init_4 : decode cX6_init 4 = .ok (.return_, 1) := by decide +kernel
theorem dX6_copyFrom_0 : decode cX6_copyFrom 0 = .ok (.aload_n 0, 1) := by decide +kernel
theorem dX6_copyFrom_1 : decode cX6_copyFrom 1 = .ok (.aload_n 1, 1) := by decide +kernel
theorem dX6_copyFrom_2 : decode cX6_copyFrom 2 = .ok (.getfield 7, 3) := by decide +kernel
theorem dX6_copyFrom_5 : decode cX6_copyFrom 5 = .ok (.putfield 7, 3) := by decide +kernel
theorem dX6_copyFrom_8 : decode cX6_copyFrom 8 = .ok (.aload_n 0, 1) := by decide +kernel
theorem dX6_copyFrom_9 : decode cX6_copyFrom 9 = .ok (.aload_n 1, 1) := by decide +kernel
theorem dX6_copyFrom_10 : decode cX6_copyFrom 10 = .ok (.getfield 13, 3) := by decide +kernel
theorem dX6_copyFrom_13 : decode cX6_copyFrom 13 = .ok (.putfield 13, 3) := by decide +kernel
theorem dX6_copyFrom_16 : decode cX6_copyFrom 16 = .ok (.aload_n 0, 1) := by decide +kernel
theorem dX6_copyFrom_17 : decode cX6_copyFrom 17 = .ok (.aload_n 1, 1) := by decide +kernel
theorem dX6_copyFrom_18 : decode cX6_copyFrom 18 = .ok (.getfield 16, 3) := by decide +kernel
theorem dX6_copyFrom_21 : decode cX6_copyFrom 21 = .ok (.putfield 16, 3) := by decide +kernel
theorem dX6_copyFrom_24 : decode cX6_copyFrom 24 = .ok (.aload_n 0, 1) := by decide +kernel
theorem dX6_copyFrom_25 : decode cX6_copyFrom 25 = .ok (.aload_n 1, 1) := by decide +kernel
theorem dX6_copyFrom_26 : decode cX6_copyFrom 26 = .ok (.getfield 19, 3) := by decide +kernel
theorem dX6_copyFrom_29 : decode cX6_copyFrom 29 = .ok (.putfield 19, 3) := by decide +kernel
theorem dX6_copyFrom_32 : decode cX6_copyFrom 32 = .ok (.aload_n 0, 1) := by decide +kernel
theorem dX6_copyFrom_33 : decode cX6_copyFrom 33 = .ok (.aload_n 1, 1) := by decide +kernel
theorem dX6_copyFrom_34 : decode cX6_copyFrom 34 = .ok (.getfield 22, 3) := by decide +kernel
theorem dX6_copyFrom_37 : decode cX6_copyFrom 37 = .ok (.putfield 22, 3) := by decide +kernel
theorem dX6_copyFrom_40 : decode cX6_copyFrom 40 = .ok (.aload_n 0, 1) := by decide +kernel
theorem dX6_copyFrom_41 : decode cX6_copyFrom 41 = .ok (.aload_n 1, 1) := by decide +kernel
theorem dX6_copyFrom_42 : decode cX6_copyFrom 42 = .ok (.getfield 25, 3) := by decide +kernel
theorem dX6_copyFrom_45 : decode cX6_copyFrom 45 = .ok (.putfield 25, 3) := by decide +kernel
theorem dX6_copyFrom_48 : decode cX6_copyFrom 48 = .ok (.aload_n 0, 1) := by decide +kernel
theorem dX6_copyFrom_49 : decode cX6_copyFrom 49 = .ok (.aload_n 1, 1) := by decide +kernel
theorem dX6_copyFrom_50 : decode cX6_copyFrom 50 = .ok (.getfield 28, 3) := by decide +kernel
theorem dX6_copyFrom_53 : decode cX6_copyFrom 53 = .ok (.putfield 28, 3) := by decide +kernel
theorem dX6_copyFrom_56 : decode cX6_copyFrom 56 = .ok (.aload_n 0, 1) := by decide +kernel
theorem dX6_copyFrom_57 : decode cX6_copyFrom 57 = .ok (.aload_n 1, 1) := by decide +kernel
theorem dX6_copyFrom_58 : decode cX6_copyFrom 58 = .ok (.getfield 31, 3) := by decide +kernel
theorem dX6_copyFrom_61 : decode cX6_copyFrom 61 = .ok (.putfield 31, 3) := by decide +kernel
theorem dX6_copyFrom_64 : decode cX6_copyFrom 64 = .ok (.aload_n 0, 1) := by decide +kernel
theorem dX6_copyFrom_65 : decode cX6_copyFrom 65 = .ok (.aload_n 1, 1) := by decide +kernel
theorem dX6_copyFrom_66 : decode cX6_copyFrom 66 = .ok (.getfield 34, 3) := by decide +kernel
theorem dX6_copyFrom_69 : decode cX6_copyFrom 69 = .ok (.putfield 34, 3) := by decide +kernel
theorem dX6_copyFrom_72 : decode cX6_copyFrom 72 = .ok (.aload_n 0, 1) := by decide +kernel
theorem dX6_copyFrom_73 : decode cX6_copyFrom 73 = .ok (.aload_n 1, 1) := by decide +kernel
theorem dX6_copyFrom_74 : decode cX6_copyFrom 74 = .ok (.getfield 37, 3) := by decide +kernel
theorem dX6_copyFrom_77 : decode cX6_copyFrom 77 = .ok (.putfield 37, 3) := by decide +kernel
theorem dX6_copyFrom_80 : decode cX6_copyFrom 80 = .ok (.aload_n 0, 1) := by decide +kernel
theorem dX6_copyFrom_81 : decode cX6_copyFrom 81 = .ok (.aload_n 1, 1) := by decide +kernel
theorem dX6_copyFrom_82 : decode cX6_copyFrom 82 = .ok (.getfield 40, 3) := by decide +kernel
theorem dX6_copyFrom_85 : decode cX6_copyFrom 85 = .ok (.putfield 40, 3) := by decide +kernel
theorem dX6_copyFrom_88 : decode cX6_copyFrom 88 = .ok (.return_, 1) := by decide +kernel
theorem dX6_startAt_0 : decode cX6_startAt 0 = .ok (.aload_n 0, 1) := by decide +kernel
theorem dX6_startAt_1 : decode cX6_startAt 1 = .ok (.iload_n 1, 1) := by decide +kernel
theorem dX6_startAt_2 : decode cX6_startAt 2 = .ok (.putfield 7, 3) := by decide +kernel
theorem dX6_startAt_5 : decode cX6_startAt 5 = .ok (.aload_n 0, 1) := by decide +kernel
theorem dX6_startAt_6 : decode cX6_startAt 6 = .ok (.iload_n 2, 1) := by decide +kernel
theorem dX6_startAt_7 : decode cX6_startAt 7 = .ok (.putfield 13, 3) := by decide +kernel
theorem dX6_startAt_10 : decode cX6_startAt 10 = .ok (.aload_n 0, 1) := by decide +kernel
theorem dX6_startAt_11 : decode cX6_startAt 11 = .ok (.iconst 0, 1) := by decide +kernel
theorem dX6_startAt_12 : decode cX6_startAt 12 = .ok (.putfield 16, 3) := by decide +kernel
theorem dX6_startAt_15 : decode cX6_startAt 15 = .ok (.aload_n 0, 1) := by decide +kernel
theorem dX6_startAt_16 : decode cX6_startAt 16 = .ok (.iconst 0, 1) := by decide +kernel
theorem dX6_startAt_17 : decode cX6_startAt 17 = .ok (.putfield 19, 3) := by decide +kernel
theorem dX6_startAt_20 : decode cX6_startAt 20 = .ok (.aload_n 0, 1) := by decide +kernel
theorem dX6_startAt_21 : decode cX6_startAt 21 = .ok (.iconst 0, 1) := by decide +kernel
theorem dX6_startAt_22 : decode cX6_startAt 22 = .ok (.putfield 22, 3) := by decide +kernel
theorem dX6_startAt_25 : decode cX6_startAt 25 = .ok (.aload_n 0, 1) := by decide +kernel
theorem dX6_startAt_26 : decode cX6_startAt 26 = .ok (.iconst 0, 1) := by decide +kernel
theorem dX6_startAt_27 : decode cX6_startAt 27 = .ok (.putfield 25, 3) := by decide +kernel
theorem dX6_startAt_30 : decode cX6_startAt 30 = .ok (.aload_n 0, 1) := by decide +kernel
theorem dX6_startAt_31 : decode cX6_startAt 31 = .ok (.iconst 0, 1) := by decide +kernel
theorem dX6_startAt_32 : decode cX6_startAt 32 = .ok (.putfield 28, 3) := by decide +kernel
theorem dX6_startAt_35 : decode cX6_startAt 35 = .ok (.aload_n 0, 1) := by decide +kernel
theorem dX6_startAt_36 : decode cX6_startAt 36 = .ok (.iconst 0, 1) := by decide +kernel
theorem dX6_startAt_37 : decode cX6_startAt 37 = .ok (.putfield 31, 3) := by decide +kernel
theorem dX6_startAt_40 : decode cX6_startAt 40 = .ok (.aload_n 0, 1) := by decide +kernel
theorem dX6_startAt_41 : decode cX6_startAt 41 = .ok (.iconst 0, 1) := by decide +kernel
theorem dX6_startAt_42 : decode cX6_startAt 42 = .ok (.putfield 34, 3) := by decide +kernel
theorem dX6_startAt_45 : decode cX6_startAt 45 = .ok (.aload_n 0, 1) := by decide +kernel
theorem dX6_startAt_46 : decode cX6_startAt 46 = .ok (.iconst 0, 1) := by decide +kernel
theorem dX6_startAt_47 : decode cX6_startAt 47 = .ok (.putfield 37, 3) := by decide +kernel
theorem dX6_startAt_50 : decode cX6_startAt 50 = .ok (.aload_n 0, 1) := by decide +kernel
theorem dX6_startAt_51 : decode cX6_startAt 51 = .ok (.iconst 0, 1) := by decide +kernel
theorem dX6_startAt_52 : decode cX6_startAt 52 = .ok (.putfield 40, 3) := by decide +kernel
theorem dX6_startAt_55 : decode cX6_startAt 55 = .ok (.return_, 1) := by decide +kernel
theorem dX7_init_0 : decode cX7_init 0 = .ok (.aload_n 0, 1) := by decide +kernel
theorem dX7_init_1 : decode cX7_init 1 = .ok (.invokespecial 3, 3) := by decide +kernel
theorem dX7_init_4 : decode cX7_init 4 = .ok (.aload_n 0, 1) := by decide +kernel
theorem dX7_init_5 : decode cX7_init 5 = .ok (.new 9, 3) := by decide +kernel
theorem dX7_init_8 : decode cX7_init 8 = .ok (.dup, 1) := by decide +kernel
theorem dX7_init_9 : decode cX7_init 9 = .ok (.invokespecial 11, 3) := by decide +kernel
theorem dX7_init_12 : decode cX7_init 12 = .ok (.putfield 12, 3) := by decide +kernel
theorem dX7_init_15 : decode cX7_init 15 = .ok (.aload_n 0, 1) := by decide +kernel
theorem dX7_init_16 : decode cX7_init 16 = .ok (.new 9, 3) := by decide +kernel
theorem dX7_init_19 : decode cX7_init 19 = .ok (.dup, 1) := by decide +kernel
theorem dX7_init_20 : decode cX7_init 20 = .ok (.invokespecial 11, 3) := by decide +kernel
theorem dX7_init_23 : decode cX7_init 23 = .ok (.putfield 18, 3) := by decide +kernel
theorem dX7_init_26 : decode cX7_init 26 = .ok (.return_, 1) := by decide +kernel
theorem dX7_store_0 : decode cX7_store 0 = .ok (.iload_n 1, 1) := by decide +kernel
theorem dX7_store_1 : decode cX7_store 1 = .ok (.ifCond .ne 19, 3) := by decide +kernel
theorem dX7_store_4 : decode cX7_store 4 = .ok (.aload_n 0, 1) := by decide +kernel
theorem dX7_store_5 : decode cX7_store 5 = .ok (.getfield 12, 3) := by decide +kernel
theorem dX7_store_8 : decode cX7_store 8 = .ok (.aload_n 2, 1) := by decide +kernel
theorem dX7_store_9 : decode cX7_store 9 = .ok (.invokevirtual 21, 3) := by decide +kernel
theorem dX7_store_12 : decode cX7_store 12 = .ok (.aload_n 0, 1) := by decide +kernel
theorem dX7_store_13 : decode cX7_store 13 = .ok (.iconst 1, 1) := by decide +kernel
theorem dX7_store_14 : decode cX7_store 14 = .ok (.putfield 25, 3) := by decide +kernel
theorem dX7_store_17 : decode cX7_store 17 = .ok (.goto 16, 3) := by decide +kernel
theorem dX7_store_20 : decode cX7_store 20 = .ok (.aload_n 0, 1) := by decide +kernel
theorem dX7_store_21 : decode cX7_store 21 = .ok (.getfield 18, 3) := by decide +kernel
theorem dX7_store_24 : decode cX7_store 24 = .ok (.aload_n 2, 1) := by decide +kernel
theorem dX7_store_25 : decode cX7_store 25 = .ok (.invokevirtual 21, 3) := by decide +kernel
theorem dX7_store_28 : decode cX7_store 28 = .ok (.aload_n 0, 1) := by decide +kernel
theorem dX7_store_29 : decode cX7_store 29 = .ok (.iconst 1, 1) := by decide +kernel
theorem dX7_store_30 : decode cX7_store 30 = .ok (.putfield 29, 3) := by decide +kernel
theorem dX7_store_33 : decode cX7_store 33 = .ok (.return_, 1) := by decide +kernel
theorem dX7_fetch_0 : decode cX7_fetch 0 = .ok (.iload_n 1, 1) := by decide +kernel
theorem dX7_fetch_1 : decode cX7_fetch 1 = .ok (.ifCond .ne 13, 3) := by decide +kernel
theorem dX7_fetch_4 : decode cX7_fetch 4 = .ok (.aload_n 0, 1) := by decide +kernel
theorem dX7_fetch_5 : decode cX7_fetch 5 = .ok (.getfield 25, 3) := by decide +kernel
theorem dX7_fetch_8 : decode cX7_fetch 8 = .ok (.ifCond .ne 16, 3) := by decide +kernel
theorem dX7_fetch_11 : decode cX7_fetch 11 = .ok (.goto 10, 3) := by decide +kernel
theorem dX7_fetch_14 : decode cX7_fetch 14 = .ok (.aload_n 0, 1) := by decide +kernel
theorem dX7_fetch_15 : decode cX7_fetch 15 = .ok (.getfield 29, 3) := by decide +kernel
theorem dX7_fetch_18 : decode cX7_fetch 18 = .ok (.ifCond .ne 6, 3) := by decide +kernel
theorem dX7_fetch_21 : decode cX7_fetch 21 = .ok (.bipush (-5), 2) := by decide +kernel
theorem dX7_fetch_23 : decode cX7_fetch 23 = .ok (.ireturn, 1) := by decide +kernel
theorem dX7_fetch_24 : decode cX7_fetch 24 = .ok (.aload_n 2, 1) := by decide +kernel
theorem dX7_fetch_25 : decode cX7_fetch 25 = .ok (.iload_n 1, 1) := by decide +kernel
theorem dX7_fetch_26 : decode cX7_fetch 26 = .ok (.ifCond .ne 10, 3) := by decide +kernel
theorem dX7_fetch_29 : decode cX7_fetch 29 = .ok (.aload_n 0, 1) := by decide +kernel
theorem dX7_fetch_30 : decode cX7_fetch 30 = .ok (.getfield 12, 3) := by decide +kernel
theorem dX7_fetch_33 : decode cX7_fetch 33 = .ok (.goto 7, 3) := by decide +kernel
theorem dX7_fetch_36 : decode cX7_fetch 36 = .ok (.aload_n 0, 1) := by decide +kernel
theorem dX7_fetch_37 : decode cX7_fetch 37 = .ok (.getfield 18, 3) := by decide +kernel
theorem dX7_fetch_40 : decode cX7_fetch 40 = .ok (.invokevirtual 21, 3) := by decide +kernel
theorem dX7_fetch_43 : decode cX7_fetch 43 = .ok (.aload_n 2, 1) := by decide +kernel
theorem dX7_fetch_44 : decode cX7_fetch 44 = .ok (.getfield 32, 3) := by decide +kernel
theorem dX7_fetch_47 : decode cX7_fetch 47 = .ok (.ireturn, 1) := by decide +kernel
theorem dX8_init_0 : decode cX8_init 0 = .ok (.aload_n 0, 1) := by decide +kernel
theorem dX8_init_1 : decode cX8_init 1 = .ok (.invokespecial 3, 3) := by decide +kernel
theorem dX8_init_4 : decode cX8_init 4 = .ok (.aload_n 0, 1) := by decide +kernel
theorem dX8_init_5 : decode cX8_init 5 = .ok (.bipush 12, 2) := by decide +kernel
theorem dX8_init_7 : decode cX8_init 7 = .ok (.newarray .int, 2) := by decide +kernel
theorem dX8_init_9 : decode cX8_init 9 = .ok (.dup, 1) := by decide +kernel
theorem dX8_init_10 : decode cX8_init 10 = .ok (.iconst 0, 1) := by decide +kernel
theorem dX8_init_11 : decode cX8_init 11 = .ok (.bipush 30, 2) := by decide +kernel
theorem dX8_init_13 : decode cX8_init 13 = .ok (.iastore, 1) := by decide +kernel
theorem dX8_init_14 : decode cX8_init 14 = .ok (.dup, 1) := by decide +kernel
theorem dX8_init_15 : decode cX8_init 15 = .ok (.iconst 1, 1) := by decide +kernel
theorem dX8_init_16 : decode cX8_init 16 = .ok (.iconst 2, 1) := by decide +kernel
theorem dX8_init_17 : decode cX8_init 17 = .ok (.iastore, 1) := by decide +kernel
theorem dX8_init_18 : decode cX8_init 18 = .ok (.dup, 1) := by decide +kernel
theorem dX8_init_19 : decode cX8_init 19 = .ok (.iconst 2, 1) := by decide +kernel
theorem dX8_init_20 : decode cX8_init 20 = .ok (.bipush 100, 2) := by decide +kernel
theorem dX8_init_22 : decode cX8_init 22 = .ok (.iastore, 1) := by decide +kernel
theorem dX8_init_23 : decode cX8_init 23 = .ok (.dup, 1) := by decide +kernel
theorem dX8_init_24 : decode cX8_init 24 = .ok (.iconst 3, 1) := by decide +kernel
theorem dX8_init_25 : decode cX8_init 25 = .ok (.bipush 20, 2) := by decide +kernel
theorem dX8_init_27 : decode cX8_init 27 = .ok (.iastore, 1) := by decide +kernel
theorem dX8_init_28 : decode cX8_init 28 = .ok (.dup, 1) := by decide +kernel
theorem dX8_init_29 : decode cX8_init 29 = .ok (.iconst 4, 1) := by decide +kernel
theorem dX8_init_30 : decode cX8_init 30 = .ok (.bipush 30, 2) := by decide +kernel
theorem dX8_init_32 : decode cX8_init 32 = .ok (.iastore, 1) := by decide +kernel
theorem dX8_init_33 : decode cX8_init 33 = .ok (.dup, 1) := by decide +kernel
theorem dX8_init_34 : decode cX8_init 34 = .ok (.iconst 5, 1) := by decide +kernel
theorem dX8_init_35 : decode cX8_init 35 = .ok (.iconst 2, 1) := by decide +kernel
theorem dX8_init_36 : decode cX8_init 36 = .ok (.iastore, 1) := by decide +kernel
theorem dX8_init_37 : decode cX8_init 37 = .ok (.dup, 1) := by decide +kernel
theorem dX8_init_38 : decode cX8_init 38 = .ok (.bipush 6, 2) := by decide +kernel
theorem dX8_init_40 : decode cX8_init 40 = .ok (.bipush 90, 2) := by decide +kernel
theorem dX8_init_42 : decode cX8_init 42 = .ok (.iastore, 1) := by decide +kernel
theorem dX8_init_43 : decode cX8_init 43 = .ok (.dup, 1) := by decide +kernel
theorem dX8_init_44 : decode cX8_init 44 = .ok (.bipush 7, 2) := by decide +kernel
theorem dX8_init_46 : decode cX8_init 46 = .ok (.bipush 20, 2) := by decide +kernel
theorem dX8_init_48 : decode cX8_init 48 = .ok (.iastore, 1) := by decide +kernel
theorem dX8_init_49 : decode cX8_init 49 = .ok (.dup, 1) := by decide +kernel
theorem dX8_init_50 : decode cX8_init 50 = .ok (.bipush 8, 2) := by decide +kernel
theorem dX8_init_52 : decode cX8_init 52 = .ok (.bipush 30, 2) := by decide +kernel
theorem dX8_init_54 : decode cX8_init 54 = .ok (.iastore, 1) := by decide +kernel
theorem dX8_init_55 : decode cX8_init 55 = .ok (.dup, 1) := by decide +kernel
theorem dX8_init_56 : decode cX8_init 56 = .ok (.bipush 9, 2) := by decide +kernel
theorem dX8_init_58 : decode cX8_init 58 = .ok (.iconst 2, 1) := by decide +kernel
theorem dX8_init_59 : decode cX8_init 59 = .ok (.iastore, 1) := by decide +kernel
theorem dX8_init_60 : decode cX8_init 60 = .ok (.dup, 1) := by decide +kernel
theorem dX8_init_61 : decode cX8_init 61 = .ok (.bipush 10, 2) := by decide +kernel
theorem dX8_init_63 : decode cX8_init 63 = .ok (.bipush 80, 2) := by decide +kernel
theorem dX8_init_65 : decode cX8_init 65 = .ok (.iastore, 1) := by decide +kernel
theorem dX8_init_66 : decode cX8_init 66 = .ok (.dup, 1) := by decide +kernel
theorem dX8_init_67 : decode cX8_init 67 = .ok (.bipush 11, 2) := by decide +kernel
theorem dX8_init_69 : decode cX8_init 69 = .ok (.bipush 20, 2) := by decide +kernel
theorem dX8_init_71 : decode cX8_init 71 = .ok (.iastore, 1) := by decide +kernel
theorem dX8_init_72 : decode cX8_init 72 = .ok (.putfield 9, 3) := by decide +kernel
theorem dX8_init_75 : decode cX8_init 75 = .ok (.aload_n 0, 1) := by decide +kernel
theorem dX8_init_76 : decode cX8_init 76 = .ok (.bipush 24, 2) := by decide +kernel
theorem dX8_init_78 : decode cX8_init 78 = .ok (.newarray .int, 2) := by decide +kernel
theorem dX8_init_80 : decode cX8_init 80 = .ok (.putfield 15, 3) := by decide +kernel
theorem dX8_init_83 : decode cX8_init 83 = .ok (.return_, 1) := by decide +kernel
theorem dX8_copyFrom_0 : decode cX8_copyFrom 0 = .ok (.aload_n 1, 1) := by decide +kernel
theorem dX8_copyFrom_1 : decode cX8_copyFrom 1 = .ok (.getfield 9, 3) := by decide +kernel
theorem dX8_copyFrom_4 : decode cX8_copyFrom 4 = .ok (.aload_n 0, 1) := by decide +kernel
theorem dX8_copyFrom_5 : decode cX8_copyFrom 5 = .ok (.getfield 9, 3) := by decide +kernel
theorem dX8_copyFrom_8 : decode cX8_copyFrom 8 = .ok (.invokestatic 18, 3) := by decide +kernel
theorem dX8_copyFrom_11 : decode cX8_copyFrom 11 = .ok (.aload_n 1, 1) := by decide +kernel
theorem dX8_copyFrom_12 : decode cX8_copyFrom 12 = .ok (.getfield 15, 3) := by decide +kernel
theorem dX8_copyFrom_15 : decode cX8_copyFrom 15 = .ok (.aload_n 0, 1) := by decide +kernel
theorem dX8_copyFrom_16 : decode cX8_copyFrom 16 = .ok (.getfield 15, 3) := by decide +kernel
theorem dX8_copyFrom_19 : decode cX8_copyFrom 19 = .ok (.invokestatic 18, 3) := by decide +kernel
theorem dX8_copyFrom_22 : decode cX8_copyFrom 22 = .ok (.return_, 1) := by decide +kernel
theorem dX8_about_0 : decode cX8_about 0 = .ok (.aload_n 0, 1) := by decide +kernel
theorem dX8_about_1 : decode cX8_about 1 = .ok (.getfield 9, 3) := by decide +kernel
theorem dX8_about_4 : decode cX8_about 4 = .ok (.iload_n 1, 1) := by decide +kernel
theorem dX8_about_5 : decode cX8_about 5 = .ok (.iconst 4, 1) := by decide +kernel
theorem dX8_about_6 : decode cX8_about 6 = .ok (.imul, 1) := by decide +kernel
theorem dX8_about_7 : decode cX8_about 7 = .ok (.iload_n 2, 1) := by decide +kernel
theorem dX8_about_8 : decode cX8_about 8 = .ok (.iadd, 1) := by decide +kernel
theorem dX8_about_9 : decode cX8_about 9 = .ok (.invokestatic 22, 3) := by decide +kernel
theorem dX8_about_12 : decode cX8_about 12 = .ok (.ireturn, 1) := by decide +kernel
theorem dX8_change_0 : decode cX8_change 0 = .ok (.aload_n 0, 1) := by decide +kernel
theorem dX8_change_1 : decode cX8_change 1 = .ok (.getfield 9, 3) := by decide +kernel
theorem dX8_change_4 : decode cX8_change 4 = .ok (.iload_n 1, 1) := by decide +kernel
theorem dX8_change_5 : decode cX8_change 5 = .ok (.iconst 4, 1) := by decide +kernel
theorem dX8_change_6 : decode cX8_change 6 = .ok (.imul, 1) := by decide +kernel
theorem dX8_change_7 : decode cX8_change 7 = .ok (.iload_n 2, 1) := by decide +kernel
theorem dX8_change_8 : decode cX8_change 8 = .ok (.iadd, 1) := by decide +kernel
theorem dX8_change_9 : decode cX8_change 9 = .ok (.iload_n 3, 1) := by decide +kernel
theorem dX8_change_10 : decode cX8_change 10 = .ok (.invokestatic 26, 3) := by decide +kernel
theorem dX8_change_13 : decode cX8_change 13 = .ok (.return_, 1) := by decide +kernel
theorem dX8_ofHour_0 : decode cX8_ofHour 0 = .ok (.aload_n 0, 1) := by decide +kernel
theorem dX8_ofHour_1 : decode cX8_ofHour 1 = .ok (.getfield 15, 3) := by decide +kernel
theorem dX8_ofHour_4 : decode cX8_ofHour 4 = .ok (.iload_n 1, 1) := by decide +kernel
theorem dX8_ofHour_5 : decode cX8_ofHour 5 = .ok (.invokestatic 22, 3) := by decide +kernel
theorem dX8_ofHour_8 : decode cX8_ofHour 8 = .ok (.ireturn, 1) := by decide +kernel
theorem dX8_ofSecond_0 : decode cX8_ofSecond 0 = .ok (.aload_n 0, 1) := by decide +kernel
theorem dX8_ofSecond_1 : decode cX8_ofSecond 1 = .ok (.getfield 15, 3) := by decide +kernel
theorem dX8_ofSecond_4 : decode cX8_ofSecond 4 = .ok (.iload_n 1, 1) := by decide +kernel
theorem dX8_ofSecond_5 : decode cX8_ofSecond 5 = .ok (.sipush 3600, 3) := by decide +kernel
theorem dX8_ofSecond_8 : decode cX8_ofSecond 8 = .ok (.idiv, 1) := by decide +kernel
theorem dX8_ofSecond_9 : decode cX8_ofSecond 9 = .ok (.invokestatic 22, 3) := by decide +kernel
theorem dX8_ofSecond_12 : decode cX8_ofSecond 12 = .ok (.ireturn, 1) := by decide +kernel
theorem dX8_giveHour_0 : decode cX8_giveHour 0 = .ok (.aload_n 0, 1) := by decide +kernel
theorem dX8_giveHour_1 : decode cX8_giveHour 1 = .ok (.getfield 15, 3) := by decide +kernel
theorem dX8_giveHour_4 : decode cX8_giveHour 4 = .ok (.iload_n 1, 1) := by decide +kernel
theorem dX8_giveHour_5 : decode cX8_giveHour 5 = .ok (.iload_n 2, 1) := by decide +kernel
theorem dX8_giveHour_6 : decode cX8_giveHour 6 = .ok (.invokestatic 26, 3) := by decide +kernel
theorem dX8_giveHour_9 : decode cX8_giveHour 9 = .ok (.return_, 1) := by decide +kernel
theorem dX8_hoursOf_0 : decode cX8_hoursOf 0 = .ok (.iconst 0, 1) := by decide +kernel
theorem dX8_hoursOf_1 : decode cX8_hoursOf 1 = .ok (.istore_n 2, 1) := by decide +kernel
theorem dX8_hoursOf_2 : decode cX8_hoursOf 2 = .ok (.iconst 0, 1) := by decide +kernel
theorem dX8_hoursOf_3 : decode cX8_hoursOf 3 = .ok (.istore_n 3, 1) := by decide +kernel
theorem dX8_hoursOf_4 : decode cX8_hoursOf 4 = .ok (.iload_n 3, 1) := by decide +kernel
theorem dX8_hoursOf_5 : decode cX8_hoursOf 5 = .ok (.bipush 24, 2) := by decide +kernel
theorem dX8_hoursOf_7 : decode cX8_hoursOf 7 = .ok (.if_icmp .ge 21, 3) := by decide +kernel
theorem dX8_hoursOf_10 : decode cX8_hoursOf 10 = .ok (.aload_n 0, 1) := by decide +kernel
theorem dX8_hoursOf_11 : decode cX8_hoursOf 11 = .ok (.iload_n 3, 1) := by decide +kernel
theorem dX8_hoursOf_12 : decode cX8_hoursOf 12 = .ok (.invokevirtual 30, 3) := by decide +kernel
theorem dX8_hoursOf_15 : decode cX8_hoursOf 15 = .ok (.iload_n 1, 1) := by decide +kernel
theorem dX8_hoursOf_16 : decode cX8_hoursOf 16 = .ok (.if_icmp .ne 6, 3) := by decide +kernel
theorem dX8_hoursOf_19 : decode cX8_hoursOf 19 = .ok (.iinc 2 1, 3) := by decide +kernel
theorem dX8_hoursOf_22 : decode cX8_hoursOf 22 = .ok (.iinc 3 1, 3) := by decide +kernel
theorem dX8_hoursOf_25 : decode cX8_hoursOf 25 = .ok (.goto (-21), 3) := by decide +kernel
theorem dX8_hoursOf_28 : decode cX8_hoursOf 28 = .ok (.iload_n 2, 1) := by decide +kernel
theorem dX8_hoursOf_29 : decode cX8_hoursOf 29 = .ok (.ireturn, 1) := by decide +kernel
theorem dX9_init_0 : decode cX9_init 0 = .ok (.aload_n 0, 1) := by decide +kernel
theorem dX9_init_1 : decode cX9_init 1 = .ok (.invokespecial 3, 3) := by decide +kernel
theorem dX9_init_4 : decode cX9_init 4 = .ok (.aload_n 0, 1) := by decide +kernel
theorem dX9_init_5 : decode cX9_init 5 = .ok (.new 9, 3) := by decide +kernel
theorem dX9_init_8 : decode cX9_init 8 = .ok (.dup, 1) := by decide +kernel
theorem dX9_init_9 : decode cX9_init 9 = .ok (.invokespecial 11, 3) := by decide +kernel
theorem dX9_init_12 : decode cX9_init 12 = .ok (.putfield 12, 3) := by decide +kernel
theorem dX9_init_15 : decode cX9_init 15 = .ok (.aload_n 0, 1) := by decide +kernel
theorem dX9_init_16 : decode cX9_init 16 = .ok (.new 16, 3) := by decide +kernel
theorem dX9_init_19 : decode cX9_init 19 = .ok (.dup, 1) := by decide +kernel
theorem dX9_init_20 : decode cX9_init 20 = .ok (.invokespecial 18, 3) := by decide +kernel
theorem dX9_init_23 : decode cX9_init 23 = .ok (.putfield 19, 3) := by decide +kernel
theorem dX9_init_26 : decode cX9_init 26 = .ok (.aload_n 0, 1) := by decide +kernel
theorem dX9_init_27 : decode cX9_init 27 = .ok (.new 23, 3) := by decide +kernel
theorem dX9_init_30 : decode cX9_init 30 = .ok (.dup, 1) := by decide +kernel
theorem dX9_init_31 : decode cX9_init 31 = .ok (.invokespecial 25, 3) := by decide +kernel
theorem dX9_init_34 : decode cX9_init 34 = .ok (.putfield 26, 3) := by decide +kernel
theorem dX9_init_37 : decode cX9_init 37 = .ok (.aload_n 0, 1) := by decide +kernel
theorem dX9_init_38 : decode cX9_init 38 = .ok (.new 30, 3) := by decide +kernel
theorem dX9_init_41 : decode cX9_init 41 = .ok (.dup, 1) := by decide +kernel
theorem dX9_init_42 : decode cX9_init 42 = .ok (.invokespecial 32, 3) := by decide +kernel
theorem dX9_init_45 : decode cX9_init 45 = .ok (.putfield 33, 3) := by decide +kernel
theorem dX9_init_48 : decode cX9_init 48 = .ok (.aload_n 0, 1) := by decide +kernel
theorem dX9_init_49 : decode cX9_init 49 = .ok (.new 37, 3) := by decide +kernel
theorem dX9_init_52 : decode cX9_init 52 = .ok (.dup, 1) := by decide +kernel
theorem dX9_init_53 : decode cX9_init 53 = .ok (.invokespecial 39, 3) := by decide +kernel
theorem dX9_init_56 : decode cX9_init 56 = .ok (.putfield 40, 3) := by decide +kernel
theorem dX9_init_59 : decode cX9_init 59 = .ok (.aload_n 0, 1) := by decide +kernel
theorem dX9_init_60 : decode cX9_init 60 = .ok (.new 44, 3) := by decide +kernel
theorem dX9_init_63 : decode cX9_init 63 = .ok (.dup, 1) := by decide +kernel
theorem dX9_init_64 : decode cX9_init 64 = .ok (.invokespecial 46, 3) := by decide +kernel
theorem dX9_init_67 : decode cX9_init 67 = .ok (.putfield 47, 3) := by decide +kernel
theorem dX9_init_70 : decode cX9_init 70 = .ok (.return_, 1) := by decide +kernel
theorem dX9_tariff_0 : decode cX9_tariff 0 = .ok (.iload_n 1, 1) := by decide +kernel
theorem dX9_tariff_1 : decode cX9_tariff 1 = .ok (.iconst 0, 1) := by decide +kernel
theorem dX9_tariff_2 : decode cX9_tariff 2 = .ok (.iconst 2, 1) := by decide +kernel
theorem dX9_tariff_3 : decode cX9_tariff 3 = .ok (.invokestatic 51, 3) := by decide +kernel
theorem dX9_tariff_6 : decode cX9_tariff 6 = .ok (.ifCond .ne 5, 3) := by decide +kernel
theorem dX9_tariff_9 : decode cX9_tariff 9 = .ok (.iconst (-1), 1) := by decide +kernel
theorem dX9_tariff_10 : decode cX9_tariff 10 = .ok (.ireturn, 1) := by decide +kernel
theorem dX9_tariff_11 : decode cX9_tariff 11 = .ok (.iload_n 2, 1) := by decide +kernel
theorem dX9_tariff_12 : decode cX9_tariff 12 = .ok (.iconst 0, 1) := by decide +kernel
theorem dX9_tariff_13 : decode cX9_tariff 13 = .ok (.sipush 999, 3) := by decide +kernel
theorem dX9_tariff_16 : decode cX9_tariff 16 = .ok (.invokestatic 51, 3) := by decide +kernel
theorem dX9_tariff_19 : decode cX9_tariff 19 = .ok (.ifCond .eq 37, 3) := by decide +kernel
theorem dX9_tariff_22 : decode cX9_tariff 22 = .ok (.iload_n 3, 1) := by decide +kernel
theorem dX9_tariff_23 : decode cX9_tariff 23 = .ok (.iconst 1, 1) := by decide +kernel
theorem dX9_tariff_24 : decode cX9_tariff 24 = .ok (.bipush 99, 2) := by decide +kernel
theorem dX9_tariff_26 : decode cX9_tariff 26 = .ok (.invokestatic 51, 3) := by decide +kernel
theorem dX9_tariff_29 : decode cX9_tariff 29 = .ok (.ifCond .eq 27, 3) := by decide +kernel
theorem dX9_tariff_32 : decode cX9_tariff 32 = .ok (.iload 4, 2) := by decide +kernel
theorem dX9_tariff_34 : decode cX9_tariff 34 = .ok (.iconst 1, 1) := by decide +kernel
theorem dX9_tariff_35 : decode cX9_tariff 35 = .ok (.sipush 999, 3) := by decide +kernel
theorem dX9_tariff_38 : decode cX9_tariff 38 = .ok (.invokestatic 51, 3) := by decide +kernel
theorem dX9_tariff_41 : decode cX9_tariff 41 = .ok (.ifCond .eq 15, 3) := by decide +kernel
theorem dX9_tariff_44 : decode cX9_tariff 44 = .ok (.iload 5, 2) := by decide +kernel
theorem dX9_tariff_46 : decode cX9_tariff 46 = .ok (.iconst 1, 1) := by decide +kernel
theorem dX9_tariff_47 : decode cX9_tariff 47 = .ok (.sipush 999, 3) := by decide +kernel
theorem dX9_tariff_50 : decode cX9_tariff 50 = .ok (.invokestatic 51, 3) := by decide +kernel
theorem dX9_tariff_53 : decode cX9_tariff 53 = .ok (.ifCond .ne 6, 3) := by decide +kernel
theorem dX9_tariff_56 : decode cX9_tariff 56 = .ok (.bipush (-2), 2) := by decide +kernel
theorem dX9_tariff_58 : decode cX9_tariff 58 = .ok (.ireturn, 1) := by decide +kernel
theorem dX9_tariff_59 : decode cX9_tariff 59 = .ok (.aload_n 0, 1) := by decide +kernel
theorem dX9_tariff_60 : decode cX9_tariff 60 = .ok (.getfield 19, 3) := by decide +kernel
theorem dX9_tariff_63 : decode cX9_tariff 63 = .ok (.aload_n 0, 1) := by decide +kernel
theorem dX9_tariff_64 : decode cX9_tariff 64 = .ok (.getfield 12, 3) := by decide +kernel
theorem dX9_tariff_67 : decode cX9_tariff 67 = .ok (.invokevirtual 55, 3) := by decide +kernel
theorem dX9_tariff_70 : decode cX9_tariff 70 = .ok (.aload_n 0, 1) := by decide +kernel
theorem dX9_tariff_71 : decode cX9_tariff 71 = .ok (.getfield 12, 3) := by decide +kernel
theorem dX9_tariff_74 : decode cX9_tariff 74 = .ok (.getfield 59, 3) := by decide +kernel
theorem dX9_tariff_77 : decode cX9_tariff 77 = .ok (.iload_n 1, 1) := by decide +kernel
theorem dX9_tariff_78 : decode cX9_tariff 78 = .ok (.iconst 1, 1) := by decide +kernel
theorem dX9_tariff_79 : decode cX9_tariff 79 = .ok (.invokevirtual 65, 3) := by decide +kernel
theorem dX9_tariff_82 : decode cX9_tariff 82 = .ok (.istore 6, 2) := by decide +kernel
theorem dX9_tariff_84 : decode cX9_tariff 84 = .ok (.aload_n 0, 1) := by decide +kernel
theorem dX9_tariff_85 : decode cX9_tariff 85 = .ok (.getfield 12, 3) := by decide +kernel
theorem dX9_tariff_88 : decode cX9_tariff 88 = .ok (.getfield 59, 3) := by decide +kernel
theorem dX9_tariff_91 : decode cX9_tariff 91 = .ok (.iload_n 1, 1) := by decide +kernel
theorem dX9_tariff_92 : decode cX9_tariff 92 = .ok (.iconst 0, 1) := by decide +kernel
theorem dX9_tariff_93 : decode cX9_tariff 93 = .ok (.iload_n 2, 1) := by decide +kernel
theorem dX9_tariff_94 : decode cX9_tariff 94 = .ok (.invokevirtual 69, 3) := by decide +kernel
theorem dX9_tariff_97 : decode cX9_tariff 97 = .ok (.aload_n 0, 1) := by decide +kernel
theorem dX9_tariff_98 : decode cX9_tariff 98 = .ok (.getfield 12, 3) := by decide +kernel
theorem dX9_tariff_101 : decode cX9_tariff 101 = .ok (.getfield 59, 3) := by decide +kernel
theorem dX9_tariff_104 : decode cX9_tariff 104 = .ok (.iload_n 1, 1) := by decide +kernel
theorem dX9_tariff_105 : decode cX9_tariff 105 = .ok (.iconst 1, 1) := by decide +kernel
theorem dX9_tariff_106 : decode cX9_tariff 106 = .ok (.iload_n 3, 1) := by decide +kernel
theorem dX9_tariff_107 : decode cX9_tariff 107 = .ok (.invokevirtual 69, 3) := by decide +kernel
theorem dX9_tariff_110 : decode cX9_tariff 110 = .ok (.aload_n 0, 1) := by decide +kernel
theorem dX9_tariff_111 : decode cX9_tariff 111 = .ok (.getfield 12, 3) := by decide +kernel
theorem dX9_tariff_114 : decode cX9_tariff 114 = .ok (.getfield 59, 3) := by decide +kernel
theorem dX9_tariff_117 : decode cX9_tariff 117 = .ok (.iload_n 1, 1) := by decide +kernel
theorem dX9_tariff_118 : decode cX9_tariff 118 = .ok (.iconst 2, 1) := by decide +kernel
theorem dX9_tariff_119 : decode cX9_tariff 119 = .ok (.iload 4, 2) := by decide +kernel
theorem dX9_tariff_121 : decode cX9_tariff 121 = .ok (.invokevirtual 69, 3) := by decide +kernel
theorem dX9_tariff_124 : decode cX9_tariff 124 = .ok (.aload_n 0, 1) := by decide +kernel
theorem dX9_tariff_125 : decode cX9_tariff 125 = .ok (.getfield 12, 3) := by decide +kernel
theorem dX9_tariff_128 : decode cX9_tariff 128 = .ok (.getfield 59, 3) := by decide +kernel
theorem dX9_tariff_131 : decode cX9_tariff 131 = .ok (.iload_n 1, 1) := by decide +kernel
theorem dX9_tariff_132 : decode cX9_tariff 132 = .ok (.iconst 3, 1) := by decide +kernel
theorem dX9_tariff_133 : decode cX9_tariff 133 = .ok (.iload 5, 2) := by decide +kernel
theorem dX9_tariff_135 : decode cX9_tariff 135 = .ok (.invokevirtual 69, 3) := by decide +kernel
theorem dX9_tariff_138 : decode cX9_tariff 138 = .ok (.aload_n 0, 1) := by decide +kernel
theorem dX9_tariff_139 : decode cX9_tariff 139 = .ok (.getfield 19, 3) := by decide +kernel
theorem dX9_tariff_142 : decode cX9_tariff 142 = .ok (.iload 6, 2) := by decide +kernel
theorem dX9_tariff_144 : decode cX9_tariff 144 = .ok (.invokevirtual 73, 3) := by decide +kernel
theorem dX9_tariff_147 : decode cX9_tariff 147 = .ok (.ireturn, 1) := by decide +kernel
theorem dX9_hour_0 : decode cX9_hour 0 = .ok (.iload_n 1, 1) := by decide +kernel
theorem dX9_hour_1 : decode cX9_hour 1 = .ok (.iconst 0, 1) := by decide +kernel
theorem dX9_hour_2 : decode cX9_hour 2 = .ok (.bipush 23, 2) := by decide +kernel
theorem dX9_hour_4 : decode cX9_hour 4 = .ok (.invokestatic 51, 3) := by decide +kernel
theorem dX9_hour_7 : decode cX9_hour 7 = .ok (.ifCond .eq 12, 3) := by decide +kernel
theorem dX9_hour_10 : decode cX9_hour 10 = .ok (.iload_n 2, 1) := by decide +kernel
theorem dX9_hour_11 : decode cX9_hour 11 = .ok (.iconst 0, 1) := by decide +kernel
theorem dX9_hour_12 : decode cX9_hour 12 = .ok (.iconst 2, 1) := by decide +kernel
theorem dX9_hour_13 : decode cX9_hour 13 = .ok (.invokestatic 51, 3) := by decide +kernel
theorem dX9_hour_16 : decode cX9_hour 16 = .ok (.ifCond .ne 5, 3) := by decide +kernel
theorem dX9_hour_19 : decode cX9_hour 19 = .ok (.iconst (-1), 1) := by decide +kernel
theorem dX9_hour_20 : decode cX9_hour 20 = .ok (.ireturn, 1) := by decide +kernel
theorem dX9_hour_21 : decode cX9_hour 21 = .ok (.aload_n 0, 1) := by decide +kernel
theorem dX9_hour_22 : decode cX9_hour 22 = .ok (.getfield 19, 3) := by decide +kernel
theorem dX9_hour_25 : decode cX9_hour 25 = .ok (.aload_n 0, 1) := by decide +kernel
theorem dX9_hour_26 : decode cX9_hour 26 = .ok (.getfield 12, 3) := by decide +kernel
theorem dX9_hour_29 : decode cX9_hour 29 = .ok (.invokevirtual 55, 3) := by decide +kernel
theorem dX9_hour_32 : decode cX9_hour 32 = .ok (.aload_n 0, 1) := by decide +kernel
theorem dX9_hour_33 : decode cX9_hour 33 = .ok (.getfield 12, 3) := by decide +kernel
theorem dX9_hour_36 : decode cX9_hour 36 = .ok (.getfield 59, 3) := by decide +kernel
theorem dX9_hour_39 : decode cX9_hour 39 = .ok (.iload_n 1, 1) := by decide +kernel
theorem dX9_hour_40 : decode cX9_hour 40 = .ok (.invokevirtual 77, 3) := by decide +kernel
theorem dX9_hour_43 : decode cX9_hour 43 = .ok (.istore_n 3, 1) := by decide +kernel
theorem dX9_hour_44 : decode cX9_hour 44 = .ok (.aload_n 0, 1) := by decide +kernel
theorem dX9_hour_45 : decode cX9_hour 45 = .ok (.getfield 12, 3) := by decide +kernel
theorem dX9_hour_48 : decode cX9_hour 48 = .ok (.getfield 59, 3) := by decide +kernel
theorem dX9_hour_51 : decode cX9_hour 51 = .ok (.iload_n 1, 1) := by decide +kernel
theorem dX9_hour_52 : decode cX9_hour 52 = .ok (.iload_n 2, 1) := by decide +kernel
theorem dX9_hour_53 : decode cX9_hour 53 = .ok (.invokevirtual 80, 3) := by decide +kernel
theorem dX9_hour_56 : decode cX9_hour 56 = .ok (.aload_n 0, 1) := by decide +kernel
theorem dX9_hour_57 : decode cX9_hour 57 = .ok (.getfield 19, 3) := by decide +kernel
theorem dX9_hour_60 : decode cX9_hour 60 = .ok (.iload_n 3, 1) := by decide +kernel
theorem dX9_hour_61 : decode cX9_hour 61 = .ok (.invokevirtual 73, 3) := by decide +kernel
theorem dX9_hour_64 : decode cX9_hour 64 = .ok (.ireturn, 1) := by decide +kernel
theorem dX9_priceOfExtra_0 : decode cX9_priceOfExtra 0 = .ok (.iload_n 1, 1) := by decide +kernel
theorem dX9_priceOfExtra_1 : decode cX9_priceOfExtra 1 = .ok (.iconst 0, 1) := by decide +kernel
theorem dX9_priceOfExtra_2 : decode cX9_priceOfExtra 2 = .ok (.bipush 99, 2) := by decide +kernel
theorem dX9_priceOfExtra_4 : decode cX9_priceOfExtra 4 = .ok (.invokestatic 51, 3) := by decide +kernel
theorem dX9_priceOfExtra_7 : decode cX9_priceOfExtra 7 = .ok (.ifCond .ne 6, 3) := by decide +kernel
theorem dX9_priceOfExtra_10 : decode cX9_priceOfExtra 10 = .ok (.bipush (-2), 2) := by decide +kernel
theorem dX9_priceOfExtra_12 : decode cX9_priceOfExtra 12 = .ok (.ireturn, 1) := by decide +kernel
theorem dX9_priceOfExtra_13 : decode cX9_priceOfExtra 13 = .ok (.aload_n 0, 1) := by decide +kernel
theorem dX9_priceOfExtra_14 : decode cX9_priceOfExtra 14 = .ok (.getfield 19, 3) := by decide +kernel
theorem dX9_priceOfExtra_17 : decode cX9_priceOfExtra 17 = .ok (.aload_n 0, 1) := by decide +kernel
theorem dX9_priceOfExtra_18 : decode cX9_priceOfExtra 18 = .ok (.getfield 12, 3) := by decide +kernel
theorem dX9_priceOfExtra_21 : decode cX9_priceOfExtra 21 = .ok (.invokevirtual 55, 3) := by decide +kernel
theorem dX9_priceOfExtra_24 : decode cX9_priceOfExtra 24 = .ok (.aload_n 0, 1) := by decide +kernel
theorem dX9_priceOfExtra_25 : decode cX9_priceOfExtra 25 = .ok (.getfield 12, 3) := by decide +kernel
theorem dX9_priceOfExtra_28 : decode cX9_priceOfExtra 28 = .ok (.getfield 84, 3) := by decide +kernel
theorem dX9_priceOfExtra_31 : decode cX9_priceOfExtra 31 = .ok (.istore_n 2, 1) := by decide +kernel
theorem dX9_priceOfExtra_32 : decode cX9_priceOfExtra 32 = .ok (.aload_n 0, 1) := by decide +kernel
theorem dX9_priceOfExtra_33 : decode cX9_priceOfExtra 33 = .ok (.getfield 12, 3) := by decide +kernel
theorem dX9_priceOfExtra_36 : decode cX9_priceOfExtra 36 = .ok (.iload_n 1, 1) := by decide +kernel
theorem dX9_priceOfExtra_37 : decode cX9_priceOfExtra 37 = .ok (.putfield 84, 3) := by decide +kernel
theorem dX9_priceOfExtra_40 : decode cX9_priceOfExtra 40 = .ok (.aload_n 0, 1) := by decide +kernel
theorem dX9_priceOfExtra_41 : decode cX9_priceOfExtra 41 = .ok (.getfield 19, 3) := by decide +kernel
theorem dX9_priceOfExtra_44 : decode cX9_priceOfExtra 44 = .ok (.iload_n 2, 1) := by decide +kernel
theorem dX9_priceOfExtra_45 : decode cX9_priceOfExtra 45 = .ok (.invokevirtual 73, 3) := by decide +kernel
theorem dX9_priceOfExtra_48 : decode cX9_priceOfExtra 48 = .ok (.ireturn, 1) := by decide +kernel
theorem dX9_hire_0 : decode cX9_hire 0 = .ok (.aload_n 0, 1) := by decide +kernel
theorem dX9_hire_1 : decode cX9_hire 1 = .ok (.getfield 19, 3) := by decide +kernel
theorem dX9_hire_4 : decode cX9_hire 4 = .ok (.aload_n 0, 1) := by decide +kernel
theorem dX9_hire_5 : decode cX9_hire 5 = .ok (.getfield 12, 3) := by decide +kernel
theorem dX9_hire_8 : decode cX9_hire 8 = .ok (.invokevirtual 55, 3) := by decide +kernel
theorem dX9_hire_11 : decode cX9_hire 11 = .ok (.aload_n 0, 1) := by decide +kernel
theorem dX9_hire_12 : decode cX9_hire 12 = .ok (.getfield 19, 3) := by decide +kernel
theorem dX9_hire_15 : decode cX9_hire 15 = .ok (.aload_n 0, 1) := by decide +kernel
theorem dX9_hire_16 : decode cX9_hire 16 = .ok (.getfield 12, 3) := by decide +kernel
theorem dX9_hire_19 : decode cX9_hire 19 = .ok (.invokevirtual 88, 3) := by decide +kernel
theorem dX9_hire_22 : decode cX9_hire 22 = .ok (.invokevirtual 73, 3) := by decide +kernel
theorem dX9_hire_25 : decode cX9_hire 25 = .ok (.ireturn, 1) := by decide +kernel
theorem dX9_drive_0 : decode cX9_drive 0 = .ok (.aload_n 0, 1) := by decide +kernel
theorem dX9_drive_1 : decode cX9_drive 1 = .ok (.getfield 19, 3) := by decide +kernel
theorem dX9_drive_4 : decode cX9_drive 4 = .ok (.aload_n 0, 1) := by decide +kernel
theorem dX9_drive_5 : decode cX9_drive 5 = .ok (.getfield 12, 3) := by decide +kernel
theorem dX9_drive_8 : decode cX9_drive 8 = .ok (.invokevirtual 55, 3) := by decide +kernel
theorem dX9_drive_11 : decode cX9_drive 11 = .ok (.aload_n 0, 1) := by decide +kernel
theorem dX9_drive_12 : decode cX9_drive 12 = .ok (.getfield 19, 3) := by decide +kernel
theorem dX9_drive_15 : decode cX9_drive 15 = .ok (.aload_n 0, 1) := by decide +kernel
theorem dX9_drive_16 : decode cX9_drive 16 = .ok (.getfield 12, 3) := by decide +kernel
theorem dX9_drive_19 : decode cX9_drive 19 = .ok (.aload_n 0, 1) := by decide +kernel
theorem dX9_drive_20 : decode cX9_drive 20 = .ok (.getfield 47, 3) := by decide +kernel
theorem dX9_drive_23 : decode cX9_drive 23 = .ok (.iload_n 1, 1) := by decide +kernel
theorem dX9_drive_24 : decode cX9_drive 24 = .ok (.iload_n 2, 1) := by decide +kernel
theorem dX9_drive_25 : decode cX9_drive 25 = .ok (.invokevirtual 92, 3) := by decide +kernel
theorem dX9_drive_28 : decode cX9_drive 28 = .ok (.invokevirtual 73, 3) := by decide +kernel
theorem dX9_drive_31 : decode cX9_drive 31 = .ok (.ireturn, 1) := by decide +kernel
theorem dX9_rest_0 : decode cX9_rest 0 = .ok (.aload_n 0, 1) := by decide +kernel
theorem dX9_rest_1 : decode cX9_rest 1 = .ok (.getfield 19, 3) := by decide +kernel
theorem dX9_rest_4 : decode cX9_rest 4 = .ok (.aload_n 0, 1) := by decide +kernel
theorem dX9_rest_5 : decode cX9_rest 5 = .ok (.getfield 12, 3) := by decide +kernel
theorem dX9_rest_8 : decode cX9_rest 8 = .ok (.invokevirtual 55, 3) := by decide +kernel
theorem dX9_rest_11 : decode cX9_rest 11 = .ok (.aload_n 0, 1) := by decide +kernel
theorem dX9_rest_12 : decode cX9_rest 12 = .ok (.getfield 19, 3) := by decide +kernel
theorem dX9_rest_15 : decode cX9_rest 15 = .ok (.aload_n 0, 1) := by decide +kernel
theorem dX9_rest_16 : decode cX9_rest 16 = .ok (.getfield 12, 3) := by decide +kernel
theorem dX9_rest_19 : decode cX9_rest 19 = .ok (.iload_n 1, 1) := by decide +kernel
theorem dX9_rest_20 : decode cX9_rest 20 = .ok (.invokevirtual 96, 3) := by decide +kernel
theorem dX9_rest_23 : decode cX9_rest 23 = .ok (.invokevirtual 73, 3) := by decide +kernel
theorem dX9_rest_26 : decode cX9_rest 26 = .ok (.ireturn, 1) := by decide +kernel
theorem dX9_halt_0 : decode cX9_halt 0 = .ok (.aload_n 0, 1) := by decide +kernel
theorem dX9_halt_1 : decode cX9_halt 1 = .ok (.getfield 19, 3) := by decide +kernel
theorem dX9_halt_4 : decode cX9_halt 4 = .ok (.aload_n 0, 1) := by decide +kernel
theorem dX9_halt_5 : decode cX9_halt 5 = .ok (.getfield 12, 3) := by decide +kernel
theorem dX9_halt_8 : decode cX9_halt 8 = .ok (.invokevirtual 55, 3) := by decide +kernel
theorem dX9_halt_11 : decode cX9_halt 11 = .ok (.aload_n 0, 1) := by decide +kernel
theorem dX9_halt_12 : decode cX9_halt 12 = .ok (.getfield 19, 3) := by decide +kernel
theorem dX9_halt_15 : decode cX9_halt 15 = .ok (.aload_n 0, 1) := by decide +kernel
theorem dX9_halt_16 : decode cX9_halt 16 = .ok (.getfield 12, 3) := by decide +kernel
theorem dX9_halt_19 : decode cX9_halt 19 = .ok (.invokevirtual 99, 3) := by decide +kernel
theorem dX9_halt_22 : decode cX9_halt 22 = .ok (.invokevirtual 73, 3) := by decide +kernel
theorem dX9_halt_25 : decode cX9_halt 25 = .ok (.ireturn, 1) := by decide +kernel
theorem dX9_extra_0 : decode cX9_extra 0 = .ok (.aload_n 0, 1) := by decide +kernel
theorem dX9_extra_1 : decode cX9_extra 1 = .ok (.getfield 19, 3) := by decide +kernel
theorem dX9_extra_4 : decode cX9_extra 4 = .ok (.aload_n 0, 1) := by decide +kernel
theorem dX9_extra_5 : decode cX9_extra 5 = .ok (.getfield 12, 3) := by decide +kernel
theorem dX9_extra_8 : decode cX9_extra 8 = .ok (.invokevirtual 55, 3) := by decide +kernel
theorem dX9_extra_11 : decode cX9_extra 11 = .ok (.aload_n 0, 1) := by decide +kernel
theorem dX9_extra_12 : decode cX9_extra 12 = .ok (.getfield 19, 3) := by decide +kernel
theorem dX9_extra_15 : decode cX9_extra 15 = .ok (.aload_n 0, 1) := by decide +kernel
theorem dX9_extra_16 : decode cX9_extra 16 = .ok (.getfield 12, 3) := by decide +kernel
theorem dX9_extra_19 : decode cX9_extra 19 = .ok (.invokevirtual 102, 3) := by decide +kernel
theorem dX9_extra_22 : decode cX9_extra 22 = .ok (.invokevirtual 73, 3) := by decide +kernel
theorem dX9_extra_25 : decode cX9_extra 25 = .ok (.ireturn, 1) := by decide +kernel
theorem dX9_end_0 : decode cX9_end 0 = .ok (.aload_n 0, 1) := by decide +kernel
theorem dX9_end_1 : decode cX9_end 1 = .ok (.getfield 19, 3) := by decide +kernel
theorem dX9_end_4 : decode cX9_end 4 = .ok (.aload_n 0, 1) := by decide +kernel
theorem dX9_end_5 : decode cX9_end 5 = .ok (.getfield 12, 3) := by decide +kernel
theorem dX9_end_8 : decode cX9_end 8 = .ok (.invokevirtual 55, 3) := by decide +kernel
theorem dX9_end_11 : decode cX9_end 11 = .ok (.aload_n 0, 1) := by decide +kernel
theorem dX9_end_12 : decode cX9_end 12 = .ok (.getfield 19, 3) := by decide +kernel
theorem dX9_end_15 : decode cX9_end 15 = .ok (.aload_n 0, 1) := by decide +kernel
theorem dX9_end_16 : decode cX9_end 16 = .ok (.getfield 12, 3) := by decide +kernel
theorem dX9_end_19 : decode cX9_end 19 = .ok (.invokevirtual 105, 3) := by decide +kernel
theorem dX9_end_22 : decode cX9_end 22 = .ok (.invokevirtual 73, 3) := by decide +kernel
theorem dX9_end_25 : decode cX9_end 25 = .ok (.ireturn, 1) := by decide +kernel
theorem dX9_ofTariff_0 : decode cX9_ofTariff 0 = .ok (.iload_n 1, 1) := by decide +kernel
theorem dX9_ofTariff_1 : decode cX9_ofTariff 1 = .ok (.iconst 0, 1) := by decide +kernel
theorem dX9_ofTariff_2 : decode cX9_ofTariff 2 = .ok (.iconst 2, 1) := by decide +kernel
theorem dX9_ofTariff_3 : decode cX9_ofTariff 3 = .ok (.invokestatic 51, 3) := by decide +kernel
theorem dX9_ofTariff_6 : decode cX9_ofTariff 6 = .ok (.ifCond .ne 5, 3) := by decide +kernel
theorem dX9_ofTariff_9 : decode cX9_ofTariff 9 = .ok (.iconst (-1), 1) := by decide +kernel
theorem dX9_ofTariff_10 : decode cX9_ofTariff 10 = .ok (.ireturn, 1) := by decide +kernel
theorem dX9_ofTariff_11 : decode cX9_ofTariff 11 = .ok (.iload_n 2, 1) := by decide +kernel
theorem dX9_ofTariff_12 : decode cX9_ofTariff 12 = .ok (.iconst 0, 1) := by decide +kernel
theorem dX9_ofTariff_13 : decode cX9_ofTariff 13 = .ok (.iconst 4, 1) := by decide +kernel
theorem dX9_ofTariff_14 : decode cX9_ofTariff 14 = .ok (.invokestatic 51, 3) := by decide +kernel
theorem dX9_ofTariff_17 : decode cX9_ofTariff 17 = .ok (.ifCond .ne 6, 3) := by decide +kernel
theorem dX9_ofTariff_20 : decode cX9_ofTariff 20 = .ok (.bipush (-2), 2) := by decide +kernel
theorem dX9_ofTariff_22 : decode cX9_ofTariff 22 = .ok (.ireturn, 1) := by decide +kernel
theorem dX9_ofTariff_23 : decode cX9_ofTariff 23 = .ok (.iload_n 2, 1) := by decide +kernel
theorem dX9_ofTariff_24 : decode cX9_ofTariff 24 = .ok (.iconst 4, 1) := by decide +kernel
theorem dX9_ofTariff_25 : decode cX9_ofTariff 25 = .ok (.if_icmp .ne 17, 3) := by decide +kernel
theorem dX9_ofTariff_28 : decode cX9_ofTariff 28 = .ok (.aload_n 0, 1) := by decide +kernel
theorem dX9_ofTariff_29 : decode cX9_ofTariff 29 = .ok (.getfield 12, 3) := by decide +kernel
theorem dX9_ofTariff_32 : decode cX9_ofTariff 32 = .ok (.getfield 59, 3) := by decide +kernel
theorem dX9_ofTariff_35 : decode cX9_ofTariff 35 = .ok (.iload_n 1, 1) := by decide +kernel
theorem dX9_ofTariff_36 : decode cX9_ofTariff 36 = .ok (.invokevirtual 108, 3) := by decide +kernel
theorem dX9_ofTariff_39 : decode cX9_ofTariff 39 = .ok (.goto 15, 3) := by decide +kernel
theorem dX9_ofTariff_42 : decode cX9_ofTariff 42 = .ok (.aload_n 0, 1) := by decide +kernel
theorem dX9_ofTariff_43 : decode cX9_ofTariff 43 = .ok (.getfield 12, 3) := by decide +kernel
theorem dX9_ofTariff_46 : decode cX9_ofTariff 46 = .ok (.getfield 59, 3) := by decide +kernel
theorem dX9_ofTariff_49 : decode cX9_ofTariff 49 = .ok (.iload_n 1, 1) := by decide +kernel
theorem dX9_ofTariff_50 : decode cX9_ofTariff 50 = .ok (.iload_n 2, 1) := by decide +kernel
theorem dX9_ofTariff_51 : decode cX9_ofTariff 51 = .ok (.invokevirtual 65, 3) := by decide +kernel
theorem dX9_ofTariff_54 : decode cX9_ofTariff 54 = .ok (.ireturn, 1) := by decide +kernel
theorem dX9_ride_0 : decode cX9_ride 0 = .ok (.aload_n 0, 1) := by decide +kernel
theorem dX9_ride_1 : decode cX9_ride 1 = .ok (.getfield 12, 3) := by decide +kernel
theorem dX9_ride_4 : decode cX9_ride 4 = .ok (.getfield 111, 3) := by decide +kernel
theorem dX9_ride_7 : decode cX9_ride 7 = .ok (.astore_n 2, 1) := by decide +kernel
theorem dX9_ride_8 : decode cX9_ride 8 = .ok (.iload_n 1, 1) := by decide +kernel
theorem dX9_ride_9 : decode cX9_ride 9 = .ok (.tableswitch 96 0 8 #[51, 56, 61, 66, 71, 76, 81, 86, 91], 51) := by decide +kernel
theorem dX9_ride_60 : decode cX9_ride 60 = .ok (.aload_n 2, 1) := by decide +kernel
theorem dX9_ride_61 : decode cX9_ride 61 = .ok (.getfield 115, 3) := by decide +kernel
theorem dX9_ride_64 : decode cX9_ride 64 = .ok (.ireturn, 1) := by decide +kernel
theorem dX9_ride_65 : decode cX9_ride 65 = .ok (.aload_n 2, 1) := by decide +kernel
theorem dX9_ride_66 : decode cX9_ride 66 = .ok (.getfield 120, 3) := by decide +kernel
theorem dX9_ride_69 : decode cX9_ride 69 = .ok (.ireturn, 1) := by decide +kernel
theorem dX9_ride_70 : decode cX9_ride 70 = .ok (.aload_n 2, 1) := by decide +kernel
theorem dX9_ride_71 : decode cX9_ride 71 = .ok (.getfield 123, 3) := by decide +kernel
theorem dX9_ride_74 : decode cX9_ride 74 = .ok (.ireturn, 1) := by decide +kernel
theorem dX9_ride_75 : decode cX9_ride 75 = .ok (.aload_n 2, 1) := by decide +kernel
theorem dX9_ride_76 : decode cX9_ride 76 = .ok (.getfield 126, 3) := by decide +kernel
theorem dX9_ride_79 : decode cX9_ride 79 = .ok (.ireturn, 1) := by decide +kernel
theorem dX9_ride_80 : decode cX9_ride 80 = .ok (.aload_n 2, 1) := by decide +kernel
theorem dX9_ride_81 : decode cX9_ride 81 = .ok (.getfield 129, 3) := by decide +kernel
theorem dX9_ride_84 : decode cX9_ride 84 = .ok (.ireturn, 1) := by decide +kernel
theorem dX9_ride_85 : decode cX9_ride 85 = .ok (.aload_n 2, 1) := by decide +kernel
theorem dX9_ride_86 : decode cX9_ride 86 = .ok (.getfield 132, 3) := by decide +kernel
theorem dX9_ride_89 : decode cX9_ride 89 = .ok (.ireturn, 1) := by decide +kernel
theorem dX9_ride_90 : decode cX9_ride 90 = .ok (.aload_n 2, 1) := by decide +kernel
theorem dX9_ride_91 : decode cX9_ride 91 = .ok (.getfield 135, 3) := by decide +kernel
theorem dX9_ride_94 : decode cX9_ride 94 = .ok (.ireturn, 1) := by decide +kernel
theorem dX9_ride_95 : decode cX9_ride 95 = .ok (.aload_n 2, 1) := by decide +kernel
theorem dX9_ride_96 : decode cX9_ride 96 = .ok (.getfield 138, 3) := by decide +kernel
theorem dX9_ride_99 : decode cX9_ride 99 = .ok (.ireturn, 1) := by decide +kernel
theorem dX9_ride_100 : decode cX9_ride 100 = .ok (.aload_n 2, 1) := by decide +kernel
theorem dX9_ride_101 : decode cX9_ride 101 = .ok (.getfield 141, 3) := by decide +kernel
theorem dX9_ride_104 : decode cX9_ride 104 = .ok (.ireturn, 1) := by decide +kernel
theorem dX9_ride_105 : decode cX9_ride 105 = .ok (.bipush (-2), 2) := by decide +kernel
theorem dX9_ride_107 : decode cX9_ride 107 = .ok (.ireturn, 1) := by decide +kernel
theorem dX9_log_0 : decode cX9_log 0 = .ok (.iload_n 1, 1) := by decide +kernel
theorem dX9_log_1 : decode cX9_log 1 = .ok (.iconst 0, 1) := by decide +kernel
theorem dX9_log_2 : decode cX9_log 2 = .ok (.aload_n 0, 1) := by decide +kernel
theorem dX9_log_3 : decode cX9_log 3 = .ok (.getfield 12, 3) := by decide +kernel
theorem dX9_log_6 : decode cX9_log 6 = .ok (.getfield 144, 3) := by decide +kernel
theorem dX9_log_9 : decode cX9_log 9 = .ok (.getfield 148, 3) := by decide +kernel
theorem dX9_log_12 : decode cX9_log 12 = .ok (.iconst 1, 1) := by decide +kernel
theorem dX9_log_13 : decode cX9_log 13 = .ok (.isub, 1) := by decide +kernel
theorem dX9_log_14 : decode cX9_log 14 = .ok (.invokestatic 51, 3) := by decide +kernel
theorem dX9_log_17 : decode cX9_log 17 = .ok (.ifCond .ne 5, 3) := by decide +kernel
theorem dX9_log_20 : decode cX9_log 20 = .ok (.iconst (-1), 1) := by decide +kernel
theorem dX9_log_21 : decode cX9_log 21 = .ok (.ireturn, 1) := by decide +kernel
theorem dX9_log_22 : decode cX9_log 22 = .ok (.iload_n 2, 1) := by decide +kernel
theorem dX9_log_23 : decode cX9_log 23 = .ok (.iconst 0, 1) := by decide +kernel
theorem dX9_log_24 : decode cX9_log 24 = .ok (.iconst 4, 1) := by decide +kernel
theorem dX9_log_25 : decode cX9_log 25 = .ok (.invokestatic 51, 3) := by decide +kernel
theorem dX9_log_28 : decode cX9_log 28 = .ok (.ifCond .ne 6, 3) := by decide +kernel
theorem dX9_log_31 : decode cX9_log 31 = .ok (.bipush (-2), 2) := by decide +kernel
theorem dX9_log_33 : decode cX9_log 33 = .ok (.ireturn, 1) := by decide +kernel
theorem dX9_log_34 : decode cX9_log 34 = .ok (.aload_n 0, 1) := by decide +kernel
theorem dX9_log_35 : decode cX9_log 35 = .ok (.getfield 12, 3) := by decide +kernel
theorem dX9_log_38 : decode cX9_log 38 = .ok (.getfield 144, 3) := by decide +kernel
theorem dX9_log_41 : decode cX9_log 41 = .ok (.iload_n 1, 1) := by decide +kernel
theorem dX9_log_42 : decode cX9_log 42 = .ok (.iload_n 2, 1) := by decide +kernel
theorem dX9_log_43 : decode cX9_log 43 = .ok (.invokevirtual 153, 3) := by decide +kernel
theorem dX9_log_46 : decode cX9_log 46 = .ok (.ireturn, 1) := by decide +kernel
theorem dX9_count_0 : decode cX9_count 0 = .ok (.iload_n 1, 1) := by decide +kernel
theorem dX9_count_1 : decode cX9_count 1 = .ok (.tableswitch 136 0 8 #[51, 59, 67, 85, 93, 101, 109, 120, 128], 51) := by decide +kernel
theorem dX9_count_52 : decode cX9_count 52 = .ok (.aload_n 0, 1) := by decide +kernel
theorem dX9_count_53 : decode cX9_count 53 = .ok (.getfield 12, 3) := by decide +kernel
theorem dX9_count_56 : decode cX9_count 56 = .ok (.getfield 154, 3) := by decide +kernel
theorem dX9_count_59 : decode cX9_count 59 = .ok (.ireturn, 1) := by decide +kernel
theorem dX9_count_60 : decode cX9_count 60 = .ok (.aload_n 0, 1) := by decide +kernel
theorem dX9_count_61 : decode cX9_count 61 = .ok (.getfield 12, 3) := by decide +kernel
theorem dX9_count_64 : decode cX9_count 64 = .ok (.getfield 157, 3) := by decide +kernel
theorem dX9_count_67 : decode cX9_count 67 = .ok (.ireturn, 1) := by decide +kernel
theorem dX9_count_68 : decode cX9_count 68 = .ok (.aload_n 0, 1) := by decide +kernel
theorem dX9_count_69 : decode cX9_count 69 = .ok (.getfield 12, 3) := by decide +kernel
theorem dX9_count_72 : decode cX9_count 72 = .ok (.getfield 59, 3) := by decide +kernel
theorem dX9_count_75 : decode cX9_count 75 = .ok (.aload_n 0, 1) := by decide +kernel
theorem dX9_count_76 : decode cX9_count 76 = .ok (.getfield 12, 3) := by decide +kernel
theorem dX9_count_79 : decode cX9_count 79 = .ok (.getfield 154, 3) := by decide +kernel
theorem dX9_count_82 : decode cX9_count 82 = .ok (.invokevirtual 160, 3) := by decide +kernel
theorem dX9_count_85 : decode cX9_count 85 = .ok (.ireturn, 1) := by decide +kernel
theorem dX9_count_86 : decode cX9_count 86 = .ok (.aload_n 0, 1) := by decide +kernel
theorem dX9_count_87 : decode cX9_count 87 = .ok (.getfield 12, 3) := by decide +kernel
theorem dX9_count_90 : decode cX9_count 90 = .ok (.getfield 84, 3) := by decide +kernel
theorem dX9_count_93 : decode cX9_count 93 = .ok (.ireturn, 1) := by decide +kernel
theorem dX9_count_94 : decode cX9_count 94 = .ok (.aload_n 0, 1) := by decide +kernel
theorem dX9_count_95 : decode cX9_count 95 = .ok (.getfield 12, 3) := by decide +kernel
theorem dX9_count_98 : decode cX9_count 98 = .ok (.getfield 163, 3) := by decide +kernel
theorem dX9_count_101 : decode cX9_count 101 = .ok (.ireturn, 1) := by decide +kernel
theorem dX9_count_102 : decode cX9_count 102 = .ok (.aload_n 0, 1) := by decide +kernel
theorem dX9_count_103 : decode cX9_count 103 = .ok (.getfield 12, 3) := by decide +kernel
theorem dX9_count_106 : decode cX9_count 106 = .ok (.getfield 166, 3) := by decide +kernel
theorem dX9_count_109 : decode cX9_count 109 = .ok (.ireturn, 1) := by decide +kernel
theorem dX9_count_110 : decode cX9_count 110 = .ok (.aload_n 0, 1) := by decide +kernel
theorem dX9_count_111 : decode cX9_count 111 = .ok (.getfield 12, 3) := by decide +kernel
theorem dX9_count_114 : decode cX9_count 114 = .ok (.getfield 144, 3) := by decide +kernel
theorem dX9_count_117 : decode cX9_count 117 = .ok (.getfield 148, 3) := by decide +kernel
theorem dX9_count_120 : decode cX9_count 120 = .ok (.ireturn, 1) := by decide +kernel
theorem dX9_count_121 : decode cX9_count 121 = .ok (.aload_n 0, 1) := by decide +kernel
theorem dX9_count_122 : decode cX9_count 122 = .ok (.getfield 33, 3) := by decide +kernel
theorem dX9_count_125 : decode cX9_count 125 = .ok (.getfield 169, 3) := by decide +kernel
theorem dX9_count_128 : decode cX9_count 128 = .ok (.ireturn, 1) := by decide +kernel
theorem dX9_count_129 : decode cX9_count 129 = .ok (.aload_n 0, 1) := by decide +kernel
theorem dX9_count_130 : decode cX9_count 130 = .ok (.getfield 19, 3) := by decide +kernel
theorem dX9_count_133 : decode cX9_count 133 = .ok (.getfield 172, 3) := by decide +kernel
theorem dX9_count_136 : decode cX9_count 136 = .ok (.ireturn, 1) := by decide +kernel
theorem dX9_count_137 : decode cX9_count 137 = .ok (.bipush (-2), 2) := by decide +kernel
theorem dX9_count_139 : decode cX9_count 139 = .ok (.ireturn, 1) := by decide +kernel
theorem dX9_would_0 : decode cX9_would 0 = .ok (.iload_n 1, 1) := by decide +kernel
theorem dX9_would_1 : decode cX9_would 1 = .ok (.iload_n 2, 1) := by decide +kernel
theorem dX9_would_2 : decode cX9_would 2 = .ok (.invokestatic 173, 3) := by decide +kernel
theorem dX9_would_5 : decode cX9_would 5 = .ok (.ifCond .ne 6, 3) := by decide +kernel
theorem dX9_would_8 : decode cX9_would 8 = .ok (.bipush (-2), 2) := by decide +kernel
theorem dX9_would_10 : decode cX9_would 10 = .ok (.ireturn, 1) := by decide +kernel
theorem dX9_would_11 : decode cX9_would 11 = .ok (.aload_n 0, 1) := by decide +kernel
theorem dX9_would_12 : decode cX9_would 12 = .ok (.getfield 12, 3) := by decide +kernel
theorem dX9_would_15 : decode cX9_would 15 = .ok (.getfield 157, 3) := by decide +kernel
theorem dX9_would_18 : decode cX9_would 18 = .ok (.iconst 1, 1) := by decide +kernel
theorem dX9_would_19 : decode cX9_would 19 = .ok (.if_icmp .eq 6, 3) := by decide +kernel
theorem dX9_would_22 : decode cX9_would 22 = .ok (.bipush (-5), 2) := by decide +kernel
theorem dX9_would_24 : decode cX9_would 24 = .ok (.ireturn, 1) := by decide +kernel
theorem dX9_would_25 : decode cX9_would 25 = .ok (.aload_n 0, 1) := by decide +kernel
theorem dX9_would_26 : decode cX9_would 26 = .ok (.getfield 47, 3) := by decide +kernel
theorem dX9_would_29 : decode cX9_would 29 = .ok (.aload_n 0, 1) := by decide +kernel
theorem dX9_would_30 : decode cX9_would 30 = .ok (.getfield 12, 3) := by decide +kernel
theorem dX9_would_33 : decode cX9_would 33 = .ok (.getfield 111, 3) := by decide +kernel
theorem dX9_would_36 : decode cX9_would 36 = .ok (.invokevirtual 177, 3) := by decide +kernel
theorem dX9_would_39 : decode cX9_would 39 = .ok (.aload_n 0, 1) := by decide +kernel
theorem dX9_would_40 : decode cX9_would 40 = .ok (.getfield 47, 3) := by decide +kernel
theorem dX9_would_43 : decode cX9_would 43 = .ok (.aload_n 0, 1) := by decide +kernel
theorem dX9_would_44 : decode cX9_would 44 = .ok (.getfield 12, 3) := by decide +kernel
theorem dX9_would_47 : decode cX9_would 47 = .ok (.getfield 59, 3) := by decide +kernel
theorem dX9_would_50 : decode cX9_would 50 = .ok (.aload_n 0, 1) := by decide +kernel
theorem dX9_would_51 : decode cX9_would 51 = .ok (.getfield 12, 3) := by decide +kernel
theorem dX9_would_54 : decode cX9_would 54 = .ok (.getfield 154, 3) := by decide +kernel
theorem dX9_would_57 : decode cX9_would 57 = .ok (.iload_n 1, 1) := by decide +kernel
theorem dX9_would_58 : decode cX9_would 58 = .ok (.iload_n 2, 1) := by decide +kernel
theorem dX9_would_59 : decode cX9_would 59 = .ok (.invokevirtual 181, 3) := by decide +kernel
theorem dX9_would_62 : decode cX9_would 62 = .ok (.aload_n 0, 1) := by decide +kernel
theorem dX9_would_63 : decode cX9_would 63 = .ok (.getfield 47, 3) := by decide +kernel
theorem dX9_would_66 : decode cX9_would 66 = .ok (.getfield 185, 3) := by decide +kernel
theorem dX9_would_69 : decode cX9_would 69 = .ok (.aload_n 0, 1) := by decide +kernel
theorem dX9_would_70 : decode cX9_would 70 = .ok (.getfield 12, 3) := by decide +kernel
theorem dX9_would_73 : decode cX9_would 73 = .ok (.getfield 111, 3) := by decide +kernel
theorem dX9_would_76 : decode cX9_would 76 = .ok (.getfield 115, 3) := by decide +kernel
theorem dX9_would_79 : decode cX9_would 79 = .ok (.isub, 1) := by decide +kernel
theorem dX9_would_80 : decode cX9_would 80 = .ok (.ireturn, 1) := by decide +kernel
theorem dX9_price_0 : decode cX9_price 0 = .ok (.iload_n 1, 1) := by decide +kernel
theorem dX9_price_1 : decode cX9_price 1 = .ok (.iload_n 2, 1) := by decide +kernel
theorem dX9_price_2 : decode cX9_price 2 = .ok (.invokestatic 173, 3) := by decide +kernel
theorem dX9_price_5 : decode cX9_price 5 = .ok (.ifCond .eq 19, 3) := by decide +kernel
theorem dX9_price_8 : decode cX9_price 8 = .ok (.aload_n 0, 1) := by decide +kernel
theorem dX9_price_9 : decode cX9_price 9 = .ok (.aload_n 0, 1) := by decide +kernel
theorem dX9_price_10 : decode cX9_price 10 = .ok (.getfield 12, 3) := by decide +kernel
theorem dX9_price_13 : decode cX9_price 13 = .ok (.getfield 154, 3) := by decide +kernel
theorem dX9_price_16 : decode cX9_price 16 = .ok (.iload_n 1, 1) := by decide +kernel
theorem dX9_price_17 : decode cX9_price 17 = .ok (.iload_n 2, 1) := by decide +kernel
theorem dX9_price_18 : decode cX9_price 18 = .ok (.invokevirtual 186, 3) := by decide +kernel
theorem dX9_price_21 : decode cX9_price 21 = .ok (.goto 5, 3) := by decide +kernel
theorem dX9_price_24 : decode cX9_price 24 = .ok (.bipush (-2), 2) := by decide +kernel
theorem dX9_price_26 : decode cX9_price 26 = .ok (.ireturn, 1) := by decide +kernel
theorem dX9_farthest_0 : decode cX9_farthest 0 = .ok (.iload_n 1, 1) := by decide +kernel
theorem dX9_farthest_1 : decode cX9_farthest 1 = .ok (.iconst 1, 1) := by decide +kernel
theorem dX9_farthest_2 : decode cX9_farthest 2 = .ok (.sipush 999, 3) := by decide +kernel
theorem dX9_farthest_5 : decode cX9_farthest 5 = .ok (.invokestatic 51, 3) := by decide +kernel
theorem dX9_farthest_8 : decode cX9_farthest 8 = .ok (.ifCond .eq 7, 3) := by decide +kernel
theorem dX9_farthest_11 : decode cX9_farthest 11 = .ok (.iload_n 2, 1) := by decide +kernel
theorem dX9_farthest_12 : decode cX9_farthest 12 = .ok (.ifCond .ge 6, 3) := by decide +kernel
theorem dX9_farthest_15 : decode cX9_farthest 15 = .ok (.bipush (-2), 2) := by decide +kernel
theorem dX9_farthest_17 : decode cX9_farthest 17 = .ok (.ireturn, 1) := by decide +kernel
theorem dX9_farthest_18 : decode cX9_farthest 18 = .ok (.aload_n 0, 1) := by decide +kernel
theorem dX9_farthest_19 : decode cX9_farthest 19 = .ok (.aload_n 0, 1) := by decide +kernel
theorem dX9_farthest_20 : decode cX9_farthest 20 = .ok (.getfield 12, 3) := by decide +kernel
theorem dX9_farthest_23 : decode cX9_farthest 23 = .ok (.getfield 154, 3) := by decide +kernel
theorem dX9_farthest_26 : decode cX9_farthest 26 = .ok (.iconst 0, 1) := by decide +kernel
theorem dX9_farthest_27 : decode cX9_farthest 27 = .ok (.iload_n 1, 1) := by decide +kernel
theorem dX9_farthest_28 : decode cX9_farthest 28 = .ok (.invokevirtual 186, 3) := by decide +kernel
theorem dX9_farthest_31 : decode cX9_farthest 31 = .ok (.iload_n 2, 1) := by decide +kernel
theorem dX9_farthest_32 : decode cX9_farthest 32 = .ok (.if_icmp .le 6, 3) := by decide +kernel
theorem dX9_farthest_35 : decode cX9_farthest 35 = .ok (.bipush (-6), 2) := by decide +kernel
theorem dX9_farthest_37 : decode cX9_farthest 37 = .ok (.ireturn, 1) := by decide +kernel
theorem dX9_farthest_38 : decode cX9_farthest 38 = .ok (.sipush 999, 3) := by decide +kernel
theorem dX9_farthest_41 : decode cX9_farthest 41 = .ok (.istore_n 3, 1) := by decide +kernel
theorem dX9_farthest_42 : decode cX9_farthest 42 = .ok (.iload_n 3, 1) := by decide +kernel
theorem dX9_farthest_43 : decode cX9_farthest 43 = .ok (.ifCond .le 26, 3) := by decide +kernel
theorem dX9_farthest_46 : decode cX9_farthest 46 = .ok (.aload_n 0, 1) := by decide +kernel
theorem dX9_farthest_47 : decode cX9_farthest 47 = .ok (.aload_n 0, 1) := by decide +kernel
theorem dX9_farthest_48 : decode cX9_farthest 48 = .ok (.getfield 12, 3) := by decide +kernel
theorem dX9_farthest_51 : decode cX9_farthest 51 = .ok (.getfield 154, 3) := by decide +kernel
theorem dX9_farthest_54 : decode cX9_farthest 54 = .ok (.iload_n 3, 1) := by decide +kernel
theorem dX9_farthest_55 : decode cX9_farthest 55 = .ok (.iload_n 1, 1) := by decide +kernel
theorem dX9_farthest_56 : decode cX9_farthest 56 = .ok (.invokevirtual 186, 3) := by decide +kernel
theorem dX9_farthest_59 : decode cX9_farthest 59 = .ok (.iload_n 2, 1) := by decide +kernel
theorem dX9_farthest_60 : decode cX9_farthest 60 = .ok (.if_icmp .le 9, 3) := by decide +kernel
theorem dX9_farthest_63 : decode cX9_farthest 63 = .ok (.iinc 3 (-1), 3) := by decide +kernel
theorem dX9_farthest_66 : decode cX9_farthest 66 = .ok (.goto (-24), 3) := by decide +kernel
theorem dX9_farthest_69 : decode cX9_farthest 69 = .ok (.iload_n 3, 1) := by decide +kernel
theorem dX9_farthest_70 : decode cX9_farthest 70 = .ok (.ireturn, 1) := by decide +kernel
theorem dX9_cheapest_0 : decode cX9_cheapest 0 = .ok (.iload_n 1, 1) := by decide +kernel
theorem dX9_cheapest_1 : decode cX9_cheapest 1 = .ok (.iload_n 2, 1) := by decide +kernel
theorem dX9_cheapest_2 : decode cX9_cheapest 2 = .ok (.invokestatic 173, 3) := by decide +kernel
theorem dX9_cheapest_5 : decode cX9_cheapest 5 = .ok (.ifCond .eq 12, 3) := by decide +kernel
theorem dX9_cheapest_8 : decode cX9_cheapest 8 = .ok (.iload_n 3, 1) := by decide +kernel
theorem dX9_cheapest_9 : decode cX9_cheapest 9 = .ok (.iconst 0, 1) := by decide +kernel
theorem dX9_cheapest_10 : decode cX9_cheapest 10 = .ok (.iconst 1, 1) := by decide +kernel
theorem dX9_cheapest_11 : decode cX9_cheapest 11 = .ok (.invokestatic 51, 3) := by decide +kernel
theorem dX9_cheapest_14 : decode cX9_cheapest 14 = .ok (.ifCond .ne 6, 3) := by decide +kernel
theorem dX9_cheapest_17 : decode cX9_cheapest 17 = .ok (.bipush (-2), 2) := by decide +kernel
theorem dX9_cheapest_19 : decode cX9_cheapest 19 = .ok (.ireturn, 1) := by decide +kernel
theorem dX9_cheapest_20 : decode cX9_cheapest 20 = .ok (.iconst 0, 1) := by decide +kernel
theorem dX9_cheapest_21 : decode cX9_cheapest 21 = .ok (.istore 4, 2) := by decide +kernel
theorem dX9_cheapest_23 : decode cX9_cheapest 23 = .ok (.aload_n 0, 1) := by decide +kernel
theorem dX9_cheapest_24 : decode cX9_cheapest 24 = .ok (.iconst 0, 1) := by decide +kernel
theorem dX9_cheapest_25 : decode cX9_cheapest 25 = .ok (.iload_n 1, 1) := by decide +kernel
theorem dX9_cheapest_26 : decode cX9_cheapest 26 = .ok (.iload_n 2, 1) := by decide +kernel
theorem dX9_cheapest_27 : decode cX9_cheapest 27 = .ok (.invokevirtual 186, 3) := by decide +kernel
theorem dX9_cheapest_30 : decode cX9_cheapest 30 = .ok (.istore 5, 2) := by decide +kernel
theorem dX9_cheapest_32 : decode cX9_cheapest 32 = .ok (.iconst 1, 1) := by decide +kernel
theorem dX9_cheapest_33 : decode cX9_cheapest 33 = .ok (.istore 6, 2) := by decide +kernel
theorem dX9_cheapest_35 : decode cX9_cheapest 35 = .ok (.iload 6, 2) := by decide +kernel
theorem dX9_cheapest_37 : decode cX9_cheapest 37 = .ok (.bipush 24, 2) := by decide +kernel
theorem dX9_cheapest_39 : decode cX9_cheapest 39 = .ok (.if_icmp .ge 38, 3) := by decide +kernel
theorem dX9_cheapest_42 : decode cX9_cheapest 42 = .ok (.aload_n 0, 1) := by decide +kernel
theorem dX9_cheapest_43 : decode cX9_cheapest 43 = .ok (.iload 6, 2) := by decide +kernel
theorem dX9_cheapest_45 : decode cX9_cheapest 45 = .ok (.sipush 3600, 3) := by decide +kernel
theorem dX9_cheapest_48 : decode cX9_cheapest 48 = .ok (.imul, 1) := by decide +kernel
theorem dX9_cheapest_49 : decode cX9_cheapest 49 = .ok (.iload_n 1, 1) := by decide +kernel
theorem dX9_cheapest_50 : decode cX9_cheapest 50 = .ok (.iload_n 2, 1) := by decide +kernel
theorem dX9_cheapest_51 : decode cX9_cheapest 51 = .ok (.invokevirtual 186, 3) := by decide +kernel
theorem dX9_cheapest_54 : decode cX9_cheapest 54 = .ok (.istore 7, 2) := by decide +kernel
theorem dX9_cheapest_56 : decode cX9_cheapest 56 = .ok (.iload 7, 2) := by decide +kernel
theorem dX9_cheapest_58 : decode cX9_cheapest 58 = .ok (.iload 5, 2) := by decide +kernel
theorem dX9_cheapest_60 : decode cX9_cheapest 60 = .ok (.if_icmp .ge 11, 3) := by decide +kernel
theorem dX9_cheapest_63 : decode cX9_cheapest 63 = .ok (.iload 6, 2) := by decide +kernel
theorem dX9_cheapest_65 : decode cX9_cheapest 65 = .ok (.istore 4, 2) := by decide +kernel
theorem dX9_cheapest_67 : decode cX9_cheapest 67 = .ok (.iload 7, 2) := by decide +kernel
theorem dX9_cheapest_69 : decode cX9_cheapest 69 = .ok (.istore 5, 2) := by decide +kernel
theorem dX9_cheapest_71 : decode cX9_cheapest 71 = .ok (.iinc 6 1, 3) := by decide +kernel
theorem dX9_cheapest_74 : decode cX9_cheapest 74 = .ok (.goto (-39), 3) := by decide +kernel
theorem dX9_cheapest_77 : decode cX9_cheapest 77 = .ok (.iload_n 3, 1) := by decide +kernel
theorem dX9_cheapest_78 : decode cX9_cheapest 78 = .ok (.ifCond .ne 8, 3) := by decide +kernel
theorem dX9_cheapest_81 : decode cX9_cheapest 81 = .ok (.iload 4, 2) := by decide +kernel
theorem dX9_cheapest_83 : decode cX9_cheapest 83 = .ok (.goto 5, 3) := by decide +kernel
theorem dX9_cheapest_86 : decode cX9_cheapest 86 = .ok (.iload 5, 2) := by decide +kernel
theorem dX9_cheapest_88 : decode cX9_cheapest 88 = .ok (.ireturn, 1) := by decide +kernel
theorem dX9_put_0 : decode cX9_put 0 = .ok (.lload_n 1, 1) := by decide +kernel
theorem dX9_put_1 : decode cX9_put 1 = .ok (.invokestatic 190, 3) := by decide +kernel
theorem dX9_put_4 : decode cX9_put 4 = .ok (.istore_n 3, 1) := by decide +kernel
theorem dX9_put_5 : decode cX9_put 5 = .ok (.iload_n 3, 1) := by decide +kernel
theorem dX9_put_6 : decode cX9_put 6 = .ok (.ifCond .ne 6, 3) := by decide +kernel
theorem dX9_put_9 : decode cX9_put 9 = .ok (.bipush (-2), 2) := by decide +kernel
theorem dX9_put_11 : decode cX9_put 11 = .ok (.ireturn, 1) := by decide +kernel
theorem dX9_put_12 : decode cX9_put 12 = .ok (.iload_n 3, 1) := by decide +kernel
theorem dX9_put_13 : decode cX9_put 13 = .ok (.bipush 80, 2) := by decide +kernel
theorem dX9_put_15 : decode cX9_put 15 = .ok (.aload_n 0, 1) := by decide +kernel
theorem dX9_put_16 : decode cX9_put 16 = .ok (.getfield 33, 3) := by decide +kernel
theorem dX9_put_19 : decode cX9_put 19 = .ok (.getfield 169, 3) := by decide +kernel
theorem dX9_put_22 : decode cX9_put 22 = .ok (.isub, 1) := by decide +kernel
theorem dX9_put_23 : decode cX9_put 23 = .ok (.if_icmp .le 6, 3) := by decide +kernel
theorem dX9_put_26 : decode cX9_put 26 = .ok (.bipush (-4), 2) := by decide +kernel
theorem dX9_put_28 : decode cX9_put 28 = .ok (.ireturn, 1) := by decide +kernel
theorem dX9_put_29 : decode cX9_put 29 = .ok (.aload_n 0, 1) := by decide +kernel
theorem dX9_put_30 : decode cX9_put 30 = .ok (.getfield 33, 3) := by decide +kernel
theorem dX9_put_33 : decode cX9_put 33 = .ok (.lload_n 1, 1) := by decide +kernel
theorem dX9_put_34 : decode cX9_put 34 = .ok (.iload_n 3, 1) := by decide +kernel
theorem dX9_put_35 : decode cX9_put 35 = .ok (.invokevirtual 194, 3) := by decide +kernel
theorem dX9_put_38 : decode cX9_put 38 = .ok (.aload_n 0, 1) := by decide +kernel
theorem dX9_put_39 : decode cX9_put 39 = .ok (.getfield 33, 3) := by decide +kernel
theorem dX9_put_42 : decode cX9_put 42 = .ok (.getfield 169, 3) := by decide +kernel
theorem dX9_put_45 : decode cX9_put 45 = .ok (.ireturn, 1) := by decide +kernel
theorem dX9_wipe_0 : decode cX9_wipe 0 = .ok (.aload_n 0, 1) := by decide +kernel
theorem dX9_wipe_1 : decode cX9_wipe 1 = .ok (.getfield 33, 3) := by decide +kernel
theorem dX9_wipe_4 : decode cX9_wipe 4 = .ok (.getfield 169, 3) := by decide +kernel
theorem dX9_wipe_7 : decode cX9_wipe 7 = .ok (.istore_n 1, 1) := by decide +kernel
theorem dX9_wipe_8 : decode cX9_wipe 8 = .ok (.aload_n 0, 1) := by decide +kernel
theorem dX9_wipe_9 : decode cX9_wipe 9 = .ok (.getfield 33, 3) := by decide +kernel
theorem dX9_wipe_12 : decode cX9_wipe 12 = .ok (.iconst 0, 1) := by decide +kernel
theorem dX9_wipe_13 : decode cX9_wipe 13 = .ok (.putfield 169, 3) := by decide +kernel
theorem dX9_wipe_16 : decode cX9_wipe 16 = .ok (.iload_n 1, 1) := by decide +kernel
theorem dX9_wipe_17 : decode cX9_wipe 17 = .ok (.ireturn, 1) := by decide +kernel
theorem dX9_fault_0 : decode cX9_fault 0 = .ok (.aload_n 0, 1) := by decide +kernel
theorem dX9_fault_1 : decode cX9_fault 1 = .ok (.getfield 40, 3) := by decide +kernel
theorem dX9_fault_4 : decode cX9_fault 4 = .ok (.aload_n 0, 1) := by decide +kernel
theorem dX9_fault_5 : decode cX9_fault 5 = .ok (.getfield 33, 3) := by decide +kernel
theorem dX9_fault_8 : decode cX9_fault 8 = .ok (.invokevirtual 198, 3) := by decide +kernel
theorem dX9_fault_11 : decode cX9_fault 11 = .ok (.ireturn, 1) := by decide +kernel
theorem dX9_carryOut_0 : decode cX9_carryOut 0 = .ok (.aload_n 0, 1) := by decide +kernel
theorem dX9_carryOut_1 : decode cX9_carryOut 1 = .ok (.getfield 40, 3) := by decide +kernel
theorem dX9_carryOut_4 : decode cX9_carryOut 4 = .ok (.aload_n 0, 1) := by decide +kernel
theorem dX9_carryOut_5 : decode cX9_carryOut 5 = .ok (.getfield 33, 3) := by decide +kernel
theorem dX9_carryOut_8 : decode cX9_carryOut 8 = .ok (.invokevirtual 198, 3) := by decide +kernel
theorem dX9_carryOut_11 : decode cX9_carryOut 11 = .ok (.bipush (-6), 2) := by decide +kernel
theorem dX9_carryOut_13 : decode cX9_carryOut 13 = .ok (.if_icmp .eq 6, 3) := by decide +kernel
theorem dX9_carryOut_16 : decode cX9_carryOut 16 = .ok (.bipush (-3), 2) := by decide +kernel
theorem dX9_carryOut_18 : decode cX9_carryOut 18 = .ok (.ireturn, 1) := by decide +kernel
theorem dX9_carryOut_19 : decode cX9_carryOut 19 = .ok (.aload_n 0, 1) := by decide +kernel
theorem dX9_carryOut_20 : decode cX9_carryOut 20 = .ok (.getfield 19, 3) := by decide +kernel
theorem dX9_carryOut_23 : decode cX9_carryOut 23 = .ok (.aload_n 0, 1) := by decide +kernel
theorem dX9_carryOut_24 : decode cX9_carryOut 24 = .ok (.getfield 12, 3) := by decide +kernel
theorem dX9_carryOut_27 : decode cX9_carryOut 27 = .ok (.invokevirtual 55, 3) := by decide +kernel
theorem dX9_carryOut_30 : decode cX9_carryOut 30 = .ok (.iconst 0, 1) := by decide +kernel
theorem dX9_carryOut_31 : decode cX9_carryOut 31 = .ok (.istore_n 1, 1) := by decide +kernel
theorem dX9_carryOut_32 : decode cX9_carryOut 32 = .ok (.iconst 0, 1) := by decide +kernel
theorem dX9_carryOut_33 : decode cX9_carryOut 33 = .ok (.istore_n 2, 1) := by decide +kernel
theorem dX9_carryOut_34 : decode cX9_carryOut 34 = .ok (.aload_n 0, 1) := by decide +kernel
theorem dX9_carryOut_35 : decode cX9_carryOut 35 = .ok (.getfield 40, 3) := by decide +kernel
theorem dX9_carryOut_38 : decode cX9_carryOut 38 = .ok (.invokevirtual 202, 3) := by decide +kernel
theorem dX9_carryOut_41 : decode cX9_carryOut 41 = .ok (.iconst 0, 1) := by decide +kernel
theorem dX9_carryOut_42 : decode cX9_carryOut 42 = .ok (.istore_n 3, 1) := by decide +kernel
theorem dX9_carryOut_43 : decode cX9_carryOut 43 = .ok (.iload_n 3, 1) := by decide +kernel
theorem dX9_carryOut_44 : decode cX9_carryOut 44 = .ok (.aload_n 0, 1) := by decide +kernel
theorem dX9_carryOut_45 : decode cX9_carryOut 45 = .ok (.getfield 33, 3) := by decide +kernel
theorem dX9_carryOut_48 : decode cX9_carryOut 48 = .ok (.getfield 169, 3) := by decide +kernel
theorem dX9_carryOut_51 : decode cX9_carryOut 51 = .ok (.if_icmp .gt 81, 3) := by decide +kernel
theorem dX9_carryOut_54 : decode cX9_carryOut 54 = .ok (.iload_n 2, 1) := by decide +kernel
theorem dX9_carryOut_55 : decode cX9_carryOut 55 = .ok (.ifCond .ne 77, 3) := by decide +kernel
theorem dX9_carryOut_58 : decode cX9_carryOut 58 = .ok (.iload_n 3, 1) := by decide +kernel
theorem dX9_carryOut_59 : decode cX9_carryOut 59 = .ok (.aload_n 0, 1) := by decide +kernel
theorem dX9_carryOut_60 : decode cX9_carryOut 60 = .ok (.getfield 33, 3) := by decide +kernel
theorem dX9_carryOut_63 : decode cX9_carryOut 63 = .ok (.getfield 169, 3) := by decide +kernel
theorem dX9_carryOut_66 : decode cX9_carryOut 66 = .ok (.if_icmp .ge 14, 3) := by decide +kernel
theorem dX9_carryOut_69 : decode cX9_carryOut 69 = .ok (.aload_n 0, 1) := by decide +kernel
theorem dX9_carryOut_70 : decode cX9_carryOut 70 = .ok (.getfield 33, 3) := by decide +kernel
theorem dX9_carryOut_73 : decode cX9_carryOut 73 = .ok (.iload_n 3, 1) := by decide +kernel
theorem dX9_carryOut_74 : decode cX9_carryOut 74 = .ok (.invokevirtual 205, 3) := by decide +kernel
theorem dX9_carryOut_77 : decode cX9_carryOut 77 = .ok (.goto 5, 3) := by decide +kernel
theorem dX9_carryOut_80 : decode cX9_carryOut 80 = .ok (.bipush 59, 2) := by decide +kernel
theorem dX9_carryOut_82 : decode cX9_carryOut 82 = .ok (.istore 4, 2) := by decide +kernel
theorem dX9_carryOut_84 : decode cX9_carryOut 84 = .ok (.iload 4, 2) := by decide +kernel
theorem dX9_carryOut_86 : decode cX9_carryOut 86 = .ok (.bipush 59, 2) := by decide +kernel
theorem dX9_carryOut_88 : decode cX9_carryOut 88 = .ok (.if_icmp .ne 28, 3) := by decide +kernel
theorem dX9_carryOut_91 : decode cX9_carryOut 91 = .ok (.aload_n 0, 1) := by decide +kernel
theorem dX9_carryOut_92 : decode cX9_carryOut 92 = .ok (.invokevirtual 209, 3) := by decide +kernel
theorem dX9_carryOut_95 : decode cX9_carryOut 95 = .ok (.ifCond .ge 7, 3) := by decide +kernel
theorem dX9_carryOut_98 : decode cX9_carryOut 98 = .ok (.iconst 1, 1) := by decide +kernel
theorem dX9_carryOut_99 : decode cX9_carryOut 99 = .ok (.goto 4, 3) := by decide +kernel
theorem dX9_carryOut_102 : decode cX9_carryOut 102 = .ok (.iconst 0, 1) := by decide +kernel
theorem dX9_carryOut_103 : decode cX9_carryOut 103 = .ok (.istore_n 2, 1) := by decide +kernel
theorem dX9_carryOut_104 : decode cX9_carryOut 104 = .ok (.iload_n 1, 1) := by decide +kernel
theorem dX9_carryOut_105 : decode cX9_carryOut 105 = .ok (.iload_n 2, 1) := by decide +kernel
theorem dX9_carryOut_106 : decode cX9_carryOut 106 = .ok (.ifCond .eq 7, 3) := by decide +kernel
theorem dX9_carryOut_109 : decode cX9_carryOut 109 = .ok (.iconst 0, 1) := by decide +kernel
theorem dX9_carryOut_110 : decode cX9_carryOut 110 = .ok (.goto 4, 3) := by decide +kernel
theorem dX9_carryOut_113 : decode cX9_carryOut 113 = .ok (.iconst 1, 1) := by decide +kernel
theorem dX9_carryOut_114 : decode cX9_carryOut 114 = .ok (.iadd, 1) := by decide +kernel
theorem dX9_carryOut_115 : decode cX9_carryOut 115 = .ok (.istore_n 1, 1) := by decide +kernel
theorem dX9_carryOut_116 : decode cX9_carryOut 116 = .ok (.aload_n 0, 1) := by decide +kernel
theorem dX9_carryOut_117 : decode cX9_carryOut 117 = .ok (.getfield 40, 3) := by decide +kernel
theorem dX9_carryOut_120 : decode cX9_carryOut 120 = .ok (.iload 4, 2) := by decide +kernel
theorem dX9_carryOut_122 : decode cX9_carryOut 122 = .ok (.invokevirtual 212, 3) := by decide +kernel
theorem dX9_carryOut_125 : decode cX9_carryOut 125 = .ok (.pop, 1) := by decide +kernel
theorem dX9_carryOut_126 : decode cX9_carryOut 126 = .ok (.iinc 3 1, 3) := by decide +kernel
theorem dX9_carryOut_129 : decode cX9_carryOut 129 = .ok (.goto (-86), 3) := by decide +kernel
theorem dX9_carryOut_132 : decode cX9_carryOut 132 = .ok (.aload_n 0, 1) := by decide +kernel
theorem dX9_carryOut_133 : decode cX9_carryOut 133 = .ok (.getfield 33, 3) := by decide +kernel
theorem dX9_carryOut_136 : decode cX9_carryOut 136 = .ok (.iconst 0, 1) := by decide +kernel
theorem dX9_carryOut_137 : decode cX9_carryOut 137 = .ok (.putfield 169, 3) := by decide +kernel
theorem dX9_carryOut_140 : decode cX9_carryOut 140 = .ok (.aload_n 0, 1) := by decide +kernel
theorem dX9_carryOut_141 : decode cX9_carryOut 141 = .ok (.getfield 19, 3) := by decide +kernel
theorem dX9_carryOut_144 : decode cX9_carryOut 144 = .ok (.iload_n 1, 1) := by decide +kernel
theorem dX9_carryOut_145 : decode cX9_carryOut 145 = .ok (.invokevirtual 73, 3) := by decide +kernel
theorem dX9_carryOut_148 : decode cX9_carryOut 148 = .ok (.ireturn, 1) := by decide +kernel
theorem dX9_undo_0 : decode cX9_undo 0 = .ok (.aload_n 0, 1) := by decide +kernel
theorem dX9_undo_1 : decode cX9_undo 1 = .ok (.getfield 19, 3) := by decide +kernel
theorem dX9_undo_4 : decode cX9_undo 4 = .ok (.getfield 172, 3) := by decide +kernel
theorem dX9_undo_7 : decode cX9_undo 7 = .ok (.ifCond .ne 6, 3) := by decide +kernel
theorem dX9_undo_10 : decode cX9_undo 10 = .ok (.bipush (-5), 2) := by decide +kernel
theorem dX9_undo_12 : decode cX9_undo 12 = .ok (.ireturn, 1) := by decide +kernel
theorem dX9_undo_13 : decode cX9_undo 13 = .ok (.aload_n 0, 1) := by decide +kernel
theorem dX9_undo_14 : decode cX9_undo 14 = .ok (.getfield 19, 3) := by decide +kernel
theorem dX9_undo_17 : decode cX9_undo 17 = .ok (.aload_n 0, 1) := by decide +kernel
theorem dX9_undo_18 : decode cX9_undo 18 = .ok (.getfield 12, 3) := by decide +kernel
theorem dX9_undo_21 : decode cX9_undo 21 = .ok (.invokevirtual 216, 3) := by decide +kernel
theorem dX9_undo_24 : decode cX9_undo 24 = .ok (.aload_n 0, 1) := by decide +kernel
theorem dX9_undo_25 : decode cX9_undo 25 = .ok (.getfield 19, 3) := by decide +kernel
theorem dX9_undo_28 : decode cX9_undo 28 = .ok (.getfield 172, 3) := by decide +kernel
theorem dX9_undo_31 : decode cX9_undo 31 = .ok (.ireturn, 1) := by decide +kernel
theorem dX9_save_0 : decode cX9_save 0 = .ok (.iload_n 1, 1) := by decide +kernel
theorem dX9_save_1 : decode cX9_save 1 = .ok (.iconst 0, 1) := by decide +kernel
theorem dX9_save_2 : decode cX9_save 2 = .ok (.iconst 1, 1) := by decide +kernel
theorem dX9_save_3 : decode cX9_save 3 = .ok (.invokestatic 51, 3) := by decide +kernel
theorem dX9_save_6 : decode cX9_save 6 = .ok (.ifCond .ne 6, 3) := by decide +kernel
theorem dX9_save_9 : decode cX9_save 9 = .ok (.bipush (-2), 2) := by decide +kernel
theorem dX9_save_11 : decode cX9_save 11 = .ok (.ireturn, 1) := by decide +kernel
theorem dX9_save_12 : decode cX9_save 12 = .ok (.aload_n 0, 1) := by decide +kernel
theorem dX9_save_13 : decode cX9_save 13 = .ok (.getfield 26, 3) := by decide +kernel
theorem dX9_save_16 : decode cX9_save 16 = .ok (.iload_n 1, 1) := by decide +kernel
theorem dX9_save_17 : decode cX9_save 17 = .ok (.aload_n 0, 1) := by decide +kernel
theorem dX9_save_18 : decode cX9_save 18 = .ok (.getfield 12, 3) := by decide +kernel
theorem dX9_save_21 : decode cX9_save 21 = .ok (.invokevirtual 219, 3) := by decide +kernel
theorem dX9_save_24 : decode cX9_save 24 = .ok (.aload_n 0, 1) := by decide +kernel
theorem dX9_save_25 : decode cX9_save 25 = .ok (.getfield 12, 3) := by decide +kernel
theorem dX9_save_28 : decode cX9_save 28 = .ok (.getfield 163, 3) := by decide +kernel
theorem dX9_save_31 : decode cX9_save 31 = .ok (.ireturn, 1) := by decide +kernel
theorem dX9_restore_0 : decode cX9_restore 0 = .ok (.iload_n 1, 1) := by decide +kernel
theorem dX9_restore_1 : decode cX9_restore 1 = .ok (.iconst 0, 1) := by decide +kernel
theorem dX9_restore_2 : decode cX9_restore 2 = .ok (.iconst 1, 1) := by decide +kernel
theorem dX9_restore_3 : decode cX9_restore 3 = .ok (.invokestatic 51, 3) := by decide +kernel
theorem dX9_restore_6 : decode cX9_restore 6 = .ok (.ifCond .ne 6, 3) := by decide +kernel
theorem dX9_restore_9 : decode cX9_restore 9 = .ok (.bipush (-2), 2) := by decide +kernel
theorem dX9_restore_11 : decode cX9_restore 11 = .ok (.ireturn, 1) := by decide +kernel
theorem dX9_restore_12 : decode cX9_restore 12 = .ok (.aload_n 0, 1) := by decide +kernel
theorem dX9_restore_13 : decode cX9_restore 13 = .ok (.getfield 19, 3) := by decide +kernel
theorem dX9_restore_16 : decode cX9_restore 16 = .ok (.aload_n 0, 1) := by decide +kernel
theorem dX9_restore_17 : decode cX9_restore 17 = .ok (.getfield 12, 3) := by decide +kernel
theorem dX9_restore_20 : decode cX9_restore 20 = .ok (.invokevirtual 55, 3) := by decide +kernel
theorem dX9_restore_23 : decode cX9_restore 23 = .ok (.aload_n 0, 1) := by decide +kernel
theorem dX9_restore_24 : decode cX9_restore 24 = .ok (.getfield 19, 3) := by decide +kernel
theorem dX9_restore_27 : decode cX9_restore 27 = .ok (.aload_n 0, 1) := by decide +kernel
theorem dX9_restore_28 : decode cX9_restore 28 = .ok (.getfield 26, 3) := by decide +kernel
theorem dX9_restore_31 : decode cX9_restore 31 = .ok (.iload_n 1, 1) := by decide +kernel
theorem dX9_restore_32 : decode cX9_restore 32 = .ok (.aload_n 0, 1) := by decide +kernel
theorem dX9_restore_33 : decode cX9_restore 33 = .ok (.getfield 12, 3) := by decide +kernel
theorem dX9_restore_36 : decode cX9_restore 36 = .ok (.invokevirtual 223, 3) := by decide +kernel
theorem dX9_restore_39 : decode cX9_restore 39 = .ok (.invokevirtual 73, 3) := by decide +kernel
theorem dX9_restore_42 : decode cX9_restore 42 = .ok (.ireturn, 1) := by decide +kernel
theorem dX9_priceAt_0 : decode cX9_priceAt 0 = .ok (.aload_n 0, 1) := by decide +kernel
theorem dX9_priceAt_1 : decode cX9_priceAt 1 = .ok (.getfield 47, 3) := by decide +kernel
theorem dX9_priceAt_4 : decode cX9_priceAt 4 = .ok (.aload_n 0, 1) := by decide +kernel
theorem dX9_priceAt_5 : decode cX9_priceAt 5 = .ok (.getfield 12, 3) := by decide +kernel
theorem dX9_priceAt_8 : decode cX9_priceAt 8 = .ok (.getfield 59, 3) := by decide +kernel
theorem dX9_priceAt_11 : decode cX9_priceAt 11 = .ok (.iload_n 1, 1) := by decide +kernel
theorem dX9_priceAt_12 : decode cX9_priceAt 12 = .ok (.invokevirtual 227, 3) := by decide +kernel
theorem dX9_priceAt_15 : decode cX9_priceAt 15 = .ok (.aload_n 0, 1) := by decide +kernel
theorem dX9_priceAt_16 : decode cX9_priceAt 16 = .ok (.getfield 47, 3) := by decide +kernel
theorem dX9_priceAt_19 : decode cX9_priceAt 19 = .ok (.aload_n 0, 1) := by decide +kernel
theorem dX9_priceAt_20 : decode cX9_priceAt 20 = .ok (.getfield 12, 3) := by decide +kernel
theorem dX9_priceAt_23 : decode cX9_priceAt 23 = .ok (.getfield 59, 3) := by decide +kernel
theorem dX9_priceAt_26 : decode cX9_priceAt 26 = .ok (.iload_n 1, 1) := by decide +kernel
theorem dX9_priceAt_27 : decode cX9_priceAt 27 = .ok (.iload_n 2, 1) := by decide +kernel
theorem dX9_priceAt_28 : decode cX9_priceAt 28 = .ok (.iload_n 3, 1) := by decide +kernel
theorem dX9_priceAt_29 : decode cX9_priceAt 29 = .ok (.invokevirtual 181, 3) := by decide +kernel
theorem dX9_priceAt_32 : decode cX9_priceAt 32 = .ok (.aload_n 0, 1) := by decide +kernel
theorem dX9_priceAt_33 : decode cX9_priceAt 33 = .ok (.getfield 47, 3) := by decide +kernel
theorem dX9_priceAt_36 : decode cX9_priceAt 36 = .ok (.getfield 185, 3) := by decide +kernel
theorem dX9_priceAt_39 : decode cX9_priceAt 39 = .ok (.ireturn, 1) := by decide +kernel
theorem dX9_carryOrder_0 : decode cX9_carryOrder 0 = .ok (.aload_n 0, 1) := by decide +kernel
theorem dX9_carryOrder_1 : decode cX9_carryOrder 1 = .ok (.getfield 40, 3) := by decide +kernel
theorem dX9_carryOrder_4 : decode cX9_carryOrder 4 = .ok (.getfield 231, 3) := by decide +kernel
theorem dX9_carryOrder_7 : decode cX9_carryOrder 7 = .ok (.lookupswitch 130 #[(100, 65), (101, 122), (104, 57), (115, 106), (119, 91), (120, 114)], 57) := by decide +kernel
theorem dX9_carryOrder_64 : decode cX9_carryOrder 64 = .ok (.aload_n 0, 1) := by decide +kernel
theorem dX9_carryOrder_65 : decode cX9_carryOrder 65 = .ok (.getfield 12, 3) := by decide +kernel
theorem dX9_carryOrder_68 : decode cX9_carryOrder 68 = .ok (.invokevirtual 88, 3) := by decide +kernel
theorem dX9_carryOrder_71 : decode cX9_carryOrder 71 = .ok (.ireturn, 1) := by decide +kernel
theorem dX9_carryOrder_72 : decode cX9_carryOrder 72 = .ok (.aload_n 0, 1) := by decide +kernel
theorem dX9_carryOrder_73 : decode cX9_carryOrder 73 = .ok (.getfield 12, 3) := by decide +kernel
theorem dX9_carryOrder_76 : decode cX9_carryOrder 76 = .ok (.aload_n 0, 1) := by decide +kernel
theorem dX9_carryOrder_77 : decode cX9_carryOrder 77 = .ok (.getfield 47, 3) := by decide +kernel
theorem dX9_carryOrder_80 : decode cX9_carryOrder 80 = .ok (.aload_n 0, 1) := by decide +kernel
theorem dX9_carryOrder_81 : decode cX9_carryOrder 81 = .ok (.getfield 40, 3) := by decide +kernel
theorem dX9_carryOrder_84 : decode cX9_carryOrder 84 = .ok (.getfield 235, 3) := by decide +kernel
theorem dX9_carryOrder_87 : decode cX9_carryOrder 87 = .ok (.aload_n 0, 1) := by decide +kernel
theorem dX9_carryOrder_88 : decode cX9_carryOrder 88 = .ok (.getfield 40, 3) := by decide +kernel
theorem dX9_carryOrder_91 : decode cX9_carryOrder 91 = .ok (.getfield 238, 3) := by decide +kernel
theorem dX9_carryOrder_94 : decode cX9_carryOrder 94 = .ok (.invokevirtual 92, 3) := by decide +kernel
theorem dX9_carryOrder_97 : decode cX9_carryOrder 97 = .ok (.ireturn, 1) := by decide +kernel
theorem dX9_carryOrder_98 : decode cX9_carryOrder 98 = .ok (.aload_n 0, 1) := by decide +kernel
theorem dX9_carryOrder_99 : decode cX9_carryOrder 99 = .ok (.getfield 12, 3) := by decide +kernel
theorem dX9_carryOrder_102 : decode cX9_carryOrder 102 = .ok (.aload_n 0, 1) := by decide +kernel
theorem dX9_carryOrder_103 : decode cX9_carryOrder 103 = .ok (.getfield 40, 3) := by decide +kernel
theorem dX9_carryOrder_106 : decode cX9_carryOrder 106 = .ok (.getfield 238, 3) := by decide +kernel
theorem dX9_carryOrder_109 : decode cX9_carryOrder 109 = .ok (.invokevirtual 96, 3) := by decide +kernel
theorem dX9_carryOrder_112 : decode cX9_carryOrder 112 = .ok (.ireturn, 1) := by decide +kernel
theorem dX9_carryOrder_113 : decode cX9_carryOrder 113 = .ok (.aload_n 0, 1) := by decide +kernel
theorem dX9_carryOrder_114 : decode cX9_carryOrder 114 = .ok (.getfield 12, 3) := by decide +kernel
theorem dX9_carryOrder_117 : decode cX9_carryOrder 117 = .ok (.invokevirtual 99, 3) := by decide +kernel
theorem dX9_carryOrder_120 : decode cX9_carryOrder 120 = .ok (.ireturn, 1) := by decide +kernel
theorem dX9_carryOrder_121 : decode cX9_carryOrder 121 = .ok (.aload_n 0, 1) := by decide +kernel
theorem dX9_carryOrder_122 : decode cX9_carryOrder 122 = .ok (.getfield 12, 3) := by decide +kernel
theorem dX9_carryOrder_125 : decode cX9_carryOrder 125 = .ok (.invokevirtual 102, 3) := by decide +kernel
theorem dX9_carryOrder_128 : decode cX9_carryOrder 128 = .ok (.ireturn, 1) := by decide +kernel
theorem dX9_carryOrder_129 : decode cX9_carryOrder 129 = .ok (.aload_n 0, 1) := by decide +kernel
theorem dX9_carryOrder_130 : decode cX9_carryOrder 130 = .ok (.getfield 12, 3) := by decide +kernel
theorem dX9_carryOrder_133 : decode cX9_carryOrder 133 = .ok (.invokevirtual 105, 3) := by decide +kernel
theorem dX9_carryOrder_136 : decode cX9_carryOrder 136 = .ok (.ireturn, 1) := by decide +kernel
theorem dX9_carryOrder_137 : decode cX9_carryOrder 137 = .ok (.bipush (-2), 2) := by decide +kernel
theorem dX9_carryOrder_139 : decode cX9_carryOrder 139 = .ok (.ireturn, 1) := by decide +kernel
theorem dX9_isIn_0 : decode cX9_isIn 0 = .ok (.iload_n 0, 1) := by decide +kernel
theorem dX9_isIn_1 : decode cX9_isIn 1 = .ok (.iload_n 1, 1) := by decide +kernel
theorem dX9_isIn_2 : decode cX9_isIn 2 = .ok (.if_icmp .lt 12, 3) := by decide +kernel
theorem dX9_isIn_5 : decode cX9_isIn 5 = .ok (.iload_n 0, 1) := by decide +kernel
theorem dX9_isIn_6 : decode cX9_isIn 6 = .ok (.iload_n 2, 1) := by decide +kernel
theorem dX9_isIn_7 : decode cX9_isIn 7 = .ok (.if_icmp .gt 7, 3) := by decide +kernel
theorem dX9_isIn_10 : decode cX9_isIn 10 = .ok (.iconst 1, 1) := by decide +kernel
theorem dX9_isIn_11 : decode cX9_isIn 11 = .ok (.goto 4, 3) := by decide +kernel
theorem dX9_isIn_14 : decode cX9_isIn 14 = .ok (.iconst 0, 1) := by decide +kernel
theorem dX9_isIn_15 : decode cX9_isIn 15 = .ok (.ireturn, 1) := by decide +kernel
theorem dX9_isDrive_0 : decode cX9_isDrive 0 = .ok (.iload_n 0, 1) := by decide +kernel
theorem dX9_isDrive_1 : decode cX9_isDrive 1 = .ok (.iconst 0, 1) := by decide +kernel
theorem dX9_isDrive_2 : decode cX9_isDrive 2 = .ok (.sipush 9999, 3) := by decide +kernel
theorem dX9_isDrive_5 : decode cX9_isDrive 5 = .ok (.invokestatic 51, 3) := by decide +kernel
theorem dX9_isDrive_8 : decode cX9_isDrive 8 = .ok (.ifCond .eq 18, 3) := by decide +kernel
theorem dX9_isDrive_11 : decode cX9_isDrive 11 = .ok (.iload_n 1, 1) := by decide +kernel
theorem dX9_isDrive_12 : decode cX9_isDrive 12 = .ok (.iconst 1, 1) := by decide +kernel
theorem dX9_isDrive_13 : decode cX9_isDrive 13 = .ok (.sipush 9999, 3) := by decide +kernel
theorem dX9_isDrive_16 : decode cX9_isDrive 16 = .ok (.invokestatic 51, 3) := by decide +kernel
theorem dX9_isDrive_19 : decode cX9_isDrive 19 = .ok (.ifCond .eq 7, 3) := by decide +kernel
theorem dX9_isDrive_22 : decode cX9_isDrive 22 = .ok (.iconst 1, 1) := by decide +kernel
theorem dX9_isDrive_23 : decode cX9_isDrive 23 = .ok (.goto 4, 3) := by decide +kernel
theorem dX9_isDrive_26 : decode cX9_isDrive 26 = .ok (.iconst 0, 1) := by decide +kernel
theorem dX9_isDrive_27 : decode cX9_isDrive 27 = .ok (.ireturn, 1) := by decide +kernel
theorem dX9_at_0 : decode cX9_at 0 = .ok (.iload_n 1, 1) := by decide +kernel
theorem dX9_at_1 : decode cX9_at 1 = .ok (.ifCond .lt 15, 3) := by decide +kernel
theorem dX9_at_4 : decode cX9_at 4 = .ok (.iload_n 1, 1) := by decide +kernel
theorem dX9_at_5 : decode cX9_at 5 = .ok (.aload_n 0, 1) := by decide +kernel
theorem dX9_at_6 : decode cX9_at 6 = .ok (.arraylength, 1) := by decide +kernel
theorem dX9_at_7 : decode cX9_at 7 = .ok (.if_icmp .ge 9, 3) := by decide +kernel
theorem dX9_at_10 : decode cX9_at 10 = .ok (.aload_n 0, 1) := by decide +kernel
theorem dX9_at_11 : decode cX9_at 11 = .ok (.iload_n 1, 1) := by decide +kernel
theorem dX9_at_12 : decode cX9_at 12 = .ok (.iaload, 1) := by decide +kernel
theorem dX9_at_13 : decode cX9_at 13 = .ok (.goto 4, 3) := by decide +kernel
theorem dX9_at_16 : decode cX9_at 16 = .ok (.iconst 0, 1) := by decide +kernel
theorem dX9_at_17 : decode cX9_at 17 = .ok (.ireturn, 1) := by decide +kernel
theorem dX9_setAt_0 : decode cX9_setAt 0 = .ok (.iload_n 1, 1) := by decide +kernel
theorem dX9_setAt_1 : decode cX9_setAt 1 = .ok (.ifCond .lt 13, 3) := by decide +kernel
theorem dX9_setAt_4 : decode cX9_setAt 4 = .ok (.iload_n 1, 1) := by decide +kernel
theorem dX9_setAt_5 : decode cX9_setAt 5 = .ok (.aload_n 0, 1) := by decide +kernel
theorem dX9_setAt_6 : decode cX9_setAt 6 = .ok (.arraylength, 1) := by decide +kernel
theorem dX9_setAt_7 : decode cX9_setAt 7 = .ok (.if_icmp .ge 7, 3) := by decide +kernel
theorem dX9_setAt_10 : decode cX9_setAt 10 = .ok (.aload_n 0, 1) := by decide +kernel
theorem dX9_setAt_11 : decode cX9_setAt 11 = .ok (.iload_n 1, 1) := by decide +kernel
theorem dX9_setAt_12 : decode cX9_setAt 12 = .ok (.iload_n 2, 1) := by decide +kernel
theorem dX9_setAt_13 : decode cX9_setAt 13 = .ok (.iastore, 1) := by decide +kernel
theorem dX9_setAt_14 : decode cX9_setAt 14 = .ok (.return_, 1) := by decide +kernel
theorem dX9_copyRow_0 : decode cX9_copyRow 0 = .ok (.aload_n 0, 1) := by decide +kernel
theorem dX9_copyRow_1 : decode cX9_copyRow 1 = .ok (.iconst 0, 1) := by decide +kernel
theorem dX9_copyRow_2 : decode cX9_copyRow 2 = .ok (.aload_n 1, 1) := by decide +kernel
theorem dX9_copyRow_3 : decode cX9_copyRow 3 = .ok (.iconst 0, 1) := by decide +kernel
theorem dX9_copyRow_4 : decode cX9_copyRow 4 = .ok (.aload_n 0, 1) := by decide +kernel
theorem dX9_copyRow_5 : decode cX9_copyRow 5 = .ok (.arraylength, 1) := by decide +kernel
theorem dX9_copyRow_6 : decode cX9_copyRow 6 = .ok (.aload_n 1, 1) := by decide +kernel
theorem dX9_copyRow_7 : decode cX9_copyRow 7 = .ok (.arraylength, 1) := by decide +kernel
theorem dX9_copyRow_8 : decode cX9_copyRow 8 = .ok (.invokestatic 241, 3) := by decide +kernel
theorem dX9_copyRow_11 : decode cX9_copyRow 11 = .ok (.invokestatic 246, 3) := by decide +kernel
theorem dX9_copyRow_14 : decode cX9_copyRow 14 = .ok (.return_, 1) := by decide +kernel
end
section
theorem dX10_init_0 : decode cX10_init 0 = .ok (.aload_n 0, 1) := by decide +kernel
theorem dX10_init_1 : decode cX10_init 1 = .ok (.invokespecial 1, 3) := by decide +kernel
theorem dX10_init_4 : decode cX10_init 4 = .ok (.aload_n 0, 1) := by decide +kernel
theorem dX10_init_5 : decode cX10_init 5 = .ok (.bipush 113, 2) := by decide +kernel
theorem dX10_init_7 : decode cX10_init 7 = .ok (.newarray .int, 2) := by decide +kernel
theorem dX10_init_9 : decode cX10_init 9 = .ok (.putfield 7, 3) := by decide +kernel
theorem dX10_init_12 : decode cX10_init 12 = .ok (.aload_n 0, 1) := by decide +kernel
theorem dX10_init_13 : decode cX10_init 13 = .ok (.sipush 678, 3) := by decide +kernel
theorem dX10_init_16 : decode cX10_init 16 = .ok (.newarray .int, 2) := by decide +kernel
theorem dX10_init_18 : decode cX10_init 18 = .ok (.putfield 13, 3) := by decide +kernel
theorem dX10_init_21 : decode cX10_init 21 = .ok (.aload_n 0, 1) := by decide +kernel
theorem dX10_init_22 : decode cX10_init 22 = .ok (.sipush 226, 3) := by decide +kernel
theorem dX10_init_25 : decode cX10_init 25 = .ok (.newarray .int, 2) := by decide +kernel
theorem dX10_init_27 : decode cX10_init 27 = .ok (.putfield 16, 3) := by decide +kernel
theorem dX10_init_30 : decode cX10_init 30 = .ok (.aload_n 0, 1) := by decide +kernel
theorem dX10_init_31 : decode cX10_init 31 = .ok (.iconst 2, 1) := by decide +kernel
theorem dX10_init_32 : decode cX10_init 32 = .ok (.newarray .boolean, 2) := by decide +kernel
theorem dX10_init_34 : decode cX10_init 34 = .ok (.putfield 19, 3) := by decide +kernel
theorem dX10_init_37 : decode cX10_init 37 = .ok (.aload_n 0, 1) := by decide +kernel
theorem dX10_init_38 : decode cX10_init 38 = .ok (.bipush 113, 2) := by decide +kernel
theorem dX10_init_40 : decode cX10_init 40 = .ok (.newarray .int, 2) := by decide +kernel
theorem dX10_init_42 : decode cX10_init 42 = .ok (.putfield 23, 3) := by decide +kernel
theorem dX10_init_45 : decode cX10_init 45 = .ok (.aload_n 0, 1) := by decide +kernel
theorem dX10_init_46 : decode cX10_init 46 = .ok (.bipush 80, 2) := by decide +kernel
theorem dX10_init_48 : decode cX10_init 48 = .ok (.newarray .char, 2) := by decide +kernel
theorem dX10_init_50 : decode cX10_init 50 = .ok (.putfield 26, 3) := by decide +kernel
theorem dX10_init_53 : decode cX10_init 53 = .ok (.aload_n 0, 1) := by decide +kernel
theorem dX10_init_54 : decode cX10_init 54 = .ok (.bipush 123, 2) := by decide +kernel
theorem dX10_init_56 : decode cX10_init 56 = .ok (.newarray .int, 2) := by decide +kernel
theorem dX10_init_58 : decode cX10_init 58 = .ok (.putfield 30, 3) := by decide +kernel
theorem dX10_init_61 : decode cX10_init 61 = .ok (.iconst 0, 1) := by decide +kernel
theorem dX10_init_62 : decode cX10_init 62 = .ok (.istore_n 1, 1) := by decide +kernel
theorem dX10_init_63 : decode cX10_init 63 = .ok (.iload_n 1, 1) := by decide +kernel
theorem dX10_init_64 : decode cX10_init 64 = .ok (.iconst 3, 1) := by decide +kernel
theorem dX10_init_65 : decode cX10_init 65 = .ok (.if_icmp .ge 67, 3) := by decide +kernel
theorem dX10_init_68 : decode cX10_init 68 = .ok (.aload_n 0, 1) := by decide +kernel
theorem dX10_init_69 : decode cX10_init 69 = .ok (.getfield 7, 3) := by decide +kernel
theorem dX10_init_72 : decode cX10_init 72 = .ok (.iconst 0, 1) := by decide +kernel
theorem dX10_init_73 : decode cX10_init 73 = .ok (.iconst 4, 1) := by decide +kernel
theorem dX10_init_74 : decode cX10_init 74 = .ok (.iload_n 1, 1) := by decide +kernel
theorem dX10_init_75 : decode cX10_init 75 = .ok (.imul, 1) := by decide +kernel
theorem dX10_init_76 : decode cX10_init 76 = .ok (.iadd, 1) := by decide +kernel
theorem dX10_init_77 : decode cX10_init 77 = .ok (.bipush 30, 2) := by decide +kernel
theorem dX10_init_79 : decode cX10_init 79 = .ok (.iastore, 1) := by decide +kernel
theorem dX10_init_80 : decode cX10_init 80 = .ok (.aload_n 0, 1) := by decide +kernel
theorem dX10_init_81 : decode cX10_init 81 = .ok (.getfield 7, 3) := by decide +kernel
theorem dX10_init_84 : decode cX10_init 84 = .ok (.iconst 0, 1) := by decide +kernel
theorem dX10_init_85 : decode cX10_init 85 = .ok (.iconst 4, 1) := by decide +kernel
theorem dX10_init_86 : decode cX10_init 86 = .ok (.iload_n 1, 1) := by decide +kernel
theorem dX10_init_87 : decode cX10_init 87 = .ok (.imul, 1) := by decide +kernel
theorem dX10_init_88 : decode cX10_init 88 = .ok (.iadd, 1) := by decide +kernel
theorem dX10_init_89 : decode cX10_init 89 = .ok (.iconst 1, 1) := by decide +kernel
theorem dX10_init_90 : decode cX10_init 90 = .ok (.iadd, 1) := by decide +kernel
theorem dX10_init_91 : decode cX10_init 91 = .ok (.iconst 2, 1) := by decide +kernel
theorem dX10_init_92 : decode cX10_init 92 = .ok (.iastore, 1) := by decide +kernel
theorem dX10_init_93 : decode cX10_init 93 = .ok (.aload_n 0, 1) := by decide +kernel
theorem dX10_init_94 : decode cX10_init 94 = .ok (.getfield 7, 3) := by decide +kernel
theorem dX10_init_97 : decode cX10_init 97 = .ok (.iconst 0, 1) := by decide +kernel
theorem dX10_init_98 : decode cX10_init 98 = .ok (.iconst 4, 1) := by decide +kernel
theorem dX10_init_99 : decode cX10_init 99 = .ok (.iload_n 1, 1) := by decide +kernel
theorem dX10_init_100 : decode cX10_init 100 = .ok (.imul, 1) := by decide +kernel
theorem dX10_init_101 : decode cX10_init 101 = .ok (.iadd, 1) := by decide +kernel
theorem dX10_init_102 : decode cX10_init 102 = .ok (.iconst 2, 1) := by decide +kernel
theorem dX10_init_103 : decode cX10_init 103 = .ok (.iadd, 1) := by decide +kernel
theorem dX10_init_104 : decode cX10_init 104 = .ok (.bipush 100, 2) := by decide +kernel
theorem dX10_init_106 : decode cX10_init 106 = .ok (.bipush 10, 2) := by decide +kernel
theorem dX10_init_108 : decode cX10_init 108 = .ok (.iload_n 1, 1) := by decide +kernel
theorem dX10_init_109 : decode cX10_init 109 = .ok (.imul, 1) := by decide +kernel
theorem dX10_init_110 : decode cX10_init 110 = .ok (.isub, 1) := by decide +kernel
theorem dX10_init_111 : decode cX10_init 111 = .ok (.iastore, 1) := by decide +kernel
theorem dX10_init_112 : decode cX10_init 112 = .ok (.aload_n 0, 1) := by decide +kernel
theorem dX10_init_113 : decode cX10_init 113 = .ok (.getfield 7, 3) := by decide +kernel
theorem dX10_init_116 : decode cX10_init 116 = .ok (.iconst 0, 1) := by decide +kernel
theorem dX10_init_117 : decode cX10_init 117 = .ok (.iconst 4, 1) := by decide +kernel
theorem dX10_init_118 : decode cX10_init 118 = .ok (.iload_n 1, 1) := by decide +kernel
theorem dX10_init_119 : decode cX10_init 119 = .ok (.imul, 1) := by decide +kernel
theorem dX10_init_120 : decode cX10_init 120 = .ok (.iadd, 1) := by decide +kernel
theorem dX10_init_121 : decode cX10_init 121 = .ok (.iconst 3, 1) := by decide +kernel
theorem dX10_init_122 : decode cX10_init 122 = .ok (.iadd, 1) := by decide +kernel
theorem dX10_init_123 : decode cX10_init 123 = .ok (.bipush 20, 2) := by decide +kernel
theorem dX10_init_125 : decode cX10_init 125 = .ok (.iastore, 1) := by decide +kernel
theorem dX10_init_126 : decode cX10_init 126 = .ok (.iinc 1 1, 3) := by decide +kernel
theorem dX10_init_129 : decode cX10_init 129 = .ok (.goto (-66), 3) := by decide +kernel
theorem dX10_init_132 : decode cX10_init 132 = .ok (.aload_n 0, 1) := by decide +kernel
theorem dX10_init_133 : decode cX10_init 133 = .ok (.getfield 7, 3) := by decide +kernel
theorem dX10_init_136 : decode cX10_init 136 = .ok (.bipush 36, 2) := by decide +kernel
theorem dX10_init_138 : decode cX10_init 138 = .ok (.iconst 5, 1) := by decide +kernel
theorem dX10_init_139 : decode cX10_init 139 = .ok (.iastore, 1) := by decide +kernel
theorem dX10_init_140 : decode cX10_init 140 = .ok (.return_, 1) := by decide +kernel
theorem dX10_in_0 : decode cX10_in 0 = .ok (.iload_n 0, 1) := by decide +kernel
theorem dX10_in_1 : decode cX10_in 1 = .ok (.iload_n 1, 1) := by decide +kernel
theorem dX10_in_2 : decode cX10_in 2 = .ok (.if_icmp .lt 12, 3) := by decide +kernel
theorem dX10_in_5 : decode cX10_in 5 = .ok (.iload_n 0, 1) := by decide +kernel
theorem dX10_in_6 : decode cX10_in 6 = .ok (.iload_n 2, 1) := by decide +kernel
theorem dX10_in_7 : decode cX10_in 7 = .ok (.if_icmp .gt 7, 3) := by decide +kernel
theorem dX10_in_10 : decode cX10_in 10 = .ok (.iconst 1, 1) := by decide +kernel
theorem dX10_in_11 : decode cX10_in 11 = .ok (.goto 4, 3) := by decide +kernel
theorem dX10_in_14 : decode cX10_in 14 = .ok (.iconst 0, 1) := by decide +kernel
theorem dX10_in_15 : decode cX10_in 15 = .ok (.ireturn, 1) := by decide +kernel
theorem dX10_isTariff_0 : decode cX10_isTariff 0 = .ok (.iload_n 0, 1) := by decide +kernel
theorem dX10_isTariff_1 : decode cX10_isTariff 1 = .ok (.iconst 0, 1) := by decide +kernel
theorem dX10_isTariff_2 : decode cX10_isTariff 2 = .ok (.iconst 2, 1) := by decide +kernel
theorem dX10_isTariff_3 : decode cX10_isTariff 3 = .ok (.invokestatic 33, 3) := by decide +kernel
theorem dX10_isTariff_6 : decode cX10_isTariff 6 = .ok (.ireturn, 1) := by decide +kernel
theorem dX10_its_0 : decode cX10_its 0 = .ok (.aload_n 0, 1) := by decide +kernel
theorem dX10_its_1 : decode cX10_its 1 = .ok (.getfield 7, 3) := by decide +kernel
theorem dX10_its_4 : decode cX10_its 4 = .ok (.iconst 0, 1) := by decide +kernel
theorem dX10_its_5 : decode cX10_its 5 = .ok (.iconst 4, 1) := by decide +kernel
theorem dX10_its_6 : decode cX10_its 6 = .ok (.iload_n 1, 1) := by decide +kernel
theorem dX10_its_7 : decode cX10_its 7 = .ok (.imul, 1) := by decide +kernel
theorem dX10_its_8 : decode cX10_its 8 = .ok (.iadd, 1) := by decide +kernel
theorem dX10_its_9 : decode cX10_its 9 = .ok (.iload_n 2, 1) := by decide +kernel
theorem dX10_its_10 : decode cX10_its 10 = .ok (.iadd, 1) := by decide +kernel
theorem dX10_its_11 : decode cX10_its 11 = .ok (.iaload, 1) := by decide +kernel
theorem dX10_its_12 : decode cX10_its 12 = .ok (.ireturn, 1) := by decide +kernel
theorem dX10_tariffAt_0 : decode cX10_tariffAt 0 = .ok (.aload_n 0, 1) := by decide +kernel
theorem dX10_tariffAt_1 : decode cX10_tariffAt 1 = .ok (.getfield 7, 3) := by decide +kernel
theorem dX10_tariffAt_4 : decode cX10_tariffAt 4 = .ok (.bipush 12, 2) := by decide +kernel
theorem dX10_tariffAt_6 : decode cX10_tariffAt 6 = .ok (.iload_n 1, 1) := by decide +kernel
theorem dX10_tariffAt_7 : decode cX10_tariffAt 7 = .ok (.sipush 3600, 3) := by decide +kernel
theorem dX10_tariffAt_10 : decode cX10_tariffAt 10 = .ok (.idiv, 1) := by decide +kernel
theorem dX10_tariffAt_11 : decode cX10_tariffAt 11 = .ok (.iadd, 1) := by decide +kernel
theorem dX10_tariffAt_12 : decode cX10_tariffAt 12 = .ok (.iaload, 1) := by decide +kernel
theorem dX10_tariffAt_13 : decode cX10_tariffAt 13 = .ok (.ireturn, 1) := by decide +kernel
theorem dX10_productOf_0 : decode cX10_productOf 0 = .ok (.aload_n 0, 1) := by decide +kernel
theorem dX10_productOf_1 : decode cX10_productOf 1 = .ok (.iload_n 1, 1) := by decide +kernel
theorem dX10_productOf_2 : decode cX10_productOf 2 = .ok (.iconst 2, 1) := by decide +kernel
theorem dX10_productOf_3 : decode cX10_productOf 3 = .ok (.invokevirtual 37, 3) := by decide +kernel
theorem dX10_productOf_6 : decode cX10_productOf 6 = .ok (.aload_n 0, 1) := by decide +kernel
theorem dX10_productOf_7 : decode cX10_productOf 7 = .ok (.iload_n 1, 1) := by decide +kernel
theorem dX10_productOf_8 : decode cX10_productOf 8 = .ok (.iconst 3, 1) := by decide +kernel
theorem dX10_productOf_9 : decode cX10_productOf 9 = .ok (.invokevirtual 37, 3) := by decide +kernel
theorem dX10_productOf_12 : decode cX10_productOf 12 = .ok (.imul, 1) := by decide +kernel
theorem dX10_productOf_13 : decode cX10_productOf 13 = .ok (.ireturn, 1) := by decide +kernel
theorem dX10_record_0 : decode cX10_record 0 = .ok (.aload_n 0, 1) := by decide +kernel
theorem dX10_record_1 : decode cX10_record 1 = .ok (.getfield 41, 3) := by decide +kernel
theorem dX10_record_4 : decode cX10_record 4 = .ok (.bipush 6, 2) := by decide +kernel
theorem dX10_record_6 : decode cX10_record 6 = .ok (.if_icmp .ne 43, 3) := by decide +kernel
theorem dX10_record_9 : decode cX10_record 9 = .ok (.iconst 0, 1) := by decide +kernel
theorem dX10_record_10 : decode cX10_record 10 = .ok (.istore_n 1, 1) := by decide +kernel
theorem dX10_record_11 : decode cX10_record 11 = .ok (.iload_n 1, 1) := by decide +kernel
theorem dX10_record_12 : decode cX10_record 12 = .ok (.sipush 565, 3) := by decide +kernel
theorem dX10_record_15 : decode cX10_record 15 = .ok (.if_icmp .ge 24, 3) := by decide +kernel
theorem dX10_record_18 : decode cX10_record 18 = .ok (.aload_n 0, 1) := by decide +kernel
theorem dX10_record_19 : decode cX10_record 19 = .ok (.getfield 13, 3) := by decide +kernel
theorem dX10_record_22 : decode cX10_record 22 = .ok (.iload_n 1, 1) := by decide +kernel
theorem dX10_record_23 : decode cX10_record 23 = .ok (.aload_n 0, 1) := by decide +kernel
theorem dX10_record_24 : decode cX10_record 24 = .ok (.getfield 13, 3) := by decide +kernel
theorem dX10_record_27 : decode cX10_record 27 = .ok (.iload_n 1, 1) := by decide +kernel
theorem dX10_record_28 : decode cX10_record 28 = .ok (.bipush 113, 2) := by decide +kernel
theorem dX10_record_30 : decode cX10_record 30 = .ok (.iadd, 1) := by decide +kernel
theorem dX10_record_31 : decode cX10_record 31 = .ok (.iaload, 1) := by decide +kernel
theorem dX10_record_32 : decode cX10_record 32 = .ok (.iastore, 1) := by decide +kernel
theorem dX10_record_33 : decode cX10_record 33 = .ok (.iinc 1 1, 3) := by decide +kernel
theorem dX10_record_36 : decode cX10_record 36 = .ok (.goto (-25), 3) := by decide +kernel
theorem dX10_record_39 : decode cX10_record 39 = .ok (.aload_n 0, 1) := by decide +kernel
theorem dX10_record_40 : decode cX10_record 40 = .ok (.dup, 1) := by decide +kernel
theorem dX10_record_41 : decode cX10_record 41 = .ok (.getfield 41, 3) := by decide +kernel
theorem dX10_record_44 : decode cX10_record 44 = .ok (.iconst 1, 1) := by decide +kernel
theorem dX10_record_45 : decode cX10_record 45 = .ok (.isub, 1) := by decide +kernel
theorem dX10_record_46 : decode cX10_record 46 = .ok (.putfield 41, 3) := by decide +kernel
theorem dX10_record_49 : decode cX10_record 49 = .ok (.iconst 0, 1) := by decide +kernel
theorem dX10_record_50 : decode cX10_record 50 = .ok (.istore_n 1, 1) := by decide +kernel
theorem dX10_record_51 : decode cX10_record 51 = .ok (.iload_n 1, 1) := by decide +kernel
theorem dX10_record_52 : decode cX10_record 52 = .ok (.bipush 113, 2) := by decide +kernel
theorem dX10_record_54 : decode cX10_record 54 = .ok (.if_icmp .ge 29, 3) := by decide +kernel
theorem dX10_record_57 : decode cX10_record 57 = .ok (.aload_n 0, 1) := by decide +kernel
theorem dX10_record_58 : decode cX10_record 58 = .ok (.getfield 13, 3) := by decide +kernel
theorem dX10_record_61 : decode cX10_record 61 = .ok (.aload_n 0, 1) := by decide +kernel
theorem dX10_record_62 : decode cX10_record 62 = .ok (.getfield 41, 3) := by decide +kernel
theorem dX10_record_65 : decode cX10_record 65 = .ok (.bipush 113, 2) := by decide +kernel
theorem dX10_record_67 : decode cX10_record 67 = .ok (.imul, 1) := by decide +kernel
theorem dX10_record_68 : decode cX10_record 68 = .ok (.iload_n 1, 1) := by decide +kernel
theorem dX10_record_69 : decode cX10_record 69 = .ok (.iadd, 1) := by decide +kernel
theorem dX10_record_70 : decode cX10_record 70 = .ok (.aload_n 0, 1) := by decide +kernel
theorem dX10_record_71 : decode cX10_record 71 = .ok (.getfield 7, 3) := by decide +kernel
theorem dX10_record_74 : decode cX10_record 74 = .ok (.iload_n 1, 1) := by decide +kernel
theorem dX10_record_75 : decode cX10_record 75 = .ok (.iaload, 1) := by decide +kernel
theorem dX10_record_76 : decode cX10_record 76 = .ok (.iastore, 1) := by decide +kernel
theorem dX10_record_77 : decode cX10_record 77 = .ok (.iinc 1 1, 3) := by decide +kernel
theorem dX10_record_80 : decode cX10_record 80 = .ok (.goto (-29), 3) := by decide +kernel
theorem dX10_record_83 : decode cX10_record 83 = .ok (.aload_n 0, 1) := by decide +kernel
theorem dX10_record_84 : decode cX10_record 84 = .ok (.dup, 1) := by decide +kernel
theorem dX10_record_85 : decode cX10_record 85 = .ok (.getfield 41, 3) := by decide +kernel
theorem dX10_record_88 : decode cX10_record 88 = .ok (.iconst 1, 1) := by decide +kernel
theorem dX10_record_89 : decode cX10_record 89 = .ok (.iadd, 1) := by decide +kernel
theorem dX10_record_90 : decode cX10_record 90 = .ok (.putfield 41, 3) := by decide +kernel
theorem dX10_record_93 : decode cX10_record 93 = .ok (.return_, 1) := by decide +kernel
theorem dX10_undo_0 : decode cX10_undo 0 = .ok (.aload_n 0, 1) := by decide +kernel
theorem dX10_undo_1 : decode cX10_undo 1 = .ok (.getfield 41, 3) := by decide +kernel
theorem dX10_undo_4 : decode cX10_undo 4 = .ok (.ifCond .ne 6, 3) := by decide +kernel
theorem dX10_undo_7 : decode cX10_undo 7 = .ok (.bipush (-5), 2) := by decide +kernel
theorem dX10_undo_9 : decode cX10_undo 9 = .ok (.ireturn, 1) := by decide +kernel
theorem dX10_undo_10 : decode cX10_undo 10 = .ok (.aload_n 0, 1) := by decide +kernel
theorem dX10_undo_11 : decode cX10_undo 11 = .ok (.dup, 1) := by decide +kernel
theorem dX10_undo_12 : decode cX10_undo 12 = .ok (.getfield 41, 3) := by decide +kernel
theorem dX10_undo_15 : decode cX10_undo 15 = .ok (.iconst 1, 1) := by decide +kernel
theorem dX10_undo_16 : decode cX10_undo 16 = .ok (.isub, 1) := by decide +kernel
theorem dX10_undo_17 : decode cX10_undo 17 = .ok (.putfield 41, 3) := by decide +kernel
theorem dX10_undo_20 : decode cX10_undo 20 = .ok (.iconst 0, 1) := by decide +kernel
theorem dX10_undo_21 : decode cX10_undo 21 = .ok (.istore_n 1, 1) := by decide +kernel
theorem dX10_undo_22 : decode cX10_undo 22 = .ok (.iload_n 1, 1) := by decide +kernel
theorem dX10_undo_23 : decode cX10_undo 23 = .ok (.bipush 113, 2) := by decide +kernel
theorem dX10_undo_25 : decode cX10_undo 25 = .ok (.if_icmp .ge 29, 3) := by decide +kernel
theorem dX10_undo_28 : decode cX10_undo 28 = .ok (.aload_n 0, 1) := by decide +kernel
theorem dX10_undo_29 : decode cX10_undo 29 = .ok (.getfield 7, 3) := by decide +kernel
theorem dX10_undo_32 : decode cX10_undo 32 = .ok (.iload_n 1, 1) := by decide +kernel
theorem dX10_undo_33 : decode cX10_undo 33 = .ok (.aload_n 0, 1) := by decide +kernel
theorem dX10_undo_34 : decode cX10_undo 34 = .ok (.getfield 13, 3) := by decide +kernel
theorem dX10_undo_37 : decode cX10_undo 37 = .ok (.aload_n 0, 1) := by decide +kernel
theorem dX10_undo_38 : decode cX10_undo 38 = .ok (.getfield 41, 3) := by decide +kernel
theorem dX10_undo_41 : decode cX10_undo 41 = .ok (.bipush 113, 2) := by decide +kernel
theorem dX10_undo_43 : decode cX10_undo 43 = .ok (.imul, 1) := by decide +kernel
theorem dX10_undo_44 : decode cX10_undo 44 = .ok (.iload_n 1, 1) := by decide +kernel
theorem dX10_undo_45 : decode cX10_undo 45 = .ok (.iadd, 1) := by decide +kernel
theorem dX10_undo_46 : decode cX10_undo 46 = .ok (.iaload, 1) := by decide +kernel
theorem dX10_undo_47 : decode cX10_undo 47 = .ok (.iastore, 1) := by decide +kernel
theorem dX10_undo_48 : decode cX10_undo 48 = .ok (.iinc 1 1, 3) := by decide +kernel
theorem dX10_undo_51 : decode cX10_undo 51 = .ok (.goto (-29), 3) := by decide +kernel
theorem dX10_undo_54 : decode cX10_undo 54 = .ok (.aload_n 0, 1) := by decide +kernel
theorem dX10_undo_55 : decode cX10_undo 55 = .ok (.getfield 41, 3) := by decide +kernel
theorem dX10_undo_58 : decode cX10_undo 58 = .ok (.ireturn, 1) := by decide +kernel
theorem dX10_save_0 : decode cX10_save 0 = .ok (.iload_n 1, 1) := by decide +kernel
theorem dX10_save_1 : decode cX10_save 1 = .ok (.iconst 0, 1) := by decide +kernel
theorem dX10_save_2 : decode cX10_save 2 = .ok (.iconst 1, 1) := by decide +kernel
theorem dX10_save_3 : decode cX10_save 3 = .ok (.invokestatic 33, 3) := by decide +kernel
theorem dX10_save_6 : decode cX10_save 6 = .ok (.ifCond .ne 6, 3) := by decide +kernel
theorem dX10_save_9 : decode cX10_save 9 = .ok (.bipush (-2), 2) := by decide +kernel
theorem dX10_save_11 : decode cX10_save 11 = .ok (.ireturn, 1) := by decide +kernel
theorem dX10_save_12 : decode cX10_save 12 = .ok (.aload_n 0, 1) := by decide +kernel
theorem dX10_save_13 : decode cX10_save 13 = .ok (.getfield 19, 3) := by decide +kernel
theorem dX10_save_16 : decode cX10_save 16 = .ok (.iload_n 1, 1) := by decide +kernel
theorem dX10_save_17 : decode cX10_save 17 = .ok (.iconst 1, 1) := by decide +kernel
theorem dX10_save_18 : decode cX10_save 18 = .ok (.bastore, 1) := by decide +kernel
theorem dX10_save_19 : decode cX10_save 19 = .ok (.iconst 0, 1) := by decide +kernel
theorem dX10_save_20 : decode cX10_save 20 = .ok (.istore_n 2, 1) := by decide +kernel
theorem dX10_save_21 : decode cX10_save 21 = .ok (.iload_n 2, 1) := by decide +kernel
theorem dX10_save_22 : decode cX10_save 22 = .ok (.bipush 113, 2) := by decide +kernel
theorem dX10_save_24 : decode cX10_save 24 = .ok (.if_icmp .ge 26, 3) := by decide +kernel
theorem dX10_save_27 : decode cX10_save 27 = .ok (.aload_n 0, 1) := by decide +kernel
theorem dX10_save_28 : decode cX10_save 28 = .ok (.getfield 16, 3) := by decide +kernel
theorem dX10_save_31 : decode cX10_save 31 = .ok (.iload_n 1, 1) := by decide +kernel
theorem dX10_save_32 : decode cX10_save 32 = .ok (.bipush 113, 2) := by decide +kernel
theorem dX10_save_34 : decode cX10_save 34 = .ok (.imul, 1) := by decide +kernel
theorem dX10_save_35 : decode cX10_save 35 = .ok (.iload_n 2, 1) := by decide +kernel
theorem dX10_save_36 : decode cX10_save 36 = .ok (.iadd, 1) := by decide +kernel
theorem dX10_save_37 : decode cX10_save 37 = .ok (.aload_n 0, 1) := by decide +kernel
theorem dX10_save_38 : decode cX10_save 38 = .ok (.getfield 7, 3) := by decide +kernel
theorem dX10_save_41 : decode cX10_save 41 = .ok (.iload_n 2, 1) := by decide +kernel
theorem dX10_save_42 : decode cX10_save 42 = .ok (.iaload, 1) := by decide +kernel
theorem dX10_save_43 : decode cX10_save 43 = .ok (.iastore, 1) := by decide +kernel
theorem dX10_save_44 : decode cX10_save 44 = .ok (.iinc 2 1, 3) := by decide +kernel
theorem dX10_save_47 : decode cX10_save 47 = .ok (.goto (-26), 3) := by decide +kernel
theorem dX10_save_50 : decode cX10_save 50 = .ok (.aload_n 0, 1) := by decide +kernel
theorem dX10_save_51 : decode cX10_save 51 = .ok (.getfield 7, 3) := by decide +kernel
theorem dX10_save_54 : decode cX10_save 54 = .ok (.bipush 50, 2) := by decide +kernel
theorem dX10_save_56 : decode cX10_save 56 = .ok (.iaload, 1) := by decide +kernel
theorem dX10_save_57 : decode cX10_save 57 = .ok (.ireturn, 1) := by decide +kernel
theorem dX10_restore_0 : decode cX10_restore 0 = .ok (.iload_n 1, 1) := by decide +kernel
theorem dX10_restore_1 : decode cX10_restore 1 = .ok (.iconst 0, 1) := by decide +kernel
theorem dX10_restore_2 : decode cX10_restore 2 = .ok (.iconst 1, 1) := by decide +kernel
theorem dX10_restore_3 : decode cX10_restore 3 = .ok (.invokestatic 33, 3) := by decide +kernel
theorem dX10_restore_6 : decode cX10_restore 6 = .ok (.ifCond .ne 6, 3) := by decide +kernel
theorem dX10_restore_9 : decode cX10_restore 9 = .ok (.bipush (-2), 2) := by decide +kernel
theorem dX10_restore_11 : decode cX10_restore 11 = .ok (.ireturn, 1) := by decide +kernel
theorem dX10_restore_12 : decode cX10_restore 12 = .ok (.aload_n 0, 1) := by decide +kernel
theorem dX10_restore_13 : decode cX10_restore 13 = .ok (.getfield 19, 3) := by decide +kernel
theorem dX10_restore_16 : decode cX10_restore 16 = .ok (.iload_n 1, 1) := by decide +kernel
theorem dX10_restore_17 : decode cX10_restore 17 = .ok (.baload, 1) := by decide +kernel
theorem dX10_restore_18 : decode cX10_restore 18 = .ok (.ifCond .ne 6, 3) := by decide +kernel
theorem dX10_restore_21 : decode cX10_restore 21 = .ok (.bipush (-5), 2) := by decide +kernel
theorem dX10_restore_23 : decode cX10_restore 23 = .ok (.ireturn, 1) := by decide +kernel
theorem dX10_restore_24 : decode cX10_restore 24 = .ok (.aload_n 0, 1) := by decide +kernel
theorem dX10_restore_25 : decode cX10_restore 25 = .ok (.invokevirtual 45, 3) := by decide +kernel
theorem dX10_restore_28 : decode cX10_restore 28 = .ok (.iconst 0, 1) := by decide +kernel
theorem dX10_restore_29 : decode cX10_restore 29 = .ok (.istore_n 2, 1) := by decide +kernel
theorem dX10_restore_30 : decode cX10_restore 30 = .ok (.iload_n 2, 1) := by decide +kernel
theorem dX10_restore_31 : decode cX10_restore 31 = .ok (.bipush 113, 2) := by decide +kernel
theorem dX10_restore_33 : decode cX10_restore 33 = .ok (.if_icmp .ge 26, 3) := by decide +kernel
theorem dX10_restore_36 : decode cX10_restore 36 = .ok (.aload_n 0, 1) := by decide +kernel
theorem dX10_restore_37 : decode cX10_restore 37 = .ok (.getfield 7, 3) := by decide +kernel
theorem dX10_restore_40 : decode cX10_restore 40 = .ok (.iload_n 2, 1) := by decide +kernel
theorem dX10_restore_41 : decode cX10_restore 41 = .ok (.aload_n 0, 1) := by decide +kernel
theorem dX10_restore_42 : decode cX10_restore 42 = .ok (.getfield 16, 3) := by decide +kernel
theorem dX10_restore_45 : decode cX10_restore 45 = .ok (.iload_n 1, 1) := by decide +kernel
theorem dX10_restore_46 : decode cX10_restore 46 = .ok (.bipush 113, 2) := by decide +kernel
theorem dX10_restore_48 : decode cX10_restore 48 = .ok (.imul, 1) := by decide +kernel
theorem dX10_restore_49 : decode cX10_restore 49 = .ok (.iload_n 2, 1) := by decide +kernel
theorem dX10_restore_50 : decode cX10_restore 50 = .ok (.iadd, 1) := by decide +kernel
theorem dX10_restore_51 : decode cX10_restore 51 = .ok (.iaload, 1) := by decide +kernel
theorem dX10_restore_52 : decode cX10_restore 52 = .ok (.iastore, 1) := by decide +kernel
theorem dX10_restore_53 : decode cX10_restore 53 = .ok (.iinc 2 1, 3) := by decide +kernel
theorem dX10_restore_56 : decode cX10_restore 56 = .ok (.goto (-26), 3) := by decide +kernel
theorem dX10_restore_59 : decode cX10_restore 59 = .ok (.aload_n 0, 1) := by decide +kernel
theorem dX10_restore_60 : decode cX10_restore 60 = .ok (.getfield 7, 3) := by decide +kernel
theorem dX10_restore_63 : decode cX10_restore 63 = .ok (.bipush 50, 2) := by decide +kernel
theorem dX10_restore_65 : decode cX10_restore 65 = .ok (.iaload, 1) := by decide +kernel
theorem dX10_restore_66 : decode cX10_restore 66 = .ok (.ireturn, 1) := by decide +kernel
theorem dX10_putAside_0 : decode cX10_putAside 0 = .ok (.iconst 0, 1) := by decide +kernel
theorem dX10_putAside_1 : decode cX10_putAside 1 = .ok (.istore_n 1, 1) := by decide +kernel
theorem dX10_putAside_2 : decode cX10_putAside 2 = .ok (.iload_n 1, 1) := by decide +kernel
theorem dX10_putAside_3 : decode cX10_putAside 3 = .ok (.bipush 113, 2) := by decide +kernel
theorem dX10_putAside_5 : decode cX10_putAside 5 = .ok (.if_icmp .ge 21, 3) := by decide +kernel
theorem dX10_putAside_8 : decode cX10_putAside 8 = .ok (.aload_n 0, 1) := by decide +kernel
theorem dX10_putAside_9 : decode cX10_putAside 9 = .ok (.getfield 23, 3) := by decide +kernel
theorem dX10_putAside_12 : decode cX10_putAside 12 = .ok (.iload_n 1, 1) := by decide +kernel
theorem dX10_putAside_13 : decode cX10_putAside 13 = .ok (.aload_n 0, 1) := by decide +kernel
theorem dX10_putAside_14 : decode cX10_putAside 14 = .ok (.getfield 7, 3) := by decide +kernel
theorem dX10_putAside_17 : decode cX10_putAside 17 = .ok (.iload_n 1, 1) := by decide +kernel
theorem dX10_putAside_18 : decode cX10_putAside 18 = .ok (.iaload, 1) := by decide +kernel
theorem dX10_putAside_19 : decode cX10_putAside 19 = .ok (.iastore, 1) := by decide +kernel
theorem dX10_putAside_20 : decode cX10_putAside 20 = .ok (.iinc 1 1, 3) := by decide +kernel
theorem dX10_putAside_23 : decode cX10_putAside 23 = .ok (.goto (-21), 3) := by decide +kernel
theorem dX10_putAside_26 : decode cX10_putAside 26 = .ok (.return_, 1) := by decide +kernel
theorem dX10_bringBack_0 : decode cX10_bringBack 0 = .ok (.iconst 0, 1) := by decide +kernel
theorem dX10_bringBack_1 : decode cX10_bringBack 1 = .ok (.istore_n 1, 1) := by decide +kernel
theorem dX10_bringBack_2 : decode cX10_bringBack 2 = .ok (.iload_n 1, 1) := by decide +kernel
theorem dX10_bringBack_3 : decode cX10_bringBack 3 = .ok (.bipush 113, 2) := by decide +kernel
theorem dX10_bringBack_5 : decode cX10_bringBack 5 = .ok (.if_icmp .ge 21, 3) := by decide +kernel
theorem dX10_bringBack_8 : decode cX10_bringBack 8 = .ok (.aload_n 0, 1) := by decide +kernel
theorem dX10_bringBack_9 : decode cX10_bringBack 9 = .ok (.getfield 7, 3) := by decide +kernel
theorem dX10_bringBack_12 : decode cX10_bringBack 12 = .ok (.iload_n 1, 1) := by decide +kernel
theorem dX10_bringBack_13 : decode cX10_bringBack 13 = .ok (.aload_n 0, 1) := by decide +kernel
theorem dX10_bringBack_14 : decode cX10_bringBack 14 = .ok (.getfield 23, 3) := by decide +kernel
theorem dX10_bringBack_17 : decode cX10_bringBack 17 = .ok (.iload_n 1, 1) := by decide +kernel
theorem dX10_bringBack_18 : decode cX10_bringBack 18 = .ok (.iaload, 1) := by decide +kernel
theorem dX10_bringBack_19 : decode cX10_bringBack 19 = .ok (.iastore, 1) := by decide +kernel
theorem dX10_bringBack_20 : decode cX10_bringBack 20 = .ok (.iinc 1 1, 3) := by decide +kernel
theorem dX10_bringBack_23 : decode cX10_bringBack 23 = .ok (.goto (-21), 3) := by decide +kernel
theorem dX10_bringBack_26 : decode cX10_bringBack 26 = .ok (.return_, 1) := by decide +kernel
theorem dX10_tariff_0 : decode cX10_tariff 0 = .ok (.iload_n 1, 1) := by decide +kernel
theorem dX10_tariff_1 : decode cX10_tariff 1 = .ok (.invokestatic 48, 3) := by decide +kernel
theorem dX10_tariff_4 : decode cX10_tariff 4 = .ok (.ifCond .ne 5, 3) := by decide +kernel
theorem dX10_tariff_7 : decode cX10_tariff 7 = .ok (.iconst (-1), 1) := by decide +kernel
theorem dX10_tariff_8 : decode cX10_tariff 8 = .ok (.ireturn, 1) := by decide +kernel
theorem dX10_tariff_9 : decode cX10_tariff 9 = .ok (.iload_n 2, 1) := by decide +kernel
theorem dX10_tariff_10 : decode cX10_tariff 10 = .ok (.iconst 0, 1) := by decide +kernel
theorem dX10_tariff_11 : decode cX10_tariff 11 = .ok (.sipush 999, 3) := by decide +kernel
theorem dX10_tariff_14 : decode cX10_tariff 14 = .ok (.invokestatic 33, 3) := by decide +kernel
theorem dX10_tariff_17 : decode cX10_tariff 17 = .ok (.ifCond .eq 37, 3) := by decide +kernel
theorem dX10_tariff_20 : decode cX10_tariff 20 = .ok (.iload_n 3, 1) := by decide +kernel
theorem dX10_tariff_21 : decode cX10_tariff 21 = .ok (.iconst 1, 1) := by decide +kernel
theorem dX10_tariff_22 : decode cX10_tariff 22 = .ok (.bipush 99, 2) := by decide +kernel
theorem dX10_tariff_24 : decode cX10_tariff 24 = .ok (.invokestatic 33, 3) := by decide +kernel
theorem dX10_tariff_27 : decode cX10_tariff 27 = .ok (.ifCond .eq 27, 3) := by decide +kernel
theorem dX10_tariff_30 : decode cX10_tariff 30 = .ok (.iload 4, 2) := by decide +kernel
theorem dX10_tariff_32 : decode cX10_tariff 32 = .ok (.iconst 1, 1) := by decide +kernel
theorem dX10_tariff_33 : decode cX10_tariff 33 = .ok (.sipush 999, 3) := by decide +kernel
theorem dX10_tariff_36 : decode cX10_tariff 36 = .ok (.invokestatic 33, 3) := by decide +kernel
theorem dX10_tariff_39 : decode cX10_tariff 39 = .ok (.ifCond .eq 15, 3) := by decide +kernel
theorem dX10_tariff_42 : decode cX10_tariff 42 = .ok (.iload 5, 2) := by decide +kernel
theorem dX10_tariff_44 : decode cX10_tariff 44 = .ok (.iconst 1, 1) := by decide +kernel
theorem dX10_tariff_45 : decode cX10_tariff 45 = .ok (.sipush 999, 3) := by decide +kernel
theorem dX10_tariff_48 : decode cX10_tariff 48 = .ok (.invokestatic 33, 3) := by decide +kernel
theorem dX10_tariff_51 : decode cX10_tariff 51 = .ok (.ifCond .ne 6, 3) := by decide +kernel
theorem dX10_tariff_54 : decode cX10_tariff 54 = .ok (.bipush (-2), 2) := by decide +kernel
theorem dX10_tariff_56 : decode cX10_tariff 56 = .ok (.ireturn, 1) := by decide +kernel
theorem dX10_tariff_57 : decode cX10_tariff 57 = .ok (.aload_n 0, 1) := by decide +kernel
theorem dX10_tariff_58 : decode cX10_tariff 58 = .ok (.invokevirtual 45, 3) := by decide +kernel
theorem dX10_tariff_61 : decode cX10_tariff 61 = .ok (.aload_n 0, 1) := by decide +kernel
theorem dX10_tariff_62 : decode cX10_tariff 62 = .ok (.iload_n 1, 1) := by decide +kernel
theorem dX10_tariff_63 : decode cX10_tariff 63 = .ok (.iconst 1, 1) := by decide +kernel
theorem dX10_tariff_64 : decode cX10_tariff 64 = .ok (.invokevirtual 37, 3) := by decide +kernel
theorem dX10_tariff_67 : decode cX10_tariff 67 = .ok (.istore 6, 2) := by decide +kernel
theorem dX10_tariff_69 : decode cX10_tariff 69 = .ok (.aload_n 0, 1) := by decide +kernel
theorem dX10_tariff_70 : decode cX10_tariff 70 = .ok (.getfield 7, 3) := by decide +kernel
theorem dX10_tariff_73 : decode cX10_tariff 73 = .ok (.iconst 0, 1) := by decide +kernel
theorem dX10_tariff_74 : decode cX10_tariff 74 = .ok (.iconst 4, 1) := by decide +kernel
theorem dX10_tariff_75 : decode cX10_tariff 75 = .ok (.iload_n 1, 1) := by decide +kernel
theorem dX10_tariff_76 : decode cX10_tariff 76 = .ok (.imul, 1) := by decide +kernel
theorem dX10_tariff_77 : decode cX10_tariff 77 = .ok (.iadd, 1) := by decide +kernel
theorem dX10_tariff_78 : decode cX10_tariff 78 = .ok (.iload_n 2, 1) := by decide +kernel
theorem dX10_tariff_79 : decode cX10_tariff 79 = .ok (.iastore, 1) := by decide +kernel
theorem dX10_tariff_80 : decode cX10_tariff 80 = .ok (.aload_n 0, 1) := by decide +kernel
theorem dX10_tariff_81 : decode cX10_tariff 81 = .ok (.getfield 7, 3) := by decide +kernel
theorem dX10_tariff_84 : decode cX10_tariff 84 = .ok (.iconst 0, 1) := by decide +kernel
theorem dX10_tariff_85 : decode cX10_tariff 85 = .ok (.iconst 4, 1) := by decide +kernel
theorem dX10_tariff_86 : decode cX10_tariff 86 = .ok (.iload_n 1, 1) := by decide +kernel
theorem dX10_tariff_87 : decode cX10_tariff 87 = .ok (.imul, 1) := by decide +kernel
theorem dX10_tariff_88 : decode cX10_tariff 88 = .ok (.iadd, 1) := by decide +kernel
theorem dX10_tariff_89 : decode cX10_tariff 89 = .ok (.iconst 1, 1) := by decide +kernel
theorem dX10_tariff_90 : decode cX10_tariff 90 = .ok (.iadd, 1) := by decide +kernel
theorem dX10_tariff_91 : decode cX10_tariff 91 = .ok (.iload_n 3, 1) := by decide +kernel
theorem dX10_tariff_92 : decode cX10_tariff 92 = .ok (.iastore, 1) := by decide +kernel
theorem dX10_tariff_93 : decode cX10_tariff 93 = .ok (.aload_n 0, 1) := by decide +kernel
theorem dX10_tariff_94 : decode cX10_tariff 94 = .ok (.getfield 7, 3) := by decide +kernel
theorem dX10_tariff_97 : decode cX10_tariff 97 = .ok (.iconst 0, 1) := by decide +kernel
theorem dX10_tariff_98 : decode cX10_tariff 98 = .ok (.iconst 4, 1) := by decide +kernel
theorem dX10_tariff_99 : decode cX10_tariff 99 = .ok (.iload_n 1, 1) := by decide +kernel
theorem dX10_tariff_100 : decode cX10_tariff 100 = .ok (.imul, 1) := by decide +kernel
theorem dX10_tariff_101 : decode cX10_tariff 101 = .ok (.iadd, 1) := by decide +kernel
theorem dX10_tariff_102 : decode cX10_tariff 102 = .ok (.iconst 2, 1) := by decide +kernel
theorem dX10_tariff_103 : decode cX10_tariff 103 = .ok (.iadd, 1) := by decide +kernel
theorem dX10_tariff_104 : decode cX10_tariff 104 = .ok (.iload 4, 2) := by decide +kernel
theorem dX10_tariff_106 : decode cX10_tariff 106 = .ok (.iastore, 1) := by decide +kernel
theorem dX10_tariff_107 : decode cX10_tariff 107 = .ok (.aload_n 0, 1) := by decide +kernel
theorem dX10_tariff_108 : decode cX10_tariff 108 = .ok (.getfield 7, 3) := by decide +kernel
theorem dX10_tariff_111 : decode cX10_tariff 111 = .ok (.iconst 0, 1) := by decide +kernel
theorem dX10_tariff_112 : decode cX10_tariff 112 = .ok (.iconst 4, 1) := by decide +kernel
theorem dX10_tariff_113 : decode cX10_tariff 113 = .ok (.iload_n 1, 1) := by decide +kernel
theorem dX10_tariff_114 : decode cX10_tariff 114 = .ok (.imul, 1) := by decide +kernel
theorem dX10_tariff_115 : decode cX10_tariff 115 = .ok (.iadd, 1) := by decide +kernel
theorem dX10_tariff_116 : decode cX10_tariff 116 = .ok (.iconst 3, 1) := by decide +kernel
theorem dX10_tariff_117 : decode cX10_tariff 117 = .ok (.iadd, 1) := by decide +kernel
theorem dX10_tariff_118 : decode cX10_tariff 118 = .ok (.iload 5, 2) := by decide +kernel
theorem dX10_tariff_120 : decode cX10_tariff 120 = .ok (.iastore, 1) := by decide +kernel
theorem dX10_tariff_121 : decode cX10_tariff 121 = .ok (.iload 6, 2) := by decide +kernel
theorem dX10_tariff_123 : decode cX10_tariff 123 = .ok (.ireturn, 1) := by decide +kernel
theorem dX10_hour_0 : decode cX10_hour 0 = .ok (.iload_n 1, 1) := by decide +kernel
theorem dX10_hour_1 : decode cX10_hour 1 = .ok (.iconst 0, 1) := by decide +kernel
theorem dX10_hour_2 : decode cX10_hour 2 = .ok (.bipush 23, 2) := by decide +kernel
theorem dX10_hour_4 : decode cX10_hour 4 = .ok (.invokestatic 33, 3) := by decide +kernel
theorem dX10_hour_7 : decode cX10_hour 7 = .ok (.ifCond .eq 10, 3) := by decide +kernel
theorem dX10_hour_10 : decode cX10_hour 10 = .ok (.iload_n 2, 1) := by decide +kernel
theorem dX10_hour_11 : decode cX10_hour 11 = .ok (.invokestatic 48, 3) := by decide +kernel
theorem dX10_hour_14 : decode cX10_hour 14 = .ok (.ifCond .ne 5, 3) := by decide +kernel
theorem dX10_hour_17 : decode cX10_hour 17 = .ok (.iconst (-1), 1) := by decide +kernel
theorem dX10_hour_18 : decode cX10_hour 18 = .ok (.ireturn, 1) := by decide +kernel
theorem dX10_hour_19 : decode cX10_hour 19 = .ok (.aload_n 0, 1) := by decide +kernel
theorem dX10_hour_20 : decode cX10_hour 20 = .ok (.invokevirtual 45, 3) := by decide +kernel
theorem dX10_hour_23 : decode cX10_hour 23 = .ok (.aload_n 0, 1) := by decide +kernel
theorem dX10_hour_24 : decode cX10_hour 24 = .ok (.getfield 7, 3) := by decide +kernel
theorem dX10_hour_27 : decode cX10_hour 27 = .ok (.bipush 12, 2) := by decide +kernel
theorem dX10_hour_29 : decode cX10_hour 29 = .ok (.iload_n 1, 1) := by decide +kernel
theorem dX10_hour_30 : decode cX10_hour 30 = .ok (.iadd, 1) := by decide +kernel
theorem dX10_hour_31 : decode cX10_hour 31 = .ok (.iaload, 1) := by decide +kernel
theorem dX10_hour_32 : decode cX10_hour 32 = .ok (.istore_n 3, 1) := by decide +kernel
theorem dX10_hour_33 : decode cX10_hour 33 = .ok (.aload_n 0, 1) := by decide +kernel
theorem dX10_hour_34 : decode cX10_hour 34 = .ok (.getfield 7, 3) := by decide +kernel
theorem dX10_hour_37 : decode cX10_hour 37 = .ok (.bipush 12, 2) := by decide +kernel
theorem dX10_hour_39 : decode cX10_hour 39 = .ok (.iload_n 1, 1) := by decide +kernel
theorem dX10_hour_40 : decode cX10_hour 40 = .ok (.iadd, 1) := by decide +kernel
theorem dX10_hour_41 : decode cX10_hour 41 = .ok (.iload_n 2, 1) := by decide +kernel
theorem dX10_hour_42 : decode cX10_hour 42 = .ok (.iastore, 1) := by decide +kernel
theorem dX10_hour_43 : decode cX10_hour 43 = .ok (.iload_n 3, 1) := by decide +kernel
theorem dX10_hour_44 : decode cX10_hour 44 = .ok (.ireturn, 1) := by decide +kernel
theorem dX10_priceOfExtra_0 : decode cX10_priceOfExtra 0 = .ok (.iload_n 1, 1) := by decide +kernel
theorem dX10_priceOfExtra_1 : decode cX10_priceOfExtra 1 = .ok (.iconst 0, 1) := by decide +kernel
theorem dX10_priceOfExtra_2 : decode cX10_priceOfExtra 2 = .ok (.bipush 99, 2) := by decide +kernel
theorem dX10_priceOfExtra_4 : decode cX10_priceOfExtra 4 = .ok (.invokestatic 33, 3) := by decide +kernel
theorem dX10_priceOfExtra_7 : decode cX10_priceOfExtra 7 = .ok (.ifCond .ne 6, 3) := by decide +kernel
theorem dX10_priceOfExtra_10 : decode cX10_priceOfExtra 10 = .ok (.bipush (-2), 2) := by decide +kernel
theorem dX10_priceOfExtra_12 : decode cX10_priceOfExtra 12 = .ok (.ireturn, 1) := by decide +kernel
theorem dX10_priceOfExtra_13 : decode cX10_priceOfExtra 13 = .ok (.aload_n 0, 1) := by decide +kernel
theorem dX10_priceOfExtra_14 : decode cX10_priceOfExtra 14 = .ok (.invokevirtual 45, 3) := by decide +kernel
theorem dX10_priceOfExtra_17 : decode cX10_priceOfExtra 17 = .ok (.aload_n 0, 1) := by decide +kernel
theorem dX10_priceOfExtra_18 : decode cX10_priceOfExtra 18 = .ok (.getfield 7, 3) := by decide +kernel
theorem dX10_priceOfExtra_21 : decode cX10_priceOfExtra 21 = .ok (.bipush 36, 2) := by decide +kernel
theorem dX10_priceOfExtra_23 : decode cX10_priceOfExtra 23 = .ok (.iaload, 1) := by decide +kernel
theorem dX10_priceOfExtra_24 : decode cX10_priceOfExtra 24 = .ok (.istore_n 2, 1) := by decide +kernel
theorem dX10_priceOfExtra_25 : decode cX10_priceOfExtra 25 = .ok (.aload_n 0, 1) := by decide +kernel
theorem dX10_priceOfExtra_26 : decode cX10_priceOfExtra 26 = .ok (.getfield 7, 3) := by decide +kernel
theorem dX10_priceOfExtra_29 : decode cX10_priceOfExtra 29 = .ok (.bipush 36, 2) := by decide +kernel
theorem dX10_priceOfExtra_31 : decode cX10_priceOfExtra 31 = .ok (.iload_n 1, 1) := by decide +kernel
theorem dX10_priceOfExtra_32 : decode cX10_priceOfExtra 32 = .ok (.iastore, 1) := by decide +kernel
theorem dX10_priceOfExtra_33 : decode cX10_priceOfExtra 33 = .ok (.iload_n 2, 1) := by decide +kernel
theorem dX10_priceOfExtra_34 : decode cX10_priceOfExtra 34 = .ok (.ireturn, 1) := by decide +kernel
theorem dX10_hireIt_0 : decode cX10_hireIt 0 = .ok (.bipush 39, 2) := by decide +kernel
theorem dX10_hireIt_2 : decode cX10_hireIt 2 = .ok (.istore_n 1, 1) := by decide +kernel
theorem dX10_hireIt_3 : decode cX10_hireIt 3 = .ok (.iload_n 1, 1) := by decide +kernel
theorem dX10_hireIt_4 : decode cX10_hireIt 4 = .ok (.bipush 47, 2) := by decide +kernel
theorem dX10_hireIt_6 : decode cX10_hireIt 6 = .ok (.if_icmp .gt 16, 3) := by decide +kernel
theorem dX10_hireIt_9 : decode cX10_hireIt 9 = .ok (.aload_n 0, 1) := by decide +kernel
theorem dX10_hireIt_10 : decode cX10_hireIt 10 = .ok (.getfield 7, 3) := by decide +kernel
theorem dX10_hireIt_13 : decode cX10_hireIt 13 = .ok (.iload_n 1, 1) := by decide +kernel
theorem dX10_hireIt_14 : decode cX10_hireIt 14 = .ok (.iconst 0, 1) := by decide +kernel
theorem dX10_hireIt_15 : decode cX10_hireIt 15 = .ok (.iastore, 1) := by decide +kernel
theorem dX10_hireIt_16 : decode cX10_hireIt 16 = .ok (.iinc 1 1, 3) := by decide +kernel
theorem dX10_hireIt_19 : decode cX10_hireIt 19 = .ok (.goto (-16), 3) := by decide +kernel
theorem dX10_hireIt_22 : decode cX10_hireIt 22 = .ok (.aload_n 0, 1) := by decide +kernel
theorem dX10_hireIt_23 : decode cX10_hireIt 23 = .ok (.aload_n 0, 1) := by decide +kernel
theorem dX10_hireIt_24 : decode cX10_hireIt 24 = .ok (.getfield 7, 3) := by decide +kernel
theorem dX10_hireIt_27 : decode cX10_hireIt 27 = .ok (.bipush 37, 2) := by decide +kernel
theorem dX10_hireIt_29 : decode cX10_hireIt 29 = .ok (.iaload, 1) := by decide +kernel
theorem dX10_hireIt_30 : decode cX10_hireIt 30 = .ok (.invokevirtual 52, 3) := by decide +kernel
theorem dX10_hireIt_33 : decode cX10_hireIt 33 = .ok (.istore_n 1, 1) := by decide +kernel
theorem dX10_hireIt_34 : decode cX10_hireIt 34 = .ok (.aload_n 0, 1) := by decide +kernel
theorem dX10_hireIt_35 : decode cX10_hireIt 35 = .ok (.getfield 7, 3) := by decide +kernel
theorem dX10_hireIt_38 : decode cX10_hireIt 38 = .ok (.bipush 38, 2) := by decide +kernel
theorem dX10_hireIt_40 : decode cX10_hireIt 40 = .ok (.iconst 1, 1) := by decide +kernel
theorem dX10_hireIt_41 : decode cX10_hireIt 41 = .ok (.iastore, 1) := by decide +kernel
theorem dX10_hireIt_42 : decode cX10_hireIt 42 = .ok (.aload_n 0, 1) := by decide +kernel
theorem dX10_hireIt_43 : decode cX10_hireIt 43 = .ok (.getfield 7, 3) := by decide +kernel
theorem dX10_hireIt_46 : decode cX10_hireIt 46 = .ok (.bipush 39, 2) := by decide +kernel
theorem dX10_hireIt_48 : decode cX10_hireIt 48 = .ok (.aload_n 0, 1) := by decide +kernel
theorem dX10_hireIt_49 : decode cX10_hireIt 49 = .ok (.iload_n 1, 1) := by decide +kernel
theorem dX10_hireIt_50 : decode cX10_hireIt 50 = .ok (.iconst 0, 1) := by decide +kernel
theorem dX10_hireIt_51 : decode cX10_hireIt 51 = .ok (.invokevirtual 37, 3) := by decide +kernel
theorem dX10_hireIt_54 : decode cX10_hireIt 54 = .ok (.iastore, 1) := by decide +kernel
theorem dX10_hireIt_55 : decode cX10_hireIt 55 = .ok (.aload_n 0, 1) := by decide +kernel
theorem dX10_hireIt_56 : decode cX10_hireIt 56 = .ok (.getfield 7, 3) := by decide +kernel
theorem dX10_hireIt_59 : decode cX10_hireIt 59 = .ok (.bipush 48, 2) := by decide +kernel
theorem dX10_hireIt_61 : decode cX10_hireIt 61 = .ok (.aload_n 0, 1) := by decide +kernel
theorem dX10_hireIt_62 : decode cX10_hireIt 62 = .ok (.iload_n 1, 1) := by decide +kernel
theorem dX10_hireIt_63 : decode cX10_hireIt 63 = .ok (.invokevirtual 56, 3) := by decide +kernel
theorem dX10_hireIt_66 : decode cX10_hireIt 66 = .ok (.iastore, 1) := by decide +kernel
theorem dX10_hireIt_67 : decode cX10_hireIt 67 = .ok (.aload_n 0, 1) := by decide +kernel
theorem dX10_hireIt_68 : decode cX10_hireIt 68 = .ok (.getfield 7, 3) := by decide +kernel
theorem dX10_hireIt_71 : decode cX10_hireIt 71 = .ok (.bipush 49, 2) := by decide +kernel
theorem dX10_hireIt_73 : decode cX10_hireIt 73 = .ok (.aload_n 0, 1) := by decide +kernel
theorem dX10_hireIt_74 : decode cX10_hireIt 74 = .ok (.getfield 7, 3) := by decide +kernel
theorem dX10_hireIt_77 : decode cX10_hireIt 77 = .ok (.bipush 37, 2) := by decide +kernel
theorem dX10_hireIt_79 : decode cX10_hireIt 79 = .ok (.iaload, 1) := by decide +kernel
theorem dX10_hireIt_80 : decode cX10_hireIt 80 = .ok (.iastore, 1) := by decide +kernel
theorem dX10_hireIt_81 : decode cX10_hireIt 81 = .ok (.iload_n 1, 1) := by decide +kernel
theorem dX10_hireIt_82 : decode cX10_hireIt 82 = .ok (.ireturn, 1) := by decide +kernel
theorem dX10_hire_0 : decode cX10_hire 0 = .ok (.aload_n 0, 1) := by decide +kernel
theorem dX10_hire_1 : decode cX10_hire 1 = .ok (.getfield 7, 3) := by decide +kernel
theorem dX10_hire_4 : decode cX10_hire 4 = .ok (.bipush 38, 2) := by decide +kernel
theorem dX10_hire_6 : decode cX10_hire 6 = .ok (.iaload, 1) := by decide +kernel
theorem dX10_hire_7 : decode cX10_hire 7 = .ok (.ifCond .eq 6, 3) := by decide +kernel
theorem dX10_hire_10 : decode cX10_hire 10 = .ok (.bipush (-5), 2) := by decide +kernel
theorem dX10_hire_12 : decode cX10_hire 12 = .ok (.ireturn, 1) := by decide +kernel
theorem dX10_hire_13 : decode cX10_hire 13 = .ok (.aload_n 0, 1) := by decide +kernel
theorem dX10_hire_14 : decode cX10_hire 14 = .ok (.invokevirtual 45, 3) := by decide +kernel
theorem dX10_hire_17 : decode cX10_hire 17 = .ok (.aload_n 0, 1) := by decide +kernel
theorem dX10_hire_18 : decode cX10_hire 18 = .ok (.invokevirtual 59, 3) := by decide +kernel
theorem dX10_hire_21 : decode cX10_hire 21 = .ok (.ireturn, 1) := by decide +kernel
theorem dX10_carry_0 : decode cX10_carry 0 = .ok (.iload_n 1, 1) := by decide +kernel
theorem dX10_carry_1 : decode cX10_carry 1 = .ok (.aload_n 0, 1) := by decide +kernel
theorem dX10_carry_2 : decode cX10_carry 2 = .ok (.getfield 7, 3) := by decide +kernel
theorem dX10_carry_5 : decode cX10_carry 5 = .ok (.bipush 48, 2) := by decide +kernel
theorem dX10_carry_7 : decode cX10_carry 7 = .ok (.iaload, 1) := by decide +kernel
theorem dX10_carry_8 : decode cX10_carry 8 = .ok (.if_icmp .eq 39, 3) := by decide +kernel
theorem dX10_carry_11 : decode cX10_carry 11 = .ok (.aload_n 0, 1) := by decide +kernel
theorem dX10_carry_12 : decode cX10_carry 12 = .ok (.getfield 7, 3) := by decide +kernel
theorem dX10_carry_15 : decode cX10_carry 15 = .ok (.bipush 47, 2) := by decide +kernel
theorem dX10_carry_17 : decode cX10_carry 17 = .ok (.aload_n 0, 1) := by decide +kernel
theorem dX10_carry_18 : decode cX10_carry 18 = .ok (.getfield 7, 3) := by decide +kernel
theorem dX10_carry_21 : decode cX10_carry 21 = .ok (.bipush 47, 2) := by decide +kernel
theorem dX10_carry_23 : decode cX10_carry 23 = .ok (.iaload, 1) := by decide +kernel
theorem dX10_carry_24 : decode cX10_carry 24 = .ok (.i2l, 1) := by decide +kernel
theorem dX10_carry_25 : decode cX10_carry 25 = .ok (.iload_n 1, 1) := by decide +kernel
theorem dX10_carry_26 : decode cX10_carry 26 = .ok (.i2l, 1) := by decide +kernel
theorem dX10_carry_27 : decode cX10_carry 27 = .ok (.lmul, 1) := by decide +kernel
theorem dX10_carry_28 : decode cX10_carry 28 = .ok (.aload_n 0, 1) := by decide +kernel
theorem dX10_carry_29 : decode cX10_carry 29 = .ok (.getfield 7, 3) := by decide +kernel
theorem dX10_carry_32 : decode cX10_carry 32 = .ok (.bipush 48, 2) := by decide +kernel
theorem dX10_carry_34 : decode cX10_carry 34 = .ok (.iaload, 1) := by decide +kernel
theorem dX10_carry_35 : decode cX10_carry 35 = .ok (.i2l, 1) := by decide +kernel
theorem dX10_carry_36 : decode cX10_carry 36 = .ok (.ldiv, 1) := by decide +kernel
theorem dX10_carry_37 : decode cX10_carry 37 = .ok (.l2i, 1) := by decide +kernel
theorem dX10_carry_38 : decode cX10_carry 38 = .ok (.iastore, 1) := by decide +kernel
theorem dX10_carry_39 : decode cX10_carry 39 = .ok (.aload_n 0, 1) := by decide +kernel
theorem dX10_carry_40 : decode cX10_carry 40 = .ok (.getfield 7, 3) := by decide +kernel
theorem dX10_carry_43 : decode cX10_carry 43 = .ok (.bipush 48, 2) := by decide +kernel
theorem dX10_carry_45 : decode cX10_carry 45 = .ok (.iload_n 1, 1) := by decide +kernel
theorem dX10_carry_46 : decode cX10_carry 46 = .ok (.iastore, 1) := by decide +kernel
theorem dX10_carry_47 : decode cX10_carry 47 = .ok (.return_, 1) := by decide +kernel
theorem dX10_driveSecond_0 : decode cX10_driveSecond 0 = .ok (.aload_n 0, 1) := by decide +kernel
theorem dX10_driveSecond_1 : decode cX10_driveSecond 1 = .ok (.aload_n 0, 1) := by decide +kernel
theorem dX10_driveSecond_2 : decode cX10_driveSecond 2 = .ok (.getfield 7, 3) := by decide +kernel
theorem dX10_driveSecond_5 : decode cX10_driveSecond 5 = .ok (.bipush 37, 2) := by decide +kernel
theorem dX10_driveSecond_7 : decode cX10_driveSecond 7 = .ok (.iaload, 1) := by decide +kernel
theorem dX10_driveSecond_8 : decode cX10_driveSecond 8 = .ok (.invokevirtual 52, 3) := by decide +kernel
theorem dX10_driveSecond_11 : decode cX10_driveSecond 11 = .ok (.istore_n 2, 1) := by decide +kernel
theorem dX10_driveSecond_12 : decode cX10_driveSecond 12 = .ok (.aload_n 0, 1) := by decide +kernel
theorem dX10_driveSecond_13 : decode cX10_driveSecond 13 = .ok (.aload_n 0, 1) := by decide +kernel
theorem dX10_driveSecond_14 : decode cX10_driveSecond 14 = .ok (.iload_n 2, 1) := by decide +kernel
theorem dX10_driveSecond_15 : decode cX10_driveSecond 15 = .ok (.invokevirtual 56, 3) := by decide +kernel
theorem dX10_driveSecond_18 : decode cX10_driveSecond 18 = .ok (.invokevirtual 63, 3) := by decide +kernel
theorem dX10_driveSecond_21 : decode cX10_driveSecond 21 = .ok (.iload_n 1, 1) := by decide +kernel
theorem dX10_driveSecond_22 : decode cX10_driveSecond 22 = .ok (.aload_n 0, 1) := by decide +kernel
theorem dX10_driveSecond_23 : decode cX10_driveSecond 23 = .ok (.iload_n 2, 1) := by decide +kernel
theorem dX10_driveSecond_24 : decode cX10_driveSecond 24 = .ok (.iconst 3, 1) := by decide +kernel
theorem dX10_driveSecond_25 : decode cX10_driveSecond 25 = .ok (.invokevirtual 37, 3) := by decide +kernel
theorem dX10_driveSecond_28 : decode cX10_driveSecond 28 = .ok (.imul, 1) := by decide +kernel
theorem dX10_driveSecond_29 : decode cX10_driveSecond 29 = .ok (.istore_n 3, 1) := by decide +kernel
theorem dX10_driveSecond_30 : decode cX10_driveSecond 30 = .ok (.iload_n 3, 1) := by decide +kernel
theorem dX10_driveSecond_31 : decode cX10_driveSecond 31 = .ok (.aload_n 0, 1) := by decide +kernel
theorem dX10_driveSecond_32 : decode cX10_driveSecond 32 = .ok (.iload_n 2, 1) := by decide +kernel
theorem dX10_driveSecond_33 : decode cX10_driveSecond 33 = .ok (.iconst 2, 1) := by decide +kernel
theorem dX10_driveSecond_34 : decode cX10_driveSecond 34 = .ok (.invokevirtual 37, 3) := by decide +kernel
theorem dX10_driveSecond_37 : decode cX10_driveSecond 37 = .ok (.if_icmp .lt 7, 3) := by decide +kernel
theorem dX10_driveSecond_40 : decode cX10_driveSecond 40 = .ok (.iconst 1, 1) := by decide +kernel
theorem dX10_driveSecond_41 : decode cX10_driveSecond 41 = .ok (.goto 4, 3) := by decide +kernel
theorem dX10_driveSecond_44 : decode cX10_driveSecond 44 = .ok (.iconst 0, 1) := by decide +kernel
theorem dX10_driveSecond_45 : decode cX10_driveSecond 45 = .ok (.istore 4, 2) := by decide +kernel
theorem dX10_driveSecond_47 : decode cX10_driveSecond 47 = .ok (.aload_n 0, 1) := by decide +kernel
theorem dX10_driveSecond_48 : decode cX10_driveSecond 48 = .ok (.getfield 7, 3) := by decide +kernel
theorem dX10_driveSecond_51 : decode cX10_driveSecond 51 = .ok (.bipush 47, 2) := by decide +kernel
theorem dX10_driveSecond_53 : decode cX10_driveSecond 53 = .ok (.dup2, 1) := by decide +kernel
theorem dX10_driveSecond_54 : decode cX10_driveSecond 54 = .ok (.iaload, 1) := by decide +kernel
theorem dX10_driveSecond_55 : decode cX10_driveSecond 55 = .ok (.iload 4, 2) := by decide +kernel
theorem dX10_driveSecond_57 : decode cX10_driveSecond 57 = .ok (.ifCond .eq 7, 3) := by decide +kernel
theorem dX10_driveSecond_60 : decode cX10_driveSecond 60 = .ok (.iload_n 3, 1) := by decide +kernel
theorem dX10_driveSecond_61 : decode cX10_driveSecond 61 = .ok (.goto 9, 3) := by decide +kernel
theorem dX10_driveSecond_64 : decode cX10_driveSecond 64 = .ok (.aload_n 0, 1) := by decide +kernel
theorem dX10_driveSecond_65 : decode cX10_driveSecond 65 = .ok (.iload_n 2, 1) := by decide +kernel
theorem dX10_driveSecond_66 : decode cX10_driveSecond 66 = .ok (.iconst 2, 1) := by decide +kernel
theorem dX10_driveSecond_67 : decode cX10_driveSecond 67 = .ok (.invokevirtual 37, 3) := by decide +kernel
theorem dX10_driveSecond_70 : decode cX10_driveSecond 70 = .ok (.iadd, 1) := by decide +kernel
theorem dX10_driveSecond_71 : decode cX10_driveSecond 71 = .ok (.iastore, 1) := by decide +kernel
theorem dX10_driveSecond_72 : decode cX10_driveSecond 72 = .ok (.aload_n 0, 1) := by decide +kernel
theorem dX10_driveSecond_73 : decode cX10_driveSecond 73 = .ok (.getfield 7, 3) := by decide +kernel
theorem dX10_driveSecond_76 : decode cX10_driveSecond 76 = .ok (.bipush 47, 2) := by decide +kernel
theorem dX10_driveSecond_78 : decode cX10_driveSecond 78 = .ok (.iaload, 1) := by decide +kernel
theorem dX10_driveSecond_79 : decode cX10_driveSecond 79 = .ok (.aload_n 0, 1) := by decide +kernel
theorem dX10_driveSecond_80 : decode cX10_driveSecond 80 = .ok (.getfield 7, 3) := by decide +kernel
theorem dX10_driveSecond_83 : decode cX10_driveSecond 83 = .ok (.bipush 48, 2) := by decide +kernel
theorem dX10_driveSecond_85 : decode cX10_driveSecond 85 = .ok (.iaload, 1) := by decide +kernel
theorem dX10_driveSecond_86 : decode cX10_driveSecond 86 = .ok (.idiv, 1) := by decide +kernel
theorem dX10_driveSecond_87 : decode cX10_driveSecond 87 = .ok (.istore 5, 2) := by decide +kernel
theorem dX10_driveSecond_89 : decode cX10_driveSecond 89 = .ok (.aload_n 0, 1) := by decide +kernel
theorem dX10_driveSecond_90 : decode cX10_driveSecond 90 = .ok (.getfield 7, 3) := by decide +kernel
theorem dX10_driveSecond_93 : decode cX10_driveSecond 93 = .ok (.bipush 47, 2) := by decide +kernel
theorem dX10_driveSecond_95 : decode cX10_driveSecond 95 = .ok (.dup2, 1) := by decide +kernel
theorem dX10_driveSecond_96 : decode cX10_driveSecond 96 = .ok (.iaload, 1) := by decide +kernel
theorem dX10_driveSecond_97 : decode cX10_driveSecond 97 = .ok (.iload 5, 2) := by decide +kernel
theorem dX10_driveSecond_99 : decode cX10_driveSecond 99 = .ok (.aload_n 0, 1) := by decide +kernel
theorem dX10_driveSecond_100 : decode cX10_driveSecond 100 = .ok (.getfield 7, 3) := by decide +kernel
theorem dX10_driveSecond_103 : decode cX10_driveSecond 103 = .ok (.bipush 48, 2) := by decide +kernel
theorem dX10_driveSecond_105 : decode cX10_driveSecond 105 = .ok (.iaload, 1) := by decide +kernel
theorem dX10_driveSecond_106 : decode cX10_driveSecond 106 = .ok (.imul, 1) := by decide +kernel
theorem dX10_driveSecond_107 : decode cX10_driveSecond 107 = .ok (.isub, 1) := by decide +kernel
theorem dX10_driveSecond_108 : decode cX10_driveSecond 108 = .ok (.iastore, 1) := by decide +kernel
theorem dX10_driveSecond_109 : decode cX10_driveSecond 109 = .ok (.aload_n 0, 1) := by decide +kernel
theorem dX10_driveSecond_110 : decode cX10_driveSecond 110 = .ok (.getfield 7, 3) := by decide +kernel
theorem dX10_driveSecond_113 : decode cX10_driveSecond 113 = .ok (.bipush 39, 2) := by decide +kernel
theorem dX10_driveSecond_115 : decode cX10_driveSecond 115 = .ok (.iaload, 1) := by decide +kernel
theorem dX10_driveSecond_116 : decode cX10_driveSecond 116 = .ok (.iload 5, 2) := by decide +kernel
theorem dX10_driveSecond_118 : decode cX10_driveSecond 118 = .ok (.aload_n 0, 1) := by decide +kernel
theorem dX10_driveSecond_119 : decode cX10_driveSecond 119 = .ok (.iload_n 2, 1) := by decide +kernel
theorem dX10_driveSecond_120 : decode cX10_driveSecond 120 = .ok (.iconst 1, 1) := by decide +kernel
theorem dX10_driveSecond_121 : decode cX10_driveSecond 121 = .ok (.invokevirtual 37, 3) := by decide +kernel
theorem dX10_driveSecond_124 : decode cX10_driveSecond 124 = .ok (.imul, 1) := by decide +kernel
theorem dX10_driveSecond_125 : decode cX10_driveSecond 125 = .ok (.iadd, 1) := by decide +kernel
theorem dX10_driveSecond_126 : decode cX10_driveSecond 126 = .ok (.istore 6, 2) := by decide +kernel
theorem dX10_driveSecond_128 : decode cX10_driveSecond 128 = .ok (.aload_n 0, 1) := by decide +kernel
theorem dX10_driveSecond_129 : decode cX10_driveSecond 129 = .ok (.getfield 7, 3) := by decide +kernel
theorem dX10_driveSecond_132 : decode cX10_driveSecond 132 = .ok (.bipush 39, 2) := by decide +kernel
theorem dX10_driveSecond_134 : decode cX10_driveSecond 134 = .ok (.iload 6, 2) := by decide +kernel
theorem dX10_driveSecond_136 : decode cX10_driveSecond 136 = .ok (.ldc 67, 2) := by decide +kernel
theorem dX10_driveSecond_138 : decode cX10_driveSecond 138 = .ok (.if_icmp .ge 8, 3) := by decide +kernel
theorem dX10_driveSecond_141 : decode cX10_driveSecond 141 = .ok (.iload 6, 2) := by decide +kernel
theorem dX10_driveSecond_143 : decode cX10_driveSecond 143 = .ok (.goto 5, 3) := by decide +kernel
theorem dX10_driveSecond_146 : decode cX10_driveSecond 146 = .ok (.ldc 67, 2) := by decide +kernel
theorem dX10_driveSecond_148 : decode cX10_driveSecond 148 = .ok (.iastore, 1) := by decide +kernel
theorem dX10_driveSecond_149 : decode cX10_driveSecond 149 = .ok (.aload_n 0, 1) := by decide +kernel
theorem dX10_driveSecond_150 : decode cX10_driveSecond 150 = .ok (.getfield 7, 3) := by decide +kernel
theorem dX10_driveSecond_153 : decode cX10_driveSecond 153 = .ok (.iload 4, 2) := by decide +kernel
theorem dX10_driveSecond_155 : decode cX10_driveSecond 155 = .ok (.ifCond .eq 8, 3) := by decide +kernel
theorem dX10_driveSecond_158 : decode cX10_driveSecond 158 = .ok (.bipush 44, 2) := by decide +kernel
theorem dX10_driveSecond_160 : decode cX10_driveSecond 160 = .ok (.goto 5, 3) := by decide +kernel
theorem dX10_driveSecond_163 : decode cX10_driveSecond 163 = .ok (.bipush 45, 2) := by decide +kernel
theorem dX10_driveSecond_165 : decode cX10_driveSecond 165 = .ok (.dup2, 1) := by decide +kernel
theorem dX10_driveSecond_166 : decode cX10_driveSecond 166 = .ok (.iaload, 1) := by decide +kernel
theorem dX10_driveSecond_167 : decode cX10_driveSecond 167 = .ok (.iload 5, 2) := by decide +kernel
theorem dX10_driveSecond_169 : decode cX10_driveSecond 169 = .ok (.iadd, 1) := by decide +kernel
theorem dX10_driveSecond_170 : decode cX10_driveSecond 170 = .ok (.iastore, 1) := by decide +kernel
theorem dX10_driveSecond_171 : decode cX10_driveSecond 171 = .ok (.aload_n 0, 1) := by decide +kernel
theorem dX10_driveSecond_172 : decode cX10_driveSecond 172 = .ok (.getfield 7, 3) := by decide +kernel
theorem dX10_driveSecond_175 : decode cX10_driveSecond 175 = .ok (.bipush 37, 2) := by decide +kernel
theorem dX10_driveSecond_177 : decode cX10_driveSecond 177 = .ok (.aload_n 0, 1) := by decide +kernel
theorem dX10_driveSecond_178 : decode cX10_driveSecond 178 = .ok (.getfield 7, 3) := by decide +kernel
theorem dX10_driveSecond_181 : decode cX10_driveSecond 181 = .ok (.bipush 37, 2) := by decide +kernel
theorem dX10_driveSecond_183 : decode cX10_driveSecond 183 = .ok (.iaload, 1) := by decide +kernel
theorem dX10_driveSecond_184 : decode cX10_driveSecond 184 = .ok (.iconst 1, 1) := by decide +kernel
theorem dX10_driveSecond_185 : decode cX10_driveSecond 185 = .ok (.iadd, 1) := by decide +kernel
theorem dX10_driveSecond_186 : decode cX10_driveSecond 186 = .ok (.ldc 68, 2) := by decide +kernel
theorem dX10_driveSecond_188 : decode cX10_driveSecond 188 = .ok (.irem, 1) := by decide +kernel
theorem dX10_driveSecond_189 : decode cX10_driveSecond 189 = .ok (.iastore, 1) := by decide +kernel
theorem dX10_driveSecond_190 : decode cX10_driveSecond 190 = .ok (.iload 5, 2) := by decide +kernel
theorem dX10_driveSecond_192 : decode cX10_driveSecond 192 = .ok (.ireturn, 1) := by decide +kernel
theorem dX10_driveIt_0 : decode cX10_driveIt 0 = .ok (.iconst 0, 1) := by decide +kernel
theorem dX10_driveIt_1 : decode cX10_driveIt 1 = .ok (.istore_n 3, 1) := by decide +kernel
theorem dX10_driveIt_2 : decode cX10_driveIt 2 = .ok (.iconst 0, 1) := by decide +kernel
theorem dX10_driveIt_3 : decode cX10_driveIt 3 = .ok (.istore 4, 2) := by decide +kernel
theorem dX10_driveIt_5 : decode cX10_driveIt 5 = .ok (.iconst 1, 1) := by decide +kernel
theorem dX10_driveIt_6 : decode cX10_driveIt 6 = .ok (.istore 5, 2) := by decide +kernel
theorem dX10_driveIt_8 : decode cX10_driveIt 8 = .ok (.iload 5, 2) := by decide +kernel
theorem dX10_driveIt_10 : decode cX10_driveIt 10 = .ok (.iload_n 2, 1) := by decide +kernel
theorem dX10_driveIt_11 : decode cX10_driveIt 11 = .ok (.if_icmp .gt 33, 3) := by decide +kernel
theorem dX10_driveIt_14 : decode cX10_driveIt 14 = .ok (.iload_n 1, 1) := by decide +kernel
theorem dX10_driveIt_15 : decode cX10_driveIt 15 = .ok (.iload 5, 2) := by decide +kernel
theorem dX10_driveIt_17 : decode cX10_driveIt 17 = .ok (.imul, 1) := by decide +kernel
theorem dX10_driveIt_18 : decode cX10_driveIt 18 = .ok (.iload_n 2, 1) := by decide +kernel
theorem dX10_driveIt_19 : decode cX10_driveIt 19 = .ok (.idiv, 1) := by decide +kernel
theorem dX10_driveIt_20 : decode cX10_driveIt 20 = .ok (.istore 6, 2) := by decide +kernel
theorem dX10_driveIt_22 : decode cX10_driveIt 22 = .ok (.iload_n 3, 1) := by decide +kernel
theorem dX10_driveIt_23 : decode cX10_driveIt 23 = .ok (.aload_n 0, 1) := by decide +kernel
theorem dX10_driveIt_24 : decode cX10_driveIt 24 = .ok (.iload 6, 2) := by decide +kernel
theorem dX10_driveIt_26 : decode cX10_driveIt 26 = .ok (.iload 4, 2) := by decide +kernel
theorem dX10_driveIt_28 : decode cX10_driveIt 28 = .ok (.isub, 1) := by decide +kernel
theorem dX10_driveIt_29 : decode cX10_driveIt 29 = .ok (.invokevirtual 69, 3) := by decide +kernel
theorem dX10_driveIt_32 : decode cX10_driveIt 32 = .ok (.iadd, 1) := by decide +kernel
theorem dX10_driveIt_33 : decode cX10_driveIt 33 = .ok (.istore_n 3, 1) := by decide +kernel
theorem dX10_driveIt_34 : decode cX10_driveIt 34 = .ok (.iload 6, 2) := by decide +kernel
theorem dX10_driveIt_36 : decode cX10_driveIt 36 = .ok (.istore 4, 2) := by decide +kernel
theorem dX10_driveIt_38 : decode cX10_driveIt 38 = .ok (.iinc 5 1, 3) := by decide +kernel
theorem dX10_driveIt_41 : decode cX10_driveIt 41 = .ok (.goto (-33), 3) := by decide +kernel
theorem dX10_driveIt_44 : decode cX10_driveIt 44 = .ok (.aload_n 0, 1) := by decide +kernel
theorem dX10_driveIt_45 : decode cX10_driveIt 45 = .ok (.getfield 7, 3) := by decide +kernel
theorem dX10_driveIt_48 : decode cX10_driveIt 48 = .ok (.bipush 41, 2) := by decide +kernel
theorem dX10_driveIt_50 : decode cX10_driveIt 50 = .ok (.dup2, 1) := by decide +kernel
theorem dX10_driveIt_51 : decode cX10_driveIt 51 = .ok (.iaload, 1) := by decide +kernel
theorem dX10_driveIt_52 : decode cX10_driveIt 52 = .ok (.iload_n 1, 1) := by decide +kernel
theorem dX10_driveIt_53 : decode cX10_driveIt 53 = .ok (.iadd, 1) := by decide +kernel
theorem dX10_driveIt_54 : decode cX10_driveIt 54 = .ok (.iastore, 1) := by decide +kernel
theorem dX10_driveIt_55 : decode cX10_driveIt 55 = .ok (.aload_n 0, 1) := by decide +kernel
theorem dX10_driveIt_56 : decode cX10_driveIt 56 = .ok (.getfield 7, 3) := by decide +kernel
theorem dX10_driveIt_59 : decode cX10_driveIt 59 = .ok (.bipush 42, 2) := by decide +kernel
theorem dX10_driveIt_61 : decode cX10_driveIt 61 = .ok (.dup2, 1) := by decide +kernel
theorem dX10_driveIt_62 : decode cX10_driveIt 62 = .ok (.iaload, 1) := by decide +kernel
theorem dX10_driveIt_63 : decode cX10_driveIt 63 = .ok (.iload_n 2, 1) := by decide +kernel
theorem dX10_driveIt_64 : decode cX10_driveIt 64 = .ok (.iadd, 1) := by decide +kernel
theorem dX10_driveIt_65 : decode cX10_driveIt 65 = .ok (.iastore, 1) := by decide +kernel
theorem dX10_driveIt_66 : decode cX10_driveIt 66 = .ok (.iload_n 3, 1) := by decide +kernel
theorem dX10_driveIt_67 : decode cX10_driveIt 67 = .ok (.ireturn, 1) := by decide +kernel
theorem dX10_isDrive_0 : decode cX10_isDrive 0 = .ok (.iload_n 0, 1) := by decide +kernel
theorem dX10_isDrive_1 : decode cX10_isDrive 1 = .ok (.iconst 0, 1) := by decide +kernel
theorem dX10_isDrive_2 : decode cX10_isDrive 2 = .ok (.sipush 9999, 3) := by decide +kernel
theorem dX10_isDrive_5 : decode cX10_isDrive 5 = .ok (.invokestatic 33, 3) := by decide +kernel
theorem dX10_isDrive_8 : decode cX10_isDrive 8 = .ok (.ifCond .eq 18, 3) := by decide +kernel
theorem dX10_isDrive_11 : decode cX10_isDrive 11 = .ok (.iload_n 1, 1) := by decide +kernel
theorem dX10_isDrive_12 : decode cX10_isDrive 12 = .ok (.iconst 1, 1) := by decide +kernel
theorem dX10_isDrive_13 : decode cX10_isDrive 13 = .ok (.sipush 9999, 3) := by decide +kernel
theorem dX10_isDrive_16 : decode cX10_isDrive 16 = .ok (.invokestatic 33, 3) := by decide +kernel
theorem dX10_isDrive_19 : decode cX10_isDrive 19 = .ok (.ifCond .eq 7, 3) := by decide +kernel
theorem dX10_isDrive_22 : decode cX10_isDrive 22 = .ok (.iconst 1, 1) := by decide +kernel
theorem dX10_isDrive_23 : decode cX10_isDrive 23 = .ok (.goto 4, 3) := by decide +kernel
theorem dX10_isDrive_26 : decode cX10_isDrive 26 = .ok (.iconst 0, 1) := by decide +kernel
theorem dX10_isDrive_27 : decode cX10_isDrive 27 = .ok (.ireturn, 1) := by decide +kernel
theorem dX10_whyNotDrive_0 : decode cX10_whyNotDrive 0 = .ok (.iload_n 1, 1) := by decide +kernel
theorem dX10_whyNotDrive_1 : decode cX10_whyNotDrive 1 = .ok (.iload_n 2, 1) := by decide +kernel
theorem dX10_whyNotDrive_2 : decode cX10_whyNotDrive 2 = .ok (.invokestatic 72, 3) := by decide +kernel
theorem dX10_whyNotDrive_5 : decode cX10_whyNotDrive 5 = .ok (.ifCond .ne 8, 3) := by decide +kernel
theorem dX10_whyNotDrive_8 : decode cX10_whyNotDrive 8 = .ok (.bipush (-2), 2) := by decide +kernel
theorem dX10_whyNotDrive_10 : decode cX10_whyNotDrive 10 = .ok (.goto 20, 3) := by decide +kernel
theorem dX10_whyNotDrive_13 : decode cX10_whyNotDrive 13 = .ok (.aload_n 0, 1) := by decide +kernel
theorem dX10_whyNotDrive_14 : decode cX10_whyNotDrive 14 = .ok (.getfield 7, 3) := by decide +kernel
theorem dX10_whyNotDrive_17 : decode cX10_whyNotDrive 17 = .ok (.bipush 38, 2) := by decide +kernel
theorem dX10_whyNotDrive_19 : decode cX10_whyNotDrive 19 = .ok (.iaload, 1) := by decide +kernel
theorem dX10_whyNotDrive_20 : decode cX10_whyNotDrive 20 = .ok (.iconst 1, 1) := by decide +kernel
theorem dX10_whyNotDrive_21 : decode cX10_whyNotDrive 21 = .ok (.if_icmp .eq 8, 3) := by decide +kernel
theorem dX10_whyNotDrive_24 : decode cX10_whyNotDrive 24 = .ok (.bipush (-5), 2) := by decide +kernel
theorem dX10_whyNotDrive_26 : decode cX10_whyNotDrive 26 = .ok (.goto 4, 3) := by decide +kernel
theorem dX10_whyNotDrive_29 : decode cX10_whyNotDrive 29 = .ok (.iconst 0, 1) := by decide +kernel
theorem dX10_whyNotDrive_30 : decode cX10_whyNotDrive 30 = .ok (.ireturn, 1) := by decide +kernel
theorem dX10_drive_0 : decode cX10_drive 0 = .ok (.aload_n 0, 1) := by decide +kernel
theorem dX10_drive_1 : decode cX10_drive 1 = .ok (.iload_n 1, 1) := by decide +kernel
theorem dX10_drive_2 : decode cX10_drive 2 = .ok (.iload_n 2, 1) := by decide +kernel
theorem dX10_drive_3 : decode cX10_drive 3 = .ok (.invokevirtual 76, 3) := by decide +kernel
theorem dX10_drive_6 : decode cX10_drive 6 = .ok (.istore_n 3, 1) := by decide +kernel
theorem dX10_drive_7 : decode cX10_drive 7 = .ok (.iload_n 3, 1) := by decide +kernel
theorem dX10_drive_8 : decode cX10_drive 8 = .ok (.ifCond .ge 5, 3) := by decide +kernel
theorem dX10_drive_11 : decode cX10_drive 11 = .ok (.iload_n 3, 1) := by decide +kernel
theorem dX10_drive_12 : decode cX10_drive 12 = .ok (.ireturn, 1) := by decide +kernel
theorem dX10_drive_13 : decode cX10_drive 13 = .ok (.aload_n 0, 1) := by decide +kernel
theorem dX10_drive_14 : decode cX10_drive 14 = .ok (.invokevirtual 45, 3) := by decide +kernel
theorem dX10_drive_17 : decode cX10_drive 17 = .ok (.aload_n 0, 1) := by decide +kernel
theorem dX10_drive_18 : decode cX10_drive 18 = .ok (.iload_n 1, 1) := by decide +kernel
theorem dX10_drive_19 : decode cX10_drive 19 = .ok (.iload_n 2, 1) := by decide +kernel
theorem dX10_drive_20 : decode cX10_drive 20 = .ok (.invokevirtual 79, 3) := by decide +kernel
theorem dX10_drive_23 : decode cX10_drive 23 = .ok (.ireturn, 1) := by decide +kernel
theorem dX10_whyNotRest_0 : decode cX10_whyNotRest 0 = .ok (.iload_n 1, 1) := by decide +kernel
theorem dX10_whyNotRest_1 : decode cX10_whyNotRest 1 = .ok (.iconst 1, 1) := by decide +kernel
theorem dX10_whyNotRest_2 : decode cX10_whyNotRest 2 = .ok (.sipush 9999, 3) := by decide +kernel
theorem dX10_whyNotRest_5 : decode cX10_whyNotRest 5 = .ok (.invokestatic 33, 3) := by decide +kernel
theorem dX10_whyNotRest_8 : decode cX10_whyNotRest 8 = .ok (.ifCond .ne 8, 3) := by decide +kernel
theorem dX10_whyNotRest_11 : decode cX10_whyNotRest 11 = .ok (.bipush (-2), 2) := by decide +kernel
theorem dX10_whyNotRest_13 : decode cX10_whyNotRest 13 = .ok (.goto 20, 3) := by decide +kernel
theorem dX10_whyNotRest_16 : decode cX10_whyNotRest 16 = .ok (.aload_n 0, 1) := by decide +kernel
theorem dX10_whyNotRest_17 : decode cX10_whyNotRest 17 = .ok (.getfield 7, 3) := by decide +kernel
theorem dX10_whyNotRest_20 : decode cX10_whyNotRest 20 = .ok (.bipush 38, 2) := by decide +kernel
theorem dX10_whyNotRest_22 : decode cX10_whyNotRest 22 = .ok (.iaload, 1) := by decide +kernel
theorem dX10_whyNotRest_23 : decode cX10_whyNotRest 23 = .ok (.iconst 1, 1) := by decide +kernel
theorem dX10_whyNotRest_24 : decode cX10_whyNotRest 24 = .ok (.if_icmp .ne 8, 3) := by decide +kernel
theorem dX10_whyNotRest_27 : decode cX10_whyNotRest 27 = .ok (.bipush (-5), 2) := by decide +kernel
theorem dX10_whyNotRest_29 : decode cX10_whyNotRest 29 = .ok (.goto 4, 3) := by decide +kernel
theorem dX10_whyNotRest_32 : decode cX10_whyNotRest 32 = .ok (.iconst 0, 1) := by decide +kernel
theorem dX10_whyNotRest_33 : decode cX10_whyNotRest 33 = .ok (.ireturn, 1) := by decide +kernel
theorem dX10_restIt_0 : decode cX10_restIt 0 = .ok (.aload_n 0, 1) := by decide +kernel
theorem dX10_restIt_1 : decode cX10_restIt 1 = .ok (.getfield 7, 3) := by decide +kernel
theorem dX10_restIt_4 : decode cX10_restIt 4 = .ok (.bipush 37, 2) := by decide +kernel
theorem dX10_restIt_6 : decode cX10_restIt 6 = .ok (.aload_n 0, 1) := by decide +kernel
theorem dX10_restIt_7 : decode cX10_restIt 7 = .ok (.getfield 7, 3) := by decide +kernel
theorem dX10_restIt_10 : decode cX10_restIt 10 = .ok (.bipush 37, 2) := by decide +kernel
theorem dX10_restIt_12 : decode cX10_restIt 12 = .ok (.iaload, 1) := by decide +kernel
theorem dX10_restIt_13 : decode cX10_restIt 13 = .ok (.iload_n 1, 1) := by decide +kernel
theorem dX10_restIt_14 : decode cX10_restIt 14 = .ok (.iadd, 1) := by decide +kernel
theorem dX10_restIt_15 : decode cX10_restIt 15 = .ok (.ldc 68, 2) := by decide +kernel
theorem dX10_restIt_17 : decode cX10_restIt 17 = .ok (.irem, 1) := by decide +kernel
theorem dX10_restIt_18 : decode cX10_restIt 18 = .ok (.iastore, 1) := by decide +kernel
theorem dX10_restIt_19 : decode cX10_restIt 19 = .ok (.aload_n 0, 1) := by decide +kernel
theorem dX10_restIt_20 : decode cX10_restIt 20 = .ok (.getfield 7, 3) := by decide +kernel
theorem dX10_restIt_23 : decode cX10_restIt 23 = .ok (.bipush 43, 2) := by decide +kernel
theorem dX10_restIt_25 : decode cX10_restIt 25 = .ok (.dup2, 1) := by decide +kernel
theorem dX10_restIt_26 : decode cX10_restIt 26 = .ok (.iaload, 1) := by decide +kernel
theorem dX10_restIt_27 : decode cX10_restIt 27 = .ok (.aload_n 0, 1) := by decide +kernel
theorem dX10_restIt_28 : decode cX10_restIt 28 = .ok (.getfield 7, 3) := by decide +kernel
theorem dX10_restIt_31 : decode cX10_restIt 31 = .ok (.bipush 38, 2) := by decide +kernel
theorem dX10_restIt_33 : decode cX10_restIt 33 = .ok (.iaload, 1) := by decide +kernel
theorem dX10_restIt_34 : decode cX10_restIt 34 = .ok (.iconst 2, 1) := by decide +kernel
theorem dX10_restIt_35 : decode cX10_restIt 35 = .ok (.if_icmp .ne 7, 3) := by decide +kernel
theorem dX10_restIt_38 : decode cX10_restIt 38 = .ok (.iload_n 1, 1) := by decide +kernel
theorem dX10_restIt_39 : decode cX10_restIt 39 = .ok (.goto 4, 3) := by decide +kernel
theorem dX10_restIt_42 : decode cX10_restIt 42 = .ok (.iconst 0, 1) := by decide +kernel
theorem dX10_restIt_43 : decode cX10_restIt 43 = .ok (.iadd, 1) := by decide +kernel
theorem dX10_restIt_44 : decode cX10_restIt 44 = .ok (.iastore, 1) := by decide +kernel
theorem dX10_restIt_45 : decode cX10_restIt 45 = .ok (.aload_n 0, 1) := by decide +kernel
theorem dX10_restIt_46 : decode cX10_restIt 46 = .ok (.getfield 7, 3) := by decide +kernel
theorem dX10_restIt_49 : decode cX10_restIt 49 = .ok (.bipush 37, 2) := by decide +kernel
theorem dX10_restIt_51 : decode cX10_restIt 51 = .ok (.iaload, 1) := by decide +kernel
theorem dX10_restIt_52 : decode cX10_restIt 52 = .ok (.ireturn, 1) := by decide +kernel
theorem dX10_rest_0 : decode cX10_rest 0 = .ok (.aload_n 0, 1) := by decide +kernel
theorem dX10_rest_1 : decode cX10_rest 1 = .ok (.iload_n 1, 1) := by decide +kernel
theorem dX10_rest_2 : decode cX10_rest 2 = .ok (.invokevirtual 82, 3) := by decide +kernel
theorem dX10_rest_5 : decode cX10_rest 5 = .ok (.istore_n 2, 1) := by decide +kernel
theorem dX10_rest_6 : decode cX10_rest 6 = .ok (.iload_n 2, 1) := by decide +kernel
theorem dX10_rest_7 : decode cX10_rest 7 = .ok (.ifCond .ge 5, 3) := by decide +kernel
theorem dX10_rest_10 : decode cX10_rest 10 = .ok (.iload_n 2, 1) := by decide +kernel
theorem dX10_rest_11 : decode cX10_rest 11 = .ok (.ireturn, 1) := by decide +kernel
theorem dX10_rest_12 : decode cX10_rest 12 = .ok (.aload_n 0, 1) := by decide +kernel
theorem dX10_rest_13 : decode cX10_rest 13 = .ok (.invokevirtual 45, 3) := by decide +kernel
theorem dX10_rest_16 : decode cX10_rest 16 = .ok (.aload_n 0, 1) := by decide +kernel
theorem dX10_rest_17 : decode cX10_rest 17 = .ok (.iload_n 1, 1) := by decide +kernel
theorem dX10_rest_18 : decode cX10_rest 18 = .ok (.invokevirtual 85, 3) := by decide +kernel
theorem dX10_rest_21 : decode cX10_rest 21 = .ok (.ireturn, 1) := by decide +kernel
theorem dX10_haltIt_0 : decode cX10_haltIt 0 = .ok (.aload_n 0, 1) := by decide +kernel
theorem dX10_haltIt_1 : decode cX10_haltIt 1 = .ok (.getfield 7, 3) := by decide +kernel
theorem dX10_haltIt_4 : decode cX10_haltIt 4 = .ok (.bipush 38, 2) := by decide +kernel
theorem dX10_haltIt_6 : decode cX10_haltIt 6 = .ok (.iconst 3, 1) := by decide +kernel
theorem dX10_haltIt_7 : decode cX10_haltIt 7 = .ok (.aload_n 0, 1) := by decide +kernel
theorem dX10_haltIt_8 : decode cX10_haltIt 8 = .ok (.getfield 7, 3) := by decide +kernel
theorem dX10_haltIt_11 : decode cX10_haltIt 11 = .ok (.bipush 38, 2) := by decide +kernel
theorem dX10_haltIt_13 : decode cX10_haltIt 13 = .ok (.iaload, 1) := by decide +kernel
theorem dX10_haltIt_14 : decode cX10_haltIt 14 = .ok (.isub, 1) := by decide +kernel
theorem dX10_haltIt_15 : decode cX10_haltIt 15 = .ok (.iastore, 1) := by decide +kernel
theorem dX10_haltIt_16 : decode cX10_haltIt 16 = .ok (.aload_n 0, 1) := by decide +kernel
theorem dX10_haltIt_17 : decode cX10_haltIt 17 = .ok (.getfield 7, 3) := by decide +kernel
theorem dX10_haltIt_20 : decode cX10_haltIt 20 = .ok (.bipush 38, 2) := by decide +kernel
theorem dX10_haltIt_22 : decode cX10_haltIt 22 = .ok (.iaload, 1) := by decide +kernel
theorem dX10_haltIt_23 : decode cX10_haltIt 23 = .ok (.ireturn, 1) := by decide +kernel
theorem dX10_halt_0 : decode cX10_halt 0 = .ok (.aload_n 0, 1) := by decide +kernel
theorem dX10_halt_1 : decode cX10_halt 1 = .ok (.getfield 7, 3) := by decide +kernel
theorem dX10_halt_4 : decode cX10_halt 4 = .ok (.bipush 38, 2) := by decide +kernel
theorem dX10_halt_6 : decode cX10_halt 6 = .ok (.iaload, 1) := by decide +kernel
theorem dX10_halt_7 : decode cX10_halt 7 = .ok (.ifCond .ne 6, 3) := by decide +kernel
theorem dX10_halt_10 : decode cX10_halt 10 = .ok (.bipush (-5), 2) := by decide +kernel
theorem dX10_halt_12 : decode cX10_halt 12 = .ok (.ireturn, 1) := by decide +kernel
theorem dX10_halt_13 : decode cX10_halt 13 = .ok (.aload_n 0, 1) := by decide +kernel
theorem dX10_halt_14 : decode cX10_halt 14 = .ok (.invokevirtual 45, 3) := by decide +kernel
theorem dX10_halt_17 : decode cX10_halt 17 = .ok (.aload_n 0, 1) := by decide +kernel
theorem dX10_halt_18 : decode cX10_halt 18 = .ok (.invokevirtual 88, 3) := by decide +kernel
theorem dX10_halt_21 : decode cX10_halt 21 = .ok (.ireturn, 1) := by decide +kernel
theorem dX10_whyNotExtra_0 : decode cX10_whyNotExtra 0 = .ok (.aload_n 0, 1) := by decide +kernel
theorem dX10_whyNotExtra_1 : decode cX10_whyNotExtra 1 = .ok (.getfield 7, 3) := by decide +kernel
theorem dX10_whyNotExtra_4 : decode cX10_whyNotExtra 4 = .ok (.bipush 38, 2) := by decide +kernel
theorem dX10_whyNotExtra_6 : decode cX10_whyNotExtra 6 = .ok (.iaload, 1) := by decide +kernel
theorem dX10_whyNotExtra_7 : decode cX10_whyNotExtra 7 = .ok (.ifCond .ne 8, 3) := by decide +kernel
theorem dX10_whyNotExtra_10 : decode cX10_whyNotExtra 10 = .ok (.bipush (-5), 2) := by decide +kernel
theorem dX10_whyNotExtra_12 : decode cX10_whyNotExtra 12 = .ok (.goto 21, 3) := by decide +kernel
theorem dX10_whyNotExtra_15 : decode cX10_whyNotExtra 15 = .ok (.aload_n 0, 1) := by decide +kernel
theorem dX10_whyNotExtra_16 : decode cX10_whyNotExtra 16 = .ok (.getfield 7, 3) := by decide +kernel
theorem dX10_whyNotExtra_19 : decode cX10_whyNotExtra 19 = .ok (.bipush 46, 2) := by decide +kernel
theorem dX10_whyNotExtra_21 : decode cX10_whyNotExtra 21 = .ok (.iaload, 1) := by decide +kernel
theorem dX10_whyNotExtra_22 : decode cX10_whyNotExtra 22 = .ok (.bipush 9, 2) := by decide +kernel
theorem dX10_whyNotExtra_24 : decode cX10_whyNotExtra 24 = .ok (.if_icmp .ne 8, 3) := by decide +kernel
theorem dX10_whyNotExtra_27 : decode cX10_whyNotExtra 27 = .ok (.bipush (-4), 2) := by decide +kernel
theorem dX10_whyNotExtra_29 : decode cX10_whyNotExtra 29 = .ok (.goto 4, 3) := by decide +kernel
theorem dX10_whyNotExtra_32 : decode cX10_whyNotExtra 32 = .ok (.iconst 0, 1) := by decide +kernel
theorem dX10_whyNotExtra_33 : decode cX10_whyNotExtra 33 = .ok (.ireturn, 1) := by decide +kernel
theorem dX10_extraIt_0 : decode cX10_extraIt 0 = .ok (.aload_n 0, 1) := by decide +kernel
theorem dX10_extraIt_1 : decode cX10_extraIt 1 = .ok (.getfield 7, 3) := by decide +kernel
theorem dX10_extraIt_4 : decode cX10_extraIt 4 = .ok (.bipush 46, 2) := by decide +kernel
theorem dX10_extraIt_6 : decode cX10_extraIt 6 = .ok (.dup2, 1) := by decide +kernel
theorem dX10_extraIt_7 : decode cX10_extraIt 7 = .ok (.iaload, 1) := by decide +kernel
theorem dX10_extraIt_8 : decode cX10_extraIt 8 = .ok (.iconst 1, 1) := by decide +kernel
theorem dX10_extraIt_9 : decode cX10_extraIt 9 = .ok (.iadd, 1) := by decide +kernel
theorem dX10_extraIt_10 : decode cX10_extraIt 10 = .ok (.iastore, 1) := by decide +kernel
theorem dX10_extraIt_11 : decode cX10_extraIt 11 = .ok (.aload_n 0, 1) := by decide +kernel
theorem dX10_extraIt_12 : decode cX10_extraIt 12 = .ok (.getfield 7, 3) := by decide +kernel
theorem dX10_extraIt_15 : decode cX10_extraIt 15 = .ok (.bipush 40, 2) := by decide +kernel
theorem dX10_extraIt_17 : decode cX10_extraIt 17 = .ok (.dup2, 1) := by decide +kernel
theorem dX10_extraIt_18 : decode cX10_extraIt 18 = .ok (.iaload, 1) := by decide +kernel
theorem dX10_extraIt_19 : decode cX10_extraIt 19 = .ok (.aload_n 0, 1) := by decide +kernel
theorem dX10_extraIt_20 : decode cX10_extraIt 20 = .ok (.getfield 7, 3) := by decide +kernel
theorem dX10_extraIt_23 : decode cX10_extraIt 23 = .ok (.bipush 36, 2) := by decide +kernel
theorem dX10_extraIt_25 : decode cX10_extraIt 25 = .ok (.iaload, 1) := by decide +kernel
theorem dX10_extraIt_26 : decode cX10_extraIt 26 = .ok (.iadd, 1) := by decide +kernel
theorem dX10_extraIt_27 : decode cX10_extraIt 27 = .ok (.iastore, 1) := by decide +kernel
theorem dX10_extraIt_28 : decode cX10_extraIt 28 = .ok (.aload_n 0, 1) := by decide +kernel
theorem dX10_extraIt_29 : decode cX10_extraIt 29 = .ok (.getfield 7, 3) := by decide +kernel
theorem dX10_extraIt_32 : decode cX10_extraIt 32 = .ok (.bipush 46, 2) := by decide +kernel
theorem dX10_extraIt_34 : decode cX10_extraIt 34 = .ok (.iaload, 1) := by decide +kernel
theorem dX10_extraIt_35 : decode cX10_extraIt 35 = .ok (.ireturn, 1) := by decide +kernel
theorem dX10_extra_0 : decode cX10_extra 0 = .ok (.aload_n 0, 1) := by decide +kernel
theorem dX10_extra_1 : decode cX10_extra 1 = .ok (.invokevirtual 91, 3) := by decide +kernel
theorem dX10_extra_4 : decode cX10_extra 4 = .ok (.istore_n 1, 1) := by decide +kernel
theorem dX10_extra_5 : decode cX10_extra 5 = .ok (.iload_n 1, 1) := by decide +kernel
theorem dX10_extra_6 : decode cX10_extra 6 = .ok (.ifCond .ge 5, 3) := by decide +kernel
theorem dX10_extra_9 : decode cX10_extra 9 = .ok (.iload_n 1, 1) := by decide +kernel
theorem dX10_extra_10 : decode cX10_extra 10 = .ok (.ireturn, 1) := by decide +kernel
theorem dX10_extra_11 : decode cX10_extra 11 = .ok (.aload_n 0, 1) := by decide +kernel
theorem dX10_extra_12 : decode cX10_extra 12 = .ok (.invokevirtual 45, 3) := by decide +kernel
theorem dX10_extra_15 : decode cX10_extra 15 = .ok (.aload_n 0, 1) := by decide +kernel
theorem dX10_extra_16 : decode cX10_extra 16 = .ok (.invokevirtual 94, 3) := by decide +kernel
theorem dX10_extra_19 : decode cX10_extra 19 = .ok (.ireturn, 1) := by decide +kernel
theorem dX10_endIt_0 : decode cX10_endIt 0 = .ok (.aload_n 0, 1) := by decide +kernel
theorem dX10_endIt_1 : decode cX10_endIt 1 = .ok (.getfield 7, 3) := by decide +kernel
theorem dX10_endIt_4 : decode cX10_endIt 4 = .ok (.bipush 39, 2) := by decide +kernel
theorem dX10_endIt_6 : decode cX10_endIt 6 = .ok (.iaload, 1) := by decide +kernel
theorem dX10_endIt_7 : decode cX10_endIt 7 = .ok (.aload_n 0, 1) := by decide +kernel
theorem dX10_endIt_8 : decode cX10_endIt 8 = .ok (.getfield 7, 3) := by decide +kernel
theorem dX10_endIt_11 : decode cX10_endIt 11 = .ok (.bipush 40, 2) := by decide +kernel
theorem dX10_endIt_13 : decode cX10_endIt 13 = .ok (.iaload, 1) := by decide +kernel
theorem dX10_endIt_14 : decode cX10_endIt 14 = .ok (.iadd, 1) := by decide +kernel
theorem dX10_endIt_15 : decode cX10_endIt 15 = .ok (.istore_n 1, 1) := by decide +kernel
theorem dX10_endIt_16 : decode cX10_endIt 16 = .ok (.bipush 59, 2) := by decide +kernel
theorem dX10_endIt_18 : decode cX10_endIt 18 = .ok (.istore_n 2, 1) := by decide +kernel
theorem dX10_endIt_19 : decode cX10_endIt 19 = .ok (.iload_n 2, 1) := by decide +kernel
theorem dX10_endIt_20 : decode cX10_endIt 20 = .ok (.iconst 5, 1) := by decide +kernel
theorem dX10_endIt_21 : decode cX10_endIt 21 = .ok (.if_icmp .lt 29, 3) := by decide +kernel
theorem dX10_endIt_24 : decode cX10_endIt 24 = .ok (.aload_n 0, 1) := by decide +kernel
theorem dX10_endIt_25 : decode cX10_endIt 25 = .ok (.getfield 7, 3) := by decide +kernel
theorem dX10_endIt_28 : decode cX10_endIt 28 = .ok (.bipush 53, 2) := by decide +kernel
theorem dX10_endIt_30 : decode cX10_endIt 30 = .ok (.iload_n 2, 1) := by decide +kernel
theorem dX10_endIt_31 : decode cX10_endIt 31 = .ok (.iadd, 1) := by decide +kernel
theorem dX10_endIt_32 : decode cX10_endIt 32 = .ok (.aload_n 0, 1) := by decide +kernel
theorem dX10_endIt_33 : decode cX10_endIt 33 = .ok (.getfield 7, 3) := by decide +kernel
theorem dX10_endIt_36 : decode cX10_endIt 36 = .ok (.bipush 53, 2) := by decide +kernel
theorem dX10_endIt_38 : decode cX10_endIt 38 = .ok (.iload_n 2, 1) := by decide +kernel
theorem dX10_endIt_39 : decode cX10_endIt 39 = .ok (.iadd, 1) := by decide +kernel
theorem dX10_endIt_40 : decode cX10_endIt 40 = .ok (.iconst 5, 1) := by decide +kernel
theorem dX10_endIt_41 : decode cX10_endIt 41 = .ok (.isub, 1) := by decide +kernel
theorem dX10_endIt_42 : decode cX10_endIt 42 = .ok (.iaload, 1) := by decide +kernel
theorem dX10_endIt_43 : decode cX10_endIt 43 = .ok (.iastore, 1) := by decide +kernel
theorem dX10_endIt_44 : decode cX10_endIt 44 = .ok (.iinc 2 (-1), 3) := by decide +kernel
theorem dX10_endIt_47 : decode cX10_endIt 47 = .ok (.goto (-28), 3) := by decide +kernel
theorem dX10_endIt_50 : decode cX10_endIt 50 = .ok (.aload_n 0, 1) := by decide +kernel
theorem dX10_endIt_51 : decode cX10_endIt 51 = .ok (.getfield 7, 3) := by decide +kernel
theorem dX10_endIt_54 : decode cX10_endIt 54 = .ok (.bipush 53, 2) := by decide +kernel
theorem dX10_endIt_56 : decode cX10_endIt 56 = .ok (.iload_n 1, 1) := by decide +kernel
theorem dX10_endIt_57 : decode cX10_endIt 57 = .ok (.iastore, 1) := by decide +kernel
theorem dX10_endIt_58 : decode cX10_endIt 58 = .ok (.aload_n 0, 1) := by decide +kernel
theorem dX10_endIt_59 : decode cX10_endIt 59 = .ok (.getfield 7, 3) := by decide +kernel
theorem dX10_endIt_62 : decode cX10_endIt 62 = .ok (.bipush 54, 2) := by decide +kernel
theorem dX10_endIt_64 : decode cX10_endIt 64 = .ok (.aload_n 0, 1) := by decide +kernel
theorem dX10_endIt_65 : decode cX10_endIt 65 = .ok (.getfield 7, 3) := by decide +kernel
theorem dX10_endIt_68 : decode cX10_endIt 68 = .ok (.bipush 41, 2) := by decide +kernel
theorem dX10_endIt_70 : decode cX10_endIt 70 = .ok (.iaload, 1) := by decide +kernel
theorem dX10_endIt_71 : decode cX10_endIt 71 = .ok (.iastore, 1) := by decide +kernel
theorem dX10_endIt_72 : decode cX10_endIt 72 = .ok (.aload_n 0, 1) := by decide +kernel
theorem dX10_endIt_73 : decode cX10_endIt 73 = .ok (.getfield 7, 3) := by decide +kernel
theorem dX10_endIt_76 : decode cX10_endIt 76 = .ok (.bipush 55, 2) := by decide +kernel
theorem dX10_endIt_78 : decode cX10_endIt 78 = .ok (.aload_n 0, 1) := by decide +kernel
theorem dX10_endIt_79 : decode cX10_endIt 79 = .ok (.getfield 7, 3) := by decide +kernel
theorem dX10_endIt_82 : decode cX10_endIt 82 = .ok (.bipush 42, 2) := by decide +kernel
theorem dX10_endIt_84 : decode cX10_endIt 84 = .ok (.iaload, 1) := by decide +kernel
theorem dX10_endIt_85 : decode cX10_endIt 85 = .ok (.aload_n 0, 1) := by decide +kernel
theorem dX10_endIt_86 : decode cX10_endIt 86 = .ok (.getfield 7, 3) := by decide +kernel
theorem dX10_endIt_89 : decode cX10_endIt 89 = .ok (.bipush 43, 2) := by decide +kernel
theorem dX10_endIt_91 : decode cX10_endIt 91 = .ok (.iaload, 1) := by decide +kernel
theorem dX10_endIt_92 : decode cX10_endIt 92 = .ok (.iadd, 1) := by decide +kernel
theorem dX10_endIt_93 : decode cX10_endIt 93 = .ok (.iastore, 1) := by decide +kernel
theorem dX10_endIt_94 : decode cX10_endIt 94 = .ok (.aload_n 0, 1) := by decide +kernel
theorem dX10_endIt_95 : decode cX10_endIt 95 = .ok (.getfield 7, 3) := by decide +kernel
theorem dX10_endIt_98 : decode cX10_endIt 98 = .ok (.bipush 56, 2) := by decide +kernel
theorem dX10_endIt_100 : decode cX10_endIt 100 = .ok (.aload_n 0, 1) := by decide +kernel
theorem dX10_endIt_101 : decode cX10_endIt 101 = .ok (.getfield 7, 3) := by decide +kernel
theorem dX10_endIt_104 : decode cX10_endIt 104 = .ok (.bipush 44, 2) := by decide +kernel
theorem dX10_endIt_106 : decode cX10_endIt 106 = .ok (.iaload, 1) := by decide +kernel
theorem dX10_endIt_107 : decode cX10_endIt 107 = .ok (.aload_n 0, 1) := by decide +kernel
theorem dX10_endIt_108 : decode cX10_endIt 108 = .ok (.getfield 7, 3) := by decide +kernel
theorem dX10_endIt_111 : decode cX10_endIt 111 = .ok (.bipush 45, 2) := by decide +kernel
theorem dX10_endIt_113 : decode cX10_endIt 113 = .ok (.iaload, 1) := by decide +kernel
theorem dX10_endIt_114 : decode cX10_endIt 114 = .ok (.iadd, 1) := by decide +kernel
theorem dX10_endIt_115 : decode cX10_endIt 115 = .ok (.iastore, 1) := by decide +kernel
theorem dX10_endIt_116 : decode cX10_endIt 116 = .ok (.aload_n 0, 1) := by decide +kernel
theorem dX10_endIt_117 : decode cX10_endIt 117 = .ok (.getfield 7, 3) := by decide +kernel
theorem dX10_endIt_120 : decode cX10_endIt 120 = .ok (.bipush 57, 2) := by decide +kernel
theorem dX10_endIt_122 : decode cX10_endIt 122 = .ok (.aload_n 0, 1) := by decide +kernel
theorem dX10_endIt_123 : decode cX10_endIt 123 = .ok (.getfield 7, 3) := by decide +kernel
theorem dX10_endIt_126 : decode cX10_endIt 126 = .ok (.bipush 49, 2) := by decide +kernel
theorem dX10_endIt_128 : decode cX10_endIt 128 = .ok (.iaload, 1) := by decide +kernel
theorem dX10_endIt_129 : decode cX10_endIt 129 = .ok (.iastore, 1) := by decide +kernel
theorem dX10_endIt_130 : decode cX10_endIt 130 = .ok (.aload_n 0, 1) := by decide +kernel
theorem dX10_endIt_131 : decode cX10_endIt 131 = .ok (.getfield 7, 3) := by decide +kernel
theorem dX10_endIt_134 : decode cX10_endIt 134 = .ok (.bipush 52, 2) := by decide +kernel
theorem dX10_endIt_136 : decode cX10_endIt 136 = .ok (.aload_n 0, 1) := by decide +kernel
theorem dX10_endIt_137 : decode cX10_endIt 137 = .ok (.getfield 7, 3) := by decide +kernel
theorem dX10_endIt_140 : decode cX10_endIt 140 = .ok (.bipush 52, 2) := by decide +kernel
theorem dX10_endIt_142 : decode cX10_endIt 142 = .ok (.iaload, 1) := by decide +kernel
theorem dX10_endIt_143 : decode cX10_endIt 143 = .ok (.bipush 12, 2) := by decide +kernel
theorem dX10_endIt_145 : decode cX10_endIt 145 = .ok (.if_icmp .ge 15, 3) := by decide +kernel
theorem dX10_endIt_148 : decode cX10_endIt 148 = .ok (.aload_n 0, 1) := by decide +kernel
theorem dX10_endIt_149 : decode cX10_endIt 149 = .ok (.getfield 7, 3) := by decide +kernel
theorem dX10_endIt_152 : decode cX10_endIt 152 = .ok (.bipush 52, 2) := by decide +kernel
theorem dX10_endIt_154 : decode cX10_endIt 154 = .ok (.iaload, 1) := by decide +kernel
theorem dX10_endIt_155 : decode cX10_endIt 155 = .ok (.iconst 1, 1) := by decide +kernel
theorem dX10_endIt_156 : decode cX10_endIt 156 = .ok (.iadd, 1) := by decide +kernel
theorem dX10_endIt_157 : decode cX10_endIt 157 = .ok (.goto 5, 3) := by decide +kernel
theorem dX10_endIt_160 : decode cX10_endIt 160 = .ok (.bipush 12, 2) := by decide +kernel
theorem dX10_endIt_162 : decode cX10_endIt 162 = .ok (.iastore, 1) := by decide +kernel
theorem dX10_endIt_163 : decode cX10_endIt 163 = .ok (.aload_n 0, 1) := by decide +kernel
theorem dX10_endIt_164 : decode cX10_endIt 164 = .ok (.getfield 7, 3) := by decide +kernel
theorem dX10_endIt_167 : decode cX10_endIt 167 = .ok (.bipush 50, 2) := by decide +kernel
theorem dX10_endIt_169 : decode cX10_endIt 169 = .ok (.dup2, 1) := by decide +kernel
theorem dX10_endIt_170 : decode cX10_endIt 170 = .ok (.iaload, 1) := by decide +kernel
theorem dX10_endIt_171 : decode cX10_endIt 171 = .ok (.iconst 1, 1) := by decide +kernel
theorem dX10_endIt_172 : decode cX10_endIt 172 = .ok (.iadd, 1) := by decide +kernel
theorem dX10_endIt_173 : decode cX10_endIt 173 = .ok (.iastore, 1) := by decide +kernel
theorem dX10_endIt_174 : decode cX10_endIt 174 = .ok (.aload_n 0, 1) := by decide +kernel
theorem dX10_endIt_175 : decode cX10_endIt 175 = .ok (.getfield 7, 3) := by decide +kernel
theorem dX10_endIt_178 : decode cX10_endIt 178 = .ok (.bipush 51, 2) := by decide +kernel
theorem dX10_endIt_180 : decode cX10_endIt 180 = .ok (.aload_n 0, 1) := by decide +kernel
theorem dX10_endIt_181 : decode cX10_endIt 181 = .ok (.getfield 7, 3) := by decide +kernel
theorem dX10_endIt_184 : decode cX10_endIt 184 = .ok (.bipush 51, 2) := by decide +kernel
theorem dX10_endIt_186 : decode cX10_endIt 186 = .ok (.iaload, 1) := by decide +kernel
theorem dX10_endIt_187 : decode cX10_endIt 187 = .ok (.iload_n 1, 1) := by decide +kernel
theorem dX10_endIt_188 : decode cX10_endIt 188 = .ok (.iadd, 1) := by decide +kernel
theorem dX10_endIt_189 : decode cX10_endIt 189 = .ok (.ldc 97, 2) := by decide +kernel
theorem dX10_endIt_191 : decode cX10_endIt 191 = .ok (.irem, 1) := by decide +kernel
theorem dX10_endIt_192 : decode cX10_endIt 192 = .ok (.iastore, 1) := by decide +kernel
theorem dX10_endIt_193 : decode cX10_endIt 193 = .ok (.aload_n 0, 1) := by decide +kernel
theorem dX10_endIt_194 : decode cX10_endIt 194 = .ok (.getfield 7, 3) := by decide +kernel
theorem dX10_endIt_197 : decode cX10_endIt 197 = .ok (.bipush 38, 2) := by decide +kernel
theorem dX10_endIt_199 : decode cX10_endIt 199 = .ok (.iconst 0, 1) := by decide +kernel
theorem dX10_endIt_200 : decode cX10_endIt 200 = .ok (.iastore, 1) := by decide +kernel
theorem dX10_endIt_201 : decode cX10_endIt 201 = .ok (.iload_n 1, 1) := by decide +kernel
theorem dX10_endIt_202 : decode cX10_endIt 202 = .ok (.ireturn, 1) := by decide +kernel
theorem dX10_end_0 : decode cX10_end 0 = .ok (.aload_n 0, 1) := by decide +kernel
theorem dX10_end_1 : decode cX10_end 1 = .ok (.getfield 7, 3) := by decide +kernel
theorem dX10_end_4 : decode cX10_end 4 = .ok (.bipush 38, 2) := by decide +kernel
theorem dX10_end_6 : decode cX10_end 6 = .ok (.iaload, 1) := by decide +kernel
theorem dX10_end_7 : decode cX10_end 7 = .ok (.ifCond .ne 6, 3) := by decide +kernel
theorem dX10_end_10 : decode cX10_end 10 = .ok (.bipush (-5), 2) := by decide +kernel
theorem dX10_end_12 : decode cX10_end 12 = .ok (.ireturn, 1) := by decide +kernel
theorem dX10_end_13 : decode cX10_end 13 = .ok (.aload_n 0, 1) := by decide +kernel
theorem dX10_end_14 : decode cX10_end 14 = .ok (.invokevirtual 45, 3) := by decide +kernel
theorem dX10_end_17 : decode cX10_end 17 = .ok (.aload_n 0, 1) := by decide +kernel
theorem dX10_end_18 : decode cX10_end 18 = .ok (.invokevirtual 98, 3) := by decide +kernel
theorem dX10_end_21 : decode cX10_end 21 = .ok (.ireturn, 1) := by decide +kernel
theorem dX10_hoursWith_0 : decode cX10_hoursWith 0 = .ok (.iconst 0, 1) := by decide +kernel
theorem dX10_hoursWith_1 : decode cX10_hoursWith 1 = .ok (.istore_n 2, 1) := by decide +kernel
theorem dX10_hoursWith_2 : decode cX10_hoursWith 2 = .ok (.iconst 0, 1) := by decide +kernel
theorem dX10_hoursWith_3 : decode cX10_hoursWith 3 = .ok (.istore_n 3, 1) := by decide +kernel
theorem dX10_hoursWith_4 : decode cX10_hoursWith 4 = .ok (.iload_n 3, 1) := by decide +kernel
theorem dX10_hoursWith_5 : decode cX10_hoursWith 5 = .ok (.bipush 24, 2) := by decide +kernel
theorem dX10_hoursWith_7 : decode cX10_hoursWith 7 = .ok (.if_icmp .ge 30, 3) := by decide +kernel
theorem dX10_hoursWith_10 : decode cX10_hoursWith 10 = .ok (.iload_n 2, 1) := by decide +kernel
theorem dX10_hoursWith_11 : decode cX10_hoursWith 11 = .ok (.aload_n 0, 1) := by decide +kernel
theorem dX10_hoursWith_12 : decode cX10_hoursWith 12 = .ok (.getfield 7, 3) := by decide +kernel
theorem dX10_hoursWith_15 : decode cX10_hoursWith 15 = .ok (.bipush 12, 2) := by decide +kernel
theorem dX10_hoursWith_17 : decode cX10_hoursWith 17 = .ok (.iload_n 3, 1) := by decide +kernel
theorem dX10_hoursWith_18 : decode cX10_hoursWith 18 = .ok (.iadd, 1) := by decide +kernel
theorem dX10_hoursWith_19 : decode cX10_hoursWith 19 = .ok (.iaload, 1) := by decide +kernel
theorem dX10_hoursWith_20 : decode cX10_hoursWith 20 = .ok (.iload_n 1, 1) := by decide +kernel
theorem dX10_hoursWith_21 : decode cX10_hoursWith 21 = .ok (.if_icmp .ne 7, 3) := by decide +kernel
theorem dX10_hoursWith_24 : decode cX10_hoursWith 24 = .ok (.iconst 1, 1) := by decide +kernel
theorem dX10_hoursWith_25 : decode cX10_hoursWith 25 = .ok (.goto 4, 3) := by decide +kernel
theorem dX10_hoursWith_28 : decode cX10_hoursWith 28 = .ok (.iconst 0, 1) := by decide +kernel
theorem dX10_hoursWith_29 : decode cX10_hoursWith 29 = .ok (.iadd, 1) := by decide +kernel
theorem dX10_hoursWith_30 : decode cX10_hoursWith 30 = .ok (.istore_n 2, 1) := by decide +kernel
theorem dX10_hoursWith_31 : decode cX10_hoursWith 31 = .ok (.iinc 3 1, 3) := by decide +kernel
theorem dX10_hoursWith_34 : decode cX10_hoursWith 34 = .ok (.goto (-30), 3) := by decide +kernel
theorem dX10_hoursWith_37 : decode cX10_hoursWith 37 = .ok (.iload_n 2, 1) := by decide +kernel
theorem dX10_hoursWith_38 : decode cX10_hoursWith 38 = .ok (.ireturn, 1) := by decide +kernel
theorem dX10_ofTariff_0 : decode cX10_ofTariff 0 = .ok (.iload_n 1, 1) := by decide +kernel
theorem dX10_ofTariff_1 : decode cX10_ofTariff 1 = .ok (.invokestatic 48, 3) := by decide +kernel
theorem dX10_ofTariff_4 : decode cX10_ofTariff 4 = .ok (.ifCond .ne 5, 3) := by decide +kernel
theorem dX10_ofTariff_7 : decode cX10_ofTariff 7 = .ok (.iconst (-1), 1) := by decide +kernel
theorem dX10_ofTariff_8 : decode cX10_ofTariff 8 = .ok (.ireturn, 1) := by decide +kernel
theorem dX10_ofTariff_9 : decode cX10_ofTariff 9 = .ok (.iload_n 2, 1) := by decide +kernel
theorem dX10_ofTariff_10 : decode cX10_ofTariff 10 = .ok (.iconst 0, 1) := by decide +kernel
theorem dX10_ofTariff_11 : decode cX10_ofTariff 11 = .ok (.iconst 4, 1) := by decide +kernel
theorem dX10_ofTariff_12 : decode cX10_ofTariff 12 = .ok (.invokestatic 33, 3) := by decide +kernel
theorem dX10_ofTariff_15 : decode cX10_ofTariff 15 = .ok (.ifCond .ne 8, 3) := by decide +kernel
theorem dX10_ofTariff_18 : decode cX10_ofTariff 18 = .ok (.bipush (-2), 2) := by decide +kernel
theorem dX10_ofTariff_20 : decode cX10_ofTariff 20 = .ok (.goto 22, 3) := by decide +kernel
theorem dX10_ofTariff_23 : decode cX10_ofTariff 23 = .ok (.iload_n 2, 1) := by decide +kernel
theorem dX10_ofTariff_24 : decode cX10_ofTariff 24 = .ok (.iconst 4, 1) := by decide +kernel
theorem dX10_ofTariff_25 : decode cX10_ofTariff 25 = .ok (.if_icmp .ge 12, 3) := by decide +kernel
theorem dX10_ofTariff_28 : decode cX10_ofTariff 28 = .ok (.aload_n 0, 1) := by decide +kernel
theorem dX10_ofTariff_29 : decode cX10_ofTariff 29 = .ok (.iload_n 1, 1) := by decide +kernel
theorem dX10_ofTariff_30 : decode cX10_ofTariff 30 = .ok (.iload_n 2, 1) := by decide +kernel
theorem dX10_ofTariff_31 : decode cX10_ofTariff 31 = .ok (.invokevirtual 37, 3) := by decide +kernel
theorem dX10_ofTariff_34 : decode cX10_ofTariff 34 = .ok (.goto 8, 3) := by decide +kernel
theorem dX10_ofTariff_37 : decode cX10_ofTariff 37 = .ok (.aload_n 0, 1) := by decide +kernel
theorem dX10_ofTariff_38 : decode cX10_ofTariff 38 = .ok (.iload_n 1, 1) := by decide +kernel
theorem dX10_ofTariff_39 : decode cX10_ofTariff 39 = .ok (.invokevirtual 101, 3) := by decide +kernel
theorem dX10_ofTariff_42 : decode cX10_ofTariff 42 = .ok (.ireturn, 1) := by decide +kernel
theorem dX10_ride_0 : decode cX10_ride 0 = .ok (.iload_n 1, 1) := by decide +kernel
theorem dX10_ride_1 : decode cX10_ride 1 = .ok (.iconst 0, 1) := by decide +kernel
theorem dX10_ride_2 : decode cX10_ride 2 = .ok (.bipush 8, 2) := by decide +kernel
theorem dX10_ride_4 : decode cX10_ride 4 = .ok (.invokestatic 33, 3) := by decide +kernel
theorem dX10_ride_7 : decode cX10_ride 7 = .ok (.ifCond .eq 15, 3) := by decide +kernel
theorem dX10_ride_10 : decode cX10_ride 10 = .ok (.aload_n 0, 1) := by decide +kernel
theorem dX10_ride_11 : decode cX10_ride 11 = .ok (.getfield 7, 3) := by decide +kernel
theorem dX10_ride_14 : decode cX10_ride 14 = .ok (.bipush 39, 2) := by decide +kernel
theorem dX10_ride_16 : decode cX10_ride 16 = .ok (.iload_n 1, 1) := by decide +kernel
theorem dX10_ride_17 : decode cX10_ride 17 = .ok (.iadd, 1) := by decide +kernel
theorem dX10_ride_18 : decode cX10_ride 18 = .ok (.iaload, 1) := by decide +kernel
theorem dX10_ride_19 : decode cX10_ride 19 = .ok (.goto 5, 3) := by decide +kernel
theorem dX10_ride_22 : decode cX10_ride 22 = .ok (.bipush (-2), 2) := by decide +kernel
theorem dX10_ride_24 : decode cX10_ride 24 = .ok (.ireturn, 1) := by decide +kernel
theorem dX10_log_0 : decode cX10_log 0 = .ok (.iload_n 1, 1) := by decide +kernel
theorem dX10_log_1 : decode cX10_log 1 = .ok (.iconst 0, 1) := by decide +kernel
theorem dX10_log_2 : decode cX10_log 2 = .ok (.aload_n 0, 1) := by decide +kernel
theorem dX10_log_3 : decode cX10_log 3 = .ok (.getfield 7, 3) := by decide +kernel
theorem dX10_log_6 : decode cX10_log 6 = .ok (.bipush 52, 2) := by decide +kernel
theorem dX10_log_8 : decode cX10_log 8 = .ok (.iaload, 1) := by decide +kernel
theorem dX10_log_9 : decode cX10_log 9 = .ok (.iconst 1, 1) := by decide +kernel
theorem dX10_log_10 : decode cX10_log 10 = .ok (.isub, 1) := by decide +kernel
theorem dX10_log_11 : decode cX10_log 11 = .ok (.invokestatic 33, 3) := by decide +kernel
theorem dX10_log_14 : decode cX10_log 14 = .ok (.ifCond .ne 5, 3) := by decide +kernel
theorem dX10_log_17 : decode cX10_log 17 = .ok (.iconst (-1), 1) := by decide +kernel
theorem dX10_log_18 : decode cX10_log 18 = .ok (.ireturn, 1) := by decide +kernel
theorem dX10_log_19 : decode cX10_log 19 = .ok (.iload_n 2, 1) := by decide +kernel
theorem dX10_log_20 : decode cX10_log 20 = .ok (.iconst 0, 1) := by decide +kernel
theorem dX10_log_21 : decode cX10_log 21 = .ok (.iconst 4, 1) := by decide +kernel
theorem dX10_log_22 : decode cX10_log 22 = .ok (.invokestatic 33, 3) := by decide +kernel
theorem dX10_log_25 : decode cX10_log 25 = .ok (.ifCond .eq 19, 3) := by decide +kernel
theorem dX10_log_28 : decode cX10_log 28 = .ok (.aload_n 0, 1) := by decide +kernel
theorem dX10_log_29 : decode cX10_log 29 = .ok (.getfield 7, 3) := by decide +kernel
theorem dX10_log_32 : decode cX10_log 32 = .ok (.bipush 53, 2) := by decide +kernel
theorem dX10_log_34 : decode cX10_log 34 = .ok (.iconst 5, 1) := by decide +kernel
theorem dX10_log_35 : decode cX10_log 35 = .ok (.iload_n 1, 1) := by decide +kernel
theorem dX10_log_36 : decode cX10_log 36 = .ok (.imul, 1) := by decide +kernel
theorem dX10_log_37 : decode cX10_log 37 = .ok (.iadd, 1) := by decide +kernel
theorem dX10_log_38 : decode cX10_log 38 = .ok (.iload_n 2, 1) := by decide +kernel
theorem dX10_log_39 : decode cX10_log 39 = .ok (.iadd, 1) := by decide +kernel
theorem dX10_log_40 : decode cX10_log 40 = .ok (.iaload, 1) := by decide +kernel
theorem dX10_log_41 : decode cX10_log 41 = .ok (.goto 5, 3) := by decide +kernel
theorem dX10_log_44 : decode cX10_log 44 = .ok (.bipush (-2), 2) := by decide +kernel
theorem dX10_log_46 : decode cX10_log 46 = .ok (.ireturn, 1) := by decide +kernel
theorem dX10_count_0 : decode cX10_count 0 = .ok (.iload_n 1, 1) := by decide +kernel
theorem dX10_count_1 : decode cX10_count 1 = .ok (.tableswitch 121 0 8 #[51, 59, 67, 79, 87, 95, 103, 111, 116], 51) := by decide +kernel
theorem dX10_count_52 : decode cX10_count 52 = .ok (.aload_n 0, 1) := by decide +kernel
theorem dX10_count_53 : decode cX10_count 53 = .ok (.getfield 7, 3) := by decide +kernel
theorem dX10_count_56 : decode cX10_count 56 = .ok (.bipush 37, 2) := by decide +kernel
theorem dX10_count_58 : decode cX10_count 58 = .ok (.iaload, 1) := by decide +kernel
theorem dX10_count_59 : decode cX10_count 59 = .ok (.ireturn, 1) := by decide +kernel
theorem dX10_count_60 : decode cX10_count 60 = .ok (.aload_n 0, 1) := by decide +kernel
theorem dX10_count_61 : decode cX10_count 61 = .ok (.getfield 7, 3) := by decide +kernel
theorem dX10_count_64 : decode cX10_count 64 = .ok (.bipush 38, 2) := by decide +kernel
theorem dX10_count_66 : decode cX10_count 66 = .ok (.iaload, 1) := by decide +kernel
theorem dX10_count_67 : decode cX10_count 67 = .ok (.ireturn, 1) := by decide +kernel
theorem dX10_count_68 : decode cX10_count 68 = .ok (.aload_n 0, 1) := by decide +kernel
theorem dX10_count_69 : decode cX10_count 69 = .ok (.aload_n 0, 1) := by decide +kernel
theorem dX10_count_70 : decode cX10_count 70 = .ok (.getfield 7, 3) := by decide +kernel
theorem dX10_count_73 : decode cX10_count 73 = .ok (.bipush 37, 2) := by decide +kernel
theorem dX10_count_75 : decode cX10_count 75 = .ok (.iaload, 1) := by decide +kernel
theorem dX10_count_76 : decode cX10_count 76 = .ok (.invokevirtual 52, 3) := by decide +kernel
theorem dX10_count_79 : decode cX10_count 79 = .ok (.ireturn, 1) := by decide +kernel
theorem dX10_count_80 : decode cX10_count 80 = .ok (.aload_n 0, 1) := by decide +kernel
theorem dX10_count_81 : decode cX10_count 81 = .ok (.getfield 7, 3) := by decide +kernel
theorem dX10_count_84 : decode cX10_count 84 = .ok (.bipush 36, 2) := by decide +kernel
theorem dX10_count_86 : decode cX10_count 86 = .ok (.iaload, 1) := by decide +kernel
theorem dX10_count_87 : decode cX10_count 87 = .ok (.ireturn, 1) := by decide +kernel
theorem dX10_count_88 : decode cX10_count 88 = .ok (.aload_n 0, 1) := by decide +kernel
theorem dX10_count_89 : decode cX10_count 89 = .ok (.getfield 7, 3) := by decide +kernel
theorem dX10_count_92 : decode cX10_count 92 = .ok (.bipush 50, 2) := by decide +kernel
theorem dX10_count_94 : decode cX10_count 94 = .ok (.iaload, 1) := by decide +kernel
theorem dX10_count_95 : decode cX10_count 95 = .ok (.ireturn, 1) := by decide +kernel
theorem dX10_count_96 : decode cX10_count 96 = .ok (.aload_n 0, 1) := by decide +kernel
theorem dX10_count_97 : decode cX10_count 97 = .ok (.getfield 7, 3) := by decide +kernel
theorem dX10_count_100 : decode cX10_count 100 = .ok (.bipush 51, 2) := by decide +kernel
theorem dX10_count_102 : decode cX10_count 102 = .ok (.iaload, 1) := by decide +kernel
theorem dX10_count_103 : decode cX10_count 103 = .ok (.ireturn, 1) := by decide +kernel
theorem dX10_count_104 : decode cX10_count 104 = .ok (.aload_n 0, 1) := by decide +kernel
theorem dX10_count_105 : decode cX10_count 105 = .ok (.getfield 7, 3) := by decide +kernel
theorem dX10_count_108 : decode cX10_count 108 = .ok (.bipush 52, 2) := by decide +kernel
theorem dX10_count_110 : decode cX10_count 110 = .ok (.iaload, 1) := by decide +kernel
theorem dX10_count_111 : decode cX10_count 111 = .ok (.ireturn, 1) := by decide +kernel
theorem dX10_count_112 : decode cX10_count 112 = .ok (.aload_n 0, 1) := by decide +kernel
theorem dX10_count_113 : decode cX10_count 113 = .ok (.getfield 104, 3) := by decide +kernel
theorem dX10_count_116 : decode cX10_count 116 = .ok (.ireturn, 1) := by decide +kernel
theorem dX10_count_117 : decode cX10_count 117 = .ok (.aload_n 0, 1) := by decide +kernel
theorem dX10_count_118 : decode cX10_count 118 = .ok (.getfield 41, 3) := by decide +kernel
theorem dX10_count_121 : decode cX10_count 121 = .ok (.ireturn, 1) := by decide +kernel
theorem dX10_count_122 : decode cX10_count 122 = .ok (.bipush (-2), 2) := by decide +kernel
theorem dX10_count_124 : decode cX10_count 124 = .ok (.ireturn, 1) := by decide +kernel
theorem dX10_would_0 : decode cX10_would 0 = .ok (.aload_n 0, 1) := by decide +kernel
theorem dX10_would_1 : decode cX10_would 1 = .ok (.iload_n 1, 1) := by decide +kernel
theorem dX10_would_2 : decode cX10_would 2 = .ok (.iload_n 2, 1) := by decide +kernel
theorem dX10_would_3 : decode cX10_would 3 = .ok (.invokevirtual 76, 3) := by decide +kernel
theorem dX10_would_6 : decode cX10_would 6 = .ok (.istore_n 3, 1) := by decide +kernel
theorem dX10_would_7 : decode cX10_would 7 = .ok (.iload_n 3, 1) := by decide +kernel
theorem dX10_would_8 : decode cX10_would 8 = .ok (.ifCond .ge 5, 3) := by decide +kernel
theorem dX10_would_11 : decode cX10_would 11 = .ok (.iload_n 3, 1) := by decide +kernel
theorem dX10_would_12 : decode cX10_would 12 = .ok (.ireturn, 1) := by decide +kernel
theorem dX10_would_13 : decode cX10_would 13 = .ok (.aload_n 0, 1) := by decide +kernel
theorem dX10_would_14 : decode cX10_would 14 = .ok (.invokevirtual 107, 3) := by decide +kernel
theorem dX10_would_17 : decode cX10_would 17 = .ok (.aload_n 0, 1) := by decide +kernel
theorem dX10_would_18 : decode cX10_would 18 = .ok (.getfield 7, 3) := by decide +kernel
theorem dX10_would_21 : decode cX10_would 21 = .ok (.bipush 39, 2) := by decide +kernel
theorem dX10_would_23 : decode cX10_would 23 = .ok (.iaload, 1) := by decide +kernel
theorem dX10_would_24 : decode cX10_would 24 = .ok (.istore 4, 2) := by decide +kernel
theorem dX10_would_26 : decode cX10_would 26 = .ok (.aload_n 0, 1) := by decide +kernel
theorem dX10_would_27 : decode cX10_would 27 = .ok (.iload_n 1, 1) := by decide +kernel
theorem dX10_would_28 : decode cX10_would 28 = .ok (.iload_n 2, 1) := by decide +kernel
theorem dX10_would_29 : decode cX10_would 29 = .ok (.invokevirtual 79, 3) := by decide +kernel
theorem dX10_would_32 : decode cX10_would 32 = .ok (.pop, 1) := by decide +kernel
theorem dX10_would_33 : decode cX10_would 33 = .ok (.aload_n 0, 1) := by decide +kernel
theorem dX10_would_34 : decode cX10_would 34 = .ok (.getfield 7, 3) := by decide +kernel
theorem dX10_would_37 : decode cX10_would 37 = .ok (.bipush 39, 2) := by decide +kernel
theorem dX10_would_39 : decode cX10_would 39 = .ok (.iaload, 1) := by decide +kernel
theorem dX10_would_40 : decode cX10_would 40 = .ok (.iload 4, 2) := by decide +kernel
theorem dX10_would_42 : decode cX10_would 42 = .ok (.isub, 1) := by decide +kernel
theorem dX10_would_43 : decode cX10_would 43 = .ok (.istore 5, 2) := by decide +kernel
theorem dX10_would_45 : decode cX10_would 45 = .ok (.aload_n 0, 1) := by decide +kernel
theorem dX10_would_46 : decode cX10_would 46 = .ok (.invokevirtual 110, 3) := by decide +kernel
theorem dX10_would_49 : decode cX10_would 49 = .ok (.iload 5, 2) := by decide +kernel
theorem dX10_would_51 : decode cX10_would 51 = .ok (.ireturn, 1) := by decide +kernel
theorem dX10_costAt_0 : decode cX10_costAt 0 = .ok (.aload_n 0, 1) := by decide +kernel
theorem dX10_costAt_1 : decode cX10_costAt 1 = .ok (.getfield 7, 3) := by decide +kernel
theorem dX10_costAt_4 : decode cX10_costAt 4 = .ok (.bipush 37, 2) := by decide +kernel
theorem dX10_costAt_6 : decode cX10_costAt 6 = .ok (.iload_n 1, 1) := by decide +kernel
theorem dX10_costAt_7 : decode cX10_costAt 7 = .ok (.iastore, 1) := by decide +kernel
theorem dX10_costAt_8 : decode cX10_costAt 8 = .ok (.aload_n 0, 1) := by decide +kernel
theorem dX10_costAt_9 : decode cX10_costAt 9 = .ok (.invokevirtual 59, 3) := by decide +kernel
theorem dX10_costAt_12 : decode cX10_costAt 12 = .ok (.pop, 1) := by decide +kernel
theorem dX10_costAt_13 : decode cX10_costAt 13 = .ok (.aload_n 0, 1) := by decide +kernel
theorem dX10_costAt_14 : decode cX10_costAt 14 = .ok (.iload_n 2, 1) := by decide +kernel
theorem dX10_costAt_15 : decode cX10_costAt 15 = .ok (.iload_n 3, 1) := by decide +kernel
theorem dX10_costAt_16 : decode cX10_costAt 16 = .ok (.invokevirtual 79, 3) := by decide +kernel
theorem dX10_costAt_19 : decode cX10_costAt 19 = .ok (.pop, 1) := by decide +kernel
theorem dX10_costAt_20 : decode cX10_costAt 20 = .ok (.aload_n 0, 1) := by decide +kernel
theorem dX10_costAt_21 : decode cX10_costAt 21 = .ok (.getfield 7, 3) := by decide +kernel
theorem dX10_costAt_24 : decode cX10_costAt 24 = .ok (.bipush 39, 2) := by decide +kernel
theorem dX10_costAt_26 : decode cX10_costAt 26 = .ok (.iaload, 1) := by decide +kernel
theorem dX10_costAt_27 : decode cX10_costAt 27 = .ok (.ireturn, 1) := by decide +kernel
theorem dX10_price_0 : decode cX10_price 0 = .ok (.iload_n 1, 1) := by decide +kernel
theorem dX10_price_1 : decode cX10_price 1 = .ok (.iload_n 2, 1) := by decide +kernel
theorem dX10_price_2 : decode cX10_price 2 = .ok (.invokestatic 72, 3) := by decide +kernel
theorem dX10_price_5 : decode cX10_price 5 = .ok (.ifCond .ne 6, 3) := by decide +kernel
theorem dX10_price_8 : decode cX10_price 8 = .ok (.bipush (-2), 2) := by decide +kernel
theorem dX10_price_10 : decode cX10_price 10 = .ok (.ireturn, 1) := by decide +kernel
theorem dX10_price_11 : decode cX10_price 11 = .ok (.aload_n 0, 1) := by decide +kernel
theorem dX10_price_12 : decode cX10_price 12 = .ok (.invokevirtual 107, 3) := by decide +kernel
theorem dX10_price_15 : decode cX10_price 15 = .ok (.aload_n 0, 1) := by decide +kernel
theorem dX10_price_16 : decode cX10_price 16 = .ok (.aload_n 0, 1) := by decide +kernel
theorem dX10_price_17 : decode cX10_price 17 = .ok (.getfield 7, 3) := by decide +kernel
theorem dX10_price_20 : decode cX10_price 20 = .ok (.bipush 37, 2) := by decide +kernel
theorem dX10_price_22 : decode cX10_price 22 = .ok (.iaload, 1) := by decide +kernel
theorem dX10_price_23 : decode cX10_price 23 = .ok (.iload_n 1, 1) := by decide +kernel
theorem dX10_price_24 : decode cX10_price 24 = .ok (.iload_n 2, 1) := by decide +kernel
theorem dX10_price_25 : decode cX10_price 25 = .ok (.invokevirtual 113, 3) := by decide +kernel
theorem dX10_price_28 : decode cX10_price 28 = .ok (.istore_n 3, 1) := by decide +kernel
theorem dX10_price_29 : decode cX10_price 29 = .ok (.aload_n 0, 1) := by decide +kernel
theorem dX10_price_30 : decode cX10_price 30 = .ok (.invokevirtual 110, 3) := by decide +kernel
theorem dX10_price_33 : decode cX10_price 33 = .ok (.iload_n 3, 1) := by decide +kernel
theorem dX10_price_34 : decode cX10_price 34 = .ok (.ireturn, 1) := by decide +kernel
theorem dX10_farthest_0 : decode cX10_farthest 0 = .ok (.iload_n 1, 1) := by decide +kernel
theorem dX10_farthest_1 : decode cX10_farthest 1 = .ok (.iconst 1, 1) := by decide +kernel
theorem dX10_farthest_2 : decode cX10_farthest 2 = .ok (.sipush 999, 3) := by decide +kernel
theorem dX10_farthest_5 : decode cX10_farthest 5 = .ok (.invokestatic 33, 3) := by decide +kernel
theorem dX10_farthest_8 : decode cX10_farthest 8 = .ok (.ifCond .eq 7, 3) := by decide +kernel
theorem dX10_farthest_11 : decode cX10_farthest 11 = .ok (.iload_n 2, 1) := by decide +kernel
theorem dX10_farthest_12 : decode cX10_farthest 12 = .ok (.ifCond .ge 6, 3) := by decide +kernel
theorem dX10_farthest_15 : decode cX10_farthest 15 = .ok (.bipush (-2), 2) := by decide +kernel
theorem dX10_farthest_17 : decode cX10_farthest 17 = .ok (.ireturn, 1) := by decide +kernel
theorem dX10_farthest_18 : decode cX10_farthest 18 = .ok (.aload_n 0, 1) := by decide +kernel
theorem dX10_farthest_19 : decode cX10_farthest 19 = .ok (.invokevirtual 107, 3) := by decide +kernel
theorem dX10_farthest_22 : decode cX10_farthest 22 = .ok (.aload_n 0, 1) := by decide +kernel
theorem dX10_farthest_23 : decode cX10_farthest 23 = .ok (.getfield 7, 3) := by decide +kernel
theorem dX10_farthest_26 : decode cX10_farthest 26 = .ok (.bipush 37, 2) := by decide +kernel
theorem dX10_farthest_28 : decode cX10_farthest 28 = .ok (.iaload, 1) := by decide +kernel
theorem dX10_farthest_29 : decode cX10_farthest 29 = .ok (.istore_n 3, 1) := by decide +kernel
theorem dX10_farthest_30 : decode cX10_farthest 30 = .ok (.bipush (-6), 2) := by decide +kernel
theorem dX10_farthest_32 : decode cX10_farthest 32 = .ok (.istore 4, 2) := by decide +kernel
theorem dX10_farthest_34 : decode cX10_farthest 34 = .ok (.aload_n 0, 1) := by decide +kernel
theorem dX10_farthest_35 : decode cX10_farthest 35 = .ok (.iload_n 3, 1) := by decide +kernel
theorem dX10_farthest_36 : decode cX10_farthest 36 = .ok (.iconst 0, 1) := by decide +kernel
theorem dX10_farthest_37 : decode cX10_farthest 37 = .ok (.iload_n 1, 1) := by decide +kernel
theorem dX10_farthest_38 : decode cX10_farthest 38 = .ok (.invokevirtual 113, 3) := by decide +kernel
theorem dX10_farthest_41 : decode cX10_farthest 41 = .ok (.iload_n 2, 1) := by decide +kernel
theorem dX10_farthest_42 : decode cX10_farthest 42 = .ok (.if_icmp .gt 7, 3) := by decide +kernel
theorem dX10_farthest_45 : decode cX10_farthest 45 = .ok (.iconst 1, 1) := by decide +kernel
theorem dX10_farthest_46 : decode cX10_farthest 46 = .ok (.goto 4, 3) := by decide +kernel
theorem dX10_farthest_49 : decode cX10_farthest 49 = .ok (.iconst 0, 1) := by decide +kernel
theorem dX10_farthest_50 : decode cX10_farthest 50 = .ok (.istore 5, 2) := by decide +kernel
theorem dX10_farthest_52 : decode cX10_farthest 52 = .ok (.sipush 999, 3) := by decide +kernel
theorem dX10_farthest_55 : decode cX10_farthest 55 = .ok (.istore 6, 2) := by decide +kernel
theorem dX10_farthest_57 : decode cX10_farthest 57 = .ok (.iload 6, 2) := by decide +kernel
theorem dX10_farthest_59 : decode cX10_farthest 59 = .ok (.ifCond .lt 42, 3) := by decide +kernel
theorem dX10_farthest_62 : decode cX10_farthest 62 = .ok (.iload 4, 2) := by decide +kernel
theorem dX10_farthest_64 : decode cX10_farthest 64 = .ok (.bipush (-6), 2) := by decide +kernel
theorem dX10_farthest_66 : decode cX10_farthest 66 = .ok (.if_icmp .ne 35, 3) := by decide +kernel
theorem dX10_farthest_69 : decode cX10_farthest 69 = .ok (.iload 5, 2) := by decide +kernel
theorem dX10_farthest_71 : decode cX10_farthest 71 = .ok (.ifCond .eq 30, 3) := by decide +kernel
theorem dX10_farthest_74 : decode cX10_farthest 74 = .ok (.aload_n 0, 1) := by decide +kernel
theorem dX10_farthest_75 : decode cX10_farthest 75 = .ok (.iload_n 3, 1) := by decide +kernel
theorem dX10_farthest_76 : decode cX10_farthest 76 = .ok (.iload 6, 2) := by decide +kernel
theorem dX10_farthest_78 : decode cX10_farthest 78 = .ok (.iload_n 1, 1) := by decide +kernel
theorem dX10_farthest_79 : decode cX10_farthest 79 = .ok (.invokevirtual 113, 3) := by decide +kernel
theorem dX10_farthest_82 : decode cX10_farthest 82 = .ok (.iload_n 2, 1) := by decide +kernel
theorem dX10_farthest_83 : decode cX10_farthest 83 = .ok (.if_icmp .gt 8, 3) := by decide +kernel
theorem dX10_farthest_86 : decode cX10_farthest 86 = .ok (.iload 6, 2) := by decide +kernel
theorem dX10_farthest_88 : decode cX10_farthest 88 = .ok (.goto 5, 3) := by decide +kernel
theorem dX10_farthest_91 : decode cX10_farthest 91 = .ok (.bipush (-6), 2) := by decide +kernel
theorem dX10_farthest_93 : decode cX10_farthest 93 = .ok (.istore 4, 2) := by decide +kernel
theorem dX10_farthest_95 : decode cX10_farthest 95 = .ok (.iinc 6 (-1), 3) := by decide +kernel
theorem dX10_farthest_98 : decode cX10_farthest 98 = .ok (.goto (-41), 3) := by decide +kernel
theorem dX10_farthest_101 : decode cX10_farthest 101 = .ok (.aload_n 0, 1) := by decide +kernel
theorem dX10_farthest_102 : decode cX10_farthest 102 = .ok (.invokevirtual 110, 3) := by decide +kernel
theorem dX10_farthest_105 : decode cX10_farthest 105 = .ok (.iload 4, 2) := by decide +kernel
theorem dX10_farthest_107 : decode cX10_farthest 107 = .ok (.ireturn, 1) := by decide +kernel
theorem dX10_cheapest_0 : decode cX10_cheapest 0 = .ok (.iload_n 1, 1) := by decide +kernel
theorem dX10_cheapest_1 : decode cX10_cheapest 1 = .ok (.iload_n 2, 1) := by decide +kernel
theorem dX10_cheapest_2 : decode cX10_cheapest 2 = .ok (.invokestatic 72, 3) := by decide +kernel
theorem dX10_cheapest_5 : decode cX10_cheapest 5 = .ok (.ifCond .eq 12, 3) := by decide +kernel
theorem dX10_cheapest_8 : decode cX10_cheapest 8 = .ok (.iload_n 3, 1) := by decide +kernel
theorem dX10_cheapest_9 : decode cX10_cheapest 9 = .ok (.iconst 0, 1) := by decide +kernel
theorem dX10_cheapest_10 : decode cX10_cheapest 10 = .ok (.iconst 1, 1) := by decide +kernel
theorem dX10_cheapest_11 : decode cX10_cheapest 11 = .ok (.invokestatic 33, 3) := by decide +kernel
theorem dX10_cheapest_14 : decode cX10_cheapest 14 = .ok (.ifCond .ne 6, 3) := by decide +kernel
theorem dX10_cheapest_17 : decode cX10_cheapest 17 = .ok (.bipush (-2), 2) := by decide +kernel
theorem dX10_cheapest_19 : decode cX10_cheapest 19 = .ok (.ireturn, 1) := by decide +kernel
theorem dX10_cheapest_20 : decode cX10_cheapest 20 = .ok (.aload_n 0, 1) := by decide +kernel
theorem dX10_cheapest_21 : decode cX10_cheapest 21 = .ok (.invokevirtual 107, 3) := by decide +kernel
theorem dX10_cheapest_24 : decode cX10_cheapest 24 = .ok (.iconst 0, 1) := by decide +kernel
theorem dX10_cheapest_25 : decode cX10_cheapest 25 = .ok (.istore 4, 2) := by decide +kernel
theorem dX10_cheapest_27 : decode cX10_cheapest 27 = .ok (.bipush (-6), 2) := by decide +kernel
theorem dX10_cheapest_29 : decode cX10_cheapest 29 = .ok (.istore 5, 2) := by decide +kernel
theorem dX10_cheapest_31 : decode cX10_cheapest 31 = .ok (.iconst 0, 1) := by decide +kernel
theorem dX10_cheapest_32 : decode cX10_cheapest 32 = .ok (.istore 6, 2) := by decide +kernel
theorem dX10_cheapest_34 : decode cX10_cheapest 34 = .ok (.iload 6, 2) := by decide +kernel
theorem dX10_cheapest_36 : decode cX10_cheapest 36 = .ok (.bipush 24, 2) := by decide +kernel
theorem dX10_cheapest_38 : decode cX10_cheapest 38 = .ok (.if_icmp .ge 70, 3) := by decide +kernel
theorem dX10_cheapest_41 : decode cX10_cheapest 41 = .ok (.aload_n 0, 1) := by decide +kernel
theorem dX10_cheapest_42 : decode cX10_cheapest 42 = .ok (.sipush 3600, 3) := by decide +kernel
theorem dX10_cheapest_45 : decode cX10_cheapest 45 = .ok (.iload 6, 2) := by decide +kernel
theorem dX10_cheapest_47 : decode cX10_cheapest 47 = .ok (.imul, 1) := by decide +kernel
theorem dX10_cheapest_48 : decode cX10_cheapest 48 = .ok (.iload_n 1, 1) := by decide +kernel
theorem dX10_cheapest_49 : decode cX10_cheapest 49 = .ok (.iload_n 2, 1) := by decide +kernel
theorem dX10_cheapest_50 : decode cX10_cheapest 50 = .ok (.invokevirtual 113, 3) := by decide +kernel
theorem dX10_cheapest_53 : decode cX10_cheapest 53 = .ok (.istore 7, 2) := by decide +kernel
theorem dX10_cheapest_55 : decode cX10_cheapest 55 = .ok (.iload 6, 2) := by decide +kernel
theorem dX10_cheapest_57 : decode cX10_cheapest 57 = .ok (.ifCond .eq 10, 3) := by decide +kernel
theorem dX10_cheapest_60 : decode cX10_cheapest 60 = .ok (.iload 7, 2) := by decide +kernel
theorem dX10_cheapest_62 : decode cX10_cheapest 62 = .ok (.iload 5, 2) := by decide +kernel
theorem dX10_cheapest_64 : decode cX10_cheapest 64 = .ok (.if_icmp .ge 7, 3) := by decide +kernel
theorem dX10_cheapest_67 : decode cX10_cheapest 67 = .ok (.iconst 1, 1) := by decide +kernel
theorem dX10_cheapest_68 : decode cX10_cheapest 68 = .ok (.goto 4, 3) := by decide +kernel
theorem dX10_cheapest_71 : decode cX10_cheapest 71 = .ok (.iconst 0, 1) := by decide +kernel
theorem dX10_cheapest_72 : decode cX10_cheapest 72 = .ok (.istore 8, 2) := by decide +kernel
theorem dX10_cheapest_74 : decode cX10_cheapest 74 = .ok (.iload 8, 2) := by decide +kernel
theorem dX10_cheapest_76 : decode cX10_cheapest 76 = .ok (.ifCond .eq 8, 3) := by decide +kernel
theorem dX10_cheapest_79 : decode cX10_cheapest 79 = .ok (.iload 6, 2) := by decide +kernel
theorem dX10_cheapest_81 : decode cX10_cheapest 81 = .ok (.goto 5, 3) := by decide +kernel
theorem dX10_cheapest_84 : decode cX10_cheapest 84 = .ok (.iload 4, 2) := by decide +kernel
theorem dX10_cheapest_86 : decode cX10_cheapest 86 = .ok (.istore 4, 2) := by decide +kernel
theorem dX10_cheapest_88 : decode cX10_cheapest 88 = .ok (.iload 8, 2) := by decide +kernel
theorem dX10_cheapest_90 : decode cX10_cheapest 90 = .ok (.ifCond .eq 8, 3) := by decide +kernel
theorem dX10_cheapest_93 : decode cX10_cheapest 93 = .ok (.iload 7, 2) := by decide +kernel
theorem dX10_cheapest_95 : decode cX10_cheapest 95 = .ok (.goto 5, 3) := by decide +kernel
theorem dX10_cheapest_98 : decode cX10_cheapest 98 = .ok (.iload 5, 2) := by decide +kernel
theorem dX10_cheapest_100 : decode cX10_cheapest 100 = .ok (.istore 5, 2) := by decide +kernel
theorem dX10_cheapest_102 : decode cX10_cheapest 102 = .ok (.iinc 6 1, 3) := by decide +kernel
theorem dX10_cheapest_105 : decode cX10_cheapest 105 = .ok (.goto (-71), 3) := by decide +kernel
theorem dX10_cheapest_108 : decode cX10_cheapest 108 = .ok (.aload_n 0, 1) := by decide +kernel
theorem dX10_cheapest_109 : decode cX10_cheapest 109 = .ok (.invokevirtual 110, 3) := by decide +kernel
theorem dX10_cheapest_112 : decode cX10_cheapest 112 = .ok (.iload_n 3, 1) := by decide +kernel
theorem dX10_cheapest_113 : decode cX10_cheapest 113 = .ok (.ifCond .ne 8, 3) := by decide +kernel
theorem dX10_cheapest_116 : decode cX10_cheapest 116 = .ok (.iload 4, 2) := by decide +kernel
theorem dX10_cheapest_118 : decode cX10_cheapest 118 = .ok (.goto 5, 3) := by decide +kernel
theorem dX10_cheapest_121 : decode cX10_cheapest 121 = .ok (.iload 5, 2) := by decide +kernel
theorem dX10_cheapest_123 : decode cX10_cheapest 123 = .ok (.ireturn, 1) := by decide +kernel
theorem dX10_put_0 : decode cX10_put 0 = .ok (.iconst 0, 1) := by decide +kernel
theorem dX10_put_1 : decode cX10_put 1 = .ok (.istore_n 3, 1) := by decide +kernel
theorem dX10_put_2 : decode cX10_put 2 = .ok (.lload_n 1, 1) := by decide +kernel
theorem dX10_put_3 : decode cX10_put 3 = .ok (.lstore 4, 2) := by decide +kernel
theorem dX10_put_5 : decode cX10_put 5 = .ok (.iconst 1, 1) := by decide +kernel
theorem dX10_put_6 : decode cX10_put 6 = .ok (.istore 6, 2) := by decide +kernel
theorem dX10_put_8 : decode cX10_put 8 = .ok (.lload 4, 2) := by decide +kernel
theorem dX10_put_10 : decode cX10_put 10 = .ok (.lconst 0, 1) := by decide +kernel
theorem dX10_put_11 : decode cX10_put 11 = .ok (.lcmp, 1) := by decide +kernel
theorem dX10_put_12 : decode cX10_put 12 = .ok (.ifCond .eq 37, 3) := by decide +kernel
theorem dX10_put_15 : decode cX10_put 15 = .ok (.iload 6, 2) := by decide +kernel
theorem dX10_put_17 : decode cX10_put 17 = .ok (.ifCond .eq 32, 3) := by decide +kernel
theorem dX10_put_20 : decode cX10_put 20 = .ok (.lload 4, 2) := by decide +kernel
theorem dX10_put_22 : decode cX10_put 22 = .ok (.ldc2_w 117, 3) := by decide +kernel
theorem dX10_put_25 : decode cX10_put 25 = .ok (.land, 1) := by decide +kernel
theorem dX10_put_26 : decode cX10_put 26 = .ok (.l2i, 1) := by decide +kernel
theorem dX10_put_27 : decode cX10_put 27 = .ok (.bipush 33, 2) := by decide +kernel
theorem dX10_put_29 : decode cX10_put 29 = .ok (.bipush 126, 2) := by decide +kernel
theorem dX10_put_31 : decode cX10_put 31 = .ok (.invokestatic 33, 3) := by decide +kernel
theorem dX10_put_34 : decode cX10_put 34 = .ok (.istore 6, 2) := by decide +kernel
theorem dX10_put_36 : decode cX10_put 36 = .ok (.lload 4, 2) := by decide +kernel
theorem dX10_put_38 : decode cX10_put 38 = .ok (.bipush 8, 2) := by decide +kernel
theorem dX10_put_40 : decode cX10_put 40 = .ok (.lushr, 1) := by decide +kernel
theorem dX10_put_41 : decode cX10_put 41 = .ok (.lstore 4, 2) := by decide +kernel
theorem dX10_put_43 : decode cX10_put 43 = .ok (.iinc 3 1, 3) := by decide +kernel
theorem dX10_put_46 : decode cX10_put 46 = .ok (.goto (-38), 3) := by decide +kernel
theorem dX10_put_49 : decode cX10_put 49 = .ok (.iload_n 3, 1) := by decide +kernel
theorem dX10_put_50 : decode cX10_put 50 = .ok (.ifCond .eq 8, 3) := by decide +kernel
theorem dX10_put_53 : decode cX10_put 53 = .ok (.iload 6, 2) := by decide +kernel
theorem dX10_put_55 : decode cX10_put 55 = .ok (.ifCond .ne 6, 3) := by decide +kernel
theorem dX10_put_58 : decode cX10_put 58 = .ok (.bipush (-2), 2) := by decide +kernel
theorem dX10_put_60 : decode cX10_put 60 = .ok (.ireturn, 1) := by decide +kernel
theorem dX10_put_61 : decode cX10_put 61 = .ok (.aload_n 0, 1) := by decide +kernel
theorem dX10_put_62 : decode cX10_put 62 = .ok (.getfield 104, 3) := by decide +kernel
theorem dX10_put_65 : decode cX10_put 65 = .ok (.iload_n 3, 1) := by decide +kernel
theorem dX10_put_66 : decode cX10_put 66 = .ok (.iadd, 1) := by decide +kernel
theorem dX10_put_67 : decode cX10_put 67 = .ok (.bipush 80, 2) := by decide +kernel
theorem dX10_put_69 : decode cX10_put 69 = .ok (.if_icmp .le 6, 3) := by decide +kernel
theorem dX10_put_72 : decode cX10_put 72 = .ok (.bipush (-4), 2) := by decide +kernel
theorem dX10_put_74 : decode cX10_put 74 = .ok (.ireturn, 1) := by decide +kernel
theorem dX10_put_75 : decode cX10_put 75 = .ok (.iload_n 3, 1) := by decide +kernel
theorem dX10_put_76 : decode cX10_put 76 = .ok (.iconst 1, 1) := by decide +kernel
theorem dX10_put_77 : decode cX10_put 77 = .ok (.isub, 1) := by decide +kernel
theorem dX10_put_78 : decode cX10_put 78 = .ok (.istore 7, 2) := by decide +kernel
theorem dX10_put_80 : decode cX10_put 80 = .ok (.iload 7, 2) := by decide +kernel
theorem dX10_put_82 : decode cX10_put 82 = .ok (.ifCond .lt 41, 3) := by decide +kernel
theorem dX10_put_85 : decode cX10_put 85 = .ok (.aload_n 0, 1) := by decide +kernel
theorem dX10_put_86 : decode cX10_put 86 = .ok (.getfield 26, 3) := by decide +kernel
theorem dX10_put_89 : decode cX10_put 89 = .ok (.aload_n 0, 1) := by decide +kernel
theorem dX10_put_90 : decode cX10_put 90 = .ok (.getfield 104, 3) := by decide +kernel
theorem dX10_put_93 : decode cX10_put 93 = .ok (.lload_n 1, 1) := by decide +kernel
theorem dX10_put_94 : decode cX10_put 94 = .ok (.bipush 8, 2) := by decide +kernel
theorem dX10_put_96 : decode cX10_put 96 = .ok (.iload 7, 2) := by decide +kernel
theorem dX10_put_98 : decode cX10_put 98 = .ok (.imul, 1) := by decide +kernel
theorem dX10_put_99 : decode cX10_put 99 = .ok (.lushr, 1) := by decide +kernel
theorem dX10_put_100 : decode cX10_put 100 = .ok (.ldc2_w 117, 3) := by decide +kernel
theorem dX10_put_103 : decode cX10_put 103 = .ok (.land, 1) := by decide +kernel
theorem dX10_put_104 : decode cX10_put 104 = .ok (.l2i, 1) := by decide +kernel
theorem dX10_put_105 : decode cX10_put 105 = .ok (.i2c, 1) := by decide +kernel
theorem dX10_put_106 : decode cX10_put 106 = .ok (.castore, 1) := by decide +kernel
theorem dX10_put_107 : decode cX10_put 107 = .ok (.aload_n 0, 1) := by decide +kernel
theorem dX10_put_108 : decode cX10_put 108 = .ok (.dup, 1) := by decide +kernel
theorem dX10_put_109 : decode cX10_put 109 = .ok (.getfield 104, 3) := by decide +kernel
theorem dX10_put_112 : decode cX10_put 112 = .ok (.iconst 1, 1) := by decide +kernel
theorem dX10_put_113 : decode cX10_put 113 = .ok (.iadd, 1) := by decide +kernel
theorem dX10_put_114 : decode cX10_put 114 = .ok (.putfield 104, 3) := by decide +kernel
theorem dX10_put_117 : decode cX10_put 117 = .ok (.iinc 7 (-1), 3) := by decide +kernel
theorem dX10_put_120 : decode cX10_put 120 = .ok (.goto (-40), 3) := by decide +kernel
theorem dX10_put_123 : decode cX10_put 123 = .ok (.aload_n 0, 1) := by decide +kernel
theorem dX10_put_124 : decode cX10_put 124 = .ok (.getfield 104, 3) := by decide +kernel
theorem dX10_put_127 : decode cX10_put 127 = .ok (.ireturn, 1) := by decide +kernel
theorem dX10_wipe_0 : decode cX10_wipe 0 = .ok (.aload_n 0, 1) := by decide +kernel
theorem dX10_wipe_1 : decode cX10_wipe 1 = .ok (.getfield 104, 3) := by decide +kernel
theorem dX10_wipe_4 : decode cX10_wipe 4 = .ok (.istore_n 1, 1) := by decide +kernel
theorem dX10_wipe_5 : decode cX10_wipe 5 = .ok (.aload_n 0, 1) := by decide +kernel
theorem dX10_wipe_6 : decode cX10_wipe 6 = .ok (.iconst 0, 1) := by decide +kernel
theorem dX10_wipe_7 : decode cX10_wipe 7 = .ok (.putfield 104, 3) := by decide +kernel
theorem dX10_wipe_10 : decode cX10_wipe 10 = .ok (.iload_n 1, 1) := by decide +kernel
theorem dX10_wipe_11 : decode cX10_wipe 11 = .ok (.ireturn, 1) := by decide +kernel
theorem dX10_letter_0 : decode cX10_letter 0 = .ok (.aload_n 0, 1) := by decide +kernel
theorem dX10_letter_1 : decode cX10_letter 1 = .ok (.getfield 119, 3) := by decide +kernel
theorem dX10_letter_4 : decode cX10_letter 4 = .ok (.aload_n 0, 1) := by decide +kernel
theorem dX10_letter_5 : decode cX10_letter 5 = .ok (.getfield 104, 3) := by decide +kernel
theorem dX10_letter_8 : decode cX10_letter 8 = .ok (.if_icmp .ge 15, 3) := by decide +kernel
theorem dX10_letter_11 : decode cX10_letter 11 = .ok (.aload_n 0, 1) := by decide +kernel
theorem dX10_letter_12 : decode cX10_letter 12 = .ok (.getfield 26, 3) := by decide +kernel
theorem dX10_letter_15 : decode cX10_letter 15 = .ok (.aload_n 0, 1) := by decide +kernel
theorem dX10_letter_16 : decode cX10_letter 16 = .ok (.getfield 119, 3) := by decide +kernel
theorem dX10_letter_19 : decode cX10_letter 19 = .ok (.caload, 1) := by decide +kernel
theorem dX10_letter_20 : decode cX10_letter 20 = .ok (.goto 5, 3) := by decide +kernel
theorem dX10_letter_23 : decode cX10_letter 23 = .ok (.bipush (-6), 2) := by decide +kernel
theorem dX10_letter_25 : decode cX10_letter 25 = .ok (.ireturn, 1) := by decide +kernel
theorem dX10_wants_0 : decode cX10_wants 0 = .ok (.aload_n 0, 1) := by decide +kernel
theorem dX10_wants_1 : decode cX10_wants 1 = .ok (.getfield 122, 3) := by decide +kernel
theorem dX10_wants_4 : decode cX10_wants 4 = .ok (.bipush (-6), 2) := by decide +kernel
theorem dX10_wants_6 : decode cX10_wants 6 = .ok (.if_icmp .ne 30, 3) := by decide +kernel
theorem dX10_wants_9 : decode cX10_wants 9 = .ok (.aload_n 0, 1) := by decide +kernel
theorem dX10_wants_10 : decode cX10_wants 10 = .ok (.iload_n 1, 1) := by decide +kernel
theorem dX10_wants_11 : decode cX10_wants 11 = .ok (.ifCond .eq 8, 3) := by decide +kernel
theorem dX10_wants_14 : decode cX10_wants 14 = .ok (.bipush (-6), 2) := by decide +kernel
theorem dX10_wants_16 : decode cX10_wants 16 = .ok (.goto 7, 3) := by decide +kernel
theorem dX10_wants_19 : decode cX10_wants 19 = .ok (.aload_n 0, 1) := by decide +kernel
theorem dX10_wants_20 : decode cX10_wants 20 = .ok (.getfield 119, 3) := by decide +kernel
theorem dX10_wants_23 : decode cX10_wants 23 = .ok (.putfield 122, 3) := by decide +kernel
theorem dX10_wants_26 : decode cX10_wants 26 = .ok (.aload_n 0, 1) := by decide +kernel
theorem dX10_wants_27 : decode cX10_wants 27 = .ok (.dup, 1) := by decide +kernel
theorem dX10_wants_28 : decode cX10_wants 28 = .ok (.getfield 119, 3) := by decide +kernel
theorem dX10_wants_31 : decode cX10_wants 31 = .ok (.iconst 1, 1) := by decide +kernel
theorem dX10_wants_32 : decode cX10_wants 32 = .ok (.iadd, 1) := by decide +kernel
theorem dX10_wants_33 : decode cX10_wants 33 = .ok (.putfield 119, 3) := by decide +kernel
theorem dX10_wants_36 : decode cX10_wants 36 = .ok (.return_, 1) := by decide +kernel
theorem dX10_number_0 : decode cX10_number 0 = .ok (.aload_n 0, 1) := by decide +kernel
theorem dX10_number_1 : decode cX10_number 1 = .ok (.invokevirtual 125, 3) := by decide +kernel
theorem dX10_number_4 : decode cX10_number 4 = .ok (.bipush 48, 2) := by decide +kernel
theorem dX10_number_6 : decode cX10_number 6 = .ok (.isub, 1) := by decide +kernel
theorem dX10_number_7 : decode cX10_number 7 = .ok (.istore_n 1, 1) := by decide +kernel
theorem dX10_number_8 : decode cX10_number 8 = .ok (.aload_n 0, 1) := by decide +kernel
theorem dX10_number_9 : decode cX10_number 9 = .ok (.iload_n 1, 1) := by decide +kernel
theorem dX10_number_10 : decode cX10_number 10 = .ok (.iconst 0, 1) := by decide +kernel
theorem dX10_number_11 : decode cX10_number 11 = .ok (.bipush 9, 2) := by decide +kernel
theorem dX10_number_13 : decode cX10_number 13 = .ok (.invokestatic 33, 3) := by decide +kernel
theorem dX10_number_16 : decode cX10_number 16 = .ok (.invokevirtual 128, 3) := by decide +kernel
theorem dX10_number_19 : decode cX10_number 19 = .ok (.aload_n 0, 1) := by decide +kernel
theorem dX10_number_20 : decode cX10_number 20 = .ok (.invokevirtual 125, 3) := by decide +kernel
theorem dX10_number_23 : decode cX10_number 23 = .ok (.bipush 48, 2) := by decide +kernel
theorem dX10_number_25 : decode cX10_number 25 = .ok (.isub, 1) := by decide +kernel
theorem dX10_number_26 : decode cX10_number 26 = .ok (.istore_n 2, 1) := by decide +kernel
theorem dX10_number_27 : decode cX10_number 27 = .ok (.aload_n 0, 1) := by decide +kernel
theorem dX10_number_28 : decode cX10_number 28 = .ok (.getfield 122, 3) := by decide +kernel
theorem dX10_number_31 : decode cX10_number 31 = .ok (.bipush (-6), 2) := by decide +kernel
theorem dX10_number_33 : decode cX10_number 33 = .ok (.if_icmp .ne 57, 3) := by decide +kernel
theorem dX10_number_36 : decode cX10_number 36 = .ok (.iload_n 1, 1) := by decide +kernel
theorem dX10_number_37 : decode cX10_number 37 = .ok (.ifCond .le 53, 3) := by decide +kernel
theorem dX10_number_40 : decode cX10_number 40 = .ok (.iload_n 2, 1) := by decide +kernel
theorem dX10_number_41 : decode cX10_number 41 = .ok (.iconst 0, 1) := by decide +kernel
theorem dX10_number_42 : decode cX10_number 42 = .ok (.bipush 9, 2) := by decide +kernel
theorem dX10_number_44 : decode cX10_number 44 = .ok (.invokestatic 33, 3) := by decide +kernel
theorem dX10_number_47 : decode cX10_number 47 = .ok (.ifCond .eq 43, 3) := by decide +kernel
theorem dX10_number_50 : decode cX10_number 50 = .ok (.bipush 10, 2) := by decide +kernel
theorem dX10_number_52 : decode cX10_number 52 = .ok (.iload_n 1, 1) := by decide +kernel
theorem dX10_number_53 : decode cX10_number 53 = .ok (.imul, 1) := by decide +kernel
theorem dX10_number_54 : decode cX10_number 54 = .ok (.iload_n 2, 1) := by decide +kernel
theorem dX10_number_55 : decode cX10_number 55 = .ok (.iadd, 1) := by decide +kernel
theorem dX10_number_56 : decode cX10_number 56 = .ok (.sipush 9999, 3) := by decide +kernel
theorem dX10_number_59 : decode cX10_number 59 = .ok (.if_icmp .gt 31, 3) := by decide +kernel
theorem dX10_number_62 : decode cX10_number 62 = .ok (.bipush 10, 2) := by decide +kernel
theorem dX10_number_64 : decode cX10_number 64 = .ok (.iload_n 1, 1) := by decide +kernel
theorem dX10_number_65 : decode cX10_number 65 = .ok (.imul, 1) := by decide +kernel
theorem dX10_number_66 : decode cX10_number 66 = .ok (.iload_n 2, 1) := by decide +kernel
theorem dX10_number_67 : decode cX10_number 67 = .ok (.iadd, 1) := by decide +kernel
theorem dX10_number_68 : decode cX10_number 68 = .ok (.istore_n 1, 1) := by decide +kernel
theorem dX10_number_69 : decode cX10_number 69 = .ok (.aload_n 0, 1) := by decide +kernel
theorem dX10_number_70 : decode cX10_number 70 = .ok (.dup, 1) := by decide +kernel
theorem dX10_number_71 : decode cX10_number 71 = .ok (.getfield 119, 3) := by decide +kernel
theorem dX10_number_74 : decode cX10_number 74 = .ok (.iconst 1, 1) := by decide +kernel
theorem dX10_number_75 : decode cX10_number 75 = .ok (.iadd, 1) := by decide +kernel
theorem dX10_number_76 : decode cX10_number 76 = .ok (.putfield 119, 3) := by decide +kernel
theorem dX10_number_79 : decode cX10_number 79 = .ok (.aload_n 0, 1) := by decide +kernel
theorem dX10_number_80 : decode cX10_number 80 = .ok (.invokevirtual 125, 3) := by decide +kernel
theorem dX10_number_83 : decode cX10_number 83 = .ok (.bipush 48, 2) := by decide +kernel
theorem dX10_number_85 : decode cX10_number 85 = .ok (.isub, 1) := by decide +kernel
theorem dX10_number_86 : decode cX10_number 86 = .ok (.istore_n 2, 1) := by decide +kernel
theorem dX10_number_87 : decode cX10_number 87 = .ok (.goto (-60), 3) := by decide +kernel
theorem dX10_number_90 : decode cX10_number 90 = .ok (.iload_n 1, 1) := by decide +kernel
theorem dX10_number_91 : decode cX10_number 91 = .ok (.ireturn, 1) := by decide +kernel
theorem dX10_readOrder_0 : decode cX10_readOrder 0 = .ok (.iconst 3, 1) := by decide +kernel
theorem dX10_readOrder_1 : decode cX10_readOrder 1 = .ok (.aload_n 0, 1) := by decide +kernel
theorem dX10_readOrder_2 : decode cX10_readOrder 2 = .ok (.getfield 132, 3) := by decide +kernel
theorem dX10_readOrder_5 : decode cX10_readOrder 5 = .ok (.imul, 1) := by decide +kernel
theorem dX10_readOrder_6 : decode cX10_readOrder 6 = .ok (.istore_n 1, 1) := by decide +kernel
theorem dX10_readOrder_7 : decode cX10_readOrder 7 = .ok (.aload_n 0, 1) := by decide +kernel
theorem dX10_readOrder_8 : decode cX10_readOrder 8 = .ok (.invokevirtual 125, 3) := by decide +kernel
theorem dX10_readOrder_11 : decode cX10_readOrder 11 = .ok (.istore_n 2, 1) := by decide +kernel
theorem dX10_readOrder_12 : decode cX10_readOrder 12 = .ok (.aload_n 0, 1) := by decide +kernel
theorem dX10_readOrder_13 : decode cX10_readOrder 13 = .ok (.getfield 30, 3) := by decide +kernel
theorem dX10_readOrder_16 : decode cX10_readOrder 16 = .ok (.iload_n 1, 1) := by decide +kernel
theorem dX10_readOrder_17 : decode cX10_readOrder 17 = .ok (.iload_n 2, 1) := by decide +kernel
theorem dX10_readOrder_18 : decode cX10_readOrder 18 = .ok (.iastore, 1) := by decide +kernel
theorem dX10_readOrder_19 : decode cX10_readOrder 19 = .ok (.aload_n 0, 1) := by decide +kernel
theorem dX10_readOrder_20 : decode cX10_readOrder 20 = .ok (.iload_n 2, 1) := by decide +kernel
theorem dX10_readOrder_21 : decode cX10_readOrder 21 = .ok (.bipush 104, 2) := by decide +kernel
theorem dX10_readOrder_23 : decode cX10_readOrder 23 = .ok (.if_icmp .eq 33, 3) := by decide +kernel
theorem dX10_readOrder_26 : decode cX10_readOrder 26 = .ok (.iload_n 2, 1) := by decide +kernel
theorem dX10_readOrder_27 : decode cX10_readOrder 27 = .ok (.bipush 100, 2) := by decide +kernel
theorem dX10_readOrder_29 : decode cX10_readOrder 29 = .ok (.if_icmp .eq 27, 3) := by decide +kernel
theorem dX10_readOrder_32 : decode cX10_readOrder 32 = .ok (.iload_n 2, 1) := by decide +kernel
theorem dX10_readOrder_33 : decode cX10_readOrder 33 = .ok (.bipush 119, 2) := by decide +kernel
theorem dX10_readOrder_35 : decode cX10_readOrder 35 = .ok (.if_icmp .eq 21, 3) := by decide +kernel
theorem dX10_readOrder_38 : decode cX10_readOrder 38 = .ok (.iload_n 2, 1) := by decide +kernel
theorem dX10_readOrder_39 : decode cX10_readOrder 39 = .ok (.bipush 115, 2) := by decide +kernel
theorem dX10_readOrder_41 : decode cX10_readOrder 41 = .ok (.if_icmp .eq 15, 3) := by decide +kernel
theorem dX10_readOrder_44 : decode cX10_readOrder 44 = .ok (.iload_n 2, 1) := by decide +kernel
theorem dX10_readOrder_45 : decode cX10_readOrder 45 = .ok (.bipush 120, 2) := by decide +kernel
theorem dX10_readOrder_47 : decode cX10_readOrder 47 = .ok (.if_icmp .eq 9, 3) := by decide +kernel
theorem dX10_readOrder_50 : decode cX10_readOrder 50 = .ok (.iload_n 2, 1) := by decide +kernel
theorem dX10_readOrder_51 : decode cX10_readOrder 51 = .ok (.bipush 101, 2) := by decide +kernel
theorem dX10_readOrder_53 : decode cX10_readOrder 53 = .ok (.if_icmp .ne 7, 3) := by decide +kernel
theorem dX10_readOrder_56 : decode cX10_readOrder 56 = .ok (.iconst 1, 1) := by decide +kernel
theorem dX10_readOrder_57 : decode cX10_readOrder 57 = .ok (.goto 4, 3) := by decide +kernel
theorem dX10_readOrder_60 : decode cX10_readOrder 60 = .ok (.iconst 0, 1) := by decide +kernel
theorem dX10_readOrder_61 : decode cX10_readOrder 61 = .ok (.invokevirtual 128, 3) := by decide +kernel
theorem dX10_readOrder_64 : decode cX10_readOrder 64 = .ok (.iload_n 2, 1) := by decide +kernel
theorem dX10_readOrder_65 : decode cX10_readOrder 65 = .ok (.bipush 100, 2) := by decide +kernel
theorem dX10_readOrder_67 : decode cX10_readOrder 67 = .ok (.if_icmp .eq 9, 3) := by decide +kernel
theorem dX10_readOrder_70 : decode cX10_readOrder 70 = .ok (.iload_n 2, 1) := by decide +kernel
theorem dX10_readOrder_71 : decode cX10_readOrder 71 = .ok (.bipush 119, 2) := by decide +kernel
theorem dX10_readOrder_73 : decode cX10_readOrder 73 = .ok (.if_icmp .ne 15, 3) := by decide +kernel
theorem dX10_readOrder_76 : decode cX10_readOrder 76 = .ok (.aload_n 0, 1) := by decide +kernel
theorem dX10_readOrder_77 : decode cX10_readOrder 77 = .ok (.getfield 30, 3) := by decide +kernel
theorem dX10_readOrder_80 : decode cX10_readOrder 80 = .ok (.iload_n 1, 1) := by decide +kernel
theorem dX10_readOrder_81 : decode cX10_readOrder 81 = .ok (.iconst 1, 1) := by decide +kernel
theorem dX10_readOrder_82 : decode cX10_readOrder 82 = .ok (.iadd, 1) := by decide +kernel
theorem dX10_readOrder_83 : decode cX10_readOrder 83 = .ok (.aload_n 0, 1) := by decide +kernel
theorem dX10_readOrder_84 : decode cX10_readOrder 84 = .ok (.invokevirtual 135, 3) := by decide +kernel
theorem dX10_readOrder_87 : decode cX10_readOrder 87 = .ok (.iastore, 1) := by decide +kernel
theorem dX10_readOrder_88 : decode cX10_readOrder 88 = .ok (.iload_n 2, 1) := by decide +kernel
theorem dX10_readOrder_89 : decode cX10_readOrder 89 = .ok (.bipush 100, 2) := by decide +kernel
theorem dX10_readOrder_91 : decode cX10_readOrder 91 = .ok (.if_icmp .ne 33, 3) := by decide +kernel
theorem dX10_readOrder_94 : decode cX10_readOrder 94 = .ok (.aload_n 0, 1) := by decide +kernel
theorem dX10_readOrder_95 : decode cX10_readOrder 95 = .ok (.aload_n 0, 1) := by decide +kernel
theorem dX10_readOrder_96 : decode cX10_readOrder 96 = .ok (.invokevirtual 125, 3) := by decide +kernel
theorem dX10_readOrder_99 : decode cX10_readOrder 99 = .ok (.bipush 47, 2) := by decide +kernel
theorem dX10_readOrder_101 : decode cX10_readOrder 101 = .ok (.if_icmp .ne 7, 3) := by decide +kernel
theorem dX10_readOrder_104 : decode cX10_readOrder 104 = .ok (.iconst 1, 1) := by decide +kernel
theorem dX10_readOrder_105 : decode cX10_readOrder 105 = .ok (.goto 4, 3) := by decide +kernel
theorem dX10_readOrder_108 : decode cX10_readOrder 108 = .ok (.iconst 0, 1) := by decide +kernel
theorem dX10_readOrder_109 : decode cX10_readOrder 109 = .ok (.invokevirtual 128, 3) := by decide +kernel
theorem dX10_readOrder_112 : decode cX10_readOrder 112 = .ok (.aload_n 0, 1) := by decide +kernel
theorem dX10_readOrder_113 : decode cX10_readOrder 113 = .ok (.getfield 30, 3) := by decide +kernel
theorem dX10_readOrder_116 : decode cX10_readOrder 116 = .ok (.iload_n 1, 1) := by decide +kernel
theorem dX10_readOrder_117 : decode cX10_readOrder 117 = .ok (.iconst 2, 1) := by decide +kernel
theorem dX10_readOrder_118 : decode cX10_readOrder 118 = .ok (.iadd, 1) := by decide +kernel
theorem dX10_readOrder_119 : decode cX10_readOrder 119 = .ok (.aload_n 0, 1) := by decide +kernel
theorem dX10_readOrder_120 : decode cX10_readOrder 120 = .ok (.invokevirtual 135, 3) := by decide +kernel
theorem dX10_readOrder_123 : decode cX10_readOrder 123 = .ok (.iastore, 1) := by decide +kernel
theorem dX10_readOrder_124 : decode cX10_readOrder 124 = .ok (.aload_n 0, 1) := by decide +kernel
theorem dX10_readOrder_125 : decode cX10_readOrder 125 = .ok (.dup, 1) := by decide +kernel
theorem dX10_readOrder_126 : decode cX10_readOrder 126 = .ok (.getfield 132, 3) := by decide +kernel
theorem dX10_readOrder_129 : decode cX10_readOrder 129 = .ok (.iconst 1, 1) := by decide +kernel
theorem dX10_readOrder_130 : decode cX10_readOrder 130 = .ok (.iadd, 1) := by decide +kernel
theorem dX10_readOrder_131 : decode cX10_readOrder 131 = .ok (.putfield 132, 3) := by decide +kernel
theorem dX10_readOrder_134 : decode cX10_readOrder 134 = .ok (.return_, 1) := by decide +kernel
theorem dX10_readPad_0 : decode cX10_readPad 0 = .ok (.aload_n 0, 1) := by decide +kernel
theorem dX10_readPad_1 : decode cX10_readPad 1 = .ok (.iconst 0, 1) := by decide +kernel
theorem dX10_readPad_2 : decode cX10_readPad 2 = .ok (.putfield 132, 3) := by decide +kernel
theorem dX10_readPad_5 : decode cX10_readPad 5 = .ok (.aload_n 0, 1) := by decide +kernel
theorem dX10_readPad_6 : decode cX10_readPad 6 = .ok (.iconst 0, 1) := by decide +kernel
theorem dX10_readPad_7 : decode cX10_readPad 7 = .ok (.putfield 119, 3) := by decide +kernel
theorem dX10_readPad_10 : decode cX10_readPad 10 = .ok (.aload_n 0, 1) := by decide +kernel
theorem dX10_readPad_11 : decode cX10_readPad 11 = .ok (.bipush (-6), 2) := by decide +kernel
theorem dX10_readPad_13 : decode cX10_readPad 13 = .ok (.putfield 122, 3) := by decide +kernel
theorem dX10_readPad_16 : decode cX10_readPad 16 = .ok (.iconst 1, 1) := by decide +kernel
theorem dX10_readPad_17 : decode cX10_readPad 17 = .ok (.istore_n 1, 1) := by decide +kernel
theorem dX10_readPad_18 : decode cX10_readPad 18 = .ok (.iload_n 1, 1) := by decide +kernel
theorem dX10_readPad_19 : decode cX10_readPad 19 = .ok (.ifCond .eq 73, 3) := by decide +kernel
theorem dX10_readPad_22 : decode cX10_readPad 22 = .ok (.aload_n 0, 1) := by decide +kernel
theorem dX10_readPad_23 : decode cX10_readPad 23 = .ok (.invokevirtual 138, 3) := by decide +kernel
theorem dX10_readPad_26 : decode cX10_readPad 26 = .ok (.aload_n 0, 1) := by decide +kernel
theorem dX10_readPad_27 : decode cX10_readPad 27 = .ok (.getfield 122, 3) := by decide +kernel
theorem dX10_readPad_30 : decode cX10_readPad 30 = .ok (.bipush (-6), 2) := by decide +kernel
theorem dX10_readPad_32 : decode cX10_readPad 32 = .ok (.if_icmp .ne 18, 3) := by decide +kernel
theorem dX10_readPad_35 : decode cX10_readPad 35 = .ok (.aload_n 0, 1) := by decide +kernel
theorem dX10_readPad_36 : decode cX10_readPad 36 = .ok (.getfield 119, 3) := by decide +kernel
theorem dX10_readPad_39 : decode cX10_readPad 39 = .ok (.aload_n 0, 1) := by decide +kernel
theorem dX10_readPad_40 : decode cX10_readPad 40 = .ok (.getfield 104, 3) := by decide +kernel
theorem dX10_readPad_43 : decode cX10_readPad 43 = .ok (.if_icmp .ge 7, 3) := by decide +kernel
theorem dX10_readPad_46 : decode cX10_readPad 46 = .ok (.iconst 1, 1) := by decide +kernel
theorem dX10_readPad_47 : decode cX10_readPad 47 = .ok (.goto 4, 3) := by decide +kernel
theorem dX10_readPad_50 : decode cX10_readPad 50 = .ok (.iconst 0, 1) := by decide +kernel
theorem dX10_readPad_51 : decode cX10_readPad 51 = .ok (.istore_n 1, 1) := by decide +kernel
theorem dX10_readPad_52 : decode cX10_readPad 52 = .ok (.iload_n 1, 1) := by decide +kernel
theorem dX10_readPad_53 : decode cX10_readPad 53 = .ok (.ifCond .eq (-35), 3) := by decide +kernel
theorem dX10_readPad_56 : decode cX10_readPad 56 = .ok (.aload_n 0, 1) := by decide +kernel
theorem dX10_readPad_57 : decode cX10_readPad 57 = .ok (.aload_n 0, 1) := by decide +kernel
theorem dX10_readPad_58 : decode cX10_readPad 58 = .ok (.invokevirtual 125, 3) := by decide +kernel
theorem dX10_readPad_61 : decode cX10_readPad 61 = .ok (.bipush 59, 2) := by decide +kernel
theorem dX10_readPad_63 : decode cX10_readPad 63 = .ok (.if_icmp .ne 7, 3) := by decide +kernel
theorem dX10_readPad_66 : decode cX10_readPad 66 = .ok (.iconst 1, 1) := by decide +kernel
theorem dX10_readPad_67 : decode cX10_readPad 67 = .ok (.goto 4, 3) := by decide +kernel
theorem dX10_readPad_70 : decode cX10_readPad 70 = .ok (.iconst 0, 1) := by decide +kernel
theorem dX10_readPad_71 : decode cX10_readPad 71 = .ok (.invokevirtual 128, 3) := by decide +kernel
theorem dX10_readPad_74 : decode cX10_readPad 74 = .ok (.aload_n 0, 1) := by decide +kernel
theorem dX10_readPad_75 : decode cX10_readPad 75 = .ok (.getfield 122, 3) := by decide +kernel
theorem dX10_readPad_78 : decode cX10_readPad 78 = .ok (.bipush (-6), 2) := by decide +kernel
theorem dX10_readPad_80 : decode cX10_readPad 80 = .ok (.if_icmp .ne 7, 3) := by decide +kernel
theorem dX10_readPad_83 : decode cX10_readPad 83 = .ok (.iconst 1, 1) := by decide +kernel
theorem dX10_readPad_84 : decode cX10_readPad 84 = .ok (.goto 4, 3) := by decide +kernel
theorem dX10_readPad_87 : decode cX10_readPad 87 = .ok (.iconst 0, 1) := by decide +kernel
theorem dX10_readPad_88 : decode cX10_readPad 88 = .ok (.istore_n 1, 1) := by decide +kernel
theorem dX10_readPad_89 : decode cX10_readPad 89 = .ok (.goto (-71), 3) := by decide +kernel
theorem dX10_readPad_92 : decode cX10_readPad 92 = .ok (.aload_n 0, 1) := by decide +kernel
theorem dX10_readPad_93 : decode cX10_readPad 93 = .ok (.getfield 122, 3) := by decide +kernel
theorem dX10_readPad_96 : decode cX10_readPad 96 = .ok (.ireturn, 1) := by decide +kernel
theorem dX10_fault_0 : decode cX10_fault 0 = .ok (.aload_n 0, 1) := by decide +kernel
theorem dX10_fault_1 : decode cX10_fault 1 = .ok (.invokevirtual 141, 3) := by decide +kernel
theorem dX10_fault_4 : decode cX10_fault 4 = .ok (.ireturn, 1) := by decide +kernel
theorem dX10_whyNot_0 : decode cX10_whyNot 0 = .ok (.iload_n 1, 1) := by decide +kernel
theorem dX10_whyNot_1 : decode cX10_whyNot 1 = .ok (.lookupswitch 78 #[(100, 60), (104, 43), (119, 67), (120, 73)], 43) := by decide +kernel
theorem dX10_whyNot_44 : decode cX10_whyNot 44 = .ok (.aload_n 0, 1) := by decide +kernel
theorem dX10_whyNot_45 : decode cX10_whyNot 45 = .ok (.getfield 7, 3) := by decide +kernel
theorem dX10_whyNot_48 : decode cX10_whyNot 48 = .ok (.bipush 38, 2) := by decide +kernel
theorem dX10_whyNot_50 : decode cX10_whyNot 50 = .ok (.iaload, 1) := by decide +kernel
theorem dX10_whyNot_51 : decode cX10_whyNot 51 = .ok (.ifCond .ne 7, 3) := by decide +kernel
theorem dX10_whyNot_54 : decode cX10_whyNot 54 = .ok (.iconst 0, 1) := by decide +kernel
theorem dX10_whyNot_55 : decode cX10_whyNot 55 = .ok (.goto 5, 3) := by decide +kernel
theorem dX10_whyNot_58 : decode cX10_whyNot 58 = .ok (.bipush (-5), 2) := by decide +kernel
theorem dX10_whyNot_60 : decode cX10_whyNot 60 = .ok (.ireturn, 1) := by decide +kernel
theorem dX10_whyNot_61 : decode cX10_whyNot 61 = .ok (.aload_n 0, 1) := by decide +kernel
theorem dX10_whyNot_62 : decode cX10_whyNot 62 = .ok (.iload_n 2, 1) := by decide +kernel
theorem dX10_whyNot_63 : decode cX10_whyNot 63 = .ok (.iload_n 3, 1) := by decide +kernel
theorem dX10_whyNot_64 : decode cX10_whyNot 64 = .ok (.invokevirtual 76, 3) := by decide +kernel
theorem dX10_whyNot_67 : decode cX10_whyNot 67 = .ok (.ireturn, 1) := by decide +kernel
theorem dX10_whyNot_68 : decode cX10_whyNot 68 = .ok (.aload_n 0, 1) := by decide +kernel
theorem dX10_whyNot_69 : decode cX10_whyNot 69 = .ok (.iload_n 2, 1) := by decide +kernel
theorem dX10_whyNot_70 : decode cX10_whyNot 70 = .ok (.invokevirtual 82, 3) := by decide +kernel
theorem dX10_whyNot_73 : decode cX10_whyNot 73 = .ok (.ireturn, 1) := by decide +kernel
theorem dX10_whyNot_74 : decode cX10_whyNot 74 = .ok (.aload_n 0, 1) := by decide +kernel
theorem dX10_whyNot_75 : decode cX10_whyNot 75 = .ok (.invokevirtual 91, 3) := by decide +kernel
theorem dX10_whyNot_78 : decode cX10_whyNot 78 = .ok (.ireturn, 1) := by decide +kernel
theorem dX10_whyNot_79 : decode cX10_whyNot 79 = .ok (.aload_n 0, 1) := by decide +kernel
theorem dX10_whyNot_80 : decode cX10_whyNot 80 = .ok (.getfield 7, 3) := by decide +kernel
theorem dX10_whyNot_83 : decode cX10_whyNot 83 = .ok (.bipush 38, 2) := by decide +kernel
theorem dX10_whyNot_85 : decode cX10_whyNot 85 = .ok (.iaload, 1) := by decide +kernel
theorem dX10_whyNot_86 : decode cX10_whyNot 86 = .ok (.ifCond .ne 8, 3) := by decide +kernel
theorem dX10_whyNot_89 : decode cX10_whyNot 89 = .ok (.bipush (-5), 2) := by decide +kernel
theorem dX10_whyNot_91 : decode cX10_whyNot 91 = .ok (.goto 4, 3) := by decide +kernel
theorem dX10_whyNot_94 : decode cX10_whyNot 94 = .ok (.iconst 0, 1) := by decide +kernel
theorem dX10_whyNot_95 : decode cX10_whyNot 95 = .ok (.ireturn, 1) := by decide +kernel
theorem dX10_does_0 : decode cX10_does 0 = .ok (.aload_n 0, 1) := by decide +kernel
theorem dX10_does_1 : decode cX10_does 1 = .ok (.getfield 30, 3) := by decide +kernel
theorem dX10_does_4 : decode cX10_does 4 = .ok (.iconst 3, 1) := by decide +kernel
theorem dX10_does_5 : decode cX10_does 5 = .ok (.iload_n 1, 1) := by decide +kernel
theorem dX10_does_6 : decode cX10_does 6 = .ok (.imul, 1) := by decide +kernel
theorem dX10_does_7 : decode cX10_does 7 = .ok (.iconst 1, 1) := by decide +kernel
theorem dX10_does_8 : decode cX10_does 8 = .ok (.iadd, 1) := by decide +kernel
theorem dX10_does_9 : decode cX10_does 9 = .ok (.iaload, 1) := by decide +kernel
theorem dX10_does_10 : decode cX10_does 10 = .ok (.istore_n 2, 1) := by decide +kernel
theorem dX10_does_11 : decode cX10_does 11 = .ok (.aload_n 0, 1) := by decide +kernel
theorem dX10_does_12 : decode cX10_does 12 = .ok (.getfield 30, 3) := by decide +kernel
theorem dX10_does_15 : decode cX10_does 15 = .ok (.iconst 3, 1) := by decide +kernel
theorem dX10_does_16 : decode cX10_does 16 = .ok (.iload_n 1, 1) := by decide +kernel
theorem dX10_does_17 : decode cX10_does 17 = .ok (.imul, 1) := by decide +kernel
theorem dX10_does_18 : decode cX10_does 18 = .ok (.iconst 2, 1) := by decide +kernel
theorem dX10_does_19 : decode cX10_does 19 = .ok (.iadd, 1) := by decide +kernel
theorem dX10_does_20 : decode cX10_does 20 = .ok (.iaload, 1) := by decide +kernel
theorem dX10_does_21 : decode cX10_does 21 = .ok (.istore_n 3, 1) := by decide +kernel
theorem dX10_does_22 : decode cX10_does 22 = .ok (.aload_n 0, 1) := by decide +kernel
theorem dX10_does_23 : decode cX10_does 23 = .ok (.aload_n 0, 1) := by decide +kernel
theorem dX10_does_24 : decode cX10_does 24 = .ok (.getfield 30, 3) := by decide +kernel
theorem dX10_does_27 : decode cX10_does 27 = .ok (.iconst 3, 1) := by decide +kernel
theorem dX10_does_28 : decode cX10_does 28 = .ok (.iload_n 1, 1) := by decide +kernel
theorem dX10_does_29 : decode cX10_does 29 = .ok (.imul, 1) := by decide +kernel
theorem dX10_does_30 : decode cX10_does 30 = .ok (.iaload, 1) := by decide +kernel
theorem dX10_does_31 : decode cX10_does 31 = .ok (.iload_n 2, 1) := by decide +kernel
theorem dX10_does_32 : decode cX10_does 32 = .ok (.iload_n 3, 1) := by decide +kernel
theorem dX10_does_33 : decode cX10_does 33 = .ok (.invokevirtual 144, 3) := by decide +kernel
theorem dX10_does_36 : decode cX10_does 36 = .ok (.ifCond .ge 5, 3) := by decide +kernel
theorem dX10_does_39 : decode cX10_does 39 = .ok (.iconst 0, 1) := by decide +kernel
theorem dX10_does_40 : decode cX10_does 40 = .ok (.ireturn, 1) := by decide +kernel
theorem dX10_does_41 : decode cX10_does 41 = .ok (.aload_n 0, 1) := by decide +kernel
theorem dX10_does_42 : decode cX10_does 42 = .ok (.getfield 30, 3) := by decide +kernel
theorem dX10_does_45 : decode cX10_does 45 = .ok (.iconst 3, 1) := by decide +kernel
theorem dX10_does_46 : decode cX10_does 46 = .ok (.iload_n 1, 1) := by decide +kernel
theorem dX10_does_47 : decode cX10_does 47 = .ok (.imul, 1) := by decide +kernel
theorem dX10_does_48 : decode cX10_does 48 = .ok (.iaload, 1) := by decide +kernel
theorem dX10_does_49 : decode cX10_does 49 = .ok (.lookupswitch 94 #[(100, 59), (104, 51), (115, 86), (119, 69), (120, 78)], 51) := by decide +kernel
theorem dX10_does_100 : decode cX10_does 100 = .ok (.aload_n 0, 1) := by decide +kernel
theorem dX10_does_101 : decode cX10_does 101 = .ok (.invokevirtual 59, 3) := by decide +kernel
theorem dX10_does_104 : decode cX10_does 104 = .ok (.pop, 1) := by decide +kernel
theorem dX10_does_105 : decode cX10_does 105 = .ok (.goto 43, 3) := by decide +kernel
theorem dX10_does_108 : decode cX10_does 108 = .ok (.aload_n 0, 1) := by decide +kernel
theorem dX10_does_109 : decode cX10_does 109 = .ok (.iload_n 2, 1) := by decide +kernel
theorem dX10_does_110 : decode cX10_does 110 = .ok (.iload_n 3, 1) := by decide +kernel
theorem dX10_does_111 : decode cX10_does 111 = .ok (.invokevirtual 79, 3) := by decide +kernel
theorem dX10_does_114 : decode cX10_does 114 = .ok (.pop, 1) := by decide +kernel
theorem dX10_does_115 : decode cX10_does 115 = .ok (.goto 33, 3) := by decide +kernel
theorem dX10_does_118 : decode cX10_does 118 = .ok (.aload_n 0, 1) := by decide +kernel
theorem dX10_does_119 : decode cX10_does 119 = .ok (.iload_n 2, 1) := by decide +kernel
theorem dX10_does_120 : decode cX10_does 120 = .ok (.invokevirtual 85, 3) := by decide +kernel
theorem dX10_does_123 : decode cX10_does 123 = .ok (.pop, 1) := by decide +kernel
theorem dX10_does_124 : decode cX10_does 124 = .ok (.goto 24, 3) := by decide +kernel
theorem dX10_does_127 : decode cX10_does 127 = .ok (.aload_n 0, 1) := by decide +kernel
theorem dX10_does_128 : decode cX10_does 128 = .ok (.invokevirtual 94, 3) := by decide +kernel
theorem dX10_does_131 : decode cX10_does 131 = .ok (.pop, 1) := by decide +kernel
theorem dX10_does_132 : decode cX10_does 132 = .ok (.goto 16, 3) := by decide +kernel
theorem dX10_does_135 : decode cX10_does 135 = .ok (.aload_n 0, 1) := by decide +kernel
theorem dX10_does_136 : decode cX10_does 136 = .ok (.invokevirtual 88, 3) := by decide +kernel
theorem dX10_does_139 : decode cX10_does 139 = .ok (.pop, 1) := by decide +kernel
theorem dX10_does_140 : decode cX10_does 140 = .ok (.goto 8, 3) := by decide +kernel
theorem dX10_does_143 : decode cX10_does 143 = .ok (.aload_n 0, 1) := by decide +kernel
theorem dX10_does_144 : decode cX10_does 144 = .ok (.invokevirtual 98, 3) := by decide +kernel
theorem dX10_does_147 : decode cX10_does 147 = .ok (.pop, 1) := by decide +kernel
theorem dX10_does_148 : decode cX10_does 148 = .ok (.iconst 1, 1) := by decide +kernel
theorem dX10_does_149 : decode cX10_does 149 = .ok (.ireturn, 1) := by decide +kernel
theorem dX10_carryOut_0 : decode cX10_carryOut 0 = .ok (.aload_n 0, 1) := by decide +kernel
theorem dX10_carryOut_1 : decode cX10_carryOut 1 = .ok (.invokevirtual 141, 3) := by decide +kernel
theorem dX10_carryOut_4 : decode cX10_carryOut 4 = .ok (.bipush (-6), 2) := by decide +kernel
theorem dX10_carryOut_6 : decode cX10_carryOut 6 = .ok (.if_icmp .eq 6, 3) := by decide +kernel
theorem dX10_carryOut_9 : decode cX10_carryOut 9 = .ok (.bipush (-3), 2) := by decide +kernel
theorem dX10_carryOut_11 : decode cX10_carryOut 11 = .ok (.ireturn, 1) := by decide +kernel
theorem dX10_carryOut_12 : decode cX10_carryOut 12 = .ok (.aload_n 0, 1) := by decide +kernel
theorem dX10_carryOut_13 : decode cX10_carryOut 13 = .ok (.invokevirtual 45, 3) := by decide +kernel
theorem dX10_carryOut_16 : decode cX10_carryOut 16 = .ok (.iconst 0, 1) := by decide +kernel
theorem dX10_carryOut_17 : decode cX10_carryOut 17 = .ok (.istore_n 1, 1) := by decide +kernel
theorem dX10_carryOut_18 : decode cX10_carryOut 18 = .ok (.iload_n 1, 1) := by decide +kernel
theorem dX10_carryOut_19 : decode cX10_carryOut 19 = .ok (.aload_n 0, 1) := by decide +kernel
theorem dX10_carryOut_20 : decode cX10_carryOut 20 = .ok (.getfield 132, 3) := by decide +kernel
theorem dX10_carryOut_23 : decode cX10_carryOut 23 = .ok (.if_icmp .ge 17, 3) := by decide +kernel
theorem dX10_carryOut_26 : decode cX10_carryOut 26 = .ok (.aload_n 0, 1) := by decide +kernel
theorem dX10_carryOut_27 : decode cX10_carryOut 27 = .ok (.iload_n 1, 1) := by decide +kernel
theorem dX10_carryOut_28 : decode cX10_carryOut 28 = .ok (.invokevirtual 147, 3) := by decide +kernel
theorem dX10_carryOut_31 : decode cX10_carryOut 31 = .ok (.ifCond .eq 9, 3) := by decide +kernel
theorem dX10_carryOut_34 : decode cX10_carryOut 34 = .ok (.iinc 1 1, 3) := by decide +kernel
theorem dX10_carryOut_37 : decode cX10_carryOut 37 = .ok (.goto (-19), 3) := by decide +kernel
theorem dX10_carryOut_40 : decode cX10_carryOut 40 = .ok (.aload_n 0, 1) := by decide +kernel
theorem dX10_carryOut_41 : decode cX10_carryOut 41 = .ok (.iconst 0, 1) := by decide +kernel
theorem dX10_carryOut_42 : decode cX10_carryOut 42 = .ok (.putfield 104, 3) := by decide +kernel
theorem dX10_carryOut_45 : decode cX10_carryOut 45 = .ok (.iload_n 1, 1) := by decide +kernel
theorem dX10_carryOut_46 : decode cX10_carryOut 46 = .ok (.ireturn, 1) := by decide +kernel
end
section
theorem dL_law_0 : decode cL_law 0 = .ok (.new 7, 3) := by decide +kernel
theorem dL_law_3 : decode cL_law 3 = .ok (.dup, 1) := by decide +kernel
theorem dL_law_4 : decode cL_law 4 = .ok (.invokespecial 9, 3) := by decide +kernel
theorem dL_law_7 : decode cL_law 7 = .ok (.astore_n 1, 1) := by decide +kernel
theorem dL_law_8 : decode cL_law 8 = .ok (.new 10, 3) := by decide +kernel
theorem dL_law_11 : decode cL_law 11 = .ok (.dup, 1) := by decide +kernel
theorem dL_law_12 : decode cL_law 12 = .ok (.invokespecial 12, 3) := by decide +kernel
theorem dL_law_15 : decode cL_law 15 = .ok (.astore_n 2, 1) := by decide +kernel
theorem dL_law_16 : decode cL_law 16 = .ok (.iconst 0, 1) := by decide +kernel
theorem dL_law_17 : decode cL_law 17 = .ok (.istore_n 3, 1) := by decide +kernel
theorem dL_law_18 : decode cL_law 18 = .ok (.iload_n 3, 1) := by decide +kernel
theorem dL_law_19 : decode cL_law 19 = .ok (.aload_n 0, 1) := by decide +kernel
theorem dL_law_20 : decode cL_law 20 = .ok (.arraylength, 1) := by decide +kernel
theorem dL_law_21 : decode cL_law 21 = .ok (.bipush 6, 2) := by decide +kernel
theorem dL_law_23 : decode cL_law 23 = .ok (.isub, 1) := by decide +kernel
theorem dL_law_24 : decode cL_law 24 = .ok (.if_icmp .gt 758, 3) := by decide +kernel
theorem dL_law_27 : decode cL_law 27 = .ok (.aload_n 0, 1) := by decide +kernel
theorem dL_law_28 : decode cL_law 28 = .ok (.iload_n 3, 1) := by decide +kernel
theorem dL_law_29 : decode cL_law 29 = .ok (.iaload, 1) := by decide +kernel
theorem dL_law_30 : decode cL_law 30 = .ok (.bipush 31, 2) := by decide +kernel
theorem dL_law_32 : decode cL_law 32 = .ok (.iand, 1) := by decide +kernel
theorem dL_law_33 : decode cL_law 33 = .ok (.tableswitch 743 0 23 #[111, 174, 207, 230, 243, 276, 299, 312, 325, 338, 371, 394, 427, 450, 483, 516, 549, 592, 645, 658, 671, 684, 697, 720], 111) := by decide +kernel
theorem dL_law_144 : decode cL_law 144 = .ok (.aload_n 1, 1) := by decide +kernel
theorem dL_law_145 : decode cL_law 145 = .ok (.aload_n 0, 1) := by decide +kernel
theorem dL_law_146 : decode cL_law 146 = .ok (.iload_n 3, 1) := by decide +kernel
theorem dL_law_147 : decode cL_law 147 = .ok (.iconst 1, 1) := by decide +kernel
theorem dL_law_148 : decode cL_law 148 = .ok (.iadd, 1) := by decide +kernel
theorem dL_law_149 : decode cL_law 149 = .ok (.iaload, 1) := by decide +kernel
theorem dL_law_150 : decode cL_law 150 = .ok (.aload_n 0, 1) := by decide +kernel
theorem dL_law_151 : decode cL_law 151 = .ok (.iload_n 3, 1) := by decide +kernel
theorem dL_law_152 : decode cL_law 152 = .ok (.iconst 2, 1) := by decide +kernel
theorem dL_law_153 : decode cL_law 153 = .ok (.iadd, 1) := by decide +kernel
theorem dL_law_154 : decode cL_law 154 = .ok (.iaload, 1) := by decide +kernel
theorem dL_law_155 : decode cL_law 155 = .ok (.aload_n 0, 1) := by decide +kernel
theorem dL_law_156 : decode cL_law 156 = .ok (.iload_n 3, 1) := by decide +kernel
theorem dL_law_157 : decode cL_law 157 = .ok (.iconst 3, 1) := by decide +kernel
theorem dL_law_158 : decode cL_law 158 = .ok (.iadd, 1) := by decide +kernel
theorem dL_law_159 : decode cL_law 159 = .ok (.iaload, 1) := by decide +kernel
theorem dL_law_160 : decode cL_law 160 = .ok (.aload_n 0, 1) := by decide +kernel
theorem dL_law_161 : decode cL_law 161 = .ok (.iload_n 3, 1) := by decide +kernel
theorem dL_law_162 : decode cL_law 162 = .ok (.iconst 4, 1) := by decide +kernel
theorem dL_law_163 : decode cL_law 163 = .ok (.iadd, 1) := by decide +kernel
theorem dL_law_164 : decode cL_law 164 = .ok (.iaload, 1) := by decide +kernel
theorem dL_law_165 : decode cL_law 165 = .ok (.aload_n 0, 1) := by decide +kernel
theorem dL_law_166 : decode cL_law 166 = .ok (.iload_n 3, 1) := by decide +kernel
theorem dL_law_167 : decode cL_law 167 = .ok (.iconst 5, 1) := by decide +kernel
theorem dL_law_168 : decode cL_law 168 = .ok (.iadd, 1) := by decide +kernel
theorem dL_law_169 : decode cL_law 169 = .ok (.iaload, 1) := by decide +kernel
theorem dL_law_170 : decode cL_law 170 = .ok (.invokevirtual 13, 3) := by decide +kernel
theorem dL_law_173 : decode cL_law 173 = .ok (.aload_n 2, 1) := by decide +kernel
theorem dL_law_174 : decode cL_law 174 = .ok (.aload_n 0, 1) := by decide +kernel
theorem dL_law_175 : decode cL_law 175 = .ok (.iload_n 3, 1) := by decide +kernel
theorem dL_law_176 : decode cL_law 176 = .ok (.iconst 1, 1) := by decide +kernel
theorem dL_law_177 : decode cL_law 177 = .ok (.iadd, 1) := by decide +kernel
theorem dL_law_178 : decode cL_law 178 = .ok (.iaload, 1) := by decide +kernel
theorem dL_law_179 : decode cL_law 179 = .ok (.aload_n 0, 1) := by decide +kernel
theorem dL_law_180 : decode cL_law 180 = .ok (.iload_n 3, 1) := by decide +kernel
theorem dL_law_181 : decode cL_law 181 = .ok (.iconst 2, 1) := by decide +kernel
theorem dL_law_182 : decode cL_law 182 = .ok (.iadd, 1) := by decide +kernel
theorem dL_law_183 : decode cL_law 183 = .ok (.iaload, 1) := by decide +kernel
theorem dL_law_184 : decode cL_law 184 = .ok (.aload_n 0, 1) := by decide +kernel
theorem dL_law_185 : decode cL_law 185 = .ok (.iload_n 3, 1) := by decide +kernel
theorem dL_law_186 : decode cL_law 186 = .ok (.iconst 3, 1) := by decide +kernel
theorem dL_law_187 : decode cL_law 187 = .ok (.iadd, 1) := by decide +kernel
theorem dL_law_188 : decode cL_law 188 = .ok (.iaload, 1) := by decide +kernel
theorem dL_law_189 : decode cL_law 189 = .ok (.aload_n 0, 1) := by decide +kernel
theorem dL_law_190 : decode cL_law 190 = .ok (.iload_n 3, 1) := by decide +kernel
theorem dL_law_191 : decode cL_law 191 = .ok (.iconst 4, 1) := by decide +kernel
theorem dL_law_192 : decode cL_law 192 = .ok (.iadd, 1) := by decide +kernel
theorem dL_law_193 : decode cL_law 193 = .ok (.iaload, 1) := by decide +kernel
theorem dL_law_194 : decode cL_law 194 = .ok (.aload_n 0, 1) := by decide +kernel
theorem dL_law_195 : decode cL_law 195 = .ok (.iload_n 3, 1) := by decide +kernel
theorem dL_law_196 : decode cL_law 196 = .ok (.iconst 5, 1) := by decide +kernel
theorem dL_law_197 : decode cL_law 197 = .ok (.iadd, 1) := by decide +kernel
theorem dL_law_198 : decode cL_law 198 = .ok (.iaload, 1) := by decide +kernel
theorem dL_law_199 : decode cL_law 199 = .ok (.invokevirtual 17, 3) := by decide +kernel
theorem dL_law_202 : decode cL_law 202 = .ok (.if_icmp .eq 574, 3) := by decide +kernel
theorem dL_law_205 : decode cL_law 205 = .ok (.iconst 0, 1) := by decide +kernel
theorem dL_law_206 : decode cL_law 206 = .ok (.ireturn, 1) := by decide +kernel
theorem dL_law_207 : decode cL_law 207 = .ok (.aload_n 1, 1) := by decide +kernel
theorem dL_law_208 : decode cL_law 208 = .ok (.aload_n 0, 1) := by decide +kernel
theorem dL_law_209 : decode cL_law 209 = .ok (.iload_n 3, 1) := by decide +kernel
theorem dL_law_210 : decode cL_law 210 = .ok (.iconst 1, 1) := by decide +kernel
theorem dL_law_211 : decode cL_law 211 = .ok (.iadd, 1) := by decide +kernel
theorem dL_law_212 : decode cL_law 212 = .ok (.iaload, 1) := by decide +kernel
theorem dL_law_213 : decode cL_law 213 = .ok (.aload_n 0, 1) := by decide +kernel
theorem dL_law_214 : decode cL_law 214 = .ok (.iload_n 3, 1) := by decide +kernel
theorem dL_law_215 : decode cL_law 215 = .ok (.iconst 2, 1) := by decide +kernel
theorem dL_law_216 : decode cL_law 216 = .ok (.iadd, 1) := by decide +kernel
theorem dL_law_217 : decode cL_law 217 = .ok (.iaload, 1) := by decide +kernel
theorem dL_law_218 : decode cL_law 218 = .ok (.invokevirtual 18, 3) := by decide +kernel
theorem dL_law_221 : decode cL_law 221 = .ok (.aload_n 2, 1) := by decide +kernel
theorem dL_law_222 : decode cL_law 222 = .ok (.aload_n 0, 1) := by decide +kernel
theorem dL_law_223 : decode cL_law 223 = .ok (.iload_n 3, 1) := by decide +kernel
theorem dL_law_224 : decode cL_law 224 = .ok (.iconst 1, 1) := by decide +kernel
theorem dL_law_225 : decode cL_law 225 = .ok (.iadd, 1) := by decide +kernel
theorem dL_law_226 : decode cL_law 226 = .ok (.iaload, 1) := by decide +kernel
theorem dL_law_227 : decode cL_law 227 = .ok (.aload_n 0, 1) := by decide +kernel
theorem dL_law_228 : decode cL_law 228 = .ok (.iload_n 3, 1) := by decide +kernel
theorem dL_law_229 : decode cL_law 229 = .ok (.iconst 2, 1) := by decide +kernel
theorem dL_law_230 : decode cL_law 230 = .ok (.iadd, 1) := by decide +kernel
theorem dL_law_231 : decode cL_law 231 = .ok (.iaload, 1) := by decide +kernel
theorem dL_law_232 : decode cL_law 232 = .ok (.invokevirtual 22, 3) := by decide +kernel
theorem dL_law_235 : decode cL_law 235 = .ok (.if_icmp .eq 541, 3) := by decide +kernel
theorem dL_law_238 : decode cL_law 238 = .ok (.iconst 0, 1) := by decide +kernel
theorem dL_law_239 : decode cL_law 239 = .ok (.ireturn, 1) := by decide +kernel
theorem dL_law_240 : decode cL_law 240 = .ok (.aload_n 1, 1) := by decide +kernel
theorem dL_law_241 : decode cL_law 241 = .ok (.aload_n 0, 1) := by decide +kernel
theorem dL_law_242 : decode cL_law 242 = .ok (.iload_n 3, 1) := by decide +kernel
theorem dL_law_243 : decode cL_law 243 = .ok (.iconst 1, 1) := by decide +kernel
theorem dL_law_244 : decode cL_law 244 = .ok (.iadd, 1) := by decide +kernel
theorem dL_law_245 : decode cL_law 245 = .ok (.iaload, 1) := by decide +kernel
theorem dL_law_246 : decode cL_law 246 = .ok (.invokevirtual 23, 3) := by decide +kernel
theorem dL_law_249 : decode cL_law 249 = .ok (.aload_n 2, 1) := by decide +kernel
theorem dL_law_250 : decode cL_law 250 = .ok (.aload_n 0, 1) := by decide +kernel
theorem dL_law_251 : decode cL_law 251 = .ok (.iload_n 3, 1) := by decide +kernel
theorem dL_law_252 : decode cL_law 252 = .ok (.iconst 1, 1) := by decide +kernel
theorem dL_law_253 : decode cL_law 253 = .ok (.iadd, 1) := by decide +kernel
theorem dL_law_254 : decode cL_law 254 = .ok (.iaload, 1) := by decide +kernel
theorem dL_law_255 : decode cL_law 255 = .ok (.invokevirtual 27, 3) := by decide +kernel
theorem dL_law_258 : decode cL_law 258 = .ok (.if_icmp .eq 518, 3) := by decide +kernel
theorem dL_law_261 : decode cL_law 261 = .ok (.iconst 0, 1) := by decide +kernel
theorem dL_law_262 : decode cL_law 262 = .ok (.ireturn, 1) := by decide +kernel
theorem dL_law_263 : decode cL_law 263 = .ok (.aload_n 1, 1) := by decide +kernel
theorem dL_law_264 : decode cL_law 264 = .ok (.invokevirtual 28, 3) := by decide +kernel
theorem dL_law_267 : decode cL_law 267 = .ok (.aload_n 2, 1) := by decide +kernel
theorem dL_law_268 : decode cL_law 268 = .ok (.invokevirtual 32, 3) := by decide +kernel
theorem dL_law_271 : decode cL_law 271 = .ok (.if_icmp .eq 505, 3) := by decide +kernel
theorem dL_law_274 : decode cL_law 274 = .ok (.iconst 0, 1) := by decide +kernel
theorem dL_law_275 : decode cL_law 275 = .ok (.ireturn, 1) := by decide +kernel
theorem dL_law_276 : decode cL_law 276 = .ok (.aload_n 1, 1) := by decide +kernel
theorem dL_law_277 : decode cL_law 277 = .ok (.aload_n 0, 1) := by decide +kernel
theorem dL_law_278 : decode cL_law 278 = .ok (.iload_n 3, 1) := by decide +kernel
theorem dL_law_279 : decode cL_law 279 = .ok (.iconst 1, 1) := by decide +kernel
theorem dL_law_280 : decode cL_law 280 = .ok (.iadd, 1) := by decide +kernel
theorem dL_law_281 : decode cL_law 281 = .ok (.iaload, 1) := by decide +kernel
theorem dL_law_282 : decode cL_law 282 = .ok (.aload_n 0, 1) := by decide +kernel
theorem dL_law_283 : decode cL_law 283 = .ok (.iload_n 3, 1) := by decide +kernel
theorem dL_law_284 : decode cL_law 284 = .ok (.iconst 2, 1) := by decide +kernel
theorem dL_law_285 : decode cL_law 285 = .ok (.iadd, 1) := by decide +kernel
theorem dL_law_286 : decode cL_law 286 = .ok (.iaload, 1) := by decide +kernel
theorem dL_law_287 : decode cL_law 287 = .ok (.invokevirtual 33, 3) := by decide +kernel
theorem dL_law_290 : decode cL_law 290 = .ok (.aload_n 2, 1) := by decide +kernel
theorem dL_law_291 : decode cL_law 291 = .ok (.aload_n 0, 1) := by decide +kernel
theorem dL_law_292 : decode cL_law 292 = .ok (.iload_n 3, 1) := by decide +kernel
theorem dL_law_293 : decode cL_law 293 = .ok (.iconst 1, 1) := by decide +kernel
theorem dL_law_294 : decode cL_law 294 = .ok (.iadd, 1) := by decide +kernel
theorem dL_law_295 : decode cL_law 295 = .ok (.iaload, 1) := by decide +kernel
theorem dL_law_296 : decode cL_law 296 = .ok (.aload_n 0, 1) := by decide +kernel
theorem dL_law_297 : decode cL_law 297 = .ok (.iload_n 3, 1) := by decide +kernel
theorem dL_law_298 : decode cL_law 298 = .ok (.iconst 2, 1) := by decide +kernel
theorem dL_law_299 : decode cL_law 299 = .ok (.iadd, 1) := by decide +kernel
theorem dL_law_300 : decode cL_law 300 = .ok (.iaload, 1) := by decide +kernel
theorem dL_law_301 : decode cL_law 301 = .ok (.invokevirtual 36, 3) := by decide +kernel
theorem dL_law_304 : decode cL_law 304 = .ok (.if_icmp .eq 472, 3) := by decide +kernel
theorem dL_law_307 : decode cL_law 307 = .ok (.iconst 0, 1) := by decide +kernel
theorem dL_law_308 : decode cL_law 308 = .ok (.ireturn, 1) := by decide +kernel
theorem dL_law_309 : decode cL_law 309 = .ok (.aload_n 1, 1) := by decide +kernel
theorem dL_law_310 : decode cL_law 310 = .ok (.aload_n 0, 1) := by decide +kernel
theorem dL_law_311 : decode cL_law 311 = .ok (.iload_n 3, 1) := by decide +kernel
theorem dL_law_312 : decode cL_law 312 = .ok (.iconst 1, 1) := by decide +kernel
theorem dL_law_313 : decode cL_law 313 = .ok (.iadd, 1) := by decide +kernel
theorem dL_law_314 : decode cL_law 314 = .ok (.iaload, 1) := by decide +kernel
theorem dL_law_315 : decode cL_law 315 = .ok (.invokevirtual 37, 3) := by decide +kernel
theorem dL_law_318 : decode cL_law 318 = .ok (.aload_n 2, 1) := by decide +kernel
theorem dL_law_319 : decode cL_law 319 = .ok (.aload_n 0, 1) := by decide +kernel
theorem dL_law_320 : decode cL_law 320 = .ok (.iload_n 3, 1) := by decide +kernel
theorem dL_law_321 : decode cL_law 321 = .ok (.iconst 1, 1) := by decide +kernel
theorem dL_law_322 : decode cL_law 322 = .ok (.iadd, 1) := by decide +kernel
theorem dL_law_323 : decode cL_law 323 = .ok (.iaload, 1) := by decide +kernel
theorem dL_law_324 : decode cL_law 324 = .ok (.invokevirtual 40, 3) := by decide +kernel
theorem dL_law_327 : decode cL_law 327 = .ok (.if_icmp .eq 449, 3) := by decide +kernel
theorem dL_law_330 : decode cL_law 330 = .ok (.iconst 0, 1) := by decide +kernel
theorem dL_law_331 : decode cL_law 331 = .ok (.ireturn, 1) := by decide +kernel
theorem dL_law_332 : decode cL_law 332 = .ok (.aload_n 1, 1) := by decide +kernel
theorem dL_law_333 : decode cL_law 333 = .ok (.invokevirtual 41, 3) := by decide +kernel
theorem dL_law_336 : decode cL_law 336 = .ok (.aload_n 2, 1) := by decide +kernel
theorem dL_law_337 : decode cL_law 337 = .ok (.invokevirtual 44, 3) := by decide +kernel
theorem dL_law_340 : decode cL_law 340 = .ok (.if_icmp .eq 436, 3) := by decide +kernel
theorem dL_law_343 : decode cL_law 343 = .ok (.iconst 0, 1) := by decide +kernel
theorem dL_law_344 : decode cL_law 344 = .ok (.ireturn, 1) := by decide +kernel
theorem dL_law_345 : decode cL_law 345 = .ok (.aload_n 1, 1) := by decide +kernel
theorem dL_law_346 : decode cL_law 346 = .ok (.invokevirtual 45, 3) := by decide +kernel
theorem dL_law_349 : decode cL_law 349 = .ok (.aload_n 2, 1) := by decide +kernel
theorem dL_law_350 : decode cL_law 350 = .ok (.invokevirtual 48, 3) := by decide +kernel
theorem dL_law_353 : decode cL_law 353 = .ok (.if_icmp .eq 423, 3) := by decide +kernel
theorem dL_law_356 : decode cL_law 356 = .ok (.iconst 0, 1) := by decide +kernel
theorem dL_law_357 : decode cL_law 357 = .ok (.ireturn, 1) := by decide +kernel
theorem dL_law_358 : decode cL_law 358 = .ok (.aload_n 1, 1) := by decide +kernel
theorem dL_law_359 : decode cL_law 359 = .ok (.invokevirtual 49, 3) := by decide +kernel
theorem dL_law_362 : decode cL_law 362 = .ok (.aload_n 2, 1) := by decide +kernel
theorem dL_law_363 : decode cL_law 363 = .ok (.invokevirtual 52, 3) := by decide +kernel
theorem dL_law_366 : decode cL_law 366 = .ok (.if_icmp .eq 410, 3) := by decide +kernel
theorem dL_law_369 : decode cL_law 369 = .ok (.iconst 0, 1) := by decide +kernel
theorem dL_law_370 : decode cL_law 370 = .ok (.ireturn, 1) := by decide +kernel
theorem dL_law_371 : decode cL_law 371 = .ok (.aload_n 1, 1) := by decide +kernel
theorem dL_law_372 : decode cL_law 372 = .ok (.aload_n 0, 1) := by decide +kernel
theorem dL_law_373 : decode cL_law 373 = .ok (.iload_n 3, 1) := by decide +kernel
theorem dL_law_374 : decode cL_law 374 = .ok (.iconst 1, 1) := by decide +kernel
theorem dL_law_375 : decode cL_law 375 = .ok (.iadd, 1) := by decide +kernel
theorem dL_law_376 : decode cL_law 376 = .ok (.iaload, 1) := by decide +kernel
theorem dL_law_377 : decode cL_law 377 = .ok (.aload_n 0, 1) := by decide +kernel
theorem dL_law_378 : decode cL_law 378 = .ok (.iload_n 3, 1) := by decide +kernel
theorem dL_law_379 : decode cL_law 379 = .ok (.iconst 2, 1) := by decide +kernel
theorem dL_law_380 : decode cL_law 380 = .ok (.iadd, 1) := by decide +kernel
theorem dL_law_381 : decode cL_law 381 = .ok (.iaload, 1) := by decide +kernel
theorem dL_law_382 : decode cL_law 382 = .ok (.invokevirtual 53, 3) := by decide +kernel
theorem dL_law_385 : decode cL_law 385 = .ok (.aload_n 2, 1) := by decide +kernel
theorem dL_law_386 : decode cL_law 386 = .ok (.aload_n 0, 1) := by decide +kernel
theorem dL_law_387 : decode cL_law 387 = .ok (.iload_n 3, 1) := by decide +kernel
theorem dL_law_388 : decode cL_law 388 = .ok (.iconst 1, 1) := by decide +kernel
theorem dL_law_389 : decode cL_law 389 = .ok (.iadd, 1) := by decide +kernel
theorem dL_law_390 : decode cL_law 390 = .ok (.iaload, 1) := by decide +kernel
theorem dL_law_391 : decode cL_law 391 = .ok (.aload_n 0, 1) := by decide +kernel
theorem dL_law_392 : decode cL_law 392 = .ok (.iload_n 3, 1) := by decide +kernel
theorem dL_law_393 : decode cL_law 393 = .ok (.iconst 2, 1) := by decide +kernel
theorem dL_law_394 : decode cL_law 394 = .ok (.iadd, 1) := by decide +kernel
theorem dL_law_395 : decode cL_law 395 = .ok (.iaload, 1) := by decide +kernel
theorem dL_law_396 : decode cL_law 396 = .ok (.invokevirtual 56, 3) := by decide +kernel
theorem dL_law_399 : decode cL_law 399 = .ok (.if_icmp .eq 377, 3) := by decide +kernel
theorem dL_law_402 : decode cL_law 402 = .ok (.iconst 0, 1) := by decide +kernel
theorem dL_law_403 : decode cL_law 403 = .ok (.ireturn, 1) := by decide +kernel
theorem dL_law_404 : decode cL_law 404 = .ok (.aload_n 1, 1) := by decide +kernel
theorem dL_law_405 : decode cL_law 405 = .ok (.aload_n 0, 1) := by decide +kernel
theorem dL_law_406 : decode cL_law 406 = .ok (.iload_n 3, 1) := by decide +kernel
theorem dL_law_407 : decode cL_law 407 = .ok (.iconst 1, 1) := by decide +kernel
theorem dL_law_408 : decode cL_law 408 = .ok (.iadd, 1) := by decide +kernel
theorem dL_law_409 : decode cL_law 409 = .ok (.iaload, 1) := by decide +kernel
theorem dL_law_410 : decode cL_law 410 = .ok (.invokevirtual 57, 3) := by decide +kernel
theorem dL_law_413 : decode cL_law 413 = .ok (.aload_n 2, 1) := by decide +kernel
theorem dL_law_414 : decode cL_law 414 = .ok (.aload_n 0, 1) := by decide +kernel
theorem dL_law_415 : decode cL_law 415 = .ok (.iload_n 3, 1) := by decide +kernel
theorem dL_law_416 : decode cL_law 416 = .ok (.iconst 1, 1) := by decide +kernel
theorem dL_law_417 : decode cL_law 417 = .ok (.iadd, 1) := by decide +kernel
theorem dL_law_418 : decode cL_law 418 = .ok (.iaload, 1) := by decide +kernel
theorem dL_law_419 : decode cL_law 419 = .ok (.invokevirtual 60, 3) := by decide +kernel
theorem dL_law_422 : decode cL_law 422 = .ok (.if_icmp .eq 354, 3) := by decide +kernel
theorem dL_law_425 : decode cL_law 425 = .ok (.iconst 0, 1) := by decide +kernel
theorem dL_law_426 : decode cL_law 426 = .ok (.ireturn, 1) := by decide +kernel
theorem dL_law_427 : decode cL_law 427 = .ok (.aload_n 1, 1) := by decide +kernel
theorem dL_law_428 : decode cL_law 428 = .ok (.aload_n 0, 1) := by decide +kernel
theorem dL_law_429 : decode cL_law 429 = .ok (.iload_n 3, 1) := by decide +kernel
theorem dL_law_430 : decode cL_law 430 = .ok (.iconst 1, 1) := by decide +kernel
theorem dL_law_431 : decode cL_law 431 = .ok (.iadd, 1) := by decide +kernel
theorem dL_law_432 : decode cL_law 432 = .ok (.iaload, 1) := by decide +kernel
theorem dL_law_433 : decode cL_law 433 = .ok (.aload_n 0, 1) := by decide +kernel
theorem dL_law_434 : decode cL_law 434 = .ok (.iload_n 3, 1) := by decide +kernel
theorem dL_law_435 : decode cL_law 435 = .ok (.iconst 2, 1) := by decide +kernel
theorem dL_law_436 : decode cL_law 436 = .ok (.iadd, 1) := by decide +kernel
theorem dL_law_437 : decode cL_law 437 = .ok (.iaload, 1) := by decide +kernel
theorem dL_law_438 : decode cL_law 438 = .ok (.invokevirtual 61, 3) := by decide +kernel
theorem dL_law_441 : decode cL_law 441 = .ok (.aload_n 2, 1) := by decide +kernel
theorem dL_law_442 : decode cL_law 442 = .ok (.aload_n 0, 1) := by decide +kernel
theorem dL_law_443 : decode cL_law 443 = .ok (.iload_n 3, 1) := by decide +kernel
theorem dL_law_444 : decode cL_law 444 = .ok (.iconst 1, 1) := by decide +kernel
theorem dL_law_445 : decode cL_law 445 = .ok (.iadd, 1) := by decide +kernel
theorem dL_law_446 : decode cL_law 446 = .ok (.iaload, 1) := by decide +kernel
theorem dL_law_447 : decode cL_law 447 = .ok (.aload_n 0, 1) := by decide +kernel
theorem dL_law_448 : decode cL_law 448 = .ok (.iload_n 3, 1) := by decide +kernel
theorem dL_law_449 : decode cL_law 449 = .ok (.iconst 2, 1) := by decide +kernel
theorem dL_law_450 : decode cL_law 450 = .ok (.iadd, 1) := by decide +kernel
theorem dL_law_451 : decode cL_law 451 = .ok (.iaload, 1) := by decide +kernel
theorem dL_law_452 : decode cL_law 452 = .ok (.invokevirtual 64, 3) := by decide +kernel
theorem dL_law_455 : decode cL_law 455 = .ok (.if_icmp .eq 321, 3) := by decide +kernel
theorem dL_law_458 : decode cL_law 458 = .ok (.iconst 0, 1) := by decide +kernel
theorem dL_law_459 : decode cL_law 459 = .ok (.ireturn, 1) := by decide +kernel
theorem dL_law_460 : decode cL_law 460 = .ok (.aload_n 1, 1) := by decide +kernel
theorem dL_law_461 : decode cL_law 461 = .ok (.aload_n 0, 1) := by decide +kernel
theorem dL_law_462 : decode cL_law 462 = .ok (.iload_n 3, 1) := by decide +kernel
theorem dL_law_463 : decode cL_law 463 = .ok (.iconst 1, 1) := by decide +kernel
theorem dL_law_464 : decode cL_law 464 = .ok (.iadd, 1) := by decide +kernel
theorem dL_law_465 : decode cL_law 465 = .ok (.iaload, 1) := by decide +kernel
theorem dL_law_466 : decode cL_law 466 = .ok (.invokevirtual 65, 3) := by decide +kernel
theorem dL_law_469 : decode cL_law 469 = .ok (.aload_n 2, 1) := by decide +kernel
theorem dL_law_470 : decode cL_law 470 = .ok (.aload_n 0, 1) := by decide +kernel
theorem dL_law_471 : decode cL_law 471 = .ok (.iload_n 3, 1) := by decide +kernel
theorem dL_law_472 : decode cL_law 472 = .ok (.iconst 1, 1) := by decide +kernel
theorem dL_law_473 : decode cL_law 473 = .ok (.iadd, 1) := by decide +kernel
theorem dL_law_474 : decode cL_law 474 = .ok (.iaload, 1) := by decide +kernel
theorem dL_law_475 : decode cL_law 475 = .ok (.invokevirtual 68, 3) := by decide +kernel
theorem dL_law_478 : decode cL_law 478 = .ok (.if_icmp .eq 298, 3) := by decide +kernel
theorem dL_law_481 : decode cL_law 481 = .ok (.iconst 0, 1) := by decide +kernel
theorem dL_law_482 : decode cL_law 482 = .ok (.ireturn, 1) := by decide +kernel
theorem dL_law_483 : decode cL_law 483 = .ok (.aload_n 1, 1) := by decide +kernel
theorem dL_law_484 : decode cL_law 484 = .ok (.aload_n 0, 1) := by decide +kernel
theorem dL_law_485 : decode cL_law 485 = .ok (.iload_n 3, 1) := by decide +kernel
theorem dL_law_486 : decode cL_law 486 = .ok (.iconst 1, 1) := by decide +kernel
theorem dL_law_487 : decode cL_law 487 = .ok (.iadd, 1) := by decide +kernel
theorem dL_law_488 : decode cL_law 488 = .ok (.iaload, 1) := by decide +kernel
theorem dL_law_489 : decode cL_law 489 = .ok (.aload_n 0, 1) := by decide +kernel
theorem dL_law_490 : decode cL_law 490 = .ok (.iload_n 3, 1) := by decide +kernel
theorem dL_law_491 : decode cL_law 491 = .ok (.iconst 2, 1) := by decide +kernel
theorem dL_law_492 : decode cL_law 492 = .ok (.iadd, 1) := by decide +kernel
theorem dL_law_493 : decode cL_law 493 = .ok (.iaload, 1) := by decide +kernel
theorem dL_law_494 : decode cL_law 494 = .ok (.invokevirtual 69, 3) := by decide +kernel
theorem dL_law_497 : decode cL_law 497 = .ok (.aload_n 2, 1) := by decide +kernel
theorem dL_law_498 : decode cL_law 498 = .ok (.aload_n 0, 1) := by decide +kernel
theorem dL_law_499 : decode cL_law 499 = .ok (.iload_n 3, 1) := by decide +kernel
theorem dL_law_500 : decode cL_law 500 = .ok (.iconst 1, 1) := by decide +kernel
theorem dL_law_501 : decode cL_law 501 = .ok (.iadd, 1) := by decide +kernel
theorem dL_law_502 : decode cL_law 502 = .ok (.iaload, 1) := by decide +kernel
theorem dL_law_503 : decode cL_law 503 = .ok (.aload_n 0, 1) := by decide +kernel
theorem dL_law_504 : decode cL_law 504 = .ok (.iload_n 3, 1) := by decide +kernel
theorem dL_law_505 : decode cL_law 505 = .ok (.iconst 2, 1) := by decide +kernel
theorem dL_law_506 : decode cL_law 506 = .ok (.iadd, 1) := by decide +kernel
theorem dL_law_507 : decode cL_law 507 = .ok (.iaload, 1) := by decide +kernel
theorem dL_law_508 : decode cL_law 508 = .ok (.invokevirtual 72, 3) := by decide +kernel
theorem dL_law_511 : decode cL_law 511 = .ok (.if_icmp .eq 265, 3) := by decide +kernel
theorem dL_law_514 : decode cL_law 514 = .ok (.iconst 0, 1) := by decide +kernel
theorem dL_law_515 : decode cL_law 515 = .ok (.ireturn, 1) := by decide +kernel
theorem dL_law_516 : decode cL_law 516 = .ok (.aload_n 1, 1) := by decide +kernel
theorem dL_law_517 : decode cL_law 517 = .ok (.aload_n 0, 1) := by decide +kernel
theorem dL_law_518 : decode cL_law 518 = .ok (.iload_n 3, 1) := by decide +kernel
theorem dL_law_519 : decode cL_law 519 = .ok (.iconst 1, 1) := by decide +kernel
theorem dL_law_520 : decode cL_law 520 = .ok (.iadd, 1) := by decide +kernel
theorem dL_law_521 : decode cL_law 521 = .ok (.iaload, 1) := by decide +kernel
theorem dL_law_522 : decode cL_law 522 = .ok (.aload_n 0, 1) := by decide +kernel
theorem dL_law_523 : decode cL_law 523 = .ok (.iload_n 3, 1) := by decide +kernel
theorem dL_law_524 : decode cL_law 524 = .ok (.iconst 2, 1) := by decide +kernel
theorem dL_law_525 : decode cL_law 525 = .ok (.iadd, 1) := by decide +kernel
theorem dL_law_526 : decode cL_law 526 = .ok (.iaload, 1) := by decide +kernel
theorem dL_law_527 : decode cL_law 527 = .ok (.invokevirtual 73, 3) := by decide +kernel
theorem dL_law_530 : decode cL_law 530 = .ok (.aload_n 2, 1) := by decide +kernel
theorem dL_law_531 : decode cL_law 531 = .ok (.aload_n 0, 1) := by decide +kernel
theorem dL_law_532 : decode cL_law 532 = .ok (.iload_n 3, 1) := by decide +kernel
theorem dL_law_533 : decode cL_law 533 = .ok (.iconst 1, 1) := by decide +kernel
theorem dL_law_534 : decode cL_law 534 = .ok (.iadd, 1) := by decide +kernel
theorem dL_law_535 : decode cL_law 535 = .ok (.iaload, 1) := by decide +kernel
theorem dL_law_536 : decode cL_law 536 = .ok (.aload_n 0, 1) := by decide +kernel
theorem dL_law_537 : decode cL_law 537 = .ok (.iload_n 3, 1) := by decide +kernel
theorem dL_law_538 : decode cL_law 538 = .ok (.iconst 2, 1) := by decide +kernel
theorem dL_law_539 : decode cL_law 539 = .ok (.iadd, 1) := by decide +kernel
theorem dL_law_540 : decode cL_law 540 = .ok (.iaload, 1) := by decide +kernel
theorem dL_law_541 : decode cL_law 541 = .ok (.invokevirtual 76, 3) := by decide +kernel
theorem dL_law_544 : decode cL_law 544 = .ok (.if_icmp .eq 232, 3) := by decide +kernel
theorem dL_law_547 : decode cL_law 547 = .ok (.iconst 0, 1) := by decide +kernel
theorem dL_law_548 : decode cL_law 548 = .ok (.ireturn, 1) := by decide +kernel
theorem dL_law_549 : decode cL_law 549 = .ok (.aload_n 1, 1) := by decide +kernel
theorem dL_law_550 : decode cL_law 550 = .ok (.aload_n 0, 1) := by decide +kernel
theorem dL_law_551 : decode cL_law 551 = .ok (.iload_n 3, 1) := by decide +kernel
theorem dL_law_552 : decode cL_law 552 = .ok (.iconst 1, 1) := by decide +kernel
theorem dL_law_553 : decode cL_law 553 = .ok (.iadd, 1) := by decide +kernel
theorem dL_law_554 : decode cL_law 554 = .ok (.iaload, 1) := by decide +kernel
theorem dL_law_555 : decode cL_law 555 = .ok (.aload_n 0, 1) := by decide +kernel
theorem dL_law_556 : decode cL_law 556 = .ok (.iload_n 3, 1) := by decide +kernel
theorem dL_law_557 : decode cL_law 557 = .ok (.iconst 2, 1) := by decide +kernel
theorem dL_law_558 : decode cL_law 558 = .ok (.iadd, 1) := by decide +kernel
theorem dL_law_559 : decode cL_law 559 = .ok (.iaload, 1) := by decide +kernel
theorem dL_law_560 : decode cL_law 560 = .ok (.invokevirtual 77, 3) := by decide +kernel
theorem dL_law_563 : decode cL_law 563 = .ok (.aload_n 2, 1) := by decide +kernel
theorem dL_law_564 : decode cL_law 564 = .ok (.aload_n 0, 1) := by decide +kernel
theorem dL_law_565 : decode cL_law 565 = .ok (.iload_n 3, 1) := by decide +kernel
theorem dL_law_566 : decode cL_law 566 = .ok (.iconst 1, 1) := by decide +kernel
theorem dL_law_567 : decode cL_law 567 = .ok (.iadd, 1) := by decide +kernel
theorem dL_law_568 : decode cL_law 568 = .ok (.iaload, 1) := by decide +kernel
theorem dL_law_569 : decode cL_law 569 = .ok (.aload_n 0, 1) := by decide +kernel
theorem dL_law_570 : decode cL_law 570 = .ok (.iload_n 3, 1) := by decide +kernel
theorem dL_law_571 : decode cL_law 571 = .ok (.iconst 2, 1) := by decide +kernel
theorem dL_law_572 : decode cL_law 572 = .ok (.iadd, 1) := by decide +kernel
theorem dL_law_573 : decode cL_law 573 = .ok (.iaload, 1) := by decide +kernel
theorem dL_law_574 : decode cL_law 574 = .ok (.invokevirtual 80, 3) := by decide +kernel
theorem dL_law_577 : decode cL_law 577 = .ok (.if_icmp .eq 199, 3) := by decide +kernel
theorem dL_law_580 : decode cL_law 580 = .ok (.iconst 0, 1) := by decide +kernel
theorem dL_law_581 : decode cL_law 581 = .ok (.ireturn, 1) := by decide +kernel
theorem dL_law_582 : decode cL_law 582 = .ok (.aload_n 1, 1) := by decide +kernel
theorem dL_law_583 : decode cL_law 583 = .ok (.aload_n 0, 1) := by decide +kernel
theorem dL_law_584 : decode cL_law 584 = .ok (.iload_n 3, 1) := by decide +kernel
theorem dL_law_585 : decode cL_law 585 = .ok (.iconst 1, 1) := by decide +kernel
theorem dL_law_586 : decode cL_law 586 = .ok (.iadd, 1) := by decide +kernel
theorem dL_law_587 : decode cL_law 587 = .ok (.iaload, 1) := by decide +kernel
theorem dL_law_588 : decode cL_law 588 = .ok (.aload_n 0, 1) := by decide +kernel
theorem dL_law_589 : decode cL_law 589 = .ok (.iload_n 3, 1) := by decide +kernel
theorem dL_law_590 : decode cL_law 590 = .ok (.iconst 2, 1) := by decide +kernel
theorem dL_law_591 : decode cL_law 591 = .ok (.iadd, 1) := by decide +kernel
theorem dL_law_592 : decode cL_law 592 = .ok (.iaload, 1) := by decide +kernel
theorem dL_law_593 : decode cL_law 593 = .ok (.aload_n 0, 1) := by decide +kernel
theorem dL_law_594 : decode cL_law 594 = .ok (.iload_n 3, 1) := by decide +kernel
theorem dL_law_595 : decode cL_law 595 = .ok (.iconst 3, 1) := by decide +kernel
theorem dL_law_596 : decode cL_law 596 = .ok (.iadd, 1) := by decide +kernel
theorem dL_law_597 : decode cL_law 597 = .ok (.iaload, 1) := by decide +kernel
theorem dL_law_598 : decode cL_law 598 = .ok (.invokevirtual 81, 3) := by decide +kernel
theorem dL_law_601 : decode cL_law 601 = .ok (.aload_n 2, 1) := by decide +kernel
theorem dL_law_602 : decode cL_law 602 = .ok (.aload_n 0, 1) := by decide +kernel
theorem dL_law_603 : decode cL_law 603 = .ok (.iload_n 3, 1) := by decide +kernel
theorem dL_law_604 : decode cL_law 604 = .ok (.iconst 1, 1) := by decide +kernel
theorem dL_law_605 : decode cL_law 605 = .ok (.iadd, 1) := by decide +kernel
theorem dL_law_606 : decode cL_law 606 = .ok (.iaload, 1) := by decide +kernel
theorem dL_law_607 : decode cL_law 607 = .ok (.aload_n 0, 1) := by decide +kernel
theorem dL_law_608 : decode cL_law 608 = .ok (.iload_n 3, 1) := by decide +kernel
theorem dL_law_609 : decode cL_law 609 = .ok (.iconst 2, 1) := by decide +kernel
theorem dL_law_610 : decode cL_law 610 = .ok (.iadd, 1) := by decide +kernel
theorem dL_law_611 : decode cL_law 611 = .ok (.iaload, 1) := by decide +kernel
theorem dL_law_612 : decode cL_law 612 = .ok (.aload_n 0, 1) := by decide +kernel
theorem dL_law_613 : decode cL_law 613 = .ok (.iload_n 3, 1) := by decide +kernel
theorem dL_law_614 : decode cL_law 614 = .ok (.iconst 3, 1) := by decide +kernel
theorem dL_law_615 : decode cL_law 615 = .ok (.iadd, 1) := by decide +kernel
theorem dL_law_616 : decode cL_law 616 = .ok (.iaload, 1) := by decide +kernel
theorem dL_law_617 : decode cL_law 617 = .ok (.invokevirtual 85, 3) := by decide +kernel
theorem dL_law_620 : decode cL_law 620 = .ok (.if_icmp .eq 156, 3) := by decide +kernel
theorem dL_law_623 : decode cL_law 623 = .ok (.iconst 0, 1) := by decide +kernel
theorem dL_law_624 : decode cL_law 624 = .ok (.ireturn, 1) := by decide +kernel
theorem dL_law_625 : decode cL_law 625 = .ok (.aload_n 1, 1) := by decide +kernel
theorem dL_law_626 : decode cL_law 626 = .ok (.aload_n 0, 1) := by decide +kernel
theorem dL_law_627 : decode cL_law 627 = .ok (.iload_n 3, 1) := by decide +kernel
theorem dL_law_628 : decode cL_law 628 = .ok (.iconst 1, 1) := by decide +kernel
theorem dL_law_629 : decode cL_law 629 = .ok (.iadd, 1) := by decide +kernel
theorem dL_law_630 : decode cL_law 630 = .ok (.iaload, 1) := by decide +kernel
theorem dL_law_631 : decode cL_law 631 = .ok (.i2l, 1) := by decide +kernel
theorem dL_law_632 : decode cL_law 632 = .ok (.bipush 32, 2) := by decide +kernel
theorem dL_law_634 : decode cL_law 634 = .ok (.lshl, 1) := by decide +kernel
theorem dL_law_635 : decode cL_law 635 = .ok (.aload_n 0, 1) := by decide +kernel
theorem dL_law_636 : decode cL_law 636 = .ok (.iload_n 3, 1) := by decide +kernel
theorem dL_law_637 : decode cL_law 637 = .ok (.iconst 2, 1) := by decide +kernel
theorem dL_law_638 : decode cL_law 638 = .ok (.iadd, 1) := by decide +kernel
theorem dL_law_639 : decode cL_law 639 = .ok (.iaload, 1) := by decide +kernel
theorem dL_law_640 : decode cL_law 640 = .ok (.i2l, 1) := by decide +kernel
theorem dL_law_641 : decode cL_law 641 = .ok (.ldc2_w 86, 3) := by decide +kernel
theorem dL_law_644 : decode cL_law 644 = .ok (.land, 1) := by decide +kernel
theorem dL_law_645 : decode cL_law 645 = .ok (.lor, 1) := by decide +kernel
theorem dL_law_646 : decode cL_law 646 = .ok (.invokevirtual 88, 3) := by decide +kernel
theorem dL_law_649 : decode cL_law 649 = .ok (.aload_n 2, 1) := by decide +kernel
theorem dL_law_650 : decode cL_law 650 = .ok (.aload_n 0, 1) := by decide +kernel
theorem dL_law_651 : decode cL_law 651 = .ok (.iload_n 3, 1) := by decide +kernel
theorem dL_law_652 : decode cL_law 652 = .ok (.iconst 1, 1) := by decide +kernel
theorem dL_law_653 : decode cL_law 653 = .ok (.iadd, 1) := by decide +kernel
theorem dL_law_654 : decode cL_law 654 = .ok (.iaload, 1) := by decide +kernel
theorem dL_law_655 : decode cL_law 655 = .ok (.i2l, 1) := by decide +kernel
theorem dL_law_656 : decode cL_law 656 = .ok (.bipush 32, 2) := by decide +kernel
theorem dL_law_658 : decode cL_law 658 = .ok (.lshl, 1) := by decide +kernel
theorem dL_law_659 : decode cL_law 659 = .ok (.aload_n 0, 1) := by decide +kernel
theorem dL_law_660 : decode cL_law 660 = .ok (.iload_n 3, 1) := by decide +kernel
theorem dL_law_661 : decode cL_law 661 = .ok (.iconst 2, 1) := by decide +kernel
theorem dL_law_662 : decode cL_law 662 = .ok (.iadd, 1) := by decide +kernel
theorem dL_law_663 : decode cL_law 663 = .ok (.iaload, 1) := by decide +kernel
theorem dL_law_664 : decode cL_law 664 = .ok (.i2l, 1) := by decide +kernel
theorem dL_law_665 : decode cL_law 665 = .ok (.ldc2_w 86, 3) := by decide +kernel
theorem dL_law_668 : decode cL_law 668 = .ok (.land, 1) := by decide +kernel
theorem dL_law_669 : decode cL_law 669 = .ok (.lor, 1) := by decide +kernel
theorem dL_law_670 : decode cL_law 670 = .ok (.invokevirtual 92, 3) := by decide +kernel
theorem dL_law_673 : decode cL_law 673 = .ok (.if_icmp .eq 103, 3) := by decide +kernel
theorem dL_law_676 : decode cL_law 676 = .ok (.iconst 0, 1) := by decide +kernel
theorem dL_law_677 : decode cL_law 677 = .ok (.ireturn, 1) := by decide +kernel
theorem dL_law_678 : decode cL_law 678 = .ok (.aload_n 1, 1) := by decide +kernel
theorem dL_law_679 : decode cL_law 679 = .ok (.invokevirtual 93, 3) := by decide +kernel
theorem dL_law_682 : decode cL_law 682 = .ok (.aload_n 2, 1) := by decide +kernel
theorem dL_law_683 : decode cL_law 683 = .ok (.invokevirtual 96, 3) := by decide +kernel
theorem dL_law_686 : decode cL_law 686 = .ok (.if_icmp .eq 90, 3) := by decide +kernel
theorem dL_law_689 : decode cL_law 689 = .ok (.iconst 0, 1) := by decide +kernel
theorem dL_law_690 : decode cL_law 690 = .ok (.ireturn, 1) := by decide +kernel
theorem dL_law_691 : decode cL_law 691 = .ok (.aload_n 1, 1) := by decide +kernel
theorem dL_law_692 : decode cL_law 692 = .ok (.invokevirtual 97, 3) := by decide +kernel
theorem dL_law_695 : decode cL_law 695 = .ok (.aload_n 2, 1) := by decide +kernel
theorem dL_law_696 : decode cL_law 696 = .ok (.invokevirtual 100, 3) := by decide +kernel
theorem dL_law_699 : decode cL_law 699 = .ok (.if_icmp .eq 77, 3) := by decide +kernel
theorem dL_law_702 : decode cL_law 702 = .ok (.iconst 0, 1) := by decide +kernel
theorem dL_law_703 : decode cL_law 703 = .ok (.ireturn, 1) := by decide +kernel
theorem dL_law_704 : decode cL_law 704 = .ok (.aload_n 1, 1) := by decide +kernel
theorem dL_law_705 : decode cL_law 705 = .ok (.invokevirtual 101, 3) := by decide +kernel
theorem dL_law_708 : decode cL_law 708 = .ok (.aload_n 2, 1) := by decide +kernel
theorem dL_law_709 : decode cL_law 709 = .ok (.invokevirtual 104, 3) := by decide +kernel
theorem dL_law_712 : decode cL_law 712 = .ok (.if_icmp .eq 64, 3) := by decide +kernel
theorem dL_law_715 : decode cL_law 715 = .ok (.iconst 0, 1) := by decide +kernel
theorem dL_law_716 : decode cL_law 716 = .ok (.ireturn, 1) := by decide +kernel
theorem dL_law_717 : decode cL_law 717 = .ok (.aload_n 1, 1) := by decide +kernel
theorem dL_law_718 : decode cL_law 718 = .ok (.invokevirtual 105, 3) := by decide +kernel
theorem dL_law_721 : decode cL_law 721 = .ok (.aload_n 2, 1) := by decide +kernel
theorem dL_law_722 : decode cL_law 722 = .ok (.invokevirtual 108, 3) := by decide +kernel
theorem dL_law_725 : decode cL_law 725 = .ok (.if_icmp .eq 51, 3) := by decide +kernel
theorem dL_law_728 : decode cL_law 728 = .ok (.iconst 0, 1) := by decide +kernel
theorem dL_law_729 : decode cL_law 729 = .ok (.ireturn, 1) := by decide +kernel
theorem dL_law_730 : decode cL_law 730 = .ok (.aload_n 1, 1) := by decide +kernel
theorem dL_law_731 : decode cL_law 731 = .ok (.aload_n 0, 1) := by decide +kernel
theorem dL_law_732 : decode cL_law 732 = .ok (.iload_n 3, 1) := by decide +kernel
theorem dL_law_733 : decode cL_law 733 = .ok (.iconst 1, 1) := by decide +kernel
theorem dL_law_734 : decode cL_law 734 = .ok (.iadd, 1) := by decide +kernel
theorem dL_law_735 : decode cL_law 735 = .ok (.iaload, 1) := by decide +kernel
theorem dL_law_736 : decode cL_law 736 = .ok (.invokevirtual 109, 3) := by decide +kernel
theorem dL_law_739 : decode cL_law 739 = .ok (.aload_n 2, 1) := by decide +kernel
theorem dL_law_740 : decode cL_law 740 = .ok (.aload_n 0, 1) := by decide +kernel
theorem dL_law_741 : decode cL_law 741 = .ok (.iload_n 3, 1) := by decide +kernel
theorem dL_law_742 : decode cL_law 742 = .ok (.iconst 1, 1) := by decide +kernel
theorem dL_law_743 : decode cL_law 743 = .ok (.iadd, 1) := by decide +kernel
theorem dL_law_744 : decode cL_law 744 = .ok (.iaload, 1) := by decide +kernel
theorem dL_law_745 : decode cL_law 745 = .ok (.invokevirtual 112, 3) := by decide +kernel
theorem dL_law_748 : decode cL_law 748 = .ok (.if_icmp .eq 28, 3) := by decide +kernel
theorem dL_law_751 : decode cL_law 751 = .ok (.iconst 0, 1) := by decide +kernel
theorem dL_law_752 : decode cL_law 752 = .ok (.ireturn, 1) := by decide +kernel
theorem dL_law_753 : decode cL_law 753 = .ok (.aload_n 1, 1) := by decide +kernel
theorem dL_law_754 : decode cL_law 754 = .ok (.aload_n 0, 1) := by decide +kernel
theorem dL_law_755 : decode cL_law 755 = .ok (.iload_n 3, 1) := by decide +kernel
theorem dL_law_756 : decode cL_law 756 = .ok (.iconst 1, 1) := by decide +kernel
theorem dL_law_757 : decode cL_law 757 = .ok (.iadd, 1) := by decide +kernel
theorem dL_law_758 : decode cL_law 758 = .ok (.iaload, 1) := by decide +kernel
theorem dL_law_759 : decode cL_law 759 = .ok (.invokevirtual 113, 3) := by decide +kernel
theorem dL_law_762 : decode cL_law 762 = .ok (.aload_n 2, 1) := by decide +kernel
theorem dL_law_763 : decode cL_law 763 = .ok (.aload_n 0, 1) := by decide +kernel
theorem dL_law_764 : decode cL_law 764 = .ok (.iload_n 3, 1) := by decide +kernel
theorem dL_law_765 : decode cL_law 765 = .ok (.iconst 1, 1) := by decide +kernel
theorem dL_law_766 : decode cL_law 766 = .ok (.iadd, 1) := by decide +kernel
theorem dL_law_767 : decode cL_law 767 = .ok (.iaload, 1) := by decide +kernel
theorem dL_law_768 : decode cL_law 768 = .ok (.invokevirtual 116, 3) := by decide +kernel
theorem dL_law_771 : decode cL_law 771 = .ok (.if_icmp .eq 5, 3) := by decide +kernel
theorem dL_law_774 : decode cL_law 774 = .ok (.iconst 0, 1) := by decide +kernel
theorem dL_law_775 : decode cL_law 775 = .ok (.ireturn, 1) := by decide +kernel
theorem dL_law_776 : decode cL_law 776 = .ok (.iinc 3 6, 3) := by decide +kernel
theorem dL_law_779 : decode cL_law 779 = .ok (.goto (-761), 3) := by decide +kernel
theorem dL_law_782 : decode cL_law 782 = .ok (.iconst 1, 1) := by decide +kernel
theorem dL_law_783 : decode cL_law 783 = .ok (.ireturn, 1) := by decide +kernel
end
section
theorem dJ11_isValidCodePoint_9a6ad_0 : decode cJ11_isValidCodePoint_9a6ad 0 = .ok (.iload_n 0, 1) := by decide +kernel
theorem dJ11_isValidCodePoint_9a6ad_1 : decode cJ11_isValidCodePoint_9a6ad 1 = .ok (.bipush 16, 2) := by decide +kernel
theorem dJ11_isValidCodePoint_9a6ad_3 : decode cJ11_isValidCodePoint_9a6ad 3 = .ok (.iushr, 1) := by decide +kernel
theorem dJ11_isValidCodePoint_9a6ad_4 : decode cJ11_isValidCodePoint_9a6ad 4 = .ok (.istore_n 1, 1) := by decide +kernel
theorem dJ11_isValidCodePoint_9a6ad_5 : decode cJ11_isValidCodePoint_9a6ad 5 = .ok (.iload_n 1, 1) := by decide +kernel
theorem dJ11_isValidCodePoint_9a6ad_6 : decode cJ11_isValidCodePoint_9a6ad 6 = .ok (.bipush 17, 2) := by decide +kernel
theorem dJ11_isValidCodePoint_9a6ad_8 : decode cJ11_isValidCodePoint_9a6ad 8 = .ok (.if_icmp .ge 7, 3) := by decide +kernel
theorem dJ11_isValidCodePoint_9a6ad_11 : decode cJ11_isValidCodePoint_9a6ad 11 = .ok (.iconst 1, 1) := by decide +kernel
theorem dJ11_isValidCodePoint_9a6ad_12 : decode cJ11_isValidCodePoint_9a6ad 12 = .ok (.goto 4, 3) := by decide +kernel
theorem dJ11_isValidCodePoint_9a6ad_15 : decode cJ11_isValidCodePoint_9a6ad 15 = .ok (.iconst 0, 1) := by decide +kernel
theorem dJ11_isValidCodePoint_9a6ad_16 : decode cJ11_isValidCodePoint_9a6ad 16 = .ok (.ireturn, 1) := by decide +kernel
theorem dJ11_highSurrogate_5068e_0 : decode cJ11_highSurrogate_5068e 0 = .ok (.iload_n 0, 1) := by decide +kernel
theorem dJ11_highSurrogate_5068e_1 : decode cJ11_highSurrogate_5068e 1 = .ok (.bipush 10, 2) := by decide +kernel
theorem dJ11_highSurrogate_5068e_3 : decode cJ11_highSurrogate_5068e 3 = .ok (.iushr, 1) := by decide +kernel
theorem dJ11_highSurrogate_5068e_4 : decode cJ11_highSurrogate_5068e 4 = .ok (.ldc 110, 2) := by decide +kernel
theorem dJ11_highSurrogate_5068e_6 : decode cJ11_highSurrogate_5068e 6 = .ok (.iadd, 1) := by decide +kernel
theorem dJ11_highSurrogate_5068e_7 : decode cJ11_highSurrogate_5068e 7 = .ok (.i2c, 1) := by decide +kernel
theorem dJ11_highSurrogate_5068e_8 : decode cJ11_highSurrogate_5068e 8 = .ok (.ireturn, 1) := by decide +kernel
theorem dJ11_lowSurrogate_5068e_0 : decode cJ11_lowSurrogate_5068e 0 = .ok (.iload_n 0, 1) := by decide +kernel
theorem dJ11_lowSurrogate_5068e_1 : decode cJ11_lowSurrogate_5068e 1 = .ok (.sipush 1023, 3) := by decide +kernel
theorem dJ11_lowSurrogate_5068e_4 : decode cJ11_lowSurrogate_5068e 4 = .ok (.iand, 1) := by decide +kernel
theorem dJ11_lowSurrogate_5068e_5 : decode cJ11_lowSurrogate_5068e 5 = .ok (.ldc 76, 2) := by decide +kernel
theorem dJ11_lowSurrogate_5068e_7 : decode cJ11_lowSurrogate_5068e 7 = .ok (.iadd, 1) := by decide +kernel
theorem dJ11_lowSurrogate_5068e_8 : decode cJ11_lowSurrogate_5068e 8 = .ok (.i2c, 1) := by decide +kernel
theorem dJ11_lowSurrogate_5068e_9 : decode cJ11_lowSurrogate_5068e 9 = .ok (.ireturn, 1) := by decide +kernel
theorem dJ9_max_7cf53_0 : decode cJ9_max_7cf53 0 = .ok (.iload_n 0, 1) := by decide +kernel
theorem dJ9_max_7cf53_1 : decode cJ9_max_7cf53 1 = .ok (.iload_n 1, 1) := by decide +kernel
theorem dJ9_max_7cf53_2 : decode cJ9_max_7cf53 2 = .ok (.if_icmp .lt 7, 3) := by decide +kernel
theorem dJ9_max_7cf53_5 : decode cJ9_max_7cf53 5 = .ok (.iload_n 0, 1) := by decide +kernel
theorem dJ9_max_7cf53_6 : decode cJ9_max_7cf53 6 = .ok (.goto 4, 3) := by decide +kernel
theorem dJ9_max_7cf53_9 : decode cJ9_max_7cf53 9 = .ok (.iload_n 1, 1) := by decide +kernel
theorem dJ9_max_7cf53_10 : decode cJ9_max_7cf53 10 = .ok (.ireturn, 1) := by decide +kernel
theorem dJ9_min_7cf53_0 : decode cJ9_min_7cf53 0 = .ok (.iload_n 0, 1) := by decide +kernel
theorem dJ9_min_7cf53_1 : decode cJ9_min_7cf53 1 = .ok (.iload_n 1, 1) := by decide +kernel
theorem dJ9_min_7cf53_2 : decode cJ9_min_7cf53 2 = .ok (.if_icmp .gt 7, 3) := by decide +kernel
theorem dJ9_min_7cf53_5 : decode cJ9_min_7cf53 5 = .ok (.iload_n 0, 1) := by decide +kernel
theorem dJ9_min_7cf53_6 : decode cJ9_min_7cf53 6 = .ok (.goto 4, 3) := by decide +kernel
theorem dJ9_min_7cf53_9 : decode cJ9_min_7cf53 9 = .ok (.iload_n 1, 1) := by decide +kernel
theorem dJ9_min_7cf53_10 : decode cJ9_min_7cf53 10 = .ok (.ireturn, 1) := by decide +kernel
theorem dJ0_length_8abf5_0 : decode cJ0_length_8abf5 0 = .ok (.aload_n 0, 1) := by decide +kernel
theorem dJ0_length_8abf5_1 : decode cJ0_length_8abf5 1 = .ok (.getfield 9, 3) := by decide +kernel
theorem dJ0_length_8abf5_4 : decode cJ0_length_8abf5 4 = .ok (.arraylength, 1) := by decide +kernel
theorem dJ0_length_8abf5_5 : decode cJ0_length_8abf5 5 = .ok (.aload_n 0, 1) := by decide +kernel
theorem dJ0_length_8abf5_6 : decode cJ0_length_8abf5 6 = .ok (.invokevirtual 335, 3) := by decide +kernel
theorem dJ0_length_8abf5_9 : decode cJ0_length_8abf5 9 = .ok (.ishr, 1) := by decide +kernel
theorem dJ0_length_8abf5_10 : decode cJ0_length_8abf5 10 = .ok (.ireturn, 1) := by decide +kernel
theorem dJ0_indexOf_0f7a4_0 : decode cJ0_indexOf_0f7a4 0 = .ok (.aload_n 0, 1) := by decide +kernel
theorem dJ0_indexOf_0f7a4_1 : decode cJ0_indexOf_0f7a4 1 = .ok (.iload_n 1, 1) := by decide +kernel
theorem dJ0_indexOf_0f7a4_2 : decode cJ0_indexOf_0f7a4 2 = .ok (.iconst 0, 1) := by decide +kernel
theorem dJ0_indexOf_0f7a4_3 : decode cJ0_indexOf_0f7a4 3 = .ok (.invokevirtual 633, 3) := by decide +kernel
theorem dJ0_indexOf_0f7a4_6 : decode cJ0_indexOf_0f7a4 6 = .ok (.ireturn, 1) := by decide +kernel
theorem dJ0_indexOf_7cf53_0 : decode cJ0_indexOf_7cf53 0 = .ok (.aload_n 0, 1) := by decide +kernel
theorem dJ0_indexOf_7cf53_1 : decode cJ0_indexOf_7cf53 1 = .ok (.invokevirtual 492, 3) := by decide +kernel
theorem dJ0_indexOf_7cf53_4 : decode cJ0_indexOf_7cf53 4 = .ok (.ifCond .eq 19, 3) := by decide +kernel
theorem dJ0_indexOf_7cf53_7 : decode cJ0_indexOf_7cf53 7 = .ok (.aload_n 0, 1) := by decide +kernel
theorem dJ0_indexOf_7cf53_8 : decode cJ0_indexOf_7cf53 8 = .ok (.getfield 9, 3) := by decide +kernel
theorem dJ0_indexOf_7cf53_11 : decode cJ0_indexOf_7cf53 11 = .ok (.iload_n 1, 1) := by decide +kernel
theorem dJ0_indexOf_7cf53_12 : decode cJ0_indexOf_7cf53 12 = .ok (.iload_n 2, 1) := by decide +kernel
theorem dJ0_indexOf_7cf53_13 : decode cJ0_indexOf_7cf53 13 = .ok (.aload_n 0, 1) := by decide +kernel
theorem dJ0_indexOf_7cf53_14 : decode cJ0_indexOf_7cf53 14 = .ok (.invokevirtual 505, 3) := by decide +kernel
theorem dJ0_indexOf_7cf53_17 : decode cJ0_indexOf_7cf53 17 = .ok (.invokestatic 637, 3) := by decide +kernel
theorem dJ0_indexOf_7cf53_20 : decode cJ0_indexOf_7cf53 20 = .ok (.goto 16, 3) := by decide +kernel
theorem dJ0_indexOf_7cf53_23 : decode cJ0_indexOf_7cf53 23 = .ok (.aload_n 0, 1) := by decide +kernel
theorem dJ0_indexOf_7cf53_24 : decode cJ0_indexOf_7cf53 24 = .ok (.getfield 9, 3) := by decide +kernel
theorem dJ0_indexOf_7cf53_27 : decode cJ0_indexOf_7cf53 27 = .ok (.iload_n 1, 1) := by decide +kernel
theorem dJ0_indexOf_7cf53_28 : decode cJ0_indexOf_7cf53 28 = .ok (.iload_n 2, 1) := by decide +kernel
theorem dJ0_indexOf_7cf53_29 : decode cJ0_indexOf_7cf53 29 = .ok (.aload_n 0, 1) := by decide +kernel
theorem dJ0_indexOf_7cf53_30 : decode cJ0_indexOf_7cf53 30 = .ok (.invokevirtual 505, 3) := by decide +kernel
theorem dJ0_indexOf_7cf53_33 : decode cJ0_indexOf_7cf53 33 = .ok (.invokestatic 640, 3) := by decide +kernel
theorem dJ0_indexOf_7cf53_36 : decode cJ0_indexOf_7cf53 36 = .ok (.ireturn, 1) := by decide +kernel
theorem dJ0_coder_7d493_0 : decode cJ0_coder_7d493 0 = .ok (.getstatic 38, 3) := by decide +kernel
theorem dJ0_coder_7d493_3 : decode cJ0_coder_7d493 3 = .ok (.ifCond .eq 10, 3) := by decide +kernel
theorem dJ0_coder_7d493_6 : decode cJ0_coder_7d493 6 = .ok (.aload_n 0, 1) := by decide +kernel
theorem dJ0_coder_7d493_7 : decode cJ0_coder_7d493 7 = .ok (.getfield 15, 3) := by decide +kernel
theorem dJ0_coder_7d493_10 : decode cJ0_coder_7d493 10 = .ok (.goto 4, 3) := by decide +kernel
theorem dJ0_coder_7d493_13 : decode cJ0_coder_7d493 13 = .ok (.iconst 1, 1) := by decide +kernel
theorem dJ0_coder_7d493_14 : decode cJ0_coder_7d493 14 = .ok (.ireturn, 1) := by decide +kernel
theorem dJ0_isLatin1_aae02_0 : decode cJ0_isLatin1_aae02 0 = .ok (.getstatic 38, 3) := by decide +kernel
theorem dJ0_isLatin1_aae02_3 : decode cJ0_isLatin1_aae02 3 = .ok (.ifCond .eq 14, 3) := by decide +kernel
theorem dJ0_isLatin1_aae02_6 : decode cJ0_isLatin1_aae02 6 = .ok (.aload_n 0, 1) := by decide +kernel
theorem dJ0_isLatin1_aae02_7 : decode cJ0_isLatin1_aae02 7 = .ok (.getfield 15, 3) := by decide +kernel
theorem dJ0_isLatin1_aae02_10 : decode cJ0_isLatin1_aae02 10 = .ok (.ifCond .ne 7, 3) := by decide +kernel
theorem dJ0_isLatin1_aae02_13 : decode cJ0_isLatin1_aae02 13 = .ok (.iconst 1, 1) := by decide +kernel
theorem dJ0_isLatin1_aae02_14 : decode cJ0_isLatin1_aae02 14 = .ok (.goto 4, 3) := by decide +kernel
theorem dJ0_isLatin1_aae02_17 : decode cJ0_isLatin1_aae02 17 = .ok (.iconst 0, 1) := by decide +kernel
theorem dJ0_isLatin1_aae02_18 : decode cJ0_isLatin1_aae02 18 = .ok (.ireturn, 1) := by decide +kernel
theorem dJ0_checkBoundsBeginEnd_23922_0 : decode cJ0_checkBoundsBeginEnd_23922 0 = .ok (.iload_n 0, 1) := by decide +kernel
theorem dJ0_checkBoundsBeginEnd_23922_1 : decode cJ0_checkBoundsBeginEnd_23922 1 = .ok (.iload_n 1, 1) := by decide +kernel
theorem dJ0_checkBoundsBeginEnd_23922_2 : decode cJ0_checkBoundsBeginEnd_23922 2 = .ok (.iload_n 2, 1) := by decide +kernel
theorem dJ0_checkBoundsBeginEnd_23922_3 : decode cJ0_checkBoundsBeginEnd_23922 3 = .ok (.getstatic 1053, 3) := by decide +kernel
theorem dJ0_checkBoundsBeginEnd_23922_6 : decode cJ0_checkBoundsBeginEnd_23922 6 = .ok (.invokestatic 1062, 3) := by decide +kernel
theorem dJ0_checkBoundsBeginEnd_23922_9 : decode cJ0_checkBoundsBeginEnd_23922 9 = .ok (.pop, 1) := by decide +kernel
theorem dJ0_checkBoundsBeginEnd_23922_10 : decode cJ0_checkBoundsBeginEnd_23922 10 = .ok (.return_, 1) := by decide +kernel
theorem dJ1_canEncode_9a6ad_0 : decode cJ1_canEncode_9a6ad 0 = .ok (.iload_n 0, 1) := by decide +kernel
theorem dJ1_canEncode_9a6ad_1 : decode cJ1_canEncode_9a6ad 1 = .ok (.ifCond .lt 14, 3) := by decide +kernel
theorem dJ1_canEncode_9a6ad_4 : decode cJ1_canEncode_9a6ad 4 = .ok (.iload_n 0, 1) := by decide +kernel
theorem dJ1_canEncode_9a6ad_5 : decode cJ1_canEncode_9a6ad 5 = .ok (.sipush 255, 3) := by decide +kernel
theorem dJ1_canEncode_9a6ad_8 : decode cJ1_canEncode_9a6ad 8 = .ok (.if_icmp .gt 7, 3) := by decide +kernel
theorem dJ1_canEncode_9a6ad_11 : decode cJ1_canEncode_9a6ad 11 = .ok (.iconst 1, 1) := by decide +kernel
theorem dJ1_canEncode_9a6ad_12 : decode cJ1_canEncode_9a6ad 12 = .ok (.goto 4, 3) := by decide +kernel
theorem dJ1_canEncode_9a6ad_15 : decode cJ1_canEncode_9a6ad 15 = .ok (.iconst 0, 1) := by decide +kernel
theorem dJ1_canEncode_9a6ad_16 : decode cJ1_canEncode_9a6ad 16 = .ok (.ireturn, 1) := by decide +kernel
theorem dJ1_indexOf_4cfef_0 : decode cJ1_indexOf_4cfef 0 = .ok (.iload_n 1, 1) := by decide +kernel
theorem dJ1_indexOf_4cfef_1 : decode cJ1_indexOf_4cfef 1 = .ok (.invokestatic 88, 3) := by decide +kernel
theorem dJ1_indexOf_4cfef_4 : decode cJ1_indexOf_4cfef 4 = .ok (.ifCond .ne 5, 3) := by decide +kernel
theorem dJ1_indexOf_4cfef_7 : decode cJ1_indexOf_4cfef 7 = .ok (.iconst (-1), 1) := by decide +kernel
theorem dJ1_indexOf_4cfef_8 : decode cJ1_indexOf_4cfef 8 = .ok (.ireturn, 1) := by decide +kernel
theorem dJ1_indexOf_4cfef_9 : decode cJ1_indexOf_4cfef 9 = .ok (.iload_n 2, 1) := by decide +kernel
theorem dJ1_indexOf_4cfef_10 : decode cJ1_indexOf_4cfef 10 = .ok (.iconst 0, 1) := by decide +kernel
theorem dJ1_indexOf_4cfef_11 : decode cJ1_indexOf_4cfef 11 = .ok (.invokestatic 92, 3) := by decide +kernel
theorem dJ1_indexOf_4cfef_14 : decode cJ1_indexOf_4cfef 14 = .ok (.istore_n 2, 1) := by decide +kernel
theorem dJ1_indexOf_4cfef_15 : decode cJ1_indexOf_4cfef 15 = .ok (.iload_n 3, 1) := by decide +kernel
theorem dJ1_indexOf_4cfef_16 : decode cJ1_indexOf_4cfef 16 = .ok (.aload_n 0, 1) := by decide +kernel
theorem dJ1_indexOf_4cfef_17 : decode cJ1_indexOf_4cfef 17 = .ok (.arraylength, 1) := by decide +kernel
theorem dJ1_indexOf_4cfef_18 : decode cJ1_indexOf_4cfef 18 = .ok (.invokestatic 38, 3) := by decide +kernel
theorem dJ1_indexOf_4cfef_21 : decode cJ1_indexOf_4cfef 21 = .ok (.istore_n 3, 1) := by decide +kernel
theorem dJ1_indexOf_4cfef_22 : decode cJ1_indexOf_4cfef 22 = .ok (.iload_n 2, 1) := by decide +kernel
theorem dJ1_indexOf_4cfef_23 : decode cJ1_indexOf_4cfef 23 = .ok (.iload_n 3, 1) := by decide +kernel
theorem dJ1_indexOf_4cfef_24 : decode cJ1_indexOf_4cfef 24 = .ok (.if_icmp .lt 5, 3) := by decide +kernel
theorem dJ1_indexOf_4cfef_27 : decode cJ1_indexOf_4cfef 27 = .ok (.iconst (-1), 1) := by decide +kernel
theorem dJ1_indexOf_4cfef_28 : decode cJ1_indexOf_4cfef 28 = .ok (.ireturn, 1) := by decide +kernel
theorem dJ1_indexOf_4cfef_29 : decode cJ1_indexOf_4cfef 29 = .ok (.aload_n 0, 1) := by decide +kernel
theorem dJ1_indexOf_4cfef_30 : decode cJ1_indexOf_4cfef 30 = .ok (.iload_n 1, 1) := by decide +kernel
theorem dJ1_indexOf_4cfef_31 : decode cJ1_indexOf_4cfef 31 = .ok (.iload_n 2, 1) := by decide +kernel
theorem dJ1_indexOf_4cfef_32 : decode cJ1_indexOf_4cfef 32 = .ok (.iload_n 3, 1) := by decide +kernel
theorem dJ1_indexOf_4cfef_33 : decode cJ1_indexOf_4cfef 33 = .ok (.invokestatic 95, 3) := by decide +kernel
theorem dJ1_indexOf_4cfef_36 : decode cJ1_indexOf_4cfef 36 = .ok (.ireturn, 1) := by decide +kernel
theorem dJ1_indexOfChar_4cfef_0 : decode cJ1_indexOfChar_4cfef 0 = .ok (.iload_n 1, 1) := by decide +kernel
theorem dJ1_indexOfChar_4cfef_1 : decode cJ1_indexOfChar_4cfef 1 = .ok (.i2b, 1) := by decide +kernel
theorem dJ1_indexOfChar_4cfef_2 : decode cJ1_indexOfChar_4cfef 2 = .ok (.istore 4, 2) := by decide +kernel
theorem dJ1_indexOfChar_4cfef_4 : decode cJ1_indexOfChar_4cfef 4 = .ok (.iload_n 2, 1) := by decide +kernel
theorem dJ1_indexOfChar_4cfef_5 : decode cJ1_indexOfChar_4cfef 5 = .ok (.istore 5, 2) := by decide +kernel
theorem dJ1_indexOfChar_4cfef_7 : decode cJ1_indexOfChar_4cfef 7 = .ok (.iload 5, 2) := by decide +kernel
theorem dJ1_indexOfChar_4cfef_9 : decode cJ1_indexOfChar_4cfef 9 = .ok (.iload_n 3, 1) := by decide +kernel
theorem dJ1_indexOfChar_4cfef_10 : decode cJ1_indexOfChar_4cfef 10 = .ok (.if_icmp .ge 21, 3) := by decide +kernel
theorem dJ1_indexOfChar_4cfef_13 : decode cJ1_indexOfChar_4cfef 13 = .ok (.aload_n 0, 1) := by decide +kernel
theorem dJ1_indexOfChar_4cfef_14 : decode cJ1_indexOfChar_4cfef 14 = .ok (.iload 5, 2) := by decide +kernel
theorem dJ1_indexOfChar_4cfef_16 : decode cJ1_indexOfChar_4cfef 16 = .ok (.baload, 1) := by decide +kernel
theorem dJ1_indexOfChar_4cfef_17 : decode cJ1_indexOfChar_4cfef 17 = .ok (.iload 4, 2) := by decide +kernel
theorem dJ1_indexOfChar_4cfef_19 : decode cJ1_indexOfChar_4cfef 19 = .ok (.if_icmp .ne 6, 3) := by decide +kernel
theorem dJ1_indexOfChar_4cfef_22 : decode cJ1_indexOfChar_4cfef 22 = .ok (.iload 5, 2) := by decide +kernel
theorem dJ1_indexOfChar_4cfef_24 : decode cJ1_indexOfChar_4cfef 24 = .ok (.ireturn, 1) := by decide +kernel
theorem dJ1_indexOfChar_4cfef_25 : decode cJ1_indexOfChar_4cfef 25 = .ok (.iinc 5 1, 3) := by decide +kernel
theorem dJ1_indexOfChar_4cfef_28 : decode cJ1_indexOfChar_4cfef 28 = .ok (.goto (-21), 3) := by decide +kernel
theorem dJ1_indexOfChar_4cfef_31 : decode cJ1_indexOfChar_4cfef 31 = .ok (.iconst (-1), 1) := by decide +kernel
theorem dJ1_indexOfChar_4cfef_32 : decode cJ1_indexOfChar_4cfef 32 = .ok (.ireturn, 1) := by decide +kernel
theorem dJ2_getChar_3b067_0 : decode cJ2_getChar_3b067 0 = .ok (.getstatic 44, 3) := by decide +kernel
theorem dJ2_getChar_3b067_3 : decode cJ2_getChar_3b067 3 = .ok (.ifCond .ne 25, 3) := by decide +kernel
theorem dJ2_getChar_3b067_6 : decode cJ2_getChar_3b067 6 = .ok (.iload_n 1, 1) := by decide +kernel
theorem dJ2_getChar_3b067_7 : decode cJ2_getChar_3b067 7 = .ok (.ifCond .lt 11, 3) := by decide +kernel
theorem dJ2_getChar_3b067_10 : decode cJ2_getChar_3b067 10 = .ok (.iload_n 1, 1) := by decide +kernel
theorem dJ2_getChar_3b067_11 : decode cJ2_getChar_3b067 11 = .ok (.aload_n 0, 1) := by decide +kernel
theorem dJ2_getChar_3b067_12 : decode cJ2_getChar_3b067 12 = .ok (.invokestatic 48, 3) := by decide +kernel
theorem dJ2_getChar_3b067_15 : decode cJ2_getChar_3b067 15 = .ok (.if_icmp .lt 13, 3) := by decide +kernel
theorem dJ2_getChar_3b067_18 : decode cJ2_getChar_3b067 18 = .ok (.new 52, 3) := by decide +kernel
theorem dJ2_getChar_3b067_21 : decode cJ2_getChar_3b067 21 = .ok (.dup, 1) := by decide +kernel
theorem dJ2_getChar_3b067_22 : decode cJ2_getChar_3b067 22 = .ok (.ldc 54, 2) := by decide +kernel
theorem dJ2_getChar_3b067_24 : decode cJ2_getChar_3b067 24 = .ok (.invokespecial 56, 3) := by decide +kernel
theorem dJ2_getChar_3b067_27 : decode cJ2_getChar_3b067 27 = .ok (.athrow, 1) := by decide +kernel
theorem dJ2_getChar_3b067_28 : decode cJ2_getChar_3b067 28 = .ok (.iload_n 1, 1) := by decide +kernel
theorem dJ2_getChar_3b067_29 : decode cJ2_getChar_3b067 29 = .ok (.iconst 1, 1) := by decide +kernel
theorem dJ2_getChar_3b067_30 : decode cJ2_getChar_3b067 30 = .ok (.ishl, 1) := by decide +kernel
theorem dJ2_getChar_3b067_31 : decode cJ2_getChar_3b067 31 = .ok (.istore_n 1, 1) := by decide +kernel
theorem dJ2_getChar_3b067_32 : decode cJ2_getChar_3b067 32 = .ok (.aload_n 0, 1) := by decide +kernel
theorem dJ2_getChar_3b067_33 : decode cJ2_getChar_3b067 33 = .ok (.iload_n 1, 1) := by decide +kernel
theorem dJ2_getChar_3b067_34 : decode cJ2_getChar_3b067 34 = .ok (.iinc 1 1, 3) := by decide +kernel
theorem dJ2_getChar_3b067_37 : decode cJ2_getChar_3b067 37 = .ok (.baload, 1) := by decide +kernel
theorem dJ2_getChar_3b067_38 : decode cJ2_getChar_3b067 38 = .ok (.sipush 255, 3) := by decide +kernel
theorem dJ2_getChar_3b067_41 : decode cJ2_getChar_3b067 41 = .ok (.iand, 1) := by decide +kernel
theorem dJ2_getChar_3b067_42 : decode cJ2_getChar_3b067 42 = .ok (.getstatic 59, 3) := by decide +kernel
theorem dJ2_getChar_3b067_45 : decode cJ2_getChar_3b067 45 = .ok (.ishl, 1) := by decide +kernel
theorem dJ2_getChar_3b067_46 : decode cJ2_getChar_3b067 46 = .ok (.aload_n 0, 1) := by decide +kernel
theorem dJ2_getChar_3b067_47 : decode cJ2_getChar_3b067 47 = .ok (.iload_n 1, 1) := by decide +kernel
theorem dJ2_getChar_3b067_48 : decode cJ2_getChar_3b067 48 = .ok (.baload, 1) := by decide +kernel
theorem dJ2_getChar_3b067_49 : decode cJ2_getChar_3b067 49 = .ok (.sipush 255, 3) := by decide +kernel
theorem dJ2_getChar_3b067_52 : decode cJ2_getChar_3b067 52 = .ok (.iand, 1) := by decide +kernel
theorem dJ2_getChar_3b067_53 : decode cJ2_getChar_3b067 53 = .ok (.getstatic 63, 3) := by decide +kernel
theorem dJ2_getChar_3b067_56 : decode cJ2_getChar_3b067 56 = .ok (.ishl, 1) := by decide +kernel
theorem dJ2_getChar_3b067_57 : decode cJ2_getChar_3b067 57 = .ok (.ior, 1) := by decide +kernel
theorem dJ2_getChar_3b067_58 : decode cJ2_getChar_3b067 58 = .ok (.i2c, 1) := by decide +kernel
theorem dJ2_getChar_3b067_59 : decode cJ2_getChar_3b067 59 = .ok (.ireturn, 1) := by decide +kernel
theorem dJ2_length_9d52b_0 : decode cJ2_length_9d52b 0 = .ok (.aload_n 0, 1) := by decide +kernel
theorem dJ2_length_9d52b_1 : decode cJ2_length_9d52b 1 = .ok (.arraylength, 1) := by decide +kernel
theorem dJ2_length_9d52b_2 : decode cJ2_length_9d52b 2 = .ok (.iconst 1, 1) := by decide +kernel
theorem dJ2_length_9d52b_3 : decode cJ2_length_9d52b 3 = .ok (.ishr, 1) := by decide +kernel
theorem dJ2_length_9d52b_4 : decode cJ2_length_9d52b 4 = .ok (.ireturn, 1) := by decide +kernel
theorem dJ2_indexOf_4cfef_0 : decode cJ2_indexOf_4cfef 0 = .ok (.iload_n 2, 1) := by decide +kernel
theorem dJ2_indexOf_4cfef_1 : decode cJ2_indexOf_4cfef 1 = .ok (.iconst 0, 1) := by decide +kernel
theorem dJ2_indexOf_4cfef_2 : decode cJ2_indexOf_4cfef 2 = .ok (.invokestatic 224, 3) := by decide +kernel
theorem dJ2_indexOf_4cfef_5 : decode cJ2_indexOf_4cfef 5 = .ok (.istore_n 2, 1) := by decide +kernel
theorem dJ2_indexOf_4cfef_6 : decode cJ2_indexOf_4cfef 6 = .ok (.iload_n 3, 1) := by decide +kernel
theorem dJ2_indexOf_4cfef_7 : decode cJ2_indexOf_4cfef 7 = .ok (.aload_n 0, 1) := by decide +kernel
theorem dJ2_indexOf_4cfef_8 : decode cJ2_indexOf_4cfef 8 = .ok (.arraylength, 1) := by decide +kernel
theorem dJ2_indexOf_4cfef_9 : decode cJ2_indexOf_4cfef 9 = .ok (.iconst 1, 1) := by decide +kernel
theorem dJ2_indexOf_4cfef_10 : decode cJ2_indexOf_4cfef 10 = .ok (.ishr, 1) := by decide +kernel
theorem dJ2_indexOf_4cfef_11 : decode cJ2_indexOf_4cfef 11 = .ok (.invokestatic 183, 3) := by decide +kernel
theorem dJ2_indexOf_4cfef_14 : decode cJ2_indexOf_4cfef 14 = .ok (.istore_n 3, 1) := by decide +kernel
theorem dJ2_indexOf_4cfef_15 : decode cJ2_indexOf_4cfef 15 = .ok (.iload_n 2, 1) := by decide +kernel
theorem dJ2_indexOf_4cfef_16 : decode cJ2_indexOf_4cfef 16 = .ok (.iload_n 3, 1) := by decide +kernel
theorem dJ2_indexOf_4cfef_17 : decode cJ2_indexOf_4cfef 17 = .ok (.if_icmp .lt 5, 3) := by decide +kernel
theorem dJ2_indexOf_4cfef_20 : decode cJ2_indexOf_4cfef 20 = .ok (.iconst (-1), 1) := by decide +kernel
theorem dJ2_indexOf_4cfef_21 : decode cJ2_indexOf_4cfef 21 = .ok (.ireturn, 1) := by decide +kernel
theorem dJ2_indexOf_4cfef_22 : decode cJ2_indexOf_4cfef 22 = .ok (.iload_n 1, 1) := by decide +kernel
theorem dJ2_indexOf_4cfef_23 : decode cJ2_indexOf_4cfef 23 = .ok (.ldc 227, 2) := by decide +kernel
theorem dJ2_indexOf_4cfef_25 : decode cJ2_indexOf_4cfef 25 = .ok (.if_icmp .ge 11, 3) := by decide +kernel
theorem dJ2_indexOf_4cfef_28 : decode cJ2_indexOf_4cfef 28 = .ok (.aload_n 0, 1) := by decide +kernel
theorem dJ2_indexOf_4cfef_29 : decode cJ2_indexOf_4cfef 29 = .ok (.iload_n 1, 1) := by decide +kernel
theorem dJ2_indexOf_4cfef_30 : decode cJ2_indexOf_4cfef 30 = .ok (.iload_n 2, 1) := by decide +kernel
theorem dJ2_indexOf_4cfef_31 : decode cJ2_indexOf_4cfef 31 = .ok (.iload_n 3, 1) := by decide +kernel
theorem dJ2_indexOf_4cfef_32 : decode cJ2_indexOf_4cfef 32 = .ok (.invokestatic 228, 3) := by decide +kernel
theorem dJ2_indexOf_4cfef_35 : decode cJ2_indexOf_4cfef 35 = .ok (.ireturn, 1) := by decide +kernel
theorem dJ2_indexOf_4cfef_36 : decode cJ2_indexOf_4cfef 36 = .ok (.aload_n 0, 1) := by decide +kernel
theorem dJ2_indexOf_4cfef_37 : decode cJ2_indexOf_4cfef 37 = .ok (.iload_n 1, 1) := by decide +kernel
theorem dJ2_indexOf_4cfef_38 : decode cJ2_indexOf_4cfef 38 = .ok (.iload_n 2, 1) := by decide +kernel
theorem dJ2_indexOf_4cfef_39 : decode cJ2_indexOf_4cfef 39 = .ok (.iload_n 3, 1) := by decide +kernel
theorem dJ2_indexOf_4cfef_40 : decode cJ2_indexOf_4cfef 40 = .ok (.invokestatic 232, 3) := by decide +kernel
theorem dJ2_indexOf_4cfef_43 : decode cJ2_indexOf_4cfef 43 = .ok (.ireturn, 1) := by decide +kernel
theorem dJ2_indexOfChar_4cfef_0 : decode cJ2_indexOfChar_4cfef 0 = .ok (.iload_n 2, 1) := by decide +kernel
theorem dJ2_indexOfChar_4cfef_1 : decode cJ2_indexOfChar_4cfef 1 = .ok (.iload_n 3, 1) := by decide +kernel
theorem dJ2_indexOfChar_4cfef_2 : decode cJ2_indexOfChar_4cfef 2 = .ok (.aload_n 0, 1) := by decide +kernel
theorem dJ2_indexOfChar_4cfef_3 : decode cJ2_indexOfChar_4cfef 3 = .ok (.invokestatic 96, 3) := by decide +kernel
theorem dJ2_indexOfChar_4cfef_6 : decode cJ2_indexOfChar_4cfef 6 = .ok (.aload_n 0, 1) := by decide +kernel
theorem dJ2_indexOfChar_4cfef_7 : decode cJ2_indexOfChar_4cfef 7 = .ok (.iload_n 1, 1) := by decide +kernel
theorem dJ2_indexOfChar_4cfef_8 : decode cJ2_indexOfChar_4cfef 8 = .ok (.iload_n 2, 1) := by decide +kernel
theorem dJ2_indexOfChar_4cfef_9 : decode cJ2_indexOfChar_4cfef 9 = .ok (.iload_n 3, 1) := by decide +kernel
theorem dJ2_indexOfChar_4cfef_10 : decode cJ2_indexOfChar_4cfef 10 = .ok (.invokestatic 244, 3) := by decide +kernel
theorem dJ2_indexOfChar_4cfef_13 : decode cJ2_indexOfChar_4cfef 13 = .ok (.ireturn, 1) := by decide +kernel
theorem dJ2_indexOfCharUnsafe_4cfef_0 : decode cJ2_indexOfCharUnsafe_4cfef 0 = .ok (.iload_n 2, 1) := by decide +kernel
theorem dJ2_indexOfCharUnsafe_4cfef_1 : decode cJ2_indexOfCharUnsafe_4cfef 1 = .ok (.istore 4, 2) := by decide +kernel
theorem dJ2_indexOfCharUnsafe_4cfef_3 : decode cJ2_indexOfCharUnsafe_4cfef 3 = .ok (.iload 4, 2) := by decide +kernel
theorem dJ2_indexOfCharUnsafe_4cfef_5 : decode cJ2_indexOfCharUnsafe_4cfef 5 = .ok (.iload_n 3, 1) := by decide +kernel
theorem dJ2_indexOfCharUnsafe_4cfef_6 : decode cJ2_indexOfCharUnsafe_4cfef 6 = .ok (.if_icmp .ge 22, 3) := by decide +kernel
theorem dJ2_indexOfCharUnsafe_4cfef_9 : decode cJ2_indexOfCharUnsafe_4cfef 9 = .ok (.aload_n 0, 1) := by decide +kernel
theorem dJ2_indexOfCharUnsafe_4cfef_10 : decode cJ2_indexOfCharUnsafe_4cfef 10 = .ok (.iload 4, 2) := by decide +kernel
theorem dJ2_indexOfCharUnsafe_4cfef_12 : decode cJ2_indexOfCharUnsafe_4cfef 12 = .ok (.invokestatic 71, 3) := by decide +kernel
theorem dJ2_indexOfCharUnsafe_4cfef_15 : decode cJ2_indexOfCharUnsafe_4cfef 15 = .ok (.iload_n 1, 1) := by decide +kernel
theorem dJ2_indexOfCharUnsafe_4cfef_16 : decode cJ2_indexOfCharUnsafe_4cfef 16 = .ok (.if_icmp .ne 6, 3) := by decide +kernel
theorem dJ2_indexOfCharUnsafe_4cfef_19 : decode cJ2_indexOfCharUnsafe_4cfef 19 = .ok (.iload 4, 2) := by decide +kernel
theorem dJ2_indexOfCharUnsafe_4cfef_21 : decode cJ2_indexOfCharUnsafe_4cfef 21 = .ok (.ireturn, 1) := by decide +kernel
theorem dJ2_indexOfCharUnsafe_4cfef_22 : decode cJ2_indexOfCharUnsafe_4cfef 22 = .ok (.iinc 4 1, 3) := by decide +kernel
theorem dJ2_indexOfCharUnsafe_4cfef_25 : decode cJ2_indexOfCharUnsafe_4cfef 25 = .ok (.goto (-22), 3) := by decide +kernel
theorem dJ2_indexOfCharUnsafe_4cfef_28 : decode cJ2_indexOfCharUnsafe_4cfef 28 = .ok (.iconst (-1), 1) := by decide +kernel
theorem dJ2_indexOfCharUnsafe_4cfef_29 : decode cJ2_indexOfCharUnsafe_4cfef 29 = .ok (.ireturn, 1) := by decide +kernel
theorem dJ2_indexOfSupplementary_4cfef_0 : decode cJ2_indexOfSupplementary_4cfef 0 = .ok (.iload_n 1, 1) := by decide +kernel
theorem dJ2_indexOfSupplementary_4cfef_1 : decode cJ2_indexOfSupplementary_4cfef 1 = .ok (.invokestatic 164, 3) := by decide +kernel
theorem dJ2_indexOfSupplementary_4cfef_4 : decode cJ2_indexOfSupplementary_4cfef 4 = .ok (.ifCond .eq 65, 3) := by decide +kernel
theorem dJ2_indexOfSupplementary_4cfef_7 : decode cJ2_indexOfSupplementary_4cfef 7 = .ok (.iload_n 1, 1) := by decide +kernel
theorem dJ2_indexOfSupplementary_4cfef_8 : decode cJ2_indexOfSupplementary_4cfef 8 = .ok (.invokestatic 157, 3) := by decide +kernel
theorem dJ2_indexOfSupplementary_4cfef_11 : decode cJ2_indexOfSupplementary_4cfef 11 = .ok (.istore 4, 2) := by decide +kernel
theorem dJ2_indexOfSupplementary_4cfef_13 : decode cJ2_indexOfSupplementary_4cfef 13 = .ok (.iload_n 1, 1) := by decide +kernel
theorem dJ2_indexOfSupplementary_4cfef_14 : decode cJ2_indexOfSupplementary_4cfef 14 = .ok (.invokestatic 161, 3) := by decide +kernel
theorem dJ2_indexOfSupplementary_4cfef_17 : decode cJ2_indexOfSupplementary_4cfef 17 = .ok (.istore 5, 2) := by decide +kernel
theorem dJ2_indexOfSupplementary_4cfef_19 : decode cJ2_indexOfSupplementary_4cfef 19 = .ok (.iload_n 2, 1) := by decide +kernel
theorem dJ2_indexOfSupplementary_4cfef_20 : decode cJ2_indexOfSupplementary_4cfef 20 = .ok (.iload_n 3, 1) := by decide +kernel
theorem dJ2_indexOfSupplementary_4cfef_21 : decode cJ2_indexOfSupplementary_4cfef 21 = .ok (.aload_n 0, 1) := by decide +kernel
theorem dJ2_indexOfSupplementary_4cfef_22 : decode cJ2_indexOfSupplementary_4cfef 22 = .ok (.invokestatic 96, 3) := by decide +kernel
theorem dJ2_indexOfSupplementary_4cfef_25 : decode cJ2_indexOfSupplementary_4cfef 25 = .ok (.iload_n 2, 1) := by decide +kernel
theorem dJ2_indexOfSupplementary_4cfef_26 : decode cJ2_indexOfSupplementary_4cfef 26 = .ok (.istore 6, 2) := by decide +kernel
theorem dJ2_indexOfSupplementary_4cfef_28 : decode cJ2_indexOfSupplementary_4cfef 28 = .ok (.iload 6, 2) := by decide +kernel
theorem dJ2_indexOfSupplementary_4cfef_30 : decode cJ2_indexOfSupplementary_4cfef 30 = .ok (.iload_n 3, 1) := by decide +kernel
theorem dJ2_indexOfSupplementary_4cfef_31 : decode cJ2_indexOfSupplementary_4cfef 31 = .ok (.iconst 1, 1) := by decide +kernel
theorem dJ2_indexOfSupplementary_4cfef_32 : decode cJ2_indexOfSupplementary_4cfef 32 = .ok (.isub, 1) := by decide +kernel
theorem dJ2_indexOfSupplementary_4cfef_33 : decode cJ2_indexOfSupplementary_4cfef 33 = .ok (.if_icmp .ge 36, 3) := by decide +kernel
theorem dJ2_indexOfSupplementary_4cfef_36 : decode cJ2_indexOfSupplementary_4cfef 36 = .ok (.aload_n 0, 1) := by decide +kernel
theorem dJ2_indexOfSupplementary_4cfef_37 : decode cJ2_indexOfSupplementary_4cfef 37 = .ok (.iload 6, 2) := by decide +kernel
theorem dJ2_indexOfSupplementary_4cfef_39 : decode cJ2_indexOfSupplementary_4cfef 39 = .ok (.invokestatic 71, 3) := by decide +kernel
theorem dJ2_indexOfSupplementary_4cfef_42 : decode cJ2_indexOfSupplementary_4cfef 42 = .ok (.iload 4, 2) := by decide +kernel
theorem dJ2_indexOfSupplementary_4cfef_44 : decode cJ2_indexOfSupplementary_4cfef 44 = .ok (.if_icmp .ne 19, 3) := by decide +kernel
theorem dJ2_indexOfSupplementary_4cfef_47 : decode cJ2_indexOfSupplementary_4cfef 47 = .ok (.aload_n 0, 1) := by decide +kernel
theorem dJ2_indexOfSupplementary_4cfef_48 : decode cJ2_indexOfSupplementary_4cfef 48 = .ok (.iload 6, 2) := by decide +kernel
theorem dJ2_indexOfSupplementary_4cfef_50 : decode cJ2_indexOfSupplementary_4cfef 50 = .ok (.iconst 1, 1) := by decide +kernel
theorem dJ2_indexOfSupplementary_4cfef_51 : decode cJ2_indexOfSupplementary_4cfef 51 = .ok (.iadd, 1) := by decide +kernel
theorem dJ2_indexOfSupplementary_4cfef_52 : decode cJ2_indexOfSupplementary_4cfef 52 = .ok (.invokestatic 71, 3) := by decide +kernel
theorem dJ2_indexOfSupplementary_4cfef_55 : decode cJ2_indexOfSupplementary_4cfef 55 = .ok (.iload 5, 2) := by decide +kernel
theorem dJ2_indexOfSupplementary_4cfef_57 : decode cJ2_indexOfSupplementary_4cfef 57 = .ok (.if_icmp .ne 6, 3) := by decide +kernel
theorem dJ2_indexOfSupplementary_4cfef_60 : decode cJ2_indexOfSupplementary_4cfef 60 = .ok (.iload 6, 2) := by decide +kernel
theorem dJ2_indexOfSupplementary_4cfef_62 : decode cJ2_indexOfSupplementary_4cfef 62 = .ok (.ireturn, 1) := by decide +kernel
theorem dJ2_indexOfSupplementary_4cfef_63 : decode cJ2_indexOfSupplementary_4cfef 63 = .ok (.iinc 6 1, 3) := by decide +kernel
theorem dJ2_indexOfSupplementary_4cfef_66 : decode cJ2_indexOfSupplementary_4cfef 66 = .ok (.goto (-38), 3) := by decide +kernel
theorem dJ2_indexOfSupplementary_4cfef_69 : decode cJ2_indexOfSupplementary_4cfef 69 = .ok (.iconst (-1), 1) := by decide +kernel
theorem dJ2_indexOfSupplementary_4cfef_70 : decode cJ2_indexOfSupplementary_4cfef 70 = .ok (.ireturn, 1) := by decide +kernel
theorem dJ2_checkBoundsBeginEnd_d044e_0 : decode cJ2_checkBoundsBeginEnd_d044e 0 = .ok (.iload_n 0, 1) := by decide +kernel
theorem dJ2_checkBoundsBeginEnd_d044e_1 : decode cJ2_checkBoundsBeginEnd_d044e 1 = .ok (.iload_n 1, 1) := by decide +kernel
theorem dJ2_checkBoundsBeginEnd_d044e_2 : decode cJ2_checkBoundsBeginEnd_d044e 2 = .ok (.aload_n 2, 1) := by decide +kernel
theorem dJ2_checkBoundsBeginEnd_d044e_3 : decode cJ2_checkBoundsBeginEnd_d044e 3 = .ok (.invokestatic 48, 3) := by decide +kernel
theorem dJ2_checkBoundsBeginEnd_d044e_6 : decode cJ2_checkBoundsBeginEnd_d044e 6 = .ok (.invokestatic 241, 3) := by decide +kernel
theorem dJ2_checkBoundsBeginEnd_d044e_9 : decode cJ2_checkBoundsBeginEnd_d044e 9 = .ok (.return_, 1) := by decide +kernel
theorem dJ3_checkFromToIndex_8c36e_0 : decode cJ3_checkFromToIndex_8c36e 0 = .ok (.iload_n 0, 1) := by decide +kernel
theorem dJ3_checkFromToIndex_8c36e_1 : decode cJ3_checkFromToIndex_8c36e 1 = .ok (.ifCond .lt 13, 3) := by decide +kernel
theorem dJ3_checkFromToIndex_8c36e_4 : decode cJ3_checkFromToIndex_8c36e 4 = .ok (.iload_n 0, 1) := by decide +kernel
theorem dJ3_checkFromToIndex_8c36e_5 : decode cJ3_checkFromToIndex_8c36e 5 = .ok (.iload_n 1, 1) := by decide +kernel
theorem dJ3_checkFromToIndex_8c36e_6 : decode cJ3_checkFromToIndex_8c36e 6 = .ok (.if_icmp .gt 8, 3) := by decide +kernel
theorem dJ3_checkFromToIndex_8c36e_9 : decode cJ3_checkFromToIndex_8c36e 9 = .ok (.iload_n 1, 1) := by decide +kernel
theorem dJ3_checkFromToIndex_8c36e_10 : decode cJ3_checkFromToIndex_8c36e 10 = .ok (.iload_n 2, 1) := by decide +kernel
theorem dJ3_checkFromToIndex_8c36e_11 : decode cJ3_checkFromToIndex_8c36e 11 = .ok (.if_icmp .le 11, 3) := by decide +kernel
theorem dJ3_checkFromToIndex_8c36e_14 : decode cJ3_checkFromToIndex_8c36e 14 = .ok (.aload_n 3, 1) := by decide +kernel
theorem dJ3_checkFromToIndex_8c36e_15 : decode cJ3_checkFromToIndex_8c36e 15 = .ok (.iload_n 0, 1) := by decide +kernel
theorem dJ3_checkFromToIndex_8c36e_16 : decode cJ3_checkFromToIndex_8c36e 16 = .ok (.iload_n 1, 1) := by decide +kernel
theorem dJ3_checkFromToIndex_8c36e_17 : decode cJ3_checkFromToIndex_8c36e 17 = .ok (.iload_n 2, 1) := by decide +kernel
theorem dJ3_checkFromToIndex_8c36e_18 : decode cJ3_checkFromToIndex_8c36e 18 = .ok (.invokestatic 99, 3) := by decide +kernel
theorem dJ3_checkFromToIndex_8c36e_21 : decode cJ3_checkFromToIndex_8c36e 21 = .ok (.athrow, 1) := by decide +kernel
theorem dJ3_checkFromToIndex_8c36e_22 : decode cJ3_checkFromToIndex_8c36e 22 = .ok (.iload_n 0, 1) := by decide +kernel
theorem dJ3_checkFromToIndex_8c36e_23 : decode cJ3_checkFromToIndex_8c36e 23 = .ok (.ireturn, 1) := by decide +kernel
end
section
def tg : List Cond := lw_tbl.filter goodWord
def isNest : Cond → Bool
  | .methodLinkNest .. => true
  | _ => false
def nw : List Cond := tables_1.filter isNest
theorem tg_good {w : Cond} (h : w ∈ tg) : (w.onTables && w.keeps) = true ∨ ∃ ty, w = .arrayClass ty := good_of_word (List.mem_filter.mp h).2
theorem tg_in {w : Cond} (i : Nat) (h : lw_tbl[i]? = some w) (hg : goodWord w = true) : w ∈ tg := List.mem_filter.mpr ⟨List.mem_of_getElem? h, hg⟩
theorem nw_in {w : Cond} (i : Nat) (h : tables_1[i]? = some w) (hg : isNest w = true) : w ∈ nw := List.mem_filter.mpr ⟨List.mem_of_getElem? h, hg⟩
end
section
theorem ini_L : Cond.initialized RL ∈ tg := tg_in 38 (by decide +kernel) (by decide +kernel)
theorem ini_X9 : Cond.initialized RX9 ∈ tg := tg_in 39 (by decide +kernel) (by decide +kernel)
theorem ini_X3 : Cond.initialized RX3 ∈ tg := tg_in 40 (by decide +kernel) (by decide +kernel)
theorem ini_X8 : Cond.initialized RX8 ∈ tg := tg_in 41 (by decide +kernel) (by decide +kernel)
theorem ini_X6 : Cond.initialized RX6 ∈ tg := tg_in 42 (by decide +kernel) (by decide +kernel)
theorem ini_X2 : Cond.initialized RX2 ∈ tg := tg_in 43 (by decide +kernel) (by decide +kernel)
theorem ini_X1 : Cond.initialized RX1 ∈ tg := tg_in 44 (by decide +kernel) (by decide +kernel)
theorem ini_X7 : Cond.initialized RX7 ∈ tg := tg_in 45 (by decide +kernel) (by decide +kernel)
theorem ini_X5 : Cond.initialized RX5 ∈ tg := tg_in 46 (by decide +kernel) (by decide +kernel)
theorem ini_X4 : Cond.initialized RX4 ∈ tg := tg_in 47 (by decide +kernel) (by decide +kernel)
theorem ini_X0 : Cond.initialized RX0 ∈ tg := tg_in 48 (by decide +kernel) (by decide +kernel)
theorem ini_X10 : Cond.initialized RX10 ∈ tg := tg_in 49 (by decide +kernel) (by decide +kernel)
theorem ini_math : Cond.initialized "java/lang/Math" ∈ tg := tg_in 50 (by decide +kernel) (by decide +kernel)
theorem ini_J9 : Cond.initialized RJ9 ∈ tg := tg_in 50 (by decide +kernel) (by decide +kernel)
theorem ini_system : Cond.initialized "java/lang/System" ∈ tg := tg_in 51 (by decide +kernel) (by decide +kernel)
theorem ini_J10 : Cond.initialized RJ10 ∈ tg := tg_in 51 (by decide +kernel) (by decide +kernel)
theorem ini_J0 : Cond.initialized RJ0 ∈ tg := tg_in 52 (by decide +kernel) (by decide +kernel)
theorem ini_J1 : Cond.initialized RJ1 ∈ tg := tg_in 53 (by decide +kernel) (by decide +kernel)
theorem ini_J2 : Cond.initialized RJ2 ∈ tg := tg_in 54 (by decide +kernel) (by decide +kernel)
theorem ini_J3 : Cond.initialized RJ3 ∈ tg := tg_in 55 (by decide +kernel) (by decide +kernel)
theorem ini_J11 : Cond.initialized RJ11 ∈ tg := tg_in 56 (by decide +kernel) (by decide +kernel)
theorem cl_L_7 : Cond.classLink RL 7 RX9 ∈ tg := tg_in 57 (by decide +kernel) (by decide +kernel)
theorem ins_X9 : Cond.instantiable RX9 6 ∈ tg := tg_in 58 (by decide +kernel) (by decide +kernel)
theorem ml_L_9 : Cond.methodLink RL 9 yX9_init ∈ tg := tg_in 59 (by decide +kernel) (by decide +kernel)
theorem im_X9_init : Cond.instanceMethod yX9_init ∈ tg := tg_in 60 (by decide +kernel) (by decide +kernel)
theorem co_X9_init : Cond.code yX9_init cX9_init 1 none ∈ tg := tg_in 61 (by decide +kernel) (by decide +kernel)
theorem ml_X9_3 : Cond.methodLink RX9 3 Lib.objectInit ∈ tg := tg_in 62 (by decide +kernel) (by decide +kernel)
theorem im_objinit : Cond.instanceMethod Lib.objectInit ∈ tg := tg_in 63 (by decide +kernel) (by decide +kernel)
theorem co_objinit : Cond.code Lib.objectInit ⟨#[0xb1]⟩ 1 none ∈ tg := tg_in 64 (by decide +kernel) (by decide +kernel)
theorem cl_X9_9 : Cond.classLink RX9 9 RX3 ∈ tg := tg_in 65 (by decide +kernel) (by decide +kernel)
theorem ins_X3 : Cond.instantiable RX3 8 ∈ tg := tg_in 66 (by decide +kernel) (by decide +kernel)
theorem ml_X9_11 : Cond.methodLinkNest RX9 11 yX3_init "FareDrops" ∈ nw := nw_in 29 (by decide +kernel) rfl
theorem im_X3_init : Cond.instanceMethod yX3_init ∈ tg := tg_in 68 (by decide +kernel) (by decide +kernel)
theorem co_X3_init : Cond.code yX3_init cX3_init 1 none ∈ tg := tg_in 69 (by decide +kernel) (by decide +kernel)
theorem ml_X3_3 : Cond.methodLink RX3 3 Lib.objectInit ∈ tg := tg_in 70 (by decide +kernel) (by decide +kernel)
theorem cl_X3_9 : Cond.classLink RX3 9 RX8 ∈ tg := tg_in 71 (by decide +kernel) (by decide +kernel)
theorem ins_X8 : Cond.instantiable RX8 2 ∈ tg := tg_in 72 (by decide +kernel) (by decide +kernel)
theorem ml_X3_11 : Cond.methodLinkNest RX3 11 yX8_init "FareDrops" ∈ nw := nw_in 35 (by decide +kernel) rfl
theorem im_X8_init : Cond.instanceMethod yX8_init ∈ tg := tg_in 74 (by decide +kernel) (by decide +kernel)
theorem co_X8_init : Cond.code yX8_init cX8_init 1 none ∈ tg := tg_in 75 (by decide +kernel) (by decide +kernel)
theorem ml_X8_3 : Cond.methodLink RX8 3 Lib.objectInit ∈ tg := tg_in 76 (by decide +kernel) (by decide +kernel)
theorem fl_X8_9 : Cond.fieldLink RX8 9 "FareDrops$Tariffs" "numbers" "[I" ∈ tg := tg_in 77 (by decide +kernel) (by decide +kernel)
theorem fl_X8_15 : Cond.fieldLink RX8 15 "FareDrops$Tariffs" "hours" "[I" ∈ tg := tg_in 78 (by decide +kernel) (by decide +kernel)
theorem ac_int : Cond.arrayClass .int ∈ tg := tg_in 84 (by decide +kernel) (by decide +kernel)
theorem cl_X3_18 : Cond.classLink RX3 18 RX6 ∈ tg := tg_in 85 (by decide +kernel) (by decide +kernel)
theorem ins_X6 : Cond.instantiable RX6 11 ∈ tg := tg_in 86 (by decide +kernel) (by decide +kernel)
theorem ml_X3_20 : Cond.methodLinkNest RX3 20 yX6_init "FareDrops" ∈ nw := nw_in 49 (by decide +kernel) rfl
theorem im_X6_init : Cond.instanceMethod yX6_init ∈ tg := tg_in 88 (by decide +kernel) (by decide +kernel)
theorem co_X6_init : Cond.code yX6_init cX6_init 1 none ∈ tg := tg_in 89 (by decide +kernel) (by decide +kernel)
theorem ml_X6_1 : Cond.methodLink RX6 1 Lib.objectInit ∈ tg := tg_in 90 (by decide +kernel) (by decide +kernel)
theorem fl_X6_7 : Cond.fieldLink RX6 7 "FareDrops$Ride" "beganAt" "I" ∈ tg := tg_in 91 (by decide +kernel) (by decide +kernel)
theorem fl_X2_53 : Cond.fieldLink RX2 53 "FareDrops$Ride" "beganAt" "I" ∈ tg := tg_in 92 (by decide +kernel) (by decide +kernel)
theorem fl_X6_13 : Cond.fieldLink RX6 13 "FareDrops$Ride" "fare" "I" ∈ tg := tg_in 93 (by decide +kernel) (by decide +kernel)
theorem fl_X0_35 : Cond.fieldLink RX0 35 "FareDrops$Ride" "fare" "I" ∈ tg := tg_in 94 (by decide +kernel) (by decide +kernel)
theorem fl_X2_26 : Cond.fieldLink RX2 26 "FareDrops$Ride" "fare" "I" ∈ tg := tg_in 95 (by decide +kernel) (by decide +kernel)
theorem fl_X3_90 : Cond.fieldLink RX3 90 "FareDrops$Ride" "fare" "I" ∈ tg := tg_in 96 (by decide +kernel) (by decide +kernel)
theorem fl_X9_115 : Cond.fieldLink RX9 115 "FareDrops$Ride" "fare" "I" ∈ tg := tg_in 97 (by decide +kernel) (by decide +kernel)
theorem fl_X6_16 : Cond.fieldLink RX6 16 "FareDrops$Ride" "extraCoins" "I" ∈ tg := tg_in 98 (by decide +kernel) (by decide +kernel)
theorem fl_X2_31 : Cond.fieldLink RX2 31 "FareDrops$Ride" "extraCoins" "I" ∈ tg := tg_in 99 (by decide +kernel) (by decide +kernel)
theorem fl_X3_124 : Cond.fieldLink RX3 124 "FareDrops$Ride" "extraCoins" "I" ∈ tg := tg_in 100 (by decide +kernel) (by decide +kernel)
theorem fl_X9_120 : Cond.fieldLink RX9 120 "FareDrops$Ride" "extraCoins" "I" ∈ tg := tg_in 101 (by decide +kernel) (by decide +kernel)
theorem fl_X6_19 : Cond.fieldLink RX6 19 "FareDrops$Ride" "extras" "I" ∈ tg := tg_in 102 (by decide +kernel) (by decide +kernel)
theorem fl_X3_121 : Cond.fieldLink RX3 121 "FareDrops$Ride" "extras" "I" ∈ tg := tg_in 103 (by decide +kernel) (by decide +kernel)
theorem fl_X9_138 : Cond.fieldLink RX9 138 "FareDrops$Ride" "extras" "I" ∈ tg := tg_in 104 (by decide +kernel) (by decide +kernel)
theorem fl_X6_22 : Cond.fieldLink RX6 22 "FareDrops$Ride" "pulses" "I" ∈ tg := tg_in 105 (by decide +kernel) (by decide +kernel)
theorem fl_X2_38 : Cond.fieldLink RX2 38 "FareDrops$Ride" "pulses" "I" ∈ tg := tg_in 106 (by decide +kernel) (by decide +kernel)
theorem fl_X3_107 : Cond.fieldLink RX3 107 "FareDrops$Ride" "pulses" "I" ∈ tg := tg_in 107 (by decide +kernel) (by decide +kernel)
theorem fl_X9_123 : Cond.fieldLink RX9 123 "FareDrops$Ride" "pulses" "I" ∈ tg := tg_in 108 (by decide +kernel) (by decide +kernel)
theorem fl_X6_25 : Cond.fieldLink RX6 25 "FareDrops$Ride" "driveSeconds" "I" ∈ tg := tg_in 109 (by decide +kernel) (by decide +kernel)
theorem fl_X2_41 : Cond.fieldLink RX2 41 "FareDrops$Ride" "driveSeconds" "I" ∈ tg := tg_in 110 (by decide +kernel) (by decide +kernel)
theorem fl_X3_110 : Cond.fieldLink RX3 110 "FareDrops$Ride" "driveSeconds" "I" ∈ tg := tg_in 111 (by decide +kernel) (by decide +kernel)
theorem fl_X9_126 : Cond.fieldLink RX9 126 "FareDrops$Ride" "driveSeconds" "I" ∈ tg := tg_in 112 (by decide +kernel) (by decide +kernel)
theorem fl_X6_28 : Cond.fieldLink RX6 28 "FareDrops$Ride" "haltSeconds" "I" ∈ tg := tg_in 113 (by decide +kernel) (by decide +kernel)
theorem fl_X2_44 : Cond.fieldLink RX2 44 "FareDrops$Ride" "haltSeconds" "I" ∈ tg := tg_in 114 (by decide +kernel) (by decide +kernel)
theorem fl_X3_118 : Cond.fieldLink RX3 118 "FareDrops$Ride" "haltSeconds" "I" ∈ tg := tg_in 115 (by decide +kernel) (by decide +kernel)
theorem fl_X9_129 : Cond.fieldLink RX9 129 "FareDrops$Ride" "haltSeconds" "I" ∈ tg := tg_in 116 (by decide +kernel) (by decide +kernel)
theorem fl_X6_31 : Cond.fieldLink RX6 31 "FareDrops$Ride" "dropsByWay" "I" ∈ tg := tg_in 117 (by decide +kernel) (by decide +kernel)
theorem fl_X2_47 : Cond.fieldLink RX2 47 "FareDrops$Ride" "dropsByWay" "I" ∈ tg := tg_in 118 (by decide +kernel) (by decide +kernel)
theorem fl_X3_99 : Cond.fieldLink RX3 99 "FareDrops$Ride" "dropsByWay" "I" ∈ tg := tg_in 119 (by decide +kernel) (by decide +kernel)
theorem fl_X9_132 : Cond.fieldLink RX9 132 "FareDrops$Ride" "dropsByWay" "I" ∈ tg := tg_in 120 (by decide +kernel) (by decide +kernel)
theorem fl_X6_34 : Cond.fieldLink RX6 34 "FareDrops$Ride" "dropsByTime" "I" ∈ tg := tg_in 121 (by decide +kernel) (by decide +kernel)
theorem fl_X2_50 : Cond.fieldLink RX2 50 "FareDrops$Ride" "dropsByTime" "I" ∈ tg := tg_in 122 (by decide +kernel) (by decide +kernel)
theorem fl_X3_103 : Cond.fieldLink RX3 103 "FareDrops$Ride" "dropsByTime" "I" ∈ tg := tg_in 123 (by decide +kernel) (by decide +kernel)
theorem fl_X9_135 : Cond.fieldLink RX9 135 "FareDrops$Ride" "dropsByTime" "I" ∈ tg := tg_in 124 (by decide +kernel) (by decide +kernel)
theorem fl_X6_37 : Cond.fieldLink RX6 37 "FareDrops$Ride" "rest" "I" ∈ tg := tg_in 125 (by decide +kernel) (by decide +kernel)
theorem fl_X0_38 : Cond.fieldLink RX0 38 "FareDrops$Ride" "rest" "I" ∈ tg := tg_in 126 (by decide +kernel) (by decide +kernel)
theorem fl_X3_94 : Cond.fieldLink RX3 94 "FareDrops$Ride" "rest" "I" ∈ tg := tg_in 127 (by decide +kernel) (by decide +kernel)
theorem fl_X9_141 : Cond.fieldLink RX9 141 "FareDrops$Ride" "rest" "I" ∈ tg := tg_in 128 (by decide +kernel) (by decide +kernel)
theorem fl_X6_40 : Cond.fieldLink RX6 40 "FareDrops$Ride" "measure" "I" ∈ tg := tg_in 129 (by decide +kernel) (by decide +kernel)
theorem fl_X0_39 : Cond.fieldLink RX0 39 "FareDrops$Ride" "measure" "I" ∈ tg := tg_in 130 (by decide +kernel) (by decide +kernel)
theorem fl_X3_98 : Cond.fieldLink RX3 98 "FareDrops$Ride" "measure" "I" ∈ tg := tg_in 131 (by decide +kernel) (by decide +kernel)
theorem cl_X3_25 : Cond.classLink RX3 25 RX2 ∈ tg := tg_in 155 (by decide +kernel) (by decide +kernel)
theorem ins_X2 : Cond.instantiable RX2 3 ∈ tg := tg_in 156 (by decide +kernel) (by decide +kernel)
theorem ml_X3_27 : Cond.methodLinkNest RX3 27 yX2_init "FareDrops" ∈ nw := nw_in 119 (by decide +kernel) rfl
theorem im_X2_init : Cond.instanceMethod yX2_init ∈ tg := tg_in 158 (by decide +kernel) (by decide +kernel)
theorem co_X2_init : Cond.code yX2_init cX2_init 1 none ∈ tg := tg_in 159 (by decide +kernel) (by decide +kernel)
theorem ml_X2_1 : Cond.methodLink RX2 1 Lib.objectInit ∈ tg := tg_in 160 (by decide +kernel) (by decide +kernel)
theorem fl_X2_9 : Cond.fieldLink RX2 9 "FareDrops$Log" "numbers" "[I" ∈ tg := tg_in 161 (by decide +kernel) (by decide +kernel)
theorem fl_X2_19 : Cond.fieldLink RX2 19 "FareDrops$Log" "next" "I" ∈ tg := tg_in 162 (by decide +kernel) (by decide +kernel)
theorem fl_X2_23 : Cond.fieldLink RX2 23 "FareDrops$Log" "size" "I" ∈ tg := tg_in 163 (by decide +kernel) (by decide +kernel)
theorem fl_X9_148 : Cond.fieldLink RX9 148 "FareDrops$Log" "size" "I" ∈ tg := tg_in 164 (by decide +kernel) (by decide +kernel)
theorem fl_X3_12 : Cond.fieldLink RX3 12 "FareDrops$Meter" "tariffs" "LFareDrops$Tariffs;" ∈ tg := tg_in 172 (by decide +kernel) (by decide +kernel)
theorem fl_X9_59 : Cond.fieldLink RX9 59 "FareDrops$Meter" "tariffs" "LFareDrops$Tariffs;" ∈ tg := tg_in 173 (by decide +kernel) (by decide +kernel)
theorem fl_X3_21 : Cond.fieldLink RX3 21 "FareDrops$Meter" "ride" "LFareDrops$Ride;" ∈ tg := tg_in 174 (by decide +kernel) (by decide +kernel)
theorem fl_X9_111 : Cond.fieldLink RX9 111 "FareDrops$Meter" "ride" "LFareDrops$Ride;" ∈ tg := tg_in 175 (by decide +kernel) (by decide +kernel)
theorem fl_X3_28 : Cond.fieldLink RX3 28 "FareDrops$Meter" "log" "LFareDrops$Log;" ∈ tg := tg_in 176 (by decide +kernel) (by decide +kernel)
theorem fl_X9_144 : Cond.fieldLink RX9 144 "FareDrops$Meter" "log" "LFareDrops$Log;" ∈ tg := tg_in 177 (by decide +kernel) (by decide +kernel)
theorem fl_X3_49 : Cond.fieldLink RX3 49 "FareDrops$Meter" "second" "I" ∈ tg := tg_in 178 (by decide +kernel) (by decide +kernel)
theorem fl_X9_154 : Cond.fieldLink RX9 154 "FareDrops$Meter" "second" "I" ∈ tg := tg_in 179 (by decide +kernel) (by decide +kernel)
theorem fl_X3_32 : Cond.fieldLink RX3 32 "FareDrops$Meter" "state" "I" ∈ tg := tg_in 180 (by decide +kernel) (by decide +kernel)
theorem fl_X9_157 : Cond.fieldLink RX9 157 "FareDrops$Meter" "state" "I" ∈ tg := tg_in 181 (by decide +kernel) (by decide +kernel)
theorem fl_X3_36 : Cond.fieldLink RX3 36 "FareDrops$Meter" "extraPrice" "I" ∈ tg := tg_in 182 (by decide +kernel) (by decide +kernel)
theorem fl_X9_84 : Cond.fieldLink RX9 84 "FareDrops$Meter" "extraPrice" "I" ∈ tg := tg_in 183 (by decide +kernel) (by decide +kernel)
theorem fl_X3_52 : Cond.fieldLink RX3 52 "FareDrops$Meter" "ended" "I" ∈ tg := tg_in 184 (by decide +kernel) (by decide +kernel)
theorem fl_X7_32 : Cond.fieldLink RX7 32 "FareDrops$Meter" "ended" "I" ∈ tg := tg_in 185 (by decide +kernel) (by decide +kernel)
theorem fl_X9_163 : Cond.fieldLink RX9 163 "FareDrops$Meter" "ended" "I" ∈ tg := tg_in 186 (by decide +kernel) (by decide +kernel)
theorem fl_X3_55 : Cond.fieldLink RX3 55 "FareDrops$Meter" "income" "I" ∈ tg := tg_in 187 (by decide +kernel) (by decide +kernel)
theorem fl_X9_166 : Cond.fieldLink RX9 166 "FareDrops$Meter" "income" "I" ∈ tg := tg_in 188 (by decide +kernel) (by decide +kernel)
theorem cl_X9_16 : Cond.classLink RX9 16 RX1 ∈ tg := tg_in 206 (by decide +kernel) (by decide +kernel)
theorem ins_X1 : Cond.instantiable RX1 3 ∈ tg := tg_in 207 (by decide +kernel) (by decide +kernel)
theorem ml_X9_18 : Cond.methodLink RX9 18 yX1_init ∈ tg := tg_in 208 (by decide +kernel) (by decide +kernel)
theorem im_X1_init : Cond.instanceMethod yX1_init ∈ tg := tg_in 209 (by decide +kernel) (by decide +kernel)
theorem co_X1_init : Cond.code yX1_init cX1_init 2 none ∈ tg := tg_in 210 (by decide +kernel) (by decide +kernel)
theorem ml_X1_1 : Cond.methodLink RX1 1 Lib.objectInit ∈ tg := tg_in 211 (by decide +kernel) (by decide +kernel)
theorem cl_X1_9 : Cond.classLink RX1 9 RX3 ∈ tg := tg_in 212 (by decide +kernel) (by decide +kernel)
theorem ml_X1_15 : Cond.methodLinkNest RX1 15 yX3_init "FareDrops" ∈ nw := nw_in 176 (by decide +kernel) rfl
theorem fl_X1_11 : Cond.fieldLink RX1 11 "FareDrops$History" "rows" "[LFareDrops$Meter;" ∈ tg := tg_in 215 (by decide +kernel) (by decide +kernel)
theorem fl_X1_16 : Cond.fieldLink RX1 16 "FareDrops$History" "next" "I" ∈ tg := tg_in 216 (by decide +kernel) (by decide +kernel)
theorem fl_X1_28 : Cond.fieldLink RX1 28 "FareDrops$History" "size" "I" ∈ tg := tg_in 217 (by decide +kernel) (by decide +kernel)
theorem fl_X9_172 : Cond.fieldLink RX9 172 "FareDrops$History" "size" "I" ∈ tg := tg_in 218 (by decide +kernel) (by decide +kernel)
theorem cl_X9_23 : Cond.classLink RX9 23 RX7 ∈ tg := tg_in 226 (by decide +kernel) (by decide +kernel)
theorem ins_X7 : Cond.instantiable RX7 4 ∈ tg := tg_in 227 (by decide +kernel) (by decide +kernel)
theorem ml_X9_25 : Cond.methodLinkNest RX9 25 yX7_init "FareDrops" ∈ nw := nw_in 190 (by decide +kernel) rfl
theorem im_X7_init : Cond.instanceMethod yX7_init ∈ tg := tg_in 229 (by decide +kernel) (by decide +kernel)
theorem co_X7_init : Cond.code yX7_init cX7_init 1 none ∈ tg := tg_in 230 (by decide +kernel) (by decide +kernel)
theorem ml_X7_3 : Cond.methodLink RX7 3 Lib.objectInit ∈ tg := tg_in 231 (by decide +kernel) (by decide +kernel)
theorem cl_X7_9 : Cond.classLink RX7 9 RX3 ∈ tg := tg_in 232 (by decide +kernel) (by decide +kernel)
theorem ml_X7_11 : Cond.methodLinkNest RX7 11 yX3_init "FareDrops" ∈ nw := nw_in 195 (by decide +kernel) rfl
theorem fl_X7_12 : Cond.fieldLink RX7 12 "FareDrops$Slots" "first" "LFareDrops$Meter;" ∈ tg := tg_in 234 (by decide +kernel) (by decide +kernel)
theorem fl_X7_18 : Cond.fieldLink RX7 18 "FareDrops$Slots" "second" "LFareDrops$Meter;" ∈ tg := tg_in 235 (by decide +kernel) (by decide +kernel)
theorem fl_X7_25 : Cond.fieldLink RX7 25 "FareDrops$Slots" "firstIsSaved" "Z" ∈ tg := tg_in 236 (by decide +kernel) (by decide +kernel)
theorem fl_X7_29 : Cond.fieldLink RX7 29 "FareDrops$Slots" "secondIsSaved" "Z" ∈ tg := tg_in 237 (by decide +kernel) (by decide +kernel)
theorem cl_X9_30 : Cond.classLink RX9 30 RX5 ∈ tg := tg_in 247 (by decide +kernel) (by decide +kernel)
theorem ins_X5 : Cond.instantiable RX5 2 ∈ tg := tg_in 248 (by decide +kernel) (by decide +kernel)
theorem ml_X9_32 : Cond.methodLinkNest RX9 32 yX5_init "FareDrops" ∈ nw := nw_in 211 (by decide +kernel) rfl
theorem im_X5_init : Cond.instanceMethod yX5_init ∈ tg := tg_in 250 (by decide +kernel) (by decide +kernel)
theorem co_X5_init : Cond.code yX5_init cX5_init 1 none ∈ tg := tg_in 251 (by decide +kernel) (by decide +kernel)
theorem ml_X5_1 : Cond.methodLink RX5 1 Lib.objectInit ∈ tg := tg_in 252 (by decide +kernel) (by decide +kernel)
theorem fl_X5_9 : Cond.fieldLink RX5 9 "FareDrops$Pad" "signs" "[C" ∈ tg := tg_in 253 (by decide +kernel) (by decide +kernel)
theorem fl_X4_21 : Cond.fieldLink RX4 21 "FareDrops$Pad" "length" "I" ∈ tg := tg_in 254 (by decide +kernel) (by decide +kernel)
theorem fl_X5_23 : Cond.fieldLink RX5 23 "FareDrops$Pad" "length" "I" ∈ tg := tg_in 255 (by decide +kernel) (by decide +kernel)
theorem fl_X9_169 : Cond.fieldLink RX9 169 "FareDrops$Pad" "length" "I" ∈ tg := tg_in 256 (by decide +kernel) (by decide +kernel)
theorem ac_char : Cond.arrayClass .char ∈ tg := tg_in 262 (by decide +kernel) (by decide +kernel)
theorem cl_X9_37 : Cond.classLink RX9 37 RX4 ∈ tg := tg_in 263 (by decide +kernel) (by decide +kernel)
theorem ins_X4 : Cond.instantiable RX4 4 ∈ tg := tg_in 264 (by decide +kernel) (by decide +kernel)
theorem ml_X9_39 : Cond.methodLinkNest RX9 39 yX4_init "FareDrops" ∈ nw := nw_in 227 (by decide +kernel) rfl
theorem im_X4_init : Cond.instanceMethod yX4_init ∈ tg := tg_in 266 (by decide +kernel) (by decide +kernel)
theorem co_X4_init : Cond.code yX4_init cX4_init 1 none ∈ tg := tg_in 267 (by decide +kernel) (by decide +kernel)
theorem ml_X4_3 : Cond.methodLink RX4 3 Lib.objectInit ∈ tg := tg_in 268 (by decide +kernel) (by decide +kernel)
theorem fl_X4_56 : Cond.fieldLink RX4 56 "FareDrops$Orders" "letter" "C" ∈ tg := tg_in 269 (by decide +kernel) (by decide +kernel)
theorem fl_X9_231 : Cond.fieldLink RX9 231 "FareDrops$Orders" "letter" "C" ∈ tg := tg_in 270 (by decide +kernel) (by decide +kernel)
theorem fl_X4_45 : Cond.fieldLink RX4 45 "FareDrops$Orders" "first" "I" ∈ tg := tg_in 271 (by decide +kernel) (by decide +kernel)
theorem fl_X9_235 : Cond.fieldLink RX9 235 "FareDrops$Orders" "first" "I" ∈ tg := tg_in 272 (by decide +kernel) (by decide +kernel)
theorem fl_X4_15 : Cond.fieldLink RX4 15 "FareDrops$Orders" "number" "I" ∈ tg := tg_in 273 (by decide +kernel) (by decide +kernel)
theorem fl_X9_238 : Cond.fieldLink RX9 238 "FareDrops$Orders" "number" "I" ∈ tg := tg_in 274 (by decide +kernel) (by decide +kernel)
theorem fl_X4_11 : Cond.fieldLink RX4 11 "FareDrops$Orders" "place" "I" ∈ tg := tg_in 275 (by decide +kernel) (by decide +kernel)
theorem cl_X9_44 : Cond.classLink RX9 44 RX0 ∈ tg := tg_in 285 (by decide +kernel) (by decide +kernel)
theorem ins_X0 : Cond.instantiable RX0 11 ∈ tg := tg_in 286 (by decide +kernel) (by decide +kernel)
theorem ml_X9_46 : Cond.methodLinkNest RX9 46 yX0_init "FareDrops" ∈ nw := nw_in 249 (by decide +kernel) rfl
theorem im_X0_init : Cond.instanceMethod yX0_init ∈ tg := tg_in 288 (by decide +kernel) (by decide +kernel)
theorem co_X0_init : Cond.code yX0_init cX0_init 1 none ∈ tg := tg_in 289 (by decide +kernel) (by decide +kernel)
theorem ml_X0_3 : Cond.methodLink RX0 3 Lib.objectInit ∈ tg := tg_in 290 (by decide +kernel) (by decide +kernel)
theorem fl_X0_19 : Cond.fieldLink RX0 19 "FareDrops$Drive" "fare" "I" ∈ tg := tg_in 291 (by decide +kernel) (by decide +kernel)
theorem fl_X3_87 : Cond.fieldLink RX3 87 "FareDrops$Drive" "fare" "I" ∈ tg := tg_in 292 (by decide +kernel) (by decide +kernel)
theorem fl_X9_185 : Cond.fieldLink RX9 185 "FareDrops$Drive" "fare" "I" ∈ tg := tg_in 293 (by decide +kernel) (by decide +kernel)
theorem fl_X0_25 : Cond.fieldLink RX0 25 "FareDrops$Drive" "rest" "I" ∈ tg := tg_in 294 (by decide +kernel) (by decide +kernel)
theorem fl_X3_91 : Cond.fieldLink RX3 91 "FareDrops$Drive" "rest" "I" ∈ tg := tg_in 295 (by decide +kernel) (by decide +kernel)
theorem fl_X0_28 : Cond.fieldLink RX0 28 "FareDrops$Drive" "measure" "I" ∈ tg := tg_in 296 (by decide +kernel) (by decide +kernel)
theorem fl_X3_95 : Cond.fieldLink RX3 95 "FareDrops$Drive" "measure" "I" ∈ tg := tg_in 297 (by decide +kernel) (by decide +kernel)
theorem fl_X0_46 : Cond.fieldLink RX0 46 "FareDrops$Drive" "dropsByWay" "I" ∈ tg := tg_in 298 (by decide +kernel) (by decide +kernel)
theorem fl_X3_102 : Cond.fieldLink RX3 102 "FareDrops$Drive" "dropsByWay" "I" ∈ tg := tg_in 299 (by decide +kernel) (by decide +kernel)
theorem fl_X0_49 : Cond.fieldLink RX0 49 "FareDrops$Drive" "dropsByTime" "I" ∈ tg := tg_in 300 (by decide +kernel) (by decide +kernel)
theorem fl_X3_106 : Cond.fieldLink RX3 106 "FareDrops$Drive" "dropsByTime" "I" ∈ tg := tg_in 301 (by decide +kernel) (by decide +kernel)
theorem fl_X0_31 : Cond.fieldLink RX0 31 "FareDrops$Drive" "tellsKinds" "Z" ∈ tg := tg_in 302 (by decide +kernel) (by decide +kernel)
theorem fl_X3_79 : Cond.fieldLink RX3 79 "FareDrops$Drive" "tellsKinds" "Z" ∈ tg := tg_in 303 (by decide +kernel) (by decide +kernel)
theorem fl_X0_40 : Cond.fieldLink RX0 40 "FareDrops$Drive" "pulses" "I" ∈ tg := tg_in 304 (by decide +kernel) (by decide +kernel)
theorem fl_X0_43 : Cond.fieldLink RX0 43 "FareDrops$Drive" "seconds" "I" ∈ tg := tg_in 305 (by decide +kernel) (by decide +kernel)
theorem fl_X0_66 : Cond.fieldLink RX0 66 "FareDrops$Drive" "drop" "I" ∈ tg := tg_in 306 (by decide +kernel) (by decide +kernel)
theorem fl_X0_69 : Cond.fieldLink RX0 69 "FareDrops$Drive" "way" "I" ∈ tg := tg_in 307 (by decide +kernel) (by decide +kernel)
theorem fl_X0_72 : Cond.fieldLink RX0 72 "FareDrops$Drive" "time" "I" ∈ tg := tg_in 308 (by decide +kernel) (by decide +kernel)
theorem fl_X9_12 : Cond.fieldLink RX9 12 "FareDrops" "meter" "LFareDrops$Meter;" ∈ tg := tg_in 332 (by decide +kernel) (by decide +kernel)
theorem fl_X9_19 : Cond.fieldLink RX9 19 "FareDrops" "history" "LFareDrops$History;" ∈ tg := tg_in 333 (by decide +kernel) (by decide +kernel)
theorem fl_X9_26 : Cond.fieldLink RX9 26 "FareDrops" "slots" "LFareDrops$Slots;" ∈ tg := tg_in 334 (by decide +kernel) (by decide +kernel)
theorem fl_X9_33 : Cond.fieldLink RX9 33 "FareDrops" "pad" "LFareDrops$Pad;" ∈ tg := tg_in 335 (by decide +kernel) (by decide +kernel)
theorem fl_X9_40 : Cond.fieldLink RX9 40 "FareDrops" "orders" "LFareDrops$Orders;" ∈ tg := tg_in 336 (by decide +kernel) (by decide +kernel)
theorem fl_X9_47 : Cond.fieldLink RX9 47 "FareDrops" "drive" "LFareDrops$Drive;" ∈ tg := tg_in 337 (by decide +kernel) (by decide +kernel)
theorem ml_L_13 : Cond.methodLink RL 13 yX9_tariff ∈ tg := tg_in 351 (by decide +kernel) (by decide +kernel)
theorem im_X9_tariff : Cond.instanceMethod yX9_tariff ∈ tg := tg_in 352 (by decide +kernel) (by decide +kernel)
theorem se_X9_tariff : Cond.selects RX9 yX9_tariff yX9_tariff ∈ tg := tg_in 353 (by decide +kernel) (by decide +kernel)
theorem co_X9_tariff : Cond.code yX9_tariff cX9_tariff 7 (some .int) ∈ tg := tg_in 354 (by decide +kernel) (by decide +kernel)
theorem ml_X9_51 : Cond.methodLink RX9 51 yX9_isIn ∈ tg := tg_in 355 (by decide +kernel) (by decide +kernel)
theorem sm_X9_isIn : Cond.static yX9_isIn ∈ tg := tg_in 356 (by decide +kernel) (by decide +kernel)
theorem co_X9_isIn : Cond.code yX9_isIn cX9_isIn 3 (some .boolean) ∈ tg := tg_in 357 (by decide +kernel) (by decide +kernel)
theorem ml_X9_55 : Cond.methodLink RX9 55 yX1_draft ∈ tg := tg_in 358 (by decide +kernel) (by decide +kernel)
theorem im_X1_draft : Cond.instanceMethod yX1_draft ∈ tg := tg_in 359 (by decide +kernel) (by decide +kernel)
theorem se_X1_draft : Cond.selects RX1 yX1_draft yX1_draft ∈ tg := tg_in 360 (by decide +kernel) (by decide +kernel)
theorem co_X1_draft : Cond.code yX1_draft cX1_draft 3 none ∈ tg := tg_in 361 (by decide +kernel) (by decide +kernel)
theorem ml_X1_20 : Cond.methodLink RX1 20 yX1_rowAt ∈ tg := tg_in 362 (by decide +kernel) (by decide +kernel)
theorem im_X1_rowAt : Cond.instanceMethod yX1_rowAt ∈ tg := tg_in 364 (by decide +kernel) (by decide +kernel)
theorem co_X1_rowAt : Cond.code yX1_rowAt cX1_rowAt 2 (some (.object "FareDrops$Meter")) ∈ tg := tg_in 365 (by decide +kernel) (by decide +kernel)
theorem ml_X1_24 : Cond.methodLink RX1 24 yX3_copyFrom ∈ tg := tg_in 366 (by decide +kernel) (by decide +kernel)
theorem im_X3_copyFrom : Cond.instanceMethod yX3_copyFrom ∈ tg := tg_in 367 (by decide +kernel) (by decide +kernel)
theorem se_X3_copyFrom : Cond.selects RX3 yX3_copyFrom yX3_copyFrom ∈ tg := tg_in 368 (by decide +kernel) (by decide +kernel)
theorem co_X3_copyFrom : Cond.code yX3_copyFrom cX3_copyFrom 2 none ∈ tg := tg_in 369 (by decide +kernel) (by decide +kernel)
theorem ml_X3_39 : Cond.methodLink RX3 39 yX8_copyFrom ∈ tg := tg_in 370 (by decide +kernel) (by decide +kernel)
theorem im_X8_copyFrom : Cond.instanceMethod yX8_copyFrom ∈ tg := tg_in 371 (by decide +kernel) (by decide +kernel)
theorem se_X8_copyFrom : Cond.selects RX8 yX8_copyFrom yX8_copyFrom ∈ tg := tg_in 372 (by decide +kernel) (by decide +kernel)
theorem co_X8_copyFrom : Cond.code yX8_copyFrom cX8_copyFrom 2 none ∈ tg := tg_in 373 (by decide +kernel) (by decide +kernel)
theorem ml_X8_18 : Cond.methodLinkNest RX8 18 yX9_copyRow "FareDrops" ∈ nw := nw_in 336 (by decide +kernel) rfl
theorem sm_X9_copyRow : Cond.static yX9_copyRow ∈ tg := tg_in 375 (by decide +kernel) (by decide +kernel)
theorem co_X9_copyRow : Cond.code yX9_copyRow cX9_copyRow 2 none ∈ tg := tg_in 376 (by decide +kernel) (by decide +kernel)
theorem ml_X9_241 : Cond.methodLink RX9 241 Lib.Math.min.name ∈ tg := tg_in 377 (by decide +kernel) (by decide +kernel)
theorem sm_math_min : Cond.static Lib.Math.min.name ∈ tg := tg_in 378 (by decide +kernel) (by decide +kernel)
theorem co_J9_min_7cf53 : Cond.code yJ9_min_7cf53 cJ9_min_7cf53 2 (some .int) ∈ tg := tg_in 379 (by decide +kernel) (by decide +kernel)
theorem ml_X9_246 : Cond.methodLink RX9 246 arraycopyName ∈ tg := tg_in 380 (by decide +kernel) (by decide +kernel)
theorem sm_arraycopy : Cond.static arraycopyName ∈ tg := tg_in 381 (by decide +kernel) (by decide +kernel)
theorem nm_arraycopy : Cond.native arraycopyName ∈ tg := tg_in 382 (by decide +kernel) (by decide +kernel)
theorem ml_X3_43 : Cond.methodLink RX3 43 yX6_copyFrom ∈ tg := tg_in 383 (by decide +kernel) (by decide +kernel)
theorem im_X6_copyFrom : Cond.instanceMethod yX6_copyFrom ∈ tg := tg_in 384 (by decide +kernel) (by decide +kernel)
theorem se_X6_copyFrom : Cond.selects RX6 yX6_copyFrom yX6_copyFrom ∈ tg := tg_in 385 (by decide +kernel) (by decide +kernel)
theorem co_X6_copyFrom : Cond.code yX6_copyFrom cX6_copyFrom 2 none ∈ tg := tg_in 386 (by decide +kernel) (by decide +kernel)
theorem ml_X3_46 : Cond.methodLink RX3 46 yX2_copyFrom ∈ tg := tg_in 387 (by decide +kernel) (by decide +kernel)
theorem im_X2_copyFrom : Cond.instanceMethod yX2_copyFrom ∈ tg := tg_in 388 (by decide +kernel) (by decide +kernel)
theorem se_X2_copyFrom : Cond.selects RX2 yX2_copyFrom yX2_copyFrom ∈ tg := tg_in 389 (by decide +kernel) (by decide +kernel)
theorem co_X2_copyFrom : Cond.code yX2_copyFrom cX2_copyFrom 2 none ∈ tg := tg_in 390 (by decide +kernel) (by decide +kernel)
theorem ml_X2_13 : Cond.methodLinkNest RX2 13 yX9_copyRow "FareDrops" ∈ nw := nw_in 353 (by decide +kernel) rfl
theorem ml_X9_65 : Cond.methodLink RX9 65 yX8_about ∈ tg := tg_in 392 (by decide +kernel) (by decide +kernel)
theorem im_X8_about : Cond.instanceMethod yX8_about ∈ tg := tg_in 393 (by decide +kernel) (by decide +kernel)
theorem se_X8_about : Cond.selects RX8 yX8_about yX8_about ∈ tg := tg_in 394 (by decide +kernel) (by decide +kernel)
theorem co_X8_about : Cond.code yX8_about cX8_about 3 (some .int) ∈ tg := tg_in 395 (by decide +kernel) (by decide +kernel)
theorem ml_X8_22 : Cond.methodLinkNest RX8 22 yX9_at "FareDrops" ∈ nw := nw_in 358 (by decide +kernel) rfl
theorem sm_X9_at : Cond.static yX9_at ∈ tg := tg_in 397 (by decide +kernel) (by decide +kernel)
theorem co_X9_at : Cond.code yX9_at cX9_at 2 (some .int) ∈ tg := tg_in 398 (by decide +kernel) (by decide +kernel)
theorem ml_X9_69 : Cond.methodLink RX9 69 yX8_change ∈ tg := tg_in 399 (by decide +kernel) (by decide +kernel)
theorem im_X8_change : Cond.instanceMethod yX8_change ∈ tg := tg_in 400 (by decide +kernel) (by decide +kernel)
theorem se_X8_change : Cond.selects RX8 yX8_change yX8_change ∈ tg := tg_in 401 (by decide +kernel) (by decide +kernel)
theorem co_X8_change : Cond.code yX8_change cX8_change 4 none ∈ tg := tg_in 402 (by decide +kernel) (by decide +kernel)
theorem ml_X8_26 : Cond.methodLinkNest RX8 26 yX9_setAt "FareDrops" ∈ nw := nw_in 365 (by decide +kernel) rfl
theorem sm_X9_setAt : Cond.static yX9_setAt ∈ tg := tg_in 404 (by decide +kernel) (by decide +kernel)
theorem co_X9_setAt : Cond.code yX9_setAt cX9_setAt 3 none ∈ tg := tg_in 405 (by decide +kernel) (by decide +kernel)
theorem ml_X9_73 : Cond.methodLink RX9 73 yX1_settle ∈ tg := tg_in 406 (by decide +kernel) (by decide +kernel)
theorem im_X1_settle : Cond.instanceMethod yX1_settle ∈ tg := tg_in 407 (by decide +kernel) (by decide +kernel)
theorem se_X1_settle : Cond.selects RX1 yX1_settle yX1_settle ∈ tg := tg_in 408 (by decide +kernel) (by decide +kernel)
theorem co_X1_settle : Cond.code yX1_settle cX1_settle 2 (some .int) ∈ tg := tg_in 409 (by decide +kernel) (by decide +kernel)
theorem ml_X1_31 : Cond.methodLink RX1 31 Lib.Math.min.name ∈ tg := tg_in 410 (by decide +kernel) (by decide +kernel)
theorem ml_L_18 : Cond.methodLink RL 18 yX9_hour ∈ tg := tg_in 411 (by decide +kernel) (by decide +kernel)
theorem im_X9_hour : Cond.instanceMethod yX9_hour ∈ tg := tg_in 412 (by decide +kernel) (by decide +kernel)
theorem se_X9_hour : Cond.selects RX9 yX9_hour yX9_hour ∈ tg := tg_in 413 (by decide +kernel) (by decide +kernel)
theorem co_X9_hour : Cond.code yX9_hour cX9_hour 4 (some .int) ∈ tg := tg_in 414 (by decide +kernel) (by decide +kernel)
theorem ml_X9_77 : Cond.methodLink RX9 77 yX8_ofHour ∈ tg := tg_in 415 (by decide +kernel) (by decide +kernel)
theorem im_X8_ofHour : Cond.instanceMethod yX8_ofHour ∈ tg := tg_in 416 (by decide +kernel) (by decide +kernel)
theorem se_X8_ofHour : Cond.selects RX8 yX8_ofHour yX8_ofHour ∈ tg := tg_in 417 (by decide +kernel) (by decide +kernel)
theorem co_X8_ofHour : Cond.code yX8_ofHour cX8_ofHour 2 (some .int) ∈ tg := tg_in 418 (by decide +kernel) (by decide +kernel)
theorem ml_X9_80 : Cond.methodLink RX9 80 yX8_giveHour ∈ tg := tg_in 419 (by decide +kernel) (by decide +kernel)
theorem im_X8_giveHour : Cond.instanceMethod yX8_giveHour ∈ tg := tg_in 420 (by decide +kernel) (by decide +kernel)
theorem se_X8_giveHour : Cond.selects RX8 yX8_giveHour yX8_giveHour ∈ tg := tg_in 421 (by decide +kernel) (by decide +kernel)
theorem co_X8_giveHour : Cond.code yX8_giveHour cX8_giveHour 3 none ∈ tg := tg_in 422 (by decide +kernel) (by decide +kernel)
theorem ml_L_23 : Cond.methodLink RL 23 yX9_priceOfExtra ∈ tg := tg_in 423 (by decide +kernel) (by decide +kernel)
theorem im_X9_priceOfExtra : Cond.instanceMethod yX9_priceOfExtra ∈ tg := tg_in 424 (by decide +kernel) (by decide +kernel)
theorem se_X9_priceOfExtra : Cond.selects RX9 yX9_priceOfExtra yX9_priceOfExtra ∈ tg := tg_in 425 (by decide +kernel) (by decide +kernel)
theorem co_X9_priceOfExtra : Cond.code yX9_priceOfExtra cX9_priceOfExtra 3 (some .int) ∈ tg := tg_in 426 (by decide +kernel) (by decide +kernel)
theorem ml_L_28 : Cond.methodLink RL 28 yX9_hire ∈ tg := tg_in 427 (by decide +kernel) (by decide +kernel)
theorem im_X9_hire : Cond.instanceMethod yX9_hire ∈ tg := tg_in 428 (by decide +kernel) (by decide +kernel)
theorem se_X9_hire : Cond.selects RX9 yX9_hire yX9_hire ∈ tg := tg_in 429 (by decide +kernel) (by decide +kernel)
theorem co_X9_hire : Cond.code yX9_hire cX9_hire 1 (some .int) ∈ tg := tg_in 430 (by decide +kernel) (by decide +kernel)
theorem ml_X9_88 : Cond.methodLink RX9 88 yX3_beginRide ∈ tg := tg_in 431 (by decide +kernel) (by decide +kernel)
theorem im_X3_beginRide : Cond.instanceMethod yX3_beginRide ∈ tg := tg_in 432 (by decide +kernel) (by decide +kernel)
theorem se_X3_beginRide : Cond.selects RX3 yX3_beginRide yX3_beginRide ∈ tg := tg_in 433 (by decide +kernel) (by decide +kernel)
theorem co_X3_beginRide : Cond.code yX3_beginRide cX3_beginRide 2 (some .int) ∈ tg := tg_in 434 (by decide +kernel) (by decide +kernel)
theorem ml_X3_58 : Cond.methodLink RX3 58 yX8_ofSecond ∈ tg := tg_in 435 (by decide +kernel) (by decide +kernel)
theorem im_X8_ofSecond : Cond.instanceMethod yX8_ofSecond ∈ tg := tg_in 436 (by decide +kernel) (by decide +kernel)
theorem se_X8_ofSecond : Cond.selects RX8 yX8_ofSecond yX8_ofSecond ∈ tg := tg_in 437 (by decide +kernel) (by decide +kernel)
theorem co_X8_ofSecond : Cond.code yX8_ofSecond cX8_ofSecond 2 (some .int) ∈ tg := tg_in 438 (by decide +kernel) (by decide +kernel)
theorem ml_X3_62 : Cond.methodLink RX3 62 yX8_about ∈ tg := tg_in 439 (by decide +kernel) (by decide +kernel)
theorem ml_X3_66 : Cond.methodLink RX3 66 yX6_startAt ∈ tg := tg_in 440 (by decide +kernel) (by decide +kernel)
theorem im_X6_startAt : Cond.instanceMethod yX6_startAt ∈ tg := tg_in 441 (by decide +kernel) (by decide +kernel)
theorem se_X6_startAt : Cond.selects RX6 yX6_startAt yX6_startAt ∈ tg := tg_in 442 (by decide +kernel) (by decide +kernel)
theorem co_X6_startAt : Cond.code yX6_startAt cX6_startAt 3 none ∈ tg := tg_in 443 (by decide +kernel) (by decide +kernel)
theorem ml_L_33 : Cond.methodLink RL 33 yX9_drive ∈ tg := tg_in 444 (by decide +kernel) (by decide +kernel)
theorem im_X9_drive : Cond.instanceMethod yX9_drive ∈ tg := tg_in 445 (by decide +kernel) (by decide +kernel)
theorem se_X9_drive : Cond.selects RX9 yX9_drive yX9_drive ∈ tg := tg_in 446 (by decide +kernel) (by decide +kernel)
theorem co_X9_drive : Cond.code yX9_drive cX9_drive 3 (some .int) ∈ tg := tg_in 447 (by decide +kernel) (by decide +kernel)
theorem ml_X9_92 : Cond.methodLink RX9 92 yX3_makeDrive ∈ tg := tg_in 448 (by decide +kernel) (by decide +kernel)
theorem im_X3_makeDrive : Cond.instanceMethod yX3_makeDrive ∈ tg := tg_in 449 (by decide +kernel) (by decide +kernel)
theorem se_X3_makeDrive : Cond.selects RX3 yX3_makeDrive yX3_makeDrive ∈ tg := tg_in 450 (by decide +kernel) (by decide +kernel)
theorem co_X3_makeDrive : Cond.code yX3_makeDrive cX3_makeDrive 4 (some .int) ∈ tg := tg_in 451 (by decide +kernel) (by decide +kernel)
theorem ml_X3_70 : Cond.methodLinkNest RX3 70 yX9_isDrive "FareDrops" ∈ nw := nw_in 414 (by decide +kernel) rfl
theorem sm_X9_isDrive : Cond.static yX9_isDrive ∈ tg := tg_in 453 (by decide +kernel) (by decide +kernel)
theorem co_X9_isDrive : Cond.code yX9_isDrive cX9_isDrive 2 (some .boolean) ∈ tg := tg_in 454 (by decide +kernel) (by decide +kernel)
theorem ml_X3_74 : Cond.methodLink RX3 74 yX0_goOnFrom ∈ tg := tg_in 455 (by decide +kernel) (by decide +kernel)
theorem im_X0_goOnFrom : Cond.instanceMethod yX0_goOnFrom ∈ tg := tg_in 456 (by decide +kernel) (by decide +kernel)
theorem se_X0_goOnFrom : Cond.selects RX0 yX0_goOnFrom yX0_goOnFrom ∈ tg := tg_in 457 (by decide +kernel) (by decide +kernel)
theorem co_X0_goOnFrom : Cond.code yX0_goOnFrom cX0_goOnFrom 2 none ∈ tg := tg_in 458 (by decide +kernel) (by decide +kernel)
theorem ml_X3_83 : Cond.methodLink RX3 83 yX0_run ∈ tg := tg_in 459 (by decide +kernel) (by decide +kernel)
theorem im_X0_run : Cond.instanceMethod yX0_run ∈ tg := tg_in 460 (by decide +kernel) (by decide +kernel)
theorem se_X0_run : Cond.selects RX0 yX0_run yX0_run ∈ tg := tg_in 461 (by decide +kernel) (by decide +kernel)
theorem co_X0_run : Cond.code yX0_run cX0_run 9 none ∈ tg := tg_in 462 (by decide +kernel) (by decide +kernel)
theorem k_X0_52 : Cond.constant RX0 52 (86400) ∈ tg := tg_in 463 (by decide +kernel) (by decide +kernel)
theorem ml_X0_53 : Cond.methodLink RX0 53 Lib.Math.min.name ∈ tg := tg_in 464 (by decide +kernel) (by decide +kernel)
theorem ml_X0_9 : Cond.methodLink RX0 9 yX8_ofSecond ∈ tg := tg_in 465 (by decide +kernel) (by decide +kernel)
theorem ml_X0_58 : Cond.methodLink RX0 58 yX0_takeTariff ∈ tg := tg_in 466 (by decide +kernel) (by decide +kernel)
theorem im_X0_takeTariff : Cond.instanceMethod yX0_takeTariff ∈ tg := tg_in 468 (by decide +kernel) (by decide +kernel)
theorem co_X0_takeTariff : Cond.code yX0_takeTariff cX0_takeTariff 4 none ∈ tg := tg_in 469 (by decide +kernel) (by decide +kernel)
theorem ml_X0_15 : Cond.methodLink RX0 15 yX8_about ∈ tg := tg_in 470 (by decide +kernel) (by decide +kernel)
theorem ml_X0_75 : Cond.methodLink RX0 75 Lib.Math.max.name ∈ tg := tg_in 471 (by decide +kernel) (by decide +kernel)
theorem sm_math_max : Cond.static Lib.Math.max.name ∈ tg := tg_in 472 (by decide +kernel) (by decide +kernel)
theorem co_J9_max_7cf53 : Cond.code yJ9_max_7cf53 cJ9_max_7cf53 2 (some .int) ∈ tg := tg_in 473 (by decide +kernel) (by decide +kernel)
theorem ml_X0_62 : Cond.methodLink RX0 62 yX0_runCut ∈ tg := tg_in 474 (by decide +kernel) (by decide +kernel)
theorem im_X0_runCut : Cond.instanceMethod yX0_runCut ∈ tg := tg_in 476 (by decide +kernel) (by decide +kernel)
theorem co_X0_runCut : Cond.code yX0_runCut cX0_runCut 7 none ∈ tg := tg_in 477 (by decide +kernel) (by decide +kernel)
theorem ml_X0_78 : Cond.methodLink RX0 78 yX0_behind ∈ tg := tg_in 478 (by decide +kernel) (by decide +kernel)
theorem im_X0_behind : Cond.instanceMethod yX0_behind ∈ tg := tg_in 480 (by decide +kernel) (by decide +kernel)
theorem co_X0_behind : Cond.code yX0_behind cX0_behind 2 (some .int) ∈ tg := tg_in 481 (by decide +kernel) (by decide +kernel)
theorem ml_X0_81 : Cond.methodLink RX0 81 yX0_isByWay ∈ tg := tg_in 482 (by decide +kernel) (by decide +kernel)
theorem im_X0_isByWay : Cond.instanceMethod yX0_isByWay ∈ tg := tg_in 484 (by decide +kernel) (by decide +kernel)
theorem co_X0_isByWay : Cond.code yX0_isByWay cX0_isByWay 2 (some .boolean) ∈ tg := tg_in 485 (by decide +kernel) (by decide +kernel)
theorem ml_X0_85 : Cond.methodLink RX0 85 yX0_gain ∈ tg := tg_in 486 (by decide +kernel) (by decide +kernel)
theorem im_X0_gain : Cond.instanceMethod yX0_gain ∈ tg := tg_in 488 (by decide +kernel) (by decide +kernel)
theorem co_X0_gain : Cond.code yX0_gain cX0_gain 2 (some .int) ∈ tg := tg_in 489 (by decide +kernel) (by decide +kernel)
theorem ml_X0_88 : Cond.methodLink RX0 88 yX0_grow ∈ tg := tg_in 490 (by decide +kernel) (by decide +kernel)
theorem im_X0_grow : Cond.instanceMethod yX0_grow ∈ tg := tg_in 492 (by decide +kernel) (by decide +kernel)
theorem co_X0_grow : Cond.code yX0_grow cX0_grow 4 none ∈ tg := tg_in 493 (by decide +kernel) (by decide +kernel)
theorem k_X0_92 : Cond.constant RX0 92 (9999999) ∈ tg := tg_in 494 (by decide +kernel) (by decide +kernel)
theorem k_X3_113 : Cond.constant RX3 113 (86400) ∈ tg := tg_in 495 (by decide +kernel) (by decide +kernel)
theorem ml_L_37 : Cond.methodLink RL 37 yX9_rest ∈ tg := tg_in 496 (by decide +kernel) (by decide +kernel)
theorem im_X9_rest : Cond.instanceMethod yX9_rest ∈ tg := tg_in 497 (by decide +kernel) (by decide +kernel)
theorem se_X9_rest : Cond.selects RX9 yX9_rest yX9_rest ∈ tg := tg_in 498 (by decide +kernel) (by decide +kernel)
theorem co_X9_rest : Cond.code yX9_rest cX9_rest 2 (some .int) ∈ tg := tg_in 499 (by decide +kernel) (by decide +kernel)
theorem ml_X9_96 : Cond.methodLink RX9 96 yX3_letTimePass ∈ tg := tg_in 500 (by decide +kernel) (by decide +kernel)
theorem im_X3_letTimePass : Cond.instanceMethod yX3_letTimePass ∈ tg := tg_in 501 (by decide +kernel) (by decide +kernel)
theorem se_X3_letTimePass : Cond.selects RX3 yX3_letTimePass yX3_letTimePass ∈ tg := tg_in 502 (by decide +kernel) (by decide +kernel)
theorem co_X3_letTimePass : Cond.code yX3_letTimePass cX3_letTimePass 2 (some .int) ∈ tg := tg_in 503 (by decide +kernel) (by decide +kernel)
theorem ml_X3_114 : Cond.methodLinkNest RX3 114 yX9_isIn "FareDrops" ∈ nw := nw_in 466 (by decide +kernel) rfl
theorem ml_L_41 : Cond.methodLink RL 41 yX9_halt ∈ tg := tg_in 505 (by decide +kernel) (by decide +kernel)
theorem im_X9_halt : Cond.instanceMethod yX9_halt ∈ tg := tg_in 506 (by decide +kernel) (by decide +kernel)
theorem se_X9_halt : Cond.selects RX9 yX9_halt yX9_halt ∈ tg := tg_in 507 (by decide +kernel) (by decide +kernel)
theorem co_X9_halt : Cond.code yX9_halt cX9_halt 1 (some .int) ∈ tg := tg_in 508 (by decide +kernel) (by decide +kernel)
theorem ml_X9_99 : Cond.methodLink RX9 99 yX3_turnHalt ∈ tg := tg_in 509 (by decide +kernel) (by decide +kernel)
theorem im_X3_turnHalt : Cond.instanceMethod yX3_turnHalt ∈ tg := tg_in 510 (by decide +kernel) (by decide +kernel)
theorem se_X3_turnHalt : Cond.selects RX3 yX3_turnHalt yX3_turnHalt ∈ tg := tg_in 511 (by decide +kernel) (by decide +kernel)
theorem co_X3_turnHalt : Cond.code yX3_turnHalt cX3_turnHalt 1 (some .int) ∈ tg := tg_in 512 (by decide +kernel) (by decide +kernel)
theorem ml_L_45 : Cond.methodLink RL 45 yX9_extra ∈ tg := tg_in 513 (by decide +kernel) (by decide +kernel)
theorem im_X9_extra : Cond.instanceMethod yX9_extra ∈ tg := tg_in 514 (by decide +kernel) (by decide +kernel)
theorem se_X9_extra : Cond.selects RX9 yX9_extra yX9_extra ∈ tg := tg_in 515 (by decide +kernel) (by decide +kernel)
theorem co_X9_extra : Cond.code yX9_extra cX9_extra 1 (some .int) ∈ tg := tg_in 516 (by decide +kernel) (by decide +kernel)
theorem ml_X9_102 : Cond.methodLink RX9 102 yX3_takeExtra ∈ tg := tg_in 517 (by decide +kernel) (by decide +kernel)
theorem im_X3_takeExtra : Cond.instanceMethod yX3_takeExtra ∈ tg := tg_in 518 (by decide +kernel) (by decide +kernel)
theorem se_X3_takeExtra : Cond.selects RX3 yX3_takeExtra yX3_takeExtra ∈ tg := tg_in 519 (by decide +kernel) (by decide +kernel)
theorem co_X3_takeExtra : Cond.code yX3_takeExtra cX3_takeExtra 1 (some .int) ∈ tg := tg_in 520 (by decide +kernel) (by decide +kernel)
theorem ml_L_49 : Cond.methodLink RL 49 yX9_end ∈ tg := tg_in 521 (by decide +kernel) (by decide +kernel)
theorem im_X9_end : Cond.instanceMethod yX9_end ∈ tg := tg_in 522 (by decide +kernel) (by decide +kernel)
theorem se_X9_end : Cond.selects RX9 yX9_end yX9_end ∈ tg := tg_in 523 (by decide +kernel) (by decide +kernel)
theorem co_X9_end : Cond.code yX9_end cX9_end 1 (some .int) ∈ tg := tg_in 524 (by decide +kernel) (by decide +kernel)
theorem ml_X9_105 : Cond.methodLink RX9 105 yX3_endRide ∈ tg := tg_in 525 (by decide +kernel) (by decide +kernel)
theorem im_X3_endRide : Cond.instanceMethod yX3_endRide ∈ tg := tg_in 526 (by decide +kernel) (by decide +kernel)
theorem se_X3_endRide : Cond.selects RX3 yX3_endRide yX3_endRide ∈ tg := tg_in 527 (by decide +kernel) (by decide +kernel)
theorem co_X3_endRide : Cond.code yX3_endRide cX3_endRide 2 (some .int) ∈ tg := tg_in 528 (by decide +kernel) (by decide +kernel)
theorem ml_X3_127 : Cond.methodLink RX3 127 yX2_add ∈ tg := tg_in 529 (by decide +kernel) (by decide +kernel)
theorem im_X2_add : Cond.instanceMethod yX2_add ∈ tg := tg_in 530 (by decide +kernel) (by decide +kernel)
theorem se_X2_add : Cond.selects RX2 yX2_add yX2_add ∈ tg := tg_in 531 (by decide +kernel) (by decide +kernel)
theorem co_X2_add : Cond.code yX2_add cX2_add 3 none ∈ tg := tg_in 532 (by decide +kernel) (by decide +kernel)
theorem ml_X2_34 : Cond.methodLinkNest RX2 34 yX9_setAt "FareDrops" ∈ nw := nw_in 495 (by decide +kernel) rfl
theorem ml_X2_56 : Cond.methodLink RX2 56 Lib.Math.min.name ∈ tg := tg_in 534 (by decide +kernel) (by decide +kernel)
theorem k_X3_130 : Cond.constant RX3 130 (1000000) ∈ tg := tg_in 535 (by decide +kernel) (by decide +kernel)
theorem ml_L_53 : Cond.methodLink RL 53 yX9_ofTariff ∈ tg := tg_in 536 (by decide +kernel) (by decide +kernel)
theorem im_X9_ofTariff : Cond.instanceMethod yX9_ofTariff ∈ tg := tg_in 537 (by decide +kernel) (by decide +kernel)
theorem se_X9_ofTariff : Cond.selects RX9 yX9_ofTariff yX9_ofTariff ∈ tg := tg_in 538 (by decide +kernel) (by decide +kernel)
theorem co_X9_ofTariff : Cond.code yX9_ofTariff cX9_ofTariff 3 (some .int) ∈ tg := tg_in 539 (by decide +kernel) (by decide +kernel)
theorem ml_X9_108 : Cond.methodLink RX9 108 yX8_hoursOf ∈ tg := tg_in 540 (by decide +kernel) (by decide +kernel)
theorem im_X8_hoursOf : Cond.instanceMethod yX8_hoursOf ∈ tg := tg_in 541 (by decide +kernel) (by decide +kernel)
theorem se_X8_hoursOf : Cond.selects RX8 yX8_hoursOf yX8_hoursOf ∈ tg := tg_in 542 (by decide +kernel) (by decide +kernel)
theorem co_X8_hoursOf : Cond.code yX8_hoursOf cX8_hoursOf 4 (some .int) ∈ tg := tg_in 543 (by decide +kernel) (by decide +kernel)
theorem ml_X8_30 : Cond.methodLink RX8 30 yX8_ofHour ∈ tg := tg_in 544 (by decide +kernel) (by decide +kernel)
theorem ml_L_57 : Cond.methodLink RL 57 yX9_ride ∈ tg := tg_in 545 (by decide +kernel) (by decide +kernel)
theorem im_X9_ride : Cond.instanceMethod yX9_ride ∈ tg := tg_in 546 (by decide +kernel) (by decide +kernel)
theorem se_X9_ride : Cond.selects RX9 yX9_ride yX9_ride ∈ tg := tg_in 547 (by decide +kernel) (by decide +kernel)
theorem co_X9_ride : Cond.code yX9_ride cX9_ride 3 (some .int) ∈ tg := tg_in 548 (by decide +kernel) (by decide +kernel)
theorem ml_L_61 : Cond.methodLink RL 61 yX9_log ∈ tg := tg_in 549 (by decide +kernel) (by decide +kernel)
theorem im_X9_log : Cond.instanceMethod yX9_log ∈ tg := tg_in 550 (by decide +kernel) (by decide +kernel)
theorem se_X9_log : Cond.selects RX9 yX9_log yX9_log ∈ tg := tg_in 551 (by decide +kernel) (by decide +kernel)
theorem co_X9_log : Cond.code yX9_log cX9_log 3 (some .int) ∈ tg := tg_in 552 (by decide +kernel) (by decide +kernel)
theorem ml_X9_153 : Cond.methodLink RX9 153 yX2_about ∈ tg := tg_in 553 (by decide +kernel) (by decide +kernel)
theorem im_X2_about : Cond.instanceMethod yX2_about ∈ tg := tg_in 554 (by decide +kernel) (by decide +kernel)
theorem se_X2_about : Cond.selects RX2 yX2_about yX2_about ∈ tg := tg_in 555 (by decide +kernel) (by decide +kernel)
theorem co_X2_about : Cond.code yX2_about cX2_about 4 (some .int) ∈ tg := tg_in 556 (by decide +kernel) (by decide +kernel)
theorem ml_X2_62 : Cond.methodLinkNest RX2 62 yX9_at "FareDrops" ∈ nw := nw_in 519 (by decide +kernel) rfl
theorem ml_L_65 : Cond.methodLink RL 65 yX9_count ∈ tg := tg_in 558 (by decide +kernel) (by decide +kernel)
theorem im_X9_count : Cond.instanceMethod yX9_count ∈ tg := tg_in 559 (by decide +kernel) (by decide +kernel)
theorem se_X9_count : Cond.selects RX9 yX9_count yX9_count ∈ tg := tg_in 560 (by decide +kernel) (by decide +kernel)
theorem co_X9_count : Cond.code yX9_count cX9_count 2 (some .int) ∈ tg := tg_in 561 (by decide +kernel) (by decide +kernel)
theorem ml_X9_160 : Cond.methodLink RX9 160 yX8_ofSecond ∈ tg := tg_in 562 (by decide +kernel) (by decide +kernel)
theorem ml_L_69 : Cond.methodLink RL 69 yX9_would ∈ tg := tg_in 563 (by decide +kernel) (by decide +kernel)
theorem im_X9_would : Cond.instanceMethod yX9_would ∈ tg := tg_in 564 (by decide +kernel) (by decide +kernel)
theorem se_X9_would : Cond.selects RX9 yX9_would yX9_would ∈ tg := tg_in 565 (by decide +kernel) (by decide +kernel)
theorem co_X9_would : Cond.code yX9_would cX9_would 3 (some .int) ∈ tg := tg_in 566 (by decide +kernel) (by decide +kernel)
theorem ml_X9_173 : Cond.methodLink RX9 173 yX9_isDrive ∈ tg := tg_in 567 (by decide +kernel) (by decide +kernel)
theorem ml_X9_177 : Cond.methodLink RX9 177 yX0_goOnFrom ∈ tg := tg_in 568 (by decide +kernel) (by decide +kernel)
theorem ml_X9_181 : Cond.methodLink RX9 181 yX0_run ∈ tg := tg_in 569 (by decide +kernel) (by decide +kernel)
theorem ml_L_73 : Cond.methodLink RL 73 yX9_price ∈ tg := tg_in 570 (by decide +kernel) (by decide +kernel)
theorem im_X9_price : Cond.instanceMethod yX9_price ∈ tg := tg_in 571 (by decide +kernel) (by decide +kernel)
theorem se_X9_price : Cond.selects RX9 yX9_price yX9_price ∈ tg := tg_in 572 (by decide +kernel) (by decide +kernel)
theorem co_X9_price : Cond.code yX9_price cX9_price 3 (some .int) ∈ tg := tg_in 573 (by decide +kernel) (by decide +kernel)
theorem ml_X9_186 : Cond.methodLink RX9 186 yX9_priceAt ∈ tg := tg_in 574 (by decide +kernel) (by decide +kernel)
theorem im_X9_priceAt : Cond.instanceMethod yX9_priceAt ∈ tg := tg_in 576 (by decide +kernel) (by decide +kernel)
theorem co_X9_priceAt : Cond.code yX9_priceAt cX9_priceAt 4 (some .int) ∈ tg := tg_in 577 (by decide +kernel) (by decide +kernel)
theorem ml_X9_227 : Cond.methodLink RX9 227 yX0_startNew ∈ tg := tg_in 578 (by decide +kernel) (by decide +kernel)
theorem im_X0_startNew : Cond.instanceMethod yX0_startNew ∈ tg := tg_in 579 (by decide +kernel) (by decide +kernel)
theorem se_X0_startNew : Cond.selects RX0 yX0_startNew yX0_startNew ∈ tg := tg_in 580 (by decide +kernel) (by decide +kernel)
theorem co_X0_startNew : Cond.code yX0_startNew cX0_startNew 3 none ∈ tg := tg_in 581 (by decide +kernel) (by decide +kernel)
theorem ml_L_77 : Cond.methodLink RL 77 yX9_farthest ∈ tg := tg_in 582 (by decide +kernel) (by decide +kernel)
theorem im_X9_farthest : Cond.instanceMethod yX9_farthest ∈ tg := tg_in 583 (by decide +kernel) (by decide +kernel)
theorem se_X9_farthest : Cond.selects RX9 yX9_farthest yX9_farthest ∈ tg := tg_in 584 (by decide +kernel) (by decide +kernel)
theorem co_X9_farthest : Cond.code yX9_farthest cX9_farthest 4 (some .int) ∈ tg := tg_in 585 (by decide +kernel) (by decide +kernel)
theorem ml_L_81 : Cond.methodLink RL 81 yX9_cheapest ∈ tg := tg_in 586 (by decide +kernel) (by decide +kernel)
theorem im_X9_cheapest : Cond.instanceMethod yX9_cheapest ∈ tg := tg_in 587 (by decide +kernel) (by decide +kernel)
theorem se_X9_cheapest : Cond.selects RX9 yX9_cheapest yX9_cheapest ∈ tg := tg_in 588 (by decide +kernel) (by decide +kernel)
theorem co_X9_cheapest : Cond.code yX9_cheapest cX9_cheapest 8 (some .int) ∈ tg := tg_in 589 (by decide +kernel) (by decide +kernel)
theorem ml_L_88 : Cond.methodLink RL 88 yX9_put ∈ tg := tg_in 590 (by decide +kernel) (by decide +kernel)
theorem im_X9_put : Cond.instanceMethod yX9_put ∈ tg := tg_in 591 (by decide +kernel) (by decide +kernel)
theorem se_X9_put : Cond.selects RX9 yX9_put yX9_put ∈ tg := tg_in 592 (by decide +kernel) (by decide +kernel)
theorem co_X9_put : Cond.code yX9_put cX9_put 4 (some .int) ∈ tg := tg_in 593 (by decide +kernel) (by decide +kernel)
theorem ml_X9_190 : Cond.methodLink RX9 190 yX5_countOf ∈ tg := tg_in 594 (by decide +kernel) (by decide +kernel)
theorem sm_X5_countOf : Cond.static yX5_countOf ∈ tg := tg_in 595 (by decide +kernel) (by decide +kernel)
theorem co_X5_countOf : Cond.code yX5_countOf cX5_countOf 5 (some .int) ∈ tg := tg_in 596 (by decide +kernel) (by decide +kernel)
theorem ml_X5_13 : Cond.methodLink RX5 13 yX5_codeAt ∈ tg := tg_in 597 (by decide +kernel) (by decide +kernel)
theorem sm_X5_codeAt : Cond.static yX5_codeAt ∈ tg := tg_in 598 (by decide +kernel) (by decide +kernel)
theorem co_X5_codeAt : Cond.code yX5_codeAt cX5_codeAt 3 (some .int) ∈ tg := tg_in 599 (by decide +kernel) (by decide +kernel)
theorem ml_X5_17 : Cond.methodLinkNest RX5 17 yX9_isIn "FareDrops" ∈ nw := nw_in 562 (by decide +kernel) rfl
theorem ml_X9_194 : Cond.methodLink RX9 194 yX5_append ∈ tg := tg_in 601 (by decide +kernel) (by decide +kernel)
theorem im_X5_append : Cond.instanceMethod yX5_append ∈ tg := tg_in 602 (by decide +kernel) (by decide +kernel)
theorem se_X5_append : Cond.selects RX5 yX5_append yX5_append ∈ tg := tg_in 603 (by decide +kernel) (by decide +kernel)
theorem co_X5_append : Cond.code yX5_append cX5_append 5 none ∈ tg := tg_in 604 (by decide +kernel) (by decide +kernel)
theorem ml_L_93 : Cond.methodLink RL 93 yX9_wipe ∈ tg := tg_in 605 (by decide +kernel) (by decide +kernel)
theorem im_X9_wipe : Cond.instanceMethod yX9_wipe ∈ tg := tg_in 606 (by decide +kernel) (by decide +kernel)
theorem se_X9_wipe : Cond.selects RX9 yX9_wipe yX9_wipe ∈ tg := tg_in 607 (by decide +kernel) (by decide +kernel)
theorem co_X9_wipe : Cond.code yX9_wipe cX9_wipe 2 (some .int) ∈ tg := tg_in 608 (by decide +kernel) (by decide +kernel)
theorem ml_L_97 : Cond.methodLink RL 97 yX9_fault ∈ tg := tg_in 609 (by decide +kernel) (by decide +kernel)
theorem im_X9_fault : Cond.instanceMethod yX9_fault ∈ tg := tg_in 610 (by decide +kernel) (by decide +kernel)
theorem se_X9_fault : Cond.selects RX9 yX9_fault yX9_fault ∈ tg := tg_in 611 (by decide +kernel) (by decide +kernel)
theorem co_X9_fault : Cond.code yX9_fault cX9_fault 1 (some .int) ∈ tg := tg_in 612 (by decide +kernel) (by decide +kernel)
theorem ml_X9_198 : Cond.methodLink RX9 198 yX4_faultOf ∈ tg := tg_in 613 (by decide +kernel) (by decide +kernel)
theorem im_X4_faultOf : Cond.instanceMethod yX4_faultOf ∈ tg := tg_in 614 (by decide +kernel) (by decide +kernel)
theorem se_X4_faultOf : Cond.selects RX4 yX4_faultOf yX4_faultOf ∈ tg := tg_in 615 (by decide +kernel) (by decide +kernel)
theorem co_X4_faultOf : Cond.code yX4_faultOf cX4_faultOf 3 (some .int) ∈ tg := tg_in 616 (by decide +kernel) (by decide +kernel)
theorem ml_X4_18 : Cond.methodLink RX4 18 yX4_start ∈ tg := tg_in 617 (by decide +kernel) (by decide +kernel)
theorem im_X4_start : Cond.instanceMethod yX4_start ∈ tg := tg_in 618 (by decide +kernel) (by decide +kernel)
theorem se_X4_start : Cond.selects RX4 yX4_start yX4_start ∈ tg := tg_in 619 (by decide +kernel) (by decide +kernel)
theorem co_X4_start : Cond.code yX4_start cX4_start 1 none ∈ tg := tg_in 620 (by decide +kernel) (by decide +kernel)
theorem ml_X4_26 : Cond.methodLink RX4 26 yX5_signAt ∈ tg := tg_in 621 (by decide +kernel) (by decide +kernel)
theorem im_X5_signAt : Cond.instanceMethod yX5_signAt ∈ tg := tg_in 622 (by decide +kernel) (by decide +kernel)
theorem se_X5_signAt : Cond.selects RX5 yX5_signAt yX5_signAt ∈ tg := tg_in 623 (by decide +kernel) (by decide +kernel)
theorem co_X5_signAt : Cond.code yX5_signAt cX5_signAt 2 (some .char) ∈ tg := tg_in 624 (by decide +kernel) (by decide +kernel)
theorem ml_X4_30 : Cond.methodLink RX4 30 yX4_take ∈ tg := tg_in 625 (by decide +kernel) (by decide +kernel)
theorem im_X4_take : Cond.instanceMethod yX4_take ∈ tg := tg_in 626 (by decide +kernel) (by decide +kernel)
theorem se_X4_take : Cond.selects RX4 yX4_take yX4_take ∈ tg := tg_in 627 (by decide +kernel) (by decide +kernel)
theorem co_X4_take : Cond.code yX4_take cX4_take 2 (some .boolean) ∈ tg := tg_in 628 (by decide +kernel) (by decide +kernel)
theorem ml_X4_38 : Cond.methodLink RX4 38 yX4_takeLetter ∈ tg := tg_in 629 (by decide +kernel) (by decide +kernel)
theorem im_X4_takeLetter : Cond.instanceMethod yX4_takeLetter ∈ tg := tg_in 631 (by decide +kernel) (by decide +kernel)
theorem co_X4_takeLetter : Cond.code yX4_takeLetter cX4_takeLetter 2 (some .boolean) ∈ tg := tg_in 632 (by decide +kernel) (by decide +kernel)
theorem ml_X4_50 : Cond.methodLink RX4 50 yJ0_indexOf_0f7a4 ∈ tg := tg_in 634 (by decide +kernel) (by decide +kernel)
theorem im_J0_indexOf_0f7a4 : Cond.instanceMethod yJ0_indexOf_0f7a4 ∈ tg := tg_in 635 (by decide +kernel) (by decide +kernel)
theorem se_J0_indexOf_0f7a4 : Cond.selects RJ0 yJ0_indexOf_0f7a4 yJ0_indexOf_0f7a4 ∈ tg := tg_in 636 (by decide +kernel) (by decide +kernel)
theorem co_J0_indexOf_0f7a4 : Cond.code yJ0_indexOf_0f7a4 cJ0_indexOf_0f7a4 2 (some .int) ∈ tg := tg_in 637 (by decide +kernel) (by decide +kernel)
theorem ml_J0_633 : Cond.methodLink RJ0 633 yJ0_indexOf_7cf53 ∈ tg := tg_in 638 (by decide +kernel) (by decide +kernel)
theorem im_J0_indexOf_7cf53 : Cond.instanceMethod yJ0_indexOf_7cf53 ∈ tg := tg_in 639 (by decide +kernel) (by decide +kernel)
theorem se_J0_indexOf_7cf53 : Cond.selects RJ0 yJ0_indexOf_7cf53 yJ0_indexOf_7cf53 ∈ tg := tg_in 640 (by decide +kernel) (by decide +kernel)
theorem co_J0_indexOf_7cf53 : Cond.code yJ0_indexOf_7cf53 cJ0_indexOf_7cf53 3 (some .int) ∈ tg := tg_in 641 (by decide +kernel) (by decide +kernel)
theorem ml_J0_492 : Cond.methodLink RJ0 492 yJ0_isLatin1_aae02 ∈ tg := tg_in 642 (by decide +kernel) (by decide +kernel)
theorem im_J0_isLatin1_aae02 : Cond.instanceMethod yJ0_isLatin1_aae02 ∈ tg := tg_in 643 (by decide +kernel) (by decide +kernel)
theorem se_J0_isLatin1_aae02 : Cond.selects RJ0 yJ0_isLatin1_aae02 yJ0_isLatin1_aae02 ∈ tg := tg_in 644 (by decide +kernel) (by decide +kernel)
theorem co_J0_isLatin1_aae02 : Cond.code yJ0_isLatin1_aae02 cJ0_isLatin1_aae02 1 (some .boolean) ∈ tg := tg_in 645 (by decide +kernel) (by decide +kernel)
theorem ml_J0_505 : Cond.methodLink RJ0 505 yJ0_length_8abf5 ∈ tg := tg_in 648 (by decide +kernel) (by decide +kernel)
theorem im_J0_length_8abf5 : Cond.instanceMethod yJ0_length_8abf5 ∈ tg := tg_in 649 (by decide +kernel) (by decide +kernel)
theorem se_J0_length_8abf5 : Cond.selects RJ0 yJ0_length_8abf5 yJ0_length_8abf5 ∈ tg := tg_in 650 (by decide +kernel) (by decide +kernel)
theorem co_J0_length_8abf5 : Cond.code yJ0_length_8abf5 cJ0_length_8abf5 1 (some .int) ∈ tg := tg_in 651 (by decide +kernel) (by decide +kernel)
theorem ml_J0_335 : Cond.methodLink RJ0 335 yJ0_coder_7d493 ∈ tg := tg_in 652 (by decide +kernel) (by decide +kernel)
theorem im_J0_coder_7d493 : Cond.instanceMethod yJ0_coder_7d493 ∈ tg := tg_in 653 (by decide +kernel) (by decide +kernel)
theorem se_J0_coder_7d493 : Cond.selects RJ0 yJ0_coder_7d493 yJ0_coder_7d493 ∈ tg := tg_in 654 (by decide +kernel) (by decide +kernel)
theorem co_J0_coder_7d493 : Cond.code yJ0_coder_7d493 cJ0_coder_7d493 1 (some .byte) ∈ tg := tg_in 655 (by decide +kernel) (by decide +kernel)
theorem ml_J0_637 : Cond.methodLink RJ0 637 yJ1_indexOf_4cfef ∈ tg := tg_in 656 (by decide +kernel) (by decide +kernel)
theorem sm_J1_indexOf_4cfef : Cond.static yJ1_indexOf_4cfef ∈ tg := tg_in 657 (by decide +kernel) (by decide +kernel)
theorem co_J1_indexOf_4cfef : Cond.code yJ1_indexOf_4cfef cJ1_indexOf_4cfef 4 (some .int) ∈ tg := tg_in 658 (by decide +kernel) (by decide +kernel)
theorem ml_J1_88 : Cond.methodLink RJ1 88 yJ1_canEncode_9a6ad ∈ tg := tg_in 659 (by decide +kernel) (by decide +kernel)
theorem sm_J1_canEncode_9a6ad : Cond.static yJ1_canEncode_9a6ad ∈ tg := tg_in 660 (by decide +kernel) (by decide +kernel)
theorem co_J1_canEncode_9a6ad : Cond.code yJ1_canEncode_9a6ad cJ1_canEncode_9a6ad 1 (some .boolean) ∈ tg := tg_in 661 (by decide +kernel) (by decide +kernel)
theorem ml_J1_92 : Cond.methodLink RJ1 92 Lib.Math.max.name ∈ tg := tg_in 662 (by decide +kernel) (by decide +kernel)
theorem ml_J1_38 : Cond.methodLink RJ1 38 Lib.Math.min.name ∈ tg := tg_in 663 (by decide +kernel) (by decide +kernel)
theorem ml_J1_95 : Cond.methodLink RJ1 95 yJ1_indexOfChar_4cfef ∈ tg := tg_in 664 (by decide +kernel) (by decide +kernel)
theorem sm_J1_indexOfChar_4cfef : Cond.static yJ1_indexOfChar_4cfef ∈ tg := tg_in 665 (by decide +kernel) (by decide +kernel)
theorem co_J1_indexOfChar_4cfef : Cond.code yJ1_indexOfChar_4cfef cJ1_indexOfChar_4cfef 6 (some .int) ∈ tg := tg_in 666 (by decide +kernel) (by decide +kernel)
theorem ml_J0_640 : Cond.methodLink RJ0 640 yJ2_indexOf_4cfef ∈ tg := tg_in 667 (by decide +kernel) (by decide +kernel)
theorem sm_J2_indexOf_4cfef : Cond.static yJ2_indexOf_4cfef ∈ tg := tg_in 668 (by decide +kernel) (by decide +kernel)
theorem co_J2_indexOf_4cfef : Cond.code yJ2_indexOf_4cfef cJ2_indexOf_4cfef 4 (some .int) ∈ tg := tg_in 669 (by decide +kernel) (by decide +kernel)
theorem ml_J2_224 : Cond.methodLink RJ2 224 Lib.Math.max.name ∈ tg := tg_in 670 (by decide +kernel) (by decide +kernel)
theorem ml_J2_183 : Cond.methodLink RJ2 183 Lib.Math.min.name ∈ tg := tg_in 671 (by decide +kernel) (by decide +kernel)
theorem k_J2_227 : Cond.constant RJ2 227 (65536) ∈ tg := tg_in 672 (by decide +kernel) (by decide +kernel)
theorem ml_J2_228 : Cond.methodLink RJ2 228 yJ2_indexOfChar_4cfef ∈ tg := tg_in 673 (by decide +kernel) (by decide +kernel)
theorem sm_J2_indexOfChar_4cfef : Cond.static yJ2_indexOfChar_4cfef ∈ tg := tg_in 674 (by decide +kernel) (by decide +kernel)
theorem co_J2_indexOfChar_4cfef : Cond.code yJ2_indexOfChar_4cfef cJ2_indexOfChar_4cfef 4 (some .int) ∈ tg := tg_in 675 (by decide +kernel) (by decide +kernel)
theorem ml_J2_96 : Cond.methodLink RJ2 96 yJ2_checkBoundsBeginEnd_d044e ∈ tg := tg_in 676 (by decide +kernel) (by decide +kernel)
theorem sm_J2_checkBoundsBeginEnd_d044e : Cond.static yJ2_checkBoundsBeginEnd_d044e ∈ tg := tg_in 677 (by decide +kernel) (by decide +kernel)
theorem co_J2_checkBoundsBeginEnd_d044e : Cond.code yJ2_checkBoundsBeginEnd_d044e cJ2_checkBoundsBeginEnd_d044e 3 none ∈ tg := tg_in 678 (by decide +kernel) (by decide +kernel)
theorem ml_J2_48 : Cond.methodLink RJ2 48 yJ2_length_9d52b ∈ tg := tg_in 679 (by decide +kernel) (by decide +kernel)
theorem sm_J2_length_9d52b : Cond.static yJ2_length_9d52b ∈ tg := tg_in 680 (by decide +kernel) (by decide +kernel)
theorem co_J2_length_9d52b : Cond.code yJ2_length_9d52b cJ2_length_9d52b 1 (some .int) ∈ tg := tg_in 681 (by decide +kernel) (by decide +kernel)
theorem ml_J2_241 : Cond.methodLink RJ2 241 yJ0_checkBoundsBeginEnd_23922 ∈ tg := tg_in 682 (by decide +kernel) (by decide +kernel)
theorem sm_J0_checkBoundsBeginEnd_23922 : Cond.static yJ0_checkBoundsBeginEnd_23922 ∈ tg := tg_in 683 (by decide +kernel) (by decide +kernel)
theorem co_J0_checkBoundsBeginEnd_23922 : Cond.code yJ0_checkBoundsBeginEnd_23922 cJ0_checkBoundsBeginEnd_23922 3 none ∈ tg := tg_in 684 (by decide +kernel) (by decide +kernel)
theorem ml_J0_1062 : Cond.methodLink RJ0 1062 yJ3_checkFromToIndex_8c36e ∈ tg := tg_in 687 (by decide +kernel) (by decide +kernel)
theorem sm_J3_checkFromToIndex_8c36e : Cond.static yJ3_checkFromToIndex_8c36e ∈ tg := tg_in 688 (by decide +kernel) (by decide +kernel)
theorem co_J3_checkFromToIndex_8c36e : Cond.code yJ3_checkFromToIndex_8c36e cJ3_checkFromToIndex_8c36e 4 (some .int) ∈ tg := tg_in 689 (by decide +kernel) (by decide +kernel)
theorem ml_J2_244 : Cond.methodLink RJ2 244 yJ2_indexOfCharUnsafe_4cfef ∈ tg := tg_in 690 (by decide +kernel) (by decide +kernel)
theorem sm_J2_indexOfCharUnsafe_4cfef : Cond.static yJ2_indexOfCharUnsafe_4cfef ∈ tg := tg_in 691 (by decide +kernel) (by decide +kernel)
theorem co_J2_indexOfCharUnsafe_4cfef : Cond.code yJ2_indexOfCharUnsafe_4cfef cJ2_indexOfCharUnsafe_4cfef 5 (some .int) ∈ tg := tg_in 692 (by decide +kernel) (by decide +kernel)
theorem ml_J2_71 : Cond.methodLink RJ2 71 yJ2_getChar_3b067 ∈ tg := tg_in 693 (by decide +kernel) (by decide +kernel)
theorem sm_J2_getChar_3b067 : Cond.static yJ2_getChar_3b067 ∈ tg := tg_in 694 (by decide +kernel) (by decide +kernel)
theorem co_J2_getChar_3b067 : Cond.code yJ2_getChar_3b067 cJ2_getChar_3b067 2 (some .char) ∈ tg := tg_in 695 (by decide +kernel) (by decide +kernel)
theorem ml_J2_232 : Cond.methodLink RJ2 232 yJ2_indexOfSupplementary_4cfef ∈ tg := tg_in 702 (by decide +kernel) (by decide +kernel)
theorem sm_J2_indexOfSupplementary_4cfef : Cond.static yJ2_indexOfSupplementary_4cfef ∈ tg := tg_in 703 (by decide +kernel) (by decide +kernel)
theorem co_J2_indexOfSupplementary_4cfef : Cond.code yJ2_indexOfSupplementary_4cfef cJ2_indexOfSupplementary_4cfef 7 (some .int) ∈ tg := tg_in 704 (by decide +kernel) (by decide +kernel)
theorem ml_J2_164 : Cond.methodLink RJ2 164 yJ11_isValidCodePoint_9a6ad ∈ tg := tg_in 705 (by decide +kernel) (by decide +kernel)
theorem sm_J11_isValidCodePoint_9a6ad : Cond.static yJ11_isValidCodePoint_9a6ad ∈ tg := tg_in 706 (by decide +kernel) (by decide +kernel)
theorem co_J11_isValidCodePoint_9a6ad : Cond.code yJ11_isValidCodePoint_9a6ad cJ11_isValidCodePoint_9a6ad 2 (some .boolean) ∈ tg := tg_in 707 (by decide +kernel) (by decide +kernel)
theorem ml_J2_157 : Cond.methodLink RJ2 157 yJ11_highSurrogate_5068e ∈ tg := tg_in 708 (by decide +kernel) (by decide +kernel)
theorem sm_J11_highSurrogate_5068e : Cond.static yJ11_highSurrogate_5068e ∈ tg := tg_in 709 (by decide +kernel) (by decide +kernel)
theorem co_J11_highSurrogate_5068e : Cond.code yJ11_highSurrogate_5068e cJ11_highSurrogate_5068e 1 (some .char) ∈ tg := tg_in 710 (by decide +kernel) (by decide +kernel)
theorem k_J11_110 : Cond.constant RJ11 110 (55232) ∈ tg := tg_in 711 (by decide +kernel) (by decide +kernel)
theorem ml_J2_161 : Cond.methodLink RJ2 161 yJ11_lowSurrogate_5068e ∈ tg := tg_in 712 (by decide +kernel) (by decide +kernel)
theorem sm_J11_lowSurrogate_5068e : Cond.static yJ11_lowSurrogate_5068e ∈ tg := tg_in 713 (by decide +kernel) (by decide +kernel)
theorem co_J11_lowSurrogate_5068e : Cond.code yJ11_lowSurrogate_5068e cJ11_lowSurrogate_5068e 1 (some .char) ∈ tg := tg_in 714 (by decide +kernel) (by decide +kernel)
theorem k_J11_76 : Cond.constant RJ11 76 (56320) ∈ tg := tg_in 715 (by decide +kernel) (by decide +kernel)
theorem ml_X4_41 : Cond.methodLink RX4 41 yX4_takeDigit ∈ tg := tg_in 716 (by decide +kernel) (by decide +kernel)
theorem im_X4_takeDigit : Cond.instanceMethod yX4_takeDigit ∈ tg := tg_in 718 (by decide +kernel) (by decide +kernel)
theorem co_X4_takeDigit : Cond.code yX4_takeDigit cX4_takeDigit 3 (some .boolean) ∈ tg := tg_in 719 (by decide +kernel) (by decide +kernel)
theorem ml_X4_34 : Cond.methodLink RX4 34 yX4_mayEnd ∈ tg := tg_in 720 (by decide +kernel) (by decide +kernel)
theorem im_X4_mayEnd : Cond.instanceMethod yX4_mayEnd ∈ tg := tg_in 722 (by decide +kernel) (by decide +kernel)
theorem co_X4_mayEnd : Cond.code yX4_mayEnd cX4_mayEnd 1 (some .boolean) ∈ tg := tg_in 723 (by decide +kernel) (by decide +kernel)
theorem ac_byte : Cond.arrayClass .byte ∈ tg := tg_in 724 (by decide +kernel) (by decide +kernel)
theorem ml_L_101 : Cond.methodLink RL 101 yX9_carryOut ∈ tg := tg_in 725 (by decide +kernel) (by decide +kernel)
theorem im_X9_carryOut : Cond.instanceMethod yX9_carryOut ∈ tg := tg_in 726 (by decide +kernel) (by decide +kernel)
theorem se_X9_carryOut : Cond.selects RX9 yX9_carryOut yX9_carryOut ∈ tg := tg_in 727 (by decide +kernel) (by decide +kernel)
theorem co_X9_carryOut : Cond.code yX9_carryOut cX9_carryOut 5 (some .int) ∈ tg := tg_in 728 (by decide +kernel) (by decide +kernel)
theorem ml_X9_202 : Cond.methodLink RX9 202 yX4_start ∈ tg := tg_in 729 (by decide +kernel) (by decide +kernel)
theorem ml_X9_205 : Cond.methodLink RX9 205 yX5_signAt ∈ tg := tg_in 730 (by decide +kernel) (by decide +kernel)
theorem ml_X9_209 : Cond.methodLink RX9 209 yX9_carryOrder ∈ tg := tg_in 731 (by decide +kernel) (by decide +kernel)
theorem im_X9_carryOrder : Cond.instanceMethod yX9_carryOrder ∈ tg := tg_in 733 (by decide +kernel) (by decide +kernel)
theorem co_X9_carryOrder : Cond.code yX9_carryOrder cX9_carryOrder 1 (some .int) ∈ tg := tg_in 734 (by decide +kernel) (by decide +kernel)
theorem ml_X9_212 : Cond.methodLink RX9 212 yX4_take ∈ tg := tg_in 735 (by decide +kernel) (by decide +kernel)
theorem ml_L_105 : Cond.methodLink RL 105 yX9_undo ∈ tg := tg_in 736 (by decide +kernel) (by decide +kernel)
theorem im_X9_undo : Cond.instanceMethod yX9_undo ∈ tg := tg_in 737 (by decide +kernel) (by decide +kernel)
theorem se_X9_undo : Cond.selects RX9 yX9_undo yX9_undo ∈ tg := tg_in 738 (by decide +kernel) (by decide +kernel)
theorem co_X9_undo : Cond.code yX9_undo cX9_undo 1 (some .int) ∈ tg := tg_in 739 (by decide +kernel) (by decide +kernel)
theorem ml_X9_216 : Cond.methodLink RX9 216 yX1_takeBack ∈ tg := tg_in 740 (by decide +kernel) (by decide +kernel)
theorem im_X1_takeBack : Cond.instanceMethod yX1_takeBack ∈ tg := tg_in 741 (by decide +kernel) (by decide +kernel)
theorem se_X1_takeBack : Cond.selects RX1 yX1_takeBack yX1_takeBack ∈ tg := tg_in 742 (by decide +kernel) (by decide +kernel)
theorem co_X1_takeBack : Cond.code yX1_takeBack cX1_takeBack 3 none ∈ tg := tg_in 743 (by decide +kernel) (by decide +kernel)
theorem ml_L_109 : Cond.methodLink RL 109 yX9_save ∈ tg := tg_in 744 (by decide +kernel) (by decide +kernel)
theorem im_X9_save : Cond.instanceMethod yX9_save ∈ tg := tg_in 745 (by decide +kernel) (by decide +kernel)
theorem se_X9_save : Cond.selects RX9 yX9_save yX9_save ∈ tg := tg_in 746 (by decide +kernel) (by decide +kernel)
theorem co_X9_save : Cond.code yX9_save cX9_save 2 (some .int) ∈ tg := tg_in 747 (by decide +kernel) (by decide +kernel)
theorem ml_X9_219 : Cond.methodLink RX9 219 yX7_store ∈ tg := tg_in 748 (by decide +kernel) (by decide +kernel)
theorem im_X7_store : Cond.instanceMethod yX7_store ∈ tg := tg_in 749 (by decide +kernel) (by decide +kernel)
theorem se_X7_store : Cond.selects RX7 yX7_store yX7_store ∈ tg := tg_in 750 (by decide +kernel) (by decide +kernel)
theorem co_X7_store : Cond.code yX7_store cX7_store 3 none ∈ tg := tg_in 751 (by decide +kernel) (by decide +kernel)
theorem ml_X7_21 : Cond.methodLink RX7 21 yX3_copyFrom ∈ tg := tg_in 752 (by decide +kernel) (by decide +kernel)
theorem ml_L_113 : Cond.methodLink RL 113 yX9_restore ∈ tg := tg_in 753 (by decide +kernel) (by decide +kernel)
theorem im_X9_restore : Cond.instanceMethod yX9_restore ∈ tg := tg_in 754 (by decide +kernel) (by decide +kernel)
theorem se_X9_restore : Cond.selects RX9 yX9_restore yX9_restore ∈ tg := tg_in 755 (by decide +kernel) (by decide +kernel)
theorem co_X9_restore : Cond.code yX9_restore cX9_restore 2 (some .int) ∈ tg := tg_in 756 (by decide +kernel) (by decide +kernel)
theorem ml_X9_223 : Cond.methodLink RX9 223 yX7_fetch ∈ tg := tg_in 757 (by decide +kernel) (by decide +kernel)
theorem im_X7_fetch : Cond.instanceMethod yX7_fetch ∈ tg := tg_in 758 (by decide +kernel) (by decide +kernel)
theorem se_X7_fetch : Cond.selects RX7 yX7_fetch yX7_fetch ∈ tg := tg_in 759 (by decide +kernel) (by decide +kernel)
theorem co_X7_fetch : Cond.code yX7_fetch cX7_fetch 3 (some .int) ∈ tg := tg_in 760 (by decide +kernel) (by decide +kernel)
theorem cl_L_10 : Cond.classLink RL 10 RX10 ∈ tg := tg_in 761 (by decide +kernel) (by decide +kernel)
theorem ins_X10 : Cond.instantiable RX10 12 ∈ tg := tg_in 762 (by decide +kernel) (by decide +kernel)
theorem ml_L_12 : Cond.methodLink RL 12 yX10_init ∈ tg := tg_in 763 (by decide +kernel) (by decide +kernel)
theorem im_X10_init : Cond.instanceMethod yX10_init ∈ tg := tg_in 764 (by decide +kernel) (by decide +kernel)
theorem co_X10_init : Cond.code yX10_init cX10_init 2 none ∈ tg := tg_in 765 (by decide +kernel) (by decide +kernel)
theorem ml_X10_1 : Cond.methodLink RX10 1 Lib.objectInit ∈ tg := tg_in 766 (by decide +kernel) (by decide +kernel)
theorem fl_X10_7 : Cond.fieldLink RX10 7 "FareDropsModel" "z" "[I" ∈ tg := tg_in 767 (by decide +kernel) (by decide +kernel)
theorem fl_X10_13 : Cond.fieldLink RX10 13 "FareDropsModel" "past" "[I" ∈ tg := tg_in 768 (by decide +kernel) (by decide +kernel)
theorem fl_X10_16 : Cond.fieldLink RX10 16 "FareDropsModel" "slots" "[I" ∈ tg := tg_in 769 (by decide +kernel) (by decide +kernel)
theorem fl_X10_19 : Cond.fieldLink RX10 19 "FareDropsModel" "isSaved" "[Z" ∈ tg := tg_in 770 (by decide +kernel) (by decide +kernel)
theorem fl_X10_41 : Cond.fieldLink RX10 41 "FareDropsModel" "pastMany" "I" ∈ tg := tg_in 771 (by decide +kernel) (by decide +kernel)
theorem fl_X10_23 : Cond.fieldLink RX10 23 "FareDropsModel" "spare" "[I" ∈ tg := tg_in 772 (by decide +kernel) (by decide +kernel)
theorem fl_X10_26 : Cond.fieldLink RX10 26 "FareDropsModel" "pad" "[C" ∈ tg := tg_in 773 (by decide +kernel) (by decide +kernel)
theorem fl_X10_104 : Cond.fieldLink RX10 104 "FareDropsModel" "typed" "I" ∈ tg := tg_in 774 (by decide +kernel) (by decide +kernel)
theorem fl_X10_30 : Cond.fieldLink RX10 30 "FareDropsModel" "orders" "[I" ∈ tg := tg_in 775 (by decide +kernel) (by decide +kernel)
theorem fl_X10_132 : Cond.fieldLink RX10 132 "FareDropsModel" "orderMany" "I" ∈ tg := tg_in 776 (by decide +kernel) (by decide +kernel)
theorem fl_X10_119 : Cond.fieldLink RX10 119 "FareDropsModel" "spot" "I" ∈ tg := tg_in 777 (by decide +kernel) (by decide +kernel)
theorem fl_X10_122 : Cond.fieldLink RX10 122 "FareDropsModel" "wrong" "I" ∈ tg := tg_in 778 (by decide +kernel) (by decide +kernel)
theorem ac_boolean : Cond.arrayClass .boolean ∈ tg := tg_in 804 (by decide +kernel) (by decide +kernel)
theorem ml_L_108 : Cond.methodLink RL 108 yX10_undo ∈ tg := tg_in 805 (by decide +kernel) (by decide +kernel)
theorem im_X10_undo : Cond.instanceMethod yX10_undo ∈ tg := tg_in 806 (by decide +kernel) (by decide +kernel)
theorem se_X10_undo : Cond.selects RX10 yX10_undo yX10_undo ∈ tg := tg_in 807 (by decide +kernel) (by decide +kernel)
theorem co_X10_undo : Cond.code yX10_undo cX10_undo 2 (some .int) ∈ tg := tg_in 808 (by decide +kernel) (by decide +kernel)
theorem ml_L_112 : Cond.methodLink RL 112 yX10_save ∈ tg := tg_in 809 (by decide +kernel) (by decide +kernel)
theorem im_X10_save : Cond.instanceMethod yX10_save ∈ tg := tg_in 810 (by decide +kernel) (by decide +kernel)
theorem se_X10_save : Cond.selects RX10 yX10_save yX10_save ∈ tg := tg_in 811 (by decide +kernel) (by decide +kernel)
theorem co_X10_save : Cond.code yX10_save cX10_save 3 (some .int) ∈ tg := tg_in 812 (by decide +kernel) (by decide +kernel)
theorem ml_X10_33 : Cond.methodLink RX10 33 yX10_in ∈ tg := tg_in 813 (by decide +kernel) (by decide +kernel)
theorem sm_X10_in : Cond.static yX10_in ∈ tg := tg_in 814 (by decide +kernel) (by decide +kernel)
theorem co_X10_in : Cond.code yX10_in cX10_in 3 (some .boolean) ∈ tg := tg_in 815 (by decide +kernel) (by decide +kernel)
theorem ml_L_116 : Cond.methodLink RL 116 yX10_restore ∈ tg := tg_in 816 (by decide +kernel) (by decide +kernel)
theorem im_X10_restore : Cond.instanceMethod yX10_restore ∈ tg := tg_in 817 (by decide +kernel) (by decide +kernel)
theorem se_X10_restore : Cond.selects RX10 yX10_restore yX10_restore ∈ tg := tg_in 818 (by decide +kernel) (by decide +kernel)
theorem co_X10_restore : Cond.code yX10_restore cX10_restore 3 (some .int) ∈ tg := tg_in 819 (by decide +kernel) (by decide +kernel)
theorem ml_X10_45 : Cond.methodLink RX10 45 yX10_record ∈ tg := tg_in 820 (by decide +kernel) (by decide +kernel)
theorem im_X10_record : Cond.instanceMethod yX10_record ∈ tg := tg_in 822 (by decide +kernel) (by decide +kernel)
theorem co_X10_record : Cond.code yX10_record cX10_record 2 none ∈ tg := tg_in 823 (by decide +kernel) (by decide +kernel)
theorem ml_L_17 : Cond.methodLink RL 17 yX10_tariff ∈ tg := tg_in 824 (by decide +kernel) (by decide +kernel)
theorem im_X10_tariff : Cond.instanceMethod yX10_tariff ∈ tg := tg_in 825 (by decide +kernel) (by decide +kernel)
theorem se_X10_tariff : Cond.selects RX10 yX10_tariff yX10_tariff ∈ tg := tg_in 826 (by decide +kernel) (by decide +kernel)
theorem co_X10_tariff : Cond.code yX10_tariff cX10_tariff 7 (some .int) ∈ tg := tg_in 827 (by decide +kernel) (by decide +kernel)
theorem ml_X10_48 : Cond.methodLink RX10 48 yX10_isTariff ∈ tg := tg_in 828 (by decide +kernel) (by decide +kernel)
theorem sm_X10_isTariff : Cond.static yX10_isTariff ∈ tg := tg_in 829 (by decide +kernel) (by decide +kernel)
theorem co_X10_isTariff : Cond.code yX10_isTariff cX10_isTariff 1 (some .boolean) ∈ tg := tg_in 830 (by decide +kernel) (by decide +kernel)
theorem ml_X10_37 : Cond.methodLink RX10 37 yX10_its ∈ tg := tg_in 831 (by decide +kernel) (by decide +kernel)
theorem im_X10_its : Cond.instanceMethod yX10_its ∈ tg := tg_in 833 (by decide +kernel) (by decide +kernel)
theorem co_X10_its : Cond.code yX10_its cX10_its 3 (some .int) ∈ tg := tg_in 834 (by decide +kernel) (by decide +kernel)
theorem ml_L_22 : Cond.methodLink RL 22 yX10_hour ∈ tg := tg_in 835 (by decide +kernel) (by decide +kernel)
theorem im_X10_hour : Cond.instanceMethod yX10_hour ∈ tg := tg_in 836 (by decide +kernel) (by decide +kernel)
theorem se_X10_hour : Cond.selects RX10 yX10_hour yX10_hour ∈ tg := tg_in 837 (by decide +kernel) (by decide +kernel)
theorem co_X10_hour : Cond.code yX10_hour cX10_hour 4 (some .int) ∈ tg := tg_in 838 (by decide +kernel) (by decide +kernel)
theorem ml_L_27 : Cond.methodLink RL 27 yX10_priceOfExtra ∈ tg := tg_in 839 (by decide +kernel) (by decide +kernel)
theorem im_X10_priceOfExtra : Cond.instanceMethod yX10_priceOfExtra ∈ tg := tg_in 840 (by decide +kernel) (by decide +kernel)
theorem se_X10_priceOfExtra : Cond.selects RX10 yX10_priceOfExtra yX10_priceOfExtra ∈ tg := tg_in 841 (by decide +kernel) (by decide +kernel)
theorem co_X10_priceOfExtra : Cond.code yX10_priceOfExtra cX10_priceOfExtra 3 (some .int) ∈ tg := tg_in 842 (by decide +kernel) (by decide +kernel)
theorem ml_L_32 : Cond.methodLink RL 32 yX10_hire ∈ tg := tg_in 843 (by decide +kernel) (by decide +kernel)
theorem im_X10_hire : Cond.instanceMethod yX10_hire ∈ tg := tg_in 844 (by decide +kernel) (by decide +kernel)
theorem se_X10_hire : Cond.selects RX10 yX10_hire yX10_hire ∈ tg := tg_in 845 (by decide +kernel) (by decide +kernel)
theorem co_X10_hire : Cond.code yX10_hire cX10_hire 1 (some .int) ∈ tg := tg_in 846 (by decide +kernel) (by decide +kernel)
theorem ml_X10_59 : Cond.methodLink RX10 59 yX10_hireIt ∈ tg := tg_in 847 (by decide +kernel) (by decide +kernel)
theorem im_X10_hireIt : Cond.instanceMethod yX10_hireIt ∈ tg := tg_in 849 (by decide +kernel) (by decide +kernel)
theorem co_X10_hireIt : Cond.code yX10_hireIt cX10_hireIt 2 (some .int) ∈ tg := tg_in 850 (by decide +kernel) (by decide +kernel)
theorem ml_X10_52 : Cond.methodLink RX10 52 yX10_tariffAt ∈ tg := tg_in 851 (by decide +kernel) (by decide +kernel)
theorem im_X10_tariffAt : Cond.instanceMethod yX10_tariffAt ∈ tg := tg_in 853 (by decide +kernel) (by decide +kernel)
theorem co_X10_tariffAt : Cond.code yX10_tariffAt cX10_tariffAt 2 (some .int) ∈ tg := tg_in 854 (by decide +kernel) (by decide +kernel)
theorem ml_X10_56 : Cond.methodLink RX10 56 yX10_productOf ∈ tg := tg_in 855 (by decide +kernel) (by decide +kernel)
theorem im_X10_productOf : Cond.instanceMethod yX10_productOf ∈ tg := tg_in 857 (by decide +kernel) (by decide +kernel)
theorem co_X10_productOf : Cond.code yX10_productOf cX10_productOf 2 (some .int) ∈ tg := tg_in 858 (by decide +kernel) (by decide +kernel)
theorem ml_L_36 : Cond.methodLink RL 36 yX10_drive ∈ tg := tg_in 859 (by decide +kernel) (by decide +kernel)
theorem im_X10_drive : Cond.instanceMethod yX10_drive ∈ tg := tg_in 860 (by decide +kernel) (by decide +kernel)
theorem se_X10_drive : Cond.selects RX10 yX10_drive yX10_drive ∈ tg := tg_in 861 (by decide +kernel) (by decide +kernel)
theorem co_X10_drive : Cond.code yX10_drive cX10_drive 4 (some .int) ∈ tg := tg_in 862 (by decide +kernel) (by decide +kernel)
theorem ml_X10_76 : Cond.methodLink RX10 76 yX10_whyNotDrive ∈ tg := tg_in 863 (by decide +kernel) (by decide +kernel)
theorem im_X10_whyNotDrive : Cond.instanceMethod yX10_whyNotDrive ∈ tg := tg_in 865 (by decide +kernel) (by decide +kernel)
theorem co_X10_whyNotDrive : Cond.code yX10_whyNotDrive cX10_whyNotDrive 3 (some .int) ∈ tg := tg_in 866 (by decide +kernel) (by decide +kernel)
theorem ml_X10_72 : Cond.methodLink RX10 72 yX10_isDrive ∈ tg := tg_in 867 (by decide +kernel) (by decide +kernel)
theorem sm_X10_isDrive : Cond.static yX10_isDrive ∈ tg := tg_in 868 (by decide +kernel) (by decide +kernel)
theorem co_X10_isDrive : Cond.code yX10_isDrive cX10_isDrive 2 (some .boolean) ∈ tg := tg_in 869 (by decide +kernel) (by decide +kernel)
theorem ml_X10_79 : Cond.methodLink RX10 79 yX10_driveIt ∈ tg := tg_in 870 (by decide +kernel) (by decide +kernel)
theorem im_X10_driveIt : Cond.instanceMethod yX10_driveIt ∈ tg := tg_in 872 (by decide +kernel) (by decide +kernel)
theorem co_X10_driveIt : Cond.code yX10_driveIt cX10_driveIt 7 (some .int) ∈ tg := tg_in 873 (by decide +kernel) (by decide +kernel)
theorem ml_X10_69 : Cond.methodLink RX10 69 yX10_driveSecond ∈ tg := tg_in 874 (by decide +kernel) (by decide +kernel)
theorem im_X10_driveSecond : Cond.instanceMethod yX10_driveSecond ∈ tg := tg_in 876 (by decide +kernel) (by decide +kernel)
theorem co_X10_driveSecond : Cond.code yX10_driveSecond cX10_driveSecond 7 (some .int) ∈ tg := tg_in 877 (by decide +kernel) (by decide +kernel)
theorem ml_X10_63 : Cond.methodLink RX10 63 yX10_carry ∈ tg := tg_in 878 (by decide +kernel) (by decide +kernel)
theorem im_X10_carry : Cond.instanceMethod yX10_carry ∈ tg := tg_in 880 (by decide +kernel) (by decide +kernel)
theorem co_X10_carry : Cond.code yX10_carry cX10_carry 2 none ∈ tg := tg_in 881 (by decide +kernel) (by decide +kernel)
theorem k_X10_67 : Cond.constant RX10 67 (9999999) ∈ tg := tg_in 882 (by decide +kernel) (by decide +kernel)
theorem k_X10_68 : Cond.constant RX10 68 (86400) ∈ tg := tg_in 883 (by decide +kernel) (by decide +kernel)
theorem ml_L_40 : Cond.methodLink RL 40 yX10_rest ∈ tg := tg_in 884 (by decide +kernel) (by decide +kernel)
theorem im_X10_rest : Cond.instanceMethod yX10_rest ∈ tg := tg_in 885 (by decide +kernel) (by decide +kernel)
theorem se_X10_rest : Cond.selects RX10 yX10_rest yX10_rest ∈ tg := tg_in 886 (by decide +kernel) (by decide +kernel)
theorem co_X10_rest : Cond.code yX10_rest cX10_rest 3 (some .int) ∈ tg := tg_in 887 (by decide +kernel) (by decide +kernel)
theorem ml_X10_82 : Cond.methodLink RX10 82 yX10_whyNotRest ∈ tg := tg_in 888 (by decide +kernel) (by decide +kernel)
theorem im_X10_whyNotRest : Cond.instanceMethod yX10_whyNotRest ∈ tg := tg_in 890 (by decide +kernel) (by decide +kernel)
theorem co_X10_whyNotRest : Cond.code yX10_whyNotRest cX10_whyNotRest 2 (some .int) ∈ tg := tg_in 891 (by decide +kernel) (by decide +kernel)
theorem ml_X10_85 : Cond.methodLink RX10 85 yX10_restIt ∈ tg := tg_in 892 (by decide +kernel) (by decide +kernel)
theorem im_X10_restIt : Cond.instanceMethod yX10_restIt ∈ tg := tg_in 894 (by decide +kernel) (by decide +kernel)
theorem co_X10_restIt : Cond.code yX10_restIt cX10_restIt 2 (some .int) ∈ tg := tg_in 895 (by decide +kernel) (by decide +kernel)
theorem ml_L_44 : Cond.methodLink RL 44 yX10_halt ∈ tg := tg_in 896 (by decide +kernel) (by decide +kernel)
theorem im_X10_halt : Cond.instanceMethod yX10_halt ∈ tg := tg_in 897 (by decide +kernel) (by decide +kernel)
theorem se_X10_halt : Cond.selects RX10 yX10_halt yX10_halt ∈ tg := tg_in 898 (by decide +kernel) (by decide +kernel)
theorem co_X10_halt : Cond.code yX10_halt cX10_halt 1 (some .int) ∈ tg := tg_in 899 (by decide +kernel) (by decide +kernel)
theorem ml_X10_88 : Cond.methodLink RX10 88 yX10_haltIt ∈ tg := tg_in 900 (by decide +kernel) (by decide +kernel)
theorem im_X10_haltIt : Cond.instanceMethod yX10_haltIt ∈ tg := tg_in 902 (by decide +kernel) (by decide +kernel)
theorem co_X10_haltIt : Cond.code yX10_haltIt cX10_haltIt 1 (some .int) ∈ tg := tg_in 903 (by decide +kernel) (by decide +kernel)
theorem ml_L_48 : Cond.methodLink RL 48 yX10_extra ∈ tg := tg_in 904 (by decide +kernel) (by decide +kernel)
theorem im_X10_extra : Cond.instanceMethod yX10_extra ∈ tg := tg_in 905 (by decide +kernel) (by decide +kernel)
theorem se_X10_extra : Cond.selects RX10 yX10_extra yX10_extra ∈ tg := tg_in 906 (by decide +kernel) (by decide +kernel)
theorem co_X10_extra : Cond.code yX10_extra cX10_extra 2 (some .int) ∈ tg := tg_in 907 (by decide +kernel) (by decide +kernel)
theorem ml_X10_91 : Cond.methodLink RX10 91 yX10_whyNotExtra ∈ tg := tg_in 908 (by decide +kernel) (by decide +kernel)
theorem im_X10_whyNotExtra : Cond.instanceMethod yX10_whyNotExtra ∈ tg := tg_in 910 (by decide +kernel) (by decide +kernel)
theorem co_X10_whyNotExtra : Cond.code yX10_whyNotExtra cX10_whyNotExtra 1 (some .int) ∈ tg := tg_in 911 (by decide +kernel) (by decide +kernel)
theorem ml_X10_94 : Cond.methodLink RX10 94 yX10_extraIt ∈ tg := tg_in 912 (by decide +kernel) (by decide +kernel)
theorem im_X10_extraIt : Cond.instanceMethod yX10_extraIt ∈ tg := tg_in 914 (by decide +kernel) (by decide +kernel)
theorem co_X10_extraIt : Cond.code yX10_extraIt cX10_extraIt 1 (some .int) ∈ tg := tg_in 915 (by decide +kernel) (by decide +kernel)
theorem ml_L_52 : Cond.methodLink RL 52 yX10_end ∈ tg := tg_in 916 (by decide +kernel) (by decide +kernel)
theorem im_X10_end : Cond.instanceMethod yX10_end ∈ tg := tg_in 917 (by decide +kernel) (by decide +kernel)
theorem se_X10_end : Cond.selects RX10 yX10_end yX10_end ∈ tg := tg_in 918 (by decide +kernel) (by decide +kernel)
theorem co_X10_end : Cond.code yX10_end cX10_end 1 (some .int) ∈ tg := tg_in 919 (by decide +kernel) (by decide +kernel)
theorem ml_X10_98 : Cond.methodLink RX10 98 yX10_endIt ∈ tg := tg_in 920 (by decide +kernel) (by decide +kernel)
theorem im_X10_endIt : Cond.instanceMethod yX10_endIt ∈ tg := tg_in 922 (by decide +kernel) (by decide +kernel)
theorem co_X10_endIt : Cond.code yX10_endIt cX10_endIt 3 (some .int) ∈ tg := tg_in 923 (by decide +kernel) (by decide +kernel)
theorem k_X10_97 : Cond.constant RX10 97 (1000000) ∈ tg := tg_in 924 (by decide +kernel) (by decide +kernel)
theorem ml_L_56 : Cond.methodLink RL 56 yX10_ofTariff ∈ tg := tg_in 925 (by decide +kernel) (by decide +kernel)
theorem im_X10_ofTariff : Cond.instanceMethod yX10_ofTariff ∈ tg := tg_in 926 (by decide +kernel) (by decide +kernel)
theorem se_X10_ofTariff : Cond.selects RX10 yX10_ofTariff yX10_ofTariff ∈ tg := tg_in 927 (by decide +kernel) (by decide +kernel)
theorem co_X10_ofTariff : Cond.code yX10_ofTariff cX10_ofTariff 3 (some .int) ∈ tg := tg_in 928 (by decide +kernel) (by decide +kernel)
theorem ml_X10_101 : Cond.methodLink RX10 101 yX10_hoursWith ∈ tg := tg_in 929 (by decide +kernel) (by decide +kernel)
theorem im_X10_hoursWith : Cond.instanceMethod yX10_hoursWith ∈ tg := tg_in 931 (by decide +kernel) (by decide +kernel)
theorem co_X10_hoursWith : Cond.code yX10_hoursWith cX10_hoursWith 4 (some .int) ∈ tg := tg_in 932 (by decide +kernel) (by decide +kernel)
theorem ml_L_60 : Cond.methodLink RL 60 yX10_ride ∈ tg := tg_in 933 (by decide +kernel) (by decide +kernel)
theorem im_X10_ride : Cond.instanceMethod yX10_ride ∈ tg := tg_in 934 (by decide +kernel) (by decide +kernel)
theorem se_X10_ride : Cond.selects RX10 yX10_ride yX10_ride ∈ tg := tg_in 935 (by decide +kernel) (by decide +kernel)
theorem co_X10_ride : Cond.code yX10_ride cX10_ride 2 (some .int) ∈ tg := tg_in 936 (by decide +kernel) (by decide +kernel)
theorem ml_L_64 : Cond.methodLink RL 64 yX10_log ∈ tg := tg_in 937 (by decide +kernel) (by decide +kernel)
theorem im_X10_log : Cond.instanceMethod yX10_log ∈ tg := tg_in 938 (by decide +kernel) (by decide +kernel)
theorem se_X10_log : Cond.selects RX10 yX10_log yX10_log ∈ tg := tg_in 939 (by decide +kernel) (by decide +kernel)
theorem co_X10_log : Cond.code yX10_log cX10_log 3 (some .int) ∈ tg := tg_in 940 (by decide +kernel) (by decide +kernel)
theorem ml_L_68 : Cond.methodLink RL 68 yX10_count ∈ tg := tg_in 941 (by decide +kernel) (by decide +kernel)
theorem im_X10_count : Cond.instanceMethod yX10_count ∈ tg := tg_in 942 (by decide +kernel) (by decide +kernel)
theorem se_X10_count : Cond.selects RX10 yX10_count yX10_count ∈ tg := tg_in 943 (by decide +kernel) (by decide +kernel)
theorem co_X10_count : Cond.code yX10_count cX10_count 2 (some .int) ∈ tg := tg_in 944 (by decide +kernel) (by decide +kernel)
theorem ml_L_72 : Cond.methodLink RL 72 yX10_would ∈ tg := tg_in 945 (by decide +kernel) (by decide +kernel)
theorem im_X10_would : Cond.instanceMethod yX10_would ∈ tg := tg_in 946 (by decide +kernel) (by decide +kernel)
theorem se_X10_would : Cond.selects RX10 yX10_would yX10_would ∈ tg := tg_in 947 (by decide +kernel) (by decide +kernel)
theorem co_X10_would : Cond.code yX10_would cX10_would 6 (some .int) ∈ tg := tg_in 948 (by decide +kernel) (by decide +kernel)
theorem ml_X10_107 : Cond.methodLink RX10 107 yX10_putAside ∈ tg := tg_in 949 (by decide +kernel) (by decide +kernel)
theorem im_X10_putAside : Cond.instanceMethod yX10_putAside ∈ tg := tg_in 951 (by decide +kernel) (by decide +kernel)
theorem co_X10_putAside : Cond.code yX10_putAside cX10_putAside 2 none ∈ tg := tg_in 952 (by decide +kernel) (by decide +kernel)
theorem ml_X10_110 : Cond.methodLink RX10 110 yX10_bringBack ∈ tg := tg_in 953 (by decide +kernel) (by decide +kernel)
theorem im_X10_bringBack : Cond.instanceMethod yX10_bringBack ∈ tg := tg_in 955 (by decide +kernel) (by decide +kernel)
theorem co_X10_bringBack : Cond.code yX10_bringBack cX10_bringBack 2 none ∈ tg := tg_in 956 (by decide +kernel) (by decide +kernel)
theorem ml_L_76 : Cond.methodLink RL 76 yX10_price ∈ tg := tg_in 957 (by decide +kernel) (by decide +kernel)
theorem im_X10_price : Cond.instanceMethod yX10_price ∈ tg := tg_in 958 (by decide +kernel) (by decide +kernel)
theorem se_X10_price : Cond.selects RX10 yX10_price yX10_price ∈ tg := tg_in 959 (by decide +kernel) (by decide +kernel)
theorem co_X10_price : Cond.code yX10_price cX10_price 4 (some .int) ∈ tg := tg_in 960 (by decide +kernel) (by decide +kernel)
theorem ml_X10_113 : Cond.methodLink RX10 113 yX10_costAt ∈ tg := tg_in 961 (by decide +kernel) (by decide +kernel)
theorem im_X10_costAt : Cond.instanceMethod yX10_costAt ∈ tg := tg_in 963 (by decide +kernel) (by decide +kernel)
theorem co_X10_costAt : Cond.code yX10_costAt cX10_costAt 4 (some .int) ∈ tg := tg_in 964 (by decide +kernel) (by decide +kernel)
theorem ml_L_80 : Cond.methodLink RL 80 yX10_farthest ∈ tg := tg_in 965 (by decide +kernel) (by decide +kernel)
theorem im_X10_farthest : Cond.instanceMethod yX10_farthest ∈ tg := tg_in 966 (by decide +kernel) (by decide +kernel)
theorem se_X10_farthest : Cond.selects RX10 yX10_farthest yX10_farthest ∈ tg := tg_in 967 (by decide +kernel) (by decide +kernel)
theorem co_X10_farthest : Cond.code yX10_farthest cX10_farthest 7 (some .int) ∈ tg := tg_in 968 (by decide +kernel) (by decide +kernel)
theorem ml_L_85 : Cond.methodLink RL 85 yX10_cheapest ∈ tg := tg_in 969 (by decide +kernel) (by decide +kernel)
theorem im_X10_cheapest : Cond.instanceMethod yX10_cheapest ∈ tg := tg_in 970 (by decide +kernel) (by decide +kernel)
theorem se_X10_cheapest : Cond.selects RX10 yX10_cheapest yX10_cheapest ∈ tg := tg_in 971 (by decide +kernel) (by decide +kernel)
theorem co_X10_cheapest : Cond.code yX10_cheapest cX10_cheapest 9 (some .int) ∈ tg := tg_in 972 (by decide +kernel) (by decide +kernel)
theorem ml_L_92 : Cond.methodLink RL 92 yX10_put ∈ tg := tg_in 973 (by decide +kernel) (by decide +kernel)
theorem im_X10_put : Cond.instanceMethod yX10_put ∈ tg := tg_in 974 (by decide +kernel) (by decide +kernel)
theorem se_X10_put : Cond.selects RX10 yX10_put yX10_put ∈ tg := tg_in 975 (by decide +kernel) (by decide +kernel)
theorem co_X10_put : Cond.code yX10_put cX10_put 8 (some .int) ∈ tg := tg_in 976 (by decide +kernel) (by decide +kernel)
theorem k_X10_117 : Cond.constantLong RX10 117 (255) ∈ tg := tg_in 977 (by decide +kernel) (by decide +kernel)
theorem ml_L_96 : Cond.methodLink RL 96 yX10_wipe ∈ tg := tg_in 978 (by decide +kernel) (by decide +kernel)
theorem im_X10_wipe : Cond.instanceMethod yX10_wipe ∈ tg := tg_in 979 (by decide +kernel) (by decide +kernel)
theorem se_X10_wipe : Cond.selects RX10 yX10_wipe yX10_wipe ∈ tg := tg_in 980 (by decide +kernel) (by decide +kernel)
theorem co_X10_wipe : Cond.code yX10_wipe cX10_wipe 2 (some .int) ∈ tg := tg_in 981 (by decide +kernel) (by decide +kernel)
theorem ml_L_100 : Cond.methodLink RL 100 yX10_fault ∈ tg := tg_in 982 (by decide +kernel) (by decide +kernel)
theorem im_X10_fault : Cond.instanceMethod yX10_fault ∈ tg := tg_in 983 (by decide +kernel) (by decide +kernel)
theorem se_X10_fault : Cond.selects RX10 yX10_fault yX10_fault ∈ tg := tg_in 984 (by decide +kernel) (by decide +kernel)
theorem co_X10_fault : Cond.code yX10_fault cX10_fault 1 (some .int) ∈ tg := tg_in 985 (by decide +kernel) (by decide +kernel)
theorem ml_X10_141 : Cond.methodLink RX10 141 yX10_readPad ∈ tg := tg_in 986 (by decide +kernel) (by decide +kernel)
theorem im_X10_readPad : Cond.instanceMethod yX10_readPad ∈ tg := tg_in 988 (by decide +kernel) (by decide +kernel)
theorem co_X10_readPad : Cond.code yX10_readPad cX10_readPad 2 (some .int) ∈ tg := tg_in 989 (by decide +kernel) (by decide +kernel)
theorem ml_X10_138 : Cond.methodLink RX10 138 yX10_readOrder ∈ tg := tg_in 990 (by decide +kernel) (by decide +kernel)
theorem im_X10_readOrder : Cond.instanceMethod yX10_readOrder ∈ tg := tg_in 992 (by decide +kernel) (by decide +kernel)
theorem co_X10_readOrder : Cond.code yX10_readOrder cX10_readOrder 3 none ∈ tg := tg_in 993 (by decide +kernel) (by decide +kernel)
theorem ml_X10_125 : Cond.methodLink RX10 125 yX10_letter ∈ tg := tg_in 994 (by decide +kernel) (by decide +kernel)
theorem im_X10_letter : Cond.instanceMethod yX10_letter ∈ tg := tg_in 996 (by decide +kernel) (by decide +kernel)
theorem co_X10_letter : Cond.code yX10_letter cX10_letter 1 (some .int) ∈ tg := tg_in 997 (by decide +kernel) (by decide +kernel)
theorem ml_X10_128 : Cond.methodLink RX10 128 yX10_wants ∈ tg := tg_in 998 (by decide +kernel) (by decide +kernel)
theorem im_X10_wants : Cond.instanceMethod yX10_wants ∈ tg := tg_in 1000 (by decide +kernel) (by decide +kernel)
theorem co_X10_wants : Cond.code yX10_wants cX10_wants 2 none ∈ tg := tg_in 1001 (by decide +kernel) (by decide +kernel)
theorem ml_X10_135 : Cond.methodLink RX10 135 yX10_number ∈ tg := tg_in 1002 (by decide +kernel) (by decide +kernel)
theorem im_X10_number : Cond.instanceMethod yX10_number ∈ tg := tg_in 1004 (by decide +kernel) (by decide +kernel)
theorem co_X10_number : Cond.code yX10_number cX10_number 3 (some .int) ∈ tg := tg_in 1005 (by decide +kernel) (by decide +kernel)
theorem ml_L_104 : Cond.methodLink RL 104 yX10_carryOut ∈ tg := tg_in 1006 (by decide +kernel) (by decide +kernel)
theorem im_X10_carryOut : Cond.instanceMethod yX10_carryOut ∈ tg := tg_in 1007 (by decide +kernel) (by decide +kernel)
theorem se_X10_carryOut : Cond.selects RX10 yX10_carryOut yX10_carryOut ∈ tg := tg_in 1008 (by decide +kernel) (by decide +kernel)
theorem co_X10_carryOut : Cond.code yX10_carryOut cX10_carryOut 2 (some .int) ∈ tg := tg_in 1009 (by decide +kernel) (by decide +kernel)
theorem ml_X10_147 : Cond.methodLink RX10 147 yX10_does ∈ tg := tg_in 1010 (by decide +kernel) (by decide +kernel)
theorem im_X10_does : Cond.instanceMethod yX10_does ∈ tg := tg_in 1012 (by decide +kernel) (by decide +kernel)
theorem co_X10_does : Cond.code yX10_does cX10_does 4 (some .boolean) ∈ tg := tg_in 1013 (by decide +kernel) (by decide +kernel)
theorem ml_X10_144 : Cond.methodLink RX10 144 yX10_whyNot ∈ tg := tg_in 1014 (by decide +kernel) (by decide +kernel)
theorem im_X10_whyNot : Cond.instanceMethod yX10_whyNot ∈ tg := tg_in 1016 (by decide +kernel) (by decide +kernel)
theorem co_X10_whyNot : Cond.code yX10_whyNot cX10_whyNot 4 (some .int) ∈ tg := tg_in 1017 (by decide +kernel) (by decide +kernel)
theorem k_L_86 : Cond.constantLong RL 86 (4294967295) ∈ tg := tg_in 1018 (by decide +kernel) (by decide +kernel)
theorem se_X1_rowAt : Cond.selects RX1 yX1_rowAt yX1_rowAt ∈ tg := tg_in 0 (by decide +kernel) (by decide +kernel)
theorem se_X0_takeTariff : Cond.selects RX0 yX0_takeTariff yX0_takeTariff ∈ tg := tg_in 1 (by decide +kernel) (by decide +kernel)
theorem se_X0_runCut : Cond.selects RX0 yX0_runCut yX0_runCut ∈ tg := tg_in 2 (by decide +kernel) (by decide +kernel)
theorem se_X0_behind : Cond.selects RX0 yX0_behind yX0_behind ∈ tg := tg_in 3 (by decide +kernel) (by decide +kernel)
theorem se_X0_isByWay : Cond.selects RX0 yX0_isByWay yX0_isByWay ∈ tg := tg_in 4 (by decide +kernel) (by decide +kernel)
theorem se_X0_gain : Cond.selects RX0 yX0_gain yX0_gain ∈ tg := tg_in 5 (by decide +kernel) (by decide +kernel)
theorem se_X0_grow : Cond.selects RX0 yX0_grow yX0_grow ∈ tg := tg_in 6 (by decide +kernel) (by decide +kernel)
theorem se_X9_priceAt : Cond.selects RX9 yX9_priceAt yX9_priceAt ∈ tg := tg_in 7 (by decide +kernel) (by decide +kernel)
theorem se_X4_takeLetter : Cond.selects RX4 yX4_takeLetter yX4_takeLetter ∈ tg := tg_in 8 (by decide +kernel) (by decide +kernel)
theorem se_X4_takeDigit : Cond.selects RX4 yX4_takeDigit yX4_takeDigit ∈ tg := tg_in 9 (by decide +kernel) (by decide +kernel)
theorem se_X4_mayEnd : Cond.selects RX4 yX4_mayEnd yX4_mayEnd ∈ tg := tg_in 10 (by decide +kernel) (by decide +kernel)
theorem se_X9_carryOrder : Cond.selects RX9 yX9_carryOrder yX9_carryOrder ∈ tg := tg_in 11 (by decide +kernel) (by decide +kernel)
theorem se_X10_record : Cond.selects RX10 yX10_record yX10_record ∈ tg := tg_in 12 (by decide +kernel) (by decide +kernel)
theorem se_X10_its : Cond.selects RX10 yX10_its yX10_its ∈ tg := tg_in 13 (by decide +kernel) (by decide +kernel)
theorem se_X10_hireIt : Cond.selects RX10 yX10_hireIt yX10_hireIt ∈ tg := tg_in 14 (by decide +kernel) (by decide +kernel)
theorem se_X10_tariffAt : Cond.selects RX10 yX10_tariffAt yX10_tariffAt ∈ tg := tg_in 15 (by decide +kernel) (by decide +kernel)
theorem se_X10_productOf : Cond.selects RX10 yX10_productOf yX10_productOf ∈ tg := tg_in 16 (by decide +kernel) (by decide +kernel)
theorem se_X10_whyNotDrive : Cond.selects RX10 yX10_whyNotDrive yX10_whyNotDrive ∈ tg := tg_in 17 (by decide +kernel) (by decide +kernel)
theorem se_X10_driveIt : Cond.selects RX10 yX10_driveIt yX10_driveIt ∈ tg := tg_in 18 (by decide +kernel) (by decide +kernel)
theorem se_X10_driveSecond : Cond.selects RX10 yX10_driveSecond yX10_driveSecond ∈ tg := tg_in 19 (by decide +kernel) (by decide +kernel)
theorem se_X10_carry : Cond.selects RX10 yX10_carry yX10_carry ∈ tg := tg_in 20 (by decide +kernel) (by decide +kernel)
theorem se_X10_whyNotRest : Cond.selects RX10 yX10_whyNotRest yX10_whyNotRest ∈ tg := tg_in 21 (by decide +kernel) (by decide +kernel)
theorem se_X10_restIt : Cond.selects RX10 yX10_restIt yX10_restIt ∈ tg := tg_in 22 (by decide +kernel) (by decide +kernel)
theorem se_X10_haltIt : Cond.selects RX10 yX10_haltIt yX10_haltIt ∈ tg := tg_in 23 (by decide +kernel) (by decide +kernel)
theorem se_X10_whyNotExtra : Cond.selects RX10 yX10_whyNotExtra yX10_whyNotExtra ∈ tg := tg_in 24 (by decide +kernel) (by decide +kernel)
theorem se_X10_extraIt : Cond.selects RX10 yX10_extraIt yX10_extraIt ∈ tg := tg_in 25 (by decide +kernel) (by decide +kernel)
theorem se_X10_endIt : Cond.selects RX10 yX10_endIt yX10_endIt ∈ tg := tg_in 26 (by decide +kernel) (by decide +kernel)
theorem se_X10_hoursWith : Cond.selects RX10 yX10_hoursWith yX10_hoursWith ∈ tg := tg_in 27 (by decide +kernel) (by decide +kernel)
theorem se_X10_putAside : Cond.selects RX10 yX10_putAside yX10_putAside ∈ tg := tg_in 28 (by decide +kernel) (by decide +kernel)
theorem se_X10_bringBack : Cond.selects RX10 yX10_bringBack yX10_bringBack ∈ tg := tg_in 29 (by decide +kernel) (by decide +kernel)
theorem se_X10_costAt : Cond.selects RX10 yX10_costAt yX10_costAt ∈ tg := tg_in 30 (by decide +kernel) (by decide +kernel)
theorem se_X10_readPad : Cond.selects RX10 yX10_readPad yX10_readPad ∈ tg := tg_in 31 (by decide +kernel) (by decide +kernel)
theorem se_X10_readOrder : Cond.selects RX10 yX10_readOrder yX10_readOrder ∈ tg := tg_in 32 (by decide +kernel) (by decide +kernel)
theorem se_X10_letter : Cond.selects RX10 yX10_letter yX10_letter ∈ tg := tg_in 33 (by decide +kernel) (by decide +kernel)
theorem se_X10_wants : Cond.selects RX10 yX10_wants yX10_wants ∈ tg := tg_in 34 (by decide +kernel) (by decide +kernel)
theorem se_X10_number : Cond.selects RX10 yX10_number yX10_number ∈ tg := tg_in 35 (by decide +kernel) (by decide +kernel)
theorem se_X10_does : Cond.selects RX10 yX10_does yX10_does ∈ tg := tg_in 36 (by decide +kernel) (by decide +kernel)
theorem se_X10_whyNot : Cond.selects RX10 yX10_whyNot yX10_whyNot ∈ tg := tg_in 37 (by decide +kernel) (by decide +kernel)
theorem tg_sub {ws : List Cond} (ps : List Nat) (h1 : ws = ps.filterMap (fun i => lw_tbl[i]?)) (h2 : ws.all goodWord = true) : ∀ w ∈ ws, w ∈ tg := fun w hw => by
  have h3 := List.all_eq_true.mp h2 w hw
  rw [h1] at hw
  obtain ⟨i, -, hi⟩ := List.mem_filterMap.mp hw
  exact tg_in i hi h3
theorem in_X0 : ∀ w ∈ u_ws RX0 TX0 11, w ∈ tg := tg_sub [309, 311, 313, 315, 317, 319, 321, 323, 325, 327, 329] (by decide +kernel) (by decide +kernel)
theorem in_X1 : ∀ w ∈ u_ws RX1 TX1 3, w ∈ tg := tg_sub [219, 221, 223] (by decide +kernel) (by decide +kernel)
theorem in_X2 : ∀ w ∈ u_ws RX2 TX2 3, w ∈ tg := tg_sub [165, 167, 169] (by decide +kernel) (by decide +kernel)
theorem in_X3 : ∀ w ∈ u_ws RX3 TX3 8, w ∈ tg := tg_sub [189, 191, 193, 195, 197, 199, 201, 203] (by decide +kernel) (by decide +kernel)
theorem in_X4 : ∀ w ∈ u_ws RX4 TX4 4, w ∈ tg := tg_sub [276, 278, 280, 282] (by decide +kernel) (by decide +kernel)
theorem in_X5 : ∀ w ∈ u_ws RX5 TX5 2, w ∈ tg := tg_sub [257, 259] (by decide +kernel) (by decide +kernel)
theorem in_X6 : ∀ w ∈ u_ws RX6 TX6 11, w ∈ tg := tg_sub [132, 134, 136, 138, 140, 142, 144, 146, 148, 150, 152] (by decide +kernel) (by decide +kernel)
theorem in_X7 : ∀ w ∈ u_ws RX7 TX7 4, w ∈ tg := tg_sub [238, 240, 242, 244] (by decide +kernel) (by decide +kernel)
theorem in_X8 : ∀ w ∈ u_ws RX8 TX8 2, w ∈ tg := tg_sub [79, 81] (by decide +kernel) (by decide +kernel)
theorem in_X9 : ∀ w ∈ u_ws RX9 TX9 6, w ∈ tg := tg_sub [338, 340, 342, 344, 346, 348] (by decide +kernel) (by decide +kernel)
theorem in_X10 : ∀ w ∈ u_ws RX10 TX10 12, w ∈ tg := tg_sub [779, 781, 783, 785, 787, 789, 791, 793, 795, 797, 799, 801] (by decide +kernel) (by decide +kernel)
end
section

/-! the frame of the walks: V, a goal of the kit's W over any heap that holds the cells ws -/
abbrev Gd : Type := va_G × (ClassId × ClassId × ClassId × ClassId) × (Nat → Nat) × (Nat → Nat)
abbrev gI (g : Gd) : ClassId := g.2.1.1
abbrev gC (g : Gd) : ClassId := g.2.1.2.1
abbrev gZ (g : Gd) : ClassId := g.2.1.2.2.1
abbrev gM (g : Gd) : ClassId := g.2.1.2.2.2
abbrev gT (g : Gd) : List (ClassId × FieldType) := [(gI g, .int), (gC g, .char), (gZ g, .boolean), (gM g, .object "FareDrops$Meter")]
def NK (U : State) : Prop := ∀ w ∈ nw, va_Nw w U
theorem nw_form {w : Cond} (h : w ∈ nw) : ∃ a i x b, w = .methodLinkNest a i x b := by
  have h1 := (List.mem_filter.mp h).2
  cases w <;> first | exact ⟨_, _, _, _, rfl⟩ | (simp [isNest] at h1)
theorem NK.warm {s U : State} (hW : s.WarmedH U.vm) (h : NK s) : NK U := fun w hw => by
  obtain ⟨a, i, x, b, rfl⟩ := nw_form hw
  exact va_Nw.warmM hW (h _ hw)
theorem NK.same {u U : State} (hv : u.vm = U.vm) (h : NK u) : NK U := fun w hw => by
  obtain ⟨a, i, x, b, rfl⟩ := nw_form hw
  exact va_Nw.same rfl hv (h _ hw)
def ZS (g : Gd) (A : Nat → Prop) (U : State) (H : Heap) : Prop := vk_R "FareDrops$Orders" 48 "hdwsxe" (g.2.2.1 0) U ∧ vk_S 1 [6] [[104, 100, 119, 115, 120, 101]] g.2.2.1 g.2.2.2 A U H ∧ va_Z "java/lang/String" "COMPACT_STRINGS" "Z" (.int 1) A U H ∧ va_AO "FareDrops$Meter" U
def KX (g : Gd) (A : Nat → Prop) (U : State) (H : Heap) : Prop := va_K g.1 vwCl (gT g) U ∧ NK U ∧ ZS g A U H
theorem KX.call {g : Gd} {A B : Nat → Prop} {s U : State} {H : Heap} {locs : List Loc} (h : KX g A s s.heap) (hS : va_S A s.heap H locs) (hAB : ∀ q, B q → A q) (hW : s.WarmedH U.vm) (hU : U.heap = H) : KX g B U U.heap := by
  obtain ⟨h1, h2, h3, h4, h5, h6⟩ := h
  rw [hU]
  exact ⟨va_K.moved hW.alike h1, h2.warm hW, h3.warm hW, ((h4.moved hW.alike).kept hS.2.1).narrow hAB, ((h5.moved hW.alike).kept hS.2.1).narrow hAB, h6.moved hW.alike⟩
theorem KX.blind {g : Gd} {A : Nat → Prop} {U : State} {f : JFrame} {mk : MethodId} {a : Array Value} (h : KX g A U U.heap) : KX g A (U.calling f mk a) (U.calling f mk a).heap := by
  obtain ⟨h1, h2, h3, h4, h5, h6⟩ := h
  exact ⟨va_K.moved (u := U) (U := U.calling f mk a) (Vm.Alike.refl U.vm) h1, h2.same (u := U) (U := U.calling f mk a) rfl, h3.same (u := U) (U := U.calling f mk a) rfl, h4.moved (u := U) (U := U.calling f mk a) (Vm.Alike.refl U.vm), h5.moved (u := U) (U := U.calling f mk a) (Vm.Alike.refl U.vm), h6.moved (u := U) (U := U.calling f mk a) (Vm.Alike.refl U.vm)⟩
abbrev Bd : Type := Program × Launch × Env × Room × State × MethodId × Array Value × List Frame × Method × Code × (State → Prop) × (Nat → Prop) × Nat
def V (g : Gd) (X : Bd) (cs ss : Nat) (ws : va_W) (pc : Nat) (L : List (Nat × Value)) (st : List Value) : Prop :=
  match X with
  | (p, l, e, R, s, m, args, below, meth, c, Q, A, n) => ∀ (H : Heap) (locs : List Loc) (ls : Array Slot), va_P g.1 vwCl ws H → va_D A ws → va_S A s.heap H locs → lv_has ls n L → W p l e R s m args below meth c H locs cs ss Q (F0 m pc ls st)
def bl (X : Bd) : Launch := X.2.1
def Cx (g : Gd) (X : Bd) (own : String) (cc : ByteArray) (n d mc ms : Nat) : Prop :=
  match X with
  | (p, l, e, R, s, m, args, below, meth, c, Q, A, n') => p.tables.exec = Jvm.exec ∧ c.code = cc ∧ c.maxLocals = n' ∧ (∀ w ∈ tg, w.before args s = true) ∧ s.vm.findClass own = some m.cls ∧ KX g A s s.heap ∧ (∀ q, s.heap.size ≤ q → A q) ∧ n' = n ∧ d ≤ R.frames ∧ 40 * d ≤ R.locals ∧ mc ≤ R.cells ∧ ms ≤ R.slots
def isI (X : Bd) : Prop :=
  match X with
  | (p, l, e, R, s, m, args, below, meth, c, Q, A, n') => meth.name = "<init>"
abbrev rmd (d mc ms : Nat) : Room := { frames := d, cells := mc, slots := ms, locals := 40 * d }
abbrev wsy (y : MethodName) (cc : ByteArray) (maxL : Nat) (rt : Option FieldType) : List Cond := .code y cc maxL rt :: tg
def pre (g : Gd) (sz : Nat) (As : List Value) (wc : va_W) : Array Value → State → Prop := va_Pc As (fun U => U.heap.size = sz ∧ va_P g.1 vwCl wc U.heap ∧ KX g (va_A wc sz) U U.heap ∧ va_D (fun _ => True) wc)
def Ki (g : Gd) (y : MethodName) (cc : ByteArray) (maxL : Nat) (rt : Option FieldType) (d mc ms : Nat) (As : List Value) (wc : va_W) (post : Int32 → va_W → Prop) : Prop :=
  ∀ (l : Launch) (sz : Nat), Met l y (wsy y cc maxL rt) (rmd d mc ms) (pre g sz As wc) (va_Qi post (fun w t => va_P g.1 vwCl w t.heap ∧ va_D (va_A wc sz) w) (va_A wc sz)) mc ms (va_A wc sz)
def Kv (g : Gd) (y : MethodName) (cc : ByteArray) (maxL : Nat) (rt : Option FieldType) (d mc ms : Nat) (As : List Value) (wc : va_W) (post : va_W → Prop) : Prop :=
  ∀ (l : Launch) (sz : Nat), Met l y (wsy y cc maxL rt) (rmd d mc ms) (pre g sz As wc) (va_Qv post (fun w t => va_P g.1 vwCl w t.heap ∧ va_D (va_A wc sz) w) (va_A wc sz)) mc ms (va_A wc sz)
def Kr (g : Gd) (y : MethodName) (cc : ByteArray) (maxL : Nat) (rt : Option FieldType) (d mc ms : Nat) (As : List Value) (wc : va_W) (post : Nat → va_W → Prop) : Prop :=
  ∀ (l : Launch) (sz : Nat), Met l y (wsy y cc maxL rt) (rmd d mc ms) (pre g sz As wc) (va_Qr (fun u : Nat × va_W => post u.1 u.2) (fun u a t => a = u.1 ∧ va_P g.1 vwCl u.2 t.heap ∧ va_D (va_A wc sz) u.2) (va_A wc sz)) mc ms (va_A wc sz)
theorem pre_blind (g : Gd) (sz : Nat) (As : List Value) (wc : va_W) : FrameBlind (pre g sz As wc) := fun a U f mk q => by
  obtain ⟨q0, q1, qP, qK, qD⟩ := q
  exact ⟨q0, q1, qP, qK.blind, qD⟩
theorem good_tg {y : MethodName} {cc : ByteArray} {maxL : Nat} {rt : Option FieldType} (h : Cond.code y cc maxL rt ∈ tg) : GoodIn tg (wsy y cc maxL rt) := fun w hw => by
  rcases List.mem_cons.mp hw with rfl | hw
  · exact ⟨h, tg_good h⟩
  · exact ⟨hw, tg_good hw⟩

theorem Ki.of {g : Gd} {y : MethodName} {cc : ByteArray} {maxL d mc ms : Nat} {As : List Value} {wc : va_W} {post : Int32 → va_W → Prop} (hy : plainName y.cls = true) (hlen : (lg_sl As).length ≤ maxL) (body : ∀ X : Bd, Cx g X y.cls cc maxL d mc ms → (y.name = "<init>" → isI X) → (∀ (v : Int32) (ws : va_W) (pc : Nat) (L : List (Nat × Value)), decode cc pc = .ok (.ireturn, 1) → post v ws → V g X mc ms ws pc L [.int v]) → V g X 0 0 wc 0 (lv_args 0 As) []) : Ki g y cc maxL (some .int) d mc ms As wc post := by
  intro l sz
  refine Met.ofW (ws := wsy y cc maxL (some .int)) (ws' := tg) hy rfl ?_
  intro p e s m args below meth c s₁ B hml hv
  obtain ⟨rfl, hsz, hP, hK, hD0⟩ := hv
  subst hsz
  have hts : ∀ w ∈ tg, w.before As.toArray s = true := fun w hw => atoms_spec (ws := wsy y cc maxL (some .int)) B.pre w (List.mem_cons_of_mem _ hw)
  have hown : s.vm.findClass y.cls = some m.cls := findClass_of_methodNamed B.named
  have hV := body (p, l, e, (headSpec (wsy y cc maxL (some .int)) (rmd d mc ms)).room, s, m, As.toArray, below, meth, c, MQ below (va_Qi post (fun w t => va_P g.1 vwCl w t.heap ∧ va_D (va_A wc s.heap.size) w) (va_A wc s.heap.size)) As.toArray s mc ms (va_A wc s.heap.size), va_A wc s.heap.size, maxL) ⟨B.exec, B.bytes, hml, hts, hown, hK, fun q h => Or.inr h, rfl, Nat.le_refl _, Nat.le_refl _, Nat.le_refl _, Nat.le_refl _⟩ (fun hi => (name_of_methodNamed B.named B.method).1.trans hi) ?_
  · have h1 := hV s.heap [] _ hP (hD0.self (sz := s.heap.size)) va_S.rf (lv_entry As hlen)
    rw [lg_entry_eq]
    exact h1
  · intro v ws pc L hd hp H locs ls hP1 hD1 hS1 hl
    exact W.iret B.exec B.bytes B.returns (fun t ht hW => ⟨⟨v, ws, rfl, hp, by rw [ht]; exact hP1, hD1⟩, hS1.F ht⟩) hS1.2.2 hd B.notSynchronized

theorem Kz.of {g : Gd} {y : MethodName} {cc : ByteArray} {maxL d mc ms : Nat} {ty : FieldType} {As : List Value} {wc : va_W} {post : Int32 → va_W → Prop} (hy : plainName y.cls = true) (hlen : (lg_sl As).length ≤ maxL) (body : ∀ X : Bd, Cx g X y.cls cc maxL d mc ms → (y.name = "<init>" → isI X) → (∀ (v : Int32) (ws : va_W) (pc : Nat) (L : List (Nat × Value)), decode cc pc = .ok (.ireturn, 1) → narrow ty (.int v) = .int v → post v ws → V g X mc ms ws pc L [.int v]) → V g X 0 0 wc 0 (lv_args 0 As) []) : Ki g y cc maxL (some ty) d mc ms As wc post := by
  intro l sz
  refine Met.ofW (ws := wsy y cc maxL (some ty)) (ws' := tg) hy rfl ?_
  intro p e s m args below meth c s₁ B hml hv
  obtain ⟨rfl, hsz, hP, hK, hD0⟩ := hv
  subst hsz
  have hts : ∀ w ∈ tg, w.before As.toArray s = true := fun w hw => atoms_spec (ws := wsy y cc maxL (some ty)) B.pre w (List.mem_cons_of_mem _ hw)
  have hown : s.vm.findClass y.cls = some m.cls := findClass_of_methodNamed B.named
  have hV := body (p, l, e, (headSpec (wsy y cc maxL (some ty)) (rmd d mc ms)).room, s, m, As.toArray, below, meth, c, MQ below (va_Qi post (fun w t => va_P g.1 vwCl w t.heap ∧ va_D (va_A wc s.heap.size) w) (va_A wc s.heap.size)) As.toArray s mc ms (va_A wc s.heap.size), va_A wc s.heap.size, maxL) ⟨B.exec, B.bytes, hml, hts, hown, hK, fun q h => Or.inr h, rfl, Nat.le_refl _, Nat.le_refl _, Nat.le_refl _, Nat.le_refl _⟩ (fun hi => (name_of_methodNamed B.named B.method).1.trans hi) ?_
  · have h1 := hV s.heap [] _ hP (hD0.self (sz := s.heap.size)) va_S.rf (lv_entry As hlen)
    rw [lg_entry_eq]
    exact h1
  · intro v ws pc L hd hn hp H locs ls hP1 hD1 hS1 hl
    exact W.zret B.exec B.bytes B.returns hn (fun t ht hW => ⟨⟨v, ws, rfl, hp, by rw [ht]; exact hP1, hD1⟩, hS1.F ht⟩) hS1.2.2 hd B.notSynchronized

theorem Kv.of {g : Gd} {y : MethodName} {cc : ByteArray} {maxL d mc ms : Nat} {As : List Value} {wc : va_W} {post : va_W → Prop} (hy : plainName y.cls = true) (hlen : (lg_sl As).length ≤ maxL) (body : ∀ X : Bd, Cx g X y.cls cc maxL d mc ms → (y.name = "<init>" → isI X) → (∀ (ws : va_W) (pc : Nat) (L : List (Nat × Value)), decode cc pc = .ok (.return_, 1) → post ws → V g X mc ms ws pc L []) → V g X 0 0 wc 0 (lv_args 0 As) []) : Kv g y cc maxL none d mc ms As wc post := by
  intro l sz
  refine Met.ofW (ws := wsy y cc maxL none) (ws' := tg) hy rfl ?_
  intro p e s m args below meth c s₁ B hml hv
  obtain ⟨rfl, hsz, hP, hK, hD0⟩ := hv
  subst hsz
  have hts : ∀ w ∈ tg, w.before As.toArray s = true := fun w hw => atoms_spec (ws := wsy y cc maxL none) B.pre w (List.mem_cons_of_mem _ hw)
  have hown : s.vm.findClass y.cls = some m.cls := findClass_of_methodNamed B.named
  have hV := body (p, l, e, (headSpec (wsy y cc maxL none) (rmd d mc ms)).room, s, m, As.toArray, below, meth, c, MQ below (va_Qv post (fun w t => va_P g.1 vwCl w t.heap ∧ va_D (va_A wc s.heap.size) w) (va_A wc s.heap.size)) As.toArray s mc ms (va_A wc s.heap.size), va_A wc s.heap.size, maxL) ⟨B.exec, B.bytes, hml, hts, hown, hK, fun q h => Or.inr h, rfl, Nat.le_refl _, Nat.le_refl _, Nat.le_refl _, Nat.le_refl _⟩ (fun hi => (name_of_methodNamed B.named B.method).1.trans hi) ?_
  · have h1 := hV s.heap [] _ hP (hD0.self (sz := s.heap.size)) va_S.rf (lv_entry As hlen)
    rw [lg_entry_eq]
    exact h1
  · intro ws pc L hd hp H locs ls hP1 hD1 hS1 hl
    exact W.vret B.exec B.bytes B.returns (fun t ht hW => ⟨⟨ws, rfl, hp, by rw [ht]; exact hP1, hD1⟩, hS1.F ht⟩) hS1.2.2 hd B.notSynchronized

theorem Kr.of {g : Gd} {y : MethodName} {cc : ByteArray} {maxL d mc ms : Nat} {cn : String} {As : List Value} {wc : va_W} {post : Nat → va_W → Prop} (hy : plainName y.cls = true) (hlen : (lg_sl As).length ≤ maxL) (body : ∀ X : Bd, Cx g X y.cls cc maxL d mc ms → (y.name = "<init>" → isI X) → (∀ (v : Nat) (ws : va_W) (pc : Nat) (L : List (Nat × Value)), decode cc pc = .ok (.areturn, 1) → post v ws → V g X mc ms ws pc L [.ref v]) → V g X 0 0 wc 0 (lv_args 0 As) []) : Kr g y cc maxL (some (.object cn)) d mc ms As wc post := by
  intro l sz
  refine Met.ofW (ws := wsy y cc maxL (some (.object cn))) (ws' := tg) hy rfl ?_
  intro p e s m args below meth c s₁ B hml hv
  obtain ⟨rfl, hsz, hP, hK, hD0⟩ := hv
  subst hsz
  have hts : ∀ w ∈ tg, w.before As.toArray s = true := fun w hw => atoms_spec (ws := wsy y cc maxL (some (.object cn))) B.pre w (List.mem_cons_of_mem _ hw)
  have hown : s.vm.findClass y.cls = some m.cls := findClass_of_methodNamed B.named
  have hV := body (p, l, e, (headSpec (wsy y cc maxL (some (.object cn))) (rmd d mc ms)).room, s, m, As.toArray, below, meth, c, MQ below (va_Qr (fun u : Nat × va_W => post u.1 u.2) (fun u a t => a = u.1 ∧ va_P g.1 vwCl u.2 t.heap ∧ va_D (va_A wc s.heap.size) u.2) (va_A wc s.heap.size)) As.toArray s mc ms (va_A wc s.heap.size), va_A wc s.heap.size, maxL) ⟨B.exec, B.bytes, hml, hts, hown, hK, fun q h => Or.inr h, rfl, Nat.le_refl _, Nat.le_refl _, Nat.le_refl _, Nat.le_refl _⟩ (fun hi => (name_of_methodNamed B.named B.method).1.trans hi) ?_
  · have h1 := hV s.heap [] _ hP (hD0.self (sz := s.heap.size)) va_S.rf (lv_entry As hlen)
    rw [lg_entry_eq]
    exact h1
  · intro v ws pc L hd hp H locs ls hP1 hD1 hS1 hl
    exact W.aret B.exec B.bytes B.returns (Or.inl ⟨cn, rfl⟩) (Or.inr ⟨v, rfl⟩) (fun t ht hW => ⟨⟨(v, ws), v, rfl, hp, rfl, by rw [ht]; exact hP1, hD1⟩, hS1.F ht⟩) hS1.2.2 hd B.notSynchronized

theorem V_iconst {g : Gd} {X : Bd} {own : String} {cc : ByteArray} {n d mc ms cs ss pc : Nat} {ws : va_W} {L : List (Nat × Value)} {st : List Value} {n0 : Int} {v : Int32} (C : Cx g X own cc n d mc ms) (hdg : decode cc pc = .ok (.iconst n0, 1)) (hv : Int32.ofInt n0 = v) (kk : V g X cs ss ws (pc + 1) L (.int v :: st)) : V g X cs ss ws pc L (st) := by
  obtain ⟨p, l, e, R, s, m, args, below, meth, c, Q, A, n'⟩ := X
  obtain ⟨hx, hb, hml, hts, hown, ⟨hK, hNK, hZS⟩, hA, hn, hd1, hd2, hd3, hd4⟩ := C
  subst hn
  intro H locs ls hP hD hS hl
  exact lv_iconst hx hb hdg hv (kk H locs ls hP hD hS hl)
theorem V_bipush {g : Gd} {X : Bd} {own : String} {cc : ByteArray} {n d mc ms cs ss pc : Nat} {ws : va_W} {L : List (Nat × Value)} {st : List Value} {n0 : Int} {v : Int32} (C : Cx g X own cc n d mc ms) (hdg : decode cc pc = .ok (.bipush n0, 2)) (hv : (Int8.ofInt n0).toInt32 = v) (kk : V g X cs ss ws (pc + 2) L (.int v :: st)) : V g X cs ss ws pc L (st) := by
  obtain ⟨p, l, e, R, s, m, args, below, meth, c, Q, A, n'⟩ := X
  obtain ⟨hx, hb, hml, hts, hown, ⟨hK, hNK, hZS⟩, hA, hn, hd1, hd2, hd3, hd4⟩ := C
  subst hn
  intro H locs ls hP hD hS hl
  exact lv_bipush hx hb hdg hv (kk H locs ls hP hD hS hl)
theorem V_sipush {g : Gd} {X : Bd} {own : String} {cc : ByteArray} {n d mc ms cs ss pc : Nat} {ws : va_W} {L : List (Nat × Value)} {st : List Value} {n0 : Int} {v : Int32} (C : Cx g X own cc n d mc ms) (hdg : decode cc pc = .ok (.sipush n0, 3)) (hv : (Int16.ofInt n0).toInt32 = v) (kk : V g X cs ss ws (pc + 3) L (.int v :: st)) : V g X cs ss ws pc L (st) := by
  obtain ⟨p, l, e, R, s, m, args, below, meth, c, Q, A, n'⟩ := X
  obtain ⟨hx, hb, hml, hts, hown, ⟨hK, hNK, hZS⟩, hA, hn, hd1, hd2, hd3, hd4⟩ := C
  subst hn
  intro H locs ls hP hD hS hl
  exact lv_sipush hx hb hdg hv (kk H locs ls hP hD hS hl)
theorem V_lconst {g : Gd} {X : Bd} {own : String} {cc : ByteArray} {n d mc ms cs ss pc : Nat} {ws : va_W} {L : List (Nat × Value)} {st : List Value} {n0 : Fin 2} {v : Int64} (C : Cx g X own cc n d mc ms) (hdg : decode cc pc = .ok (.lconst n0, 1)) (hv : Int64.ofNat (n0 : Nat) = v) (kk : V g X cs ss ws (pc + 1) L (.long v :: st)) : V g X cs ss ws pc L (st) := by
  obtain ⟨p, l, e, R, s, m, args, below, meth, c, Q, A, n'⟩ := X
  obtain ⟨hx, hb, hml, hts, hown, ⟨hK, hNK, hZS⟩, hA, hn, hd1, hd2, hd3, hd4⟩ := C
  subst hn
  intro H locs ls hP hD hS hl
  exact lv_lconst hx hb hdg hv (kk H locs ls hP hD hS hl)
theorem V_iload_n {g : Gd} {X : Bd} {own : String} {cc : ByteArray} {n d mc ms cs ss pc : Nat} {ws : va_W} {L : List (Nat × Value)} {st : List Value} {k : Fin 4} {i : Nat} {x : Int32} (C : Cx g X own cc n d mc ms) (k0 : Nat) (hdg : decode cc pc = .ok (.iload_n k, 1)) (hi : (k : Nat) = i) (hk : L[k0]? = some (i, .int x)) (kk : V g X cs ss ws (pc + 1) L (.int x :: st)) : V g X cs ss ws pc L (st) := by
  obtain ⟨p, l, e, R, s, m, args, below, meth, c, Q, A, n'⟩ := X
  obtain ⟨hx, hb, hml, hts, hown, ⟨hK, hNK, hZS⟩, hA, hn, hd1, hd2, hd3, hd4⟩ := C
  subst hn
  intro H locs ls hP hD hS hl
  exact lv_iload_n hx hb hdg hi (lv_at hl k0 hk) (kk H locs ls hP hD hS hl)
theorem V_iload {g : Gd} {X : Bd} {own : String} {cc : ByteArray} {n d mc ms cs ss pc : Nat} {ws : va_W} {L : List (Nat × Value)} {st : List Value} {i : Nat} {x : Int32} (C : Cx g X own cc n d mc ms) (k0 : Nat) (hdg : decode cc pc = .ok (.iload i, 2)) (hk : L[k0]? = some (i, .int x)) (kk : V g X cs ss ws (pc + 2) L (.int x :: st)) : V g X cs ss ws pc L (st) := by
  obtain ⟨p, l, e, R, s, m, args, below, meth, c, Q, A, n'⟩ := X
  obtain ⟨hx, hb, hml, hts, hown, ⟨hK, hNK, hZS⟩, hA, hn, hd1, hd2, hd3, hd4⟩ := C
  subst hn
  intro H locs ls hP hD hS hl
  exact lv_iload hx hb hdg (lv_at hl k0 hk) (kk H locs ls hP hD hS hl)
theorem V_lload_n {g : Gd} {X : Bd} {own : String} {cc : ByteArray} {n d mc ms cs ss pc : Nat} {ws : va_W} {L : List (Nat × Value)} {st : List Value} {k : Fin 4} {i : Nat} {x : Int64} (C : Cx g X own cc n d mc ms) (k0 : Nat) (hdg : decode cc pc = .ok (.lload_n k, 1)) (hi : (k : Nat) = i) (hk : L[k0]? = some (i, .long x)) (kk : V g X cs ss ws (pc + 1) L (.long x :: st)) : V g X cs ss ws pc L (st) := by
  obtain ⟨p, l, e, R, s, m, args, below, meth, c, Q, A, n'⟩ := X
  obtain ⟨hx, hb, hml, hts, hown, ⟨hK, hNK, hZS⟩, hA, hn, hd1, hd2, hd3, hd4⟩ := C
  subst hn
  intro H locs ls hP hD hS hl
  exact lv_lload_n hx hb hdg hi (lv_at hl k0 hk) (kk H locs ls hP hD hS hl)
theorem V_lload {g : Gd} {X : Bd} {own : String} {cc : ByteArray} {n d mc ms cs ss pc : Nat} {ws : va_W} {L : List (Nat × Value)} {st : List Value} {i : Nat} {x : Int64} (C : Cx g X own cc n d mc ms) (k0 : Nat) (hdg : decode cc pc = .ok (.lload i, 2)) (hk : L[k0]? = some (i, .long x)) (kk : V g X cs ss ws (pc + 2) L (.long x :: st)) : V g X cs ss ws pc L (st) := by
  obtain ⟨p, l, e, R, s, m, args, below, meth, c, Q, A, n'⟩ := X
  obtain ⟨hx, hb, hml, hts, hown, ⟨hK, hNK, hZS⟩, hA, hn, hd1, hd2, hd3, hd4⟩ := C
  subst hn
  intro H locs ls hP hD hS hl
  exact lv_lload hx hb hdg (lv_at hl k0 hk) (kk H locs ls hP hD hS hl)
theorem V_aload_n {g : Gd} {X : Bd} {own : String} {cc : ByteArray} {n d mc ms cs ss pc : Nat} {ws : va_W} {L : List (Nat × Value)} {st : List Value} {k : Fin 4} {i : Nat} {x : Nat} (C : Cx g X own cc n d mc ms) (k0 : Nat) (hdg : decode cc pc = .ok (.aload_n k, 1)) (hi : (k : Nat) = i) (hk : L[k0]? = some (i, .ref x)) (kk : V g X cs ss ws (pc + 1) L (.ref x :: st)) : V g X cs ss ws pc L (st) := by
  obtain ⟨p, l, e, R, s, m, args, below, meth, c, Q, A, n'⟩ := X
  obtain ⟨hx, hb, hml, hts, hown, ⟨hK, hNK, hZS⟩, hA, hn, hd1, hd2, hd3, hd4⟩ := C
  subst hn
  intro H locs ls hP hD hS hl
  exact lv_aload_n hx hb hdg hi (lv_at hl k0 hk) (kk H locs ls hP hD hS hl)
theorem V_aload {g : Gd} {X : Bd} {own : String} {cc : ByteArray} {n d mc ms cs ss pc : Nat} {ws : va_W} {L : List (Nat × Value)} {st : List Value} {i : Nat} {x : Nat} (C : Cx g X own cc n d mc ms) (k0 : Nat) (hdg : decode cc pc = .ok (.aload i, 2)) (hk : L[k0]? = some (i, .ref x)) (kk : V g X cs ss ws (pc + 2) L (.ref x :: st)) : V g X cs ss ws pc L (st) := by
  obtain ⟨p, l, e, R, s, m, args, below, meth, c, Q, A, n'⟩ := X
  obtain ⟨hx, hb, hml, hts, hown, ⟨hK, hNK, hZS⟩, hA, hn, hd1, hd2, hd3, hd4⟩ := C
  subst hn
  intro H locs ls hP hD hS hl
  exact lv_aload hx hb hdg (lv_at hl k0 hk) (kk H locs ls hP hD hS hl)
theorem V_iadd {g : Gd} {X : Bd} {own : String} {cc : ByteArray} {n d mc ms cs ss pc : Nat} {ws : va_W} {L : List (Nat × Value)} {st : List Value} {x y : Int32} (C : Cx g X own cc n d mc ms) (hdg : decode cc pc = .ok (.iadd, 1)) (kk : V g X cs ss ws (pc + 1) L (.int (x + y) :: st)) : V g X cs ss ws pc L (.int y :: .int x :: st) := by
  obtain ⟨p, l, e, R, s, m, args, below, meth, c, Q, A, n'⟩ := X
  obtain ⟨hx, hb, hml, hts, hown, ⟨hK, hNK, hZS⟩, hA, hn, hd1, hd2, hd3, hd4⟩ := C
  subst hn
  intro H locs ls hP hD hS hl
  exact lv_iadd hx hb hdg (kk H locs ls hP hD hS hl)
theorem V_isub {g : Gd} {X : Bd} {own : String} {cc : ByteArray} {n d mc ms cs ss pc : Nat} {ws : va_W} {L : List (Nat × Value)} {st : List Value} {x y : Int32} (C : Cx g X own cc n d mc ms) (hdg : decode cc pc = .ok (.isub, 1)) (kk : V g X cs ss ws (pc + 1) L (.int (x - y) :: st)) : V g X cs ss ws pc L (.int y :: .int x :: st) := by
  obtain ⟨p, l, e, R, s, m, args, below, meth, c, Q, A, n'⟩ := X
  obtain ⟨hx, hb, hml, hts, hown, ⟨hK, hNK, hZS⟩, hA, hn, hd1, hd2, hd3, hd4⟩ := C
  subst hn
  intro H locs ls hP hD hS hl
  exact lv_isub hx hb hdg (kk H locs ls hP hD hS hl)
theorem V_imul {g : Gd} {X : Bd} {own : String} {cc : ByteArray} {n d mc ms cs ss pc : Nat} {ws : va_W} {L : List (Nat × Value)} {st : List Value} {x y : Int32} (C : Cx g X own cc n d mc ms) (hdg : decode cc pc = .ok (.imul, 1)) (kk : V g X cs ss ws (pc + 1) L (.int (x * y) :: st)) : V g X cs ss ws pc L (.int y :: .int x :: st) := by
  obtain ⟨p, l, e, R, s, m, args, below, meth, c, Q, A, n'⟩ := X
  obtain ⟨hx, hb, hml, hts, hown, ⟨hK, hNK, hZS⟩, hA, hn, hd1, hd2, hd3, hd4⟩ := C
  subst hn
  intro H locs ls hP hD hS hl
  exact lv_imul hx hb hdg (kk H locs ls hP hD hS hl)
theorem V_iand {g : Gd} {X : Bd} {own : String} {cc : ByteArray} {n d mc ms cs ss pc : Nat} {ws : va_W} {L : List (Nat × Value)} {st : List Value} {x y : Int32} (C : Cx g X own cc n d mc ms) (hdg : decode cc pc = .ok (.iand, 1)) (kk : V g X cs ss ws (pc + 1) L (.int (x &&& y) :: st)) : V g X cs ss ws pc L (.int y :: .int x :: st) := by
  obtain ⟨p, l, e, R, s, m, args, below, meth, c, Q, A, n'⟩ := X
  obtain ⟨hx, hb, hml, hts, hown, ⟨hK, hNK, hZS⟩, hA, hn, hd1, hd2, hd3, hd4⟩ := C
  subst hn
  intro H locs ls hP hD hS hl
  exact lv_iand hx hb hdg (kk H locs ls hP hD hS hl)
theorem V_ior {g : Gd} {X : Bd} {own : String} {cc : ByteArray} {n d mc ms cs ss pc : Nat} {ws : va_W} {L : List (Nat × Value)} {st : List Value} {x y : Int32} (C : Cx g X own cc n d mc ms) (hdg : decode cc pc = .ok (.ior, 1)) (kk : V g X cs ss ws (pc + 1) L (.int (x ||| y) :: st)) : V g X cs ss ws pc L (.int y :: .int x :: st) := by
  obtain ⟨p, l, e, R, s, m, args, below, meth, c, Q, A, n'⟩ := X
  obtain ⟨hx, hb, hml, hts, hown, ⟨hK, hNK, hZS⟩, hA, hn, hd1, hd2, hd3, hd4⟩ := C
  subst hn
  intro H locs ls hP hD hS hl
  exact lv_ior hx hb hdg (kk H locs ls hP hD hS hl)
theorem V_ixor {g : Gd} {X : Bd} {own : String} {cc : ByteArray} {n d mc ms cs ss pc : Nat} {ws : va_W} {L : List (Nat × Value)} {st : List Value} {x y : Int32} (C : Cx g X own cc n d mc ms) (hdg : decode cc pc = .ok (.ixor, 1)) (kk : V g X cs ss ws (pc + 1) L (.int (x ^^^ y) :: st)) : V g X cs ss ws pc L (.int y :: .int x :: st) := by
  obtain ⟨p, l, e, R, s, m, args, below, meth, c, Q, A, n'⟩ := X
  obtain ⟨hx, hb, hml, hts, hown, ⟨hK, hNK, hZS⟩, hA, hn, hd1, hd2, hd3, hd4⟩ := C
  subst hn
  intro H locs ls hP hD hS hl
  exact lv_ixor hx hb hdg (kk H locs ls hP hD hS hl)
theorem V_ladd {g : Gd} {X : Bd} {own : String} {cc : ByteArray} {n d mc ms cs ss pc : Nat} {ws : va_W} {L : List (Nat × Value)} {st : List Value} {x y : Int64} (C : Cx g X own cc n d mc ms) (hdg : decode cc pc = .ok (.ladd, 1)) (kk : V g X cs ss ws (pc + 1) L (.long (x + y) :: st)) : V g X cs ss ws pc L (.long y :: .long x :: st) := by
  obtain ⟨p, l, e, R, s, m, args, below, meth, c, Q, A, n'⟩ := X
  obtain ⟨hx, hb, hml, hts, hown, ⟨hK, hNK, hZS⟩, hA, hn, hd1, hd2, hd3, hd4⟩ := C
  subst hn
  intro H locs ls hP hD hS hl
  exact lv_ladd hx hb hdg (kk H locs ls hP hD hS hl)
theorem V_lsub {g : Gd} {X : Bd} {own : String} {cc : ByteArray} {n d mc ms cs ss pc : Nat} {ws : va_W} {L : List (Nat × Value)} {st : List Value} {x y : Int64} (C : Cx g X own cc n d mc ms) (hdg : decode cc pc = .ok (.lsub, 1)) (kk : V g X cs ss ws (pc + 1) L (.long (x - y) :: st)) : V g X cs ss ws pc L (.long y :: .long x :: st) := by
  obtain ⟨p, l, e, R, s, m, args, below, meth, c, Q, A, n'⟩ := X
  obtain ⟨hx, hb, hml, hts, hown, ⟨hK, hNK, hZS⟩, hA, hn, hd1, hd2, hd3, hd4⟩ := C
  subst hn
  intro H locs ls hP hD hS hl
  exact lv_lsub hx hb hdg (kk H locs ls hP hD hS hl)
theorem V_lmul {g : Gd} {X : Bd} {own : String} {cc : ByteArray} {n d mc ms cs ss pc : Nat} {ws : va_W} {L : List (Nat × Value)} {st : List Value} {x y : Int64} (C : Cx g X own cc n d mc ms) (hdg : decode cc pc = .ok (.lmul, 1)) (kk : V g X cs ss ws (pc + 1) L (.long (x * y) :: st)) : V g X cs ss ws pc L (.long y :: .long x :: st) := by
  obtain ⟨p, l, e, R, s, m, args, below, meth, c, Q, A, n'⟩ := X
  obtain ⟨hx, hb, hml, hts, hown, ⟨hK, hNK, hZS⟩, hA, hn, hd1, hd2, hd3, hd4⟩ := C
  subst hn
  intro H locs ls hP hD hS hl
  exact lv_lmul hx hb hdg (kk H locs ls hP hD hS hl)
theorem V_land {g : Gd} {X : Bd} {own : String} {cc : ByteArray} {n d mc ms cs ss pc : Nat} {ws : va_W} {L : List (Nat × Value)} {st : List Value} {x y : Int64} (C : Cx g X own cc n d mc ms) (hdg : decode cc pc = .ok (.land, 1)) (kk : V g X cs ss ws (pc + 1) L (.long (x &&& y) :: st)) : V g X cs ss ws pc L (.long y :: .long x :: st) := by
  obtain ⟨p, l, e, R, s, m, args, below, meth, c, Q, A, n'⟩ := X
  obtain ⟨hx, hb, hml, hts, hown, ⟨hK, hNK, hZS⟩, hA, hn, hd1, hd2, hd3, hd4⟩ := C
  subst hn
  intro H locs ls hP hD hS hl
  exact lv_land hx hb hdg (kk H locs ls hP hD hS hl)
theorem V_lor {g : Gd} {X : Bd} {own : String} {cc : ByteArray} {n d mc ms cs ss pc : Nat} {ws : va_W} {L : List (Nat × Value)} {st : List Value} {x y : Int64} (C : Cx g X own cc n d mc ms) (hdg : decode cc pc = .ok (.lor, 1)) (kk : V g X cs ss ws (pc + 1) L (.long (x ||| y) :: st)) : V g X cs ss ws pc L (.long y :: .long x :: st) := by
  obtain ⟨p, l, e, R, s, m, args, below, meth, c, Q, A, n'⟩ := X
  obtain ⟨hx, hb, hml, hts, hown, ⟨hK, hNK, hZS⟩, hA, hn, hd1, hd2, hd3, hd4⟩ := C
  subst hn
  intro H locs ls hP hD hS hl
  exact lv_lor hx hb hdg (kk H locs ls hP hD hS hl)
theorem V_idiv {g : Gd} {X : Bd} {own : String} {cc : ByteArray} {n d mc ms cs ss pc : Nat} {ws : va_W} {L : List (Nat × Value)} {st : List Value} {x y : Int32} (C : Cx g X own cc n d mc ms) (hdg : decode cc pc = .ok (.idiv, 1)) (hne : ¬ y = 0) (kk : V g X cs ss ws (pc + 1) L (.int (x / y) :: st)) : V g X cs ss ws pc L (.int y :: .int x :: st) := by
  obtain ⟨p, l, e, R, s, m, args, below, meth, c, Q, A, n'⟩ := X
  obtain ⟨hx, hb, hml, hts, hown, ⟨hK, hNK, hZS⟩, hA, hn, hd1, hd2, hd3, hd4⟩ := C
  subst hn
  intro H locs ls hP hD hS hl
  exact lv_idiv hx hb hdg hne (kk H locs ls hP hD hS hl)
theorem V_irem {g : Gd} {X : Bd} {own : String} {cc : ByteArray} {n d mc ms cs ss pc : Nat} {ws : va_W} {L : List (Nat × Value)} {st : List Value} {x y : Int32} (C : Cx g X own cc n d mc ms) (hdg : decode cc pc = .ok (.irem, 1)) (hne : ¬ y = 0) (kk : V g X cs ss ws (pc + 1) L (.int (x - x / y * y) :: st)) : V g X cs ss ws pc L (.int y :: .int x :: st) := by
  obtain ⟨p, l, e, R, s, m, args, below, meth, c, Q, A, n'⟩ := X
  obtain ⟨hx, hb, hml, hts, hown, ⟨hK, hNK, hZS⟩, hA, hn, hd1, hd2, hd3, hd4⟩ := C
  subst hn
  intro H locs ls hP hD hS hl
  exact lv_irem hx hb hdg hne (kk H locs ls hP hD hS hl)
theorem V_ldiv {g : Gd} {X : Bd} {own : String} {cc : ByteArray} {n d mc ms cs ss pc : Nat} {ws : va_W} {L : List (Nat × Value)} {st : List Value} {x y : Int64} (C : Cx g X own cc n d mc ms) (hdg : decode cc pc = .ok (.ldiv, 1)) (hne : ¬ y = 0) (kk : V g X cs ss ws (pc + 1) L (.long (x / y) :: st)) : V g X cs ss ws pc L (.long y :: .long x :: st) := by
  obtain ⟨p, l, e, R, s, m, args, below, meth, c, Q, A, n'⟩ := X
  obtain ⟨hx, hb, hml, hts, hown, ⟨hK, hNK, hZS⟩, hA, hn, hd1, hd2, hd3, hd4⟩ := C
  subst hn
  intro H locs ls hP hD hS hl
  exact lv_ldiv hx hb hdg hne (kk H locs ls hP hD hS hl)
theorem V_i2l {g : Gd} {X : Bd} {own : String} {cc : ByteArray} {n d mc ms cs ss pc : Nat} {ws : va_W} {L : List (Nat × Value)} {st : List Value} {x : Int32} (C : Cx g X own cc n d mc ms) (hdg : decode cc pc = .ok (.i2l, 1)) (kk : V g X cs ss ws (pc + 1) L (.long x.toInt64 :: st)) : V g X cs ss ws pc L (.int x :: st) := by
  obtain ⟨p, l, e, R, s, m, args, below, meth, c, Q, A, n'⟩ := X
  obtain ⟨hx, hb, hml, hts, hown, ⟨hK, hNK, hZS⟩, hA, hn, hd1, hd2, hd3, hd4⟩ := C
  subst hn
  intro H locs ls hP hD hS hl
  exact lv_i2l hx hb hdg rfl (kk H locs ls hP hD hS hl)
theorem V_l2i {g : Gd} {X : Bd} {own : String} {cc : ByteArray} {n d mc ms cs ss pc : Nat} {ws : va_W} {L : List (Nat × Value)} {st : List Value} {x : Int64} (C : Cx g X own cc n d mc ms) (hdg : decode cc pc = .ok (.l2i, 1)) (kk : V g X cs ss ws (pc + 1) L (.int x.toInt32 :: st)) : V g X cs ss ws pc L (.long x :: st) := by
  obtain ⟨p, l, e, R, s, m, args, below, meth, c, Q, A, n'⟩ := X
  obtain ⟨hx, hb, hml, hts, hown, ⟨hK, hNK, hZS⟩, hA, hn, hd1, hd2, hd3, hd4⟩ := C
  subst hn
  intro H locs ls hP hD hS hl
  exact lv_l2i hx hb hdg rfl (kk H locs ls hP hD hS hl)
theorem V_i2c {g : Gd} {X : Bd} {own : String} {cc : ByteArray} {n d mc ms cs ss pc : Nat} {ws : va_W} {L : List (Nat × Value)} {st : List Value} {x : Int32} (C : Cx g X own cc n d mc ms) (hdg : decode cc pc = .ok (.i2c, 1)) (kk : V g X cs ss ws (pc + 1) L (.int (x.toUInt32 % 65536).toInt32 :: st)) : V g X cs ss ws pc L (.int x :: st) := by
  obtain ⟨p, l, e, R, s, m, args, below, meth, c, Q, A, n'⟩ := X
  obtain ⟨hx, hb, hml, hts, hown, ⟨hK, hNK, hZS⟩, hA, hn, hd1, hd2, hd3, hd4⟩ := C
  subst hn
  intro H locs ls hP hD hS hl
  exact lv_i2c hx hb hdg rfl (kk H locs ls hP hD hS hl)
theorem V_lushr {g : Gd} {X : Bd} {own : String} {cc : ByteArray} {n d mc ms cs ss pc : Nat} {ws : va_W} {L : List (Nat × Value)} {st : List Value} {x : Int64} {y : Int32} (C : Cx g X own cc n d mc ms) (hdg : decode cc pc = .ok (.lushr, 1)) (kk : V g X cs ss ws (pc + 1) L (.long (x.toUInt64 >>> (y.toInt64.toUInt64 &&& Int64.toUInt64 63)).toInt64 :: st)) : V g X cs ss ws pc L (.int y :: .long x :: st) := by
  obtain ⟨p, l, e, R, s, m, args, below, meth, c, Q, A, n'⟩ := X
  obtain ⟨hx, hb, hml, hts, hown, ⟨hK, hNK, hZS⟩, hA, hn, hd1, hd2, hd3, hd4⟩ := C
  subst hn
  intro H locs ls hP hD hS hl
  exact lv_lushr hx hb hdg rfl (kk H locs ls hP hD hS hl)
theorem V_lshl {g : Gd} {X : Bd} {own : String} {cc : ByteArray} {n d mc ms cs ss pc : Nat} {ws : va_W} {L : List (Nat × Value)} {st : List Value} {x : Int64} {y : Int32} (C : Cx g X own cc n d mc ms) (hdg : decode cc pc = .ok (.lshl, 1)) (kk : V g X cs ss ws (pc + 1) L (.long (x <<< (y.toInt64 &&& 63)) :: st)) : V g X cs ss ws pc L (.int y :: .long x :: st) := by
  obtain ⟨p, l, e, R, s, m, args, below, meth, c, Q, A, n'⟩ := X
  obtain ⟨hx, hb, hml, hts, hown, ⟨hK, hNK, hZS⟩, hA, hn, hd1, hd2, hd3, hd4⟩ := C
  subst hn
  intro H locs ls hP hD hS hl
  exact lv_lshl hx hb hdg rfl (kk H locs ls hP hD hS hl)
theorem V_lcmp {g : Gd} {X : Bd} {own : String} {cc : ByteArray} {n d mc ms cs ss pc : Nat} {ws : va_W} {L : List (Nat × Value)} {st : List Value} {x y : Int64} (C : Cx g X own cc n d mc ms) (hdg : decode cc pc = .ok (.lcmp, 1)) (kk : V g X cs ss ws (pc + 1) L (.int (lg_cmp x y) :: st)) : V g X cs ss ws pc L (.long y :: .long x :: st) := by
  obtain ⟨p, l, e, R, s, m, args, below, meth, c, Q, A, n'⟩ := X
  obtain ⟨hx, hb, hml, hts, hown, ⟨hK, hNK, hZS⟩, hA, hn, hd1, hd2, hd3, hd4⟩ := C
  subst hn
  intro H locs ls hP hD hS hl
  exact W.lcmp hx hb hdg (kk H locs ls hP hD hS hl)
theorem V_dup {g : Gd} {X : Bd} {own : String} {cc : ByteArray} {n d mc ms cs ss pc : Nat} {ws : va_W} {L : List (Nat × Value)} {st : List Value} {va : Value} (C : Cx g X own cc n d mc ms) (hdg : decode cc pc = .ok (.dup, 1)) (h1 : va.category = 1) (kk : V g X cs ss ws (pc + 1) L (va :: va :: st)) : V g X cs ss ws pc L (va :: st) := by
  obtain ⟨p, l, e, R, s, m, args, below, meth, c, Q, A, n'⟩ := X
  obtain ⟨hx, hb, hml, hts, hown, ⟨hK, hNK, hZS⟩, hA, hn, hd1, hd2, hd3, hd4⟩ := C
  subst hn
  intro H locs ls hP hD hS hl
  exact lv_dup hx hb hdg h1 (kk H locs ls hP hD hS hl)
theorem V_pop {g : Gd} {X : Bd} {own : String} {cc : ByteArray} {n d mc ms cs ss pc : Nat} {ws : va_W} {L : List (Nat × Value)} {st : List Value} {va : Value} (C : Cx g X own cc n d mc ms) (hdg : decode cc pc = .ok (.pop, 1)) (h1 : va.category = 1) (kk : V g X cs ss ws (pc + 1) L (st)) : V g X cs ss ws pc L (va :: st) := by
  obtain ⟨p, l, e, R, s, m, args, below, meth, c, Q, A, n'⟩ := X
  obtain ⟨hx, hb, hml, hts, hown, ⟨hK, hNK, hZS⟩, hA, hn, hd1, hd2, hd3, hd4⟩ := C
  subst hn
  intro H locs ls hP hD hS hl
  exact lv_pop hx hb hdg h1 (kk H locs ls hP hD hS hl)
theorem V_dup_x1 {g : Gd} {X : Bd} {own : String} {cc : ByteArray} {n d mc ms cs ss pc : Nat} {ws : va_W} {L : List (Nat × Value)} {st : List Value} {va vb : Value} (C : Cx g X own cc n d mc ms) (hdg : decode cc pc = .ok (.dup_x1, 1)) (h1 : va.category = 1) (h2 : vb.category = 1) (kk : V g X cs ss ws (pc + 1) L (va :: vb :: va :: st)) : V g X cs ss ws pc L (va :: vb :: st) := by
  obtain ⟨p, l, e, R, s, m, args, below, meth, c, Q, A, n'⟩ := X
  obtain ⟨hx, hb, hml, hts, hown, ⟨hK, hNK, hZS⟩, hA, hn, hd1, hd2, hd3, hd4⟩ := C
  subst hn
  intro H locs ls hP hD hS hl
  exact lv_dup_x1 hx hb hdg h1 h2 (kk H locs ls hP hD hS hl)
theorem V_dup2 {g : Gd} {X : Bd} {own : String} {cc : ByteArray} {n d mc ms cs ss pc : Nat} {ws : va_W} {L : List (Nat × Value)} {st : List Value} {va vb : Value} (C : Cx g X own cc n d mc ms) (hdg : decode cc pc = .ok (.dup2, 1)) (h1 : va.category = 1) (h2 : vb.category = 1) (kk : V g X cs ss ws (pc + 1) L (va :: vb :: va :: vb :: st)) : V g X cs ss ws pc L (va :: vb :: st) := by
  obtain ⟨p, l, e, R, s, m, args, below, meth, c, Q, A, n'⟩ := X
  obtain ⟨hx, hb, hml, hts, hown, ⟨hK, hNK, hZS⟩, hA, hn, hd1, hd2, hd3, hd4⟩ := C
  subst hn
  intro H locs ls hP hD hS hl
  exact lv_dup2_11 hx hb hdg h1 h2 (kk H locs ls hP hD hS hl)
theorem V_goto {g : Gd} {X : Bd} {own : String} {cc : ByteArray} {n d mc ms cs ss pc : Nat} {ws : va_W} {L : List (Nat × Value)} {st : List Value} {off : Int} {tgt : Nat} (C : Cx g X own cc n d mc ms) (hdg : decode cc pc = .ok (.goto off, 3)) (ht : (pc : Int) + off = (tgt : Int)) (kk : V g X cs ss ws tgt L (st)) : V g X cs ss ws pc L (st) := by
  obtain ⟨p, l, e, R, s, m, args, below, meth, c, Q, A, n'⟩ := X
  obtain ⟨hx, hb, hml, hts, hown, ⟨hK, hNK, hZS⟩, hA, hn, hd1, hd2, hd3, hd4⟩ := C
  subst hn
  intro H locs ls hP hD hS hl
  exact lv_goto hx hb hdg ht (kk H locs ls hP hD hS hl)
theorem V_if_eq {g : Gd} {X : Bd} {own : String} {cc : ByteArray} {n d mc ms cs ss pc : Nat} {ws : va_W} {L : List (Nat × Value)} {st : List Value} {x : Int32} {off : Int} {tgt : Nat} (C : Cx g X own cc n d mc ms) (hdg : decode cc pc = .ok (.ifCond .eq off, 3)) (ht : (pc : Int) + off = (tgt : Int)) (kt : x = 0 → V g X cs ss ws tgt L st) (kf : ¬ x = 0 → V g X cs ss ws (pc + 3) L st) : V g X cs ss ws pc L (.int x :: st) := by
  obtain ⟨p, l, e, R, s, m, args, below, meth, c, Q, A, n'⟩ := X
  obtain ⟨hx, hb, hml, hts, hown, ⟨hK, hNK, hZS⟩, hA, hn, hd1, hd2, hd3, hd4⟩ := C
  subst hn
  intro H locs ls hP hD hS hl
  exact lv_if_eq hx hb hdg ht (fun h => kt h H locs ls hP hD hS hl) (fun h => kf h H locs ls hP hD hS hl)
theorem V_icmp_eq {g : Gd} {X : Bd} {own : String} {cc : ByteArray} {n d mc ms cs ss pc : Nat} {ws : va_W} {L : List (Nat × Value)} {st : List Value} {x y : Int32} {off : Int} {tgt : Nat} (C : Cx g X own cc n d mc ms) (hdg : decode cc pc = .ok (.if_icmp .eq off, 3)) (ht : (pc : Int) + off = (tgt : Int)) (kt : x = y → V g X cs ss ws tgt L st) (kf : ¬ x = y → V g X cs ss ws (pc + 3) L st) : V g X cs ss ws pc L (.int y :: .int x :: st) := by
  obtain ⟨p, l, e, R, s, m, args, below, meth, c, Q, A, n'⟩ := X
  obtain ⟨hx, hb, hml, hts, hown, ⟨hK, hNK, hZS⟩, hA, hn, hd1, hd2, hd3, hd4⟩ := C
  subst hn
  intro H locs ls hP hD hS hl
  exact lv_icmp_eq hx hb hdg ht (fun h => kt h H locs ls hP hD hS hl) (fun h => kf h H locs ls hP hD hS hl)
theorem V_if_ne {g : Gd} {X : Bd} {own : String} {cc : ByteArray} {n d mc ms cs ss pc : Nat} {ws : va_W} {L : List (Nat × Value)} {st : List Value} {x : Int32} {off : Int} {tgt : Nat} (C : Cx g X own cc n d mc ms) (hdg : decode cc pc = .ok (.ifCond .ne off, 3)) (ht : (pc : Int) + off = (tgt : Int)) (kt : ¬ x = 0 → V g X cs ss ws tgt L st) (kf : x = 0 → V g X cs ss ws (pc + 3) L st) : V g X cs ss ws pc L (.int x :: st) := by
  obtain ⟨p, l, e, R, s, m, args, below, meth, c, Q, A, n'⟩ := X
  obtain ⟨hx, hb, hml, hts, hown, ⟨hK, hNK, hZS⟩, hA, hn, hd1, hd2, hd3, hd4⟩ := C
  subst hn
  intro H locs ls hP hD hS hl
  exact lv_if_ne hx hb hdg ht (fun h => kt h H locs ls hP hD hS hl) (fun h => kf h H locs ls hP hD hS hl)
theorem V_icmp_ne {g : Gd} {X : Bd} {own : String} {cc : ByteArray} {n d mc ms cs ss pc : Nat} {ws : va_W} {L : List (Nat × Value)} {st : List Value} {x y : Int32} {off : Int} {tgt : Nat} (C : Cx g X own cc n d mc ms) (hdg : decode cc pc = .ok (.if_icmp .ne off, 3)) (ht : (pc : Int) + off = (tgt : Int)) (kt : ¬ x = y → V g X cs ss ws tgt L st) (kf : x = y → V g X cs ss ws (pc + 3) L st) : V g X cs ss ws pc L (.int y :: .int x :: st) := by
  obtain ⟨p, l, e, R, s, m, args, below, meth, c, Q, A, n'⟩ := X
  obtain ⟨hx, hb, hml, hts, hown, ⟨hK, hNK, hZS⟩, hA, hn, hd1, hd2, hd3, hd4⟩ := C
  subst hn
  intro H locs ls hP hD hS hl
  exact lv_icmp_ne hx hb hdg ht (fun h => kt h H locs ls hP hD hS hl) (fun h => kf h H locs ls hP hD hS hl)
theorem V_if_lt {g : Gd} {X : Bd} {own : String} {cc : ByteArray} {n d mc ms cs ss pc : Nat} {ws : va_W} {L : List (Nat × Value)} {st : List Value} {x : Int32} {off : Int} {tgt : Nat} (C : Cx g X own cc n d mc ms) (hdg : decode cc pc = .ok (.ifCond .lt off, 3)) (ht : (pc : Int) + off = (tgt : Int)) (kt : x < 0 → V g X cs ss ws tgt L st) (kf : ¬ x < 0 → V g X cs ss ws (pc + 3) L st) : V g X cs ss ws pc L (.int x :: st) := by
  obtain ⟨p, l, e, R, s, m, args, below, meth, c, Q, A, n'⟩ := X
  obtain ⟨hx, hb, hml, hts, hown, ⟨hK, hNK, hZS⟩, hA, hn, hd1, hd2, hd3, hd4⟩ := C
  subst hn
  intro H locs ls hP hD hS hl
  exact lv_if_lt hx hb hdg ht (fun h => kt h H locs ls hP hD hS hl) (fun h => kf h H locs ls hP hD hS hl)
theorem V_icmp_lt {g : Gd} {X : Bd} {own : String} {cc : ByteArray} {n d mc ms cs ss pc : Nat} {ws : va_W} {L : List (Nat × Value)} {st : List Value} {x y : Int32} {off : Int} {tgt : Nat} (C : Cx g X own cc n d mc ms) (hdg : decode cc pc = .ok (.if_icmp .lt off, 3)) (ht : (pc : Int) + off = (tgt : Int)) (kt : x < y → V g X cs ss ws tgt L st) (kf : ¬ x < y → V g X cs ss ws (pc + 3) L st) : V g X cs ss ws pc L (.int y :: .int x :: st) := by
  obtain ⟨p, l, e, R, s, m, args, below, meth, c, Q, A, n'⟩ := X
  obtain ⟨hx, hb, hml, hts, hown, ⟨hK, hNK, hZS⟩, hA, hn, hd1, hd2, hd3, hd4⟩ := C
  subst hn
  intro H locs ls hP hD hS hl
  exact lv_icmp_lt hx hb hdg ht (fun h => kt h H locs ls hP hD hS hl) (fun h => kf h H locs ls hP hD hS hl)
theorem V_if_ge {g : Gd} {X : Bd} {own : String} {cc : ByteArray} {n d mc ms cs ss pc : Nat} {ws : va_W} {L : List (Nat × Value)} {st : List Value} {x : Int32} {off : Int} {tgt : Nat} (C : Cx g X own cc n d mc ms) (hdg : decode cc pc = .ok (.ifCond .ge off, 3)) (ht : (pc : Int) + off = (tgt : Int)) (kt : 0 ≤ x → V g X cs ss ws tgt L st) (kf : ¬ 0 ≤ x → V g X cs ss ws (pc + 3) L st) : V g X cs ss ws pc L (.int x :: st) := by
  obtain ⟨p, l, e, R, s, m, args, below, meth, c, Q, A, n'⟩ := X
  obtain ⟨hx, hb, hml, hts, hown, ⟨hK, hNK, hZS⟩, hA, hn, hd1, hd2, hd3, hd4⟩ := C
  subst hn
  intro H locs ls hP hD hS hl
  exact lv_if_ge hx hb hdg ht (fun h => kt h H locs ls hP hD hS hl) (fun h => kf h H locs ls hP hD hS hl)
theorem V_icmp_ge {g : Gd} {X : Bd} {own : String} {cc : ByteArray} {n d mc ms cs ss pc : Nat} {ws : va_W} {L : List (Nat × Value)} {st : List Value} {x y : Int32} {off : Int} {tgt : Nat} (C : Cx g X own cc n d mc ms) (hdg : decode cc pc = .ok (.if_icmp .ge off, 3)) (ht : (pc : Int) + off = (tgt : Int)) (kt : y ≤ x → V g X cs ss ws tgt L st) (kf : ¬ y ≤ x → V g X cs ss ws (pc + 3) L st) : V g X cs ss ws pc L (.int y :: .int x :: st) := by
  obtain ⟨p, l, e, R, s, m, args, below, meth, c, Q, A, n'⟩ := X
  obtain ⟨hx, hb, hml, hts, hown, ⟨hK, hNK, hZS⟩, hA, hn, hd1, hd2, hd3, hd4⟩ := C
  subst hn
  intro H locs ls hP hD hS hl
  exact lv_icmp_ge hx hb hdg ht (fun h => kt h H locs ls hP hD hS hl) (fun h => kf h H locs ls hP hD hS hl)
theorem V_if_gt {g : Gd} {X : Bd} {own : String} {cc : ByteArray} {n d mc ms cs ss pc : Nat} {ws : va_W} {L : List (Nat × Value)} {st : List Value} {x : Int32} {off : Int} {tgt : Nat} (C : Cx g X own cc n d mc ms) (hdg : decode cc pc = .ok (.ifCond .gt off, 3)) (ht : (pc : Int) + off = (tgt : Int)) (kt : 0 < x → V g X cs ss ws tgt L st) (kf : ¬ 0 < x → V g X cs ss ws (pc + 3) L st) : V g X cs ss ws pc L (.int x :: st) := by
  obtain ⟨p, l, e, R, s, m, args, below, meth, c, Q, A, n'⟩ := X
  obtain ⟨hx, hb, hml, hts, hown, ⟨hK, hNK, hZS⟩, hA, hn, hd1, hd2, hd3, hd4⟩ := C
  subst hn
  intro H locs ls hP hD hS hl
  exact lv_if_gt hx hb hdg ht (fun h => kt h H locs ls hP hD hS hl) (fun h => kf h H locs ls hP hD hS hl)
theorem V_icmp_gt {g : Gd} {X : Bd} {own : String} {cc : ByteArray} {n d mc ms cs ss pc : Nat} {ws : va_W} {L : List (Nat × Value)} {st : List Value} {x y : Int32} {off : Int} {tgt : Nat} (C : Cx g X own cc n d mc ms) (hdg : decode cc pc = .ok (.if_icmp .gt off, 3)) (ht : (pc : Int) + off = (tgt : Int)) (kt : y < x → V g X cs ss ws tgt L st) (kf : ¬ y < x → V g X cs ss ws (pc + 3) L st) : V g X cs ss ws pc L (.int y :: .int x :: st) := by
  obtain ⟨p, l, e, R, s, m, args, below, meth, c, Q, A, n'⟩ := X
  obtain ⟨hx, hb, hml, hts, hown, ⟨hK, hNK, hZS⟩, hA, hn, hd1, hd2, hd3, hd4⟩ := C
  subst hn
  intro H locs ls hP hD hS hl
  exact lv_icmp_gt hx hb hdg ht (fun h => kt h H locs ls hP hD hS hl) (fun h => kf h H locs ls hP hD hS hl)
theorem V_if_le {g : Gd} {X : Bd} {own : String} {cc : ByteArray} {n d mc ms cs ss pc : Nat} {ws : va_W} {L : List (Nat × Value)} {st : List Value} {x : Int32} {off : Int} {tgt : Nat} (C : Cx g X own cc n d mc ms) (hdg : decode cc pc = .ok (.ifCond .le off, 3)) (ht : (pc : Int) + off = (tgt : Int)) (kt : x ≤ 0 → V g X cs ss ws tgt L st) (kf : ¬ x ≤ 0 → V g X cs ss ws (pc + 3) L st) : V g X cs ss ws pc L (.int x :: st) := by
  obtain ⟨p, l, e, R, s, m, args, below, meth, c, Q, A, n'⟩ := X
  obtain ⟨hx, hb, hml, hts, hown, ⟨hK, hNK, hZS⟩, hA, hn, hd1, hd2, hd3, hd4⟩ := C
  subst hn
  intro H locs ls hP hD hS hl
  exact lv_if_le hx hb hdg ht (fun h => kt h H locs ls hP hD hS hl) (fun h => kf h H locs ls hP hD hS hl)
theorem V_icmp_le {g : Gd} {X : Bd} {own : String} {cc : ByteArray} {n d mc ms cs ss pc : Nat} {ws : va_W} {L : List (Nat × Value)} {st : List Value} {x y : Int32} {off : Int} {tgt : Nat} (C : Cx g X own cc n d mc ms) (hdg : decode cc pc = .ok (.if_icmp .le off, 3)) (ht : (pc : Int) + off = (tgt : Int)) (kt : x ≤ y → V g X cs ss ws tgt L st) (kf : ¬ x ≤ y → V g X cs ss ws (pc + 3) L st) : V g X cs ss ws pc L (.int y :: .int x :: st) := by
  obtain ⟨p, l, e, R, s, m, args, below, meth, c, Q, A, n'⟩ := X
  obtain ⟨hx, hb, hml, hts, hown, ⟨hK, hNK, hZS⟩, hA, hn, hd1, hd2, hd3, hd4⟩ := C
  subst hn
  intro H locs ls hP hD hS hl
  exact lv_icmp_le hx hb hdg ht (fun h => kt h H locs ls hP hD hS hl) (fun h => kf h H locs ls hP hD hS hl)
theorem V_istore_n {g : Gd} {X : Bd} {own : String} {cc : ByteArray} {n d mc ms cs ss pc : Nat} {ws : va_W} {L : List (Nat × Value)} {st : List Value} {k : Fin 4} {i : Nat} {x : Int32} {L2 : List (Nat × Value)} (C : Cx g X own cc n d mc ms) (hdg : decode cc pc = .ok (.istore_n k, 1)) (hi : (k : Nat) = i) (hn2 : i < n) (hl2 : (i, .int x) :: L.filter (fun q => !(q.1 == i) && !(q.1 + 1 == i && q.2.category == 2)) = L2) (kk : V g X cs ss ws (pc + 1) L2 st) : V g X cs ss ws pc L (.int x :: st) := by
  obtain ⟨p, l, e, R, s, m, args, below, meth, c, Q, A, n'⟩ := X
  obtain ⟨hx, hb, hml, hts, hown, ⟨hK, hNK, hZS⟩, hA, hn, hd1, hd2, hd3, hd4⟩ := C
  subst hn
  intro H locs ls hP hD hS hl
  exact lv_istore_n hx hb hdg hi hl hn2 hl2 (fun ls2 hl3 => kk H locs ls2 hP hD hS hl3)
theorem V_istore {g : Gd} {X : Bd} {own : String} {cc : ByteArray} {n d mc ms cs ss pc : Nat} {ws : va_W} {L : List (Nat × Value)} {st : List Value} {i : Nat} {x : Int32} {L2 : List (Nat × Value)} (C : Cx g X own cc n d mc ms) (hdg : decode cc pc = .ok (.istore i, 2)) (hn2 : i < n) (hl2 : (i, .int x) :: L.filter (fun q => !(q.1 == i) && !(q.1 + 1 == i && q.2.category == 2)) = L2) (kk : V g X cs ss ws (pc + 2) L2 st) : V g X cs ss ws pc L (.int x :: st) := by
  obtain ⟨p, l, e, R, s, m, args, below, meth, c, Q, A, n'⟩ := X
  obtain ⟨hx, hb, hml, hts, hown, ⟨hK, hNK, hZS⟩, hA, hn, hd1, hd2, hd3, hd4⟩ := C
  subst hn
  intro H locs ls hP hD hS hl
  exact lv_istore hx hb hdg hl hn2 hl2 (fun ls2 hl3 => kk H locs ls2 hP hD hS hl3)
theorem V_astore_n {g : Gd} {X : Bd} {own : String} {cc : ByteArray} {n d mc ms cs ss pc : Nat} {ws : va_W} {L : List (Nat × Value)} {st : List Value} {k : Fin 4} {i : Nat} {x : Nat} {L2 : List (Nat × Value)} (C : Cx g X own cc n d mc ms) (hdg : decode cc pc = .ok (.astore_n k, 1)) (hi : (k : Nat) = i) (hn2 : i < n) (hl2 : (i, .ref x) :: L.filter (fun q => !(q.1 == i) && !(q.1 + 1 == i && q.2.category == 2)) = L2) (kk : V g X cs ss ws (pc + 1) L2 st) : V g X cs ss ws pc L (.ref x :: st) := by
  obtain ⟨p, l, e, R, s, m, args, below, meth, c, Q, A, n'⟩ := X
  obtain ⟨hx, hb, hml, hts, hown, ⟨hK, hNK, hZS⟩, hA, hn, hd1, hd2, hd3, hd4⟩ := C
  subst hn
  intro H locs ls hP hD hS hl
  exact lv_astore_n hx hb hdg hi hl hn2 hl2 (fun ls2 hl3 => kk H locs ls2 hP hD hS hl3)
theorem V_astore {g : Gd} {X : Bd} {own : String} {cc : ByteArray} {n d mc ms cs ss pc : Nat} {ws : va_W} {L : List (Nat × Value)} {st : List Value} {i : Nat} {x : Nat} {L2 : List (Nat × Value)} (C : Cx g X own cc n d mc ms) (hdg : decode cc pc = .ok (.astore i, 2)) (hn2 : i < n) (hl2 : (i, .ref x) :: L.filter (fun q => !(q.1 == i) && !(q.1 + 1 == i && q.2.category == 2)) = L2) (kk : V g X cs ss ws (pc + 2) L2 st) : V g X cs ss ws pc L (.ref x :: st) := by
  obtain ⟨p, l, e, R, s, m, args, below, meth, c, Q, A, n'⟩ := X
  obtain ⟨hx, hb, hml, hts, hown, ⟨hK, hNK, hZS⟩, hA, hn, hd1, hd2, hd3, hd4⟩ := C
  subst hn
  intro H locs ls hP hD hS hl
  exact lv_astore hx hb hdg hl hn2 hl2 (fun ls2 hl3 => kk H locs ls2 hP hD hS hl3)
theorem V_lstore_n {g : Gd} {X : Bd} {own : String} {cc : ByteArray} {n d mc ms cs ss pc : Nat} {ws : va_W} {L : List (Nat × Value)} {st : List Value} {k : Fin 4} {i : Nat} {x : Int64} {L2 : List (Nat × Value)} (C : Cx g X own cc n d mc ms) (hdg : decode cc pc = .ok (.lstore_n k, 1)) (hi : (k : Nat) = i) (hn2 : i + 1 < n) (hl2 : (i, .long x) :: L.filter (fun q => !(q.1 == i) && (!(q.1 == i + 1) && !(q.1 + 1 == i && q.2.category == 2))) = L2) (kk : V g X cs ss ws (pc + 1) L2 st) : V g X cs ss ws pc L (.long x :: st) := by
  obtain ⟨p, l, e, R, s, m, args, below, meth, c, Q, A, n'⟩ := X
  obtain ⟨hx, hb, hml, hts, hown, ⟨hK, hNK, hZS⟩, hA, hn, hd1, hd2, hd3, hd4⟩ := C
  subst hn
  intro H locs ls hP hD hS hl
  exact lv_lstore_n hx hb hdg hi hl hn2 hl2 (fun ls2 hl3 => kk H locs ls2 hP hD hS hl3)
theorem V_lstore {g : Gd} {X : Bd} {own : String} {cc : ByteArray} {n d mc ms cs ss pc : Nat} {ws : va_W} {L : List (Nat × Value)} {st : List Value} {i : Nat} {x : Int64} {L2 : List (Nat × Value)} (C : Cx g X own cc n d mc ms) (hdg : decode cc pc = .ok (.lstore i, 2)) (hn2 : i + 1 < n) (hl2 : (i, .long x) :: L.filter (fun q => !(q.1 == i) && (!(q.1 == i + 1) && !(q.1 + 1 == i && q.2.category == 2))) = L2) (kk : V g X cs ss ws (pc + 2) L2 st) : V g X cs ss ws pc L (.long x :: st) := by
  obtain ⟨p, l, e, R, s, m, args, below, meth, c, Q, A, n'⟩ := X
  obtain ⟨hx, hb, hml, hts, hown, ⟨hK, hNK, hZS⟩, hA, hn, hd1, hd2, hd3, hd4⟩ := C
  subst hn
  intro H locs ls hP hD hS hl
  exact lv_lstore hx hb hdg hl hn2 hl2 (fun ls2 hl3 => kk H locs ls2 hP hD hS hl3)
theorem V_iinc {g : Gd} {X : Bd} {own : String} {cc : ByteArray} {n d mc ms cs ss pc : Nat} {ws : va_W} {L : List (Nat × Value)} {st : List Value} {i : Nat} {n0 : Int} {x v : Int32} {L2 : List (Nat × Value)} (C : Cx g X own cc n d mc ms) (k : Nat) (hdg : decode cc pc = .ok (.iinc i n0, 3)) (hk : L[k]? = some (i, .int x)) (hv : x + Int32.ofInt n0 = v) (hn2 : i < n) (hl2 : (i, .int v) :: L.filter (fun q => !(q.1 == i) && !(q.1 + 1 == i && q.2.category == 2)) = L2) (kk : V g X cs ss ws (pc + 3) L2 st) : V g X cs ss ws pc L st := by
  obtain ⟨p, l, e, R, s, m, args, below, meth, c, Q, A, n'⟩ := X
  obtain ⟨hx, hb, hml, hts, hown, ⟨hK, hNK, hZS⟩, hA, hn, hd1, hd2, hd3, hd4⟩ := C
  subst hn
  intro H locs ls hP hD hS hl
  exact lv_iinc hx hb hdg hl hk hv hn2 hl2 (fun ls2 hl3 => kk H locs ls2 hP hD hS hl3)
theorem V_ldc {g : Gd} {X : Bd} {own : String} {cc : ByteArray} {n d mc ms cs ss pc : Nat} {ws : va_W} {L : List (Nat × Value)} {st : List Value} {index : Nat} {v : Int32} (C : Cx g X own cc n d mc ms) (hc : Cond.constant own index v ∈ tg) (hdg : decode cc pc = .ok (.ldc index, 2)) (kk : V g X cs ss ws (pc + 2) L (.int v :: st)) : V g X cs ss ws pc L (st) := by
  obtain ⟨p, l, e, R, s, m, args, below, meth, c, Q, A, n'⟩ := X
  obtain ⟨hx, hb, hml, hts, hown, ⟨hK, hNK, hZS⟩, hA, hn, hd1, hd2, hd3, hd4⟩ := C
  subst hn
  intro H locs ls hP hD hS hl
  exact lv_ldc hx hb hown (hts _ hc) hdg (kk H locs ls hP hD hS hl)
theorem V_ldc2 {g : Gd} {X : Bd} {own : String} {cc : ByteArray} {n d mc ms cs ss pc : Nat} {ws : va_W} {L : List (Nat × Value)} {st : List Value} {index : Nat} {v : Int64} (C : Cx g X own cc n d mc ms) (hc : Cond.constantLong own index v ∈ tg) (hdg : decode cc pc = .ok (.ldc2_w index, 3)) (kk : V g X cs ss ws (pc + 3) L (.long v :: st)) : V g X cs ss ws pc L (st) := by
  obtain ⟨p, l, e, R, s, m, args, below, meth, c, Q, A, n'⟩ := X
  obtain ⟨hx, hb, hml, hts, hown, ⟨hK, hNK, hZS⟩, hA, hn, hd1, hd2, hd3, hd4⟩ := C
  subst hn
  intro H locs ls hP hD hS hl
  exact lv_ldc2 hx hb hown (hts _ hc) hdg (kk H locs ls hP hD hS hl)
theorem V_locs {g : Gd} {X : Bd} {cs ss pc : Nat} {ws : va_W} {L : List (Nat × Value)} {st : List Value} {L2 : List (Nat × Value)} (ks : List Nat) (hl2 : lv_pick L ks = L2) (kk : V g X cs ss ws pc L2 st) : V g X cs ss ws pc L st := by
  obtain ⟨p, l, e, R, s, m, args, below, meth, c, Q, A, n'⟩ := X
  intro H locs ls hP hD hS hl
  exact kk H locs ls hP hD hS (lv_sub hl ks hl2)
theorem V_perm {g : Gd} {X : Bd} {cs ss pc : Nat} {ws : va_W} {L : List (Nat × Value)} {st : List Value} {ws2 : va_W} (is : List Nat) (hn2 : va_nd is = true) (hs : is.map (fun i => ws[i]?) = ws2.map some) (kk : V g X cs ss ws2 pc L st) : V g X cs ss ws pc L st := by
  obtain ⟨p, l, e, R, s, m, args, below, meth, c, Q, A, n'⟩ := X
  intro H locs ls hP hD hS hl
  refine kk H locs ls (hP.sub is ?_) (hD.sub is hn2 hs) hS hl
  have h2 := congrArg (List.filterMap id) hs
  simpa [List.filterMap_map, Function.comp_def] using h2
theorem V_to {g : Gd} {X : Bd} {cs ss pc : Nat} {ws : va_W} {L : List (Nat × Value)} {st : List Value} {ws2 : va_W} (kk : V g X cs ss ws2 pc L st) (h : ws = ws2) : V g X cs ss ws pc L st := by
  subst h
  exact kk
theorem V_wid {g : Gd} {X : Bd} {cs ss pc : Nat} {ws : va_W} {L : List (Nat × Value)} {st : List Value} {k n2 : Nat} (h1 : cs ≤ k) (h2 : ss ≤ n2) (kk : V g X k n2 ws pc L st) : V g X cs ss ws pc L st := by
  obtain ⟨p, l, e, R, s, m, args, below, meth, c, Q, A, n'⟩ := X
  intro H locs ls hP hD hS hl
  exact W.widen h1 h2 (kk H locs ls hP hD hS hl)
theorem V_ev {g : Gd} {X : Bd} {cs ss pc : Nat} {ws : va_W} {L : List (Nat × Value)} {st : List Value} {x y : Int32} (h : x = y) (kk : V g X cs ss ws pc L (.int y :: st)) : V g X cs ss ws pc L (.int x :: st) := by
  subst h
  exact kk
theorem cell_ext (cA : ClassId) (n : Nat) {f f2 : Nat → Int32} (h : ∀ j, j < n → f j = f2 j) : vp_cell cA (n, .inl f) = vp_cell cA (n, .inl f2) := by
  rw [vp_cell_i, vp_cell_i]
  unfold arrV
  congr 1
  apply Array.ext
  · simp
  · intro i h1 h2
    have hi : i < n := by simpa using h1
    simp [h i hi]
theorem V_ext {g : Gd} {X : Bd} {cs ss pc : Nat} {ws : va_W} {L : List (Nat × Value)} {st : List Value} {a nn : Nat} {cA : ClassId} {f f2 : Nat → Int32} {ws2 : va_W} (q0 : Nat) (he : ws[q0]? = some (a, .inl (cA, nn, .inl f))) (h : ∀ j, j < nn → f j = f2 j) (hw : ws.set q0 (a, .inl (cA, nn, .inl f2)) = ws2) (kk : V g X cs ss ws2 pc L st) : V g X cs ss ws pc L st := by
  obtain ⟨p, l, e, R, s, m, args, below, meth, c, Q, A, n'⟩ := X
  subst hw
  intro H locs ls hP hD hS hl
  refine kk H locs ls (hP.set hD he ?_ (fun _ _ => rfl)) (hD.set he) hS hl
  show H[a]? = some (vp_cell cA (nn, .inl f2))
  rw [← cell_ext cA nn h]
  exact hP q0 _ he
theorem V_get {g : Gd} {X : Bd} {own : String} {cc : ByteArray} {n d mc ms cs ss pc : Nat} {ws : va_W} {L : List (Nat × Value)} {st : List Value} {ref Cn : String} {T : u_T} {N ci index a : Nat} {fs : List Value} {v : Value} (C : Cx g X own cc n d mc ms) (q0 : Nat) (he : ws[q0]? = some (a, .inr (ci, fs))) (hc : vwCl[ci]? = some (Cn, T, N)) (hin2 : ∀ w ∈ u_ws Cn T N, w ∈ tg) (k : Nat) (hk : k < N) (hlink : Cond.fieldLink own index ref (T k).2.1 (T k).2.2.1 ∈ tg) (hr : ref = (T k).1) (hv : fs[k]? = some v) (hdg : decode cc pc = .ok (.getfield index, 3)) (kk : V g X cs ss ws (pc + 3) L (v :: st)) : V g X cs ss ws pc L (.ref a :: st) := by
  obtain ⟨p, l, e, R, s, m, args, below, meth, c, Q, A, n'⟩ := X
  obtain ⟨hx, hb, hml, hts, hown, ⟨hK, hNK, hZS⟩, hA, hn, hd1, hd2, hd3, hd4⟩ := C
  subst hn
  intro H locs ls hP hD hS hl
  exact va_get hx hb hts hin2 hown hK hP q0 he hc k hk (hts _ hlink) (fun x h9 => by rw [hr]; exact h9) hv hdg (kk H locs ls hP hD hS hl)
theorem V_put {g : Gd} {X : Bd} {own : String} {cc : ByteArray} {n d mc ms cs ss pc : Nat} {ws : va_W} {L : List (Nat × Value)} {st : List Value} {ref Cn : String} {T : u_T} {N ci index a : Nat} {fs : List Value} {v : Value} {ty : FieldType} {ws2 : va_W} (C : Cx g X own cc n d mc ms) (q0 : Nat) (he : ws[q0]? = some (a, .inr (ci, fs))) (hc : vwCl[ci]? = some (Cn, T, N)) (hin2 : ∀ w ∈ u_ws Cn T N, w ∈ tg) (ty0 : Nat → FieldType) (hty : ∀ k, k < N → parseFieldDescriptor (T k).2.2.1 = some (ty0 k)) (hnm : ∀ a, a < N → ∀ b, b < N → a ≠ b → (T a).2.1 ≠ (T b).2.1) (k : Nat) (hk : k < N) (hlink : Cond.fieldLink own index ref (T k).2.1 (T k).2.2.1 ∈ tg) (hr : ref = (T k).1) (hfin : (T k).2.2.2 = false) (hd0 : parseFieldDescriptor (T k).2.2.1 = some ty) (hnr : narrow ty v = v) (hfit : fits ty v = true) (hlen : k < fs.length) (hdg : decode cc pc = .ok (.putfield index, 3)) (hw : ws.set q0 (a, .inr (ci, fs.set k v)) = ws2) (kk : V g X cs ss ws2 (pc + 3) L st) : V g X cs ss ws pc L (v :: .ref a :: st) := by
  obtain ⟨p, l, e, R, s, m, args, below, meth, c, Q, A, n'⟩ := X
  obtain ⟨hx, hb, hml, hts, hown, ⟨hK, hNK, hZS⟩, hA, hn, hd1, hd2, hd3, hd4⟩ := C
  subst hn
  subst hw
  intro H locs ls hP hD hS hl
  exact va_put hx hb hts hin2 ty0 hty hnm hown hK hP hD hS q0 he hc k hk (hts _ hlink) (fun x h9 => by rw [hr]; exact h9) hfin hd0 hnr hfit hlen hdg (fun H1 locs1 hP1 hD1 hS1 => kk H1 locs1 ls hP1 hD1 hS1 hl)
theorem V_putF {g : Gd} {X : Bd} {own : String} {cc : ByteArray} {n d mc ms cs ss pc : Nat} {ws : va_W} {L : List (Nat × Value)} {st : List Value} {ref Cn : String} {T : u_T} {N ci index a : Nat} {fs : List Value} {v : Value} {ty : FieldType} {ws2 : va_W} (C : Cx g X own cc n d mc ms) (hI : isI X) (q0 : Nat) (he : ws[q0]? = some (a, .inr (ci, fs))) (hc : vwCl[ci]? = some (Cn, T, N)) (hin2 : ∀ w ∈ u_ws Cn T N, w ∈ tg) (ty0 : Nat → FieldType) (hty : ∀ k, k < N → parseFieldDescriptor (T k).2.2.1 = some (ty0 k)) (hnm : ∀ a, a < N → ∀ b, b < N → a ≠ b → (T a).2.1 ≠ (T b).2.1) (k : Nat) (hk : k < N) (hlink : Cond.fieldLink own index ref (T k).2.1 (T k).2.2.1 ∈ tg) (hr : ref = (T k).1) (hfin : (T k).2.2.2 = true) (hdecl : (T k).1 = own) (hd0 : parseFieldDescriptor (T k).2.2.1 = some ty) (hnr : narrow ty v = v) (hfit : fits ty v = true) (hlen : k < fs.length) (hdg : decode cc pc = .ok (.putfield index, 3)) (hw : ws.set q0 (a, .inr (ci, fs.set k v)) = ws2) (kk : V g X cs ss ws2 (pc + 3) L st) : V g X cs ss ws pc L (v :: .ref a :: st) := by
  obtain ⟨p, l, e, R, s, m, args, below, meth, c, Q, A, n'⟩ := X
  obtain ⟨hx, hb, hml, hts, hown, ⟨hK, hNK, hZS⟩, hA, hn, hd1, hd2, hd3, hd4⟩ := C
  subst hn
  subst hw
  intro H locs ls hP hD hS hl
  exact va_putF hx hb hts hin2 ty0 hty hnm hown hK hP hD hS q0 he hc k hk (hts _ hlink) (fun x h9 => by rw [hr]; exact h9) hfin hI hdecl hd0 hnr hfit hlen hdg (fun H1 locs1 hP1 hD1 hS1 => kk H1 locs1 ls hP1 hD1 hS1 hl)
def ix (i : Int32) (k nn : Nat) : Prop := vp_in i nn ∧ i.toNatClampNeg = k
theorem ix_nI {k nn : Nat} (h : k < nn) (h2 : nn < 2 ^ 31) : ix (nI k) k nn := ⟨vp_in_nI h h2, nI_clamp (by omega)⟩
theorem ix_of {i : Int32} {nn : Nat} (h : vp_in i nn) : ix i i.toNatClampNeg nn := ⟨h, rfl⟩
theorem V_iald {g : Gd} {X : Bd} {own : String} {cc : ByteArray} {n d mc ms cs ss pc : Nat} {ws : va_W} {L : List (Nat × Value)} {st : List Value} {a nn k : Nat} {f : Nat → Int32} {i : Int32} (C : Cx g X own cc n d mc ms) (q0 : Nat) (he : ws[q0]? = some (a, .inl (gI g, nn, .inl f))) (hin2 : ix i k nn) (hdg : decode cc pc = .ok (.iaload, 1)) (kk : V g X cs ss ws (pc + 1) L (.int (f k) :: st)) : V g X cs ss ws pc L (.int i :: .ref a :: st) := by
  obtain ⟨p, l, e, R, s, m, args, below, meth, c, Q, A, n'⟩ := X
  obtain ⟨hx, hb, hml, hts, hown, ⟨hK, hNK, hZS⟩, hA, hn, hd1, hd2, hd3, hd4⟩ := C
  subst hn
  intro H locs ls hP hD hS hl
  obtain ⟨hin3, rfl⟩ := hin2
  exact va_iald hx hb hK hP q0 0 he rfl hin3 hdg (kk H locs ls hP hD hS hl)
theorem V_cald {g : Gd} {X : Bd} {own : String} {cc : ByteArray} {n d mc ms cs ss pc : Nat} {ws : va_W} {L : List (Nat × Value)} {st : List Value} {a nn k : Nat} {f : Nat → Int32} {i : Int32} (C : Cx g X own cc n d mc ms) (q0 : Nat) (he : ws[q0]? = some (a, .inl (gC g, nn, .inl f))) (hin2 : ix i k nn) (hdg : decode cc pc = .ok (.caload, 1)) (kk : V g X cs ss ws (pc + 1) L (.int (f k) :: st)) : V g X cs ss ws pc L (.int i :: .ref a :: st) := by
  obtain ⟨p, l, e, R, s, m, args, below, meth, c, Q, A, n'⟩ := X
  obtain ⟨hx, hb, hml, hts, hown, ⟨hK, hNK, hZS⟩, hA, hn, hd1, hd2, hd3, hd4⟩ := C
  subst hn
  intro H locs ls hP hD hS hl
  obtain ⟨hin3, rfl⟩ := hin2
  exact va_cald hx hb hK hP q0 1 he rfl hin3 hdg (kk H locs ls hP hD hS hl)
theorem V_zald {g : Gd} {X : Bd} {own : String} {cc : ByteArray} {n d mc ms cs ss pc : Nat} {ws : va_W} {L : List (Nat × Value)} {st : List Value} {a nn k : Nat} {f : Nat → Int32} {i : Int32} (C : Cx g X own cc n d mc ms) (q0 : Nat) (he : ws[q0]? = some (a, .inl (gZ g, nn, .inl f))) (hin2 : ix i k nn) (hdg : decode cc pc = .ok (.baload, 1)) (kk : V g X cs ss ws (pc + 1) L (.int (f k) :: st)) : V g X cs ss ws pc L (.int i :: .ref a :: st) := by
  obtain ⟨p, l, e, R, s, m, args, below, meth, c, Q, A, n'⟩ := X
  obtain ⟨hx, hb, hml, hts, hown, ⟨hK, hNK, hZS⟩, hA, hn, hd1, hd2, hd3, hd4⟩ := C
  subst hn
  intro H locs ls hP hD hS hl
  obtain ⟨hin3, rfl⟩ := hin2
  exact va_zald hx hb hK hP q0 2 he rfl hin3 hdg (kk H locs ls hP hD hS hl)
theorem V_iast {g : Gd} {X : Bd} {own : String} {cc : ByteArray} {n d mc ms cs ss pc : Nat} {ws : va_W} {L : List (Nat × Value)} {st : List Value} {a nn k : Nat} {f : Nat → Int32} {i x : Int32} {ws2 : va_W} (C : Cx g X own cc n d mc ms) (q0 : Nat) (he : ws[q0]? = some (a, .inl (gI g, nn, .inl f))) (hin2 : ix i k nn) (hdg : decode cc pc = .ok (.iastore, 1)) (hw : ws.set q0 (a, .inl (gI g, nn, .inl (upd f k x))) = ws2) (kk : V g X cs ss ws2 (pc + 1) L st) : V g X cs ss ws pc L (.int x :: .int i :: .ref a :: st) := by
  obtain ⟨p, l, e, R, s, m, args, below, meth, c, Q, A, n'⟩ := X
  obtain ⟨hx, hb, hml, hts, hown, ⟨hK, hNK, hZS⟩, hA, hn, hd1, hd2, hd3, hd4⟩ := C
  subst hn
  subst hw
  intro H locs ls hP hD hS hl
  obtain ⟨hin3, rfl⟩ := hin2
  exact va_iast hx hb hK hP hD hS q0 0 he rfl hin3 hdg (fun H1 locs1 hP1 hD1 hS1 => kk H1 locs1 ls hP1 hD1 hS1 hl)
theorem V_cast {g : Gd} {X : Bd} {own : String} {cc : ByteArray} {n d mc ms cs ss pc : Nat} {ws : va_W} {L : List (Nat × Value)} {st : List Value} {a nn k : Nat} {f : Nat → Int32} {i x : Int32} {ws2 : va_W} (C : Cx g X own cc n d mc ms) (q0 : Nat) (he : ws[q0]? = some (a, .inl (gC g, nn, .inl f))) (hin2 : ix i k nn) (hdg : decode cc pc = .ok (.castore, 1)) (hw : ws.set q0 (a, .inl (gC g, nn, .inl (upd f k (vp_nar .char x)))) = ws2) (kk : V g X cs ss ws2 (pc + 1) L st) : V g X cs ss ws pc L (.int x :: .int i :: .ref a :: st) := by
  obtain ⟨p, l, e, R, s, m, args, below, meth, c, Q, A, n'⟩ := X
  obtain ⟨hx, hb, hml, hts, hown, ⟨hK, hNK, hZS⟩, hA, hn, hd1, hd2, hd3, hd4⟩ := C
  subst hn
  subst hw
  intro H locs ls hP hD hS hl
  obtain ⟨hin3, rfl⟩ := hin2
  exact va_cast hx hb hK hP hD hS q0 1 he rfl hin3 hdg (fun H1 locs1 hP1 hD1 hS1 => kk H1 locs1 ls hP1 hD1 hS1 hl)
theorem V_zast {g : Gd} {X : Bd} {own : String} {cc : ByteArray} {n d mc ms cs ss pc : Nat} {ws : va_W} {L : List (Nat × Value)} {st : List Value} {a nn k : Nat} {f : Nat → Int32} {i x : Int32} {ws2 : va_W} (C : Cx g X own cc n d mc ms) (q0 : Nat) (he : ws[q0]? = some (a, .inl (gZ g, nn, .inl f))) (hin2 : ix i k nn) (hdg : decode cc pc = .ok (.bastore, 1)) (hw : ws.set q0 (a, .inl (gZ g, nn, .inl (upd f k (vp_nar .boolean x)))) = ws2) (kk : V g X cs ss ws2 (pc + 1) L st) : V g X cs ss ws pc L (.int x :: .int i :: .ref a :: st) := by
  obtain ⟨p, l, e, R, s, m, args, below, meth, c, Q, A, n'⟩ := X
  obtain ⟨hx, hb, hml, hts, hown, ⟨hK, hNK, hZS⟩, hA, hn, hd1, hd2, hd3, hd4⟩ := C
  subst hn
  subst hw
  intro H locs ls hP hD hS hl
  obtain ⟨hin3, rfl⟩ := hin2
  exact va_zast hx hb hK hP hD hS q0 2 he rfl hin3 hdg (fun H1 locs1 hP1 hD1 hS1 => kk H1 locs1 ls hP1 hD1 hS1 hl)
theorem V_aald {g : Gd} {X : Bd} {own : String} {cc : ByteArray} {n d mc ms cs ss pc : Nat} {ws : va_W} {L : List (Nat × Value)} {st : List Value} {a nn k : Nat} {f : Nat → Option Nat} {i : Int32} {v : Nat} (C : Cx g X own cc n d mc ms) (q0 : Nat) (he : ws[q0]? = some (a, .inl (gM g, nn, .inr (.inr (.inr (.inr f)))))) (hin2 : ix i k nn) (hf : f k = some v) (hdg : decode cc pc = .ok (.aaload, 1)) (kk : V g X cs ss ws (pc + 1) L (.ref v :: st)) : V g X cs ss ws pc L (.int i :: .ref a :: st) := by
  obtain ⟨p, l, e, R, s, m, args, below, meth, c, Q, A, n'⟩ := X
  obtain ⟨hx, hb, hml, hts, hown, ⟨hK, hNK, hZS⟩, hA, hn, hd1, hd2, hd3, hd4⟩ := C
  subst hn
  intro H locs ls hP hD hS hl
  obtain ⟨hin3, rfl⟩ := hin2
  refine va_aldq (C := "FareDrops$Meter") hx hb hK hP q0 3 he rfl hin3 hdg ?_
  rw [hf]
  exact kk H locs ls hP hD hS hl
theorem V_aast {g : Gd} {X : Bd} {own : String} {cc : ByteArray} {n d mc ms cs ss pc : Nat} {ws : va_W} {L : List (Nat × Value)} {st : List Value} {a nn v ci k : Nat} {f : Nat → Option Nat} {i : Int32} {vs : List Value} {T : u_T} {N : Nat} {ws2 : va_W} (C : Cx g X own cc n d mc ms) (q0 qk : Nat) (he : ws[q0]? = some (a, .inl (gM g, nn, .inr (.inr (.inr (.inr f)))))) (hv : ws[qk]? = some (v, .inr (ci, vs))) (hc : vwCl[ci]? = some ("FareDrops$Meter", T, N)) (hin2 : ix i k nn) (hdg : decode cc pc = .ok (.aastore, 1)) (hw : ws.set q0 (a, .inl (gM g, nn, .inr (.inr (.inr (.inr (va_up f k (some v))))))) = ws2) (kk : V g X cs ss ws2 (pc + 1) L st) : V g X cs ss ws pc L (.ref v :: .int i :: .ref a :: st) := by
  obtain ⟨p, l, e, R, s, m, args, below, meth, c, Q, A, n'⟩ := X
  obtain ⟨hx, hb, hml, hts, hown, ⟨hK, hNK, hZS⟩, hA, hn, hd1, hd2, hd3, hd4⟩ := C
  subst hn
  subst hw
  intro H locs ls hP hD hS hl
  obtain ⟨hin3, rfl⟩ := hin2
  exact va_astq hx hb hK hP hD hS q0 3 qk ci he rfl hv hc hin3 hdg (fun H1 locs1 hP1 hD1 hS1 => kk H1 locs1 ls hP1 hD1 hS1 hl)
theorem V_alenI {g : Gd} {X : Bd} {own : String} {cc : ByteArray} {n d mc ms cs ss pc : Nat} {ws : va_W} {L : List (Nat × Value)} {st : List Value} {a : Nat} {x : vp_A} {v : Int32} (C : Cx g X own cc n d mc ms) (q0 : Nat) (he : ws[q0]? = some (a, .inl (gI g, x))) (hv : Int32.ofNat x.1 = v) (hdg : decode cc pc = .ok (.arraylength, 1)) (kk : V g X cs ss ws (pc + 1) L (.int v :: st)) : V g X cs ss ws pc L (.ref a :: st) := by
  obtain ⟨p, l, e, R, s, m, args, below, meth, c, Q, A, n'⟩ := X
  obtain ⟨hx, hb, hml, hts, hown, ⟨hK, hNK, hZS⟩, hA, hn, hd1, hd2, hd3, hd4⟩ := C
  subst hn
  intro H locs ls hP hD hS hl
  exact va_alen hx hb hK hP q0 0 he rfl hv hdg (kk H locs ls hP hD hS hl)
theorem V_alenC {g : Gd} {X : Bd} {own : String} {cc : ByteArray} {n d mc ms cs ss pc : Nat} {ws : va_W} {L : List (Nat × Value)} {st : List Value} {a : Nat} {x : vp_A} {v : Int32} (C : Cx g X own cc n d mc ms) (q0 : Nat) (he : ws[q0]? = some (a, .inl (gC g, x))) (hv : Int32.ofNat x.1 = v) (hdg : decode cc pc = .ok (.arraylength, 1)) (kk : V g X cs ss ws (pc + 1) L (.int v :: st)) : V g X cs ss ws pc L (.ref a :: st) := by
  obtain ⟨p, l, e, R, s, m, args, below, meth, c, Q, A, n'⟩ := X
  obtain ⟨hx, hb, hml, hts, hown, ⟨hK, hNK, hZS⟩, hA, hn, hd1, hd2, hd3, hd4⟩ := C
  subst hn
  intro H locs ls hP hD hS hl
  exact va_alen hx hb hK hP q0 1 he rfl hv hdg (kk H locs ls hP hD hS hl)
theorem V_alenZ {g : Gd} {X : Bd} {own : String} {cc : ByteArray} {n d mc ms cs ss pc : Nat} {ws : va_W} {L : List (Nat × Value)} {st : List Value} {a : Nat} {x : vp_A} {v : Int32} (C : Cx g X own cc n d mc ms) (q0 : Nat) (he : ws[q0]? = some (a, .inl (gZ g, x))) (hv : Int32.ofNat x.1 = v) (hdg : decode cc pc = .ok (.arraylength, 1)) (kk : V g X cs ss ws (pc + 1) L (.int v :: st)) : V g X cs ss ws pc L (.ref a :: st) := by
  obtain ⟨p, l, e, R, s, m, args, below, meth, c, Q, A, n'⟩ := X
  obtain ⟨hx, hb, hml, hts, hown, ⟨hK, hNK, hZS⟩, hA, hn, hd1, hd2, hd3, hd4⟩ := C
  subst hn
  intro H locs ls hP hD hS hl
  exact va_alen hx hb hK hP q0 2 he rfl hv hdg (kk H locs ls hP hD hS hl)
theorem V_alenM {g : Gd} {X : Bd} {own : String} {cc : ByteArray} {n d mc ms cs ss pc : Nat} {ws : va_W} {L : List (Nat × Value)} {st : List Value} {a : Nat} {x : vp_A} {v : Int32} (C : Cx g X own cc n d mc ms) (q0 : Nat) (he : ws[q0]? = some (a, .inl (gM g, x))) (hv : Int32.ofNat x.1 = v) (hdg : decode cc pc = .ok (.arraylength, 1)) (kk : V g X cs ss ws (pc + 1) L (.int v :: st)) : V g X cs ss ws pc L (.ref a :: st) := by
  obtain ⟨p, l, e, R, s, m, args, below, meth, c, Q, A, n'⟩ := X
  obtain ⟨hx, hb, hml, hts, hown, ⟨hK, hNK, hZS⟩, hA, hn, hd1, hd2, hd3, hd4⟩ := C
  subst hn
  intro H locs ls hP hD hS hl
  exact va_alen hx hb hK hP q0 3 he rfl hv hdg (kk H locs ls hP hD hS hl)
theorem V_ifnonnull {g : Gd} {X : Bd} {own : String} {cc : ByteArray} {n d mc ms cs ss pc : Nat} {ws : va_W} {L : List (Nat × Value)} {st : List Value} {x : Nat} {off : Int} {tgt : Nat} (C : Cx g X own cc n d mc ms) (hdg : decode cc pc = .ok (.ifnonnull off, 3)) (ht : (pc : Int) + off = (tgt : Int)) (kk : V g X cs ss ws tgt L st) : V g X cs ss ws pc L (.ref x :: st) := by
  obtain ⟨p, l, e, R, s, m, args, below, meth, c, Q, A, n'⟩ := X
  obtain ⟨hx, hb, hml, hts, hown, ⟨hK, hNK, hZS⟩, hA, hn, hd1, hd2, hd3, hd4⟩ := C
  subst hn
  intro H locs ls hP hD hS hl
  exact lv_ifnonnull hx hb hdg ht (kk H locs ls hP hD hS hl)
theorem V_ifnull {g : Gd} {X : Bd} {own : String} {cc : ByteArray} {n d mc ms cs ss pc : Nat} {ws : va_W} {L : List (Nat × Value)} {st : List Value} {x : Nat} {off : Int} (C : Cx g X own cc n d mc ms) (hdg : decode cc pc = .ok (.ifnull off, 3)) (kk : V g X cs ss ws (pc + 3) L st) : V g X cs ss ws pc L (.ref x :: st) := by
  obtain ⟨p, l, e, R, s, m, args, below, meth, c, Q, A, n'⟩ := X
  obtain ⟨hx, hb, hml, hts, hown, ⟨hK, hNK, hZS⟩, hA, hn, hd1, hd2, hd3, hd4⟩ := C
  subst hn
  intro H locs ls hP hD hS hl
  exact lv_ifnull hx hb hdg (kk H locs ls hP hD hS hl)
end
section

/-! calls of V -/
def CB (y : MethodName) (cb : ByteArray) (maxL : Nat) (rt : Option FieldType) (na : Nat) : Prop := Cond.initialized y.cls ∈ tg ∧ Cond.code y cb maxL rt ∈ tg ∧ (y.cls ≠ "java/lang/invoke/MethodHandle" ∧ y.cls ≠ "java/lang/invoke/VarHandle" ∧ (parseMethodDescriptor y.desc).map (fun d => d.parameters.length) = some na) ∧ maxL ≤ 21
def CV (own : String) (index : Nat) (y : MethodName) (cb : ByteArray) (maxL : Nat) (rt : Option FieldType) (na : Nat) : Prop := CB y cb maxL rt na ∧ Cond.methodLink own index y ∈ tg ∧ Cond.instanceMethod y ∈ tg ∧ Cond.selects y.cls y y ∈ tg
def CS (own : String) (index : Nat) (y : MethodName) (cb : ByteArray) (maxL : Nat) (rt : Option FieldType) (na : Nat) : Prop := CB y cb maxL rt na ∧ Cond.methodLink own index y ∈ tg ∧ Cond.static y ∈ tg
def CSN (own : String) (index : Nat) (y : MethodName) (cb : ByteArray) (maxL : Nat) (rt : Option FieldType) (na : Nat) : Prop := CB y cb maxL rt na ∧ (∃ host, Cond.methodLinkNest own index y host ∈ nw) ∧ Cond.static y ∈ tg
def CI (own : String) (index : Nat) (y : MethodName) (cb : ByteArray) (maxL : Nat) (rt : Option FieldType) (na : Nat) : Prop := CB y cb maxL rt na ∧ Cond.methodLink own index y ∈ tg ∧ Cond.instanceMethod y ∈ tg ∧ y.name = "<init>" ∧ rt = none
def CIN (own : String) (index : Nat) (y : MethodName) (cb : ByteArray) (maxL : Nat) (rt : Option FieldType) (na : Nat) : Prop := CB y cb maxL rt na ∧ (∃ host, Cond.methodLinkNest own index y host ∈ nw) ∧ Cond.instanceMethod y ∈ tg ∧ y.name = "<init>" ∧ rt = none
section
variable {R : Room} {s : State} {args : Array Value} {own : String} {index : Nat} {y : MethodName} {cb : ByteArray} {maxL : Nat} {rt : Option FieldType} {na d mc ms d0 : Nat}
theorem room_ok (hm : maxL ≤ 21) (h1 : d0 ≤ R.frames) (h2 : 40 * d0 ≤ R.locals) (hd : d + 1 ≤ d0) : (rmd d mc ms).frames + 1 ≤ R.frames ∧ 8 + (maxL + 11) + (rmd d mc ms).locals ≤ R.locals := by
  refine ⟨?_, ?_⟩
  · show d + 1 ≤ R.frames
    omega
  · show 8 + (maxL + 11) + 40 * d ≤ R.locals
    omega
theorem cb_of (hts : ∀ w ∈ tg, w.before args s = true) (h : CB y cb maxL rt na) (hl : (Cond.methodLink own index y).before args s = true) (h1 : d0 ≤ R.frames) (h2 : 40 * d0 ≤ R.locals) (hd : d + 1 ≤ d0) : CallB R s args own index y cb maxL rt (wsy y cb maxL rt) (rmd d mc ms) mc ms na := by
  obtain ⟨hi, hc, hy, hm⟩ := h
  exact callB_of na hts (good_tg hc) rfl rfl rfl (hts _ hi) hl hy (room_ok hm h1 h2 hd)
theorem cn_of (hts : ∀ w ∈ tg, w.before args s = true) (h : CB y cb maxL rt na) {host : String} (hl : va_Nw (.methodLinkNest own index y host) s) (h1 : d0 ≤ R.frames) (h2 : 40 * d0 ≤ R.locals) (hd : d + 1 ≤ d0) : va_CN R s args own index y host cb maxL rt (wsy y cb maxL rt) (rmd d mc ms) mc ms na := by
  obtain ⟨hi, hc, hy, hm⟩ := h
  exact va_cnB na hts (good_tg hc) rfl rfl rfl hl (hts _ hi) hy (room_ok hm h1 h2 hd)
end

theorem V_callVi {g : Gd} {X : Bd} {own : String} {cc : ByteArray} {n d mc ms cs ss pc : Nat} {ws : va_W} {L : List (Nat × Value)} {st : List Value} {b ci q0 : Nat} {fs : List Value} {T : u_T} {N : Nat} {y : MethodName} {cb : ByteArray} {maxL : Nat} {rt : Option FieldType} {na index d2 mc2 ms2 : Nat} {As rest : List Value} {wc wr : va_W} {post : Int32 → va_W → Prop} (C : Cx g X own cc n d mc ms) (K : Ki g y cb maxL rt d2 mc2 ms2 (.ref b :: As) wc post) (cw : CV own index y cb maxL rt na) (isC isR : List Nat) (hC : isC.map (fun i => ws[i]?) = wc.map some) (hR : isR.map (fun i => ws[i]?) = wr.map some) (hnC : va_nd isC = true) (hnR : va_nd isR = true) (hdis : ∀ i ∈ isR, i ∉ isC) (he : ws[q0]? = some (b, .inr (ci, fs))) (hcl : vwCl[ci]? = some (y.cls, T, N)) (hst : st = As.reverse ++ .ref b :: rest) (hna : As.length = na) (hrest : (rest.map fun v => v.category).sum ≤ 8) (hd : d2 + 1 ≤ d) (hcells : cs + mc2 ≤ mc ∧ ss + ms2 ≤ ms) (hdg : decode cc pc = .ok (.invokevirtual index, 3)) (kk : ∀ (r : Int32) (w1 : va_W), post r w1 → V g X (cs + mc2) (ss + ms2) (wr ++ w1) (pc + 3) L (.int r :: rest)) : V g X cs ss ws pc L st := by
  subst hst
  obtain ⟨p, l, e, R, s, m, args, below, meth, c, Q, A, n'⟩ := X
  obtain ⟨hx, hb, hml, hts, hown, hKX, hA, hn, hd1, hd2, hd3, hd4⟩ := C
  subst hn
  intro H locs ls hP hD hS hl
  have hPc := hP.sub (ws' := wc) isC (by have h2 := congrArg (List.filterMap id) hC; simpa [List.filterMap_map, Function.comp_def] using h2)
  have hDc := hD.sub (ws' := wc) isC hnC hC
  have hFc := va_free (wc := wc) hD hS hA isC hC
  obtain ⟨hB, hlk, hin, hse⟩ := cw
  have hrun := va_runV (As := As) (rest := rest) (H := H) (locs := locs) (cells := cs) (slots := ss) (below := below) (meth := meth) (e := e) (g := F0 m pc ls (As.reverse ++ .ref b :: rest)) ⟨hx, hb, hml, hown, hts⟩ (K l H.size) ⟨cb_of (d0 := d) hts hB (hts _ hlk) hd1 hd2 hd, hts _ hin, hts _ hse⟩ ⟨pre_blind _ _ _ _, va_recv hKX.1 hP hcl he, fun U hU hW => ⟨rfl, by rw [hU], by rw [hU]; exact hPc, hKX.call hS hFc hW hU, hDc.weaken (fun _ _ _ _ => trivial)⟩⟩ rfl hna hl.1 rfl (lv_room hrest) hdg ⟨by omega, by omega⟩
  refine va_calli hrun hS (fun q _ h => hFc q h) hFc (fun r w1 t H1 locs1 ht hvm hw hB hz1 hk1 hS1 => ?_)
  obtain ⟨hP1, hD1⟩ := hB
  rw [ht] at hP1
  obtain ⟨hP2, hD2⟩ := va_join (wr := wr) hP hD isC isR hC hR hnR hdis hk1 hFc hP1 hD1
  exact kk r w1 hw H1 locs1 ls hP2 hD2 hS1 hl
theorem V_callVv {g : Gd} {X : Bd} {own : String} {cc : ByteArray} {n d mc ms cs ss pc : Nat} {ws : va_W} {L : List (Nat × Value)} {st : List Value} {b ci q0 : Nat} {fs : List Value} {T : u_T} {N : Nat} {y : MethodName} {cb : ByteArray} {maxL : Nat} {rt : Option FieldType} {na index d2 mc2 ms2 : Nat} {As rest : List Value} {wc wr : va_W} {post : va_W → Prop} (C : Cx g X own cc n d mc ms) (K : Kv g y cb maxL rt d2 mc2 ms2 (.ref b :: As) wc post) (cw : CV own index y cb maxL rt na) (isC isR : List Nat) (hC : isC.map (fun i => ws[i]?) = wc.map some) (hR : isR.map (fun i => ws[i]?) = wr.map some) (hnC : va_nd isC = true) (hnR : va_nd isR = true) (hdis : ∀ i ∈ isR, i ∉ isC) (he : ws[q0]? = some (b, .inr (ci, fs))) (hcl : vwCl[ci]? = some (y.cls, T, N)) (hst : st = As.reverse ++ .ref b :: rest) (hna : As.length = na) (hrest : (rest.map fun v => v.category).sum ≤ 8) (hd : d2 + 1 ≤ d) (hcells : cs + mc2 ≤ mc ∧ ss + ms2 ≤ ms) (hdg : decode cc pc = .ok (.invokevirtual index, 3)) (kk : ∀ (w1 : va_W), post w1 → V g X (cs + mc2) (ss + ms2) (wr ++ w1) (pc + 3) L rest) : V g X cs ss ws pc L st := by
  subst hst
  obtain ⟨p, l, e, R, s, m, args, below, meth, c, Q, A, n'⟩ := X
  obtain ⟨hx, hb, hml, hts, hown, hKX, hA, hn, hd1, hd2, hd3, hd4⟩ := C
  subst hn
  intro H locs ls hP hD hS hl
  have hPc := hP.sub (ws' := wc) isC (by have h2 := congrArg (List.filterMap id) hC; simpa [List.filterMap_map, Function.comp_def] using h2)
  have hDc := hD.sub (ws' := wc) isC hnC hC
  have hFc := va_free (wc := wc) hD hS hA isC hC
  obtain ⟨hB, hlk, hin, hse⟩ := cw
  have hrun := va_runV (As := As) (rest := rest) (H := H) (locs := locs) (cells := cs) (slots := ss) (below := below) (meth := meth) (e := e) (g := F0 m pc ls (As.reverse ++ .ref b :: rest)) ⟨hx, hb, hml, hown, hts⟩ (K l H.size) ⟨cb_of (d0 := d) hts hB (hts _ hlk) hd1 hd2 hd, hts _ hin, hts _ hse⟩ ⟨pre_blind _ _ _ _, va_recv hKX.1 hP hcl he, fun U hU hW => ⟨rfl, by rw [hU], by rw [hU]; exact hPc, hKX.call hS hFc hW hU, hDc.weaken (fun _ _ _ _ => trivial)⟩⟩ rfl hna hl.1 rfl (lv_room hrest) hdg ⟨by omega, by omega⟩
  refine va_callv hrun hS (fun q _ h => hFc q h) hFc (fun w1 t H1 locs1 ht hvm hw hB hz1 hk1 hS1 => ?_)
  obtain ⟨hP1, hD1⟩ := hB
  rw [ht] at hP1
  obtain ⟨hP2, hD2⟩ := va_join (wr := wr) hP hD isC isR hC hR hnR hdis hk1 hFc hP1 hD1
  exact kk w1 hw H1 locs1 ls hP2 hD2 hS1 hl
theorem V_callVr {g : Gd} {X : Bd} {own : String} {cc : ByteArray} {n d mc ms cs ss pc : Nat} {ws : va_W} {L : List (Nat × Value)} {st : List Value} {b ci q0 : Nat} {fs : List Value} {T : u_T} {N : Nat} {y : MethodName} {cb : ByteArray} {maxL : Nat} {rt : Option FieldType} {na index d2 mc2 ms2 : Nat} {As rest : List Value} {wc wr : va_W} {post : Nat → va_W → Prop} (C : Cx g X own cc n d mc ms) (K : Kr g y cb maxL rt d2 mc2 ms2 (.ref b :: As) wc post) (cw : CV own index y cb maxL rt na) (isC isR : List Nat) (hC : isC.map (fun i => ws[i]?) = wc.map some) (hR : isR.map (fun i => ws[i]?) = wr.map some) (hnC : va_nd isC = true) (hnR : va_nd isR = true) (hdis : ∀ i ∈ isR, i ∉ isC) (he : ws[q0]? = some (b, .inr (ci, fs))) (hcl : vwCl[ci]? = some (y.cls, T, N)) (hst : st = As.reverse ++ .ref b :: rest) (hna : As.length = na) (hrest : (rest.map fun v => v.category).sum ≤ 8) (hd : d2 + 1 ≤ d) (hcells : cs + mc2 ≤ mc ∧ ss + ms2 ≤ ms) (hdg : decode cc pc = .ok (.invokevirtual index, 3)) (kk : ∀ (r : Nat) (w1 : va_W), post r w1 → V g X (cs + mc2) (ss + ms2) (wr ++ w1) (pc + 3) L (.ref r :: rest)) : V g X cs ss ws pc L st := by
  subst hst
  obtain ⟨p, l, e, R, s, m, args, below, meth, c, Q, A, n'⟩ := X
  obtain ⟨hx, hb, hml, hts, hown, hKX, hA, hn, hd1, hd2, hd3, hd4⟩ := C
  subst hn
  intro H locs ls hP hD hS hl
  have hPc := hP.sub (ws' := wc) isC (by have h2 := congrArg (List.filterMap id) hC; simpa [List.filterMap_map, Function.comp_def] using h2)
  have hDc := hD.sub (ws' := wc) isC hnC hC
  have hFc := va_free (wc := wc) hD hS hA isC hC
  obtain ⟨hB, hlk, hin, hse⟩ := cw
  have hrun := va_runV (As := As) (rest := rest) (H := H) (locs := locs) (cells := cs) (slots := ss) (below := below) (meth := meth) (e := e) (g := F0 m pc ls (As.reverse ++ .ref b :: rest)) ⟨hx, hb, hml, hown, hts⟩ (K l H.size) ⟨cb_of (d0 := d) hts hB (hts _ hlk) hd1 hd2 hd, hts _ hin, hts _ hse⟩ ⟨pre_blind _ _ _ _, va_recv hKX.1 hP hcl he, fun U hU hW => ⟨rfl, by rw [hU], by rw [hU]; exact hPc, hKX.call hS hFc hW hU, hDc.weaken (fun _ _ _ _ => trivial)⟩⟩ rfl hna hl.1 rfl (lv_room hrest) hdg ⟨by omega, by omega⟩
  refine va_callr hrun hS (fun q _ h => hFc q h) hFc (fun u ra t H1 locs1 ht hvm hw hB hz1 hk1 hS1 => ?_)
  obtain ⟨rfl, hP1, hD1⟩ := hB
  rw [ht] at hP1
  obtain ⟨hP2, hD2⟩ := va_join (wr := wr) hP hD isC isR hC hR hnR hdis hk1 hFc hP1 hD1
  exact kk u.1 u.2 hw H1 locs1 ls hP2 hD2 hS1 hl
theorem V_callSi {g : Gd} {X : Bd} {own : String} {cc : ByteArray} {n d mc ms cs ss pc : Nat} {ws : va_W} {L : List (Nat × Value)} {st : List Value} {y : MethodName} {cb : ByteArray} {maxL : Nat} {rt : Option FieldType} {na index d2 mc2 ms2 : Nat} {As rest : List Value} {wc wr : va_W} {post : Int32 → va_W → Prop} (C : Cx g X own cc n d mc ms) (K : Ki g y cb maxL rt d2 mc2 ms2 As wc post) (cw : CS own index y cb maxL rt na) (isC isR : List Nat) (hC : isC.map (fun i => ws[i]?) = wc.map some) (hR : isR.map (fun i => ws[i]?) = wr.map some) (hnC : va_nd isC = true) (hnR : va_nd isR = true) (hdis : ∀ i ∈ isR, i ∉ isC) (hst : st = As.reverse ++ rest) (hna : As.length = na) (hrest : (rest.map fun v => v.category).sum ≤ 8) (hd : d2 + 1 ≤ d) (hcells : cs + mc2 ≤ mc ∧ ss + ms2 ≤ ms) (hdg : decode cc pc = .ok (.invokestatic index, 3)) (kk : ∀ (r : Int32) (w1 : va_W), post r w1 → V g X (cs + mc2) (ss + ms2) (wr ++ w1) (pc + 3) L (.int r :: rest)) : V g X cs ss ws pc L st := by
  subst hst
  obtain ⟨p, l, e, R, s, m, args, below, meth, c, Q, A, n'⟩ := X
  obtain ⟨hx, hb, hml, hts, hown, hKX, hA, hn, hd1, hd2, hd3, hd4⟩ := C
  subst hn
  intro H locs ls hP hD hS hl
  have hPc := hP.sub (ws' := wc) isC (by have h2 := congrArg (List.filterMap id) hC; simpa [List.filterMap_map, Function.comp_def] using h2)
  have hDc := hD.sub (ws' := wc) isC hnC hC
  have hFc := va_free (wc := wc) hD hS hA isC hC
  obtain ⟨hB, hlk, hse⟩ := cw
  have hrun := va_runS (As := As) (rest := rest) (H := H) (locs := locs) (cells := cs) (slots := ss) (below := below) (meth := meth) (e := e) (g := F0 m pc ls (As.reverse ++ rest)) ⟨hx, hb, hml, hown, hts⟩ (K l H.size) ⟨cb_of (d0 := d) hts hB (hts _ hlk) hd1 hd2 hd, hts _ hse⟩ ⟨pre_blind _ _ _ _, fun U hU hW => ⟨rfl, by rw [hU], by rw [hU]; exact hPc, hKX.call hS hFc hW hU, hDc.weaken (fun _ _ _ _ => trivial)⟩⟩ rfl hna hl.1 rfl (lv_room hrest) hdg ⟨by omega, by omega⟩
  refine va_calli hrun hS (fun q _ h => hFc q h) hFc (fun r w1 t H1 locs1 ht hvm hw hB hz1 hk1 hS1 => ?_)
  obtain ⟨hP1, hD1⟩ := hB
  rw [ht] at hP1
  obtain ⟨hP2, hD2⟩ := va_join (wr := wr) hP hD isC isR hC hR hnR hdis hk1 hFc hP1 hD1
  exact kk r w1 hw H1 locs1 ls hP2 hD2 hS1 hl
theorem V_callSv {g : Gd} {X : Bd} {own : String} {cc : ByteArray} {n d mc ms cs ss pc : Nat} {ws : va_W} {L : List (Nat × Value)} {st : List Value} {y : MethodName} {cb : ByteArray} {maxL : Nat} {rt : Option FieldType} {na index d2 mc2 ms2 : Nat} {As rest : List Value} {wc wr : va_W} {post : va_W → Prop} (C : Cx g X own cc n d mc ms) (K : Kv g y cb maxL rt d2 mc2 ms2 As wc post) (cw : CS own index y cb maxL rt na) (isC isR : List Nat) (hC : isC.map (fun i => ws[i]?) = wc.map some) (hR : isR.map (fun i => ws[i]?) = wr.map some) (hnC : va_nd isC = true) (hnR : va_nd isR = true) (hdis : ∀ i ∈ isR, i ∉ isC) (hst : st = As.reverse ++ rest) (hna : As.length = na) (hrest : (rest.map fun v => v.category).sum ≤ 8) (hd : d2 + 1 ≤ d) (hcells : cs + mc2 ≤ mc ∧ ss + ms2 ≤ ms) (hdg : decode cc pc = .ok (.invokestatic index, 3)) (kk : ∀ (w1 : va_W), post w1 → V g X (cs + mc2) (ss + ms2) (wr ++ w1) (pc + 3) L rest) : V g X cs ss ws pc L st := by
  subst hst
  obtain ⟨p, l, e, R, s, m, args, below, meth, c, Q, A, n'⟩ := X
  obtain ⟨hx, hb, hml, hts, hown, hKX, hA, hn, hd1, hd2, hd3, hd4⟩ := C
  subst hn
  intro H locs ls hP hD hS hl
  have hPc := hP.sub (ws' := wc) isC (by have h2 := congrArg (List.filterMap id) hC; simpa [List.filterMap_map, Function.comp_def] using h2)
  have hDc := hD.sub (ws' := wc) isC hnC hC
  have hFc := va_free (wc := wc) hD hS hA isC hC
  obtain ⟨hB, hlk, hse⟩ := cw
  have hrun := va_runS (As := As) (rest := rest) (H := H) (locs := locs) (cells := cs) (slots := ss) (below := below) (meth := meth) (e := e) (g := F0 m pc ls (As.reverse ++ rest)) ⟨hx, hb, hml, hown, hts⟩ (K l H.size) ⟨cb_of (d0 := d) hts hB (hts _ hlk) hd1 hd2 hd, hts _ hse⟩ ⟨pre_blind _ _ _ _, fun U hU hW => ⟨rfl, by rw [hU], by rw [hU]; exact hPc, hKX.call hS hFc hW hU, hDc.weaken (fun _ _ _ _ => trivial)⟩⟩ rfl hna hl.1 rfl (lv_room hrest) hdg ⟨by omega, by omega⟩
  refine va_callv hrun hS (fun q _ h => hFc q h) hFc (fun w1 t H1 locs1 ht hvm hw hB hz1 hk1 hS1 => ?_)
  obtain ⟨hP1, hD1⟩ := hB
  rw [ht] at hP1
  obtain ⟨hP2, hD2⟩ := va_join (wr := wr) hP hD isC isR hC hR hnR hdis hk1 hFc hP1 hD1
  exact kk w1 hw H1 locs1 ls hP2 hD2 hS1 hl
theorem V_callNi {g : Gd} {X : Bd} {own : String} {cc : ByteArray} {n d mc ms cs ss pc : Nat} {ws : va_W} {L : List (Nat × Value)} {st : List Value} {y : MethodName} {cb : ByteArray} {maxL : Nat} {rt : Option FieldType} {na index d2 mc2 ms2 : Nat} {As rest : List Value} {wc wr : va_W} {post : Int32 → va_W → Prop} (C : Cx g X own cc n d mc ms) (K : Ki g y cb maxL rt d2 mc2 ms2 As wc post) (cw : CSN own index y cb maxL rt na) (isC isR : List Nat) (hC : isC.map (fun i => ws[i]?) = wc.map some) (hR : isR.map (fun i => ws[i]?) = wr.map some) (hnC : va_nd isC = true) (hnR : va_nd isR = true) (hdis : ∀ i ∈ isR, i ∉ isC) (hst : st = As.reverse ++ rest) (hna : As.length = na) (hrest : (rest.map fun v => v.category).sum ≤ 8) (hd : d2 + 1 ≤ d) (hcells : cs + mc2 ≤ mc ∧ ss + ms2 ≤ ms) (hdg : decode cc pc = .ok (.invokestatic index, 3)) (kk : ∀ (r : Int32) (w1 : va_W), post r w1 → V g X (cs + mc2) (ss + ms2) (wr ++ w1) (pc + 3) L (.int r :: rest)) : V g X cs ss ws pc L st := by
  subst hst
  obtain ⟨p, l, e, R, s, m, args, below, meth, c, Q, A, n'⟩ := X
  obtain ⟨hx, hb, hml, hts, hown, hKX, hA, hn, hd1, hd2, hd3, hd4⟩ := C
  subst hn
  intro H locs ls hP hD hS hl
  have hPc := hP.sub (ws' := wc) isC (by have h2 := congrArg (List.filterMap id) hC; simpa [List.filterMap_map, Function.comp_def] using h2)
  have hDc := hD.sub (ws' := wc) isC hnC hC
  have hFc := va_free (wc := wc) hD hS hA isC hC
  obtain ⟨hB, ⟨host, hlk⟩, hse⟩ := cw
  have hrun := va_runSN (host := host) (As := As) (rest := rest) (H := H) (locs := locs) (cells := cs) (slots := ss) (below := below) (meth := meth) (e := e) (g := F0 m pc ls (As.reverse ++ rest)) ⟨hx, hb, hml, hown, hts⟩ (K l H.size) ⟨cn_of (d0 := d) hts hB (hKX.2.1 _ hlk) hd1 hd2 hd, hts _ hse, trivial⟩ ⟨pre_blind _ _ _ _, fun U hU hW => ⟨rfl, by rw [hU], by rw [hU]; exact hPc, hKX.call hS hFc hW hU, hDc.weaken (fun _ _ _ _ => trivial)⟩⟩ rfl hna hl.1 rfl (lv_room hrest) hdg ⟨by omega, by omega⟩
  refine va_calli hrun hS (fun q _ h => hFc q h) hFc (fun r w1 t H1 locs1 ht hvm hw hB hz1 hk1 hS1 => ?_)
  obtain ⟨hP1, hD1⟩ := hB
  rw [ht] at hP1
  obtain ⟨hP2, hD2⟩ := va_join (wr := wr) hP hD isC isR hC hR hnR hdis hk1 hFc hP1 hD1
  exact kk r w1 hw H1 locs1 ls hP2 hD2 hS1 hl
theorem V_callNv {g : Gd} {X : Bd} {own : String} {cc : ByteArray} {n d mc ms cs ss pc : Nat} {ws : va_W} {L : List (Nat × Value)} {st : List Value} {y : MethodName} {cb : ByteArray} {maxL : Nat} {rt : Option FieldType} {na index d2 mc2 ms2 : Nat} {As rest : List Value} {wc wr : va_W} {post : va_W → Prop} (C : Cx g X own cc n d mc ms) (K : Kv g y cb maxL rt d2 mc2 ms2 As wc post) (cw : CSN own index y cb maxL rt na) (isC isR : List Nat) (hC : isC.map (fun i => ws[i]?) = wc.map some) (hR : isR.map (fun i => ws[i]?) = wr.map some) (hnC : va_nd isC = true) (hnR : va_nd isR = true) (hdis : ∀ i ∈ isR, i ∉ isC) (hst : st = As.reverse ++ rest) (hna : As.length = na) (hrest : (rest.map fun v => v.category).sum ≤ 8) (hd : d2 + 1 ≤ d) (hcells : cs + mc2 ≤ mc ∧ ss + ms2 ≤ ms) (hdg : decode cc pc = .ok (.invokestatic index, 3)) (kk : ∀ (w1 : va_W), post w1 → V g X (cs + mc2) (ss + ms2) (wr ++ w1) (pc + 3) L rest) : V g X cs ss ws pc L st := by
  subst hst
  obtain ⟨p, l, e, R, s, m, args, below, meth, c, Q, A, n'⟩ := X
  obtain ⟨hx, hb, hml, hts, hown, hKX, hA, hn, hd1, hd2, hd3, hd4⟩ := C
  subst hn
  intro H locs ls hP hD hS hl
  have hPc := hP.sub (ws' := wc) isC (by have h2 := congrArg (List.filterMap id) hC; simpa [List.filterMap_map, Function.comp_def] using h2)
  have hDc := hD.sub (ws' := wc) isC hnC hC
  have hFc := va_free (wc := wc) hD hS hA isC hC
  obtain ⟨hB, ⟨host, hlk⟩, hse⟩ := cw
  have hrun := va_runSN (host := host) (As := As) (rest := rest) (H := H) (locs := locs) (cells := cs) (slots := ss) (below := below) (meth := meth) (e := e) (g := F0 m pc ls (As.reverse ++ rest)) ⟨hx, hb, hml, hown, hts⟩ (K l H.size) ⟨cn_of (d0 := d) hts hB (hKX.2.1 _ hlk) hd1 hd2 hd, hts _ hse, trivial⟩ ⟨pre_blind _ _ _ _, fun U hU hW => ⟨rfl, by rw [hU], by rw [hU]; exact hPc, hKX.call hS hFc hW hU, hDc.weaken (fun _ _ _ _ => trivial)⟩⟩ rfl hna hl.1 rfl (lv_room hrest) hdg ⟨by omega, by omega⟩
  refine va_callv hrun hS (fun q _ h => hFc q h) hFc (fun w1 t H1 locs1 ht hvm hw hB hz1 hk1 hS1 => ?_)
  obtain ⟨hP1, hD1⟩ := hB
  rw [ht] at hP1
  obtain ⟨hP2, hD2⟩ := va_join (wr := wr) hP hD isC isR hC hR hnR hdis hk1 hFc hP1 hD1
  exact kk w1 hw H1 locs1 ls hP2 hD2 hS1 hl
theorem V_callIv {g : Gd} {X : Bd} {own : String} {cc : ByteArray} {n d mc ms cs ss pc : Nat} {ws : va_W} {L : List (Nat × Value)} {st : List Value} {b : Nat} {y : MethodName} {cb : ByteArray} {maxL : Nat} {rt : Option FieldType} {na index d2 mc2 ms2 : Nat} {As rest : List Value} {wc wr : va_W} {post : va_W → Prop} (C : Cx g X own cc n d mc ms) (K : Kv g y cb maxL rt d2 mc2 ms2 (.ref b :: As) wc post) (cw : CI own index y cb maxL rt na) (isC isR : List Nat) (hC : isC.map (fun i => ws[i]?) = wc.map some) (hR : isR.map (fun i => ws[i]?) = wr.map some) (hnC : va_nd isC = true) (hnR : va_nd isR = true) (hdis : ∀ i ∈ isR, i ∉ isC) (hst : st = As.reverse ++ .ref b :: rest) (hna : As.length = na) (hrest : (rest.map fun v => v.category).sum ≤ 8) (hd : d2 + 1 ≤ d) (hcells : cs + mc2 ≤ mc ∧ ss + ms2 ≤ ms) (hdg : decode cc pc = .ok (.invokespecial index, 3)) (kk : ∀ (w1 : va_W), post w1 → V g X (cs + mc2) (ss + ms2) (wr ++ w1) (pc + 3) L rest) : V g X cs ss ws pc L st := by
  subst hst
  obtain ⟨p, l, e, R, s, m, args, below, meth, c, Q, A, n'⟩ := X
  obtain ⟨hx, hb, hml, hts, hown, hKX, hA, hn, hd1, hd2, hd3, hd4⟩ := C
  subst hn
  intro H locs ls hP hD hS hl
  have hPc := hP.sub (ws' := wc) isC (by have h2 := congrArg (List.filterMap id) hC; simpa [List.filterMap_map, Function.comp_def] using h2)
  have hDc := hD.sub (ws' := wc) isC hnC hC
  have hFc := va_free (wc := wc) hD hS hA isC hC
  obtain ⟨hB, hlk, hin, hnm, rfl⟩ := cw
  have hrun := va_runI (As := As) (b := b) (rest := rest) (H := H) (locs := locs) (cells := cs) (slots := ss) (below := below) (meth := meth) (e := e) (g := F0 m pc ls (As.reverse ++ .ref b :: rest)) ⟨hx, hb, hml, hown, hts⟩ (K l H.size) ⟨cb_of (d0 := d) hts hB (hts _ hlk) hd1 hd2 hd, hnm, hts _ hin⟩ ⟨pre_blind _ _ _ _, fun U hU hW => ⟨rfl, by rw [hU], by rw [hU]; exact hPc, hKX.call hS hFc hW hU, hDc.weaken (fun _ _ _ _ => trivial)⟩⟩ rfl hna hl.1 rfl (lv_room hrest) hdg ⟨by omega, by omega⟩
  refine va_callv hrun hS (fun q _ h => hFc q h) hFc (fun w1 t H1 locs1 ht hvm hw hB hz1 hk1 hS1 => ?_)
  obtain ⟨hP1, hD1⟩ := hB
  rw [ht] at hP1
  obtain ⟨hP2, hD2⟩ := va_join (wr := wr) hP hD isC isR hC hR hnR hdis hk1 hFc hP1 hD1
  exact kk w1 hw H1 locs1 ls hP2 hD2 hS1 hl
theorem V_callJv {g : Gd} {X : Bd} {own : String} {cc : ByteArray} {n d mc ms cs ss pc : Nat} {ws : va_W} {L : List (Nat × Value)} {st : List Value} {b : Nat} {y : MethodName} {cb : ByteArray} {maxL : Nat} {rt : Option FieldType} {na index d2 mc2 ms2 : Nat} {As rest : List Value} {wc wr : va_W} {post : va_W → Prop} (C : Cx g X own cc n d mc ms) (K : Kv g y cb maxL rt d2 mc2 ms2 (.ref b :: As) wc post) (cw : CIN own index y cb maxL rt na) (isC isR : List Nat) (hC : isC.map (fun i => ws[i]?) = wc.map some) (hR : isR.map (fun i => ws[i]?) = wr.map some) (hnC : va_nd isC = true) (hnR : va_nd isR = true) (hdis : ∀ i ∈ isR, i ∉ isC) (hst : st = As.reverse ++ .ref b :: rest) (hna : As.length = na) (hrest : (rest.map fun v => v.category).sum ≤ 8) (hd : d2 + 1 ≤ d) (hcells : cs + mc2 ≤ mc ∧ ss + ms2 ≤ ms) (hdg : decode cc pc = .ok (.invokespecial index, 3)) (kk : ∀ (w1 : va_W), post w1 → V g X (cs + mc2) (ss + ms2) (wr ++ w1) (pc + 3) L rest) : V g X cs ss ws pc L st := by
  subst hst
  obtain ⟨p, l, e, R, s, m, args, below, meth, c, Q, A, n'⟩ := X
  obtain ⟨hx, hb, hml, hts, hown, hKX, hA, hn, hd1, hd2, hd3, hd4⟩ := C
  subst hn
  intro H locs ls hP hD hS hl
  have hPc := hP.sub (ws' := wc) isC (by have h2 := congrArg (List.filterMap id) hC; simpa [List.filterMap_map, Function.comp_def] using h2)
  have hDc := hD.sub (ws' := wc) isC hnC hC
  have hFc := va_free (wc := wc) hD hS hA isC hC
  obtain ⟨hB, ⟨host, hlk⟩, hin, hnm, rfl⟩ := cw
  have hrun := va_runIN (host := host) (As := As) (b := b) (rest := rest) (H := H) (locs := locs) (cells := cs) (slots := ss) (below := below) (meth := meth) (e := e) (g := F0 m pc ls (As.reverse ++ .ref b :: rest)) ⟨hx, hb, hml, hown, hts⟩ (K l H.size) ⟨cn_of (d0 := d) hts hB (hKX.2.1 _ hlk) hd1 hd2 hd, hnm, hts _ hin⟩ ⟨pre_blind _ _ _ _, fun U hU hW => ⟨rfl, by rw [hU], by rw [hU]; exact hPc, hKX.call hS hFc hW hU, hDc.weaken (fun _ _ _ _ => trivial)⟩⟩ rfl hna hl.1 rfl (lv_room hrest) hdg ⟨by omega, by omega⟩
  refine va_callv hrun hS (fun q _ h => hFc q h) hFc (fun w1 t H1 locs1 ht hvm hw hB hz1 hk1 hS1 => ?_)
  obtain ⟨hP1, hD1⟩ := hB
  rw [ht] at hP1
  obtain ⟨hP2, hD2⟩ := va_join (wr := wr) hP hD isC isR hC hR hnR hdis hk1 hFc hP1 hD1
  exact kk w1 hw H1 locs1 ls hP2 hD2 hS1 hl
theorem V_max {g : Gd} {X : Bd} {own : String} {cc : ByteArray} {n d mc ms cs ss pc : Nat} {ws : va_W} {L : List (Nat × Value)} {st : List Value} {index : Nat} {x y : Int32} (C : Cx g X own cc n d mc ms) (hlink : Cond.methodLink own index Lib.Math.max.name ∈ tg) (hst2 : Cond.static Lib.Math.max.name ∈ tg) (hini : Cond.initialized "java/lang/Math" ∈ tg) (hco : Cond.code Lib.Math.max.name Lib.Math.max.code 2 (some .int) ∈ tg) (hrest : (st.map fun v => v.category).sum ≤ 8) (hd : 1 ≤ d) (hcs : cs ≤ mc ∧ ss ≤ ms) (hdg : decode cc pc = .ok (.invokestatic index, 3)) (kk : V g X cs ss ws (pc + 3) L (.int (if x < y then y else x) :: st)) : V g X cs ss ws pc L (.int y :: .int x :: st) := by
  obtain ⟨p, l, e, R, s, m, args, below, meth, c, Q, A, n'⟩ := X
  obtain ⟨hx, hb, hml, hts, hown, ⟨hK, hNK, hZS⟩, hA, hn, hd1, hd2, hd3, hd4⟩ := C
  subst hn
  intro H locs ls hP hD hS hl
  exact va_mmax hx hb (hml.trans hl.1.symm) hown (hts _ hlink) (hts _ hst2) (hts _ hini) (hts _ hco) (by omega) (by omega) (by omega) (by omega) hdg (kk H locs ls hP hD hS hl)
theorem V_min {g : Gd} {X : Bd} {own : String} {cc : ByteArray} {n d mc ms cs ss pc : Nat} {ws : va_W} {L : List (Nat × Value)} {st : List Value} {index : Nat} {x y : Int32} (C : Cx g X own cc n d mc ms) (hlink : Cond.methodLink own index Lib.Math.min.name ∈ tg) (hst2 : Cond.static Lib.Math.min.name ∈ tg) (hini : Cond.initialized "java/lang/Math" ∈ tg) (hco : Cond.code Lib.Math.min.name Lib.Math.min.code 2 (some .int) ∈ tg) (hrest : (st.map fun v => v.category).sum ≤ 8) (hd : 1 ≤ d) (hcs : cs ≤ mc ∧ ss ≤ ms) (hdg : decode cc pc = .ok (.invokestatic index, 3)) (kk : V g X cs ss ws (pc + 3) L (.int (if y < x then y else x) :: st)) : V g X cs ss ws pc L (.int y :: .int x :: st) := by
  obtain ⟨p, l, e, R, s, m, args, below, meth, c, Q, A, n'⟩ := X
  obtain ⟨hx, hb, hml, hts, hown, ⟨hK, hNK, hZS⟩, hA, hn, hd1, hd2, hd3, hd4⟩ := C
  subst hn
  intro H locs ls hP hD hS hl
  exact va_mmin hx hb (hml.trans hl.1.symm) hown (hts _ hlink) (hts _ hst2) (hts _ hini) (hts _ hco) (by omega) (by omega) (by omega) (by omega) hdg (kk H locs ls hP hD hS hl)
theorem V_copy {g : Gd} {X : Bd} {own : String} {cc : ByteArray} {n d mc ms cs ss pc : Nat} {ws : va_W} {L : List (Nat × Value)} {st : List Value} {index a0 a n0 n1 : Nat} {f h2 : Nat → Int32} {sp dp nn : Int32} {ws2 : va_W} (C : Cx g X own cc n d mc ms) (q0 q1 : Nat) (hlink : Cond.methodLink own index arraycopyName ∈ tg) (hnat : Cond.native arraycopyName ∈ tg) (hstat : Cond.static arraycopyName ∈ tg) (hini : Cond.initialized "java/lang/System" ∈ tg) (ha0 : ws[q0]? = some (a0, .inl (gI g, n0, .inl f))) (ha1 : ws[q1]? = some (a, .inl (gI g, n1, .inl h2))) (h1 : ¬ sp < 0) (h20 : ¬ dp < 0) (h3 : ¬ nn < 0) (h4 : sp.toNatClampNeg + nn.toNatClampNeg ≤ n0) (h5 : dp.toNatClampNeg + nn.toNatClampNeg ≤ n1) (hrest : (st.map fun v => v.category).sum ≤ 8) (hd : 1 ≤ d) (hdg : decode cc pc = .ok (.invokestatic index, 3)) (hw : ws.set q1 (a, .inl (gI g, n1, .inl (va_cpy f h2 sp.toNatClampNeg dp.toNatClampNeg nn.toNatClampNeg))) = ws2) (kk : V g X cs ss ws2 (pc + 3) L st) : V g X cs ss ws pc L (.int nn :: .int dp :: .ref a :: .int sp :: .ref a0 :: st) := by
  obtain ⟨p, l, e, R, s, m, args, below, meth, c, Q, A, n'⟩ := X
  obtain ⟨hx, hb, hml, hts, hown, ⟨hK, hNK, hZS⟩, hA, hn, hd1, hd2, hd3, hd4⟩ := C
  subst hn
  subst hw
  intro H locs ls hP hD hS hl
  have hnf : nativeFrameWords "java/lang/System" "arraycopy" 5 ≤ 20 := by decide +kernel
  exact va_copyi hx hb (hml.trans hl.1.symm) hown (hts _ hlink) (hts _ hnat) (hts _ hstat) (hts _ hini) hK hP hD hS q0 q1 0 0 ha0 ha1 rfl rfl rfl h1 h20 h3 h4 h5 (fun _ _ => rfl) (by omega) (by omega) hdg (fun H1 locs1 hP1 hD1 hS1 => kk H1 locs1 ls hP1 hD1 hS1 hl)
theorem V_new {g : Gd} {X : Bd} {own : String} {cc : ByteArray} {n d mc ms cs ss pc : Nat} {ws : va_W} {L : List (Nat × Value)} {st : List Value} {Cn : String} {T : u_T} {N ci index : Nat} {fs : List Value} (C : Cx g X own cc n d mc ms) (hc : vwCl[ci]? = some (Cn, T, N)) (hin2 : ∀ w ∈ u_ws Cn T N, w ∈ tg) (ty : Nat → FieldType) (hty : ∀ k, k < N → parseFieldDescriptor (T k).2.2.1 = some (ty k)) (hcl : Cond.classLink own index Cn ∈ tg) (hinst : Cond.instantiable Cn N ∈ tg) (hini : Cond.initialized Cn ∈ tg) (hfs : ∀ j, j < N → defaultValue (ty j) = vp_V fs j) (hcs : cs + 1 ≤ mc ∧ ss + N ≤ ms) (hdg : decode cc pc = .ok (.new index, 3)) (kk : ∀ q : Nat, V g X (cs + 1) (ss + N) (ws ++ [(q, .inr (ci, fs))]) (pc + 3) L (.ref q :: st)) : V g X cs ss ws pc L st := by
  obtain ⟨p, l, e, R, s, m, args, below, meth, c, Q, A, n'⟩ := X
  obtain ⟨hx, hb, hml, hts, hown, ⟨hK, hNK, hZS⟩, hA, hn, hd1, hd2, hd3, hd4⟩ := C
  subst hn
  intro H locs ls hP hD hS hl
  exact va_new hx hb hts hin2 ty hty hown (hts _ hcl) (hts _ hinst) (hts _ hini) hK hP hD hS hA hc hfs (by omega) (by omega) hdg (fun q H1 hP1 hD1 hS1 => kk q H1 locs ls hP1 hD1 hS1 hl)
theorem V_newaI {g : Gd} {X : Bd} {own : String} {cc : ByteArray} {n d mc ms cs ss pc : Nat} {ws : va_W} {L : List (Nat × Value)} {st : List Value} {nn : Int32} {N : Nat} (C : Cx g X own cc n d mc ms) (harr : Cond.arrayClass .int ∈ tg) (hn0 : ¬ nn < 0) (hN : nn.toNatClampNeg = N) (hby : N ≤ 65536) (hcs : cs + 1 ≤ mc ∧ ss + N ≤ ms) (hdg : decode cc pc = .ok (.newarray .int, 2)) (kk : ∀ q : Nat, V g X (cs + 1) (ss + N) (ws ++ [(q, .inl (gI g, N, .inl (fun _ => 0)))]) (pc + 2) L (.ref q :: st)) : V g X cs ss ws pc L (.int nn :: st) := by
  obtain ⟨p, l, e, R, s, m, args, below, meth, c, Q, A, n'⟩ := X
  obtain ⟨hx, hb, hml, hts, hown, ⟨hK, hNK, hZS⟩, hA, hn, hd1, hd2, hd3, hd4⟩ := C
  subst hn
  intro H locs ls hP hD hS hl
  refine va_newa (atype := .int) (ty := .int) (a0 := (N, .inl (fun _ => 0))) hx hb (hts _ harr) rfl hK hP hD hS hA (fun cA => rfl) hn0 hN (by show N * 4 ≤ 536870912; omega) (by omega) (by omega) hdg (fun q cA H1 hK1 hP1 hD1 hS1 => ?_)
  have h1 := (hK1.2 4 (cA, .int) rfl).2
  have h2 := (hK.2 0 _ rfl).2
  have h3 : some cA = some (gI g) := h1.symm.trans h2
  cases h3
  exact kk q H1 locs ls hP1 hD1 hS1 hl
theorem V_newaC {g : Gd} {X : Bd} {own : String} {cc : ByteArray} {n d mc ms cs ss pc : Nat} {ws : va_W} {L : List (Nat × Value)} {st : List Value} {nn : Int32} {N : Nat} (C : Cx g X own cc n d mc ms) (harr : Cond.arrayClass .char ∈ tg) (hn0 : ¬ nn < 0) (hN : nn.toNatClampNeg = N) (hby : N ≤ 65536) (hcs : cs + 1 ≤ mc ∧ ss + N ≤ ms) (hdg : decode cc pc = .ok (.newarray .char, 2)) (kk : ∀ q : Nat, V g X (cs + 1) (ss + N) (ws ++ [(q, .inl (gC g, N, .inl (fun _ => 0)))]) (pc + 2) L (.ref q :: st)) : V g X cs ss ws pc L (.int nn :: st) := by
  obtain ⟨p, l, e, R, s, m, args, below, meth, c, Q, A, n'⟩ := X
  obtain ⟨hx, hb, hml, hts, hown, ⟨hK, hNK, hZS⟩, hA, hn, hd1, hd2, hd3, hd4⟩ := C
  subst hn
  intro H locs ls hP hD hS hl
  refine va_newa (atype := .char) (ty := .char) (a0 := (N, .inl (fun _ => 0))) hx hb (hts _ harr) rfl hK hP hD hS hA (fun cA => rfl) hn0 hN (by show N * 2 ≤ 536870912; omega) (by omega) (by omega) hdg (fun q cA H1 hK1 hP1 hD1 hS1 => ?_)
  have h1 := (hK1.2 4 (cA, .char) rfl).2
  have h2 := (hK.2 1 _ rfl).2
  have h3 : some cA = some (gC g) := h1.symm.trans h2
  cases h3
  exact kk q H1 locs ls hP1 hD1 hS1 hl
theorem V_newaZ {g : Gd} {X : Bd} {own : String} {cc : ByteArray} {n d mc ms cs ss pc : Nat} {ws : va_W} {L : List (Nat × Value)} {st : List Value} {nn : Int32} {N : Nat} (C : Cx g X own cc n d mc ms) (harr : Cond.arrayClass .boolean ∈ tg) (hn0 : ¬ nn < 0) (hN : nn.toNatClampNeg = N) (hby : N ≤ 65536) (hcs : cs + 1 ≤ mc ∧ ss + N ≤ ms) (hdg : decode cc pc = .ok (.newarray .boolean, 2)) (kk : ∀ q : Nat, V g X (cs + 1) (ss + N) (ws ++ [(q, .inl (gZ g, N, .inl (fun _ => 0)))]) (pc + 2) L (.ref q :: st)) : V g X cs ss ws pc L (.int nn :: st) := by
  obtain ⟨p, l, e, R, s, m, args, below, meth, c, Q, A, n'⟩ := X
  obtain ⟨hx, hb, hml, hts, hown, ⟨hK, hNK, hZS⟩, hA, hn, hd1, hd2, hd3, hd4⟩ := C
  subst hn
  intro H locs ls hP hD hS hl
  refine va_newa (atype := .boolean) (ty := .boolean) (a0 := (N, .inl (fun _ => 0))) hx hb (hts _ harr) rfl hK hP hD hS hA (fun cA => rfl) hn0 hN (by show N * 1 ≤ 536870912; omega) (by omega) (by omega) hdg (fun q cA H1 hK1 hP1 hD1 hS1 => ?_)
  have h1 := (hK1.2 4 (cA, .boolean) rfl).2
  have h2 := (hK.2 2 _ rfl).2
  have h3 : some cA = some (gZ g) := h1.symm.trans h2
  cases h3
  exact kk q H1 locs ls hP1 hD1 hS1 hl
theorem V_newq {g : Gd} {X : Bd} {own : String} {cc : ByteArray} {n d mc ms cs ss pc : Nat} {ws : va_W} {L : List (Nat × Value)} {st : List Value} {index : Nat} {nn : Int32} {N : Nat} (C : Cx g X own cc n d mc ms) (hcl : Cond.classLink own index "FareDrops$Meter" ∈ tg) (hn0 : ¬ nn < 0) (hN : nn.toNatClampNeg = N) (hby : N ≤ 65536) (hcs : cs + 1 ≤ mc ∧ ss + N ≤ ms) (hdg : decode cc pc = .ok (.anewarray index, 3)) (kk : ∀ q : Nat, V g X (cs + 1) (ss + N) (ws ++ [(q, .inl (gM g, N, .inr (.inr (.inr (.inr (fun _ => none))))))]) (pc + 3) L (.ref q :: st)) : V g X cs ss ws pc L (.int nn :: st) := by
  obtain ⟨p, l, e, R, s, m, args, below, meth, c, Q, A, n'⟩ := X
  obtain ⟨hx, hb, hml, hts, hown, ⟨hK, hNK, hZS⟩, hA, hn, hd1, hd2, hd3, hd4⟩ := C
  subst hn
  intro H locs ls hP hD hS hl
  refine va_newq (C := "FareDrops$Meter") hx hb hown (hts _ hcl) hZS.2.2.2 hK hP hD hS hA hn0 hN (by omega) (by omega) (by omega) hdg (fun q cA H1 hK1 hP1 hD1 hS1 => ?_)
  obtain ⟨kA, comp, -, -, -, h1⟩ := (hK1.2 4 (cA, .object "FareDrops$Meter") rfl).2
  obtain ⟨kB, comp2, -, -, -, h2⟩ := (hK.2 3 _ rfl).2
  have h3 : some cA = some (gM g) := h1.symm.trans h2
  cases h3
  exact kk q H1 locs ls hP1 hD1 hS1 hl
theorem V_obj {g : Gd} {X : Bd} {own : String} {cc : ByteArray} {n d mc ms cs ss pc : Nat} {ws : va_W} {L : List (Nat × Value)} {st : List Value} {index a : Nat} (C : Cx g X own cc n d mc ms) (hlink : Cond.methodLink own index Lib.objectInit ∈ tg) (hinst : Cond.instanceMethod Lib.objectInit ∈ tg) (hcode : Cond.code Lib.objectInit ⟨#[0xb1]⟩ 1 none ∈ tg) (hrest : (st.map fun v => v.category).sum ≤ 8) (hd : 1 ≤ d) (hdg : decode cc pc = .ok (.invokespecial index, 3)) (kk : V g X cs ss ws (pc + 3) L st) : V g X cs ss ws pc L (.ref a :: st) := by
  obtain ⟨p, l, e, R, s, m, args, below, meth, c, Q, A, n'⟩ := X
  obtain ⟨hx, hb, hml, hts, hown, ⟨hK, hNK, hZS⟩, hA, hn, hd1, hd2, hd3, hd4⟩ := C
  subst hn
  intro H locs ls hP hD hS hl
  refine W.objInit (g := F0 m pc ls (.ref a :: st)) hx hb hown (hts _ hlink) (hts _ hinst) (hts _ hcode) rfl (hl.1.trans hml.symm) rfl hdg (by omega) ?_ (kk H locs ls hP hD hS hl)
  show 2 * 0 + _ + 12 ≤ _
  omega
end
section

/-! numbers: indices, ranges -/
theorem co_math_min : Cond.code Lib.Math.min.name Lib.Math.min.code 2 (some .int) ∈ tg := co_J9_min_7cf53
theorem co_math_max : Cond.code Lib.Math.max.name Lib.Math.max.code 2 (some .int) ∈ tg := co_J9_max_7cf53
theorem ix_n0 {i : Int32} {k n : Nat} (h : ix i k n) : ¬ i < 0 := fun q => h.1 (Or.inl q)
theorem ix_k {i : Int32} {k n : Nat} (h : ix i k n) : i = nI k ∧ k < n := by
  obtain ⟨h1, rfl⟩ := h
  have h0 : ¬ i < 0 := fun q => h1 (Or.inl q)
  obtain ⟨j, hj, rfl⟩ := nI_of h0
  rw [nI_clamp hj]
  refine ⟨rfl, Nat.not_le.mp fun q => h1 (Or.inr ?_)⟩
  rw [nI_clamp hj]
  exact q
theorem ix_nge {i : Int32} {k n : Nat} (h : ix i k n) (hn : n < 2 ^ 31) : ¬ nI n ≤ i := by
  obtain ⟨rfl, hk⟩ := ix_k h
  exact nI_ge hk hn
theorem lp_lt {j : Nat} {n : Int32} (N : Nat) (hn : n = nI N) (hN : N < 2 ^ 31) (hj : j < 2 ^ 31) (h : ¬ n ≤ nI j) : j < N := by
  subst hn
  rcases Nat.lt_or_ge j N with q | q
  · exact q
  · exact absurd (nI_le q hj) h
theorem lp_ge {j : Nat} {n : Int32} (N : Nat) (hn : n = nI N) (hN : N < 2 ^ 31) (hj : j < 2 ^ 31) (h : n ≤ nI j) : N ≤ j := by
  subst hn
  rcases Nat.lt_or_ge j N with q | q
  · exact absurd h (nI_ge q hN)
  · exact q
def zer (f : Nat → Int32) (a b : Nat) : Nat → Int32 := fun k => if a ≤ k ∧ k < b then 0 else f k
theorem zer_i {f : Nat → Int32} {a b k : Nat} (h : a ≤ k ∧ k < b) : zer f a b k = 0 := if_pos h
theorem zer_n {f : Nat → Int32} {a b k : Nat} (h : ¬ (a ≤ k ∧ k < b)) : zer f a b k = f k := if_neg h
def okD (p s : Int32) : Prop := ¬ p < 0 ∧ ¬ 9999 < p ∧ ¬ s < 1 ∧ ¬ 9999 < s
/-- a value between two written numbers -/
theorem rg_nI {x lo hi : Int32} (a b : Nat) (hlo : lo = nI a) (hhi : hi = nI b) (ha : a ≤ b) (hb : b < 2 ^ 31) (h1 : ¬ x < lo) (h2 : ¬ hi < x) : ∃ j : Nat, a ≤ j ∧ j ≤ b ∧ x = nI j := by
  subst hlo; subst hhi
  have e1 : (nI a) ≤ x := Int32.not_lt.mp h1
  have e2 : x ≤ nI b := Int32.not_lt.mp h2
  have h0 : ¬ x < 0 := by
    intro q
    have q1 := Int32.lt_iff_toInt_lt.mp q
    have q2 := Int32.le_iff_toInt_le.mp e1
    rw [nI_toInt (by omega)] at q2
    have : (0 : Int32).toInt = 0 := by decide
    omega
  obtain ⟨j, hj, rfl⟩ := nI_of h0
  exact ⟨j, (nI_leI (by omega) hj).mp e1, (nI_leI hj hb).mp e2, rfl⟩
theorem cpy_all {f g : Nat → Int32} {n : Nat} (hn : n < 2 ^ 31) : ∀ j, j < n → va_cpy f g (Int32.toNatClampNeg 0) (Int32.toNatClampNeg 0) (Int32.toNatClampNeg (nI n)) j = f j := by
  intro j hj
  have h0 : (0 : Int32).toNatClampNeg = 0 := by decide
  rw [nI_clamp hn, h0, pk_cpy_in (Nat.zero_le j) (by omega)]
  congr 1
  omega
theorem min_same {x : Int32} : (if x < x then x else x) = x := by split <;> rfl
theorem upd_s {f : Nat → Int32} {k : Nat} {x : Int32} : upd f k x k = x := pk_us
theorem upd_n {f : Nat → Int32} {k j : Nat} {x : Int32} (h : j ≠ k) : upd f k x j = f j := pk_un h
end
section

set_option maxRecDepth 100000 in
set_option maxHeartbeats 4000000 in
theorem c_X9_isIn (g : Gd) (v : Int32) (lo : Int32) (hi : Int32)  : Ki g yX9_isIn cX9_isIn 3 (some .boolean) 0 0 0 [.int v, .int lo, .int hi] [] (fun (r : Int32) (w : va_W) => (¬ v < lo ∧ ¬ hi < v ∧ r = 1 ∧ w = []) ∨ ((v < lo ∨ hi < v) ∧ r = 0 ∧ w = [])) := by
  refine Kz.of (by decide) (Nat.le_of_ble_eq_true rfl) (fun X C hI hret => ?_)
  show V g X 0 0 [] 0 [(0, .int v), (1, .int lo), (2, .int hi)] []
  refine V_iload_n C 0 dX9_isIn_0 rfl rfl ?_
  refine V_iload_n C 1 dX9_isIn_1 rfl rfl ?_
  refine V_icmp_lt (tgt := 14) C dX9_isIn_2 (by decide) (fun c_2 => ?_) (fun c_2 => ?_)
  · refine V_iconst (v := 0) C dX9_isIn_14 (by decide) ?_
    refine hret _ _ _ _ dX9_isIn_15 (by first | rfl | (split <;> rfl) | decide) ?_
    exact Or.inr ⟨Or.inl c_2, rfl, rfl⟩
  · refine V_iload_n C 0 dX9_isIn_5 rfl rfl ?_
    refine V_iload_n C 2 dX9_isIn_6 rfl rfl ?_
    refine V_icmp_gt (tgt := 14) C dX9_isIn_7 (by decide) (fun c_7 => ?_) (fun c_7 => ?_)
    · refine V_iconst (v := 0) C dX9_isIn_14 (by decide) ?_
      refine hret _ _ _ _ dX9_isIn_15 (by first | rfl | (split <;> rfl) | decide) ?_
      exact Or.inr ⟨Or.inr c_7, rfl, rfl⟩
    · refine V_iconst (v := 1) C dX9_isIn_10 (by decide) ?_
      refine V_goto (tgt := 15) C dX9_isIn_11 (by decide) ?_
      refine hret _ _ _ _ dX9_isIn_15 (by first | rfl | (split <;> rfl) | decide) ?_
      exact Or.inl ⟨c_2, c_7, rfl, rfl⟩
set_option maxRecDepth 100000 in
set_option maxHeartbeats 4000000 in
theorem c_X9_isDrive (g : Gd) (p : Int32) (q : Int32)  : Ki g yX9_isDrive cX9_isDrive 2 (some .boolean) 1 0 0 [.int p, .int q] [] (fun (r : Int32) (w : va_W) => (okD p q ∧ r = 1 ∧ w = []) ∨ (¬ okD p q ∧ r = 0 ∧ w = [])) := by
  refine Kz.of (by decide) (Nat.le_of_ble_eq_true rfl) (fun X C hI hret => ?_)
  show V g X 0 0 [] 0 [(0, .int p), (1, .int q)] []
  refine V_iload_n C 0 dX9_isDrive_0 rfl rfl ?_
  refine V_iconst (v := 0) C dX9_isDrive_1 (by decide) ?_
  refine V_sipush (v := 9999) C dX9_isDrive_2 (by decide) ?_
  refine V_callSi (na := 3) (As := [.int p, .int 0, .int 9999]) (rest := []) (wr := []) C (c_X9_isIn g p 0 9999 ) ⟨⟨ini_X9, co_X9_isIn, ⟨by decide, by decide, by decide +kernel⟩, by decide⟩, ml_X9_51, sm_X9_isIn⟩ [] [] rfl rfl rfl rfl (by decide) rfl rfl (Nat.le_of_ble_eq_true rfl) (by omega) (by omega) dX9_isDrive_5 (fun r_1 w_ hw_2 => ?_)
  rcases hw_2 with ⟨hf2_0, hf2_1, rfl, rfl⟩ | ⟨hf2_0, rfl, rfl⟩
  · refine V_to (ws2 := []) ?_ rfl
    refine V_if_eq (tgt := 26) C dX9_isDrive_8 (by decide) (fun h => absurd h (by decide)) (fun _ => ?_)
    refine V_iload_n C 1 dX9_isDrive_11 rfl rfl ?_
    refine V_iconst (v := 1) C dX9_isDrive_12 (by decide) ?_
    refine V_sipush (v := 9999) C dX9_isDrive_13 (by decide) ?_
    refine V_callSi (na := 3) (As := [.int q, .int 1, .int 9999]) (rest := []) (wr := []) C (c_X9_isIn g q 1 9999 ) ⟨⟨ini_X9, co_X9_isIn, ⟨by decide, by decide, by decide +kernel⟩, by decide⟩, ml_X9_51, sm_X9_isIn⟩ [] [] rfl rfl rfl rfl (by decide) rfl rfl (Nat.le_of_ble_eq_true rfl) (by omega) (by omega) dX9_isDrive_16 (fun r_3 w_ hw_4 => ?_)
    rcases hw_4 with ⟨hf4_0, hf4_1, rfl, rfl⟩ | ⟨hf4_0, rfl, rfl⟩
    · refine V_to (ws2 := []) ?_ rfl
      refine V_if_eq (tgt := 26) C dX9_isDrive_19 (by decide) (fun h => absurd h (by decide)) (fun _ => ?_)
      refine V_iconst (v := 1) C dX9_isDrive_22 (by decide) ?_
      refine V_goto (tgt := 27) C dX9_isDrive_23 (by decide) ?_
      refine hret _ _ _ _ dX9_isDrive_27 (by first | rfl | (split <;> rfl) | decide) ?_
      exact Or.inl ⟨⟨hf2_0, hf2_1, hf4_0, hf4_1⟩, rfl, rfl⟩
    · refine V_to (ws2 := []) ?_ rfl
      refine V_if_eq (tgt := 26) C dX9_isDrive_19 (by decide) (fun _ => ?_) (fun h => absurd (by decide) h)
      refine V_iconst (v := 0) C dX9_isDrive_26 (by decide) ?_
      refine hret _ _ _ _ dX9_isDrive_27 (by first | rfl | (split <;> rfl) | decide) ?_
      exact Or.inr ⟨fun h => (hf4_0).elim h.2.2.1 h.2.2.2, rfl, rfl⟩
  · refine V_to (ws2 := []) ?_ rfl
    refine V_if_eq (tgt := 26) C dX9_isDrive_8 (by decide) (fun _ => ?_) (fun h => absurd (by decide) h)
    refine V_iconst (v := 0) C dX9_isDrive_26 (by decide) ?_
    refine hret _ _ _ _ dX9_isDrive_27 (by first | rfl | (split <;> rfl) | decide) ?_
    exact Or.inr ⟨fun h => (hf2_0).elim h.1 h.2.1, rfl, rfl⟩
set_option maxRecDepth 100000 in
set_option maxHeartbeats 4000000 in
theorem c_X9_at (g : Gd) (a0 : Nat) (n : Nat) (f : Nat → Int32) (i : Int32) (k : Nat) (hi : ix i k n) (hn : n < 2 ^ 31) : Ki g yX9_at cX9_at 2 (some .int) 0 0 0 [.ref a0, .int i] [(a0, .inl (gI g, n, .inl f))] (fun (r : Int32) (w : va_W) => r = f k ∧ w = [(a0, .inl (gI g, n, .inl f))]) := by
  refine Ki.of (by decide) (Nat.le_of_ble_eq_true rfl) (fun X C hI hret => ?_)
  show V g X 0 0 [(a0, .inl (gI g, n, .inl f))] 0 [(0, .ref a0), (1, .int i)] []
  refine V_iload_n C 1 dX9_at_0 rfl rfl ?_
  refine V_if_lt (tgt := 16) C dX9_at_1 (by decide) (fun h => absurd h (ix_n0 hi)) (fun _ => ?_)
  refine V_iload_n C 1 dX9_at_4 rfl rfl ?_
  refine V_aload_n C 0 dX9_at_5 rfl rfl ?_
  refine V_alenI (v := nI n) C 0 rfl rfl dX9_at_6 ?_
  refine V_icmp_ge (tgt := 16) C dX9_at_7 (by decide) (fun h => absurd h (ix_nge hi hn)) (fun _ => ?_)
  refine V_aload_n C 0 dX9_at_10 rfl rfl ?_
  refine V_iload_n C 1 dX9_at_11 rfl rfl ?_
  refine V_iald C 0 rfl hi dX9_at_12 ?_
  refine V_goto (tgt := 17) C dX9_at_13 (by decide) ?_
  refine hret _ _ _ _ dX9_at_17 ?_
  exact ⟨rfl, rfl⟩
set_option maxRecDepth 100000 in
set_option maxHeartbeats 4000000 in
theorem c_X9_setAt (g : Gd) (a0 : Nat) (n : Nat) (f : Nat → Int32) (i : Int32) (k : Nat) (x : Int32) (hi : ix i k n) (hn : n < 2 ^ 31) : Kv g yX9_setAt cX9_setAt 3 none 0 0 0 [.ref a0, .int i, .int x] [(a0, .inl (gI g, n, .inl f))] (fun (w : va_W) => w = [(a0, .inl (gI g, n, .inl (upd f k x)))]) := by
  refine Kv.of (by decide) (Nat.le_of_ble_eq_true rfl) (fun X C hI hret => ?_)
  show V g X 0 0 [(a0, .inl (gI g, n, .inl f))] 0 [(0, .ref a0), (1, .int i), (2, .int x)] []
  refine V_iload_n C 1 dX9_setAt_0 rfl rfl ?_
  refine V_if_lt (tgt := 14) C dX9_setAt_1 (by decide) (fun h => absurd h (ix_n0 hi)) (fun _ => ?_)
  refine V_iload_n C 1 dX9_setAt_4 rfl rfl ?_
  refine V_aload_n C 0 dX9_setAt_5 rfl rfl ?_
  refine V_alenI (v := nI n) C 0 rfl rfl dX9_setAt_6 ?_
  refine V_icmp_ge (tgt := 14) C dX9_setAt_7 (by decide) (fun h => absurd h (ix_nge hi hn)) (fun _ => ?_)
  refine V_aload_n C 0 dX9_setAt_10 rfl rfl ?_
  refine V_iload_n C 1 dX9_setAt_11 rfl rfl ?_
  refine V_iload_n C 2 dX9_setAt_12 rfl rfl ?_
  refine V_iast (ws2 := [(a0, .inl (gI g, n, .inl (upd f k x)))]) C 0 rfl hi dX9_setAt_13 rfl ?_
  refine hret _ _ _ dX9_setAt_14 ?_
  exact rfl
set_option maxRecDepth 100000 in
set_option maxHeartbeats 4000000 in
theorem c_X9_copyRow (g : Gd) (a0 : Nat) (a1 : Nat) (n : Nat) (f : Nat → Int32) (f2 : Nat → Int32) (hn : n < 2 ^ 31) : Kv g yX9_copyRow cX9_copyRow 2 none 1 0 0 [.ref a0, .ref a1] [(a0, .inl (gI g, n, .inl f)), (a1, .inl (gI g, n, .inl f2))] (fun (w : va_W) => w = [(a0, .inl (gI g, n, .inl f)), (a1, .inl (gI g, n, .inl f))]) := by
  refine Kv.of (by decide) (Nat.le_of_ble_eq_true rfl) (fun X C hI hret => ?_)
  show V g X 0 0 [(a0, .inl (gI g, n, .inl f)), (a1, .inl (gI g, n, .inl f2))] 0 [(0, .ref a0), (1, .ref a1)] []
  refine V_aload_n C 0 dX9_copyRow_0 rfl rfl ?_
  refine V_iconst (v := 0) C dX9_copyRow_1 (by decide) ?_
  refine V_aload_n C 1 dX9_copyRow_2 rfl rfl ?_
  refine V_iconst (v := 0) C dX9_copyRow_3 (by decide) ?_
  refine V_aload_n C 0 dX9_copyRow_4 rfl rfl ?_
  refine V_alenI (v := nI n) C 0 rfl rfl dX9_copyRow_5 ?_
  refine V_aload_n C 1 dX9_copyRow_6 rfl rfl ?_
  refine V_alenI (v := nI n) C 1 rfl rfl dX9_copyRow_7 ?_
  refine V_min C ml_X9_241 sm_math_min ini_math co_math_min (Nat.le_of_ble_eq_true rfl) (by omega) (by omega) dX9_copyRow_8 ?_
  refine V_ev (show (if (nI n) < (nI n) then (nI n) else (nI n) : Int32) = nI n from min_same) ?_
  refine V_copy (ws2 := [(a0, .inl (gI g, n, .inl f)), (a1, .inl (gI g, n, .inl (va_cpy f f2 (Int32.toNatClampNeg 0) (Int32.toNatClampNeg 0) (Int32.toNatClampNeg (nI n)))))]) C 0 1 ml_X9_246 nm_arraycopy sm_arraycopy ini_system rfl rfl (by decide) (by decide) (nI_pos hn) (by rw [nI_clamp hn, show (0 : Int32).toNatClampNeg = 0 from by decide]; omega) (by rw [nI_clamp hn, show (0 : Int32).toNatClampNeg = 0 from by decide]; omega) (Nat.le_of_ble_eq_true rfl) (by omega) dX9_copyRow_11 rfl ?_
  refine V_ext (f2 := f) (ws2 := [(a0, .inl (gI g, n, .inl f)), (a1, .inl (gI g, n, .inl f))]) 1 rfl (cpy_all hn) rfl ?_
  refine hret _ _ _ dX9_copyRow_14 ?_
  exact rfl
end
section

def hcnt (f : Nat → Int32) (t : Int32) : Nat → Int32
  | 0 => 0
  | n + 1 => if f n = t then hcnt f t n + 1 else hcnt f t n
theorem min_nI (a b : Nat) (ha : a < 2 ^ 31) (hb : b < 2 ^ 31) : (if nI b < nI a then nI b else nI a) = nI (min a b) := by
  by_cases h : b < a
  · rw [if_pos ((nI_ltI hb ha).mpr h), Nat.min_eq_right (by omega)]
  · rw [if_neg (fun q => h ((nI_ltI hb ha).mp q)), Nat.min_eq_left (by omega)]
theorem nI_sub1 (n : Nat) : nI (n + 1) - 1 = nI n := nI_pred n

set_option maxRecDepth 100000 in
set_option maxHeartbeats 4000000 in
theorem c_X8_about (g : Gd) (h0 : Nat) (h1 : Nat) (h2 : Nat) (N0 : Nat → Int32) (t : Nat) (w0 : Nat) (ht : t < 3) (hw : w0 < 4) : Ki g yX8_about cX8_about 3 (some .int) 1 0 0 [.ref h0, .int (nI t), .int (nI w0)] [(h0, .inr (8, [.ref h1, .ref h2])), (h1, .inl (gI g, 12, .inl N0))] (fun (r : Int32) (w : va_W) => r = N0 (t * 4 + w0) ∧ w = [(h0, .inr (8, [.ref h1, .ref h2])), (h1, .inl (gI g, 12, .inl N0))]) := by
  refine Ki.of (by decide) (Nat.le_of_ble_eq_true rfl) (fun X C hI hret => ?_)
  show V g X 0 0 [(h0, .inr (8, [.ref h1, .ref h2])), (h1, .inl (gI g, 12, .inl N0))] 0 [(0, .ref h0), (1, .int (nI t)), (2, .int (nI w0))] []
  refine V_aload_n C 0 dX8_about_0 rfl rfl ?_
  refine V_get (v := .ref h1) C 0 rfl rfl in_X8 0 (by decide) fl_X8_9 rfl rfl dX8_about_1 ?_
  refine V_iload_n C 1 dX8_about_4 rfl rfl ?_
  refine V_iconst (v := 4) C dX8_about_5 (by decide) ?_
  refine V_imul C dX8_about_6 ?_
  refine V_ev (show ((nI t) * 4 : Int32) = nI (t * 4) from pk_mul t 4) ?_
  refine V_iload_n C 2 dX8_about_7 rfl rfl ?_
  refine V_iadd C dX8_about_8 ?_
  refine V_ev (show ((nI (t * 4)) + (nI w0) : Int32) = nI ((t * 4) + w0) from nI_add (t * 4) w0) ?_
  refine V_callNi (na := 2) (As := [.ref h1, .int (nI ((t * 4) + w0))]) (rest := []) (wr := [(h0, .inr (8, [.ref h1, .ref h2]))]) C (c_X9_at g h1 12 N0 (nI ((t * 4) + w0)) ((t * 4) + w0) (show ix (nI ((t * 4) + w0)) ((t * 4) + w0) 12 from by first | assumption | omega | exact ix_nI (by omega) (by omega) | decide) (show 12 < 2 ^ 31 from by first | assumption | omega | exact ix_nI (by omega) (by omega) | decide)) ⟨⟨ini_X9, co_X9_at, ⟨by decide, by decide, by decide +kernel⟩, by decide⟩, ⟨_, ml_X8_22⟩, sm_X9_at⟩ [1] [0] rfl rfl rfl rfl (by decide) rfl rfl (Nat.le_of_ble_eq_true rfl) (by omega) (by omega) dX8_about_9 (fun r_1 w_ hw_2 => ?_)
  obtain ⟨rfl, rfl⟩ := hw_2
  refine V_to (ws2 := [(h0, .inr (8, [.ref h1, .ref h2])), (h1, .inl (gI g, 12, .inl N0))]) ?_ rfl
  refine hret _ _ _ _ dX8_about_12 ?_
  exact ⟨rfl, rfl⟩
set_option maxRecDepth 100000 in
set_option maxHeartbeats 4000000 in
theorem c_X8_change (g : Gd) (h0 : Nat) (h1 : Nat) (h2 : Nat) (N0 : Nat → Int32) (t : Nat) (w0 : Nat) (x : Int32) (ht : t < 3) (hw : w0 < 4) : Kv g yX8_change cX8_change 4 none 1 0 0 [.ref h0, .int (nI t), .int (nI w0), .int x] [(h0, .inr (8, [.ref h1, .ref h2])), (h1, .inl (gI g, 12, .inl N0))] (fun (w : va_W) => w = [(h0, .inr (8, [.ref h1, .ref h2])), (h1, .inl (gI g, 12, .inl (upd N0 (t * 4 + w0) x)))]) := by
  refine Kv.of (by decide) (Nat.le_of_ble_eq_true rfl) (fun X C hI hret => ?_)
  show V g X 0 0 [(h0, .inr (8, [.ref h1, .ref h2])), (h1, .inl (gI g, 12, .inl N0))] 0 [(0, .ref h0), (1, .int (nI t)), (2, .int (nI w0)), (3, .int x)] []
  refine V_aload_n C 0 dX8_change_0 rfl rfl ?_
  refine V_get (v := .ref h1) C 0 rfl rfl in_X8 0 (by decide) fl_X8_9 rfl rfl dX8_change_1 ?_
  refine V_iload_n C 1 dX8_change_4 rfl rfl ?_
  refine V_iconst (v := 4) C dX8_change_5 (by decide) ?_
  refine V_imul C dX8_change_6 ?_
  refine V_ev (show ((nI t) * 4 : Int32) = nI (t * 4) from pk_mul t 4) ?_
  refine V_iload_n C 2 dX8_change_7 rfl rfl ?_
  refine V_iadd C dX8_change_8 ?_
  refine V_ev (show ((nI (t * 4)) + (nI w0) : Int32) = nI ((t * 4) + w0) from nI_add (t * 4) w0) ?_
  refine V_iload_n C 3 dX8_change_9 rfl rfl ?_
  refine V_callNv (na := 3) (As := [.ref h1, .int (nI ((t * 4) + w0)), .int x]) (rest := []) (wr := [(h0, .inr (8, [.ref h1, .ref h2]))]) C (c_X9_setAt g h1 12 N0 (nI ((t * 4) + w0)) ((t * 4) + w0) x (show ix (nI ((t * 4) + w0)) ((t * 4) + w0) 12 from by first | assumption | omega | exact ix_nI (by omega) (by omega) | decide) (show 12 < 2 ^ 31 from by first | assumption | omega | exact ix_nI (by omega) (by omega) | decide)) ⟨⟨ini_X9, co_X9_setAt, ⟨by decide, by decide, by decide +kernel⟩, by decide⟩, ⟨_, ml_X8_26⟩, sm_X9_setAt⟩ [1] [0] rfl rfl rfl rfl (by decide) rfl rfl (Nat.le_of_ble_eq_true rfl) (by omega) (by omega) dX8_change_10 (fun w_ hw_2 => ?_)
  obtain rfl := hw_2
  refine V_to (ws2 := [(h0, .inr (8, [.ref h1, .ref h2])), (h1, .inl (gI g, 12, .inl (upd N0 ((t * 4) + w0) x)))]) ?_ rfl
  refine hret _ _ _ dX8_change_13 ?_
  exact rfl
set_option maxRecDepth 100000 in
set_option maxHeartbeats 4000000 in
theorem c_X8_ofHour (g : Gd) (h0 : Nat) (h1 : Nat) (h2 : Nat) (Hh : Nat → Int32) (t : Nat) (ht : t < 24) : Ki g yX8_ofHour cX8_ofHour 2 (some .int) 1 0 0 [.ref h0, .int (nI t)] [(h0, .inr (8, [.ref h1, .ref h2])), (h2, .inl (gI g, 24, .inl Hh))] (fun (r : Int32) (w : va_W) => r = Hh t ∧ w = [(h0, .inr (8, [.ref h1, .ref h2])), (h2, .inl (gI g, 24, .inl Hh))]) := by
  refine Ki.of (by decide) (Nat.le_of_ble_eq_true rfl) (fun X C hI hret => ?_)
  show V g X 0 0 [(h0, .inr (8, [.ref h1, .ref h2])), (h2, .inl (gI g, 24, .inl Hh))] 0 [(0, .ref h0), (1, .int (nI t))] []
  refine V_aload_n C 0 dX8_ofHour_0 rfl rfl ?_
  refine V_get (v := .ref h2) C 0 rfl rfl in_X8 1 (by decide) fl_X8_15 rfl rfl dX8_ofHour_1 ?_
  refine V_iload_n C 1 dX8_ofHour_4 rfl rfl ?_
  refine V_callNi (na := 2) (As := [.ref h2, .int (nI t)]) (rest := []) (wr := [(h0, .inr (8, [.ref h1, .ref h2]))]) C (c_X9_at g h2 24 Hh (nI t) t (show ix (nI t) t 24 from by first | assumption | omega | exact ix_nI (by omega) (by omega) | decide) (show 24 < 2 ^ 31 from by first | assumption | omega | exact ix_nI (by omega) (by omega) | decide)) ⟨⟨ini_X9, co_X9_at, ⟨by decide, by decide, by decide +kernel⟩, by decide⟩, ⟨_, ml_X8_22⟩, sm_X9_at⟩ [1] [0] rfl rfl rfl rfl (by decide) rfl rfl (Nat.le_of_ble_eq_true rfl) (by omega) (by omega) dX8_ofHour_5 (fun r_1 w_ hw_2 => ?_)
  obtain ⟨rfl, rfl⟩ := hw_2
  refine V_to (ws2 := [(h0, .inr (8, [.ref h1, .ref h2])), (h2, .inl (gI g, 24, .inl Hh))]) ?_ rfl
  refine hret _ _ _ _ dX8_ofHour_8 ?_
  exact ⟨rfl, rfl⟩
set_option maxRecDepth 100000 in
set_option maxHeartbeats 4000000 in
theorem c_X8_ofSecond (g : Gd) (h0 : Nat) (h1 : Nat) (h2 : Nat) (Hh : Nat → Int32) (t : Nat) (ht : t < 86400) : Ki g yX8_ofSecond cX8_ofSecond 2 (some .int) 1 0 0 [.ref h0, .int (nI t)] [(h0, .inr (8, [.ref h1, .ref h2])), (h2, .inl (gI g, 24, .inl Hh))] (fun (r : Int32) (w : va_W) => r = Hh (t / 3600) ∧ w = [(h0, .inr (8, [.ref h1, .ref h2])), (h2, .inl (gI g, 24, .inl Hh))]) := by
  refine Ki.of (by decide) (Nat.le_of_ble_eq_true rfl) (fun X C hI hret => ?_)
  show V g X 0 0 [(h0, .inr (8, [.ref h1, .ref h2])), (h2, .inl (gI g, 24, .inl Hh))] 0 [(0, .ref h0), (1, .int (nI t))] []
  refine V_aload_n C 0 dX8_ofSecond_0 rfl rfl ?_
  refine V_get (v := .ref h2) C 0 rfl rfl in_X8 1 (by decide) fl_X8_15 rfl rfl dX8_ofSecond_1 ?_
  refine V_iload_n C 1 dX8_ofSecond_4 rfl rfl ?_
  refine V_sipush (v := 3600) C dX8_ofSecond_5 (by decide) ?_
  refine V_idiv C dX8_ofSecond_8 (by decide) ?_
  refine V_ev (show ((nI t) / 3600 : Int32) = nI (t / 3600) from pk_div (d := 3600) (by omega) (by omega) (by omega)) ?_
  refine V_callNi (na := 2) (As := [.ref h2, .int (nI (t / 3600))]) (rest := []) (wr := [(h0, .inr (8, [.ref h1, .ref h2]))]) C (c_X9_at g h2 24 Hh (nI (t / 3600)) (t / 3600) (show ix (nI (t / 3600)) (t / 3600) 24 from by first | assumption | omega | exact ix_nI (by omega) (by omega) | decide) (show 24 < 2 ^ 31 from by first | assumption | omega | exact ix_nI (by omega) (by omega) | decide)) ⟨⟨ini_X9, co_X9_at, ⟨by decide, by decide, by decide +kernel⟩, by decide⟩, ⟨_, ml_X8_22⟩, sm_X9_at⟩ [1] [0] rfl rfl rfl rfl (by decide) rfl rfl (Nat.le_of_ble_eq_true rfl) (by omega) (by omega) dX8_ofSecond_9 (fun r_1 w_ hw_2 => ?_)
  obtain ⟨rfl, rfl⟩ := hw_2
  refine V_to (ws2 := [(h0, .inr (8, [.ref h1, .ref h2])), (h2, .inl (gI g, 24, .inl Hh))]) ?_ rfl
  refine hret _ _ _ _ dX8_ofSecond_12 ?_
  exact ⟨rfl, rfl⟩
set_option maxRecDepth 100000 in
set_option maxHeartbeats 4000000 in
theorem c_X8_giveHour (g : Gd) (h0 : Nat) (h1 : Nat) (h2 : Nat) (Hh : Nat → Int32) (t : Nat) (x : Int32) (ht : t < 24) : Kv g yX8_giveHour cX8_giveHour 3 none 1 0 0 [.ref h0, .int (nI t), .int x] [(h0, .inr (8, [.ref h1, .ref h2])), (h2, .inl (gI g, 24, .inl Hh))] (fun (w : va_W) => w = [(h0, .inr (8, [.ref h1, .ref h2])), (h2, .inl (gI g, 24, .inl (upd Hh t x)))]) := by
  refine Kv.of (by decide) (Nat.le_of_ble_eq_true rfl) (fun X C hI hret => ?_)
  show V g X 0 0 [(h0, .inr (8, [.ref h1, .ref h2])), (h2, .inl (gI g, 24, .inl Hh))] 0 [(0, .ref h0), (1, .int (nI t)), (2, .int x)] []
  refine V_aload_n C 0 dX8_giveHour_0 rfl rfl ?_
  refine V_get (v := .ref h2) C 0 rfl rfl in_X8 1 (by decide) fl_X8_15 rfl rfl dX8_giveHour_1 ?_
  refine V_iload_n C 1 dX8_giveHour_4 rfl rfl ?_
  refine V_iload_n C 2 dX8_giveHour_5 rfl rfl ?_
  refine V_callNv (na := 3) (As := [.ref h2, .int (nI t), .int x]) (rest := []) (wr := [(h0, .inr (8, [.ref h1, .ref h2]))]) C (c_X9_setAt g h2 24 Hh (nI t) t x (show ix (nI t) t 24 from by first | assumption | omega | exact ix_nI (by omega) (by omega) | decide) (show 24 < 2 ^ 31 from by first | assumption | omega | exact ix_nI (by omega) (by omega) | decide)) ⟨⟨ini_X9, co_X9_setAt, ⟨by decide, by decide, by decide +kernel⟩, by decide⟩, ⟨_, ml_X8_26⟩, sm_X9_setAt⟩ [1] [0] rfl rfl rfl rfl (by decide) rfl rfl (Nat.le_of_ble_eq_true rfl) (by omega) (by omega) dX8_giveHour_6 (fun w_ hw_2 => ?_)
  obtain rfl := hw_2
  refine V_to (ws2 := [(h0, .inr (8, [.ref h1, .ref h2])), (h2, .inl (gI g, 24, .inl (upd Hh t x)))]) ?_ rfl
  refine hret _ _ _ dX8_giveHour_9 ?_
  exact rfl
set_option maxRecDepth 100000 in
set_option maxHeartbeats 4000000 in
theorem c_X8_hoursOf (g : Gd) (h0 : Nat) (h1 : Nat) (h2 : Nat) (Hh : Nat → Int32) (t : Int32)  : Ki g yX8_hoursOf cX8_hoursOf 4 (some .int) 2 0 0 [.ref h0, .int t] [(h0, .inr (8, [.ref h1, .ref h2])), (h2, .inl (gI g, 24, .inl Hh))] (fun (r : Int32) (w : va_W) => r = hcnt Hh t 24 ∧ w = [(h0, .inr (8, [.ref h1, .ref h2])), (h2, .inl (gI g, 24, .inl Hh))]) := by
  refine Ki.of (by decide) (Nat.le_of_ble_eq_true rfl) (fun X C hI hret => ?_)
  show V g X 0 0 [(h0, .inr (8, [.ref h1, .ref h2])), (h2, .inl (gI g, 24, .inl Hh))] 0 [(0, .ref h0), (1, .int t)] []
  refine V_iconst (v := 0) C dX8_hoursOf_0 (by decide) ?_
  refine V_istore_n (L2 := [(2, .int 0), (0, .ref h0), (1, .int t)]) C dX8_hoursOf_1 rfl (by decide) rfl ?_
  refine V_iconst (v := 0) C dX8_hoursOf_2 (by decide) ?_
  refine V_istore_n (L2 := [(3, .int 0), (2, .int 0), (0, .ref h0), (1, .int t)]) C dX8_hoursOf_3 rfl (by decide) rfl ?_
  have loop_4 : ∀ (fu_4 : Nat) (j : Nat) (cn : Int32), j ≤ 24 → cn = hcnt Hh t j → 24 - j < fu_4 → V g X 0 0 [(h0, .inr (8, [.ref h1, .ref h2])), (h2, .inl (gI g, 24, .inl Hh))] 4 [(0, .ref h0), (1, .int t), (2, .int cn), (3, .int (nI j))] [] := by
    intro fu_4
    induction fu_4 with
    | zero => intro j cn hj hc hm; exact absurd hm (by omega)
    | succ fu_4 ih_4 =>
      intro j cn hj hc hm
      refine V_iload_n C 3 dX8_hoursOf_4 rfl rfl ?_
      refine V_bipush (v := 24) C dX8_hoursOf_5 (by decide) ?_
      refine V_icmp_ge (tgt := 28) C dX8_hoursOf_7 (by decide) (fun c_7 => ?_) (fun c_7 => ?_)
      · refine V_iload_n C 2 dX8_hoursOf_28 rfl rfl ?_
        refine hret _ _ _ _ dX8_hoursOf_29 ?_
        have hj2 : j = 24 := by have := lp_ge 24 rfl (by omega) (by omega) c_7; omega
        subst hj2
        exact ⟨hc, rfl⟩
      · have hj2 : j < 24 := lp_lt 24 rfl (by omega) (by omega) c_7
        refine V_aload_n C 0 dX8_hoursOf_10 rfl rfl ?_
        refine V_iload_n C 3 dX8_hoursOf_11 rfl rfl ?_
        refine V_callVi (q0 := 0) (na := 1) (As := [.int (nI j)]) (rest := []) (wr := []) C (c_X8_ofHour g h0 h1 h2 Hh j (show j < 24 from by first | assumption | omega | exact ix_nI (by omega) (by omega) | decide)) ⟨⟨ini_X8, co_X8_ofHour, ⟨by decide, by decide, by decide +kernel⟩, by decide⟩, ml_X8_30, im_X8_ofHour, se_X8_ofHour⟩ [0, 1] [] rfl rfl rfl rfl (by decide) rfl rfl rfl rfl (Nat.le_of_ble_eq_true rfl) (by omega) (by omega) dX8_hoursOf_12 (fun r_1 w_ hw_2 => ?_)
        obtain ⟨rfl, rfl⟩ := hw_2
        refine V_to (ws2 := [(h0, .inr (8, [.ref h1, .ref h2])), (h2, .inl (gI g, 24, .inl Hh))]) ?_ rfl
        refine V_iload_n C 1 dX8_hoursOf_15 rfl rfl ?_
        refine V_icmp_ne (tgt := 22) C dX8_hoursOf_16 (by decide) (fun c_16 => ?_) (fun c_16 => ?_)
        · refine V_iinc (v := nI (j + 1)) (L2 := [(3, .int (nI (j + 1))), (0, .ref h0), (1, .int t), (2, .int cn)]) C 3 dX8_hoursOf_22 rfl (nI_add j 1) (by decide) rfl ?_
          refine V_goto (tgt := 4) C dX8_hoursOf_25 (by decide) ?_
          refine V_locs (L2 := [(0, .ref h0), (1, .int t), (2, .int cn), (3, .int (nI (j + 1)))]) [1, 2, 3, 0] rfl ?_
          exact ih_4 (j + 1) cn (show (j + 1) ≤ 24 from by first | assumption | omega | rfl) (by rw [hcnt, if_neg c_16, hc]) (by omega)
        · refine V_iinc (v := cn + 1) (L2 := [(2, .int (cn + 1)), (0, .ref h0), (1, .int t), (3, .int (nI j))]) C 2 dX8_hoursOf_19 rfl (rfl) (by decide) rfl ?_
          refine V_iinc (v := nI (j + 1)) (L2 := [(3, .int (nI (j + 1))), (2, .int (cn + 1)), (0, .ref h0), (1, .int t)]) C 3 dX8_hoursOf_22 rfl (nI_add j 1) (by decide) rfl ?_
          refine V_goto (tgt := 4) C dX8_hoursOf_25 (by decide) ?_
          refine V_locs (L2 := [(0, .ref h0), (1, .int t), (2, .int (cn + 1)), (3, .int (nI (j + 1)))]) [2, 3, 1, 0] rfl ?_
          exact ih_4 (j + 1) (cn + 1) (show (j + 1) ≤ 24 from by first | assumption | omega | rfl) (by rw [hcnt, if_pos c_16, hc]) (by omega)
  refine V_locs (L2 := [(0, .ref h0), (1, .int t), (2, .int 0), (3, .int 0)]) [2, 3, 1, 0] rfl ?_
  exact loop_4 (24 - 0 + 1) 0 0 (show 0 ≤ 24 from by first | assumption | omega | rfl) (show 0 = hcnt Hh t 0 from by first | assumption | omega | rfl) (by omega)
set_option maxRecDepth 100000 in
set_option maxHeartbeats 4000000 in
theorem c_X8_copyFrom (g : Gd) (h0 : Nat) (h1 : Nat) (h2 : Nat) (k0 : Nat) (k1 : Nat) (k2 : Nat) (N0 : Nat → Int32) (Hh : Nat → Int32) (N1 : Nat → Int32) (H1 : Nat → Int32)  : Kv g yX8_copyFrom cX8_copyFrom 2 none 2 0 0 [.ref h0, .ref k0] [(h0, .inr (8, [.ref h1, .ref h2])), (h1, .inl (gI g, 12, .inl N0)), (h2, .inl (gI g, 24, .inl Hh)), (k0, .inr (8, [.ref k1, .ref k2])), (k1, .inl (gI g, 12, .inl N1)), (k2, .inl (gI g, 24, .inl H1))] (fun (w : va_W) => w = [(h0, .inr (8, [.ref h1, .ref h2])), (h1, .inl (gI g, 12, .inl N1)), (h2, .inl (gI g, 24, .inl H1)), (k0, .inr (8, [.ref k1, .ref k2])), (k1, .inl (gI g, 12, .inl N1)), (k2, .inl (gI g, 24, .inl H1))]) := by
  refine Kv.of (by decide) (Nat.le_of_ble_eq_true rfl) (fun X C hI hret => ?_)
  show V g X 0 0 [(h0, .inr (8, [.ref h1, .ref h2])), (h1, .inl (gI g, 12, .inl N0)), (h2, .inl (gI g, 24, .inl Hh)), (k0, .inr (8, [.ref k1, .ref k2])), (k1, .inl (gI g, 12, .inl N1)), (k2, .inl (gI g, 24, .inl H1))] 0 [(0, .ref h0), (1, .ref k0)] []
  refine V_aload_n C 1 dX8_copyFrom_0 rfl rfl ?_
  refine V_get (v := .ref k1) C 3 rfl rfl in_X8 0 (by decide) fl_X8_9 rfl rfl dX8_copyFrom_1 ?_
  refine V_aload_n C 0 dX8_copyFrom_4 rfl rfl ?_
  refine V_get (v := .ref h1) C 0 rfl rfl in_X8 0 (by decide) fl_X8_9 rfl rfl dX8_copyFrom_5 ?_
  refine V_callNv (na := 2) (As := [.ref k1, .ref h1]) (rest := []) (wr := [(h0, .inr (8, [.ref h1, .ref h2])), (h2, .inl (gI g, 24, .inl Hh)), (k0, .inr (8, [.ref k1, .ref k2])), (k2, .inl (gI g, 24, .inl H1))]) C (c_X9_copyRow g k1 h1 12 N1 N0 (show 12 < 2 ^ 31 from by first | assumption | omega | exact ix_nI (by omega) (by omega) | decide)) ⟨⟨ini_X9, co_X9_copyRow, ⟨by decide, by decide, by decide +kernel⟩, by decide⟩, ⟨_, ml_X8_18⟩, sm_X9_copyRow⟩ [4, 1] [0, 2, 3, 5] rfl rfl rfl rfl (by decide) rfl rfl (Nat.le_of_ble_eq_true rfl) (by omega) (by omega) dX8_copyFrom_8 (fun w_ hw_2 => ?_)
  obtain rfl := hw_2
  refine V_to (ws2 := [(h0, .inr (8, [.ref h1, .ref h2])), (h2, .inl (gI g, 24, .inl Hh)), (k0, .inr (8, [.ref k1, .ref k2])), (k2, .inl (gI g, 24, .inl H1)), (k1, .inl (gI g, 12, .inl N1)), (h1, .inl (gI g, 12, .inl N1))]) ?_ rfl
  refine V_aload_n C 1 dX8_copyFrom_11 rfl rfl ?_
  refine V_get (v := .ref k2) C 2 rfl rfl in_X8 1 (by decide) fl_X8_15 rfl rfl dX8_copyFrom_12 ?_
  refine V_aload_n C 0 dX8_copyFrom_15 rfl rfl ?_
  refine V_get (v := .ref h2) C 0 rfl rfl in_X8 1 (by decide) fl_X8_15 rfl rfl dX8_copyFrom_16 ?_
  refine V_callNv (na := 2) (As := [.ref k2, .ref h2]) (rest := []) (wr := [(h0, .inr (8, [.ref h1, .ref h2])), (k0, .inr (8, [.ref k1, .ref k2])), (k1, .inl (gI g, 12, .inl N1)), (h1, .inl (gI g, 12, .inl N1))]) C (c_X9_copyRow g k2 h2 24 H1 Hh (show 24 < 2 ^ 31 from by first | assumption | omega | exact ix_nI (by omega) (by omega) | decide)) ⟨⟨ini_X9, co_X9_copyRow, ⟨by decide, by decide, by decide +kernel⟩, by decide⟩, ⟨_, ml_X8_18⟩, sm_X9_copyRow⟩ [3, 1] [0, 2, 4, 5] rfl rfl rfl rfl (by decide) rfl rfl (Nat.le_of_ble_eq_true rfl) (by omega) (by omega) dX8_copyFrom_19 (fun w_ hw_4 => ?_)
  obtain rfl := hw_4
  refine V_to (ws2 := [(h0, .inr (8, [.ref h1, .ref h2])), (k0, .inr (8, [.ref k1, .ref k2])), (k1, .inl (gI g, 12, .inl N1)), (h1, .inl (gI g, 12, .inl N1)), (k2, .inl (gI g, 24, .inl H1)), (h2, .inl (gI g, 24, .inl H1))]) ?_ rfl
  refine V_perm (ws2 := [(h0, .inr (8, [.ref h1, .ref h2])), (h1, .inl (gI g, 12, .inl N1)), (h2, .inl (gI g, 24, .inl H1)), (k0, .inr (8, [.ref k1, .ref k2])), (k1, .inl (gI g, 12, .inl N1)), (k2, .inl (gI g, 24, .inl H1))]) [0, 3, 5, 1, 2, 4] rfl rfl ?_
  refine hret _ _ _ dX8_copyFrom_22 ?_
  exact rfl
set_option maxRecDepth 100000 in
set_option maxHeartbeats 4000000 in
theorem c_X6_copyFrom (g : Gd) (h0 : Nat) (k0 : Nat) (u0 : Int32) (u1 : Int32) (u2 : Int32) (u3 : Int32) (u4 : Int32) (u5 : Int32) (u6 : Int32) (u7 : Int32) (u8 : Int32) (u9 : Int32) (u10 : Int32) (v0 : Int32) (v1 : Int32) (v2 : Int32) (v3 : Int32) (v4 : Int32) (v5 : Int32) (v6 : Int32) (v7 : Int32) (v8 : Int32) (v9 : Int32) (v10 : Int32)  : Kv g yX6_copyFrom cX6_copyFrom 2 none 0 0 0 [.ref h0, .ref k0] [(h0, .inr (6, [.int u0, .int u1, .int u2, .int u3, .int u4, .int u5, .int u6, .int u7, .int u8, .int u9, .int u10])), (k0, .inr (6, [.int v0, .int v1, .int v2, .int v3, .int v4, .int v5, .int v6, .int v7, .int v8, .int v9, .int v10]))] (fun (w : va_W) => w = [(h0, .inr (6, [.int v0, .int v1, .int v2, .int v3, .int v4, .int v5, .int v6, .int v7, .int v8, .int v9, .int v10])), (k0, .inr (6, [.int v0, .int v1, .int v2, .int v3, .int v4, .int v5, .int v6, .int v7, .int v8, .int v9, .int v10]))]) := by
  refine Kv.of (by decide) (Nat.le_of_ble_eq_true rfl) (fun X C hI hret => ?_)
  show V g X 0 0 [(h0, .inr (6, [.int u0, .int u1, .int u2, .int u3, .int u4, .int u5, .int u6, .int u7, .int u8, .int u9, .int u10])), (k0, .inr (6, [.int v0, .int v1, .int v2, .int v3, .int v4, .int v5, .int v6, .int v7, .int v8, .int v9, .int v10]))] 0 [(0, .ref h0), (1, .ref k0)] []
  refine V_aload_n C 0 dX6_copyFrom_0 rfl rfl ?_
  refine V_aload_n C 1 dX6_copyFrom_1 rfl rfl ?_
  refine V_get (v := .int v0) C 1 rfl rfl in_X6 0 (by decide) fl_X6_7 rfl rfl dX6_copyFrom_2 ?_
  refine V_put (ty := .int) (ws2 := [(h0, .inr (6, [.int v0, .int u1, .int u2, .int u3, .int u4, .int u5, .int u6, .int u7, .int u8, .int u9, .int u10])), (k0, .inr (6, [.int v0, .int v1, .int v2, .int v3, .int v4, .int v5, .int v6, .int v7, .int v8, .int v9, .int v10]))]) C 0 rfl rfl in_X6 tyX6 tyX6_ok nmX6 0 (by decide) fl_X6_7 rfl rfl (by decide +kernel) rfl rfl (Nat.le_of_ble_eq_true rfl) dX6_copyFrom_5 rfl ?_
  refine V_aload_n C 0 dX6_copyFrom_8 rfl rfl ?_
  refine V_aload_n C 1 dX6_copyFrom_9 rfl rfl ?_
  refine V_get (v := .int v1) C 1 rfl rfl in_X6 1 (by decide) fl_X6_13 rfl rfl dX6_copyFrom_10 ?_
  refine V_put (ty := .int) (ws2 := [(h0, .inr (6, [.int v0, .int v1, .int u2, .int u3, .int u4, .int u5, .int u6, .int u7, .int u8, .int u9, .int u10])), (k0, .inr (6, [.int v0, .int v1, .int v2, .int v3, .int v4, .int v5, .int v6, .int v7, .int v8, .int v9, .int v10]))]) C 0 rfl rfl in_X6 tyX6 tyX6_ok nmX6 1 (by decide) fl_X6_13 rfl rfl (by decide +kernel) rfl rfl (Nat.le_of_ble_eq_true rfl) dX6_copyFrom_13 rfl ?_
  refine V_aload_n C 0 dX6_copyFrom_16 rfl rfl ?_
  refine V_aload_n C 1 dX6_copyFrom_17 rfl rfl ?_
  refine V_get (v := .int v2) C 1 rfl rfl in_X6 2 (by decide) fl_X6_16 rfl rfl dX6_copyFrom_18 ?_
  refine V_put (ty := .int) (ws2 := [(h0, .inr (6, [.int v0, .int v1, .int v2, .int u3, .int u4, .int u5, .int u6, .int u7, .int u8, .int u9, .int u10])), (k0, .inr (6, [.int v0, .int v1, .int v2, .int v3, .int v4, .int v5, .int v6, .int v7, .int v8, .int v9, .int v10]))]) C 0 rfl rfl in_X6 tyX6 tyX6_ok nmX6 2 (by decide) fl_X6_16 rfl rfl (by decide +kernel) rfl rfl (Nat.le_of_ble_eq_true rfl) dX6_copyFrom_21 rfl ?_
  refine V_aload_n C 0 dX6_copyFrom_24 rfl rfl ?_
  refine V_aload_n C 1 dX6_copyFrom_25 rfl rfl ?_
  refine V_get (v := .int v3) C 1 rfl rfl in_X6 3 (by decide) fl_X6_19 rfl rfl dX6_copyFrom_26 ?_
  refine V_put (ty := .int) (ws2 := [(h0, .inr (6, [.int v0, .int v1, .int v2, .int v3, .int u4, .int u5, .int u6, .int u7, .int u8, .int u9, .int u10])), (k0, .inr (6, [.int v0, .int v1, .int v2, .int v3, .int v4, .int v5, .int v6, .int v7, .int v8, .int v9, .int v10]))]) C 0 rfl rfl in_X6 tyX6 tyX6_ok nmX6 3 (by decide) fl_X6_19 rfl rfl (by decide +kernel) rfl rfl (Nat.le_of_ble_eq_true rfl) dX6_copyFrom_29 rfl ?_
  refine V_aload_n C 0 dX6_copyFrom_32 rfl rfl ?_
  refine V_aload_n C 1 dX6_copyFrom_33 rfl rfl ?_
  refine V_get (v := .int v4) C 1 rfl rfl in_X6 4 (by decide) fl_X6_22 rfl rfl dX6_copyFrom_34 ?_
  refine V_put (ty := .int) (ws2 := [(h0, .inr (6, [.int v0, .int v1, .int v2, .int v3, .int v4, .int u5, .int u6, .int u7, .int u8, .int u9, .int u10])), (k0, .inr (6, [.int v0, .int v1, .int v2, .int v3, .int v4, .int v5, .int v6, .int v7, .int v8, .int v9, .int v10]))]) C 0 rfl rfl in_X6 tyX6 tyX6_ok nmX6 4 (by decide) fl_X6_22 rfl rfl (by decide +kernel) rfl rfl (Nat.le_of_ble_eq_true rfl) dX6_copyFrom_37 rfl ?_
  refine V_aload_n C 0 dX6_copyFrom_40 rfl rfl ?_
  refine V_aload_n C 1 dX6_copyFrom_41 rfl rfl ?_
  refine V_get (v := .int v5) C 1 rfl rfl in_X6 5 (by decide) fl_X6_25 rfl rfl dX6_copyFrom_42 ?_
  refine V_put (ty := .int) (ws2 := [(h0, .inr (6, [.int v0, .int v1, .int v2, .int v3, .int v4, .int v5, .int u6, .int u7, .int u8, .int u9, .int u10])), (k0, .inr (6, [.int v0, .int v1, .int v2, .int v3, .int v4, .int v5, .int v6, .int v7, .int v8, .int v9, .int v10]))]) C 0 rfl rfl in_X6 tyX6 tyX6_ok nmX6 5 (by decide) fl_X6_25 rfl rfl (by decide +kernel) rfl rfl (Nat.le_of_ble_eq_true rfl) dX6_copyFrom_45 rfl ?_
  refine V_aload_n C 0 dX6_copyFrom_48 rfl rfl ?_
  refine V_aload_n C 1 dX6_copyFrom_49 rfl rfl ?_
  refine V_get (v := .int v6) C 1 rfl rfl in_X6 6 (by decide) fl_X6_28 rfl rfl dX6_copyFrom_50 ?_
  refine V_put (ty := .int) (ws2 := [(h0, .inr (6, [.int v0, .int v1, .int v2, .int v3, .int v4, .int v5, .int v6, .int u7, .int u8, .int u9, .int u10])), (k0, .inr (6, [.int v0, .int v1, .int v2, .int v3, .int v4, .int v5, .int v6, .int v7, .int v8, .int v9, .int v10]))]) C 0 rfl rfl in_X6 tyX6 tyX6_ok nmX6 6 (by decide) fl_X6_28 rfl rfl (by decide +kernel) rfl rfl (Nat.le_of_ble_eq_true rfl) dX6_copyFrom_53 rfl ?_
  refine V_aload_n C 0 dX6_copyFrom_56 rfl rfl ?_
  refine V_aload_n C 1 dX6_copyFrom_57 rfl rfl ?_
  refine V_get (v := .int v7) C 1 rfl rfl in_X6 7 (by decide) fl_X6_31 rfl rfl dX6_copyFrom_58 ?_
  refine V_put (ty := .int) (ws2 := [(h0, .inr (6, [.int v0, .int v1, .int v2, .int v3, .int v4, .int v5, .int v6, .int v7, .int u8, .int u9, .int u10])), (k0, .inr (6, [.int v0, .int v1, .int v2, .int v3, .int v4, .int v5, .int v6, .int v7, .int v8, .int v9, .int v10]))]) C 0 rfl rfl in_X6 tyX6 tyX6_ok nmX6 7 (by decide) fl_X6_31 rfl rfl (by decide +kernel) rfl rfl (Nat.le_of_ble_eq_true rfl) dX6_copyFrom_61 rfl ?_
  refine V_aload_n C 0 dX6_copyFrom_64 rfl rfl ?_
  refine V_aload_n C 1 dX6_copyFrom_65 rfl rfl ?_
  refine V_get (v := .int v8) C 1 rfl rfl in_X6 8 (by decide) fl_X6_34 rfl rfl dX6_copyFrom_66 ?_
  refine V_put (ty := .int) (ws2 := [(h0, .inr (6, [.int v0, .int v1, .int v2, .int v3, .int v4, .int v5, .int v6, .int v7, .int v8, .int u9, .int u10])), (k0, .inr (6, [.int v0, .int v1, .int v2, .int v3, .int v4, .int v5, .int v6, .int v7, .int v8, .int v9, .int v10]))]) C 0 rfl rfl in_X6 tyX6 tyX6_ok nmX6 8 (by decide) fl_X6_34 rfl rfl (by decide +kernel) rfl rfl (Nat.le_of_ble_eq_true rfl) dX6_copyFrom_69 rfl ?_
  refine V_aload_n C 0 dX6_copyFrom_72 rfl rfl ?_
  refine V_aload_n C 1 dX6_copyFrom_73 rfl rfl ?_
  refine V_get (v := .int v9) C 1 rfl rfl in_X6 9 (by decide) fl_X6_37 rfl rfl dX6_copyFrom_74 ?_
  refine V_put (ty := .int) (ws2 := [(h0, .inr (6, [.int v0, .int v1, .int v2, .int v3, .int v4, .int v5, .int v6, .int v7, .int v8, .int v9, .int u10])), (k0, .inr (6, [.int v0, .int v1, .int v2, .int v3, .int v4, .int v5, .int v6, .int v7, .int v8, .int v9, .int v10]))]) C 0 rfl rfl in_X6 tyX6 tyX6_ok nmX6 9 (by decide) fl_X6_37 rfl rfl (by decide +kernel) rfl rfl (Nat.le_of_ble_eq_true rfl) dX6_copyFrom_77 rfl ?_
  refine V_aload_n C 0 dX6_copyFrom_80 rfl rfl ?_
  refine V_aload_n C 1 dX6_copyFrom_81 rfl rfl ?_
  refine V_get (v := .int v10) C 1 rfl rfl in_X6 10 (by decide) fl_X6_40 rfl rfl dX6_copyFrom_82 ?_
  refine V_put (ty := .int) (ws2 := [(h0, .inr (6, [.int v0, .int v1, .int v2, .int v3, .int v4, .int v5, .int v6, .int v7, .int v8, .int v9, .int v10])), (k0, .inr (6, [.int v0, .int v1, .int v2, .int v3, .int v4, .int v5, .int v6, .int v7, .int v8, .int v9, .int v10]))]) C 0 rfl rfl in_X6 tyX6 tyX6_ok nmX6 10 (by decide) fl_X6_40 rfl rfl (by decide +kernel) rfl rfl (Nat.le_of_ble_eq_true rfl) dX6_copyFrom_85 rfl ?_
  refine hret _ _ _ dX6_copyFrom_88 ?_
  exact rfl
set_option maxRecDepth 100000 in
set_option maxHeartbeats 4000000 in
theorem c_X6_startAt (g : Gd) (h0 : Nat) (u0 : Int32) (u1 : Int32) (u2 : Int32) (u3 : Int32) (u4 : Int32) (u5 : Int32) (u6 : Int32) (u7 : Int32) (u8 : Int32) (u9 : Int32) (u10 : Int32) (sec : Int32) (coins : Int32)  : Kv g yX6_startAt cX6_startAt 3 none 0 0 0 [.ref h0, .int sec, .int coins] [(h0, .inr (6, [.int u0, .int u1, .int u2, .int u3, .int u4, .int u5, .int u6, .int u7, .int u8, .int u9, .int u10]))] (fun (w : va_W) => w = [(h0, .inr (6, [.int sec, .int coins, .int 0, .int 0, .int 0, .int 0, .int 0, .int 0, .int 0, .int 0, .int 0]))]) := by
  refine Kv.of (by decide) (Nat.le_of_ble_eq_true rfl) (fun X C hI hret => ?_)
  show V g X 0 0 [(h0, .inr (6, [.int u0, .int u1, .int u2, .int u3, .int u4, .int u5, .int u6, .int u7, .int u8, .int u9, .int u10]))] 0 [(0, .ref h0), (1, .int sec), (2, .int coins)] []
  refine V_aload_n C 0 dX6_startAt_0 rfl rfl ?_
  refine V_iload_n C 1 dX6_startAt_1 rfl rfl ?_
  refine V_put (ty := .int) (ws2 := [(h0, .inr (6, [.int sec, .int u1, .int u2, .int u3, .int u4, .int u5, .int u6, .int u7, .int u8, .int u9, .int u10]))]) C 0 rfl rfl in_X6 tyX6 tyX6_ok nmX6 0 (by decide) fl_X6_7 rfl rfl (by decide +kernel) rfl rfl (Nat.le_of_ble_eq_true rfl) dX6_startAt_2 rfl ?_
  refine V_aload_n C 0 dX6_startAt_5 rfl rfl ?_
  refine V_iload_n C 2 dX6_startAt_6 rfl rfl ?_
  refine V_put (ty := .int) (ws2 := [(h0, .inr (6, [.int sec, .int coins, .int u2, .int u3, .int u4, .int u5, .int u6, .int u7, .int u8, .int u9, .int u10]))]) C 0 rfl rfl in_X6 tyX6 tyX6_ok nmX6 1 (by decide) fl_X6_13 rfl rfl (by decide +kernel) rfl rfl (Nat.le_of_ble_eq_true rfl) dX6_startAt_7 rfl ?_
  refine V_aload_n C 0 dX6_startAt_10 rfl rfl ?_
  refine V_iconst (v := 0) C dX6_startAt_11 (by decide) ?_
  refine V_put (ty := .int) (ws2 := [(h0, .inr (6, [.int sec, .int coins, .int 0, .int u3, .int u4, .int u5, .int u6, .int u7, .int u8, .int u9, .int u10]))]) C 0 rfl rfl in_X6 tyX6 tyX6_ok nmX6 2 (by decide) fl_X6_16 rfl rfl (by decide +kernel) rfl rfl (Nat.le_of_ble_eq_true rfl) dX6_startAt_12 rfl ?_
  refine V_aload_n C 0 dX6_startAt_15 rfl rfl ?_
  refine V_iconst (v := 0) C dX6_startAt_16 (by decide) ?_
  refine V_put (ty := .int) (ws2 := [(h0, .inr (6, [.int sec, .int coins, .int 0, .int 0, .int u4, .int u5, .int u6, .int u7, .int u8, .int u9, .int u10]))]) C 0 rfl rfl in_X6 tyX6 tyX6_ok nmX6 3 (by decide) fl_X6_19 rfl rfl (by decide +kernel) rfl rfl (Nat.le_of_ble_eq_true rfl) dX6_startAt_17 rfl ?_
  refine V_aload_n C 0 dX6_startAt_20 rfl rfl ?_
  refine V_iconst (v := 0) C dX6_startAt_21 (by decide) ?_
  refine V_put (ty := .int) (ws2 := [(h0, .inr (6, [.int sec, .int coins, .int 0, .int 0, .int 0, .int u5, .int u6, .int u7, .int u8, .int u9, .int u10]))]) C 0 rfl rfl in_X6 tyX6 tyX6_ok nmX6 4 (by decide) fl_X6_22 rfl rfl (by decide +kernel) rfl rfl (Nat.le_of_ble_eq_true rfl) dX6_startAt_22 rfl ?_
  refine V_aload_n C 0 dX6_startAt_25 rfl rfl ?_
  refine V_iconst (v := 0) C dX6_startAt_26 (by decide) ?_
  refine V_put (ty := .int) (ws2 := [(h0, .inr (6, [.int sec, .int coins, .int 0, .int 0, .int 0, .int 0, .int u6, .int u7, .int u8, .int u9, .int u10]))]) C 0 rfl rfl in_X6 tyX6 tyX6_ok nmX6 5 (by decide) fl_X6_25 rfl rfl (by decide +kernel) rfl rfl (Nat.le_of_ble_eq_true rfl) dX6_startAt_27 rfl ?_
  refine V_aload_n C 0 dX6_startAt_30 rfl rfl ?_
  refine V_iconst (v := 0) C dX6_startAt_31 (by decide) ?_
  refine V_put (ty := .int) (ws2 := [(h0, .inr (6, [.int sec, .int coins, .int 0, .int 0, .int 0, .int 0, .int 0, .int u7, .int u8, .int u9, .int u10]))]) C 0 rfl rfl in_X6 tyX6 tyX6_ok nmX6 6 (by decide) fl_X6_28 rfl rfl (by decide +kernel) rfl rfl (Nat.le_of_ble_eq_true rfl) dX6_startAt_32 rfl ?_
  refine V_aload_n C 0 dX6_startAt_35 rfl rfl ?_
  refine V_iconst (v := 0) C dX6_startAt_36 (by decide) ?_
  refine V_put (ty := .int) (ws2 := [(h0, .inr (6, [.int sec, .int coins, .int 0, .int 0, .int 0, .int 0, .int 0, .int 0, .int u8, .int u9, .int u10]))]) C 0 rfl rfl in_X6 tyX6 tyX6_ok nmX6 7 (by decide) fl_X6_31 rfl rfl (by decide +kernel) rfl rfl (Nat.le_of_ble_eq_true rfl) dX6_startAt_37 rfl ?_
  refine V_aload_n C 0 dX6_startAt_40 rfl rfl ?_
  refine V_iconst (v := 0) C dX6_startAt_41 (by decide) ?_
  refine V_put (ty := .int) (ws2 := [(h0, .inr (6, [.int sec, .int coins, .int 0, .int 0, .int 0, .int 0, .int 0, .int 0, .int 0, .int u9, .int u10]))]) C 0 rfl rfl in_X6 tyX6 tyX6_ok nmX6 8 (by decide) fl_X6_34 rfl rfl (by decide +kernel) rfl rfl (Nat.le_of_ble_eq_true rfl) dX6_startAt_42 rfl ?_
  refine V_aload_n C 0 dX6_startAt_45 rfl rfl ?_
  refine V_iconst (v := 0) C dX6_startAt_46 (by decide) ?_
  refine V_put (ty := .int) (ws2 := [(h0, .inr (6, [.int sec, .int coins, .int 0, .int 0, .int 0, .int 0, .int 0, .int 0, .int 0, .int 0, .int u10]))]) C 0 rfl rfl in_X6 tyX6 tyX6_ok nmX6 9 (by decide) fl_X6_37 rfl rfl (by decide +kernel) rfl rfl (Nat.le_of_ble_eq_true rfl) dX6_startAt_47 rfl ?_
  refine V_aload_n C 0 dX6_startAt_50 rfl rfl ?_
  refine V_iconst (v := 0) C dX6_startAt_51 (by decide) ?_
  refine V_put (ty := .int) (ws2 := [(h0, .inr (6, [.int sec, .int coins, .int 0, .int 0, .int 0, .int 0, .int 0, .int 0, .int 0, .int 0, .int 0]))]) C 0 rfl rfl in_X6 tyX6 tyX6_ok nmX6 10 (by decide) fl_X6_40 rfl rfl (by decide +kernel) rfl rfl (Nat.le_of_ble_eq_true rfl) dX6_startAt_52 rfl ?_
  refine hret _ _ _ dX6_startAt_55 ?_
  exact rfl
set_option maxRecDepth 100000 in
set_option maxHeartbeats 4000000 in
theorem c_X2_copyFrom (g : Gd) (h0 : Nat) (h1 : Nat) (k0 : Nat) (k1 : Nat) (L0 : Nat → Int32) (L1 : Nat → Int32) (n0 : Int32) (s0 : Int32) (n1 : Int32) (s1 : Int32)  : Kv g yX2_copyFrom cX2_copyFrom 2 none 2 0 0 [.ref h0, .ref k0] [(h0, .inr (2, [.ref h1, .int n0, .int s0])), (h1, .inl (gI g, 60, .inl L0)), (k0, .inr (2, [.ref k1, .int n1, .int s1])), (k1, .inl (gI g, 60, .inl L1))] (fun (w : va_W) => w = [(h0, .inr (2, [.ref h1, .int n1, .int s1])), (h1, .inl (gI g, 60, .inl L1)), (k0, .inr (2, [.ref k1, .int n1, .int s1])), (k1, .inl (gI g, 60, .inl L1))]) := by
  refine Kv.of (by decide) (Nat.le_of_ble_eq_true rfl) (fun X C hI hret => ?_)
  show V g X 0 0 [(h0, .inr (2, [.ref h1, .int n0, .int s0])), (h1, .inl (gI g, 60, .inl L0)), (k0, .inr (2, [.ref k1, .int n1, .int s1])), (k1, .inl (gI g, 60, .inl L1))] 0 [(0, .ref h0), (1, .ref k0)] []
  refine V_aload_n C 1 dX2_copyFrom_0 rfl rfl ?_
  refine V_get (v := .ref k1) C 2 rfl rfl in_X2 0 (by decide) fl_X2_9 rfl rfl dX2_copyFrom_1 ?_
  refine V_aload_n C 0 dX2_copyFrom_4 rfl rfl ?_
  refine V_get (v := .ref h1) C 0 rfl rfl in_X2 0 (by decide) fl_X2_9 rfl rfl dX2_copyFrom_5 ?_
  refine V_callNv (na := 2) (As := [.ref k1, .ref h1]) (rest := []) (wr := [(h0, .inr (2, [.ref h1, .int n0, .int s0])), (k0, .inr (2, [.ref k1, .int n1, .int s1]))]) C (c_X9_copyRow g k1 h1 60 L1 L0 (show 60 < 2 ^ 31 from by first | assumption | omega | exact ix_nI (by omega) (by omega) | decide)) ⟨⟨ini_X9, co_X9_copyRow, ⟨by decide, by decide, by decide +kernel⟩, by decide⟩, ⟨_, ml_X2_13⟩, sm_X9_copyRow⟩ [3, 1] [0, 2] rfl rfl rfl rfl (by decide) rfl rfl (Nat.le_of_ble_eq_true rfl) (by omega) (by omega) dX2_copyFrom_8 (fun w_ hw_2 => ?_)
  obtain rfl := hw_2
  refine V_to (ws2 := [(h0, .inr (2, [.ref h1, .int n0, .int s0])), (k0, .inr (2, [.ref k1, .int n1, .int s1])), (k1, .inl (gI g, 60, .inl L1)), (h1, .inl (gI g, 60, .inl L1))]) ?_ rfl
  refine V_aload_n C 0 dX2_copyFrom_11 rfl rfl ?_
  refine V_aload_n C 1 dX2_copyFrom_12 rfl rfl ?_
  refine V_get (v := .int n1) C 1 rfl rfl in_X2 1 (by decide) fl_X2_19 rfl rfl dX2_copyFrom_13 ?_
  refine V_put (ty := .int) (ws2 := [(h0, .inr (2, [.ref h1, .int n1, .int s0])), (k0, .inr (2, [.ref k1, .int n1, .int s1])), (k1, .inl (gI g, 60, .inl L1)), (h1, .inl (gI g, 60, .inl L1))]) C 0 rfl rfl in_X2 tyX2 tyX2_ok nmX2 1 (by decide) fl_X2_19 rfl rfl (by decide +kernel) rfl rfl (Nat.le_of_ble_eq_true rfl) dX2_copyFrom_16 rfl ?_
  refine V_aload_n C 0 dX2_copyFrom_19 rfl rfl ?_
  refine V_aload_n C 1 dX2_copyFrom_20 rfl rfl ?_
  refine V_get (v := .int s1) C 1 rfl rfl in_X2 2 (by decide) fl_X2_23 rfl rfl dX2_copyFrom_21 ?_
  refine V_put (ty := .int) (ws2 := [(h0, .inr (2, [.ref h1, .int n1, .int s1])), (k0, .inr (2, [.ref k1, .int n1, .int s1])), (k1, .inl (gI g, 60, .inl L1)), (h1, .inl (gI g, 60, .inl L1))]) C 0 rfl rfl in_X2 tyX2 tyX2_ok nmX2 2 (by decide) fl_X2_23 rfl rfl (by decide +kernel) rfl rfl (Nat.le_of_ble_eq_true rfl) dX2_copyFrom_24 rfl ?_
  refine V_perm (ws2 := [(h0, .inr (2, [.ref h1, .int n1, .int s1])), (h1, .inl (gI g, 60, .inl L1)), (k0, .inr (2, [.ref k1, .int n1, .int s1])), (k1, .inl (gI g, 60, .inl L1))]) [0, 3, 1, 2] rfl rfl ?_
  refine hret _ _ _ dX2_copyFrom_27 ?_
  exact rfl
set_option maxRecDepth 100000 in
set_option maxHeartbeats 4000000 in
theorem c_X2_add (g : Gd) (h0 : Nat) (h1 : Nat) (k0 : Nat) (L0 : Nat → Int32) (j : Nat) (sz : Nat) (u0 : Int32) (u1 : Int32) (u2 : Int32) (u3 : Int32) (u4 : Int32) (u5 : Int32) (u6 : Int32) (u7 : Int32) (u8 : Int32) (u9 : Int32) (u10 : Int32) (hj : j < 12) (hs : sz ≤ 12) : Kv g yX2_add cX2_add 3 none 1 0 0 [.ref h0, .ref k0] [(h0, .inr (2, [.ref h1, .int (nI j), .int (nI sz)])), (h1, .inl (gI g, 60, .inl L0)), (k0, .inr (6, [.int u0, .int u1, .int u2, .int u3, .int u4, .int u5, .int u6, .int u7, .int u8, .int u9, .int u10]))] (fun (w : va_W) => w = [(h0, .inr (2, [.ref h1, .int (nI ((j + 1) % 12)), .int (nI (min (sz + 1) 12))])), (h1, .inl (gI g, 60, .inl (upd (upd (upd (upd (upd L0 (j * 5) (u1 + u2)) (j * 5 + 1) u4) (j * 5 + 2) (u5 + u6)) (j * 5 + 3) (u7 + u8)) (j * 5 + 4) u0))), (k0, .inr (6, [.int u0, .int u1, .int u2, .int u3, .int u4, .int u5, .int u6, .int u7, .int u8, .int u9, .int u10]))]) := by
  refine Kv.of (by decide) (Nat.le_of_ble_eq_true rfl) (fun X C hI hret => ?_)
  show V g X 0 0 [(h0, .inr (2, [.ref h1, .int (nI j), .int (nI sz)])), (h1, .inl (gI g, 60, .inl L0)), (k0, .inr (6, [.int u0, .int u1, .int u2, .int u3, .int u4, .int u5, .int u6, .int u7, .int u8, .int u9, .int u10]))] 0 [(0, .ref h0), (1, .ref k0)] []
  refine V_aload_n C 0 dX2_add_0 rfl rfl ?_
  refine V_get (v := .int (nI j)) C 0 rfl rfl in_X2 1 (by decide) fl_X2_19 rfl rfl dX2_add_1 ?_
  refine V_iconst (v := 5) C dX2_add_4 (by decide) ?_
  refine V_imul C dX2_add_5 ?_
  refine V_ev (show ((nI j) * 5 : Int32) = nI (j * 5) from pk_mul j 5) ?_
  refine V_istore_n (L2 := [(2, .int (nI (j * 5))), (0, .ref h0), (1, .ref k0)]) C dX2_add_6 rfl (by decide) rfl ?_
  refine V_aload_n C 1 dX2_add_7 rfl rfl ?_
  refine V_get (v := .ref h1) C 0 rfl rfl in_X2 0 (by decide) fl_X2_9 rfl rfl dX2_add_8 ?_
  refine V_iload_n C 0 dX2_add_11 rfl rfl ?_
  refine V_aload_n C 2 dX2_add_12 rfl rfl ?_
  refine V_get (v := .int u1) C 2 rfl rfl in_X6 1 (by decide) fl_X2_26 rfl rfl dX2_add_13 ?_
  refine V_aload_n C 2 dX2_add_16 rfl rfl ?_
  refine V_get (v := .int u2) C 2 rfl rfl in_X6 2 (by decide) fl_X2_31 rfl rfl dX2_add_17 ?_
  refine V_iadd C dX2_add_20 ?_
  refine V_callNv (na := 3) (As := [.ref h1, .int (nI (j * 5)), .int (u1 + u2)]) (rest := []) (wr := [(h0, .inr (2, [.ref h1, .int (nI j), .int (nI sz)])), (k0, .inr (6, [.int u0, .int u1, .int u2, .int u3, .int u4, .int u5, .int u6, .int u7, .int u8, .int u9, .int u10]))]) C (c_X9_setAt g h1 60 L0 (nI (j * 5)) (j * 5) (u1 + u2) (show ix (nI (j * 5)) (j * 5) 60 from by first | assumption | omega | exact ix_nI (by omega) (by omega) | decide) (show 60 < 2 ^ 31 from by first | assumption | omega | exact ix_nI (by omega) (by omega) | decide)) ⟨⟨ini_X9, co_X9_setAt, ⟨by decide, by decide, by decide +kernel⟩, by decide⟩, ⟨_, ml_X2_34⟩, sm_X9_setAt⟩ [1] [0, 2] rfl rfl rfl rfl (by decide) rfl rfl (Nat.le_of_ble_eq_true rfl) (by omega) (by omega) dX2_add_21 (fun w_ hw_2 => ?_)
  obtain rfl := hw_2
  refine V_to (ws2 := [(h0, .inr (2, [.ref h1, .int (nI j), .int (nI sz)])), (k0, .inr (6, [.int u0, .int u1, .int u2, .int u3, .int u4, .int u5, .int u6, .int u7, .int u8, .int u9, .int u10])), (h1, .inl (gI g, 60, .inl (upd L0 (j * 5) (u1 + u2))))]) ?_ rfl
  refine V_aload_n C 1 dX2_add_24 rfl rfl ?_
  refine V_get (v := .ref h1) C 0 rfl rfl in_X2 0 (by decide) fl_X2_9 rfl rfl dX2_add_25 ?_
  refine V_iload_n C 0 dX2_add_28 rfl rfl ?_
  refine V_iconst (v := 1) C dX2_add_29 (by decide) ?_
  refine V_iadd C dX2_add_30 ?_
  refine V_ev (show ((nI (j * 5)) + 1 : Int32) = nI ((j * 5) + 1) from nI_add (j * 5) 1) ?_
  refine V_aload_n C 2 dX2_add_31 rfl rfl ?_
  refine V_get (v := .int u4) C 1 rfl rfl in_X6 4 (by decide) fl_X2_38 rfl rfl dX2_add_32 ?_
  refine V_callNv (na := 3) (As := [.ref h1, .int (nI ((j * 5) + 1)), .int u4]) (rest := []) (wr := [(h0, .inr (2, [.ref h1, .int (nI j), .int (nI sz)])), (k0, .inr (6, [.int u0, .int u1, .int u2, .int u3, .int u4, .int u5, .int u6, .int u7, .int u8, .int u9, .int u10]))]) C (c_X9_setAt g h1 60 (upd L0 (j * 5) (u1 + u2)) (nI ((j * 5) + 1)) ((j * 5) + 1) u4 (show ix (nI ((j * 5) + 1)) ((j * 5) + 1) 60 from by first | assumption | omega | exact ix_nI (by omega) (by omega) | decide) (show 60 < 2 ^ 31 from by first | assumption | omega | exact ix_nI (by omega) (by omega) | decide)) ⟨⟨ini_X9, co_X9_setAt, ⟨by decide, by decide, by decide +kernel⟩, by decide⟩, ⟨_, ml_X2_34⟩, sm_X9_setAt⟩ [2] [0, 1] rfl rfl rfl rfl (by decide) rfl rfl (Nat.le_of_ble_eq_true rfl) (by omega) (by omega) dX2_add_35 (fun w_ hw_4 => ?_)
  obtain rfl := hw_4
  refine V_to (ws2 := [(h0, .inr (2, [.ref h1, .int (nI j), .int (nI sz)])), (k0, .inr (6, [.int u0, .int u1, .int u2, .int u3, .int u4, .int u5, .int u6, .int u7, .int u8, .int u9, .int u10])), (h1, .inl (gI g, 60, .inl (upd (upd L0 (j * 5) (u1 + u2)) ((j * 5) + 1) u4)))]) ?_ rfl
  refine V_aload_n C 1 dX2_add_38 rfl rfl ?_
  refine V_get (v := .ref h1) C 0 rfl rfl in_X2 0 (by decide) fl_X2_9 rfl rfl dX2_add_39 ?_
  refine V_iload_n C 0 dX2_add_42 rfl rfl ?_
  refine V_iconst (v := 2) C dX2_add_43 (by decide) ?_
  refine V_iadd C dX2_add_44 ?_
  refine V_ev (show ((nI (j * 5)) + 2 : Int32) = nI ((j * 5) + 2) from nI_add (j * 5) 2) ?_
  refine V_aload_n C 2 dX2_add_45 rfl rfl ?_
  refine V_get (v := .int u5) C 1 rfl rfl in_X6 5 (by decide) fl_X2_41 rfl rfl dX2_add_46 ?_
  refine V_aload_n C 2 dX2_add_49 rfl rfl ?_
  refine V_get (v := .int u6) C 1 rfl rfl in_X6 6 (by decide) fl_X2_44 rfl rfl dX2_add_50 ?_
  refine V_iadd C dX2_add_53 ?_
  refine V_callNv (na := 3) (As := [.ref h1, .int (nI ((j * 5) + 2)), .int (u5 + u6)]) (rest := []) (wr := [(h0, .inr (2, [.ref h1, .int (nI j), .int (nI sz)])), (k0, .inr (6, [.int u0, .int u1, .int u2, .int u3, .int u4, .int u5, .int u6, .int u7, .int u8, .int u9, .int u10]))]) C (c_X9_setAt g h1 60 (upd (upd L0 (j * 5) (u1 + u2)) ((j * 5) + 1) u4) (nI ((j * 5) + 2)) ((j * 5) + 2) (u5 + u6) (show ix (nI ((j * 5) + 2)) ((j * 5) + 2) 60 from by first | assumption | omega | exact ix_nI (by omega) (by omega) | decide) (show 60 < 2 ^ 31 from by first | assumption | omega | exact ix_nI (by omega) (by omega) | decide)) ⟨⟨ini_X9, co_X9_setAt, ⟨by decide, by decide, by decide +kernel⟩, by decide⟩, ⟨_, ml_X2_34⟩, sm_X9_setAt⟩ [2] [0, 1] rfl rfl rfl rfl (by decide) rfl rfl (Nat.le_of_ble_eq_true rfl) (by omega) (by omega) dX2_add_54 (fun w_ hw_6 => ?_)
  obtain rfl := hw_6
  refine V_to (ws2 := [(h0, .inr (2, [.ref h1, .int (nI j), .int (nI sz)])), (k0, .inr (6, [.int u0, .int u1, .int u2, .int u3, .int u4, .int u5, .int u6, .int u7, .int u8, .int u9, .int u10])), (h1, .inl (gI g, 60, .inl (upd (upd (upd L0 (j * 5) (u1 + u2)) ((j * 5) + 1) u4) ((j * 5) + 2) (u5 + u6))))]) ?_ rfl
  refine V_aload_n C 1 dX2_add_57 rfl rfl ?_
  refine V_get (v := .ref h1) C 0 rfl rfl in_X2 0 (by decide) fl_X2_9 rfl rfl dX2_add_58 ?_
  refine V_iload_n C 0 dX2_add_61 rfl rfl ?_
  refine V_iconst (v := 3) C dX2_add_62 (by decide) ?_
  refine V_iadd C dX2_add_63 ?_
  refine V_ev (show ((nI (j * 5)) + 3 : Int32) = nI ((j * 5) + 3) from nI_add (j * 5) 3) ?_
  refine V_aload_n C 2 dX2_add_64 rfl rfl ?_
  refine V_get (v := .int u7) C 1 rfl rfl in_X6 7 (by decide) fl_X2_47 rfl rfl dX2_add_65 ?_
  refine V_aload_n C 2 dX2_add_68 rfl rfl ?_
  refine V_get (v := .int u8) C 1 rfl rfl in_X6 8 (by decide) fl_X2_50 rfl rfl dX2_add_69 ?_
  refine V_iadd C dX2_add_72 ?_
  refine V_callNv (na := 3) (As := [.ref h1, .int (nI ((j * 5) + 3)), .int (u7 + u8)]) (rest := []) (wr := [(h0, .inr (2, [.ref h1, .int (nI j), .int (nI sz)])), (k0, .inr (6, [.int u0, .int u1, .int u2, .int u3, .int u4, .int u5, .int u6, .int u7, .int u8, .int u9, .int u10]))]) C (c_X9_setAt g h1 60 (upd (upd (upd L0 (j * 5) (u1 + u2)) ((j * 5) + 1) u4) ((j * 5) + 2) (u5 + u6)) (nI ((j * 5) + 3)) ((j * 5) + 3) (u7 + u8) (show ix (nI ((j * 5) + 3)) ((j * 5) + 3) 60 from by first | assumption | omega | exact ix_nI (by omega) (by omega) | decide) (show 60 < 2 ^ 31 from by first | assumption | omega | exact ix_nI (by omega) (by omega) | decide)) ⟨⟨ini_X9, co_X9_setAt, ⟨by decide, by decide, by decide +kernel⟩, by decide⟩, ⟨_, ml_X2_34⟩, sm_X9_setAt⟩ [2] [0, 1] rfl rfl rfl rfl (by decide) rfl rfl (Nat.le_of_ble_eq_true rfl) (by omega) (by omega) dX2_add_73 (fun w_ hw_8 => ?_)
  obtain rfl := hw_8
  refine V_to (ws2 := [(h0, .inr (2, [.ref h1, .int (nI j), .int (nI sz)])), (k0, .inr (6, [.int u0, .int u1, .int u2, .int u3, .int u4, .int u5, .int u6, .int u7, .int u8, .int u9, .int u10])), (h1, .inl (gI g, 60, .inl (upd (upd (upd (upd L0 (j * 5) (u1 + u2)) ((j * 5) + 1) u4) ((j * 5) + 2) (u5 + u6)) ((j * 5) + 3) (u7 + u8))))]) ?_ rfl
  refine V_aload_n C 1 dX2_add_76 rfl rfl ?_
  refine V_get (v := .ref h1) C 0 rfl rfl in_X2 0 (by decide) fl_X2_9 rfl rfl dX2_add_77 ?_
  refine V_iload_n C 0 dX2_add_80 rfl rfl ?_
  refine V_iconst (v := 4) C dX2_add_81 (by decide) ?_
  refine V_iadd C dX2_add_82 ?_
  refine V_ev (show ((nI (j * 5)) + 4 : Int32) = nI ((j * 5) + 4) from nI_add (j * 5) 4) ?_
  refine V_aload_n C 2 dX2_add_83 rfl rfl ?_
  refine V_get (v := .int u0) C 1 rfl rfl in_X6 0 (by decide) fl_X2_53 rfl rfl dX2_add_84 ?_
  refine V_callNv (na := 3) (As := [.ref h1, .int (nI ((j * 5) + 4)), .int u0]) (rest := []) (wr := [(h0, .inr (2, [.ref h1, .int (nI j), .int (nI sz)])), (k0, .inr (6, [.int u0, .int u1, .int u2, .int u3, .int u4, .int u5, .int u6, .int u7, .int u8, .int u9, .int u10]))]) C (c_X9_setAt g h1 60 (upd (upd (upd (upd L0 (j * 5) (u1 + u2)) ((j * 5) + 1) u4) ((j * 5) + 2) (u5 + u6)) ((j * 5) + 3) (u7 + u8)) (nI ((j * 5) + 4)) ((j * 5) + 4) u0 (show ix (nI ((j * 5) + 4)) ((j * 5) + 4) 60 from by first | assumption | omega | exact ix_nI (by omega) (by omega) | decide) (show 60 < 2 ^ 31 from by first | assumption | omega | exact ix_nI (by omega) (by omega) | decide)) ⟨⟨ini_X9, co_X9_setAt, ⟨by decide, by decide, by decide +kernel⟩, by decide⟩, ⟨_, ml_X2_34⟩, sm_X9_setAt⟩ [2] [0, 1] rfl rfl rfl rfl (by decide) rfl rfl (Nat.le_of_ble_eq_true rfl) (by omega) (by omega) dX2_add_87 (fun w_ hw_10 => ?_)
  obtain rfl := hw_10
  refine V_to (ws2 := [(h0, .inr (2, [.ref h1, .int (nI j), .int (nI sz)])), (k0, .inr (6, [.int u0, .int u1, .int u2, .int u3, .int u4, .int u5, .int u6, .int u7, .int u8, .int u9, .int u10])), (h1, .inl (gI g, 60, .inl (upd (upd (upd (upd (upd L0 (j * 5) (u1 + u2)) ((j * 5) + 1) u4) ((j * 5) + 2) (u5 + u6)) ((j * 5) + 3) (u7 + u8)) ((j * 5) + 4) u0)))]) ?_ rfl
  refine V_aload_n C 1 dX2_add_90 rfl rfl ?_
  refine V_aload_n C 1 dX2_add_91 rfl rfl ?_
  refine V_get (v := .int (nI j)) C 0 rfl rfl in_X2 1 (by decide) fl_X2_19 rfl rfl dX2_add_92 ?_
  refine V_iconst (v := 1) C dX2_add_95 (by decide) ?_
  refine V_iadd C dX2_add_96 ?_
  refine V_ev (show ((nI j) + 1 : Int32) = nI (j + 1) from nI_add j 1) ?_
  refine V_bipush (v := 12) C dX2_add_97 (by decide) ?_
  refine V_irem C dX2_add_99 (by decide) ?_
  refine V_ev (show ((nI (j + 1)) - (nI (j + 1)) / 12 * 12 : Int32) = nI ((j + 1) % 12) from pk_rem (d := 12) (by omega) (by omega) (by omega)) ?_
  refine V_put (ty := .int) (ws2 := [(h0, .inr (2, [.ref h1, .int (nI ((j + 1) % 12)), .int (nI sz)])), (k0, .inr (6, [.int u0, .int u1, .int u2, .int u3, .int u4, .int u5, .int u6, .int u7, .int u8, .int u9, .int u10])), (h1, .inl (gI g, 60, .inl (upd (upd (upd (upd (upd L0 (j * 5) (u1 + u2)) ((j * 5) + 1) u4) ((j * 5) + 2) (u5 + u6)) ((j * 5) + 3) (u7 + u8)) ((j * 5) + 4) u0)))]) C 0 rfl rfl in_X2 tyX2 tyX2_ok nmX2 1 (by decide) fl_X2_19 rfl rfl (by decide +kernel) rfl rfl (Nat.le_of_ble_eq_true rfl) dX2_add_100 rfl ?_
  refine V_aload_n C 1 dX2_add_103 rfl rfl ?_
  refine V_aload_n C 1 dX2_add_104 rfl rfl ?_
  refine V_get (v := .int (nI sz)) C 0 rfl rfl in_X2 2 (by decide) fl_X2_23 rfl rfl dX2_add_105 ?_
  refine V_iconst (v := 1) C dX2_add_108 (by decide) ?_
  refine V_iadd C dX2_add_109 ?_
  refine V_ev (show ((nI sz) + 1 : Int32) = nI (sz + 1) from nI_add sz 1) ?_
  refine V_bipush (v := 12) C dX2_add_110 (by decide) ?_
  refine V_min C ml_X2_56 sm_math_min ini_math co_math_min (Nat.le_of_ble_eq_true rfl) (by omega) (by omega) dX2_add_112 ?_
  refine V_ev (show (if 12 < (nI (sz + 1)) then 12 else (nI (sz + 1)) : Int32) = nI (min (sz + 1) 12) from min_nI (sz + 1) 12 (by omega) (by omega)) ?_
  refine V_put (ty := .int) (ws2 := [(h0, .inr (2, [.ref h1, .int (nI ((j + 1) % 12)), .int (nI (min (sz + 1) 12))])), (k0, .inr (6, [.int u0, .int u1, .int u2, .int u3, .int u4, .int u5, .int u6, .int u7, .int u8, .int u9, .int u10])), (h1, .inl (gI g, 60, .inl (upd (upd (upd (upd (upd L0 (j * 5) (u1 + u2)) ((j * 5) + 1) u4) ((j * 5) + 2) (u5 + u6)) ((j * 5) + 3) (u7 + u8)) ((j * 5) + 4) u0)))]) C 0 rfl rfl in_X2 tyX2 tyX2_ok nmX2 2 (by decide) fl_X2_23 rfl rfl (by decide +kernel) rfl rfl (Nat.le_of_ble_eq_true rfl) dX2_add_115 rfl ?_
  refine V_perm (ws2 := [(h0, .inr (2, [.ref h1, .int (nI ((j + 1) % 12)), .int (nI (min (sz + 1) 12))])), (h1, .inl (gI g, 60, .inl (upd (upd (upd (upd (upd L0 (j * 5) (u1 + u2)) ((j * 5) + 1) u4) ((j * 5) + 2) (u5 + u6)) ((j * 5) + 3) (u7 + u8)) ((j * 5) + 4) u0))), (k0, .inr (6, [.int u0, .int u1, .int u2, .int u3, .int u4, .int u5, .int u6, .int u7, .int u8, .int u9, .int u10]))]) [0, 2, 1] rfl rfl ?_
  refine hret _ _ _ dX2_add_118 ?_
  exact rfl
set_option maxRecDepth 100000 in
set_option maxHeartbeats 4000000 in
theorem c_X2_about (g : Gd) (h0 : Nat) (h1 : Nat) (L0 : Nat → Int32) (j : Nat) (sz : Int32) (ago : Nat) (q : Nat) (hj : j < 12) (ha : ago < 12) (hq : q < 5) : Ki g yX2_about cX2_about 4 (some .int) 1 0 0 [.ref h0, .int (nI ago), .int (nI q)] [(h0, .inr (2, [.ref h1, .int (nI j), .int sz])), (h1, .inl (gI g, 60, .inl L0))] (fun (r : Int32) (w : va_W) => r = L0 ((j + 11 - ago) % 12 * 5 + q) ∧ w = [(h0, .inr (2, [.ref h1, .int (nI j), .int sz])), (h1, .inl (gI g, 60, .inl L0))]) := by
  refine Ki.of (by decide) (Nat.le_of_ble_eq_true rfl) (fun X C hI hret => ?_)
  show V g X 0 0 [(h0, .inr (2, [.ref h1, .int (nI j), .int sz])), (h1, .inl (gI g, 60, .inl L0))] 0 [(0, .ref h0), (1, .int (nI ago)), (2, .int (nI q))] []
  refine V_aload_n C 0 dX2_about_0 rfl rfl ?_
  refine V_get (v := .int (nI j)) C 0 rfl rfl in_X2 1 (by decide) fl_X2_19 rfl rfl dX2_about_1 ?_
  refine V_bipush (v := 12) C dX2_about_4 (by decide) ?_
  refine V_iadd C dX2_about_6 ?_
  refine V_ev (show ((nI j) + 12 : Int32) = nI (j + 12) from nI_add j 12) ?_
  refine V_iconst (v := 1) C dX2_about_7 (by decide) ?_
  refine V_isub C dX2_about_8 ?_
  refine V_ev (show ((nI (j + 12)) - 1 : Int32) = nI (j + 11) from nI_sub1 (j + 11)) ?_
  refine V_iload_n C 1 dX2_about_9 rfl rfl ?_
  refine V_isub C dX2_about_10 ?_
  refine V_ev (show ((nI (j + 11)) - (nI ago) : Int32) = nI (j + 11 - ago) from pk_sub (by omega)) ?_
  refine V_bipush (v := 12) C dX2_about_11 (by decide) ?_
  refine V_irem C dX2_about_13 (by decide) ?_
  refine V_ev (show ((nI (j + 11 - ago)) - (nI (j + 11 - ago)) / 12 * 12 : Int32) = nI ((j + 11 - ago) % 12) from pk_rem (d := 12) (by omega) (by omega) (by omega)) ?_
  refine V_istore_n (L2 := [(3, .int (nI ((j + 11 - ago) % 12))), (0, .ref h0), (1, .int (nI ago)), (2, .int (nI q))]) C dX2_about_14 rfl (by decide) rfl ?_
  refine V_aload_n C 1 dX2_about_15 rfl rfl ?_
  refine V_get (v := .ref h1) C 0 rfl rfl in_X2 0 (by decide) fl_X2_9 rfl rfl dX2_about_16 ?_
  refine V_iload_n C 0 dX2_about_19 rfl rfl ?_
  refine V_iconst (v := 5) C dX2_about_20 (by decide) ?_
  refine V_imul C dX2_about_21 ?_
  refine V_ev (show ((nI ((j + 11 - ago) % 12)) * 5 : Int32) = nI (((j + 11 - ago) % 12) * 5) from pk_mul ((j + 11 - ago) % 12) 5) ?_
  refine V_iload_n C 3 dX2_about_22 rfl rfl ?_
  refine V_iadd C dX2_about_23 ?_
  refine V_ev (show ((nI (((j + 11 - ago) % 12) * 5)) + (nI q) : Int32) = nI ((((j + 11 - ago) % 12) * 5) + q) from nI_add (((j + 11 - ago) % 12) * 5) q) ?_
  refine V_callNi (na := 2) (As := [.ref h1, .int (nI ((((j + 11 - ago) % 12) * 5) + q))]) (rest := []) (wr := [(h0, .inr (2, [.ref h1, .int (nI j), .int sz]))]) C (c_X9_at g h1 60 L0 (nI ((((j + 11 - ago) % 12) * 5) + q)) ((((j + 11 - ago) % 12) * 5) + q) (show ix (nI ((((j + 11 - ago) % 12) * 5) + q)) ((((j + 11 - ago) % 12) * 5) + q) 60 from by first | assumption | omega | exact ix_nI (by omega) (by omega) | decide) (show 60 < 2 ^ 31 from by first | assumption | omega | exact ix_nI (by omega) (by omega) | decide)) ⟨⟨ini_X9, co_X9_at, ⟨by decide, by decide, by decide +kernel⟩, by decide⟩, ⟨_, ml_X2_62⟩, sm_X9_at⟩ [1] [0] rfl rfl rfl rfl (by decide) rfl rfl (Nat.le_of_ble_eq_true rfl) (by omega) (by omega) dX2_about_24 (fun r_1 w_ hw_2 => ?_)
  obtain ⟨rfl, rfl⟩ := hw_2
  refine V_to (ws2 := [(h0, .inr (2, [.ref h1, .int (nI j), .int sz])), (h1, .inl (gI g, 60, .inl L0))]) ?_ rfl
  refine hret _ _ _ _ dX2_about_27 ?_
  exact ⟨rfl, rfl⟩
end
section

/-! what the reference's methods do to its row z of numbers -/
abbrev Zt : Type := Nat → Int32
def carZ (z : Zt) (pr : Int32) : Zt := if pr = z 48 then z else upd (upd z 47 (Int64.toInt32 (Int32.toInt64 (z 47) * Int32.toInt64 pr / Int32.toInt64 (z 48)))) 48 pr
theorem carZ_n {z : Zt} {pr : Int32} {k : Nat} (h : k ≠ 47 ∧ k ≠ 48) : carZ z pr k = z k := by
  unfold carZ
  split
  · rfl
  · rw [upd_n h.2, upd_n h.1]
theorem carZ_48 {z : Zt} {pr : Int32} : carZ z pr 48 = pr := by
  unfold carZ
  split
  · rename_i h; exact h.symm
  · exact upd_s
def drpZ (z : Zt) (t : Nat) (p : Int32) : Int32 :=
  (carZ z (z (4 * t + 2) * z (4 * t + 3)) 47 + (if p * z (4 * t + 3) < z (4 * t + 2) then z (4 * t + 2) else p * z (4 * t + 3))) / (z (4 * t + 2) * z (4 * t + 3))
def secZ (z : Zt) (c t : Nat) (p : Int32) : Zt :=
  upd (upd (upd (upd (upd (carZ z (z (4 * t + 2) * z (4 * t + 3))) 47 (carZ z (z (4 * t + 2) * z (4 * t + 3)) 47 + (if p * z (4 * t + 3) < z (4 * t + 2) then z (4 * t + 2) else p * z (4 * t + 3)))) 47 (carZ z (z (4 * t + 2) * z (4 * t + 3)) 47 + (if p * z (4 * t + 3) < z (4 * t + 2) then z (4 * t + 2) else p * z (4 * t + 3)) - drpZ z t p * (z (4 * t + 2) * z (4 * t + 3)))) 39 (if 9999999 ≤ z 39 + drpZ z t p * z (4 * t + 1) then 9999999 else z 39 + drpZ z t p * z (4 * t + 1))) (if p * z (4 * t + 3) < z (4 * t + 2) then 45 else 44) (z (if p * z (4 * t + 3) < z (4 * t + 2) then 45 else 44) + drpZ z t p)) 37 (nI ((c + 1) % 86400))
def clk (z : Zt) : Nat := (z 37).toNatClampNeg
def tarN (z : Zt) : Nat := (z (12 + clk z / 3600)).toNatClampNeg
def drvZ (z : Zt) (P S : Nat) : Nat → Zt × Int32
  | 0 => (z, 0)
  | k + 1 => (secZ (drvZ z P S k).1 (clk (drvZ z P S k).1) (tarN (drvZ z P S k).1) (nI (P * (k + 1) / S) - nI (P * k / S)), (drvZ z P S k).2 + drpZ (drvZ z P S k).1 (tarN (drvZ z P S k).1) (nI (P * (k + 1) / S) - nI (P * k / S)))
def drvF (z : Zt) (P S : Nat) : Zt := upd (upd (drvZ z P S S).1 41 ((drvZ z P S S).1 41 + nI P)) 42 ((drvZ z P S S).1 42 + nI S)
def hireZ (z : Zt) (t : Nat) : Zt := upd (upd (upd (upd (zer z 39 48) 38 1) 39 (z (4 * t))) 48 (z (4 * t + 2) * z (4 * t + 3))) 49 (z 37)
def costZ (z : Zt) (c P S : Nat) : Zt := drvF (hireZ (upd z 37 (nI c)) (z (12 + c / 3600)).toNatClampNeg) P S
/-- what a drive needs: the clock, the hours' tariffs, ways and times that aren't 0, a product that isn't 0 -/
def BV (z : Zt) : Prop := (∃ c, c < 86400 ∧ z 37 = nI c) ∧ (∀ i, i < 24 → ∃ t, t < 3 ∧ z (12 + i) = nI t) ∧ (∀ t, t < 3 → ¬ z (4 * t + 2) * z (4 * t + 3) = 0)
def DV (z : Zt) : Prop := BV z ∧ ¬ z 48 = 0
theorem BV.get {z : Zt} (h : BV z) : ∃ c t, c < 86400 ∧ z 37 = nI c ∧ t < 3 ∧ z (12 + c / 3600) = nI t ∧ ¬ z (4 * t + 2) * z (4 * t + 3) = 0 := by
  obtain ⟨⟨c, h1, h2⟩, h3, h4⟩ := h
  obtain ⟨t, h5, h6⟩ := h3 (c / 3600) (by omega)
  exact ⟨c, t, h1, h2, h5, h6, h4 t h5⟩
theorem secZ_n {z : Zt} {c t k : Nat} {p : Int32} (h : k ≠ 37 ∧ k ≠ 39 ∧ k ≠ 44 ∧ k ≠ 45 ∧ k ≠ 47 ∧ k ≠ 48) : secZ z c t p k = z k := by
  unfold secZ
  rw [upd_n h.1, upd_n (by split <;> omega), upd_n h.2.1, upd_n (by omega), upd_n (by omega), carZ_n ⟨by omega, by omega⟩]
theorem secZ_37 {z : Zt} {c t : Nat} {p : Int32} : secZ z c t p 37 = nI ((c + 1) % 86400) := upd_s
theorem secZ_48 {z : Zt} {c t : Nat} {p : Int32} : secZ z c t p 48 = z (4 * t + 2) * z (4 * t + 3) := by
  unfold secZ
  rw [upd_n (by omega), upd_n (by split <;> omega), upd_n (by omega), upd_n (by omega), upd_n (by omega), carZ_48]
theorem BV.of {z z2 : Zt} (h : BV z) (h1 : ∃ c, c < 86400 ∧ z2 37 = nI c) (h2 : ∀ k, k < 36 → z2 k = z k) : BV z2 := by
  obtain ⟨-, h3, h4⟩ := h
  refine ⟨h1, fun i hi => ?_, fun t ht => ?_⟩
  · obtain ⟨t, a, b⟩ := h3 i hi
    exact ⟨t, a, by rw [h2 _ (by omega)]; exact b⟩
  · rw [h2 _ (by omega), h2 _ (by omega)]
    exact h4 t ht
theorem DV.sec {z : Zt} {c t : Nat} {p : Int32} (h : DV z) (ht : t < 3) : DV (secZ z c t p) := by
  refine ⟨h.1.of ⟨(c + 1) % 86400, Nat.mod_lt _ (by omega), secZ_37⟩ (fun k hk => secZ_n (by omega)), ?_⟩
  rw [secZ_48]
  exact h.1.2.2 t ht
theorem clk_of {z : Zt} {c : Nat} (h : z 37 = nI c) (hc : c < 86400) : clk z = c := by
  unfold clk
  rw [h]
  exact nI_clamp (by omega)
theorem tarN_of {z : Zt} {c t : Nat} (h : z 37 = nI c) (hc : c < 86400) (h2 : z (12 + c / 3600) = nI t) (ht : t < 3) : tarN z = t := by
  unfold tarN
  rw [clk_of h hc, h2]
  exact nI_clamp (by omega)
theorem DV.drv {z : Zt} {P S : Nat} (h : DV z) : ∀ k, DV (drvZ z P S k).1
  | 0 => h
  | k + 1 => by
    have ih := DV.drv (P := P) (S := S) h k
    obtain ⟨c, t, h1, h2, h3, h4, -⟩ := ih.1.get
    show DV (secZ _ _ _ _)
    exact ih.sec (by rw [tarN_of h2 h1 h4 h3]; exact h3)
theorem drvZ_s {z : Zt} {P S k c t : Nat} (h : (drvZ z P S k).1 37 = nI c) (hc : c < 86400) (h2 : (drvZ z P S k).1 (12 + c / 3600) = nI t) (ht : t < 3) :
    drvZ z P S (k + 1) = (secZ (drvZ z P S k).1 c t (nI (P * (k + 1) / S) - nI (P * k / S)), (drvZ z P S k).2 + drpZ (drvZ z P S k).1 t (nI (P * (k + 1) / S) - nI (P * k / S))) := by
  show (_, _) = _
  rw [clk_of h hc, tarN_of h hc h2 ht]
theorem hireZ_n {z : Zt} {t k : Nat} (h : ¬ (38 ≤ k ∧ k < 50)) : hireZ z t k = z k := by
  unfold hireZ
  rw [upd_n (by omega), upd_n (by omega), upd_n (by omega), upd_n (by omega), zer_n (by omega)]
theorem hireZ_48 {z : Zt} {t : Nat} : hireZ z t 48 = z (4 * t + 2) * z (4 * t + 3) := by
  unfold hireZ
  rw [upd_n (by omega), upd_s]
theorem BV.hire {z : Zt} {t : Nat} (h : BV z) (ht : t < 3) : DV (hireZ z t) := by
  obtain ⟨c, h1, h2⟩ := h.1
  refine ⟨h.of ⟨c, h1, by rw [hireZ_n (by omega)]; exact h2⟩ (fun k hk => hireZ_n (by omega)), ?_⟩
  rw [hireZ_48]
  exact h.2.2 t ht
theorem BV.set37 {z : Zt} {c : Nat} (h : BV z) (hc : c < 86400) : BV (upd z 37 (nI c)) := h.of ⟨c, hc, upd_s⟩ (fun k hk => upd_n (by omega))
theorem i64_0 {x : Int32} (h : ¬ x = 0) : ¬ x.toInt64 = 0 := fun q => h (by
  have h1 := congrArg Int64.toInt q
  rw [Int32.toInt_toInt64] at h1
  apply Int32.toInt_inj.mp
  rw [h1]
  decide)
/-! rows that are copied -/
def cpO (f g : Nat → Int32) (off j : Nat) : Nat → Int32 := fun k => if off ≤ k ∧ k < off + j then f (k - off) else g k
def cpI (f g : Nat → Int32) (off j : Nat) : Nat → Int32 := fun k => if k < j then f (off + k) else g k
def shU (f : Nat → Int32) (j : Nat) : Nat → Int32 := fun k => if k < j then f (k + 113) else f k
def shL (f : Nat → Int32) (j : Nat) : Nat → Int32 := fun k => if 53 + j < k ∧ k < 113 then f (k - 5) else f k
theorem cpO_0 {f g : Nat → Int32} {off : Nat} : cpO f g off 0 = g := by funext k; unfold cpO; rw [if_neg (by omega)]
theorem cpO_s {f g : Nat → Int32} {off j : Nat} : upd (cpO f g off j) (off + j) (f j) = cpO f g off (j + 1) := by
  funext k
  show (if k = off + j then _ else _) = _
  by_cases h : k = off + j
  · rw [if_pos h]
    unfold cpO
    rw [if_pos (by omega)]
    congr 1
    omega
  · rw [if_neg h]
    unfold cpO
    by_cases h2 : off ≤ k ∧ k < off + j
    · rw [if_pos h2, if_pos (by omega)]
    · rw [if_neg h2, if_neg (by omega)]
theorem cpI_0 {f g : Nat → Int32} {off : Nat} : cpI f g off 0 = g := by funext k; unfold cpI; rw [if_neg (by omega)]
theorem cpI_s {f g : Nat → Int32} {off j : Nat} : upd (cpI f g off j) j (f (off + j)) = cpI f g off (j + 1) := by
  funext k
  show (if k = j then _ else _) = _
  by_cases h : k = j
  · rw [if_pos h]
    unfold cpI
    rw [if_pos (by omega), h]
  · rw [if_neg h]
    unfold cpI
    by_cases h2 : k < j
    · rw [if_pos h2, if_pos (by omega)]
    · rw [if_neg h2, if_neg (by omega)]
theorem shU_0 {f : Nat → Int32} : shU f 0 = f := by funext k; unfold shU; rw [if_neg (by omega)]
theorem shU_r {f : Nat → Int32} {j : Nat} : shU f j (j + 113) = f (j + 113) := by unfold shU; rw [if_neg (by omega)]
theorem shU_s {f : Nat → Int32} {j : Nat} : upd (shU f j) j (f (j + 113)) = shU f (j + 1) := by
  funext k
  show (if k = j then _ else _) = _
  by_cases h : k = j
  · rw [if_pos h]
    unfold shU
    rw [if_pos (by omega), h]
  · rw [if_neg h]
    unfold shU
    by_cases h2 : k < j
    · rw [if_pos h2, if_pos (by omega)]
    · rw [if_neg h2, if_neg (by omega)]
theorem shL_0 {f : Nat → Int32} : shL f 59 = f := by funext k; unfold shL; rw [if_neg (by omega)]
theorem shL_r {f : Nat → Int32} {j : Nat} (h : 5 ≤ j) : shL f j (53 + j - 5) = f (53 + j - 5) := by unfold shL; rw [if_neg (by omega)]
theorem shL_s {f : Nat → Int32} {j : Nat} (h : 5 ≤ j + 1) (h2 : j + 1 < 60) : upd (shL f (j + 1)) (53 + (j + 1)) (f (53 + (j + 1) - 5)) = shL f j := by
  funext k
  show (if k = 53 + (j + 1) then _ else _) = _
  by_cases h : k = 53 + (j + 1)
  · rw [if_pos h]
    unfold shL
    rw [if_pos (by omega), h]
  · rw [if_neg h]
    unfold shL
    by_cases h3 : 53 + (j + 1) < k ∧ k < 113
    · rw [if_pos h3, if_pos (by omega)]
    · rw [if_neg h3, if_neg (by omega)]
theorem cpI_e {f g : Nat → Int32} {off n : Nat} : ∀ k, k < n → cpI f g off n k = f (off + k) := fun k hk => if_pos hk
theorem zer_0 {f : Nat → Int32} : zer f 39 39 = f := by funext k; unfold zer; rw [if_neg (by omega)]
theorem zer_s {f : Nat → Int32} {j : Nat} (h : 39 ≤ j) : upd (zer f 39 j) j 0 = zer f 39 (j + 1) := by
  funext k
  show (if k = j then _ else _) = _
  by_cases h2 : k = j
  · rw [if_pos h2]
    unfold zer
    rw [if_pos (by omega)]
  · rw [if_neg h2]
    unfold zer
    by_cases h3 : 39 ≤ k ∧ k < j
    · rw [if_pos h3, if_pos (by omega)]
    · rw [if_neg h3, if_neg (by omega)]
/-- the history behind a record -/
def recP (z past : Nat → Int32) (pm : Nat) : Nat → Int32 := if pm = 6 then cpO z (shU past 565) 565 113 else cpO z past (pm * 113) 113
def endZ (z : Zt) : Zt := upd (upd (upd (upd (upd (upd (upd (upd (upd (shL z 4) 53 (z 39 + z 40)) 54 (z 41)) 55 (z 42 + z 43)) 56 (z 44 + z 45)) 57 (z 49)) 52 (if 12 ≤ z 52 then 12 else z 52 + 1)) 50 (z 50 + 1)) 51 (z 51 + (z 39 + z 40) - (z 51 + (z 39 + z 40)) / 1000000 * 1000000)) 38 0
def restZ (z : Zt) (c s : Nat) : Zt := upd (upd z 37 (nI ((c + s) % 86400))) 43 (z 43 + (if z 38 = 2 then nI s else 0))
def haltZ (z : Zt) : Zt := upd z 38 (3 - z 38)
def extraZ (z : Zt) : Zt := upd (upd z 46 (z 46 + 1)) 40 (z 40 + z 36)
end
section

def okT (v : Int32) : Prop := ¬ v < 0 ∧ ¬ 2 < v

set_option maxRecDepth 100000 in
set_option maxHeartbeats 4000000 in
theorem c_X10_in (g : Gd) (v : Int32) (lo : Int32) (hi : Int32)  : Ki g yX10_in cX10_in 3 (some .boolean) 0 0 0 [.int v, .int lo, .int hi] [] (fun (r : Int32) (w : va_W) => (¬ v < lo ∧ ¬ hi < v ∧ r = 1 ∧ w = []) ∨ ((v < lo ∨ hi < v) ∧ r = 0 ∧ w = [])) := by
  refine Kz.of (by decide) (Nat.le_of_ble_eq_true rfl) (fun X C hI hret => ?_)
  show V g X 0 0 [] 0 [(0, .int v), (1, .int lo), (2, .int hi)] []
  refine V_iload_n C 0 dX10_in_0 rfl rfl ?_
  refine V_iload_n C 1 dX10_in_1 rfl rfl ?_
  refine V_icmp_lt (tgt := 14) C dX10_in_2 (by decide) (fun c_2 => ?_) (fun c_2 => ?_)
  · refine V_iconst (v := 0) C dX10_in_14 (by decide) ?_
    refine hret _ _ _ _ dX10_in_15 (by first | rfl | (split <;> rfl) | decide) ?_
    exact Or.inr ⟨Or.inl c_2, rfl, rfl⟩
  · refine V_iload_n C 0 dX10_in_5 rfl rfl ?_
    refine V_iload_n C 2 dX10_in_6 rfl rfl ?_
    refine V_icmp_gt (tgt := 14) C dX10_in_7 (by decide) (fun c_7 => ?_) (fun c_7 => ?_)
    · refine V_iconst (v := 0) C dX10_in_14 (by decide) ?_
      refine hret _ _ _ _ dX10_in_15 (by first | rfl | (split <;> rfl) | decide) ?_
      exact Or.inr ⟨Or.inr c_7, rfl, rfl⟩
    · refine V_iconst (v := 1) C dX10_in_10 (by decide) ?_
      refine V_goto (tgt := 15) C dX10_in_11 (by decide) ?_
      refine hret _ _ _ _ dX10_in_15 (by first | rfl | (split <;> rfl) | decide) ?_
      exact Or.inl ⟨c_2, c_7, rfl, rfl⟩
set_option maxRecDepth 100000 in
set_option maxHeartbeats 4000000 in
theorem c_X10_isTariff (g : Gd) (v : Int32)  : Ki g yX10_isTariff cX10_isTariff 1 (some .boolean) 1 0 0 [.int v] [] (fun (r : Int32) (w : va_W) => (okT v ∧ r = 1 ∧ w = []) ∨ (¬ okT v ∧ r = 0 ∧ w = [])) := by
  refine Kz.of (by decide) (Nat.le_of_ble_eq_true rfl) (fun X C hI hret => ?_)
  show V g X 0 0 [] 0 [(0, .int v)] []
  refine V_iload_n C 0 dX10_isTariff_0 rfl rfl ?_
  refine V_iconst (v := 0) C dX10_isTariff_1 (by decide) ?_
  refine V_iconst (v := 2) C dX10_isTariff_2 (by decide) ?_
  refine V_callSi (na := 3) (As := [.int v, .int 0, .int 2]) (rest := []) (wr := []) C (c_X10_in g v 0 2 ) ⟨⟨ini_X10, co_X10_in, ⟨by decide, by decide, by decide +kernel⟩, by decide⟩, ml_X10_33, sm_X10_in⟩ [] [] rfl rfl rfl rfl (by decide) rfl rfl (Nat.le_of_ble_eq_true rfl) (by omega) (by omega) dX10_isTariff_3 (fun r_1 w_ hw_2 => ?_)
  rcases hw_2 with ⟨hf2_0, hf2_1, rfl, rfl⟩ | ⟨hf2_0, rfl, rfl⟩
  · refine V_to (ws2 := []) ?_ rfl
    refine hret _ _ _ _ dX10_isTariff_6 (by first | rfl | (split <;> rfl) | decide) ?_
    exact Or.inl ⟨⟨hf2_0, hf2_1⟩, rfl, rfl⟩
  · refine V_to (ws2 := []) ?_ rfl
    refine hret _ _ _ _ dX10_isTariff_6 (by first | rfl | (split <;> rfl) | decide) ?_
    exact Or.inr ⟨fun h => (hf2_0).elim h.1 h.2, rfl, rfl⟩
set_option maxRecDepth 100000 in
set_option maxHeartbeats 4000000 in
theorem c_X10_isDrive (g : Gd) (p : Int32) (q : Int32)  : Ki g yX10_isDrive cX10_isDrive 2 (some .boolean) 1 0 0 [.int p, .int q] [] (fun (r : Int32) (w : va_W) => (okD p q ∧ r = 1 ∧ w = []) ∨ (¬ okD p q ∧ r = 0 ∧ w = [])) := by
  refine Kz.of (by decide) (Nat.le_of_ble_eq_true rfl) (fun X C hI hret => ?_)
  show V g X 0 0 [] 0 [(0, .int p), (1, .int q)] []
  refine V_iload_n C 0 dX10_isDrive_0 rfl rfl ?_
  refine V_iconst (v := 0) C dX10_isDrive_1 (by decide) ?_
  refine V_sipush (v := 9999) C dX10_isDrive_2 (by decide) ?_
  refine V_callSi (na := 3) (As := [.int p, .int 0, .int 9999]) (rest := []) (wr := []) C (c_X10_in g p 0 9999 ) ⟨⟨ini_X10, co_X10_in, ⟨by decide, by decide, by decide +kernel⟩, by decide⟩, ml_X10_33, sm_X10_in⟩ [] [] rfl rfl rfl rfl (by decide) rfl rfl (Nat.le_of_ble_eq_true rfl) (by omega) (by omega) dX10_isDrive_5 (fun r_1 w_ hw_2 => ?_)
  rcases hw_2 with ⟨hf2_0, hf2_1, rfl, rfl⟩ | ⟨hf2_0, rfl, rfl⟩
  · refine V_to (ws2 := []) ?_ rfl
    refine V_if_eq (tgt := 26) C dX10_isDrive_8 (by decide) (fun h => absurd h (by decide)) (fun _ => ?_)
    refine V_iload_n C 1 dX10_isDrive_11 rfl rfl ?_
    refine V_iconst (v := 1) C dX10_isDrive_12 (by decide) ?_
    refine V_sipush (v := 9999) C dX10_isDrive_13 (by decide) ?_
    refine V_callSi (na := 3) (As := [.int q, .int 1, .int 9999]) (rest := []) (wr := []) C (c_X10_in g q 1 9999 ) ⟨⟨ini_X10, co_X10_in, ⟨by decide, by decide, by decide +kernel⟩, by decide⟩, ml_X10_33, sm_X10_in⟩ [] [] rfl rfl rfl rfl (by decide) rfl rfl (Nat.le_of_ble_eq_true rfl) (by omega) (by omega) dX10_isDrive_16 (fun r_3 w_ hw_4 => ?_)
    rcases hw_4 with ⟨hf4_0, hf4_1, rfl, rfl⟩ | ⟨hf4_0, rfl, rfl⟩
    · refine V_to (ws2 := []) ?_ rfl
      refine V_if_eq (tgt := 26) C dX10_isDrive_19 (by decide) (fun h => absurd h (by decide)) (fun _ => ?_)
      refine V_iconst (v := 1) C dX10_isDrive_22 (by decide) ?_
      refine V_goto (tgt := 27) C dX10_isDrive_23 (by decide) ?_
      refine hret _ _ _ _ dX10_isDrive_27 (by first | rfl | (split <;> rfl) | decide) ?_
      exact Or.inl ⟨⟨hf2_0, hf2_1, hf4_0, hf4_1⟩, rfl, rfl⟩
    · refine V_to (ws2 := []) ?_ rfl
      refine V_if_eq (tgt := 26) C dX10_isDrive_19 (by decide) (fun _ => ?_) (fun h => absurd (by decide) h)
      refine V_iconst (v := 0) C dX10_isDrive_26 (by decide) ?_
      refine hret _ _ _ _ dX10_isDrive_27 (by first | rfl | (split <;> rfl) | decide) ?_
      exact Or.inr ⟨fun h => (hf4_0).elim h.2.2.1 h.2.2.2, rfl, rfl⟩
  · refine V_to (ws2 := []) ?_ rfl
    refine V_if_eq (tgt := 26) C dX10_isDrive_8 (by decide) (fun _ => ?_) (fun h => absurd (by decide) h)
    refine V_iconst (v := 0) C dX10_isDrive_26 (by decide) ?_
    refine hret _ _ _ _ dX10_isDrive_27 (by first | rfl | (split <;> rfl) | decide) ?_
    exact Or.inr ⟨fun h => (hf2_0).elim h.1 h.2.1, rfl, rfl⟩
set_option maxRecDepth 100000 in
set_option maxHeartbeats 4000000 in
theorem c_X10_its (g : Gd) (h0 : Nat) (h1 : Nat) (h2 : Nat) (h3 : Nat) (h4 : Nat) (h5 : Nat) (h6 : Nat) (h7 : Nat) (pm : Int32) (ty : Int32) (om : Int32) (sp : Int32) (wr : Int32) (z : Nat → Int32) (t : Nat) (w0 : Nat) (ht : t < 3) (hw : w0 < 4) : Ki g yX10_its cX10_its 3 (some .int) 0 0 0 [.ref h0, .int (nI t), .int (nI w0)] [(h0, .inr (10, [.ref h1, .ref h2, .ref h3, .ref h4, .int pm, .ref h5, .ref h6, .int ty, .ref h7, .int om, .int sp, .int wr])), (h1, .inl (gI g, 113, .inl z))] (fun (r : Int32) (w : va_W) => r = z (4 * t + w0) ∧ w = [(h0, .inr (10, [.ref h1, .ref h2, .ref h3, .ref h4, .int pm, .ref h5, .ref h6, .int ty, .ref h7, .int om, .int sp, .int wr])), (h1, .inl (gI g, 113, .inl z))]) := by
  refine Ki.of (by decide) (Nat.le_of_ble_eq_true rfl) (fun X C hI hret => ?_)
  show V g X 0 0 [(h0, .inr (10, [.ref h1, .ref h2, .ref h3, .ref h4, .int pm, .ref h5, .ref h6, .int ty, .ref h7, .int om, .int sp, .int wr])), (h1, .inl (gI g, 113, .inl z))] 0 [(0, .ref h0), (1, .int (nI t)), (2, .int (nI w0))] []
  refine V_aload_n C 0 dX10_its_0 rfl rfl ?_
  refine V_get (v := .ref h1) C 0 rfl rfl in_X10 0 (by decide) fl_X10_7 rfl rfl dX10_its_1 ?_
  refine V_iconst (v := 0) C dX10_its_4 (by decide) ?_
  refine V_iconst (v := 4) C dX10_its_5 (by decide) ?_
  refine V_iload_n C 1 dX10_its_6 rfl rfl ?_
  refine V_imul C dX10_its_7 ?_
  refine V_ev (show (4 * (nI t) : Int32) = nI (4 * t) from pk_mul 4 t) ?_
  refine V_iadd C dX10_its_8 ?_
  refine V_ev (show (0 + (nI (4 * t)) : Int32) = nI (4 * t) from Int32.zero_add _) ?_
  refine V_iload_n C 2 dX10_its_9 rfl rfl ?_
  refine V_iadd C dX10_its_10 ?_
  refine V_ev (show ((nI (4 * t)) + (nI w0) : Int32) = nI ((4 * t) + w0) from nI_add (4 * t) w0) ?_
  refine V_iald C 1 rfl (ix_nI (show (4 * t) + w0 < 113 by omega) (by omega)) dX10_its_11 ?_
  refine hret _ _ _ _ dX10_its_12 ?_
  exact ⟨rfl, rfl⟩
set_option maxRecDepth 100000 in
set_option maxHeartbeats 4000000 in
theorem c_X10_tariffAt (g : Gd) (h0 : Nat) (h1 : Nat) (h2 : Nat) (h3 : Nat) (h4 : Nat) (h5 : Nat) (h6 : Nat) (h7 : Nat) (pm : Int32) (ty : Int32) (om : Int32) (sp : Int32) (wr : Int32) (z : Nat → Int32) (c : Nat) (hc : c < 86400) : Ki g yX10_tariffAt cX10_tariffAt 2 (some .int) 0 0 0 [.ref h0, .int (nI c)] [(h0, .inr (10, [.ref h1, .ref h2, .ref h3, .ref h4, .int pm, .ref h5, .ref h6, .int ty, .ref h7, .int om, .int sp, .int wr])), (h1, .inl (gI g, 113, .inl z))] (fun (r : Int32) (w : va_W) => r = z (12 + c / 3600) ∧ w = [(h0, .inr (10, [.ref h1, .ref h2, .ref h3, .ref h4, .int pm, .ref h5, .ref h6, .int ty, .ref h7, .int om, .int sp, .int wr])), (h1, .inl (gI g, 113, .inl z))]) := by
  refine Ki.of (by decide) (Nat.le_of_ble_eq_true rfl) (fun X C hI hret => ?_)
  show V g X 0 0 [(h0, .inr (10, [.ref h1, .ref h2, .ref h3, .ref h4, .int pm, .ref h5, .ref h6, .int ty, .ref h7, .int om, .int sp, .int wr])), (h1, .inl (gI g, 113, .inl z))] 0 [(0, .ref h0), (1, .int (nI c))] []
  refine V_aload_n C 0 dX10_tariffAt_0 rfl rfl ?_
  refine V_get (v := .ref h1) C 0 rfl rfl in_X10 0 (by decide) fl_X10_7 rfl rfl dX10_tariffAt_1 ?_
  refine V_bipush (v := 12) C dX10_tariffAt_4 (by decide) ?_
  refine V_iload_n C 1 dX10_tariffAt_6 rfl rfl ?_
  refine V_sipush (v := 3600) C dX10_tariffAt_7 (by decide) ?_
  refine V_idiv C dX10_tariffAt_10 (by decide) ?_
  refine V_ev (show ((nI c) / 3600 : Int32) = nI (c / 3600) from pk_div (d := 3600) (by omega) (by omega) (by omega)) ?_
  refine V_iadd C dX10_tariffAt_11 ?_
  refine V_ev (show (12 + (nI (c / 3600)) : Int32) = nI (12 + (c / 3600)) from nI_add 12 (c / 3600)) ?_
  refine V_iald C 1 rfl (ix_nI (show 12 + (c / 3600) < 113 by omega) (by omega)) dX10_tariffAt_12 ?_
  refine hret _ _ _ _ dX10_tariffAt_13 ?_
  exact ⟨rfl, rfl⟩
set_option maxRecDepth 100000 in
set_option maxHeartbeats 4000000 in
theorem c_X10_productOf (g : Gd) (h0 : Nat) (h1 : Nat) (h2 : Nat) (h3 : Nat) (h4 : Nat) (h5 : Nat) (h6 : Nat) (h7 : Nat) (pm : Int32) (ty : Int32) (om : Int32) (sp : Int32) (wr : Int32) (z : Nat → Int32) (t : Nat) (ht : t < 3) : Ki g yX10_productOf cX10_productOf 2 (some .int) 1 0 0 [.ref h0, .int (nI t)] [(h0, .inr (10, [.ref h1, .ref h2, .ref h3, .ref h4, .int pm, .ref h5, .ref h6, .int ty, .ref h7, .int om, .int sp, .int wr])), (h1, .inl (gI g, 113, .inl z))] (fun (r : Int32) (w : va_W) => r = z (4 * t + 2) * z (4 * t + 3) ∧ w = [(h0, .inr (10, [.ref h1, .ref h2, .ref h3, .ref h4, .int pm, .ref h5, .ref h6, .int ty, .ref h7, .int om, .int sp, .int wr])), (h1, .inl (gI g, 113, .inl z))]) := by
  refine Ki.of (by decide) (Nat.le_of_ble_eq_true rfl) (fun X C hI hret => ?_)
  show V g X 0 0 [(h0, .inr (10, [.ref h1, .ref h2, .ref h3, .ref h4, .int pm, .ref h5, .ref h6, .int ty, .ref h7, .int om, .int sp, .int wr])), (h1, .inl (gI g, 113, .inl z))] 0 [(0, .ref h0), (1, .int (nI t))] []
  refine V_aload_n C 0 dX10_productOf_0 rfl rfl ?_
  refine V_iload_n C 1 dX10_productOf_1 rfl rfl ?_
  refine V_iconst (v := 2) C dX10_productOf_2 (by decide) ?_
  refine V_callVi (q0 := 0) (na := 2) (As := [.int (nI t), .int 2]) (rest := []) (wr := []) C (c_X10_its g h0 h1 h2 h3 h4 h5 h6 h7 pm ty om sp wr z t 2 (show t < 3 from by first | assumption | omega | exact ix_nI (by omega) (by omega) | decide) (show 2 < 4 from by first | assumption | omega | exact ix_nI (by omega) (by omega) | decide)) ⟨⟨ini_X10, co_X10_its, ⟨by decide, by decide, by decide +kernel⟩, by decide⟩, ml_X10_37, im_X10_its, se_X10_its⟩ [0, 1] [] rfl rfl rfl rfl (by decide) rfl rfl rfl rfl (Nat.le_of_ble_eq_true rfl) (by omega) (by omega) dX10_productOf_3 (fun r_1 w_ hw_2 => ?_)
  obtain ⟨rfl, rfl⟩ := hw_2
  refine V_to (ws2 := [(h0, .inr (10, [.ref h1, .ref h2, .ref h3, .ref h4, .int pm, .ref h5, .ref h6, .int ty, .ref h7, .int om, .int sp, .int wr])), (h1, .inl (gI g, 113, .inl z))]) ?_ rfl
  refine V_aload_n C 0 dX10_productOf_6 rfl rfl ?_
  refine V_iload_n C 1 dX10_productOf_7 rfl rfl ?_
  refine V_iconst (v := 3) C dX10_productOf_8 (by decide) ?_
  refine V_callVi (q0 := 0) (na := 2) (As := [.int (nI t), .int 3]) (rest := [.int (z (4 * t + 2))]) (wr := []) C (c_X10_its g h0 h1 h2 h3 h4 h5 h6 h7 pm ty om sp wr z t 3 (show t < 3 from by first | assumption | omega | exact ix_nI (by omega) (by omega) | decide) (show 3 < 4 from by first | assumption | omega | exact ix_nI (by omega) (by omega) | decide)) ⟨⟨ini_X10, co_X10_its, ⟨by decide, by decide, by decide +kernel⟩, by decide⟩, ml_X10_37, im_X10_its, se_X10_its⟩ [0, 1] [] rfl rfl rfl rfl (by decide) rfl rfl rfl rfl (Nat.le_of_ble_eq_true rfl) (by omega) (by omega) dX10_productOf_9 (fun r_3 w_ hw_4 => ?_)
  obtain ⟨rfl, rfl⟩ := hw_4
  refine V_to (ws2 := [(h0, .inr (10, [.ref h1, .ref h2, .ref h3, .ref h4, .int pm, .ref h5, .ref h6, .int ty, .ref h7, .int om, .int sp, .int wr])), (h1, .inl (gI g, 113, .inl z))]) ?_ rfl
  refine V_imul C dX10_productOf_12 ?_
  refine hret _ _ _ _ dX10_productOf_13 ?_
  exact ⟨rfl, rfl⟩
set_option maxRecDepth 100000 in
set_option maxHeartbeats 4000000 in
theorem c_X10_putAside (g : Gd) (h0 : Nat) (h1 : Nat) (h2 : Nat) (h3 : Nat) (h4 : Nat) (h5 : Nat) (h6 : Nat) (h7 : Nat) (pm : Int32) (ty : Int32) (om : Int32) (sp : Int32) (wr : Int32) (z : Nat → Int32) (y : Nat → Int32)  : Kv g yX10_putAside cX10_putAside 2 none 0 0 0 [.ref h0] [(h0, .inr (10, [.ref h1, .ref h2, .ref h3, .ref h4, .int pm, .ref h5, .ref h6, .int ty, .ref h7, .int om, .int sp, .int wr])), (h1, .inl (gI g, 113, .inl z)), (h5, .inl (gI g, 113, .inl y))] (fun (w : va_W) => w = [(h0, .inr (10, [.ref h1, .ref h2, .ref h3, .ref h4, .int pm, .ref h5, .ref h6, .int ty, .ref h7, .int om, .int sp, .int wr])), (h1, .inl (gI g, 113, .inl z)), (h5, .inl (gI g, 113, .inl z))]) := by
  refine Kv.of (by decide) (Nat.le_of_ble_eq_true rfl) (fun X C hI hret => ?_)
  show V g X 0 0 [(h0, .inr (10, [.ref h1, .ref h2, .ref h3, .ref h4, .int pm, .ref h5, .ref h6, .int ty, .ref h7, .int om, .int sp, .int wr])), (h1, .inl (gI g, 113, .inl z)), (h5, .inl (gI g, 113, .inl y))] 0 [(0, .ref h0)] []
  refine V_iconst (v := 0) C dX10_putAside_0 (by decide) ?_
  refine V_istore_n (L2 := [(1, .int 0), (0, .ref h0)]) C dX10_putAside_1 rfl (by decide) rfl ?_
  refine V_to (ws2 := [(h0, .inr (10, [.ref h1, .ref h2, .ref h3, .ref h4, .int pm, .ref h5, .ref h6, .int ty, .ref h7, .int om, .int sp, .int wr])), (h1, .inl (gI g, 113, .inl z)), (h5, .inl (gI g, 113, .inl (cpI z y 0 0)))]) ?_ (by rw [cpI_0])
  have loop_2 : ∀ (fu_2 : Nat) (j : Nat), j ≤ 113 → 113 - j < fu_2 → V g X 0 0 [(h0, .inr (10, [.ref h1, .ref h2, .ref h3, .ref h4, .int pm, .ref h5, .ref h6, .int ty, .ref h7, .int om, .int sp, .int wr])), (h1, .inl (gI g, 113, .inl z)), (h5, .inl (gI g, 113, .inl (cpI z y 0 j)))] 2 [(0, .ref h0), (1, .int (nI j))] [] := by
    intro fu_2
    induction fu_2 with
    | zero => intro j hj hm; exact absurd hm (by omega)
    | succ fu_2 ih_2 =>
      intro j hj hm
      refine V_iload_n C 1 dX10_putAside_2 rfl rfl ?_
      refine V_bipush (v := 113) C dX10_putAside_3 (by decide) ?_
      refine V_icmp_ge (tgt := 26) C dX10_putAside_5 (by decide) (fun c_5 => ?_) (fun c_5 => ?_)
      · have hj2 : j = 113 := by have := lp_ge 113 rfl (by omega) (by omega) c_5; omega
        subst hj2
        refine V_ext (f2 := z) (ws2 := [(h0, .inr (10, [.ref h1, .ref h2, .ref h3, .ref h4, .int pm, .ref h5, .ref h6, .int ty, .ref h7, .int om, .int sp, .int wr])), (h1, .inl (gI g, 113, .inl z)), (h5, .inl (gI g, 113, .inl z))]) 2 rfl (fun k hk => by rw [cpI_e k hk, Nat.zero_add]) rfl ?_
        refine hret _ _ _ dX10_putAside_26 ?_
        exact rfl
      · have hj2 : j < 113 := lp_lt 113 rfl (by omega) (by omega) c_5
        refine V_aload_n C 0 dX10_putAside_8 rfl rfl ?_
        refine V_get (v := .ref h5) C 0 rfl rfl in_X10 5 (by decide) fl_X10_23 rfl rfl dX10_putAside_9 ?_
        refine V_iload_n C 1 dX10_putAside_12 rfl rfl ?_
        refine V_aload_n C 0 dX10_putAside_13 rfl rfl ?_
        refine V_get (v := .ref h1) C 0 rfl rfl in_X10 0 (by decide) fl_X10_7 rfl rfl dX10_putAside_14 ?_
        refine V_iload_n C 1 dX10_putAside_17 rfl rfl ?_
        refine V_iald C 1 rfl (ix_nI (show j < 113 by omega) (by omega)) dX10_putAside_18 ?_
        refine V_iast (ws2 := [(h0, .inr (10, [.ref h1, .ref h2, .ref h3, .ref h4, .int pm, .ref h5, .ref h6, .int ty, .ref h7, .int om, .int sp, .int wr])), (h1, .inl (gI g, 113, .inl z)), (h5, .inl (gI g, 113, .inl (upd (cpI z y 0 j) j (z j))))]) C 2 rfl (ix_nI (show j < 113 by omega) (by omega)) dX10_putAside_19 rfl ?_
        refine V_to (ws2 := [(h0, .inr (10, [.ref h1, .ref h2, .ref h3, .ref h4, .int pm, .ref h5, .ref h6, .int ty, .ref h7, .int om, .int sp, .int wr])), (h1, .inl (gI g, 113, .inl z)), (h5, .inl (gI g, 113, .inl (cpI z y 0 (j + 1))))]) ?_ (by rw [← cpI_s, Nat.zero_add])
        refine V_iinc (v := nI (j + 1)) (L2 := [(1, .int (nI (j + 1))), (0, .ref h0)]) C 1 dX10_putAside_20 rfl (nI_add j 1) (by decide) rfl ?_
        refine V_goto (tgt := 2) C dX10_putAside_23 (by decide) ?_
        refine V_locs (L2 := [(0, .ref h0), (1, .int (nI (j + 1)))]) [1, 0] rfl ?_
        exact ih_2 (j + 1) (show (j + 1) ≤ 113 from by first | assumption | omega | rfl) (by omega)
  refine V_locs (L2 := [(0, .ref h0), (1, .int 0)]) [1, 0] rfl ?_
  exact loop_2 (113 - 0 + 1) 0 (show 0 ≤ 113 from by first | assumption | omega | rfl) (by omega)
set_option maxRecDepth 100000 in
set_option maxHeartbeats 4000000 in
theorem c_X10_bringBack (g : Gd) (h0 : Nat) (h1 : Nat) (h2 : Nat) (h3 : Nat) (h4 : Nat) (h5 : Nat) (h6 : Nat) (h7 : Nat) (pm : Int32) (ty : Int32) (om : Int32) (sp : Int32) (wr : Int32) (z : Nat → Int32) (y : Nat → Int32)  : Kv g yX10_bringBack cX10_bringBack 2 none 0 0 0 [.ref h0] [(h0, .inr (10, [.ref h1, .ref h2, .ref h3, .ref h4, .int pm, .ref h5, .ref h6, .int ty, .ref h7, .int om, .int sp, .int wr])), (h1, .inl (gI g, 113, .inl z)), (h5, .inl (gI g, 113, .inl y))] (fun (w : va_W) => w = [(h0, .inr (10, [.ref h1, .ref h2, .ref h3, .ref h4, .int pm, .ref h5, .ref h6, .int ty, .ref h7, .int om, .int sp, .int wr])), (h1, .inl (gI g, 113, .inl y)), (h5, .inl (gI g, 113, .inl y))]) := by
  refine Kv.of (by decide) (Nat.le_of_ble_eq_true rfl) (fun X C hI hret => ?_)
  show V g X 0 0 [(h0, .inr (10, [.ref h1, .ref h2, .ref h3, .ref h4, .int pm, .ref h5, .ref h6, .int ty, .ref h7, .int om, .int sp, .int wr])), (h1, .inl (gI g, 113, .inl z)), (h5, .inl (gI g, 113, .inl y))] 0 [(0, .ref h0)] []
  refine V_iconst (v := 0) C dX10_bringBack_0 (by decide) ?_
  refine V_istore_n (L2 := [(1, .int 0), (0, .ref h0)]) C dX10_bringBack_1 rfl (by decide) rfl ?_
  refine V_to (ws2 := [(h0, .inr (10, [.ref h1, .ref h2, .ref h3, .ref h4, .int pm, .ref h5, .ref h6, .int ty, .ref h7, .int om, .int sp, .int wr])), (h1, .inl (gI g, 113, .inl (cpI y z 0 0))), (h5, .inl (gI g, 113, .inl y))]) ?_ (by rw [cpI_0])
  have loop_2 : ∀ (fu_2 : Nat) (j : Nat), j ≤ 113 → 113 - j < fu_2 → V g X 0 0 [(h0, .inr (10, [.ref h1, .ref h2, .ref h3, .ref h4, .int pm, .ref h5, .ref h6, .int ty, .ref h7, .int om, .int sp, .int wr])), (h1, .inl (gI g, 113, .inl (cpI y z 0 j))), (h5, .inl (gI g, 113, .inl y))] 2 [(0, .ref h0), (1, .int (nI j))] [] := by
    intro fu_2
    induction fu_2 with
    | zero => intro j hj hm; exact absurd hm (by omega)
    | succ fu_2 ih_2 =>
      intro j hj hm
      refine V_iload_n C 1 dX10_bringBack_2 rfl rfl ?_
      refine V_bipush (v := 113) C dX10_bringBack_3 (by decide) ?_
      refine V_icmp_ge (tgt := 26) C dX10_bringBack_5 (by decide) (fun c_5 => ?_) (fun c_5 => ?_)
      · have hj2 : j = 113 := by have := lp_ge 113 rfl (by omega) (by omega) c_5; omega
        subst hj2
        refine V_ext (f2 := y) (ws2 := [(h0, .inr (10, [.ref h1, .ref h2, .ref h3, .ref h4, .int pm, .ref h5, .ref h6, .int ty, .ref h7, .int om, .int sp, .int wr])), (h1, .inl (gI g, 113, .inl y)), (h5, .inl (gI g, 113, .inl y))]) 1 rfl (fun k hk => by rw [cpI_e k hk, Nat.zero_add]) rfl ?_
        refine hret _ _ _ dX10_bringBack_26 ?_
        exact rfl
      · have hj2 : j < 113 := lp_lt 113 rfl (by omega) (by omega) c_5
        refine V_aload_n C 0 dX10_bringBack_8 rfl rfl ?_
        refine V_get (v := .ref h1) C 0 rfl rfl in_X10 0 (by decide) fl_X10_7 rfl rfl dX10_bringBack_9 ?_
        refine V_iload_n C 1 dX10_bringBack_12 rfl rfl ?_
        refine V_aload_n C 0 dX10_bringBack_13 rfl rfl ?_
        refine V_get (v := .ref h5) C 0 rfl rfl in_X10 5 (by decide) fl_X10_23 rfl rfl dX10_bringBack_14 ?_
        refine V_iload_n C 1 dX10_bringBack_17 rfl rfl ?_
        refine V_iald C 2 rfl (ix_nI (show j < 113 by omega) (by omega)) dX10_bringBack_18 ?_
        refine V_iast (ws2 := [(h0, .inr (10, [.ref h1, .ref h2, .ref h3, .ref h4, .int pm, .ref h5, .ref h6, .int ty, .ref h7, .int om, .int sp, .int wr])), (h1, .inl (gI g, 113, .inl (upd (cpI y z 0 j) j (y j)))), (h5, .inl (gI g, 113, .inl y))]) C 1 rfl (ix_nI (show j < 113 by omega) (by omega)) dX10_bringBack_19 rfl ?_
        refine V_to (ws2 := [(h0, .inr (10, [.ref h1, .ref h2, .ref h3, .ref h4, .int pm, .ref h5, .ref h6, .int ty, .ref h7, .int om, .int sp, .int wr])), (h1, .inl (gI g, 113, .inl (cpI y z 0 (j + 1)))), (h5, .inl (gI g, 113, .inl y))]) ?_ (by rw [← cpI_s, Nat.zero_add])
        refine V_iinc (v := nI (j + 1)) (L2 := [(1, .int (nI (j + 1))), (0, .ref h0)]) C 1 dX10_bringBack_20 rfl (nI_add j 1) (by decide) rfl ?_
        refine V_goto (tgt := 2) C dX10_bringBack_23 (by decide) ?_
        refine V_locs (L2 := [(0, .ref h0), (1, .int (nI (j + 1)))]) [1, 0] rfl ?_
        exact ih_2 (j + 1) (show (j + 1) ≤ 113 from by first | assumption | omega | rfl) (by omega)
  refine V_locs (L2 := [(0, .ref h0), (1, .int 0)]) [1, 0] rfl ?_
  exact loop_2 (113 - 0 + 1) 0 (show 0 ≤ 113 from by first | assumption | omega | rfl) (by omega)
set_option maxRecDepth 100000 in
set_option maxHeartbeats 4000000 in
theorem c_X10_hireIt (g : Gd) (h0 : Nat) (h1 : Nat) (h2 : Nat) (h3 : Nat) (h4 : Nat) (h5 : Nat) (h6 : Nat) (h7 : Nat) (pm : Int32) (ty : Int32) (om : Int32) (sp : Int32) (wr : Int32) (z : Nat → Int32) (c : Nat) (t : Nat) (hc : c < 86400) (hz : z 37 = nI c) (ht : t < 3) (hzt : z (12 + c / 3600) = nI t) : Ki g yX10_hireIt cX10_hireIt 2 (some .int) 2 0 0 [.ref h0] [(h0, .inr (10, [.ref h1, .ref h2, .ref h3, .ref h4, .int pm, .ref h5, .ref h6, .int ty, .ref h7, .int om, .int sp, .int wr])), (h1, .inl (gI g, 113, .inl z))] (fun (r : Int32) (w : va_W) => r = nI t ∧ w = [(h0, .inr (10, [.ref h1, .ref h2, .ref h3, .ref h4, .int pm, .ref h5, .ref h6, .int ty, .ref h7, .int om, .int sp, .int wr])), (h1, .inl (gI g, 113, .inl (hireZ z t)))]) := by
  refine Ki.of (by decide) (Nat.le_of_ble_eq_true rfl) (fun X C hI hret => ?_)
  show V g X 0 0 [(h0, .inr (10, [.ref h1, .ref h2, .ref h3, .ref h4, .int pm, .ref h5, .ref h6, .int ty, .ref h7, .int om, .int sp, .int wr])), (h1, .inl (gI g, 113, .inl z))] 0 [(0, .ref h0)] []
  refine V_bipush (v := 39) C dX10_hireIt_0 (by decide) ?_
  refine V_istore_n (L2 := [(1, .int 39), (0, .ref h0)]) C dX10_hireIt_2 rfl (by decide) rfl ?_
  refine V_to (ws2 := [(h0, .inr (10, [.ref h1, .ref h2, .ref h3, .ref h4, .int pm, .ref h5, .ref h6, .int ty, .ref h7, .int om, .int sp, .int wr])), (h1, .inl (gI g, 113, .inl (zer z 39 39)))]) ?_ (by rw [zer_0])
  have loop_3 : ∀ (fu_3 : Nat) (j : Nat), j ≤ 48 → 39 ≤ j → 48 - j < fu_3 → V g X 0 0 [(h0, .inr (10, [.ref h1, .ref h2, .ref h3, .ref h4, .int pm, .ref h5, .ref h6, .int ty, .ref h7, .int om, .int sp, .int wr])), (h1, .inl (gI g, 113, .inl (zer z 39 j)))] 3 [(0, .ref h0), (1, .int (nI j))] [] := by
    intro fu_3
    induction fu_3 with
    | zero => intro j hj hl hm; exact absurd hm (by omega)
    | succ fu_3 ih_3 =>
      intro j hj hl hm
      refine V_iload_n C 1 dX10_hireIt_3 rfl rfl ?_
      refine V_bipush (v := 47) C dX10_hireIt_4 (by decide) ?_
      refine V_icmp_gt (tgt := 22) C dX10_hireIt_6 (by decide) (fun c_6 => ?_) (fun c_6 => ?_)
      · have hj2 : j = 48 := by have := Int32.not_le.mpr c_6; have h9 : ¬ nI j ≤ 47 := this; rcases Nat.lt_or_ge j 48 with q | q; exact absurd (nI_le (a := j) (b := 47) (by omega) (by omega)) h9; omega
        subst hj2
        refine V_aload_n C 0 dX10_hireIt_22 rfl rfl ?_
        refine V_aload_n C 0 dX10_hireIt_23 rfl rfl ?_
        refine V_get (v := .ref h1) C 0 rfl rfl in_X10 0 (by decide) fl_X10_7 rfl rfl dX10_hireIt_24 ?_
        refine V_bipush (v := 37) C dX10_hireIt_27 (by decide) ?_
        refine V_iald C 1 rfl (show ix 37 37 113 from ix_nI (k := 37) (by omega) (by omega)) dX10_hireIt_29 ?_
        refine V_ev (show (zer z 39 48) 37 = z 37 from (zer_n (show ¬ (39 ≤ 37 ∧ 37 < 48) from by omega))) ?_
        refine V_ev (show (z 37 : Int32) = nI c from hz) ?_
        refine V_callVi (q0 := 0) (na := 1) (As := [.int (nI c)]) (rest := []) (wr := []) C (c_X10_tariffAt g h0 h1 h2 h3 h4 h5 h6 h7 pm ty om sp wr (zer z 39 48) c (show c < 86400 from by first | assumption | omega | exact ix_nI (by omega) (by omega) | decide)) ⟨⟨ini_X10, co_X10_tariffAt, ⟨by decide, by decide, by decide +kernel⟩, by decide⟩, ml_X10_52, im_X10_tariffAt, se_X10_tariffAt⟩ [0, 1] [] rfl rfl rfl rfl (by decide) rfl rfl rfl rfl (Nat.le_of_ble_eq_true rfl) (by omega) (by omega) dX10_hireIt_30 (fun r_1 w_ hw_2 => ?_)
        obtain ⟨rfl, rfl⟩ := hw_2
        refine V_to (ws2 := [(h0, .inr (10, [.ref h1, .ref h2, .ref h3, .ref h4, .int pm, .ref h5, .ref h6, .int ty, .ref h7, .int om, .int sp, .int wr])), (h1, .inl (gI g, 113, .inl (zer z 39 48)))]) ?_ rfl
        refine V_ev (show (zer z 39 48) (12 + c / 3600) = z (12 + c / 3600) from (zer_n (show ¬ (39 ≤ 12 + c / 3600 ∧ 12 + c / 3600 < 48) from by omega))) ?_
        refine V_ev (show (z (12 + c / 3600) : Int32) = nI t from hzt) ?_
        refine V_istore_n (L2 := [(1, .int (nI t)), (0, .ref h0)]) C dX10_hireIt_33 rfl (by decide) rfl ?_
        refine V_aload_n C 1 dX10_hireIt_34 rfl rfl ?_
        refine V_get (v := .ref h1) C 0 rfl rfl in_X10 0 (by decide) fl_X10_7 rfl rfl dX10_hireIt_35 ?_
        refine V_bipush (v := 38) C dX10_hireIt_38 (by decide) ?_
        refine V_iconst (v := 1) C dX10_hireIt_40 (by decide) ?_
        refine V_iast (ws2 := [(h0, .inr (10, [.ref h1, .ref h2, .ref h3, .ref h4, .int pm, .ref h5, .ref h6, .int ty, .ref h7, .int om, .int sp, .int wr])), (h1, .inl (gI g, 113, .inl (upd (zer z 39 48) 38 1)))]) C 1 rfl (show ix 38 38 113 from ix_nI (k := 38) (by omega) (by omega)) dX10_hireIt_41 rfl ?_
        refine V_aload_n C 1 dX10_hireIt_42 rfl rfl ?_
        refine V_get (v := .ref h1) C 0 rfl rfl in_X10 0 (by decide) fl_X10_7 rfl rfl dX10_hireIt_43 ?_
        refine V_bipush (v := 39) C dX10_hireIt_46 (by decide) ?_
        refine V_aload_n C 1 dX10_hireIt_48 rfl rfl ?_
        refine V_iload_n C 0 dX10_hireIt_49 rfl rfl ?_
        refine V_iconst (v := 0) C dX10_hireIt_50 (by decide) ?_
        refine V_callVi (q0 := 0) (na := 2) (As := [.int (nI t), .int 0]) (rest := [.int 39, .ref h1]) (wr := []) C (c_X10_its g h0 h1 h2 h3 h4 h5 h6 h7 pm ty om sp wr (upd (zer z 39 48) 38 1) t 0 (show t < 3 from by first | assumption | omega | exact ix_nI (by omega) (by omega) | decide) (show 0 < 4 from by first | assumption | omega | exact ix_nI (by omega) (by omega) | decide)) ⟨⟨ini_X10, co_X10_its, ⟨by decide, by decide, by decide +kernel⟩, by decide⟩, ml_X10_37, im_X10_its, se_X10_its⟩ [0, 1] [] rfl rfl rfl rfl (by decide) rfl rfl rfl rfl (Nat.le_of_ble_eq_true rfl) (by omega) (by omega) dX10_hireIt_51 (fun r_3 w_ hw_4 => ?_)
        obtain ⟨rfl, rfl⟩ := hw_4
        refine V_to (ws2 := [(h0, .inr (10, [.ref h1, .ref h2, .ref h3, .ref h4, .int pm, .ref h5, .ref h6, .int ty, .ref h7, .int om, .int sp, .int wr])), (h1, .inl (gI g, 113, .inl (upd (zer z 39 48) 38 1)))]) ?_ rfl
        refine V_ev (show (upd (zer z 39 48) 38 1) (4 * t + 0) = z (4 * t + 0) from ((upd_n (show 4 * t + 0 ≠ 38 from by omega)).trans (zer_n (show ¬ (39 ≤ 4 * t + 0 ∧ 4 * t + 0 < 48) from by omega)))) ?_
        refine V_iast (ws2 := [(h0, .inr (10, [.ref h1, .ref h2, .ref h3, .ref h4, .int pm, .ref h5, .ref h6, .int ty, .ref h7, .int om, .int sp, .int wr])), (h1, .inl (gI g, 113, .inl (upd (upd (zer z 39 48) 38 1) 39 (z (4 * t + 0)))))]) C 1 rfl (show ix 39 39 113 from ix_nI (k := 39) (by omega) (by omega)) dX10_hireIt_54 rfl ?_
        refine V_aload_n C 1 dX10_hireIt_55 rfl rfl ?_
        refine V_get (v := .ref h1) C 0 rfl rfl in_X10 0 (by decide) fl_X10_7 rfl rfl dX10_hireIt_56 ?_
        refine V_bipush (v := 48) C dX10_hireIt_59 (by decide) ?_
        refine V_aload_n C 1 dX10_hireIt_61 rfl rfl ?_
        refine V_iload_n C 0 dX10_hireIt_62 rfl rfl ?_
        refine V_callVi (q0 := 0) (na := 1) (As := [.int (nI t)]) (rest := [.int 48, .ref h1]) (wr := []) C (c_X10_productOf g h0 h1 h2 h3 h4 h5 h6 h7 pm ty om sp wr (upd (upd (zer z 39 48) 38 1) 39 (z (4 * t + 0))) t (show t < 3 from by first | assumption | omega | exact ix_nI (by omega) (by omega) | decide)) ⟨⟨ini_X10, co_X10_productOf, ⟨by decide, by decide, by decide +kernel⟩, by decide⟩, ml_X10_56, im_X10_productOf, se_X10_productOf⟩ [0, 1] [] rfl rfl rfl rfl (by decide) rfl rfl rfl rfl (Nat.le_of_ble_eq_true rfl) (by omega) (by omega) dX10_hireIt_63 (fun r_5 w_ hw_6 => ?_)
        obtain ⟨rfl, rfl⟩ := hw_6
        refine V_to (ws2 := [(h0, .inr (10, [.ref h1, .ref h2, .ref h3, .ref h4, .int pm, .ref h5, .ref h6, .int ty, .ref h7, .int om, .int sp, .int wr])), (h1, .inl (gI g, 113, .inl (upd (upd (zer z 39 48) 38 1) 39 (z (4 * t + 0)))))]) ?_ rfl
        refine V_ev (show ((upd (upd (zer z 39 48) 38 1) 39 (z (4 * t + 0))) (4 * t + 2) * (upd (upd (zer z 39 48) 38 1) 39 (z (4 * t + 0))) (4 * t + 3) : Int32) = z (4 * t + 2) * z (4 * t + 3) from by rw [upd_n (show 4 * t + 2 ≠ 39 from by omega), upd_n (show 4 * t + 2 ≠ 38 from by omega), zer_n (show ¬ (39 ≤ 4 * t + 2 ∧ 4 * t + 2 < 48) from by omega), upd_n (show 4 * t + 3 ≠ 39 from by omega), upd_n (show 4 * t + 3 ≠ 38 from by omega), zer_n (show ¬ (39 ≤ 4 * t + 3 ∧ 4 * t + 3 < 48) from by omega)]) ?_
        refine V_iast (ws2 := [(h0, .inr (10, [.ref h1, .ref h2, .ref h3, .ref h4, .int pm, .ref h5, .ref h6, .int ty, .ref h7, .int om, .int sp, .int wr])), (h1, .inl (gI g, 113, .inl (upd (upd (upd (zer z 39 48) 38 1) 39 (z (4 * t + 0))) 48 (z (4 * t + 2) * z (4 * t + 3)))))]) C 1 rfl (show ix 48 48 113 from ix_nI (k := 48) (by omega) (by omega)) dX10_hireIt_66 rfl ?_
        refine V_aload_n C 1 dX10_hireIt_67 rfl rfl ?_
        refine V_get (v := .ref h1) C 0 rfl rfl in_X10 0 (by decide) fl_X10_7 rfl rfl dX10_hireIt_68 ?_
        refine V_bipush (v := 49) C dX10_hireIt_71 (by decide) ?_
        refine V_aload_n C 1 dX10_hireIt_73 rfl rfl ?_
        refine V_get (v := .ref h1) C 0 rfl rfl in_X10 0 (by decide) fl_X10_7 rfl rfl dX10_hireIt_74 ?_
        refine V_bipush (v := 37) C dX10_hireIt_77 (by decide) ?_
        refine V_iald C 1 rfl (show ix 37 37 113 from ix_nI (k := 37) (by omega) (by omega)) dX10_hireIt_79 ?_
        refine V_ev (show (upd (upd (upd (zer z 39 48) 38 1) 39 (z (4 * t + 0))) 48 (z (4 * t + 2) * z (4 * t + 3))) 37 = z 37 from ((upd_n (show 37 ≠ 48 from by omega)).trans ((upd_n (show 37 ≠ 39 from by omega)).trans ((upd_n (show 37 ≠ 38 from by omega)).trans (zer_n (show ¬ (39 ≤ 37 ∧ 37 < 48) from by omega)))))) ?_
        refine V_iast (ws2 := [(h0, .inr (10, [.ref h1, .ref h2, .ref h3, .ref h4, .int pm, .ref h5, .ref h6, .int ty, .ref h7, .int om, .int sp, .int wr])), (h1, .inl (gI g, 113, .inl (upd (upd (upd (upd (zer z 39 48) 38 1) 39 (z (4 * t + 0))) 48 (z (4 * t + 2) * z (4 * t + 3))) 49 (z 37))))]) C 1 rfl (show ix 49 49 113 from ix_nI (k := 49) (by omega) (by omega)) dX10_hireIt_80 rfl ?_
        refine V_to (ws2 := [(h0, .inr (10, [.ref h1, .ref h2, .ref h3, .ref h4, .int pm, .ref h5, .ref h6, .int ty, .ref h7, .int om, .int sp, .int wr])), (h1, .inl (gI g, 113, .inl (hireZ z t)))]) ?_ rfl
        refine V_iload_n C 0 dX10_hireIt_81 rfl rfl ?_
        refine hret _ _ _ _ dX10_hireIt_82 ?_
        exact ⟨rfl, rfl⟩
      · have hj2 : j < 48 := by rcases Nat.lt_or_ge j 48 with q | q; exact q; exact absurd (nI_lt (a := 47) (b := j) (by omega) (by omega)) c_6
        refine V_aload_n C 0 dX10_hireIt_9 rfl rfl ?_
        refine V_get (v := .ref h1) C 0 rfl rfl in_X10 0 (by decide) fl_X10_7 rfl rfl dX10_hireIt_10 ?_
        refine V_iload_n C 1 dX10_hireIt_13 rfl rfl ?_
        refine V_iconst (v := 0) C dX10_hireIt_14 (by decide) ?_
        refine V_iast (ws2 := [(h0, .inr (10, [.ref h1, .ref h2, .ref h3, .ref h4, .int pm, .ref h5, .ref h6, .int ty, .ref h7, .int om, .int sp, .int wr])), (h1, .inl (gI g, 113, .inl (upd (zer z 39 j) j 0)))]) C 1 rfl (ix_nI (show j < 113 by omega) (by omega)) dX10_hireIt_15 rfl ?_
        refine V_to (ws2 := [(h0, .inr (10, [.ref h1, .ref h2, .ref h3, .ref h4, .int pm, .ref h5, .ref h6, .int ty, .ref h7, .int om, .int sp, .int wr])), (h1, .inl (gI g, 113, .inl (zer z 39 (j + 1))))]) ?_ (by rw [← zer_s hl])
        refine V_iinc (v := nI (j + 1)) (L2 := [(1, .int (nI (j + 1))), (0, .ref h0)]) C 1 dX10_hireIt_16 rfl (nI_add j 1) (by decide) rfl ?_
        refine V_goto (tgt := 3) C dX10_hireIt_19 (by decide) ?_
        refine V_locs (L2 := [(0, .ref h0), (1, .int (nI (j + 1)))]) [1, 0] rfl ?_
        exact ih_3 (j + 1) (show (j + 1) ≤ 48 from by first | assumption | omega | rfl) (show 39 ≤ (j + 1) from by first | assumption | omega | rfl) (by omega)
  refine V_locs (L2 := [(0, .ref h0), (1, .int 39)]) [1, 0] rfl ?_
  exact loop_3 (48 - 39 + 1) 39 (show 39 ≤ 48 from by first | assumption | omega | rfl) (show 39 ≤ 39 from by first | assumption | omega | rfl) (by omega)
set_option maxRecDepth 100000 in
set_option maxHeartbeats 4000000 in
theorem c_X10_carry (g : Gd) (h0 : Nat) (h1 : Nat) (h2 : Nat) (h3 : Nat) (h4 : Nat) (h5 : Nat) (h6 : Nat) (h7 : Nat) (pm : Int32) (ty : Int32) (om : Int32) (sp : Int32) (wr : Int32) (z : Nat → Int32) (pr : Int32) (h48 : ¬ z 48 = 0) : Kv g yX10_carry cX10_carry 2 none 0 0 0 [.ref h0, .int pr] [(h0, .inr (10, [.ref h1, .ref h2, .ref h3, .ref h4, .int pm, .ref h5, .ref h6, .int ty, .ref h7, .int om, .int sp, .int wr])), (h1, .inl (gI g, 113, .inl z))] (fun (w : va_W) => w = [(h0, .inr (10, [.ref h1, .ref h2, .ref h3, .ref h4, .int pm, .ref h5, .ref h6, .int ty, .ref h7, .int om, .int sp, .int wr])), (h1, .inl (gI g, 113, .inl (carZ z pr)))]) := by
  refine Kv.of (by decide) (Nat.le_of_ble_eq_true rfl) (fun X C hI hret => ?_)
  show V g X 0 0 [(h0, .inr (10, [.ref h1, .ref h2, .ref h3, .ref h4, .int pm, .ref h5, .ref h6, .int ty, .ref h7, .int om, .int sp, .int wr])), (h1, .inl (gI g, 113, .inl z))] 0 [(0, .ref h0), (1, .int pr)] []
  refine V_iload_n C 1 dX10_carry_0 rfl rfl ?_
  refine V_aload_n C 0 dX10_carry_1 rfl rfl ?_
  refine V_get (v := .ref h1) C 0 rfl rfl in_X10 0 (by decide) fl_X10_7 rfl rfl dX10_carry_2 ?_
  refine V_bipush (v := 48) C dX10_carry_5 (by decide) ?_
  refine V_iald C 1 rfl (show ix 48 48 113 from ix_nI (k := 48) (by omega) (by omega)) dX10_carry_7 ?_
  refine V_icmp_eq (tgt := 47) C dX10_carry_8 (by decide) (fun c_8 => ?_) (fun c_8 => ?_)
  · refine hret _ _ _ dX10_carry_47 ?_
    rw [carZ, if_pos c_8]
  · refine V_aload_n C 0 dX10_carry_11 rfl rfl ?_
    refine V_get (v := .ref h1) C 0 rfl rfl in_X10 0 (by decide) fl_X10_7 rfl rfl dX10_carry_12 ?_
    refine V_bipush (v := 47) C dX10_carry_15 (by decide) ?_
    refine V_aload_n C 0 dX10_carry_17 rfl rfl ?_
    refine V_get (v := .ref h1) C 0 rfl rfl in_X10 0 (by decide) fl_X10_7 rfl rfl dX10_carry_18 ?_
    refine V_bipush (v := 47) C dX10_carry_21 (by decide) ?_
    refine V_iald C 1 rfl (show ix 47 47 113 from ix_nI (k := 47) (by omega) (by omega)) dX10_carry_23 ?_
    refine V_i2l C dX10_carry_24 ?_
    refine V_iload_n C 1 dX10_carry_25 rfl rfl ?_
    refine V_i2l C dX10_carry_26 ?_
    refine V_lmul C dX10_carry_27 ?_
    refine V_aload_n C 0 dX10_carry_28 rfl rfl ?_
    refine V_get (v := .ref h1) C 0 rfl rfl in_X10 0 (by decide) fl_X10_7 rfl rfl dX10_carry_29 ?_
    refine V_bipush (v := 48) C dX10_carry_32 (by decide) ?_
    refine V_iald C 1 rfl (show ix 48 48 113 from ix_nI (k := 48) (by omega) (by omega)) dX10_carry_34 ?_
    refine V_i2l C dX10_carry_35 ?_
    refine V_ldiv C dX10_carry_36 (i64_0 h48) ?_
    refine V_l2i C dX10_carry_37 ?_
    refine V_iast (ws2 := [(h0, .inr (10, [.ref h1, .ref h2, .ref h3, .ref h4, .int pm, .ref h5, .ref h6, .int ty, .ref h7, .int om, .int sp, .int wr])), (h1, .inl (gI g, 113, .inl (upd z 47 (Int64.toInt32 (((Int32.toInt64 (z 47)) * (Int32.toInt64 pr)) / (Int32.toInt64 (z 48)))))))]) C 1 rfl (show ix 47 47 113 from ix_nI (k := 47) (by omega) (by omega)) dX10_carry_38 rfl ?_
    refine V_aload_n C 0 dX10_carry_39 rfl rfl ?_
    refine V_get (v := .ref h1) C 0 rfl rfl in_X10 0 (by decide) fl_X10_7 rfl rfl dX10_carry_40 ?_
    refine V_bipush (v := 48) C dX10_carry_43 (by decide) ?_
    refine V_iload_n C 1 dX10_carry_45 rfl rfl ?_
    refine V_iast (ws2 := [(h0, .inr (10, [.ref h1, .ref h2, .ref h3, .ref h4, .int pm, .ref h5, .ref h6, .int ty, .ref h7, .int om, .int sp, .int wr])), (h1, .inl (gI g, 113, .inl (upd (upd z 47 (Int64.toInt32 (((Int32.toInt64 (z 47)) * (Int32.toInt64 pr)) / (Int32.toInt64 (z 48))))) 48 pr)))]) C 1 rfl (show ix 48 48 113 from ix_nI (k := 48) (by omega) (by omega)) dX10_carry_46 rfl ?_
    refine hret _ _ _ dX10_carry_47 ?_
    rw [carZ, if_neg c_8]
set_option maxRecDepth 100000 in
set_option maxHeartbeats 4000000 in
theorem c_X10_driveSecond (g : Gd) (h0 : Nat) (h1 : Nat) (h2 : Nat) (h3 : Nat) (h4 : Nat) (h5 : Nat) (h6 : Nat) (h7 : Nat) (pm : Int32) (ty : Int32) (om : Int32) (sp : Int32) (wr : Int32) (z : Nat → Int32) (c : Nat) (t : Nat) (p : Int32) (hc : c < 86400) (hz : z 37 = nI c) (ht : t < 3) (hzt : z (12 + c / 3600) = nI t) (hp : ¬ z (4 * t + 2) * z (4 * t + 3) = 0) (h48 : ¬ z 48 = 0) : Ki g yX10_driveSecond cX10_driveSecond 7 (some .int) 2 0 0 [.ref h0, .int p] [(h0, .inr (10, [.ref h1, .ref h2, .ref h3, .ref h4, .int pm, .ref h5, .ref h6, .int ty, .ref h7, .int om, .int sp, .int wr])), (h1, .inl (gI g, 113, .inl z))] (fun (r : Int32) (w : va_W) => r = drpZ z t p ∧ w = [(h0, .inr (10, [.ref h1, .ref h2, .ref h3, .ref h4, .int pm, .ref h5, .ref h6, .int ty, .ref h7, .int om, .int sp, .int wr])), (h1, .inl (gI g, 113, .inl (secZ z c t p)))]) := by
  refine Ki.of (by decide) (Nat.le_of_ble_eq_true rfl) (fun X C hI hret => ?_)
  show V g X 0 0 [(h0, .inr (10, [.ref h1, .ref h2, .ref h3, .ref h4, .int pm, .ref h5, .ref h6, .int ty, .ref h7, .int om, .int sp, .int wr])), (h1, .inl (gI g, 113, .inl z))] 0 [(0, .ref h0), (1, .int p)] []
  refine V_aload_n C 0 dX10_driveSecond_0 rfl rfl ?_
  refine V_aload_n C 0 dX10_driveSecond_1 rfl rfl ?_
  refine V_get (v := .ref h1) C 0 rfl rfl in_X10 0 (by decide) fl_X10_7 rfl rfl dX10_driveSecond_2 ?_
  refine V_bipush (v := 37) C dX10_driveSecond_5 (by decide) ?_
  refine V_iald C 1 rfl (show ix 37 37 113 from ix_nI (k := 37) (by omega) (by omega)) dX10_driveSecond_7 ?_
  refine V_ev (show (z 37 : Int32) = nI c from hz) ?_
  refine V_callVi (q0 := 0) (na := 1) (As := [.int (nI c)]) (rest := []) (wr := []) C (c_X10_tariffAt g h0 h1 h2 h3 h4 h5 h6 h7 pm ty om sp wr z c (show c < 86400 from by first | assumption | omega | exact ix_nI (by omega) (by omega) | decide)) ⟨⟨ini_X10, co_X10_tariffAt, ⟨by decide, by decide, by decide +kernel⟩, by decide⟩, ml_X10_52, im_X10_tariffAt, se_X10_tariffAt⟩ [0, 1] [] rfl rfl rfl rfl (by decide) rfl rfl rfl rfl (Nat.le_of_ble_eq_true rfl) (by omega) (by omega) dX10_driveSecond_8 (fun r_1 w_ hw_2 => ?_)
  obtain ⟨rfl, rfl⟩ := hw_2
  refine V_to (ws2 := [(h0, .inr (10, [.ref h1, .ref h2, .ref h3, .ref h4, .int pm, .ref h5, .ref h6, .int ty, .ref h7, .int om, .int sp, .int wr])), (h1, .inl (gI g, 113, .inl z))]) ?_ rfl
  refine V_ev (show (z (12 + c / 3600) : Int32) = nI t from hzt) ?_
  refine V_istore_n (L2 := [(2, .int (nI t)), (0, .ref h0), (1, .int p)]) C dX10_driveSecond_11 rfl (by decide) rfl ?_
  refine V_aload_n C 1 dX10_driveSecond_12 rfl rfl ?_
  refine V_aload_n C 1 dX10_driveSecond_13 rfl rfl ?_
  refine V_iload_n C 0 dX10_driveSecond_14 rfl rfl ?_
  refine V_callVi (q0 := 0) (na := 1) (As := [.int (nI t)]) (rest := [.ref h0]) (wr := []) C (c_X10_productOf g h0 h1 h2 h3 h4 h5 h6 h7 pm ty om sp wr z t (show t < 3 from by first | assumption | omega | exact ix_nI (by omega) (by omega) | decide)) ⟨⟨ini_X10, co_X10_productOf, ⟨by decide, by decide, by decide +kernel⟩, by decide⟩, ml_X10_56, im_X10_productOf, se_X10_productOf⟩ [0, 1] [] rfl rfl rfl rfl (by decide) rfl rfl rfl rfl (Nat.le_of_ble_eq_true rfl) (by omega) (by omega) dX10_driveSecond_15 (fun r_3 w_ hw_4 => ?_)
  obtain ⟨rfl, rfl⟩ := hw_4
  refine V_to (ws2 := [(h0, .inr (10, [.ref h1, .ref h2, .ref h3, .ref h4, .int pm, .ref h5, .ref h6, .int ty, .ref h7, .int om, .int sp, .int wr])), (h1, .inl (gI g, 113, .inl z))]) ?_ rfl
  refine V_callVv (q0 := 0) (na := 1) (As := [.int (z (4 * t + 2) * z (4 * t + 3))]) (rest := []) (wr := []) C (c_X10_carry g h0 h1 h2 h3 h4 h5 h6 h7 pm ty om sp wr z (z (4 * t + 2) * z (4 * t + 3)) (show ¬ z 48 = 0 from by first | assumption | omega | exact ix_nI (by omega) (by omega) | decide)) ⟨⟨ini_X10, co_X10_carry, ⟨by decide, by decide, by decide +kernel⟩, by decide⟩, ml_X10_63, im_X10_carry, se_X10_carry⟩ [0, 1] [] rfl rfl rfl rfl (by decide) rfl rfl rfl rfl (Nat.le_of_ble_eq_true rfl) (by omega) (by omega) dX10_driveSecond_18 (fun w_ hw_6 => ?_)
  obtain rfl := hw_6
  refine V_to (ws2 := [(h0, .inr (10, [.ref h1, .ref h2, .ref h3, .ref h4, .int pm, .ref h5, .ref h6, .int ty, .ref h7, .int om, .int sp, .int wr])), (h1, .inl (gI g, 113, .inl (carZ z (z (4 * t + 2) * z (4 * t + 3)))))]) ?_ rfl
  refine V_iload_n C 2 dX10_driveSecond_21 rfl rfl ?_
  refine V_aload_n C 1 dX10_driveSecond_22 rfl rfl ?_
  refine V_iload_n C 0 dX10_driveSecond_23 rfl rfl ?_
  refine V_iconst (v := 3) C dX10_driveSecond_24 (by decide) ?_
  refine V_callVi (q0 := 0) (na := 2) (As := [.int (nI t), .int 3]) (rest := [.int p]) (wr := []) C (c_X10_its g h0 h1 h2 h3 h4 h5 h6 h7 pm ty om sp wr (carZ z (z (4 * t + 2) * z (4 * t + 3))) t 3 (show t < 3 from by first | assumption | omega | exact ix_nI (by omega) (by omega) | decide) (show 3 < 4 from by first | assumption | omega | exact ix_nI (by omega) (by omega) | decide)) ⟨⟨ini_X10, co_X10_its, ⟨by decide, by decide, by decide +kernel⟩, by decide⟩, ml_X10_37, im_X10_its, se_X10_its⟩ [0, 1] [] rfl rfl rfl rfl (by decide) rfl rfl rfl rfl (Nat.le_of_ble_eq_true rfl) (by omega) (by omega) dX10_driveSecond_25 (fun r_7 w_ hw_8 => ?_)
  obtain ⟨rfl, rfl⟩ := hw_8
  refine V_to (ws2 := [(h0, .inr (10, [.ref h1, .ref h2, .ref h3, .ref h4, .int pm, .ref h5, .ref h6, .int ty, .ref h7, .int om, .int sp, .int wr])), (h1, .inl (gI g, 113, .inl (carZ z (z (4 * t + 2) * z (4 * t + 3)))))]) ?_ rfl
  refine V_ev (show (carZ z (z (4 * t + 2) * z (4 * t + 3))) (4 * t + 3) = z (4 * t + 3) from (carZ_n (show 4 * t + 3 ≠ 47 ∧ 4 * t + 3 ≠ 48 from by omega))) ?_
  refine V_imul C dX10_driveSecond_28 ?_
  refine V_istore_n (L2 := [(3, .int (p * (z (4 * t + 3)))), (2, .int (nI t)), (0, .ref h0), (1, .int p)]) C dX10_driveSecond_29 rfl (by decide) rfl ?_
  refine V_iload_n C 0 dX10_driveSecond_30 rfl rfl ?_
  refine V_aload_n C 2 dX10_driveSecond_31 rfl rfl ?_
  refine V_iload_n C 1 dX10_driveSecond_32 rfl rfl ?_
  refine V_iconst (v := 2) C dX10_driveSecond_33 (by decide) ?_
  refine V_callVi (q0 := 0) (na := 2) (As := [.int (nI t), .int 2]) (rest := [.int (p * (z (4 * t + 3)))]) (wr := []) C (c_X10_its g h0 h1 h2 h3 h4 h5 h6 h7 pm ty om sp wr (carZ z (z (4 * t + 2) * z (4 * t + 3))) t 2 (show t < 3 from by first | assumption | omega | exact ix_nI (by omega) (by omega) | decide) (show 2 < 4 from by first | assumption | omega | exact ix_nI (by omega) (by omega) | decide)) ⟨⟨ini_X10, co_X10_its, ⟨by decide, by decide, by decide +kernel⟩, by decide⟩, ml_X10_37, im_X10_its, se_X10_its⟩ [0, 1] [] rfl rfl rfl rfl (by decide) rfl rfl rfl rfl (Nat.le_of_ble_eq_true rfl) (by omega) (by omega) dX10_driveSecond_34 (fun r_9 w_ hw_10 => ?_)
  obtain ⟨rfl, rfl⟩ := hw_10
  refine V_to (ws2 := [(h0, .inr (10, [.ref h1, .ref h2, .ref h3, .ref h4, .int pm, .ref h5, .ref h6, .int ty, .ref h7, .int om, .int sp, .int wr])), (h1, .inl (gI g, 113, .inl (carZ z (z (4 * t + 2) * z (4 * t + 3)))))]) ?_ rfl
  refine V_ev (show (carZ z (z (4 * t + 2) * z (4 * t + 3))) (4 * t + 2) = z (4 * t + 2) from (carZ_n (show 4 * t + 2 ≠ 47 ∧ 4 * t + 2 ≠ 48 from by omega))) ?_
  refine V_icmp_lt (tgt := 44) C dX10_driveSecond_37 (by decide) (fun c_37 => ?_) (fun c_37 => ?_)
  · refine V_iconst (v := 0) C dX10_driveSecond_44 (by decide) ?_
    refine V_istore (L2 := [(4, .int 0), (3, .int (p * (z (4 * t + 3)))), (2, .int (nI t)), (0, .ref h0), (1, .int p)]) C dX10_driveSecond_45 (by decide) rfl ?_
    refine V_aload_n C 3 dX10_driveSecond_47 rfl rfl ?_
    refine V_get (v := .ref h1) C 0 rfl rfl in_X10 0 (by decide) fl_X10_7 rfl rfl dX10_driveSecond_48 ?_
    refine V_bipush (v := 47) C dX10_driveSecond_51 (by decide) ?_
    refine V_dup2 C dX10_driveSecond_53 rfl rfl ?_
    refine V_iald C 1 rfl (show ix 47 47 113 from ix_nI (k := 47) (by omega) (by omega)) dX10_driveSecond_54 ?_
    refine V_iload C 0 dX10_driveSecond_55 rfl ?_
    refine V_if_eq (tgt := 64) C dX10_driveSecond_57 (by decide) (fun _ => ?_) (fun h => absurd (by decide) h)
    refine V_aload_n C 3 dX10_driveSecond_64 rfl rfl ?_
    refine V_iload_n C 2 dX10_driveSecond_65 rfl rfl ?_
    refine V_iconst (v := 2) C dX10_driveSecond_66 (by decide) ?_
    refine V_callVi (q0 := 0) (na := 2) (As := [.int (nI t), .int 2]) (rest := [.int ((carZ z (z (4 * t + 2) * z (4 * t + 3))) 47), .int 47, .ref h1]) (wr := []) C (c_X10_its g h0 h1 h2 h3 h4 h5 h6 h7 pm ty om sp wr (carZ z (z (4 * t + 2) * z (4 * t + 3))) t 2 (show t < 3 from by first | assumption | omega | exact ix_nI (by omega) (by omega) | decide) (show 2 < 4 from by first | assumption | omega | exact ix_nI (by omega) (by omega) | decide)) ⟨⟨ini_X10, co_X10_its, ⟨by decide, by decide, by decide +kernel⟩, by decide⟩, ml_X10_37, im_X10_its, se_X10_its⟩ [0, 1] [] rfl rfl rfl rfl (by decide) rfl rfl rfl rfl (Nat.le_of_ble_eq_true rfl) (by omega) (by omega) dX10_driveSecond_67 (fun r_11 w_ hw_12 => ?_)
    obtain ⟨rfl, rfl⟩ := hw_12
    refine V_to (ws2 := [(h0, .inr (10, [.ref h1, .ref h2, .ref h3, .ref h4, .int pm, .ref h5, .ref h6, .int ty, .ref h7, .int om, .int sp, .int wr])), (h1, .inl (gI g, 113, .inl (carZ z (z (4 * t + 2) * z (4 * t + 3)))))]) ?_ rfl
    refine V_ev (show (carZ z (z (4 * t + 2) * z (4 * t + 3))) (4 * t + 2) = z (4 * t + 2) from (carZ_n (show 4 * t + 2 ≠ 47 ∧ 4 * t + 2 ≠ 48 from by omega))) ?_
    refine V_iadd C dX10_driveSecond_70 ?_
    refine V_iast (ws2 := [(h0, .inr (10, [.ref h1, .ref h2, .ref h3, .ref h4, .int pm, .ref h5, .ref h6, .int ty, .ref h7, .int om, .int sp, .int wr])), (h1, .inl (gI g, 113, .inl (upd (carZ z (z (4 * t + 2) * z (4 * t + 3))) 47 (((carZ z (z (4 * t + 2) * z (4 * t + 3))) 47) + (z (4 * t + 2))))))]) C 1 rfl (show ix 47 47 113 from ix_nI (k := 47) (by omega) (by omega)) dX10_driveSecond_71 rfl ?_
    refine V_aload_n C 3 dX10_driveSecond_72 rfl rfl ?_
    refine V_get (v := .ref h1) C 0 rfl rfl in_X10 0 (by decide) fl_X10_7 rfl rfl dX10_driveSecond_73 ?_
    refine V_bipush (v := 47) C dX10_driveSecond_76 (by decide) ?_
    refine V_iald C 1 rfl (show ix 47 47 113 from ix_nI (k := 47) (by omega) (by omega)) dX10_driveSecond_78 ?_
    refine V_ev (show (upd (carZ z (z (4 * t + 2) * z (4 * t + 3))) 47 (((carZ z (z (4 * t + 2) * z (4 * t + 3))) 47) + (z (4 * t + 2)))) 47 = ((carZ z (z (4 * t + 2) * z (4 * t + 3))) 47) + (z (4 * t + 2)) from (upd_s)) ?_
    refine V_aload_n C 3 dX10_driveSecond_79 rfl rfl ?_
    refine V_get (v := .ref h1) C 0 rfl rfl in_X10 0 (by decide) fl_X10_7 rfl rfl dX10_driveSecond_80 ?_
    refine V_bipush (v := 48) C dX10_driveSecond_83 (by decide) ?_
    refine V_iald C 1 rfl (show ix 48 48 113 from ix_nI (k := 48) (by omega) (by omega)) dX10_driveSecond_85 ?_
    refine V_ev (show (upd (carZ z (z (4 * t + 2) * z (4 * t + 3))) 47 (((carZ z (z (4 * t + 2) * z (4 * t + 3))) 47) + (z (4 * t + 2)))) 48 = z (4 * t + 2) * z (4 * t + 3) from ((upd_n (show 48 ≠ 47 from by omega)).trans (carZ_48))) ?_
    refine V_idiv C dX10_driveSecond_86 (hp) ?_
    refine V_istore (L2 := [(5, .int ((((carZ z (z (4 * t + 2) * z (4 * t + 3))) 47) + (z (4 * t + 2))) / (z (4 * t + 2) * z (4 * t + 3)))), (4, .int 0), (3, .int (p * (z (4 * t + 3)))), (2, .int (nI t)), (0, .ref h0), (1, .int p)]) C dX10_driveSecond_87 (by decide) rfl ?_
    refine V_aload_n C 4 dX10_driveSecond_89 rfl rfl ?_
    refine V_get (v := .ref h1) C 0 rfl rfl in_X10 0 (by decide) fl_X10_7 rfl rfl dX10_driveSecond_90 ?_
    refine V_bipush (v := 47) C dX10_driveSecond_93 (by decide) ?_
    refine V_dup2 C dX10_driveSecond_95 rfl rfl ?_
    refine V_iald C 1 rfl (show ix 47 47 113 from ix_nI (k := 47) (by omega) (by omega)) dX10_driveSecond_96 ?_
    refine V_ev (show (upd (carZ z (z (4 * t + 2) * z (4 * t + 3))) 47 (((carZ z (z (4 * t + 2) * z (4 * t + 3))) 47) + (z (4 * t + 2)))) 47 = ((carZ z (z (4 * t + 2) * z (4 * t + 3))) 47) + (z (4 * t + 2)) from (upd_s)) ?_
    refine V_iload C 0 dX10_driveSecond_97 rfl ?_
    refine V_aload_n C 4 dX10_driveSecond_99 rfl rfl ?_
    refine V_get (v := .ref h1) C 0 rfl rfl in_X10 0 (by decide) fl_X10_7 rfl rfl dX10_driveSecond_100 ?_
    refine V_bipush (v := 48) C dX10_driveSecond_103 (by decide) ?_
    refine V_iald C 1 rfl (show ix 48 48 113 from ix_nI (k := 48) (by omega) (by omega)) dX10_driveSecond_105 ?_
    refine V_ev (show (upd (carZ z (z (4 * t + 2) * z (4 * t + 3))) 47 (((carZ z (z (4 * t + 2) * z (4 * t + 3))) 47) + (z (4 * t + 2)))) 48 = z (4 * t + 2) * z (4 * t + 3) from ((upd_n (show 48 ≠ 47 from by omega)).trans (carZ_48))) ?_
    refine V_imul C dX10_driveSecond_106 ?_
    refine V_isub C dX10_driveSecond_107 ?_
    refine V_iast (ws2 := [(h0, .inr (10, [.ref h1, .ref h2, .ref h3, .ref h4, .int pm, .ref h5, .ref h6, .int ty, .ref h7, .int om, .int sp, .int wr])), (h1, .inl (gI g, 113, .inl (upd (upd (carZ z (z (4 * t + 2) * z (4 * t + 3))) 47 (((carZ z (z (4 * t + 2) * z (4 * t + 3))) 47) + (z (4 * t + 2)))) 47 ((((carZ z (z (4 * t + 2) * z (4 * t + 3))) 47) + (z (4 * t + 2))) - (((((carZ z (z (4 * t + 2) * z (4 * t + 3))) 47) + (z (4 * t + 2))) / (z (4 * t + 2) * z (4 * t + 3))) * (z (4 * t + 2) * z (4 * t + 3)))))))]) C 1 rfl (show ix 47 47 113 from ix_nI (k := 47) (by omega) (by omega)) dX10_driveSecond_108 rfl ?_
    refine V_aload_n C 4 dX10_driveSecond_109 rfl rfl ?_
    refine V_get (v := .ref h1) C 0 rfl rfl in_X10 0 (by decide) fl_X10_7 rfl rfl dX10_driveSecond_110 ?_
    refine V_bipush (v := 39) C dX10_driveSecond_113 (by decide) ?_
    refine V_iald C 1 rfl (show ix 39 39 113 from ix_nI (k := 39) (by omega) (by omega)) dX10_driveSecond_115 ?_
    refine V_ev (show (upd (upd (carZ z (z (4 * t + 2) * z (4 * t + 3))) 47 (((carZ z (z (4 * t + 2) * z (4 * t + 3))) 47) + (z (4 * t + 2)))) 47 ((((carZ z (z (4 * t + 2) * z (4 * t + 3))) 47) + (z (4 * t + 2))) - (((((carZ z (z (4 * t + 2) * z (4 * t + 3))) 47) + (z (4 * t + 2))) / (z (4 * t + 2) * z (4 * t + 3))) * (z (4 * t + 2) * z (4 * t + 3))))) 39 = z 39 from ((upd_n (show 39 ≠ 47 from by omega)).trans ((upd_n (show 39 ≠ 47 from by omega)).trans (carZ_n (show 39 ≠ 47 ∧ 39 ≠ 48 from by omega))))) ?_
    refine V_iload C 0 dX10_driveSecond_116 rfl ?_
    refine V_aload_n C 4 dX10_driveSecond_118 rfl rfl ?_
    refine V_iload_n C 3 dX10_driveSecond_119 rfl rfl ?_
    refine V_iconst (v := 1) C dX10_driveSecond_120 (by decide) ?_
    refine V_callVi (q0 := 0) (na := 2) (As := [.int (nI t), .int 1]) (rest := [.int ((((carZ z (z (4 * t + 2) * z (4 * t + 3))) 47) + (z (4 * t + 2))) / (z (4 * t + 2) * z (4 * t + 3))), .int (z 39)]) (wr := []) C (c_X10_its g h0 h1 h2 h3 h4 h5 h6 h7 pm ty om sp wr (upd (upd (carZ z (z (4 * t + 2) * z (4 * t + 3))) 47 (((carZ z (z (4 * t + 2) * z (4 * t + 3))) 47) + (z (4 * t + 2)))) 47 ((((carZ z (z (4 * t + 2) * z (4 * t + 3))) 47) + (z (4 * t + 2))) - (((((carZ z (z (4 * t + 2) * z (4 * t + 3))) 47) + (z (4 * t + 2))) / (z (4 * t + 2) * z (4 * t + 3))) * (z (4 * t + 2) * z (4 * t + 3))))) t 1 (show t < 3 from by first | assumption | omega | exact ix_nI (by omega) (by omega) | decide) (show 1 < 4 from by first | assumption | omega | exact ix_nI (by omega) (by omega) | decide)) ⟨⟨ini_X10, co_X10_its, ⟨by decide, by decide, by decide +kernel⟩, by decide⟩, ml_X10_37, im_X10_its, se_X10_its⟩ [0, 1] [] rfl rfl rfl rfl (by decide) rfl rfl rfl rfl (Nat.le_of_ble_eq_true rfl) (by omega) (by omega) dX10_driveSecond_121 (fun r_13 w_ hw_14 => ?_)
    obtain ⟨rfl, rfl⟩ := hw_14
    refine V_to (ws2 := [(h0, .inr (10, [.ref h1, .ref h2, .ref h3, .ref h4, .int pm, .ref h5, .ref h6, .int ty, .ref h7, .int om, .int sp, .int wr])), (h1, .inl (gI g, 113, .inl (upd (upd (carZ z (z (4 * t + 2) * z (4 * t + 3))) 47 (((carZ z (z (4 * t + 2) * z (4 * t + 3))) 47) + (z (4 * t + 2)))) 47 ((((carZ z (z (4 * t + 2) * z (4 * t + 3))) 47) + (z (4 * t + 2))) - (((((carZ z (z (4 * t + 2) * z (4 * t + 3))) 47) + (z (4 * t + 2))) / (z (4 * t + 2) * z (4 * t + 3))) * (z (4 * t + 2) * z (4 * t + 3)))))))]) ?_ rfl
    refine V_ev (show (upd (upd (carZ z (z (4 * t + 2) * z (4 * t + 3))) 47 (((carZ z (z (4 * t + 2) * z (4 * t + 3))) 47) + (z (4 * t + 2)))) 47 ((((carZ z (z (4 * t + 2) * z (4 * t + 3))) 47) + (z (4 * t + 2))) - (((((carZ z (z (4 * t + 2) * z (4 * t + 3))) 47) + (z (4 * t + 2))) / (z (4 * t + 2) * z (4 * t + 3))) * (z (4 * t + 2) * z (4 * t + 3))))) (4 * t + 1) = z (4 * t + 1) from ((upd_n (show 4 * t + 1 ≠ 47 from by omega)).trans ((upd_n (show 4 * t + 1 ≠ 47 from by omega)).trans (carZ_n (show 4 * t + 1 ≠ 47 ∧ 4 * t + 1 ≠ 48 from by omega))))) ?_
    refine V_imul C dX10_driveSecond_124 ?_
    refine V_iadd C dX10_driveSecond_125 ?_
    refine V_istore (L2 := [(6, .int ((z 39) + (((((carZ z (z (4 * t + 2) * z (4 * t + 3))) 47) + (z (4 * t + 2))) / (z (4 * t + 2) * z (4 * t + 3))) * (z (4 * t + 1))))), (5, .int ((((carZ z (z (4 * t + 2) * z (4 * t + 3))) 47) + (z (4 * t + 2))) / (z (4 * t + 2) * z (4 * t + 3)))), (4, .int 0), (3, .int (p * (z (4 * t + 3)))), (2, .int (nI t)), (0, .ref h0), (1, .int p)]) C dX10_driveSecond_126 (by decide) rfl ?_
    refine V_aload_n C 5 dX10_driveSecond_128 rfl rfl ?_
    refine V_get (v := .ref h1) C 0 rfl rfl in_X10 0 (by decide) fl_X10_7 rfl rfl dX10_driveSecond_129 ?_
    refine V_bipush (v := 39) C dX10_driveSecond_132 (by decide) ?_
    refine V_iload C 0 dX10_driveSecond_134 rfl ?_
    refine V_ldc (v := 9999999) C k_X10_67 dX10_driveSecond_136 ?_
    refine V_icmp_ge (tgt := 146) C dX10_driveSecond_138 (by decide) (fun c_138 => ?_) (fun c_138 => ?_)
    · refine V_ldc (v := 9999999) C k_X10_67 dX10_driveSecond_146 ?_
      refine V_iast (ws2 := [(h0, .inr (10, [.ref h1, .ref h2, .ref h3, .ref h4, .int pm, .ref h5, .ref h6, .int ty, .ref h7, .int om, .int sp, .int wr])), (h1, .inl (gI g, 113, .inl (upd (upd (upd (carZ z (z (4 * t + 2) * z (4 * t + 3))) 47 (((carZ z (z (4 * t + 2) * z (4 * t + 3))) 47) + (z (4 * t + 2)))) 47 ((((carZ z (z (4 * t + 2) * z (4 * t + 3))) 47) + (z (4 * t + 2))) - (((((carZ z (z (4 * t + 2) * z (4 * t + 3))) 47) + (z (4 * t + 2))) / (z (4 * t + 2) * z (4 * t + 3))) * (z (4 * t + 2) * z (4 * t + 3))))) 39 9999999)))]) C 1 rfl (show ix 39 39 113 from ix_nI (k := 39) (by omega) (by omega)) dX10_driveSecond_148 rfl ?_
      refine V_aload_n C 5 dX10_driveSecond_149 rfl rfl ?_
      refine V_get (v := .ref h1) C 0 rfl rfl in_X10 0 (by decide) fl_X10_7 rfl rfl dX10_driveSecond_150 ?_
      refine V_iload C 2 dX10_driveSecond_153 rfl ?_
      refine V_if_eq (tgt := 163) C dX10_driveSecond_155 (by decide) (fun _ => ?_) (fun h => absurd (by decide) h)
      refine V_bipush (v := 45) C dX10_driveSecond_163 (by decide) ?_
      refine V_dup2 C dX10_driveSecond_165 rfl rfl ?_
      refine V_iald C 1 rfl (show ix 45 45 113 from ix_nI (k := 45) (by omega) (by omega)) dX10_driveSecond_166 ?_
      refine V_ev (show (upd (upd (upd (carZ z (z (4 * t + 2) * z (4 * t + 3))) 47 (((carZ z (z (4 * t + 2) * z (4 * t + 3))) 47) + (z (4 * t + 2)))) 47 ((((carZ z (z (4 * t + 2) * z (4 * t + 3))) 47) + (z (4 * t + 2))) - (((((carZ z (z (4 * t + 2) * z (4 * t + 3))) 47) + (z (4 * t + 2))) / (z (4 * t + 2) * z (4 * t + 3))) * (z (4 * t + 2) * z (4 * t + 3))))) 39 9999999) 45 = z 45 from ((upd_n (show 45 ≠ 39 from by omega)).trans ((upd_n (show 45 ≠ 47 from by omega)).trans ((upd_n (show 45 ≠ 47 from by omega)).trans (carZ_n (show 45 ≠ 47 ∧ 45 ≠ 48 from by omega)))))) ?_
      refine V_iload C 1 dX10_driveSecond_167 rfl ?_
      refine V_iadd C dX10_driveSecond_169 ?_
      refine V_iast (ws2 := [(h0, .inr (10, [.ref h1, .ref h2, .ref h3, .ref h4, .int pm, .ref h5, .ref h6, .int ty, .ref h7, .int om, .int sp, .int wr])), (h1, .inl (gI g, 113, .inl (upd (upd (upd (upd (carZ z (z (4 * t + 2) * z (4 * t + 3))) 47 (((carZ z (z (4 * t + 2) * z (4 * t + 3))) 47) + (z (4 * t + 2)))) 47 ((((carZ z (z (4 * t + 2) * z (4 * t + 3))) 47) + (z (4 * t + 2))) - (((((carZ z (z (4 * t + 2) * z (4 * t + 3))) 47) + (z (4 * t + 2))) / (z (4 * t + 2) * z (4 * t + 3))) * (z (4 * t + 2) * z (4 * t + 3))))) 39 9999999) 45 ((z 45) + ((((carZ z (z (4 * t + 2) * z (4 * t + 3))) 47) + (z (4 * t + 2))) / (z (4 * t + 2) * z (4 * t + 3)))))))]) C 1 rfl (show ix 45 45 113 from ix_nI (k := 45) (by omega) (by omega)) dX10_driveSecond_170 rfl ?_
      refine V_aload_n C 5 dX10_driveSecond_171 rfl rfl ?_
      refine V_get (v := .ref h1) C 0 rfl rfl in_X10 0 (by decide) fl_X10_7 rfl rfl dX10_driveSecond_172 ?_
      refine V_bipush (v := 37) C dX10_driveSecond_175 (by decide) ?_
      refine V_aload_n C 5 dX10_driveSecond_177 rfl rfl ?_
      refine V_get (v := .ref h1) C 0 rfl rfl in_X10 0 (by decide) fl_X10_7 rfl rfl dX10_driveSecond_178 ?_
      refine V_bipush (v := 37) C dX10_driveSecond_181 (by decide) ?_
      refine V_iald C 1 rfl (show ix 37 37 113 from ix_nI (k := 37) (by omega) (by omega)) dX10_driveSecond_183 ?_
      refine V_ev (show (upd (upd (upd (upd (carZ z (z (4 * t + 2) * z (4 * t + 3))) 47 (((carZ z (z (4 * t + 2) * z (4 * t + 3))) 47) + (z (4 * t + 2)))) 47 ((((carZ z (z (4 * t + 2) * z (4 * t + 3))) 47) + (z (4 * t + 2))) - (((((carZ z (z (4 * t + 2) * z (4 * t + 3))) 47) + (z (4 * t + 2))) / (z (4 * t + 2) * z (4 * t + 3))) * (z (4 * t + 2) * z (4 * t + 3))))) 39 9999999) 45 ((z 45) + ((((carZ z (z (4 * t + 2) * z (4 * t + 3))) 47) + (z (4 * t + 2))) / (z (4 * t + 2) * z (4 * t + 3))))) 37 = z 37 from ((upd_n (show 37 ≠ 45 from by omega)).trans ((upd_n (show 37 ≠ 39 from by omega)).trans ((upd_n (show 37 ≠ 47 from by omega)).trans ((upd_n (show 37 ≠ 47 from by omega)).trans (carZ_n (show 37 ≠ 47 ∧ 37 ≠ 48 from by omega))))))) ?_
      refine V_ev (show (z 37 : Int32) = nI c from hz) ?_
      refine V_iconst (v := 1) C dX10_driveSecond_184 (by decide) ?_
      refine V_iadd C dX10_driveSecond_185 ?_
      refine V_ev (show ((nI c) + 1 : Int32) = nI (c + 1) from nI_add c 1) ?_
      refine V_ldc (v := 86400) C k_X10_68 dX10_driveSecond_186 ?_
      refine V_irem C dX10_driveSecond_188 (by decide) ?_
      refine V_ev (show ((nI (c + 1)) - (nI (c + 1)) / 86400 * 86400 : Int32) = nI ((c + 1) % 86400) from pk_rem (d := 86400) (by omega) (by omega) (by omega)) ?_
      refine V_iast (ws2 := [(h0, .inr (10, [.ref h1, .ref h2, .ref h3, .ref h4, .int pm, .ref h5, .ref h6, .int ty, .ref h7, .int om, .int sp, .int wr])), (h1, .inl (gI g, 113, .inl (upd (upd (upd (upd (upd (carZ z (z (4 * t + 2) * z (4 * t + 3))) 47 (((carZ z (z (4 * t + 2) * z (4 * t + 3))) 47) + (z (4 * t + 2)))) 47 ((((carZ z (z (4 * t + 2) * z (4 * t + 3))) 47) + (z (4 * t + 2))) - (((((carZ z (z (4 * t + 2) * z (4 * t + 3))) 47) + (z (4 * t + 2))) / (z (4 * t + 2) * z (4 * t + 3))) * (z (4 * t + 2) * z (4 * t + 3))))) 39 9999999) 45 ((z 45) + ((((carZ z (z (4 * t + 2) * z (4 * t + 3))) 47) + (z (4 * t + 2))) / (z (4 * t + 2) * z (4 * t + 3))))) 37 (nI ((c + 1) % 86400)))))]) C 1 rfl (show ix 37 37 113 from ix_nI (k := 37) (by omega) (by omega)) dX10_driveSecond_189 rfl ?_
      refine V_iload C 1 dX10_driveSecond_190 rfl ?_
      refine hret _ _ _ _ dX10_driveSecond_192 ?_
      have ed : (((carZ z (z (4 * t + 2) * z (4 * t + 3))) 47) + (z (4 * t + 2))) / (z (4 * t + 2) * z (4 * t + 3)) = drpZ z t p := by rw [drpZ, if_pos c_37]
      have b2 := c_138
      rw [ed] at b2
      refine ⟨ed, ?_⟩
      simp only [secZ, if_pos c_37, if_pos b2, ed]
    · refine V_iload C 0 dX10_driveSecond_141 rfl ?_
      refine V_goto (tgt := 148) C dX10_driveSecond_143 (by decide) ?_
      refine V_iast (ws2 := [(h0, .inr (10, [.ref h1, .ref h2, .ref h3, .ref h4, .int pm, .ref h5, .ref h6, .int ty, .ref h7, .int om, .int sp, .int wr])), (h1, .inl (gI g, 113, .inl (upd (upd (upd (carZ z (z (4 * t + 2) * z (4 * t + 3))) 47 (((carZ z (z (4 * t + 2) * z (4 * t + 3))) 47) + (z (4 * t + 2)))) 47 ((((carZ z (z (4 * t + 2) * z (4 * t + 3))) 47) + (z (4 * t + 2))) - (((((carZ z (z (4 * t + 2) * z (4 * t + 3))) 47) + (z (4 * t + 2))) / (z (4 * t + 2) * z (4 * t + 3))) * (z (4 * t + 2) * z (4 * t + 3))))) 39 ((z 39) + (((((carZ z (z (4 * t + 2) * z (4 * t + 3))) 47) + (z (4 * t + 2))) / (z (4 * t + 2) * z (4 * t + 3))) * (z (4 * t + 1)))))))]) C 1 rfl (show ix 39 39 113 from ix_nI (k := 39) (by omega) (by omega)) dX10_driveSecond_148 rfl ?_
      refine V_aload_n C 5 dX10_driveSecond_149 rfl rfl ?_
      refine V_get (v := .ref h1) C 0 rfl rfl in_X10 0 (by decide) fl_X10_7 rfl rfl dX10_driveSecond_150 ?_
      refine V_iload C 2 dX10_driveSecond_153 rfl ?_
      refine V_if_eq (tgt := 163) C dX10_driveSecond_155 (by decide) (fun _ => ?_) (fun h => absurd (by decide) h)
      refine V_bipush (v := 45) C dX10_driveSecond_163 (by decide) ?_
      refine V_dup2 C dX10_driveSecond_165 rfl rfl ?_
      refine V_iald C 1 rfl (show ix 45 45 113 from ix_nI (k := 45) (by omega) (by omega)) dX10_driveSecond_166 ?_
      refine V_ev (show (upd (upd (upd (carZ z (z (4 * t + 2) * z (4 * t + 3))) 47 (((carZ z (z (4 * t + 2) * z (4 * t + 3))) 47) + (z (4 * t + 2)))) 47 ((((carZ z (z (4 * t + 2) * z (4 * t + 3))) 47) + (z (4 * t + 2))) - (((((carZ z (z (4 * t + 2) * z (4 * t + 3))) 47) + (z (4 * t + 2))) / (z (4 * t + 2) * z (4 * t + 3))) * (z (4 * t + 2) * z (4 * t + 3))))) 39 ((z 39) + (((((carZ z (z (4 * t + 2) * z (4 * t + 3))) 47) + (z (4 * t + 2))) / (z (4 * t + 2) * z (4 * t + 3))) * (z (4 * t + 1))))) 45 = z 45 from ((upd_n (show 45 ≠ 39 from by omega)).trans ((upd_n (show 45 ≠ 47 from by omega)).trans ((upd_n (show 45 ≠ 47 from by omega)).trans (carZ_n (show 45 ≠ 47 ∧ 45 ≠ 48 from by omega)))))) ?_
      refine V_iload C 1 dX10_driveSecond_167 rfl ?_
      refine V_iadd C dX10_driveSecond_169 ?_
      refine V_iast (ws2 := [(h0, .inr (10, [.ref h1, .ref h2, .ref h3, .ref h4, .int pm, .ref h5, .ref h6, .int ty, .ref h7, .int om, .int sp, .int wr])), (h1, .inl (gI g, 113, .inl (upd (upd (upd (upd (carZ z (z (4 * t + 2) * z (4 * t + 3))) 47 (((carZ z (z (4 * t + 2) * z (4 * t + 3))) 47) + (z (4 * t + 2)))) 47 ((((carZ z (z (4 * t + 2) * z (4 * t + 3))) 47) + (z (4 * t + 2))) - (((((carZ z (z (4 * t + 2) * z (4 * t + 3))) 47) + (z (4 * t + 2))) / (z (4 * t + 2) * z (4 * t + 3))) * (z (4 * t + 2) * z (4 * t + 3))))) 39 ((z 39) + (((((carZ z (z (4 * t + 2) * z (4 * t + 3))) 47) + (z (4 * t + 2))) / (z (4 * t + 2) * z (4 * t + 3))) * (z (4 * t + 1))))) 45 ((z 45) + ((((carZ z (z (4 * t + 2) * z (4 * t + 3))) 47) + (z (4 * t + 2))) / (z (4 * t + 2) * z (4 * t + 3)))))))]) C 1 rfl (show ix 45 45 113 from ix_nI (k := 45) (by omega) (by omega)) dX10_driveSecond_170 rfl ?_
      refine V_aload_n C 5 dX10_driveSecond_171 rfl rfl ?_
      refine V_get (v := .ref h1) C 0 rfl rfl in_X10 0 (by decide) fl_X10_7 rfl rfl dX10_driveSecond_172 ?_
      refine V_bipush (v := 37) C dX10_driveSecond_175 (by decide) ?_
      refine V_aload_n C 5 dX10_driveSecond_177 rfl rfl ?_
      refine V_get (v := .ref h1) C 0 rfl rfl in_X10 0 (by decide) fl_X10_7 rfl rfl dX10_driveSecond_178 ?_
      refine V_bipush (v := 37) C dX10_driveSecond_181 (by decide) ?_
      refine V_iald C 1 rfl (show ix 37 37 113 from ix_nI (k := 37) (by omega) (by omega)) dX10_driveSecond_183 ?_
      refine V_ev (show (upd (upd (upd (upd (carZ z (z (4 * t + 2) * z (4 * t + 3))) 47 (((carZ z (z (4 * t + 2) * z (4 * t + 3))) 47) + (z (4 * t + 2)))) 47 ((((carZ z (z (4 * t + 2) * z (4 * t + 3))) 47) + (z (4 * t + 2))) - (((((carZ z (z (4 * t + 2) * z (4 * t + 3))) 47) + (z (4 * t + 2))) / (z (4 * t + 2) * z (4 * t + 3))) * (z (4 * t + 2) * z (4 * t + 3))))) 39 ((z 39) + (((((carZ z (z (4 * t + 2) * z (4 * t + 3))) 47) + (z (4 * t + 2))) / (z (4 * t + 2) * z (4 * t + 3))) * (z (4 * t + 1))))) 45 ((z 45) + ((((carZ z (z (4 * t + 2) * z (4 * t + 3))) 47) + (z (4 * t + 2))) / (z (4 * t + 2) * z (4 * t + 3))))) 37 = z 37 from ((upd_n (show 37 ≠ 45 from by omega)).trans ((upd_n (show 37 ≠ 39 from by omega)).trans ((upd_n (show 37 ≠ 47 from by omega)).trans ((upd_n (show 37 ≠ 47 from by omega)).trans (carZ_n (show 37 ≠ 47 ∧ 37 ≠ 48 from by omega))))))) ?_
      refine V_ev (show (z 37 : Int32) = nI c from hz) ?_
      refine V_iconst (v := 1) C dX10_driveSecond_184 (by decide) ?_
      refine V_iadd C dX10_driveSecond_185 ?_
      refine V_ev (show ((nI c) + 1 : Int32) = nI (c + 1) from nI_add c 1) ?_
      refine V_ldc (v := 86400) C k_X10_68 dX10_driveSecond_186 ?_
      refine V_irem C dX10_driveSecond_188 (by decide) ?_
      refine V_ev (show ((nI (c + 1)) - (nI (c + 1)) / 86400 * 86400 : Int32) = nI ((c + 1) % 86400) from pk_rem (d := 86400) (by omega) (by omega) (by omega)) ?_
      refine V_iast (ws2 := [(h0, .inr (10, [.ref h1, .ref h2, .ref h3, .ref h4, .int pm, .ref h5, .ref h6, .int ty, .ref h7, .int om, .int sp, .int wr])), (h1, .inl (gI g, 113, .inl (upd (upd (upd (upd (upd (carZ z (z (4 * t + 2) * z (4 * t + 3))) 47 (((carZ z (z (4 * t + 2) * z (4 * t + 3))) 47) + (z (4 * t + 2)))) 47 ((((carZ z (z (4 * t + 2) * z (4 * t + 3))) 47) + (z (4 * t + 2))) - (((((carZ z (z (4 * t + 2) * z (4 * t + 3))) 47) + (z (4 * t + 2))) / (z (4 * t + 2) * z (4 * t + 3))) * (z (4 * t + 2) * z (4 * t + 3))))) 39 ((z 39) + (((((carZ z (z (4 * t + 2) * z (4 * t + 3))) 47) + (z (4 * t + 2))) / (z (4 * t + 2) * z (4 * t + 3))) * (z (4 * t + 1))))) 45 ((z 45) + ((((carZ z (z (4 * t + 2) * z (4 * t + 3))) 47) + (z (4 * t + 2))) / (z (4 * t + 2) * z (4 * t + 3))))) 37 (nI ((c + 1) % 86400)))))]) C 1 rfl (show ix 37 37 113 from ix_nI (k := 37) (by omega) (by omega)) dX10_driveSecond_189 rfl ?_
      refine V_iload C 1 dX10_driveSecond_190 rfl ?_
      refine hret _ _ _ _ dX10_driveSecond_192 ?_
      have ed : (((carZ z (z (4 * t + 2) * z (4 * t + 3))) 47) + (z (4 * t + 2))) / (z (4 * t + 2) * z (4 * t + 3)) = drpZ z t p := by rw [drpZ, if_pos c_37]
      have b2 := c_138
      rw [ed] at b2
      refine ⟨ed, ?_⟩
      simp only [secZ, if_pos c_37, if_neg b2, ed]
  · refine V_iconst (v := 1) C dX10_driveSecond_40 (by decide) ?_
    refine V_goto (tgt := 45) C dX10_driveSecond_41 (by decide) ?_
    refine V_istore (L2 := [(4, .int 1), (3, .int (p * (z (4 * t + 3)))), (2, .int (nI t)), (0, .ref h0), (1, .int p)]) C dX10_driveSecond_45 (by decide) rfl ?_
    refine V_aload_n C 3 dX10_driveSecond_47 rfl rfl ?_
    refine V_get (v := .ref h1) C 0 rfl rfl in_X10 0 (by decide) fl_X10_7 rfl rfl dX10_driveSecond_48 ?_
    refine V_bipush (v := 47) C dX10_driveSecond_51 (by decide) ?_
    refine V_dup2 C dX10_driveSecond_53 rfl rfl ?_
    refine V_iald C 1 rfl (show ix 47 47 113 from ix_nI (k := 47) (by omega) (by omega)) dX10_driveSecond_54 ?_
    refine V_iload C 0 dX10_driveSecond_55 rfl ?_
    refine V_if_eq (tgt := 64) C dX10_driveSecond_57 (by decide) (fun h => absurd h (by decide)) (fun _ => ?_)
    refine V_iload_n C 1 dX10_driveSecond_60 rfl rfl ?_
    refine V_goto (tgt := 70) C dX10_driveSecond_61 (by decide) ?_
    refine V_iadd C dX10_driveSecond_70 ?_
    refine V_iast (ws2 := [(h0, .inr (10, [.ref h1, .ref h2, .ref h3, .ref h4, .int pm, .ref h5, .ref h6, .int ty, .ref h7, .int om, .int sp, .int wr])), (h1, .inl (gI g, 113, .inl (upd (carZ z (z (4 * t + 2) * z (4 * t + 3))) 47 (((carZ z (z (4 * t + 2) * z (4 * t + 3))) 47) + (p * (z (4 * t + 3)))))))]) C 1 rfl (show ix 47 47 113 from ix_nI (k := 47) (by omega) (by omega)) dX10_driveSecond_71 rfl ?_
    refine V_aload_n C 3 dX10_driveSecond_72 rfl rfl ?_
    refine V_get (v := .ref h1) C 0 rfl rfl in_X10 0 (by decide) fl_X10_7 rfl rfl dX10_driveSecond_73 ?_
    refine V_bipush (v := 47) C dX10_driveSecond_76 (by decide) ?_
    refine V_iald C 1 rfl (show ix 47 47 113 from ix_nI (k := 47) (by omega) (by omega)) dX10_driveSecond_78 ?_
    refine V_ev (show (upd (carZ z (z (4 * t + 2) * z (4 * t + 3))) 47 (((carZ z (z (4 * t + 2) * z (4 * t + 3))) 47) + (p * (z (4 * t + 3))))) 47 = ((carZ z (z (4 * t + 2) * z (4 * t + 3))) 47) + (p * (z (4 * t + 3))) from (upd_s)) ?_
    refine V_aload_n C 3 dX10_driveSecond_79 rfl rfl ?_
    refine V_get (v := .ref h1) C 0 rfl rfl in_X10 0 (by decide) fl_X10_7 rfl rfl dX10_driveSecond_80 ?_
    refine V_bipush (v := 48) C dX10_driveSecond_83 (by decide) ?_
    refine V_iald C 1 rfl (show ix 48 48 113 from ix_nI (k := 48) (by omega) (by omega)) dX10_driveSecond_85 ?_
    refine V_ev (show (upd (carZ z (z (4 * t + 2) * z (4 * t + 3))) 47 (((carZ z (z (4 * t + 2) * z (4 * t + 3))) 47) + (p * (z (4 * t + 3))))) 48 = z (4 * t + 2) * z (4 * t + 3) from ((upd_n (show 48 ≠ 47 from by omega)).trans (carZ_48))) ?_
    refine V_idiv C dX10_driveSecond_86 (hp) ?_
    refine V_istore (L2 := [(5, .int ((((carZ z (z (4 * t + 2) * z (4 * t + 3))) 47) + (p * (z (4 * t + 3)))) / (z (4 * t + 2) * z (4 * t + 3)))), (4, .int 1), (3, .int (p * (z (4 * t + 3)))), (2, .int (nI t)), (0, .ref h0), (1, .int p)]) C dX10_driveSecond_87 (by decide) rfl ?_
    refine V_aload_n C 4 dX10_driveSecond_89 rfl rfl ?_
    refine V_get (v := .ref h1) C 0 rfl rfl in_X10 0 (by decide) fl_X10_7 rfl rfl dX10_driveSecond_90 ?_
    refine V_bipush (v := 47) C dX10_driveSecond_93 (by decide) ?_
    refine V_dup2 C dX10_driveSecond_95 rfl rfl ?_
    refine V_iald C 1 rfl (show ix 47 47 113 from ix_nI (k := 47) (by omega) (by omega)) dX10_driveSecond_96 ?_
    refine V_ev (show (upd (carZ z (z (4 * t + 2) * z (4 * t + 3))) 47 (((carZ z (z (4 * t + 2) * z (4 * t + 3))) 47) + (p * (z (4 * t + 3))))) 47 = ((carZ z (z (4 * t + 2) * z (4 * t + 3))) 47) + (p * (z (4 * t + 3))) from (upd_s)) ?_
    refine V_iload C 0 dX10_driveSecond_97 rfl ?_
    refine V_aload_n C 4 dX10_driveSecond_99 rfl rfl ?_
    refine V_get (v := .ref h1) C 0 rfl rfl in_X10 0 (by decide) fl_X10_7 rfl rfl dX10_driveSecond_100 ?_
    refine V_bipush (v := 48) C dX10_driveSecond_103 (by decide) ?_
    refine V_iald C 1 rfl (show ix 48 48 113 from ix_nI (k := 48) (by omega) (by omega)) dX10_driveSecond_105 ?_
    refine V_ev (show (upd (carZ z (z (4 * t + 2) * z (4 * t + 3))) 47 (((carZ z (z (4 * t + 2) * z (4 * t + 3))) 47) + (p * (z (4 * t + 3))))) 48 = z (4 * t + 2) * z (4 * t + 3) from ((upd_n (show 48 ≠ 47 from by omega)).trans (carZ_48))) ?_
    refine V_imul C dX10_driveSecond_106 ?_
    refine V_isub C dX10_driveSecond_107 ?_
    refine V_iast (ws2 := [(h0, .inr (10, [.ref h1, .ref h2, .ref h3, .ref h4, .int pm, .ref h5, .ref h6, .int ty, .ref h7, .int om, .int sp, .int wr])), (h1, .inl (gI g, 113, .inl (upd (upd (carZ z (z (4 * t + 2) * z (4 * t + 3))) 47 (((carZ z (z (4 * t + 2) * z (4 * t + 3))) 47) + (p * (z (4 * t + 3))))) 47 ((((carZ z (z (4 * t + 2) * z (4 * t + 3))) 47) + (p * (z (4 * t + 3)))) - (((((carZ z (z (4 * t + 2) * z (4 * t + 3))) 47) + (p * (z (4 * t + 3)))) / (z (4 * t + 2) * z (4 * t + 3))) * (z (4 * t + 2) * z (4 * t + 3)))))))]) C 1 rfl (show ix 47 47 113 from ix_nI (k := 47) (by omega) (by omega)) dX10_driveSecond_108 rfl ?_
    refine V_aload_n C 4 dX10_driveSecond_109 rfl rfl ?_
    refine V_get (v := .ref h1) C 0 rfl rfl in_X10 0 (by decide) fl_X10_7 rfl rfl dX10_driveSecond_110 ?_
    refine V_bipush (v := 39) C dX10_driveSecond_113 (by decide) ?_
    refine V_iald C 1 rfl (show ix 39 39 113 from ix_nI (k := 39) (by omega) (by omega)) dX10_driveSecond_115 ?_
    refine V_ev (show (upd (upd (carZ z (z (4 * t + 2) * z (4 * t + 3))) 47 (((carZ z (z (4 * t + 2) * z (4 * t + 3))) 47) + (p * (z (4 * t + 3))))) 47 ((((carZ z (z (4 * t + 2) * z (4 * t + 3))) 47) + (p * (z (4 * t + 3)))) - (((((carZ z (z (4 * t + 2) * z (4 * t + 3))) 47) + (p * (z (4 * t + 3)))) / (z (4 * t + 2) * z (4 * t + 3))) * (z (4 * t + 2) * z (4 * t + 3))))) 39 = z 39 from ((upd_n (show 39 ≠ 47 from by omega)).trans ((upd_n (show 39 ≠ 47 from by omega)).trans (carZ_n (show 39 ≠ 47 ∧ 39 ≠ 48 from by omega))))) ?_
    refine V_iload C 0 dX10_driveSecond_116 rfl ?_
    refine V_aload_n C 4 dX10_driveSecond_118 rfl rfl ?_
    refine V_iload_n C 3 dX10_driveSecond_119 rfl rfl ?_
    refine V_iconst (v := 1) C dX10_driveSecond_120 (by decide) ?_
    refine V_callVi (q0 := 0) (na := 2) (As := [.int (nI t), .int 1]) (rest := [.int ((((carZ z (z (4 * t + 2) * z (4 * t + 3))) 47) + (p * (z (4 * t + 3)))) / (z (4 * t + 2) * z (4 * t + 3))), .int (z 39)]) (wr := []) C (c_X10_its g h0 h1 h2 h3 h4 h5 h6 h7 pm ty om sp wr (upd (upd (carZ z (z (4 * t + 2) * z (4 * t + 3))) 47 (((carZ z (z (4 * t + 2) * z (4 * t + 3))) 47) + (p * (z (4 * t + 3))))) 47 ((((carZ z (z (4 * t + 2) * z (4 * t + 3))) 47) + (p * (z (4 * t + 3)))) - (((((carZ z (z (4 * t + 2) * z (4 * t + 3))) 47) + (p * (z (4 * t + 3)))) / (z (4 * t + 2) * z (4 * t + 3))) * (z (4 * t + 2) * z (4 * t + 3))))) t 1 (show t < 3 from by first | assumption | omega | exact ix_nI (by omega) (by omega) | decide) (show 1 < 4 from by first | assumption | omega | exact ix_nI (by omega) (by omega) | decide)) ⟨⟨ini_X10, co_X10_its, ⟨by decide, by decide, by decide +kernel⟩, by decide⟩, ml_X10_37, im_X10_its, se_X10_its⟩ [0, 1] [] rfl rfl rfl rfl (by decide) rfl rfl rfl rfl (Nat.le_of_ble_eq_true rfl) (by omega) (by omega) dX10_driveSecond_121 (fun r_15 w_ hw_16 => ?_)
    obtain ⟨rfl, rfl⟩ := hw_16
    refine V_to (ws2 := [(h0, .inr (10, [.ref h1, .ref h2, .ref h3, .ref h4, .int pm, .ref h5, .ref h6, .int ty, .ref h7, .int om, .int sp, .int wr])), (h1, .inl (gI g, 113, .inl (upd (upd (carZ z (z (4 * t + 2) * z (4 * t + 3))) 47 (((carZ z (z (4 * t + 2) * z (4 * t + 3))) 47) + (p * (z (4 * t + 3))))) 47 ((((carZ z (z (4 * t + 2) * z (4 * t + 3))) 47) + (p * (z (4 * t + 3)))) - (((((carZ z (z (4 * t + 2) * z (4 * t + 3))) 47) + (p * (z (4 * t + 3)))) / (z (4 * t + 2) * z (4 * t + 3))) * (z (4 * t + 2) * z (4 * t + 3)))))))]) ?_ rfl
    refine V_ev (show (upd (upd (carZ z (z (4 * t + 2) * z (4 * t + 3))) 47 (((carZ z (z (4 * t + 2) * z (4 * t + 3))) 47) + (p * (z (4 * t + 3))))) 47 ((((carZ z (z (4 * t + 2) * z (4 * t + 3))) 47) + (p * (z (4 * t + 3)))) - (((((carZ z (z (4 * t + 2) * z (4 * t + 3))) 47) + (p * (z (4 * t + 3)))) / (z (4 * t + 2) * z (4 * t + 3))) * (z (4 * t + 2) * z (4 * t + 3))))) (4 * t + 1) = z (4 * t + 1) from ((upd_n (show 4 * t + 1 ≠ 47 from by omega)).trans ((upd_n (show 4 * t + 1 ≠ 47 from by omega)).trans (carZ_n (show 4 * t + 1 ≠ 47 ∧ 4 * t + 1 ≠ 48 from by omega))))) ?_
    refine V_imul C dX10_driveSecond_124 ?_
    refine V_iadd C dX10_driveSecond_125 ?_
    refine V_istore (L2 := [(6, .int ((z 39) + (((((carZ z (z (4 * t + 2) * z (4 * t + 3))) 47) + (p * (z (4 * t + 3)))) / (z (4 * t + 2) * z (4 * t + 3))) * (z (4 * t + 1))))), (5, .int ((((carZ z (z (4 * t + 2) * z (4 * t + 3))) 47) + (p * (z (4 * t + 3)))) / (z (4 * t + 2) * z (4 * t + 3)))), (4, .int 1), (3, .int (p * (z (4 * t + 3)))), (2, .int (nI t)), (0, .ref h0), (1, .int p)]) C dX10_driveSecond_126 (by decide) rfl ?_
    refine V_aload_n C 5 dX10_driveSecond_128 rfl rfl ?_
    refine V_get (v := .ref h1) C 0 rfl rfl in_X10 0 (by decide) fl_X10_7 rfl rfl dX10_driveSecond_129 ?_
    refine V_bipush (v := 39) C dX10_driveSecond_132 (by decide) ?_
    refine V_iload C 0 dX10_driveSecond_134 rfl ?_
    refine V_ldc (v := 9999999) C k_X10_67 dX10_driveSecond_136 ?_
    refine V_icmp_ge (tgt := 146) C dX10_driveSecond_138 (by decide) (fun c_138 => ?_) (fun c_138 => ?_)
    · refine V_ldc (v := 9999999) C k_X10_67 dX10_driveSecond_146 ?_
      refine V_iast (ws2 := [(h0, .inr (10, [.ref h1, .ref h2, .ref h3, .ref h4, .int pm, .ref h5, .ref h6, .int ty, .ref h7, .int om, .int sp, .int wr])), (h1, .inl (gI g, 113, .inl (upd (upd (upd (carZ z (z (4 * t + 2) * z (4 * t + 3))) 47 (((carZ z (z (4 * t + 2) * z (4 * t + 3))) 47) + (p * (z (4 * t + 3))))) 47 ((((carZ z (z (4 * t + 2) * z (4 * t + 3))) 47) + (p * (z (4 * t + 3)))) - (((((carZ z (z (4 * t + 2) * z (4 * t + 3))) 47) + (p * (z (4 * t + 3)))) / (z (4 * t + 2) * z (4 * t + 3))) * (z (4 * t + 2) * z (4 * t + 3))))) 39 9999999)))]) C 1 rfl (show ix 39 39 113 from ix_nI (k := 39) (by omega) (by omega)) dX10_driveSecond_148 rfl ?_
      refine V_aload_n C 5 dX10_driveSecond_149 rfl rfl ?_
      refine V_get (v := .ref h1) C 0 rfl rfl in_X10 0 (by decide) fl_X10_7 rfl rfl dX10_driveSecond_150 ?_
      refine V_iload C 2 dX10_driveSecond_153 rfl ?_
      refine V_if_eq (tgt := 163) C dX10_driveSecond_155 (by decide) (fun h => absurd h (by decide)) (fun _ => ?_)
      refine V_bipush (v := 44) C dX10_driveSecond_158 (by decide) ?_
      refine V_goto (tgt := 165) C dX10_driveSecond_160 (by decide) ?_
      refine V_dup2 C dX10_driveSecond_165 rfl rfl ?_
      refine V_iald C 1 rfl (show ix 44 44 113 from ix_nI (k := 44) (by omega) (by omega)) dX10_driveSecond_166 ?_
      refine V_ev (show (upd (upd (upd (carZ z (z (4 * t + 2) * z (4 * t + 3))) 47 (((carZ z (z (4 * t + 2) * z (4 * t + 3))) 47) + (p * (z (4 * t + 3))))) 47 ((((carZ z (z (4 * t + 2) * z (4 * t + 3))) 47) + (p * (z (4 * t + 3)))) - (((((carZ z (z (4 * t + 2) * z (4 * t + 3))) 47) + (p * (z (4 * t + 3)))) / (z (4 * t + 2) * z (4 * t + 3))) * (z (4 * t + 2) * z (4 * t + 3))))) 39 9999999) 44 = z 44 from ((upd_n (show 44 ≠ 39 from by omega)).trans ((upd_n (show 44 ≠ 47 from by omega)).trans ((upd_n (show 44 ≠ 47 from by omega)).trans (carZ_n (show 44 ≠ 47 ∧ 44 ≠ 48 from by omega)))))) ?_
      refine V_iload C 1 dX10_driveSecond_167 rfl ?_
      refine V_iadd C dX10_driveSecond_169 ?_
      refine V_iast (ws2 := [(h0, .inr (10, [.ref h1, .ref h2, .ref h3, .ref h4, .int pm, .ref h5, .ref h6, .int ty, .ref h7, .int om, .int sp, .int wr])), (h1, .inl (gI g, 113, .inl (upd (upd (upd (upd (carZ z (z (4 * t + 2) * z (4 * t + 3))) 47 (((carZ z (z (4 * t + 2) * z (4 * t + 3))) 47) + (p * (z (4 * t + 3))))) 47 ((((carZ z (z (4 * t + 2) * z (4 * t + 3))) 47) + (p * (z (4 * t + 3)))) - (((((carZ z (z (4 * t + 2) * z (4 * t + 3))) 47) + (p * (z (4 * t + 3)))) / (z (4 * t + 2) * z (4 * t + 3))) * (z (4 * t + 2) * z (4 * t + 3))))) 39 9999999) 44 ((z 44) + ((((carZ z (z (4 * t + 2) * z (4 * t + 3))) 47) + (p * (z (4 * t + 3)))) / (z (4 * t + 2) * z (4 * t + 3)))))))]) C 1 rfl (show ix 44 44 113 from ix_nI (k := 44) (by omega) (by omega)) dX10_driveSecond_170 rfl ?_
      refine V_aload_n C 5 dX10_driveSecond_171 rfl rfl ?_
      refine V_get (v := .ref h1) C 0 rfl rfl in_X10 0 (by decide) fl_X10_7 rfl rfl dX10_driveSecond_172 ?_
      refine V_bipush (v := 37) C dX10_driveSecond_175 (by decide) ?_
      refine V_aload_n C 5 dX10_driveSecond_177 rfl rfl ?_
      refine V_get (v := .ref h1) C 0 rfl rfl in_X10 0 (by decide) fl_X10_7 rfl rfl dX10_driveSecond_178 ?_
      refine V_bipush (v := 37) C dX10_driveSecond_181 (by decide) ?_
      refine V_iald C 1 rfl (show ix 37 37 113 from ix_nI (k := 37) (by omega) (by omega)) dX10_driveSecond_183 ?_
      refine V_ev (show (upd (upd (upd (upd (carZ z (z (4 * t + 2) * z (4 * t + 3))) 47 (((carZ z (z (4 * t + 2) * z (4 * t + 3))) 47) + (p * (z (4 * t + 3))))) 47 ((((carZ z (z (4 * t + 2) * z (4 * t + 3))) 47) + (p * (z (4 * t + 3)))) - (((((carZ z (z (4 * t + 2) * z (4 * t + 3))) 47) + (p * (z (4 * t + 3)))) / (z (4 * t + 2) * z (4 * t + 3))) * (z (4 * t + 2) * z (4 * t + 3))))) 39 9999999) 44 ((z 44) + ((((carZ z (z (4 * t + 2) * z (4 * t + 3))) 47) + (p * (z (4 * t + 3)))) / (z (4 * t + 2) * z (4 * t + 3))))) 37 = z 37 from ((upd_n (show 37 ≠ 44 from by omega)).trans ((upd_n (show 37 ≠ 39 from by omega)).trans ((upd_n (show 37 ≠ 47 from by omega)).trans ((upd_n (show 37 ≠ 47 from by omega)).trans (carZ_n (show 37 ≠ 47 ∧ 37 ≠ 48 from by omega))))))) ?_
      refine V_ev (show (z 37 : Int32) = nI c from hz) ?_
      refine V_iconst (v := 1) C dX10_driveSecond_184 (by decide) ?_
      refine V_iadd C dX10_driveSecond_185 ?_
      refine V_ev (show ((nI c) + 1 : Int32) = nI (c + 1) from nI_add c 1) ?_
      refine V_ldc (v := 86400) C k_X10_68 dX10_driveSecond_186 ?_
      refine V_irem C dX10_driveSecond_188 (by decide) ?_
      refine V_ev (show ((nI (c + 1)) - (nI (c + 1)) / 86400 * 86400 : Int32) = nI ((c + 1) % 86400) from pk_rem (d := 86400) (by omega) (by omega) (by omega)) ?_
      refine V_iast (ws2 := [(h0, .inr (10, [.ref h1, .ref h2, .ref h3, .ref h4, .int pm, .ref h5, .ref h6, .int ty, .ref h7, .int om, .int sp, .int wr])), (h1, .inl (gI g, 113, .inl (upd (upd (upd (upd (upd (carZ z (z (4 * t + 2) * z (4 * t + 3))) 47 (((carZ z (z (4 * t + 2) * z (4 * t + 3))) 47) + (p * (z (4 * t + 3))))) 47 ((((carZ z (z (4 * t + 2) * z (4 * t + 3))) 47) + (p * (z (4 * t + 3)))) - (((((carZ z (z (4 * t + 2) * z (4 * t + 3))) 47) + (p * (z (4 * t + 3)))) / (z (4 * t + 2) * z (4 * t + 3))) * (z (4 * t + 2) * z (4 * t + 3))))) 39 9999999) 44 ((z 44) + ((((carZ z (z (4 * t + 2) * z (4 * t + 3))) 47) + (p * (z (4 * t + 3)))) / (z (4 * t + 2) * z (4 * t + 3))))) 37 (nI ((c + 1) % 86400)))))]) C 1 rfl (show ix 37 37 113 from ix_nI (k := 37) (by omega) (by omega)) dX10_driveSecond_189 rfl ?_
      refine V_iload C 1 dX10_driveSecond_190 rfl ?_
      refine hret _ _ _ _ dX10_driveSecond_192 ?_
      have ed : (((carZ z (z (4 * t + 2) * z (4 * t + 3))) 47) + (p * (z (4 * t + 3)))) / (z (4 * t + 2) * z (4 * t + 3)) = drpZ z t p := by rw [drpZ, if_neg c_37]
      have b2 := c_138
      rw [ed] at b2
      refine ⟨ed, ?_⟩
      simp only [secZ, if_neg c_37, if_pos b2, ed]
    · refine V_iload C 0 dX10_driveSecond_141 rfl ?_
      refine V_goto (tgt := 148) C dX10_driveSecond_143 (by decide) ?_
      refine V_iast (ws2 := [(h0, .inr (10, [.ref h1, .ref h2, .ref h3, .ref h4, .int pm, .ref h5, .ref h6, .int ty, .ref h7, .int om, .int sp, .int wr])), (h1, .inl (gI g, 113, .inl (upd (upd (upd (carZ z (z (4 * t + 2) * z (4 * t + 3))) 47 (((carZ z (z (4 * t + 2) * z (4 * t + 3))) 47) + (p * (z (4 * t + 3))))) 47 ((((carZ z (z (4 * t + 2) * z (4 * t + 3))) 47) + (p * (z (4 * t + 3)))) - (((((carZ z (z (4 * t + 2) * z (4 * t + 3))) 47) + (p * (z (4 * t + 3)))) / (z (4 * t + 2) * z (4 * t + 3))) * (z (4 * t + 2) * z (4 * t + 3))))) 39 ((z 39) + (((((carZ z (z (4 * t + 2) * z (4 * t + 3))) 47) + (p * (z (4 * t + 3)))) / (z (4 * t + 2) * z (4 * t + 3))) * (z (4 * t + 1)))))))]) C 1 rfl (show ix 39 39 113 from ix_nI (k := 39) (by omega) (by omega)) dX10_driveSecond_148 rfl ?_
      refine V_aload_n C 5 dX10_driveSecond_149 rfl rfl ?_
      refine V_get (v := .ref h1) C 0 rfl rfl in_X10 0 (by decide) fl_X10_7 rfl rfl dX10_driveSecond_150 ?_
      refine V_iload C 2 dX10_driveSecond_153 rfl ?_
      refine V_if_eq (tgt := 163) C dX10_driveSecond_155 (by decide) (fun h => absurd h (by decide)) (fun _ => ?_)
      refine V_bipush (v := 44) C dX10_driveSecond_158 (by decide) ?_
      refine V_goto (tgt := 165) C dX10_driveSecond_160 (by decide) ?_
      refine V_dup2 C dX10_driveSecond_165 rfl rfl ?_
      refine V_iald C 1 rfl (show ix 44 44 113 from ix_nI (k := 44) (by omega) (by omega)) dX10_driveSecond_166 ?_
      refine V_ev (show (upd (upd (upd (carZ z (z (4 * t + 2) * z (4 * t + 3))) 47 (((carZ z (z (4 * t + 2) * z (4 * t + 3))) 47) + (p * (z (4 * t + 3))))) 47 ((((carZ z (z (4 * t + 2) * z (4 * t + 3))) 47) + (p * (z (4 * t + 3)))) - (((((carZ z (z (4 * t + 2) * z (4 * t + 3))) 47) + (p * (z (4 * t + 3)))) / (z (4 * t + 2) * z (4 * t + 3))) * (z (4 * t + 2) * z (4 * t + 3))))) 39 ((z 39) + (((((carZ z (z (4 * t + 2) * z (4 * t + 3))) 47) + (p * (z (4 * t + 3)))) / (z (4 * t + 2) * z (4 * t + 3))) * (z (4 * t + 1))))) 44 = z 44 from ((upd_n (show 44 ≠ 39 from by omega)).trans ((upd_n (show 44 ≠ 47 from by omega)).trans ((upd_n (show 44 ≠ 47 from by omega)).trans (carZ_n (show 44 ≠ 47 ∧ 44 ≠ 48 from by omega)))))) ?_
      refine V_iload C 1 dX10_driveSecond_167 rfl ?_
      refine V_iadd C dX10_driveSecond_169 ?_
      refine V_iast (ws2 := [(h0, .inr (10, [.ref h1, .ref h2, .ref h3, .ref h4, .int pm, .ref h5, .ref h6, .int ty, .ref h7, .int om, .int sp, .int wr])), (h1, .inl (gI g, 113, .inl (upd (upd (upd (upd (carZ z (z (4 * t + 2) * z (4 * t + 3))) 47 (((carZ z (z (4 * t + 2) * z (4 * t + 3))) 47) + (p * (z (4 * t + 3))))) 47 ((((carZ z (z (4 * t + 2) * z (4 * t + 3))) 47) + (p * (z (4 * t + 3)))) - (((((carZ z (z (4 * t + 2) * z (4 * t + 3))) 47) + (p * (z (4 * t + 3)))) / (z (4 * t + 2) * z (4 * t + 3))) * (z (4 * t + 2) * z (4 * t + 3))))) 39 ((z 39) + (((((carZ z (z (4 * t + 2) * z (4 * t + 3))) 47) + (p * (z (4 * t + 3)))) / (z (4 * t + 2) * z (4 * t + 3))) * (z (4 * t + 1))))) 44 ((z 44) + ((((carZ z (z (4 * t + 2) * z (4 * t + 3))) 47) + (p * (z (4 * t + 3)))) / (z (4 * t + 2) * z (4 * t + 3)))))))]) C 1 rfl (show ix 44 44 113 from ix_nI (k := 44) (by omega) (by omega)) dX10_driveSecond_170 rfl ?_
      refine V_aload_n C 5 dX10_driveSecond_171 rfl rfl ?_
      refine V_get (v := .ref h1) C 0 rfl rfl in_X10 0 (by decide) fl_X10_7 rfl rfl dX10_driveSecond_172 ?_
      refine V_bipush (v := 37) C dX10_driveSecond_175 (by decide) ?_
      refine V_aload_n C 5 dX10_driveSecond_177 rfl rfl ?_
      refine V_get (v := .ref h1) C 0 rfl rfl in_X10 0 (by decide) fl_X10_7 rfl rfl dX10_driveSecond_178 ?_
      refine V_bipush (v := 37) C dX10_driveSecond_181 (by decide) ?_
      refine V_iald C 1 rfl (show ix 37 37 113 from ix_nI (k := 37) (by omega) (by omega)) dX10_driveSecond_183 ?_
      refine V_ev (show (upd (upd (upd (upd (carZ z (z (4 * t + 2) * z (4 * t + 3))) 47 (((carZ z (z (4 * t + 2) * z (4 * t + 3))) 47) + (p * (z (4 * t + 3))))) 47 ((((carZ z (z (4 * t + 2) * z (4 * t + 3))) 47) + (p * (z (4 * t + 3)))) - (((((carZ z (z (4 * t + 2) * z (4 * t + 3))) 47) + (p * (z (4 * t + 3)))) / (z (4 * t + 2) * z (4 * t + 3))) * (z (4 * t + 2) * z (4 * t + 3))))) 39 ((z 39) + (((((carZ z (z (4 * t + 2) * z (4 * t + 3))) 47) + (p * (z (4 * t + 3)))) / (z (4 * t + 2) * z (4 * t + 3))) * (z (4 * t + 1))))) 44 ((z 44) + ((((carZ z (z (4 * t + 2) * z (4 * t + 3))) 47) + (p * (z (4 * t + 3)))) / (z (4 * t + 2) * z (4 * t + 3))))) 37 = z 37 from ((upd_n (show 37 ≠ 44 from by omega)).trans ((upd_n (show 37 ≠ 39 from by omega)).trans ((upd_n (show 37 ≠ 47 from by omega)).trans ((upd_n (show 37 ≠ 47 from by omega)).trans (carZ_n (show 37 ≠ 47 ∧ 37 ≠ 48 from by omega))))))) ?_
      refine V_ev (show (z 37 : Int32) = nI c from hz) ?_
      refine V_iconst (v := 1) C dX10_driveSecond_184 (by decide) ?_
      refine V_iadd C dX10_driveSecond_185 ?_
      refine V_ev (show ((nI c) + 1 : Int32) = nI (c + 1) from nI_add c 1) ?_
      refine V_ldc (v := 86400) C k_X10_68 dX10_driveSecond_186 ?_
      refine V_irem C dX10_driveSecond_188 (by decide) ?_
      refine V_ev (show ((nI (c + 1)) - (nI (c + 1)) / 86400 * 86400 : Int32) = nI ((c + 1) % 86400) from pk_rem (d := 86400) (by omega) (by omega) (by omega)) ?_
      refine V_iast (ws2 := [(h0, .inr (10, [.ref h1, .ref h2, .ref h3, .ref h4, .int pm, .ref h5, .ref h6, .int ty, .ref h7, .int om, .int sp, .int wr])), (h1, .inl (gI g, 113, .inl (upd (upd (upd (upd (upd (carZ z (z (4 * t + 2) * z (4 * t + 3))) 47 (((carZ z (z (4 * t + 2) * z (4 * t + 3))) 47) + (p * (z (4 * t + 3))))) 47 ((((carZ z (z (4 * t + 2) * z (4 * t + 3))) 47) + (p * (z (4 * t + 3)))) - (((((carZ z (z (4 * t + 2) * z (4 * t + 3))) 47) + (p * (z (4 * t + 3)))) / (z (4 * t + 2) * z (4 * t + 3))) * (z (4 * t + 2) * z (4 * t + 3))))) 39 ((z 39) + (((((carZ z (z (4 * t + 2) * z (4 * t + 3))) 47) + (p * (z (4 * t + 3)))) / (z (4 * t + 2) * z (4 * t + 3))) * (z (4 * t + 1))))) 44 ((z 44) + ((((carZ z (z (4 * t + 2) * z (4 * t + 3))) 47) + (p * (z (4 * t + 3)))) / (z (4 * t + 2) * z (4 * t + 3))))) 37 (nI ((c + 1) % 86400)))))]) C 1 rfl (show ix 37 37 113 from ix_nI (k := 37) (by omega) (by omega)) dX10_driveSecond_189 rfl ?_
      refine V_iload C 1 dX10_driveSecond_190 rfl ?_
      refine hret _ _ _ _ dX10_driveSecond_192 ?_
      have ed : (((carZ z (z (4 * t + 2) * z (4 * t + 3))) 47) + (p * (z (4 * t + 3)))) / (z (4 * t + 2) * z (4 * t + 3)) = drpZ z t p := by rw [drpZ, if_neg c_37]
      have b2 := c_138
      rw [ed] at b2
      refine ⟨ed, ?_⟩
      simp only [secZ, if_neg c_37, if_neg b2, ed]
end
section

def ok1 (v : Int32) : Prop := ¬ v < 0 ∧ ¬ 1 < v

set_option maxRecDepth 100000 in
set_option maxHeartbeats 4000000 in
theorem c_X10_driveIt (g : Gd) (h0 : Nat) (h1 : Nat) (h2 : Nat) (h3 : Nat) (h4 : Nat) (h5 : Nat) (h6 : Nat) (h7 : Nat) (pm : Int32) (ty : Int32) (om : Int32) (sp : Int32) (wr : Int32) (z : Nat → Int32) (P : Nat) (S : Nat) (hP : P ≤ 9999) (hS1 : 1 ≤ S) (hS2 : S ≤ 9999) (hd : DV z) : Ki g yX10_driveIt cX10_driveIt 7 (some .int) 3 0 0 [.ref h0, .int (nI P), .int (nI S)] [(h0, .inr (10, [.ref h1, .ref h2, .ref h3, .ref h4, .int pm, .ref h5, .ref h6, .int ty, .ref h7, .int om, .int sp, .int wr])), (h1, .inl (gI g, 113, .inl z))] (fun (r : Int32) (w : va_W) => r = (drvZ z P S S).2 ∧ w = [(h0, .inr (10, [.ref h1, .ref h2, .ref h3, .ref h4, .int pm, .ref h5, .ref h6, .int ty, .ref h7, .int om, .int sp, .int wr])), (h1, .inl (gI g, 113, .inl (drvF z P S)))]) := by
  refine Ki.of (by decide) (Nat.le_of_ble_eq_true rfl) (fun X C hI hret => ?_)
  show V g X 0 0 [(h0, .inr (10, [.ref h1, .ref h2, .ref h3, .ref h4, .int pm, .ref h5, .ref h6, .int ty, .ref h7, .int om, .int sp, .int wr])), (h1, .inl (gI g, 113, .inl z))] 0 [(0, .ref h0), (1, .int (nI P)), (2, .int (nI S))] []
  refine V_iconst (v := 0) C dX10_driveIt_0 (by decide) ?_
  refine V_istore_n (L2 := [(3, .int 0), (0, .ref h0), (1, .int (nI P)), (2, .int (nI S))]) C dX10_driveIt_1 rfl (by decide) rfl ?_
  refine V_iconst (v := 0) C dX10_driveIt_2 (by decide) ?_
  refine V_istore (L2 := [(4, .int 0), (3, .int 0), (0, .ref h0), (1, .int (nI P)), (2, .int (nI S))]) C dX10_driveIt_3 (by decide) rfl ?_
  refine V_iconst (v := 1) C dX10_driveIt_5 (by decide) ?_
  refine V_istore (L2 := [(5, .int 1), (4, .int 0), (3, .int 0), (0, .ref h0), (1, .int (nI P)), (2, .int (nI S))]) C dX10_driveIt_6 (by decide) rfl ?_
  have loop_8 : ∀ (fu_8 : Nat) (j : Nat) (dr : Int32) (hd0 : Int32) (zz : Nat → Int32), j ≤ S → dr = (drvZ z P S j).2 → hd0 = nI (P * j / S) → zz = (drvZ z P S j).1 → S - j < fu_8 → V g X 0 0 [(h0, .inr (10, [.ref h1, .ref h2, .ref h3, .ref h4, .int pm, .ref h5, .ref h6, .int ty, .ref h7, .int om, .int sp, .int wr])), (h1, .inl (gI g, 113, .inl zz))] 8 [(0, .ref h0), (1, .int (nI P)), (2, .int (nI S)), (3, .int dr), (4, .int hd0), (5, .int (nI (j + 1)))] [] := by
    intro fu_8
    induction fu_8 with
    | zero => intro j dr hd0 zz hj hdr hhd hzz hm; exact absurd hm (by omega)
    | succ fu_8 ih_8 =>
      intro j dr hd0 zz hj hdr hhd hzz hm
      subst hdr; subst hhd; subst hzz
      have hdv := hd.drv (P := P) (S := S) j
      obtain ⟨c, t, hc, hz, ht, hzt, hpp⟩ := hdv.1.get
      have h48 := hdv.2
      have hb : P * (j + 1) ≤ 9999 * (9999 + 1) := Nat.mul_le_mul hP (by omega)
      refine V_iload C 5 dX10_driveIt_8 rfl ?_
      refine V_iload_n C 2 dX10_driveIt_10 rfl rfl ?_
      refine V_icmp_gt (tgt := 44) C dX10_driveIt_11 (by decide) (fun c_11 => ?_) (fun c_11 => ?_)
      · have hj2 : j = S := by
          have q := (nI_ltI (a := S) (b := j + 1) (by omega) (by omega)).mp c_11
          omega
        refine V_aload_n C 0 dX10_driveIt_44 rfl rfl ?_
        refine V_get (v := .ref h1) C 0 rfl rfl in_X10 0 (by decide) fl_X10_7 rfl rfl dX10_driveIt_45 ?_
        refine V_bipush (v := 41) C dX10_driveIt_48 (by decide) ?_
        refine V_dup2 C dX10_driveIt_50 rfl rfl ?_
        refine V_iald C 1 rfl (show ix 41 41 113 from ix_nI (k := 41) (by omega) (by omega)) dX10_driveIt_51 ?_
        refine V_iload_n C 1 dX10_driveIt_52 rfl rfl ?_
        refine V_iadd C dX10_driveIt_53 ?_
        refine V_iast (ws2 := [(h0, .inr (10, [.ref h1, .ref h2, .ref h3, .ref h4, .int pm, .ref h5, .ref h6, .int ty, .ref h7, .int om, .int sp, .int wr])), (h1, .inl (gI g, 113, .inl (upd ((drvZ z P S j).1) 41 ((((drvZ z P S j).1) 41) + (nI P)))))]) C 1 rfl (show ix 41 41 113 from ix_nI (k := 41) (by omega) (by omega)) dX10_driveIt_54 rfl ?_
        refine V_aload_n C 0 dX10_driveIt_55 rfl rfl ?_
        refine V_get (v := .ref h1) C 0 rfl rfl in_X10 0 (by decide) fl_X10_7 rfl rfl dX10_driveIt_56 ?_
        refine V_bipush (v := 42) C dX10_driveIt_59 (by decide) ?_
        refine V_dup2 C dX10_driveIt_61 rfl rfl ?_
        refine V_iald C 1 rfl (show ix 42 42 113 from ix_nI (k := 42) (by omega) (by omega)) dX10_driveIt_62 ?_
        refine V_ev (show (upd ((drvZ z P S j).1) 41 ((((drvZ z P S j).1) 41) + (nI P))) 42 = ((drvZ z P S j).1) 42 from (upd_n (show 42 ≠ 41 from by omega))) ?_
        refine V_iload_n C 2 dX10_driveIt_63 rfl rfl ?_
        refine V_iadd C dX10_driveIt_64 ?_
        refine V_iast (ws2 := [(h0, .inr (10, [.ref h1, .ref h2, .ref h3, .ref h4, .int pm, .ref h5, .ref h6, .int ty, .ref h7, .int om, .int sp, .int wr])), (h1, .inl (gI g, 113, .inl (upd (upd ((drvZ z P S j).1) 41 ((((drvZ z P S j).1) 41) + (nI P))) 42 ((((drvZ z P S j).1) 42) + (nI S)))))]) C 1 rfl (show ix 42 42 113 from ix_nI (k := 42) (by omega) (by omega)) dX10_driveIt_65 rfl ?_
        refine V_to (ws2 := [(h0, .inr (10, [.ref h1, .ref h2, .ref h3, .ref h4, .int pm, .ref h5, .ref h6, .int ty, .ref h7, .int om, .int sp, .int wr])), (h1, .inl (gI g, 113, .inl (drvF z P S)))]) ?_ (by rw [hj2]; rfl)
        refine V_iload_n C 3 dX10_driveIt_66 rfl rfl ?_
        refine hret _ _ _ _ dX10_driveIt_67 ?_
        exact ⟨by rw [hj2], rfl⟩
      · have hj2 : j + 1 ≤ S := by
          rcases Nat.lt_or_ge S (j + 1) with q | q
          · exact absurd ((nI_ltI (a := S) (b := j + 1) (by omega) (by omega)).mpr q) c_11
          · exact q
        refine V_iload_n C 1 dX10_driveIt_14 rfl rfl ?_
        refine V_iload C 5 dX10_driveIt_15 rfl ?_
        refine V_imul C dX10_driveIt_17 ?_
        refine V_ev (show ((nI P) * (nI (j + 1)) : Int32) = nI (P * (j + 1)) from pk_mul P (j + 1)) ?_
        refine V_iload_n C 2 dX10_driveIt_18 rfl rfl ?_
        refine V_idiv C dX10_driveIt_19 (nI_ne0 (by omega) (by omega)) ?_
        refine V_ev (show ((nI (P * (j + 1))) / (nI S) : Int32) = nI (P * (j + 1) / S) from pk_div (by omega) (by omega) (by omega)) ?_
        refine V_istore (L2 := [(6, .int (nI (P * (j + 1) / S))), (0, .ref h0), (1, .int (nI P)), (2, .int (nI S)), (3, .int ((drvZ z P S j).2)), (4, .int (nI (P * j / S))), (5, .int (nI (j + 1)))]) C dX10_driveIt_20 (by decide) rfl ?_
        refine V_iload_n C 4 dX10_driveIt_22 rfl rfl ?_
        refine V_aload_n C 1 dX10_driveIt_23 rfl rfl ?_
        refine V_iload C 0 dX10_driveIt_24 rfl ?_
        refine V_iload C 5 dX10_driveIt_26 rfl ?_
        refine V_isub C dX10_driveIt_28 ?_
        refine V_callVi (q0 := 0) (na := 1) (As := [.int ((nI (P * (j + 1) / S)) - (nI (P * j / S)))]) (rest := [.int ((drvZ z P S j).2)]) (wr := []) C (c_X10_driveSecond g h0 h1 h2 h3 h4 h5 h6 h7 pm ty om sp wr ((drvZ z P S j).1) c t ((nI (P * (j + 1) / S)) - (nI (P * j / S))) (show c < 86400 from by first | assumption | omega | exact ix_nI (by omega) (by omega) | decide) (show ((drvZ z P S j).1) 37 = nI c from by first | assumption | omega | exact ix_nI (by omega) (by omega) | decide) (show t < 3 from by first | assumption | omega | exact ix_nI (by omega) (by omega) | decide) (show ((drvZ z P S j).1) (12 + c / 3600) = nI t from by first | assumption | omega | exact ix_nI (by omega) (by omega) | decide) hpp (show ¬ ((drvZ z P S j).1) 48 = 0 from by first | assumption | omega | exact ix_nI (by omega) (by omega) | decide)) ⟨⟨ini_X10, co_X10_driveSecond, ⟨by decide, by decide, by decide +kernel⟩, by decide⟩, ml_X10_69, im_X10_driveSecond, se_X10_driveSecond⟩ [0, 1] [] rfl rfl rfl rfl (by decide) rfl rfl rfl rfl (Nat.le_of_ble_eq_true rfl) (by omega) (by omega) dX10_driveIt_29 (fun r_1 w_ hw_2 => ?_)
        obtain ⟨rfl, rfl⟩ := hw_2
        refine V_to (ws2 := [(h0, .inr (10, [.ref h1, .ref h2, .ref h3, .ref h4, .int pm, .ref h5, .ref h6, .int ty, .ref h7, .int om, .int sp, .int wr])), (h1, .inl (gI g, 113, .inl (secZ ((drvZ z P S j).1) c t ((nI (P * (j + 1) / S)) - (nI (P * j / S))))))]) ?_ rfl
        refine V_iadd C dX10_driveIt_32 ?_
        refine V_istore_n (L2 := [(3, .int (((drvZ z P S j).2) + (drpZ ((drvZ z P S j).1) t ((nI (P * (j + 1) / S)) - (nI (P * j / S)))))), (6, .int (nI (P * (j + 1) / S))), (0, .ref h0), (1, .int (nI P)), (2, .int (nI S)), (4, .int (nI (P * j / S))), (5, .int (nI (j + 1)))]) C dX10_driveIt_33 rfl (by decide) rfl ?_
        refine V_iload C 1 dX10_driveIt_34 rfl ?_
        refine V_istore (L2 := [(4, .int (nI (P * (j + 1) / S))), (3, .int (((drvZ z P S j).2) + (drpZ ((drvZ z P S j).1) t ((nI (P * (j + 1) / S)) - (nI (P * j / S)))))), (6, .int (nI (P * (j + 1) / S))), (0, .ref h0), (1, .int (nI P)), (2, .int (nI S)), (5, .int (nI (j + 1)))]) C dX10_driveIt_36 (by decide) rfl ?_
        refine V_iinc (v := nI ((j + 1) + 1)) (L2 := [(5, .int (nI ((j + 1) + 1))), (4, .int (nI (P * (j + 1) / S))), (3, .int (((drvZ z P S j).2) + (drpZ ((drvZ z P S j).1) t ((nI (P * (j + 1) / S)) - (nI (P * j / S)))))), (6, .int (nI (P * (j + 1) / S))), (0, .ref h0), (1, .int (nI P)), (2, .int (nI S))]) C 6 dX10_driveIt_38 rfl (nI_add (j + 1) 1) (by decide) rfl ?_
        refine V_goto (tgt := 8) C dX10_driveIt_41 (by decide) ?_
        refine V_locs (L2 := [(0, .ref h0), (1, .int (nI P)), (2, .int (nI S)), (3, .int (((drvZ z P S j).2) + (drpZ ((drvZ z P S j).1) t ((nI (P * (j + 1) / S)) - (nI (P * j / S)))))), (4, .int (nI (P * (j + 1) / S))), (5, .int (nI ((j + 1) + 1)))]) [4, 5, 6, 2, 1, 0] rfl ?_
        exact ih_8 (j + 1) (((drvZ z P S j).2) + (drpZ ((drvZ z P S j).1) t ((nI (P * (j + 1) / S)) - (nI (P * j / S))))) (nI (P * (j + 1) / S)) (secZ ((drvZ z P S j).1) c t ((nI (P * (j + 1) / S)) - (nI (P * j / S)))) (show (j + 1) ≤ S from by first | assumption | omega | rfl) (by rw [drvZ_s hz hc hzt ht]) rfl (by rw [drvZ_s hz hc hzt ht]) (by omega)
  refine V_locs (L2 := [(0, .ref h0), (1, .int (nI P)), (2, .int (nI S)), (3, .int 0), (4, .int 0), (5, .int 1)]) [3, 4, 5, 2, 1, 0] rfl ?_
  exact loop_8 (S - 0 + 1) 0 0 0 z (show 0 ≤ S from by first | assumption | omega | rfl) (show 0 = (drvZ z P S 0).2 from by first | assumption | omega | rfl) (by rw [Nat.mul_zero, Nat.zero_div]; rfl) (show z = (drvZ z P S 0).1 from by first | assumption | omega | rfl) (by omega)
set_option maxRecDepth 100000 in
set_option maxHeartbeats 4000000 in
theorem c_X10_record (g : Gd) (h0 : Nat) (h1 : Nat) (h2 : Nat) (h3 : Nat) (h4 : Nat) (h5 : Nat) (h6 : Nat) (h7 : Nat) (pm : Nat) (ty : Int32) (om : Int32) (sp : Int32) (wr : Int32) (z : Nat → Int32) (past : Nat → Int32) (hpm : pm ≤ 6) : Kv g yX10_record cX10_record 2 none 0 0 0 [.ref h0] [(h0, .inr (10, [.ref h1, .ref h2, .ref h3, .ref h4, .int (nI pm), .ref h5, .ref h6, .int ty, .ref h7, .int om, .int sp, .int wr])), (h1, .inl (gI g, 113, .inl z)), (h2, .inl (gI g, 678, .inl past))] (fun (w : va_W) => w = [(h0, .inr (10, [.ref h1, .ref h2, .ref h3, .ref h4, .int (nI (min (pm + 1) 6)), .ref h5, .ref h6, .int ty, .ref h7, .int om, .int sp, .int wr])), (h1, .inl (gI g, 113, .inl z)), (h2, .inl (gI g, 678, .inl (recP z past pm)))]) := by
  refine Kv.of (by decide) (Nat.le_of_ble_eq_true rfl) (fun X C hI hret => ?_)
  show V g X 0 0 [(h0, .inr (10, [.ref h1, .ref h2, .ref h3, .ref h4, .int (nI pm), .ref h5, .ref h6, .int ty, .ref h7, .int om, .int sp, .int wr])), (h1, .inl (gI g, 113, .inl z)), (h2, .inl (gI g, 678, .inl past))] 0 [(0, .ref h0)] []
  refine V_aload_n C 0 dX10_record_0 rfl rfl ?_
  refine V_get (v := .int (nI pm)) C 0 rfl rfl in_X10 4 (by decide) fl_X10_41 rfl rfl dX10_record_1 ?_
  refine V_bipush (v := 6) C dX10_record_4 (by decide) ?_
  refine V_icmp_ne (tgt := 49) C dX10_record_6 (by decide) (fun c_6 => ?_) (fun c_6 => ?_)
  · have hp7 : pm ≠ 6 := fun q => c_6 (by rw [q]; rfl)
    refine V_iconst (v := 0) C dX10_record_49 (by decide) ?_
    refine V_istore_n (L2 := [(1, .int 0), (0, .ref h0)]) C dX10_record_50 rfl (by decide) rfl ?_
    refine V_to (ws2 := [(h0, .inr (10, [.ref h1, .ref h2, .ref h3, .ref h4, .int (nI pm), .ref h5, .ref h6, .int ty, .ref h7, .int om, .int sp, .int wr])), (h1, .inl (gI g, 113, .inl z)), (h2, .inl (gI g, 678, .inl (cpO z past (pm * 113) 0)))]) ?_ (by rw [cpO_0])
    have loop_51 : ∀ (fu_51 : Nat) (j : Nat), j ≤ 113 → 113 - j < fu_51 → V g X 0 0 [(h0, .inr (10, [.ref h1, .ref h2, .ref h3, .ref h4, .int (nI pm), .ref h5, .ref h6, .int ty, .ref h7, .int om, .int sp, .int wr])), (h1, .inl (gI g, 113, .inl z)), (h2, .inl (gI g, 678, .inl (cpO z past (pm * 113) j)))] 51 [(0, .ref h0), (1, .int (nI j))] [] := by
      intro fu_51
      induction fu_51 with
      | zero => intro j hj hm; exact absurd hm (by omega)
      | succ fu_51 ih_51 =>
        intro j hj hm
        refine V_iload_n C 1 dX10_record_51 rfl rfl ?_
        refine V_bipush (v := 113) C dX10_record_52 (by decide) ?_
        refine V_icmp_ge (tgt := 83) C dX10_record_54 (by decide) (fun c_54 => ?_) (fun c_54 => ?_)
        · have hj3 : j = 113 := by have := lp_ge 113 rfl (by omega) (by omega) c_54; omega
          subst hj3
          refine V_aload_n C 0 dX10_record_83 rfl rfl ?_
          refine V_dup C dX10_record_84 rfl ?_
          refine V_get (v := .int (nI pm)) C 0 rfl rfl in_X10 4 (by decide) fl_X10_41 rfl rfl dX10_record_85 ?_
          refine V_iconst (v := 1) C dX10_record_88 (by decide) ?_
          refine V_iadd C dX10_record_89 ?_
          refine V_ev (show ((nI pm) + 1 : Int32) = nI (pm + 1) from nI_add pm 1) ?_
          refine V_put (ty := .int) (ws2 := [(h0, .inr (10, [.ref h1, .ref h2, .ref h3, .ref h4, .int (nI (pm + 1)), .ref h5, .ref h6, .int ty, .ref h7, .int om, .int sp, .int wr])), (h1, .inl (gI g, 113, .inl z)), (h2, .inl (gI g, 678, .inl (cpO z past (pm * 113) 113)))]) C 0 rfl rfl in_X10 tyX10 tyX10_ok nmX10 4 (by decide) fl_X10_41 rfl rfl (by decide +kernel) rfl rfl (Nat.le_of_ble_eq_true rfl) dX10_record_90 rfl ?_
          refine V_to (ws2 := [(h0, .inr (10, [.ref h1, .ref h2, .ref h3, .ref h4, .int (nI (min (pm + 1) 6)), .ref h5, .ref h6, .int ty, .ref h7, .int om, .int sp, .int wr])), (h1, .inl (gI g, 113, .inl z)), (h2, .inl (gI g, 678, .inl (recP z past pm)))]) ?_ (by rw [recP, if_neg (fun q => c_6 (by rw [q]; rfl)), Nat.min_eq_left (by omega)])
          refine hret _ _ _ dX10_record_93 ?_
          exact rfl
        · have hj3 : j < 113 := lp_lt 113 rfl (by omega) (by omega) c_54
          refine V_aload_n C 0 dX10_record_57 rfl rfl ?_
          refine V_get (v := .ref h2) C 0 rfl rfl in_X10 1 (by decide) fl_X10_13 rfl rfl dX10_record_58 ?_
          refine V_aload_n C 0 dX10_record_61 rfl rfl ?_
          refine V_get (v := .int (nI pm)) C 0 rfl rfl in_X10 4 (by decide) fl_X10_41 rfl rfl dX10_record_62 ?_
          refine V_bipush (v := 113) C dX10_record_65 (by decide) ?_
          refine V_imul C dX10_record_67 ?_
          refine V_ev (show ((nI pm) * 113 : Int32) = nI (pm * 113) from pk_mul pm 113) ?_
          refine V_iload_n C 1 dX10_record_68 rfl rfl ?_
          refine V_iadd C dX10_record_69 ?_
          refine V_ev (show ((nI (pm * 113)) + (nI j) : Int32) = nI ((pm * 113) + j) from nI_add (pm * 113) j) ?_
          refine V_aload_n C 0 dX10_record_70 rfl rfl ?_
          refine V_get (v := .ref h1) C 0 rfl rfl in_X10 0 (by decide) fl_X10_7 rfl rfl dX10_record_71 ?_
          refine V_iload_n C 1 dX10_record_74 rfl rfl ?_
          refine V_iald C 1 rfl (ix_nI (show j < 113 by omega) (by omega)) dX10_record_75 ?_
          refine V_iast (ws2 := [(h0, .inr (10, [.ref h1, .ref h2, .ref h3, .ref h4, .int (nI pm), .ref h5, .ref h6, .int ty, .ref h7, .int om, .int sp, .int wr])), (h1, .inl (gI g, 113, .inl z)), (h2, .inl (gI g, 678, .inl (upd (cpO z past (pm * 113) j) ((pm * 113) + j) (z j))))]) C 2 rfl (ix_nI (show (pm * 113) + j < 678 by omega) (by omega)) dX10_record_76 rfl ?_
          refine V_to (ws2 := [(h0, .inr (10, [.ref h1, .ref h2, .ref h3, .ref h4, .int (nI pm), .ref h5, .ref h6, .int ty, .ref h7, .int om, .int sp, .int wr])), (h1, .inl (gI g, 113, .inl z)), (h2, .inl (gI g, 678, .inl (cpO z past (pm * 113) (j + 1))))]) ?_ (by rw [← cpO_s])
          refine V_iinc (v := nI (j + 1)) (L2 := [(1, .int (nI (j + 1))), (0, .ref h0)]) C 1 dX10_record_77 rfl (nI_add j 1) (by decide) rfl ?_
          refine V_goto (tgt := 51) C dX10_record_80 (by decide) ?_
          refine V_locs (L2 := [(0, .ref h0), (1, .int (nI (j + 1)))]) [1, 0] rfl ?_
          exact ih_51 (j + 1) (show (j + 1) ≤ 113 from by first | assumption | omega | rfl) (by omega)
    refine V_locs (L2 := [(0, .ref h0), (1, .int 0)]) [1, 0] rfl ?_
    exact loop_51 (113 - 0 + 1) 0 (show 0 ≤ 113 from by first | assumption | omega | rfl) (by omega)
  · have hp6 : pm = 6 := (nI_eq (by omega) (by omega)).mp c_6
    subst hp6
    refine V_iconst (v := 0) C dX10_record_9 (by decide) ?_
    refine V_istore_n (L2 := [(1, .int 0), (0, .ref h0)]) C dX10_record_10 rfl (by decide) rfl ?_
    refine V_to (ws2 := [(h0, .inr (10, [.ref h1, .ref h2, .ref h3, .ref h4, .int (nI 6), .ref h5, .ref h6, .int ty, .ref h7, .int om, .int sp, .int wr])), (h1, .inl (gI g, 113, .inl z)), (h2, .inl (gI g, 678, .inl (shU past 0)))]) ?_ (by rw [shU_0])
    have loop_11 : ∀ (fu_11 : Nat) (j : Nat), j ≤ 565 → 565 - j < fu_11 → V g X 0 0 [(h0, .inr (10, [.ref h1, .ref h2, .ref h3, .ref h4, .int (nI 6), .ref h5, .ref h6, .int ty, .ref h7, .int om, .int sp, .int wr])), (h1, .inl (gI g, 113, .inl z)), (h2, .inl (gI g, 678, .inl (shU past j)))] 11 [(0, .ref h0), (1, .int (nI j))] [] := by
      intro fu_11
      induction fu_11 with
      | zero => intro j hj hm; exact absurd hm (by omega)
      | succ fu_11 ih_11 =>
        intro j hj hm
        refine V_iload_n C 1 dX10_record_11 rfl rfl ?_
        refine V_sipush (v := 565) C dX10_record_12 (by decide) ?_
        refine V_icmp_ge (tgt := 39) C dX10_record_15 (by decide) (fun c_15 => ?_) (fun c_15 => ?_)
        · have hj2 : j = 565 := by have := lp_ge 565 rfl (by omega) (by omega) c_15; omega
          subst hj2
          refine V_aload_n C 0 dX10_record_39 rfl rfl ?_
          refine V_dup C dX10_record_40 rfl ?_
          refine V_get (v := .int (nI 6)) C 0 rfl rfl in_X10 4 (by decide) fl_X10_41 rfl rfl dX10_record_41 ?_
          refine V_iconst (v := 1) C dX10_record_44 (by decide) ?_
          refine V_isub C dX10_record_45 ?_
          refine V_ev (show ((nI 6) - 1 : Int32) = nI 5 from by decide) ?_
          refine V_put (ty := .int) (ws2 := [(h0, .inr (10, [.ref h1, .ref h2, .ref h3, .ref h4, .int (nI 5), .ref h5, .ref h6, .int ty, .ref h7, .int om, .int sp, .int wr])), (h1, .inl (gI g, 113, .inl z)), (h2, .inl (gI g, 678, .inl (shU past 565)))]) C 0 rfl rfl in_X10 tyX10 tyX10_ok nmX10 4 (by decide) fl_X10_41 rfl rfl (by decide +kernel) rfl rfl (Nat.le_of_ble_eq_true rfl) dX10_record_46 rfl ?_
          refine V_iconst (v := 0) C dX10_record_49 (by decide) ?_
          refine V_istore_n (L2 := [(1, .int 0), (0, .ref h0)]) C dX10_record_50 rfl (by decide) rfl ?_
          refine V_to (ws2 := [(h0, .inr (10, [.ref h1, .ref h2, .ref h3, .ref h4, .int (nI 5), .ref h5, .ref h6, .int ty, .ref h7, .int om, .int sp, .int wr])), (h1, .inl (gI g, 113, .inl z)), (h2, .inl (gI g, 678, .inl (cpO z (shU past 565) (5 * 113) 0)))]) ?_ (by rw [cpO_0])
          have loop_51 : ∀ (fu_51 : Nat) (j : Nat), j ≤ 113 → 113 - j < fu_51 → V g X 0 0 [(h0, .inr (10, [.ref h1, .ref h2, .ref h3, .ref h4, .int (nI 5), .ref h5, .ref h6, .int ty, .ref h7, .int om, .int sp, .int wr])), (h1, .inl (gI g, 113, .inl z)), (h2, .inl (gI g, 678, .inl (cpO z (shU past 565) (5 * 113) j)))] 51 [(0, .ref h0), (1, .int (nI j))] [] := by
            intro fu_51
            induction fu_51 with
            | zero => intro j hj hm; exact absurd hm (by omega)
            | succ fu_51 ih_51 =>
              intro j hj hm
              refine V_iload_n C 1 dX10_record_51 rfl rfl ?_
              refine V_bipush (v := 113) C dX10_record_52 (by decide) ?_
              refine V_icmp_ge (tgt := 83) C dX10_record_54 (by decide) (fun c_54 => ?_) (fun c_54 => ?_)
              · have hj3 : j = 113 := by have := lp_ge 113 rfl (by omega) (by omega) c_54; omega
                subst hj3
                refine V_aload_n C 0 dX10_record_83 rfl rfl ?_
                refine V_dup C dX10_record_84 rfl ?_
                refine V_get (v := .int (nI 5)) C 0 rfl rfl in_X10 4 (by decide) fl_X10_41 rfl rfl dX10_record_85 ?_
                refine V_iconst (v := 1) C dX10_record_88 (by decide) ?_
                refine V_iadd C dX10_record_89 ?_
                refine V_ev (show ((nI 5) + 1 : Int32) = nI (5 + 1) from nI_add 5 1) ?_
                refine V_put (ty := .int) (ws2 := [(h0, .inr (10, [.ref h1, .ref h2, .ref h3, .ref h4, .int (nI (5 + 1)), .ref h5, .ref h6, .int ty, .ref h7, .int om, .int sp, .int wr])), (h1, .inl (gI g, 113, .inl z)), (h2, .inl (gI g, 678, .inl (cpO z (shU past 565) (5 * 113) 113)))]) C 0 rfl rfl in_X10 tyX10 tyX10_ok nmX10 4 (by decide) fl_X10_41 rfl rfl (by decide +kernel) rfl rfl (Nat.le_of_ble_eq_true rfl) dX10_record_90 rfl ?_
                refine V_to (ws2 := [(h0, .inr (10, [.ref h1, .ref h2, .ref h3, .ref h4, .int (nI (min (6 + 1) 6)), .ref h5, .ref h6, .int ty, .ref h7, .int om, .int sp, .int wr])), (h1, .inl (gI g, 113, .inl z)), (h2, .inl (gI g, 678, .inl (recP z past 6)))]) ?_ (by rw [recP, if_pos rfl]; rfl)
                refine hret _ _ _ dX10_record_93 ?_
                exact rfl
              · have hj3 : j < 113 := lp_lt 113 rfl (by omega) (by omega) c_54
                refine V_aload_n C 0 dX10_record_57 rfl rfl ?_
                refine V_get (v := .ref h2) C 0 rfl rfl in_X10 1 (by decide) fl_X10_13 rfl rfl dX10_record_58 ?_
                refine V_aload_n C 0 dX10_record_61 rfl rfl ?_
                refine V_get (v := .int (nI 5)) C 0 rfl rfl in_X10 4 (by decide) fl_X10_41 rfl rfl dX10_record_62 ?_
                refine V_bipush (v := 113) C dX10_record_65 (by decide) ?_
                refine V_imul C dX10_record_67 ?_
                refine V_ev (show ((nI 5) * 113 : Int32) = nI (5 * 113) from pk_mul 5 113) ?_
                refine V_iload_n C 1 dX10_record_68 rfl rfl ?_
                refine V_iadd C dX10_record_69 ?_
                refine V_ev (show ((nI (5 * 113)) + (nI j) : Int32) = nI ((5 * 113) + j) from nI_add (5 * 113) j) ?_
                refine V_aload_n C 0 dX10_record_70 rfl rfl ?_
                refine V_get (v := .ref h1) C 0 rfl rfl in_X10 0 (by decide) fl_X10_7 rfl rfl dX10_record_71 ?_
                refine V_iload_n C 1 dX10_record_74 rfl rfl ?_
                refine V_iald C 1 rfl (ix_nI (show j < 113 by omega) (by omega)) dX10_record_75 ?_
                refine V_iast (ws2 := [(h0, .inr (10, [.ref h1, .ref h2, .ref h3, .ref h4, .int (nI 5), .ref h5, .ref h6, .int ty, .ref h7, .int om, .int sp, .int wr])), (h1, .inl (gI g, 113, .inl z)), (h2, .inl (gI g, 678, .inl (upd (cpO z (shU past 565) (5 * 113) j) ((5 * 113) + j) (z j))))]) C 2 rfl (ix_nI (show (5 * 113) + j < 678 by omega) (by omega)) dX10_record_76 rfl ?_
                refine V_to (ws2 := [(h0, .inr (10, [.ref h1, .ref h2, .ref h3, .ref h4, .int (nI 5), .ref h5, .ref h6, .int ty, .ref h7, .int om, .int sp, .int wr])), (h1, .inl (gI g, 113, .inl z)), (h2, .inl (gI g, 678, .inl (cpO z (shU past 565) (5 * 113) (j + 1))))]) ?_ (by rw [← cpO_s])
                refine V_iinc (v := nI (j + 1)) (L2 := [(1, .int (nI (j + 1))), (0, .ref h0)]) C 1 dX10_record_77 rfl (nI_add j 1) (by decide) rfl ?_
                refine V_goto (tgt := 51) C dX10_record_80 (by decide) ?_
                refine V_locs (L2 := [(0, .ref h0), (1, .int (nI (j + 1)))]) [1, 0] rfl ?_
                exact ih_51 (j + 1) (show (j + 1) ≤ 113 from by first | assumption | omega | rfl) (by omega)
          refine V_locs (L2 := [(0, .ref h0), (1, .int 0)]) [1, 0] rfl ?_
          exact loop_51 (113 - 0 + 1) 0 (show 0 ≤ 113 from by first | assumption | omega | rfl) (by omega)
        · have hj2 : j < 565 := lp_lt 565 rfl (by omega) (by omega) c_15
          refine V_aload_n C 0 dX10_record_18 rfl rfl ?_
          refine V_get (v := .ref h2) C 0 rfl rfl in_X10 1 (by decide) fl_X10_13 rfl rfl dX10_record_19 ?_
          refine V_iload_n C 1 dX10_record_22 rfl rfl ?_
          refine V_aload_n C 0 dX10_record_23 rfl rfl ?_
          refine V_get (v := .ref h2) C 0 rfl rfl in_X10 1 (by decide) fl_X10_13 rfl rfl dX10_record_24 ?_
          refine V_iload_n C 1 dX10_record_27 rfl rfl ?_
          refine V_bipush (v := 113) C dX10_record_28 (by decide) ?_
          refine V_iadd C dX10_record_30 ?_
          refine V_ev (show ((nI j) + 113 : Int32) = nI (j + 113) from nI_add j 113) ?_
          refine V_iald C 2 rfl (ix_nI (show j + 113 < 678 by omega) (by omega)) dX10_record_31 ?_
          refine V_ev (show ((shU past j) (j + 113) : Int32) = past (j + 113) from shU_r) ?_
          refine V_iast (ws2 := [(h0, .inr (10, [.ref h1, .ref h2, .ref h3, .ref h4, .int (nI 6), .ref h5, .ref h6, .int ty, .ref h7, .int om, .int sp, .int wr])), (h1, .inl (gI g, 113, .inl z)), (h2, .inl (gI g, 678, .inl (upd (shU past j) j (past (j + 113)))))]) C 2 rfl (ix_nI (show j < 678 by omega) (by omega)) dX10_record_32 rfl ?_
          refine V_to (ws2 := [(h0, .inr (10, [.ref h1, .ref h2, .ref h3, .ref h4, .int (nI 6), .ref h5, .ref h6, .int ty, .ref h7, .int om, .int sp, .int wr])), (h1, .inl (gI g, 113, .inl z)), (h2, .inl (gI g, 678, .inl (shU past (j + 1))))]) ?_ (by rw [← shU_s])
          refine V_iinc (v := nI (j + 1)) (L2 := [(1, .int (nI (j + 1))), (0, .ref h0)]) C 1 dX10_record_33 rfl (nI_add j 1) (by decide) rfl ?_
          refine V_goto (tgt := 11) C dX10_record_36 (by decide) ?_
          refine V_locs (L2 := [(0, .ref h0), (1, .int (nI (j + 1)))]) [1, 0] rfl ?_
          exact ih_11 (j + 1) (show (j + 1) ≤ 565 from by first | assumption | omega | rfl) (by omega)
    refine V_locs (L2 := [(0, .ref h0), (1, .int 0)]) [1, 0] rfl ?_
    exact loop_11 (565 - 0 + 1) 0 (show 0 ≤ 565 from by first | assumption | omega | rfl) (by omega)
set_option maxRecDepth 100000 in
set_option maxHeartbeats 4000000 in
theorem c_X10_undo (g : Gd) (h0 : Nat) (h1 : Nat) (h2 : Nat) (h3 : Nat) (h4 : Nat) (h5 : Nat) (h6 : Nat) (h7 : Nat) (pm : Nat) (ty : Int32) (om : Int32) (sp : Int32) (wr : Int32) (z : Nat → Int32) (past : Nat → Int32) (hpm : pm ≤ 6) : Ki g yX10_undo cX10_undo 2 (some .int) 0 0 0 [.ref h0] [(h0, .inr (10, [.ref h1, .ref h2, .ref h3, .ref h4, .int (nI pm), .ref h5, .ref h6, .int ty, .ref h7, .int om, .int sp, .int wr])), (h1, .inl (gI g, 113, .inl z)), (h2, .inl (gI g, 678, .inl past))] (fun (r : Int32) (w : va_W) => (pm = 0 ∧ r = (-5) ∧ w = [(h0, .inr (10, [.ref h1, .ref h2, .ref h3, .ref h4, .int (nI pm), .ref h5, .ref h6, .int ty, .ref h7, .int om, .int sp, .int wr])), (h1, .inl (gI g, 113, .inl z)), (h2, .inl (gI g, 678, .inl past))]) ∨ (¬ pm = 0 ∧ r = nI (pm - 1) ∧ w = [(h0, .inr (10, [.ref h1, .ref h2, .ref h3, .ref h4, .int (nI (pm - 1)), .ref h5, .ref h6, .int ty, .ref h7, .int om, .int sp, .int wr])), (h1, .inl (gI g, 113, .inl (fun k => past ((pm - 1) * 113 + k)))), (h2, .inl (gI g, 678, .inl past))])) := by
  refine Ki.of (by decide) (Nat.le_of_ble_eq_true rfl) (fun X C hI hret => ?_)
  show V g X 0 0 [(h0, .inr (10, [.ref h1, .ref h2, .ref h3, .ref h4, .int (nI pm), .ref h5, .ref h6, .int ty, .ref h7, .int om, .int sp, .int wr])), (h1, .inl (gI g, 113, .inl z)), (h2, .inl (gI g, 678, .inl past))] 0 [(0, .ref h0)] []
  refine V_aload_n C 0 dX10_undo_0 rfl rfl ?_
  refine V_get (v := .int (nI pm)) C 0 rfl rfl in_X10 4 (by decide) fl_X10_41 rfl rfl dX10_undo_1 ?_
  refine V_if_ne (tgt := 10) C dX10_undo_4 (by decide) (fun c_4 => ?_) (fun c_4 => ?_)
  · have hp0 : ¬ pm = 0 := fun q => c_4 (by rw [q]; rfl)
    refine V_aload_n C 0 dX10_undo_10 rfl rfl ?_
    refine V_dup C dX10_undo_11 rfl ?_
    refine V_get (v := .int (nI pm)) C 0 rfl rfl in_X10 4 (by decide) fl_X10_41 rfl rfl dX10_undo_12 ?_
    refine V_iconst (v := 1) C dX10_undo_15 (by decide) ?_
    refine V_isub C dX10_undo_16 ?_
    refine V_ev (show ((nI pm) - 1 : Int32) = nI (pm - 1) from pk_sub (b := 1) (by omega)) ?_
    refine V_put (ty := .int) (ws2 := [(h0, .inr (10, [.ref h1, .ref h2, .ref h3, .ref h4, .int (nI (pm - 1)), .ref h5, .ref h6, .int ty, .ref h7, .int om, .int sp, .int wr])), (h1, .inl (gI g, 113, .inl z)), (h2, .inl (gI g, 678, .inl past))]) C 0 rfl rfl in_X10 tyX10 tyX10_ok nmX10 4 (by decide) fl_X10_41 rfl rfl (by decide +kernel) rfl rfl (Nat.le_of_ble_eq_true rfl) dX10_undo_17 rfl ?_
    refine V_iconst (v := 0) C dX10_undo_20 (by decide) ?_
    refine V_istore_n (L2 := [(1, .int 0), (0, .ref h0)]) C dX10_undo_21 rfl (by decide) rfl ?_
    refine V_to (ws2 := [(h0, .inr (10, [.ref h1, .ref h2, .ref h3, .ref h4, .int (nI (pm - 1)), .ref h5, .ref h6, .int ty, .ref h7, .int om, .int sp, .int wr])), (h1, .inl (gI g, 113, .inl (cpI past z ((pm - 1) * 113) 0))), (h2, .inl (gI g, 678, .inl past))]) ?_ (by rw [cpI_0])
    have loop_22 : ∀ (fu_22 : Nat) (j : Nat), j ≤ 113 → 113 - j < fu_22 → V g X 0 0 [(h0, .inr (10, [.ref h1, .ref h2, .ref h3, .ref h4, .int (nI (pm - 1)), .ref h5, .ref h6, .int ty, .ref h7, .int om, .int sp, .int wr])), (h1, .inl (gI g, 113, .inl (cpI past z ((pm - 1) * 113) j))), (h2, .inl (gI g, 678, .inl past))] 22 [(0, .ref h0), (1, .int (nI j))] [] := by
      intro fu_22
      induction fu_22 with
      | zero => intro j hj hm; exact absurd hm (by omega)
      | succ fu_22 ih_22 =>
        intro j hj hm
        refine V_iload_n C 1 dX10_undo_22 rfl rfl ?_
        refine V_bipush (v := 113) C dX10_undo_23 (by decide) ?_
        refine V_icmp_ge (tgt := 54) C dX10_undo_25 (by decide) (fun c_25 => ?_) (fun c_25 => ?_)
        · have hj2 : j = 113 := by have := lp_ge 113 rfl (by omega) (by omega) c_25; omega
          subst hj2
          refine V_ext (f2 := fun k => past ((pm - 1) * 113 + k)) (ws2 := [(h0, .inr (10, [.ref h1, .ref h2, .ref h3, .ref h4, .int (nI (pm - 1)), .ref h5, .ref h6, .int ty, .ref h7, .int om, .int sp, .int wr])), (h1, .inl (gI g, 113, .inl (fun k => past ((pm - 1) * 113 + k)))), (h2, .inl (gI g, 678, .inl past))]) 1 rfl (fun k hk => by rw [cpI_e k hk]) rfl ?_
          refine V_aload_n C 0 dX10_undo_54 rfl rfl ?_
          refine V_get (v := .int (nI (pm - 1))) C 0 rfl rfl in_X10 4 (by decide) fl_X10_41 rfl rfl dX10_undo_55 ?_
          refine hret _ _ _ _ dX10_undo_58 ?_
          exact Or.inr ⟨fun q => c_4 (by rw [q]; rfl), rfl, rfl⟩
        · have hj2 : j < 113 := lp_lt 113 rfl (by omega) (by omega) c_25
          refine V_aload_n C 0 dX10_undo_28 rfl rfl ?_
          refine V_get (v := .ref h1) C 0 rfl rfl in_X10 0 (by decide) fl_X10_7 rfl rfl dX10_undo_29 ?_
          refine V_iload_n C 1 dX10_undo_32 rfl rfl ?_
          refine V_aload_n C 0 dX10_undo_33 rfl rfl ?_
          refine V_get (v := .ref h2) C 0 rfl rfl in_X10 1 (by decide) fl_X10_13 rfl rfl dX10_undo_34 ?_
          refine V_aload_n C 0 dX10_undo_37 rfl rfl ?_
          refine V_get (v := .int (nI (pm - 1))) C 0 rfl rfl in_X10 4 (by decide) fl_X10_41 rfl rfl dX10_undo_38 ?_
          refine V_bipush (v := 113) C dX10_undo_41 (by decide) ?_
          refine V_imul C dX10_undo_43 ?_
          refine V_ev (show ((nI (pm - 1)) * 113 : Int32) = nI ((pm - 1) * 113) from pk_mul (pm - 1) 113) ?_
          refine V_iload_n C 1 dX10_undo_44 rfl rfl ?_
          refine V_iadd C dX10_undo_45 ?_
          refine V_ev (show ((nI ((pm - 1) * 113)) + (nI j) : Int32) = nI (((pm - 1) * 113) + j) from nI_add ((pm - 1) * 113) j) ?_
          refine V_iald C 2 rfl (ix_nI (show ((pm - 1) * 113) + j < 678 by omega) (by omega)) dX10_undo_46 ?_
          refine V_iast (ws2 := [(h0, .inr (10, [.ref h1, .ref h2, .ref h3, .ref h4, .int (nI (pm - 1)), .ref h5, .ref h6, .int ty, .ref h7, .int om, .int sp, .int wr])), (h1, .inl (gI g, 113, .inl (upd (cpI past z ((pm - 1) * 113) j) j (past (((pm - 1) * 113) + j))))), (h2, .inl (gI g, 678, .inl past))]) C 1 rfl (ix_nI (show j < 113 by omega) (by omega)) dX10_undo_47 rfl ?_
          refine V_to (ws2 := [(h0, .inr (10, [.ref h1, .ref h2, .ref h3, .ref h4, .int (nI (pm - 1)), .ref h5, .ref h6, .int ty, .ref h7, .int om, .int sp, .int wr])), (h1, .inl (gI g, 113, .inl (cpI past z ((pm - 1) * 113) (j + 1)))), (h2, .inl (gI g, 678, .inl past))]) ?_ (by rw [← cpI_s])
          refine V_iinc (v := nI (j + 1)) (L2 := [(1, .int (nI (j + 1))), (0, .ref h0)]) C 1 dX10_undo_48 rfl (nI_add j 1) (by decide) rfl ?_
          refine V_goto (tgt := 22) C dX10_undo_51 (by decide) ?_
          refine V_locs (L2 := [(0, .ref h0), (1, .int (nI (j + 1)))]) [1, 0] rfl ?_
          exact ih_22 (j + 1) (show (j + 1) ≤ 113 from by first | assumption | omega | rfl) (by omega)
    refine V_locs (L2 := [(0, .ref h0), (1, .int 0)]) [1, 0] rfl ?_
    exact loop_22 (113 - 0 + 1) 0 (show 0 ≤ 113 from by first | assumption | omega | rfl) (by omega)
  · refine V_bipush (v := (-5)) C dX10_undo_7 (by decide) ?_
    refine hret _ _ _ _ dX10_undo_9 ?_
    exact Or.inl ⟨(nI_eq (b := 0) (by omega) (by omega)).mp c_4, rfl, rfl⟩
set_option maxRecDepth 100000 in
set_option maxHeartbeats 4000000 in
theorem c_X10_save (g : Gd) (h0 : Nat) (h1 : Nat) (h2 : Nat) (h3 : Nat) (h4 : Nat) (h5 : Nat) (h6 : Nat) (h7 : Nat) (pm : Int32) (ty : Int32) (om : Int32) (sp : Int32) (wr : Int32) (z : Nat → Int32) (sl : Nat → Int32) (sv : Nat → Int32) (s0 : Int32)  : Ki g yX10_save cX10_save 3 (some .int) 1 0 0 [.ref h0, .int s0] [(h0, .inr (10, [.ref h1, .ref h2, .ref h3, .ref h4, .int pm, .ref h5, .ref h6, .int ty, .ref h7, .int om, .int sp, .int wr])), (h1, .inl (gI g, 113, .inl z)), (h3, .inl (gI g, 226, .inl sl)), (h4, .inl (gZ g, 2, .inl sv))] (fun (r : Int32) (w : va_W) => (¬ ok1 s0 ∧ r = (-2) ∧ w = [(h0, .inr (10, [.ref h1, .ref h2, .ref h3, .ref h4, .int pm, .ref h5, .ref h6, .int ty, .ref h7, .int om, .int sp, .int wr])), (h1, .inl (gI g, 113, .inl z)), (h3, .inl (gI g, 226, .inl sl)), (h4, .inl (gZ g, 2, .inl sv))]) ∨ (∃ (q : Nat), q < 2 ∧ s0 = nI q ∧ r = z 50 ∧ w = [(h0, .inr (10, [.ref h1, .ref h2, .ref h3, .ref h4, .int pm, .ref h5, .ref h6, .int ty, .ref h7, .int om, .int sp, .int wr])), (h1, .inl (gI g, 113, .inl z)), (h3, .inl (gI g, 226, .inl (cpO z sl (q * 113) 113))), (h4, .inl (gZ g, 2, .inl (upd sv q 1)))])) := by
  refine Ki.of (by decide) (Nat.le_of_ble_eq_true rfl) (fun X C hI hret => ?_)
  show V g X 0 0 [(h0, .inr (10, [.ref h1, .ref h2, .ref h3, .ref h4, .int pm, .ref h5, .ref h6, .int ty, .ref h7, .int om, .int sp, .int wr])), (h1, .inl (gI g, 113, .inl z)), (h3, .inl (gI g, 226, .inl sl)), (h4, .inl (gZ g, 2, .inl sv))] 0 [(0, .ref h0), (1, .int s0)] []
  refine V_iload_n C 1 dX10_save_0 rfl rfl ?_
  refine V_iconst (v := 0) C dX10_save_1 (by decide) ?_
  refine V_iconst (v := 1) C dX10_save_2 (by decide) ?_
  refine V_callSi (na := 3) (As := [.int s0, .int 0, .int 1]) (rest := []) (wr := [(h0, .inr (10, [.ref h1, .ref h2, .ref h3, .ref h4, .int pm, .ref h5, .ref h6, .int ty, .ref h7, .int om, .int sp, .int wr])), (h1, .inl (gI g, 113, .inl z)), (h3, .inl (gI g, 226, .inl sl)), (h4, .inl (gZ g, 2, .inl sv))]) C (c_X10_in g s0 0 1 ) ⟨⟨ini_X10, co_X10_in, ⟨by decide, by decide, by decide +kernel⟩, by decide⟩, ml_X10_33, sm_X10_in⟩ [] [0, 1, 2, 3] rfl rfl rfl rfl (by decide) rfl rfl (Nat.le_of_ble_eq_true rfl) (by omega) (by omega) dX10_save_3 (fun r_1 w_ hw_2 => ?_)
  rcases hw_2 with ⟨hf2_0, hf2_1, rfl, rfl⟩ | ⟨hf2_0, rfl, rfl⟩
  · refine V_to (ws2 := [(h0, .inr (10, [.ref h1, .ref h2, .ref h3, .ref h4, .int pm, .ref h5, .ref h6, .int ty, .ref h7, .int om, .int sp, .int wr])), (h1, .inl (gI g, 113, .inl z)), (h3, .inl (gI g, 226, .inl sl)), (h4, .inl (gZ g, 2, .inl sv))]) ?_ rfl
    refine V_if_ne (tgt := 12) C dX10_save_6 (by decide) (fun _ => ?_) (fun h => absurd h (by decide))
    obtain ⟨q, -, hq, rfl⟩ := rg_nI 0 1 rfl rfl (by omega) (by omega) hf2_0 hf2_1
    refine V_aload_n C 0 dX10_save_12 rfl rfl ?_
    refine V_get (v := .ref h4) C 0 rfl rfl in_X10 3 (by decide) fl_X10_19 rfl rfl dX10_save_13 ?_
    refine V_iload_n C 1 dX10_save_16 rfl rfl ?_
    refine V_iconst (v := 1) C dX10_save_17 (by decide) ?_
    refine V_zast (ws2 := [(h0, .inr (10, [.ref h1, .ref h2, .ref h3, .ref h4, .int pm, .ref h5, .ref h6, .int ty, .ref h7, .int om, .int sp, .int wr])), (h1, .inl (gI g, 113, .inl z)), (h3, .inl (gI g, 226, .inl sl)), (h4, .inl (gZ g, 2, .inl (upd sv q (vp_nar .boolean 1))))]) C 3 rfl (ix_nI (show q < 2 by omega) (by omega)) dX10_save_18 rfl ?_
    refine V_to (ws2 := [(h0, .inr (10, [.ref h1, .ref h2, .ref h3, .ref h4, .int pm, .ref h5, .ref h6, .int ty, .ref h7, .int om, .int sp, .int wr])), (h1, .inl (gI g, 113, .inl z)), (h3, .inl (gI g, 226, .inl sl)), (h4, .inl (gZ g, 2, .inl (upd sv q 1)))]) ?_ rfl
    refine V_iconst (v := 0) C dX10_save_19 (by decide) ?_
    refine V_istore_n (L2 := [(2, .int 0), (0, .ref h0), (1, .int (nI q))]) C dX10_save_20 rfl (by decide) rfl ?_
    refine V_to (ws2 := [(h0, .inr (10, [.ref h1, .ref h2, .ref h3, .ref h4, .int pm, .ref h5, .ref h6, .int ty, .ref h7, .int om, .int sp, .int wr])), (h1, .inl (gI g, 113, .inl z)), (h3, .inl (gI g, 226, .inl (cpO z sl (q * 113) 0))), (h4, .inl (gZ g, 2, .inl (upd sv q 1)))]) ?_ (by rw [cpO_0])
    have loop_21 : ∀ (fu_21 : Nat) (j : Nat), j ≤ 113 → 113 - j < fu_21 → V g X 0 0 [(h0, .inr (10, [.ref h1, .ref h2, .ref h3, .ref h4, .int pm, .ref h5, .ref h6, .int ty, .ref h7, .int om, .int sp, .int wr])), (h1, .inl (gI g, 113, .inl z)), (h3, .inl (gI g, 226, .inl (cpO z sl (q * 113) j))), (h4, .inl (gZ g, 2, .inl (upd sv q 1)))] 21 [(0, .ref h0), (1, .int (nI q)), (2, .int (nI j))] [] := by
      intro fu_21
      induction fu_21 with
      | zero => intro j hj hm; exact absurd hm (by omega)
      | succ fu_21 ih_21 =>
        intro j hj hm
        refine V_iload_n C 2 dX10_save_21 rfl rfl ?_
        refine V_bipush (v := 113) C dX10_save_22 (by decide) ?_
        refine V_icmp_ge (tgt := 50) C dX10_save_24 (by decide) (fun c_24 => ?_) (fun c_24 => ?_)
        · have hj2 : j = 113 := by have := lp_ge 113 rfl (by omega) (by omega) c_24; omega
          subst hj2
          refine V_aload_n C 0 dX10_save_50 rfl rfl ?_
          refine V_get (v := .ref h1) C 0 rfl rfl in_X10 0 (by decide) fl_X10_7 rfl rfl dX10_save_51 ?_
          refine V_bipush (v := 50) C dX10_save_54 (by decide) ?_
          refine V_iald C 1 rfl (show ix 50 50 113 from ix_nI (k := 50) (by omega) (by omega)) dX10_save_56 ?_
          refine hret _ _ _ _ dX10_save_57 ?_
          exact Or.inr ⟨q, by omega, rfl, rfl, rfl⟩
        · have hj2 : j < 113 := lp_lt 113 rfl (by omega) (by omega) c_24
          refine V_aload_n C 0 dX10_save_27 rfl rfl ?_
          refine V_get (v := .ref h3) C 0 rfl rfl in_X10 2 (by decide) fl_X10_16 rfl rfl dX10_save_28 ?_
          refine V_iload_n C 1 dX10_save_31 rfl rfl ?_
          refine V_bipush (v := 113) C dX10_save_32 (by decide) ?_
          refine V_imul C dX10_save_34 ?_
          refine V_ev (show ((nI q) * 113 : Int32) = nI (q * 113) from pk_mul q 113) ?_
          refine V_iload_n C 2 dX10_save_35 rfl rfl ?_
          refine V_iadd C dX10_save_36 ?_
          refine V_ev (show ((nI (q * 113)) + (nI j) : Int32) = nI ((q * 113) + j) from nI_add (q * 113) j) ?_
          refine V_aload_n C 0 dX10_save_37 rfl rfl ?_
          refine V_get (v := .ref h1) C 0 rfl rfl in_X10 0 (by decide) fl_X10_7 rfl rfl dX10_save_38 ?_
          refine V_iload_n C 2 dX10_save_41 rfl rfl ?_
          refine V_iald C 1 rfl (ix_nI (show j < 113 by omega) (by omega)) dX10_save_42 ?_
          refine V_iast (ws2 := [(h0, .inr (10, [.ref h1, .ref h2, .ref h3, .ref h4, .int pm, .ref h5, .ref h6, .int ty, .ref h7, .int om, .int sp, .int wr])), (h1, .inl (gI g, 113, .inl z)), (h3, .inl (gI g, 226, .inl (upd (cpO z sl (q * 113) j) ((q * 113) + j) (z j)))), (h4, .inl (gZ g, 2, .inl (upd sv q 1)))]) C 2 rfl (ix_nI (show (q * 113) + j < 226 by omega) (by omega)) dX10_save_43 rfl ?_
          refine V_to (ws2 := [(h0, .inr (10, [.ref h1, .ref h2, .ref h3, .ref h4, .int pm, .ref h5, .ref h6, .int ty, .ref h7, .int om, .int sp, .int wr])), (h1, .inl (gI g, 113, .inl z)), (h3, .inl (gI g, 226, .inl (cpO z sl (q * 113) (j + 1)))), (h4, .inl (gZ g, 2, .inl (upd sv q 1)))]) ?_ (by rw [← cpO_s])
          refine V_iinc (v := nI (j + 1)) (L2 := [(2, .int (nI (j + 1))), (0, .ref h0), (1, .int (nI q))]) C 2 dX10_save_44 rfl (nI_add j 1) (by decide) rfl ?_
          refine V_goto (tgt := 21) C dX10_save_47 (by decide) ?_
          refine V_locs (L2 := [(0, .ref h0), (1, .int (nI q)), (2, .int (nI (j + 1)))]) [1, 2, 0] rfl ?_
          exact ih_21 (j + 1) (show (j + 1) ≤ 113 from by first | assumption | omega | rfl) (by omega)
    refine V_locs (L2 := [(0, .ref h0), (1, .int (nI q)), (2, .int 0)]) [1, 2, 0] rfl ?_
    exact loop_21 (113 - 0 + 1) 0 (show 0 ≤ 113 from by first | assumption | omega | rfl) (by omega)
  · refine V_to (ws2 := [(h0, .inr (10, [.ref h1, .ref h2, .ref h3, .ref h4, .int pm, .ref h5, .ref h6, .int ty, .ref h7, .int om, .int sp, .int wr])), (h1, .inl (gI g, 113, .inl z)), (h3, .inl (gI g, 226, .inl sl)), (h4, .inl (gZ g, 2, .inl sv))]) ?_ rfl
    refine V_if_ne (tgt := 12) C dX10_save_6 (by decide) (fun h => absurd rfl h) (fun _ => ?_)
    refine V_bipush (v := (-2)) C dX10_save_9 (by decide) ?_
    refine hret _ _ _ _ dX10_save_11 ?_
    exact Or.inl ⟨fun h => (hf2_0).elim h.1 h.2, rfl, rfl⟩
set_option maxRecDepth 100000 in
set_option maxHeartbeats 4000000 in
theorem c_X10_restore (g : Gd) (h0 : Nat) (h1 : Nat) (h2 : Nat) (h3 : Nat) (h4 : Nat) (h5 : Nat) (h6 : Nat) (h7 : Nat) (pm : Nat) (ty : Int32) (om : Int32) (sp : Int32) (wr : Int32) (z : Nat → Int32) (past : Nat → Int32) (sl : Nat → Int32) (sv : Nat → Int32) (s0 : Int32) (hpm : pm ≤ 6) : Ki g yX10_restore cX10_restore 3 (some .int) 1 0 0 [.ref h0, .int s0] [(h0, .inr (10, [.ref h1, .ref h2, .ref h3, .ref h4, .int (nI pm), .ref h5, .ref h6, .int ty, .ref h7, .int om, .int sp, .int wr])), (h1, .inl (gI g, 113, .inl z)), (h2, .inl (gI g, 678, .inl past)), (h3, .inl (gI g, 226, .inl sl)), (h4, .inl (gZ g, 2, .inl sv))] (fun (r : Int32) (w : va_W) => (¬ ok1 s0 ∧ r = (-2) ∧ w = [(h0, .inr (10, [.ref h1, .ref h2, .ref h3, .ref h4, .int (nI pm), .ref h5, .ref h6, .int ty, .ref h7, .int om, .int sp, .int wr])), (h1, .inl (gI g, 113, .inl z)), (h2, .inl (gI g, 678, .inl past)), (h3, .inl (gI g, 226, .inl sl)), (h4, .inl (gZ g, 2, .inl sv))]) ∨ (∃ (q : Nat), q < 2 ∧ s0 = nI q ∧ sv q = 0 ∧ r = (-5) ∧ w = [(h0, .inr (10, [.ref h1, .ref h2, .ref h3, .ref h4, .int (nI pm), .ref h5, .ref h6, .int ty, .ref h7, .int om, .int sp, .int wr])), (h1, .inl (gI g, 113, .inl z)), (h2, .inl (gI g, 678, .inl past)), (h3, .inl (gI g, 226, .inl sl)), (h4, .inl (gZ g, 2, .inl sv))]) ∨ (∃ (q : Nat), q < 2 ∧ s0 = nI q ∧ ¬ sv q = 0 ∧ r = sl (q * 113 + 50) ∧ w = [(h0, .inr (10, [.ref h1, .ref h2, .ref h3, .ref h4, .int (nI (min (pm + 1) 6)), .ref h5, .ref h6, .int ty, .ref h7, .int om, .int sp, .int wr])), (h1, .inl (gI g, 113, .inl (fun k => sl (q * 113 + k)))), (h2, .inl (gI g, 678, .inl (recP z past pm))), (h3, .inl (gI g, 226, .inl sl)), (h4, .inl (gZ g, 2, .inl sv))])) := by
  refine Ki.of (by decide) (Nat.le_of_ble_eq_true rfl) (fun X C hI hret => ?_)
  show V g X 0 0 [(h0, .inr (10, [.ref h1, .ref h2, .ref h3, .ref h4, .int (nI pm), .ref h5, .ref h6, .int ty, .ref h7, .int om, .int sp, .int wr])), (h1, .inl (gI g, 113, .inl z)), (h2, .inl (gI g, 678, .inl past)), (h3, .inl (gI g, 226, .inl sl)), (h4, .inl (gZ g, 2, .inl sv))] 0 [(0, .ref h0), (1, .int s0)] []
  refine V_iload_n C 1 dX10_restore_0 rfl rfl ?_
  refine V_iconst (v := 0) C dX10_restore_1 (by decide) ?_
  refine V_iconst (v := 1) C dX10_restore_2 (by decide) ?_
  refine V_callSi (na := 3) (As := [.int s0, .int 0, .int 1]) (rest := []) (wr := [(h0, .inr (10, [.ref h1, .ref h2, .ref h3, .ref h4, .int (nI pm), .ref h5, .ref h6, .int ty, .ref h7, .int om, .int sp, .int wr])), (h1, .inl (gI g, 113, .inl z)), (h2, .inl (gI g, 678, .inl past)), (h3, .inl (gI g, 226, .inl sl)), (h4, .inl (gZ g, 2, .inl sv))]) C (c_X10_in g s0 0 1 ) ⟨⟨ini_X10, co_X10_in, ⟨by decide, by decide, by decide +kernel⟩, by decide⟩, ml_X10_33, sm_X10_in⟩ [] [0, 1, 2, 3, 4] rfl rfl rfl rfl (by decide) rfl rfl (Nat.le_of_ble_eq_true rfl) (by omega) (by omega) dX10_restore_3 (fun r_1 w_ hw_2 => ?_)
  rcases hw_2 with ⟨hf2_0, hf2_1, rfl, rfl⟩ | ⟨hf2_0, rfl, rfl⟩
  · refine V_to (ws2 := [(h0, .inr (10, [.ref h1, .ref h2, .ref h3, .ref h4, .int (nI pm), .ref h5, .ref h6, .int ty, .ref h7, .int om, .int sp, .int wr])), (h1, .inl (gI g, 113, .inl z)), (h2, .inl (gI g, 678, .inl past)), (h3, .inl (gI g, 226, .inl sl)), (h4, .inl (gZ g, 2, .inl sv))]) ?_ rfl
    refine V_if_ne (tgt := 12) C dX10_restore_6 (by decide) (fun _ => ?_) (fun h => absurd h (by decide))
    obtain ⟨q, -, hq, rfl⟩ := rg_nI 0 1 rfl rfl (by omega) (by omega) hf2_0 hf2_1
    refine V_aload_n C 0 dX10_restore_12 rfl rfl ?_
    refine V_get (v := .ref h4) C 0 rfl rfl in_X10 3 (by decide) fl_X10_19 rfl rfl dX10_restore_13 ?_
    refine V_iload_n C 1 dX10_restore_16 rfl rfl ?_
    refine V_zald C 4 rfl (ix_nI (show q < 2 by omega) (by omega)) dX10_restore_17 ?_
    refine V_if_ne (tgt := 24) C dX10_restore_18 (by decide) (fun c_18 => ?_) (fun c_18 => ?_)
    · refine V_aload_n C 0 dX10_restore_24 rfl rfl ?_
      refine V_callVv (q0 := 0) (na := 0) (As := []) (rest := []) (wr := [(h3, .inl (gI g, 226, .inl sl)), (h4, .inl (gZ g, 2, .inl sv))]) C (c_X10_record g h0 h1 h2 h3 h4 h5 h6 h7 pm ty om sp wr z past (show pm ≤ 6 from by first | assumption | omega | exact ix_nI (by omega) (by omega) | decide)) ⟨⟨ini_X10, co_X10_record, ⟨by decide, by decide, by decide +kernel⟩, by decide⟩, ml_X10_45, im_X10_record, se_X10_record⟩ [0, 1, 2] [3, 4] rfl rfl rfl rfl (by decide) rfl rfl rfl rfl (Nat.le_of_ble_eq_true rfl) (by omega) (by omega) dX10_restore_25 (fun w_ hw_4 => ?_)
      obtain rfl := hw_4
      refine V_to (ws2 := [(h3, .inl (gI g, 226, .inl sl)), (h4, .inl (gZ g, 2, .inl sv)), (h0, .inr (10, [.ref h1, .ref h2, .ref h3, .ref h4, .int (nI (min (pm + 1) 6)), .ref h5, .ref h6, .int ty, .ref h7, .int om, .int sp, .int wr])), (h1, .inl (gI g, 113, .inl z)), (h2, .inl (gI g, 678, .inl (recP z past pm)))]) ?_ rfl
      refine V_iconst (v := 0) C dX10_restore_28 (by decide) ?_
      refine V_istore_n (L2 := [(2, .int 0), (0, .ref h0), (1, .int (nI q))]) C dX10_restore_29 rfl (by decide) rfl ?_
      refine V_to (ws2 := [(h3, .inl (gI g, 226, .inl sl)), (h4, .inl (gZ g, 2, .inl sv)), (h0, .inr (10, [.ref h1, .ref h2, .ref h3, .ref h4, .int (nI (min (pm + 1) 6)), .ref h5, .ref h6, .int ty, .ref h7, .int om, .int sp, .int wr])), (h1, .inl (gI g, 113, .inl (cpI sl z (q * 113) 0))), (h2, .inl (gI g, 678, .inl (recP z past pm)))]) ?_ (by rw [cpI_0])
      have loop_30 : ∀ (fu_30 : Nat) (j : Nat), j ≤ 113 → 113 - j < fu_30 → V g X 0 0 [(h3, .inl (gI g, 226, .inl sl)), (h4, .inl (gZ g, 2, .inl sv)), (h0, .inr (10, [.ref h1, .ref h2, .ref h3, .ref h4, .int (nI (min (pm + 1) 6)), .ref h5, .ref h6, .int ty, .ref h7, .int om, .int sp, .int wr])), (h1, .inl (gI g, 113, .inl (cpI sl z (q * 113) j))), (h2, .inl (gI g, 678, .inl (recP z past pm)))] 30 [(0, .ref h0), (1, .int (nI q)), (2, .int (nI j))] [] := by
        intro fu_30
        induction fu_30 with
        | zero => intro j hj hm; exact absurd hm (by omega)
        | succ fu_30 ih_30 =>
          intro j hj hm
          refine V_iload_n C 2 dX10_restore_30 rfl rfl ?_
          refine V_bipush (v := 113) C dX10_restore_31 (by decide) ?_
          refine V_icmp_ge (tgt := 59) C dX10_restore_33 (by decide) (fun c_33 => ?_) (fun c_33 => ?_)
          · have hj2 : j = 113 := by have := lp_ge 113 rfl (by omega) (by omega) c_33; omega
            subst hj2
            refine V_ext (f2 := fun k => sl (q * 113 + k)) (ws2 := [(h3, .inl (gI g, 226, .inl sl)), (h4, .inl (gZ g, 2, .inl sv)), (h0, .inr (10, [.ref h1, .ref h2, .ref h3, .ref h4, .int (nI (min (pm + 1) 6)), .ref h5, .ref h6, .int ty, .ref h7, .int om, .int sp, .int wr])), (h1, .inl (gI g, 113, .inl (fun k => sl (q * 113 + k)))), (h2, .inl (gI g, 678, .inl (recP z past pm)))]) 3 rfl (fun k hk => by rw [cpI_e k hk]) rfl ?_
            refine V_aload_n C 0 dX10_restore_59 rfl rfl ?_
            refine V_get (v := .ref h1) C 2 rfl rfl in_X10 0 (by decide) fl_X10_7 rfl rfl dX10_restore_60 ?_
            refine V_bipush (v := 50) C dX10_restore_63 (by decide) ?_
            refine V_iald C 3 rfl (show ix 50 50 113 from ix_nI (k := 50) (by omega) (by omega)) dX10_restore_65 ?_
            refine V_perm (ws2 := [(h0, .inr (10, [.ref h1, .ref h2, .ref h3, .ref h4, .int (nI (min (pm + 1) 6)), .ref h5, .ref h6, .int ty, .ref h7, .int om, .int sp, .int wr])), (h1, .inl (gI g, 113, .inl (fun k => sl (q * 113 + k)))), (h2, .inl (gI g, 678, .inl (recP z past pm))), (h3, .inl (gI g, 226, .inl sl)), (h4, .inl (gZ g, 2, .inl sv))]) [2, 3, 4, 0, 1] rfl rfl ?_
            refine hret _ _ _ _ dX10_restore_66 ?_
            exact Or.inr (Or.inr ⟨q, by omega, rfl, c_18, rfl, rfl⟩)
          · have hj2 : j < 113 := lp_lt 113 rfl (by omega) (by omega) c_33
            refine V_aload_n C 0 dX10_restore_36 rfl rfl ?_
            refine V_get (v := .ref h1) C 2 rfl rfl in_X10 0 (by decide) fl_X10_7 rfl rfl dX10_restore_37 ?_
            refine V_iload_n C 2 dX10_restore_40 rfl rfl ?_
            refine V_aload_n C 0 dX10_restore_41 rfl rfl ?_
            refine V_get (v := .ref h3) C 2 rfl rfl in_X10 2 (by decide) fl_X10_16 rfl rfl dX10_restore_42 ?_
            refine V_iload_n C 1 dX10_restore_45 rfl rfl ?_
            refine V_bipush (v := 113) C dX10_restore_46 (by decide) ?_
            refine V_imul C dX10_restore_48 ?_
            refine V_ev (show ((nI q) * 113 : Int32) = nI (q * 113) from pk_mul q 113) ?_
            refine V_iload_n C 2 dX10_restore_49 rfl rfl ?_
            refine V_iadd C dX10_restore_50 ?_
            refine V_ev (show ((nI (q * 113)) + (nI j) : Int32) = nI ((q * 113) + j) from nI_add (q * 113) j) ?_
            refine V_iald C 0 rfl (ix_nI (show (q * 113) + j < 226 by omega) (by omega)) dX10_restore_51 ?_
            refine V_iast (ws2 := [(h3, .inl (gI g, 226, .inl sl)), (h4, .inl (gZ g, 2, .inl sv)), (h0, .inr (10, [.ref h1, .ref h2, .ref h3, .ref h4, .int (nI (min (pm + 1) 6)), .ref h5, .ref h6, .int ty, .ref h7, .int om, .int sp, .int wr])), (h1, .inl (gI g, 113, .inl (upd (cpI sl z (q * 113) j) j (sl ((q * 113) + j))))), (h2, .inl (gI g, 678, .inl (recP z past pm)))]) C 3 rfl (ix_nI (show j < 113 by omega) (by omega)) dX10_restore_52 rfl ?_
            refine V_to (ws2 := [(h3, .inl (gI g, 226, .inl sl)), (h4, .inl (gZ g, 2, .inl sv)), (h0, .inr (10, [.ref h1, .ref h2, .ref h3, .ref h4, .int (nI (min (pm + 1) 6)), .ref h5, .ref h6, .int ty, .ref h7, .int om, .int sp, .int wr])), (h1, .inl (gI g, 113, .inl (cpI sl z (q * 113) (j + 1)))), (h2, .inl (gI g, 678, .inl (recP z past pm)))]) ?_ (by rw [← cpI_s])
            refine V_iinc (v := nI (j + 1)) (L2 := [(2, .int (nI (j + 1))), (0, .ref h0), (1, .int (nI q))]) C 2 dX10_restore_53 rfl (nI_add j 1) (by decide) rfl ?_
            refine V_goto (tgt := 30) C dX10_restore_56 (by decide) ?_
            refine V_locs (L2 := [(0, .ref h0), (1, .int (nI q)), (2, .int (nI (j + 1)))]) [1, 2, 0] rfl ?_
            exact ih_30 (j + 1) (show (j + 1) ≤ 113 from by first | assumption | omega | rfl) (by omega)
      refine V_locs (L2 := [(0, .ref h0), (1, .int (nI q)), (2, .int 0)]) [1, 2, 0] rfl ?_
      exact loop_30 (113 - 0 + 1) 0 (show 0 ≤ 113 from by first | assumption | omega | rfl) (by omega)
    · refine V_bipush (v := (-5)) C dX10_restore_21 (by decide) ?_
      refine hret _ _ _ _ dX10_restore_23 ?_
      exact Or.inr (Or.inl ⟨q, by omega, rfl, c_18, rfl, rfl⟩)
  · refine V_to (ws2 := [(h0, .inr (10, [.ref h1, .ref h2, .ref h3, .ref h4, .int (nI pm), .ref h5, .ref h6, .int ty, .ref h7, .int om, .int sp, .int wr])), (h1, .inl (gI g, 113, .inl z)), (h2, .inl (gI g, 678, .inl past)), (h3, .inl (gI g, 226, .inl sl)), (h4, .inl (gZ g, 2, .inl sv))]) ?_ rfl
    refine V_if_ne (tgt := 12) C dX10_restore_6 (by decide) (fun h => absurd rfl h) (fun _ => ?_)
    refine V_bipush (v := (-2)) C dX10_restore_9 (by decide) ?_
    refine hret _ _ _ _ dX10_restore_11 ?_
    exact Or.inl ⟨fun h => (hf2_0).elim h.1 h.2, rfl, rfl⟩
set_option maxRecDepth 100000 in
set_option maxHeartbeats 4000000 in
theorem c_X10_costAt (g : Gd) (h0 : Nat) (h1 : Nat) (h2 : Nat) (h3 : Nat) (h4 : Nat) (h5 : Nat) (h6 : Nat) (h7 : Nat) (pm : Int32) (ty : Int32) (om : Int32) (sp : Int32) (wr : Int32) (z : Nat → Int32) (c0 : Nat) (P : Nat) (S : Nat) (hc0 : c0 < 86400) (hP : P ≤ 9999) (hS1 : 1 ≤ S) (hS2 : S ≤ 9999) (hb : BV z) : Ki g yX10_costAt cX10_costAt 4 (some .int) 4 0 0 [.ref h0, .int (nI c0), .int (nI P), .int (nI S)] [(h0, .inr (10, [.ref h1, .ref h2, .ref h3, .ref h4, .int pm, .ref h5, .ref h6, .int ty, .ref h7, .int om, .int sp, .int wr])), (h1, .inl (gI g, 113, .inl z))] (fun (r : Int32) (w : va_W) => r = costZ z c0 P S 39 ∧ w = [(h0, .inr (10, [.ref h1, .ref h2, .ref h3, .ref h4, .int pm, .ref h5, .ref h6, .int ty, .ref h7, .int om, .int sp, .int wr])), (h1, .inl (gI g, 113, .inl (costZ z c0 P S)))]) := by
  refine Ki.of (by decide) (Nat.le_of_ble_eq_true rfl) (fun X C hI hret => ?_)
  show V g X 0 0 [(h0, .inr (10, [.ref h1, .ref h2, .ref h3, .ref h4, .int pm, .ref h5, .ref h6, .int ty, .ref h7, .int om, .int sp, .int wr])), (h1, .inl (gI g, 113, .inl z))] 0 [(0, .ref h0), (1, .int (nI c0)), (2, .int (nI P)), (3, .int (nI S))] []
  obtain ⟨t, ht, hzt⟩ := hb.2.1 (c0 / 3600) (by omega)
  refine V_aload_n C 0 dX10_costAt_0 rfl rfl ?_
  refine V_get (v := .ref h1) C 0 rfl rfl in_X10 0 (by decide) fl_X10_7 rfl rfl dX10_costAt_1 ?_
  refine V_bipush (v := 37) C dX10_costAt_4 (by decide) ?_
  refine V_iload_n C 1 dX10_costAt_6 rfl rfl ?_
  refine V_iast (ws2 := [(h0, .inr (10, [.ref h1, .ref h2, .ref h3, .ref h4, .int pm, .ref h5, .ref h6, .int ty, .ref h7, .int om, .int sp, .int wr])), (h1, .inl (gI g, 113, .inl (upd z 37 (nI c0))))]) C 1 rfl (show ix 37 37 113 from ix_nI (k := 37) (by omega) (by omega)) dX10_costAt_7 rfl ?_
  refine V_aload_n C 0 dX10_costAt_8 rfl rfl ?_
  refine V_callVi (q0 := 0) (na := 0) (As := []) (rest := []) (wr := []) C (c_X10_hireIt g h0 h1 h2 h3 h4 h5 h6 h7 pm ty om sp wr (upd z 37 (nI c0)) c0 t (show c0 < 86400 from by first | assumption | omega | exact ix_nI (by omega) (by omega) | decide) upd_s ht ((upd_n (by omega)).trans hzt)) ⟨⟨ini_X10, co_X10_hireIt, ⟨by decide, by decide, by decide +kernel⟩, by decide⟩, ml_X10_59, im_X10_hireIt, se_X10_hireIt⟩ [0, 1] [] rfl rfl rfl rfl (by decide) rfl rfl rfl rfl (Nat.le_of_ble_eq_true rfl) (by omega) (by omega) dX10_costAt_9 (fun r_1 w_ hw_2 => ?_)
  obtain ⟨rfl, rfl⟩ := hw_2
  refine V_to (ws2 := [(h0, .inr (10, [.ref h1, .ref h2, .ref h3, .ref h4, .int pm, .ref h5, .ref h6, .int ty, .ref h7, .int om, .int sp, .int wr])), (h1, .inl (gI g, 113, .inl (hireZ (upd z 37 (nI c0)) t)))]) ?_ rfl
  refine V_pop C dX10_costAt_12 rfl ?_
  refine V_aload_n C 0 dX10_costAt_13 rfl rfl ?_
  refine V_iload_n C 2 dX10_costAt_14 rfl rfl ?_
  refine V_iload_n C 3 dX10_costAt_15 rfl rfl ?_
  refine V_callVi (q0 := 0) (na := 2) (As := [.int (nI P), .int (nI S)]) (rest := []) (wr := []) C (c_X10_driveIt g h0 h1 h2 h3 h4 h5 h6 h7 pm ty om sp wr (hireZ (upd z 37 (nI c0)) t) P S (show P ≤ 9999 from by first | assumption | omega | exact ix_nI (by omega) (by omega) | decide) (show 1 ≤ S from by first | assumption | omega | exact ix_nI (by omega) (by omega) | decide) (show S ≤ 9999 from by first | assumption | omega | exact ix_nI (by omega) (by omega) | decide) ((hb.set37 hc0).hire ht)) ⟨⟨ini_X10, co_X10_driveIt, ⟨by decide, by decide, by decide +kernel⟩, by decide⟩, ml_X10_79, im_X10_driveIt, se_X10_driveIt⟩ [0, 1] [] rfl rfl rfl rfl (by decide) rfl rfl rfl rfl (Nat.le_of_ble_eq_true rfl) (by omega) (by omega) dX10_costAt_16 (fun r_3 w_ hw_4 => ?_)
  obtain ⟨rfl, rfl⟩ := hw_4
  refine V_to (ws2 := [(h0, .inr (10, [.ref h1, .ref h2, .ref h3, .ref h4, .int pm, .ref h5, .ref h6, .int ty, .ref h7, .int om, .int sp, .int wr])), (h1, .inl (gI g, 113, .inl (drvF (hireZ (upd z 37 (nI c0)) t) P S)))]) ?_ rfl
  refine V_pop C dX10_costAt_19 rfl ?_
  refine V_to (ws2 := [(h0, .inr (10, [.ref h1, .ref h2, .ref h3, .ref h4, .int pm, .ref h5, .ref h6, .int ty, .ref h7, .int om, .int sp, .int wr])), (h1, .inl (gI g, 113, .inl (costZ z c0 P S)))]) ?_ (by rw [costZ, hzt, nI_clamp (by omega)])
  refine V_aload_n C 0 dX10_costAt_20 rfl rfl ?_
  refine V_get (v := .ref h1) C 0 rfl rfl in_X10 0 (by decide) fl_X10_7 rfl rfl dX10_costAt_21 ?_
  refine V_bipush (v := 39) C dX10_costAt_24 (by decide) ?_
  refine V_iald C 1 rfl (show ix 39 39 113 from ix_nI (k := 39) (by omega) (by omega)) dX10_costAt_26 ?_
  refine hret _ _ _ _ dX10_costAt_27 ?_
  exact ⟨rfl, rfl⟩
end
