section
-- ===== PART A: goes FIRST, ahead of the names: the tables' words, and 'selects' of the private methods out of them =====
/-- a private method of a class that the tables say can be made, by its rows of tables_1 -/
def lw_okq (q : MethodName × Nat) : Prop := (q.1.cls ≠ "java/lang/invoke/MethodHandle" ∧ q.1.cls ≠ "java/lang/invoke/VarHandle") ∧ Cond.instantiable q.1.cls q.2 ∈ tables_1 ∧ Cond.privateMethod q.1 ∈ tables_1 ∧ Cond.instanceMethod q.1 ∈ tables_1
theorem lw_p0 : lw_okq (⟨"UseMuseum", "answerFault", "(I)I"⟩, 7) := ⟨⟨by decide +kernel, by decide +kernel⟩, List.mem_of_getElem? (i := 12) (by decide +kernel), List.mem_of_getElem? (i := 215) (by decide +kernel), List.mem_of_getElem? (i := 216) (by decide +kernel)⟩
theorem lw_p1 : lw_okq (⟨"UseMuseum", "hearRound", "(IIIZ)I"⟩, 7) := ⟨⟨by decide +kernel, by decide +kernel⟩, List.mem_of_getElem? (i := 12) (by decide +kernel), List.mem_of_getElem? (i := 266) (by decide +kernel), List.mem_of_getElem? (i := 267) (by decide +kernel)⟩
theorem lw_p2 : lw_okq (⟨"UseMuseum", "searchBest", "(I)V"⟩, 7) := ⟨⟨by decide +kernel, by decide +kernel⟩, List.mem_of_getElem? (i := 12) (by decide +kernel), List.mem_of_getElem? (i := 318) (by decide +kernel), List.mem_of_getElem? (i := 319) (by decide +kernel)⟩
theorem lw_p3 : lw_okq (⟨"UseMuseum", "takesByBest", "(I)I"⟩, 7) := ⟨⟨by decide +kernel, by decide +kernel⟩, List.mem_of_getElem? (i := 12) (by decide +kernel), List.mem_of_getElem? (i := 359) (by decide +kernel), List.mem_of_getElem? (i := 360) (by decide +kernel)⟩
theorem lw_p4 : lw_okq (⟨"UseMuseum", "searchRead", "()V"⟩, 7) := ⟨⟨by decide +kernel, by decide +kernel⟩, List.mem_of_getElem? (i := 12) (by decide +kernel), List.mem_of_getElem? (i := 382) (by decide +kernel), List.mem_of_getElem? (i := 383) (by decide +kernel)⟩
theorem lw_p5 : lw_okq (⟨"UseMuseum", "livingTells", "(LUseMuseum$Thing;)I"⟩, 7) := ⟨⟨by decide +kernel, by decide +kernel⟩, List.mem_of_getElem? (i := 12) (by decide +kernel), List.mem_of_getElem? (i := 450) (by decide +kernel), List.mem_of_getElem? (i := 451) (by decide +kernel)⟩
theorem lw_p6 : lw_okq (⟨"UseMuseum", "leave", "(I)V"⟩, 7) := ⟨⟨by decide +kernel, by decide +kernel⟩, List.mem_of_getElem? (i := 12) (by decide +kernel), List.mem_of_getElem? (i := 454) (by decide +kernel), List.mem_of_getElem? (i := 455) (by decide +kernel)⟩
theorem lw_p7 : lw_okq (⟨"UseMuseum", "heirloomTells", "(LUseMuseum$Thing;)I"⟩, 7) := ⟨⟨by decide +kernel, by decide +kernel⟩, List.mem_of_getElem? (i := 12) (by decide +kernel), List.mem_of_getElem? (i := 458) (by decide +kernel), List.mem_of_getElem? (i := 459) (by decide +kernel)⟩
theorem lw_p8 : lw_okq (⟨"UseMuseum", "thingTells", "(LUseMuseum$Thing;)I"⟩, 7) := ⟨⟨by decide +kernel, by decide +kernel⟩, List.mem_of_getElem? (i := 12) (by decide +kernel), List.mem_of_getElem? (i := 462) (by decide +kernel), List.mem_of_getElem? (i := 463) (by decide +kernel)⟩
theorem lw_p9 : lw_okq (⟨"UseMuseumModel", "refused", "(I)I"⟩, 34) := ⟨⟨by decide +kernel, by decide +kernel⟩, List.mem_of_getElem? (i := 486) (by decide +kernel), List.mem_of_getElem? (i := 606) (by decide +kernel), List.mem_of_getElem? (i := 607) (by decide +kernel)⟩
theorem lw_p10 : lw_okq (⟨"UseMuseumModel", "cellsBarred", "(IIIJ)I"⟩, 34) := ⟨⟨by decide +kernel, by decide +kernel⟩, List.mem_of_getElem? (i := 486) (by decide +kernel), List.mem_of_getElem? (i := 611) (by decide +kernel), List.mem_of_getElem? (i := 612) (by decide +kernel)⟩
theorem lw_p11 : lw_okq (⟨"UseMuseumModel", "failed", "(I)I"⟩, 34) := ⟨⟨by decide +kernel, by decide +kernel⟩, List.mem_of_getElem? (i := 486) (by decide +kernel), List.mem_of_getElem? (i := 615) (by decide +kernel), List.mem_of_getElem? (i := 616) (by decide +kernel)⟩
theorem lw_p12 : lw_okq (⟨"UseMuseumModel", "readsMuseum", "(II)Z"⟩, 34) := ⟨⟨by decide +kernel, by decide +kernel⟩, List.mem_of_getElem? (i := 486) (by decide +kernel), List.mem_of_getElem? (i := 622) (by decide +kernel), List.mem_of_getElem? (i := 623) (by decide +kernel)⟩
theorem lw_p13 : lw_okq (⟨"UseMuseumModel", "codeAt", "(II)I"⟩, 34) := ⟨⟨by decide +kernel, by decide +kernel⟩, List.mem_of_getElem? (i := 486) (by decide +kernel), List.mem_of_getElem? (i := 626) (by decide +kernel), List.mem_of_getElem? (i := 627) (by decide +kernel)⟩
theorem lw_p14 : lw_okq (⟨"UseMuseumModel", "figure", "(IIII)I"⟩, 34) := ⟨⟨by decide +kernel, by decide +kernel⟩, List.mem_of_getElem? (i := 486) (by decide +kernel), List.mem_of_getElem? (i := 630) (by decide +kernel), List.mem_of_getElem? (i := 631) (by decide +kernel)⟩
theorem lw_p15 : lw_okq (⟨"UseMuseumModel", "readsThing", "(II)Z"⟩, 34) := ⟨⟨by decide +kernel, by decide +kernel⟩, List.mem_of_getElem? (i := 486) (by decide +kernel), List.mem_of_getElem? (i := 634) (by decide +kernel), List.mem_of_getElem? (i := 635) (by decide +kernel)⟩
def lw_privs_1 : List (MethodName × Nat) := [(⟨"UseMuseum", "answerFault", "(I)I"⟩, 7), (⟨"UseMuseum", "hearRound", "(IIIZ)I"⟩, 7), (⟨"UseMuseum", "searchBest", "(I)V"⟩, 7), (⟨"UseMuseum", "takesByBest", "(I)I"⟩, 7), (⟨"UseMuseum", "searchRead", "()V"⟩, 7), (⟨"UseMuseum", "livingTells", "(LUseMuseum$Thing;)I"⟩, 7), (⟨"UseMuseum", "leave", "(I)V"⟩, 7), (⟨"UseMuseum", "heirloomTells", "(LUseMuseum$Thing;)I"⟩, 7), (⟨"UseMuseum", "thingTells", "(LUseMuseum$Thing;)I"⟩, 7), (⟨"UseMuseumModel", "refused", "(I)I"⟩, 34), (⟨"UseMuseumModel", "cellsBarred", "(IIIJ)I"⟩, 34), (⟨"UseMuseumModel", "failed", "(I)I"⟩, 34), (⟨"UseMuseumModel", "readsMuseum", "(II)Z"⟩, 34), (⟨"UseMuseumModel", "codeAt", "(II)I"⟩, 34), (⟨"UseMuseumModel", "figure", "(IIII)I"⟩, 34), (⟨"UseMuseumModel", "readsThing", "(II)Z"⟩, 34)]
theorem lw_r1 : ∀ q ∈ lw_privs_1, lw_okq q := List.forall_mem_cons.mpr ⟨lw_p0, List.forall_mem_cons.mpr ⟨lw_p1, List.forall_mem_cons.mpr ⟨lw_p2, List.forall_mem_cons.mpr ⟨lw_p3, List.forall_mem_cons.mpr ⟨lw_p4, List.forall_mem_cons.mpr ⟨lw_p5, List.forall_mem_cons.mpr ⟨lw_p6, List.forall_mem_cons.mpr ⟨lw_p7, List.forall_mem_cons.mpr ⟨lw_p8, List.forall_mem_cons.mpr ⟨lw_p9, List.forall_mem_cons.mpr ⟨lw_p10, List.forall_mem_cons.mpr ⟨lw_p11, List.forall_mem_cons.mpr ⟨lw_p12, List.forall_mem_cons.mpr ⟨lw_p13, List.forall_mem_cons.mpr ⟨lw_p14, List.forall_mem_cons.mpr ⟨lw_p15, fun _ h => absurd h List.not_mem_nil⟩⟩⟩⟩⟩⟩⟩⟩⟩⟩⟩⟩⟩⟩⟩⟩
theorem lw_p16 : lw_okq (⟨"UseMuseumModel", "noThing", "(I)Z"⟩, 34) := ⟨⟨by decide +kernel, by decide +kernel⟩, List.mem_of_getElem? (i := 486) (by decide +kernel), List.mem_of_getElem? (i := 642) (by decide +kernel), List.mem_of_getElem? (i := 643) (by decide +kernel)⟩
theorem lw_p17 : lw_okq (⟨"UseMuseumModel", "valueOf", "(I)I"⟩, 34) := ⟨⟨by decide +kernel, by decide +kernel⟩, List.mem_of_getElem? (i := 486) (by decide +kernel), List.mem_of_getElem? (i := 646) (by decide +kernel), List.mem_of_getElem? (i := 647) (by decide +kernel)⟩
theorem lw_p18 : lw_okq (⟨"UseMuseumModel", "roundBarred", "(III)I"⟩, 34) := ⟨⟨by decide +kernel, by decide +kernel⟩, List.mem_of_getElem? (i := 486) (by decide +kernel), List.mem_of_getElem? (i := 670) (by decide +kernel), List.mem_of_getElem? (i := 671) (by decide +kernel)⟩
theorem lw_p19 : lw_okq (⟨"UseMuseumModel", "goRound", "()Z"⟩, 34) := ⟨⟨by decide +kernel, by decide +kernel⟩, List.mem_of_getElem? (i := 486) (by decide +kernel), List.mem_of_getElem? (i := 675) (by decide +kernel), List.mem_of_getElem? (i := 676) (by decide +kernel)⟩
theorem lw_p20 : lw_okq (⟨"UseMuseumModel", "casesOf", "(I)I"⟩, 34) := ⟨⟨by decide +kernel, by decide +kernel⟩, List.mem_of_getElem? (i := 486) (by decide +kernel), List.mem_of_getElem? (i := 679) (by decide +kernel), List.mem_of_getElem? (i := 680) (by decide +kernel)⟩
theorem lw_p21 : lw_okq (⟨"UseMuseumModel", "takingOf", "(II)I"⟩, 34) := ⟨⟨by decide +kernel, by decide +kernel⟩, List.mem_of_getElem? (i := 486) (by decide +kernel), List.mem_of_getElem? (i := 683) (by decide +kernel), List.mem_of_getElem? (i := 684) (by decide +kernel)⟩
theorem lw_p22 : lw_okq (⟨"UseMuseumModel", "missedIn", "(I)I"⟩, 34) := ⟨⟨by decide +kernel, by decide +kernel⟩, List.mem_of_getElem? (i := 486) (by decide +kernel), List.mem_of_getElem? (i := 690) (by decide +kernel), List.mem_of_getElem? (i := 691) (by decide +kernel)⟩
theorem lw_p23 : lw_okq (⟨"UseMuseumModel", "leftNow", "()I"⟩, 34) := ⟨⟨by decide +kernel, by decide +kernel⟩, List.mem_of_getElem? (i := 486) (by decide +kernel), List.mem_of_getElem? (i := 694) (by decide +kernel), List.mem_of_getElem? (i := 695) (by decide +kernel)⟩
theorem lw_p24 : lw_okq (⟨"UseMuseumModel", "bestRow", "()I"⟩, 34) := ⟨⟨by decide +kernel, by decide +kernel⟩, List.mem_of_getElem? (i := 486) (by decide +kernel), List.mem_of_getElem? (i := 704) (by decide +kernel), List.mem_of_getElem? (i := 705) (by decide +kernel)⟩
theorem lw_p25 : lw_okq (⟨"UseMuseumModel", "rows", "()I"⟩, 34) := ⟨⟨by decide +kernel, by decide +kernel⟩, List.mem_of_getElem? (i := 486) (by decide +kernel), List.mem_of_getElem? (i := 708) (by decide +kernel), List.mem_of_getElem? (i := 709) (by decide +kernel)⟩
theorem lw_p26 : lw_okq (⟨"UseMuseumModel", "layRow", "(I)V"⟩, 34) := ⟨⟨by decide +kernel, by decide +kernel⟩, List.mem_of_getElem? (i := 486) (by decide +kernel), List.mem_of_getElem? (i := 712) (by decide +kernel), List.mem_of_getElem? (i := 713) (by decide +kernel)⟩
theorem lw_p27 : lw_okq (⟨"UseMuseumModel", "takesOf", "(I)I"⟩, 34) := ⟨⟨by decide +kernel, by decide +kernel⟩, List.mem_of_getElem? (i := 486) (by decide +kernel), List.mem_of_getElem? (i := 729) (by decide +kernel), List.mem_of_getElem? (i := 730) (by decide +kernel)⟩
theorem lw_p28 : lw_okq (⟨"UseMuseumModel", "isSo", "(I)Z"⟩, 34) := ⟨⟨by decide +kernel, by decide +kernel⟩, List.mem_of_getElem? (i := 486) (by decide +kernel), List.mem_of_getElem? (i := 745) (by decide +kernel), List.mem_of_getElem? (i := 746) (by decide +kernel)⟩
theorem lw_p29 : lw_okq (⟨"UseMuseumModel", "seenBarred", "(IIII)I"⟩, 34) := ⟨⟨by decide +kernel, by decide +kernel⟩, List.mem_of_getElem? (i := 486) (by decide +kernel), List.mem_of_getElem? (i := 757) (by decide +kernel), List.mem_of_getElem? (i := 758) (by decide +kernel)⟩
theorem lw_p30 : lw_okq (⟨"UseMuseumModel", "refusedLong", "()J"⟩, 34) := ⟨⟨by decide +kernel, by decide +kernel⟩, List.mem_of_getElem? (i := 486) (by decide +kernel), List.mem_of_getElem? (i := 770) (by decide +kernel), List.mem_of_getElem? (i := 771) (by decide +kernel)⟩
theorem lw_p31 : lw_okq (⟨"UseMuseumModel", "noCell", "(II)I"⟩, 34) := ⟨⟨by decide +kernel, by decide +kernel⟩, List.mem_of_getElem? (i := 486) (by decide +kernel), List.mem_of_getElem? (i := 793) (by decide +kernel), List.mem_of_getElem? (i := 794) (by decide +kernel)⟩
def lw_privs_2 : List (MethodName × Nat) := [(⟨"UseMuseumModel", "noThing", "(I)Z"⟩, 34), (⟨"UseMuseumModel", "valueOf", "(I)I"⟩, 34), (⟨"UseMuseumModel", "roundBarred", "(III)I"⟩, 34), (⟨"UseMuseumModel", "goRound", "()Z"⟩, 34), (⟨"UseMuseumModel", "casesOf", "(I)I"⟩, 34), (⟨"UseMuseumModel", "takingOf", "(II)I"⟩, 34), (⟨"UseMuseumModel", "missedIn", "(I)I"⟩, 34), (⟨"UseMuseumModel", "leftNow", "()I"⟩, 34), (⟨"UseMuseumModel", "bestRow", "()I"⟩, 34), (⟨"UseMuseumModel", "rows", "()I"⟩, 34), (⟨"UseMuseumModel", "layRow", "(I)V"⟩, 34), (⟨"UseMuseumModel", "takesOf", "(I)I"⟩, 34), (⟨"UseMuseumModel", "isSo", "(I)Z"⟩, 34), (⟨"UseMuseumModel", "seenBarred", "(IIII)I"⟩, 34), (⟨"UseMuseumModel", "refusedLong", "()J"⟩, 34), (⟨"UseMuseumModel", "noCell", "(II)I"⟩, 34)]
theorem lw_r2 : ∀ q ∈ lw_privs_2, lw_okq q := List.forall_mem_cons.mpr ⟨lw_p16, List.forall_mem_cons.mpr ⟨lw_p17, List.forall_mem_cons.mpr ⟨lw_p18, List.forall_mem_cons.mpr ⟨lw_p19, List.forall_mem_cons.mpr ⟨lw_p20, List.forall_mem_cons.mpr ⟨lw_p21, List.forall_mem_cons.mpr ⟨lw_p22, List.forall_mem_cons.mpr ⟨lw_p23, List.forall_mem_cons.mpr ⟨lw_p24, List.forall_mem_cons.mpr ⟨lw_p25, List.forall_mem_cons.mpr ⟨lw_p26, List.forall_mem_cons.mpr ⟨lw_p27, List.forall_mem_cons.mpr ⟨lw_p28, List.forall_mem_cons.mpr ⟨lw_p29, List.forall_mem_cons.mpr ⟨lw_p30, List.forall_mem_cons.mpr ⟨lw_p31, fun _ h => absurd h List.not_mem_nil⟩⟩⟩⟩⟩⟩⟩⟩⟩⟩⟩⟩⟩⟩⟩⟩
theorem lw_p32 : lw_okq (⟨"UseMuseumModel", "failedLong", "(I)J"⟩, 34) := ⟨⟨by decide +kernel, by decide +kernel⟩, List.mem_of_getElem? (i := 486) (by decide +kernel), List.mem_of_getElem? (i := 801) (by decide +kernel), List.mem_of_getElem? (i := 802) (by decide +kernel)⟩
theorem lw_p33 : lw_okq (⟨"UseMuseumModel", "traced", "(I)V"⟩, 34) := ⟨⟨by decide +kernel, by decide +kernel⟩, List.mem_of_getElem? (i := 486) (by decide +kernel), List.mem_of_getElem? (i := 813) (by decide +kernel), List.mem_of_getElem? (i := 814) (by decide +kernel)⟩
def lw_privs_3 : List (MethodName × Nat) := [(⟨"UseMuseumModel", "failedLong", "(I)J"⟩, 34), (⟨"UseMuseumModel", "traced", "(I)V"⟩, 34)]
theorem lw_r3 : ∀ q ∈ lw_privs_3, lw_okq q := List.forall_mem_cons.mpr ⟨lw_p32, List.forall_mem_cons.mpr ⟨lw_p33, fun _ h => absurd h List.not_mem_nil⟩⟩
def lw_privs : List (MethodName × Nat) := lw_privs_1 ++ (lw_privs_2 ++ (lw_privs_3))
def lw_tbl : List Cond := k2_sels lw_privs ++ tables_1
theorem lw_privs_ok : ∀ q ∈ lw_privs, lw_okq q := by
  show ∀ q ∈ lw_privs_1 ++ (lw_privs_2 ++ (lw_privs_3)), lw_okq q
  exact List.forall_mem_append.mpr ⟨lw_r1, List.forall_mem_append.mpr ⟨lw_r2, lw_r3⟩⟩
-- ===== end of PART A; then your names; then what follows =====
end
section
def RX0 : String := "UseMuseum$House"
def TX0 : u_T := fun k => match k with
  | 0 => ("UseMuseum$House", "things", "[LUseMuseum$Thing;", true)
  | 1 => ("UseMuseum$House", "count", "I", false)
  | 2 => ("UseMuseum$House", "penalty", "I", false)
  | _ => ("UseMuseum$House", "law", "I", false)
def tyX0 : Nat → FieldType := fun k => match k with
  | 0 => .array (.object "UseMuseum$Thing")
  | 1 => .int
  | 2 => .int
  | _ => .int
abbrev wsX00 : List Cond := u_ws RX0 TX0 4
theorem nmX0 : ∀ a, a < 4 → ∀ b, b < 4 → a ≠ b → (TX0 a).2.1 ≠ (TX0 b).2.1 := by decide +kernel
theorem tyX0_ok : ∀ k, k < 4 → parseFieldDescriptor (TX0 k).2.2.1 = some (tyX0 k) := by decide +kernel
abbrev cX0_init : ByteArray := prog_2_method_1_code
def yX0_init : MethodName := ⟨RX0, "<init>", "()V"⟩
abbrev cX0_stands : ByteArray := prog_2_method_2_code
def yX0_stands : MethodName := ⟨RX0, "stands", "()Z"⟩
abbrev cX0_has : ByteArray := prog_2_method_3_code
def yX0_has : MethodName := ⟨RX0, "has", "(I)Z"⟩
abbrev cX0_casesBy : ByteArray := prog_2_method_4_code
def yX0_casesBy : MethodName := ⟨RX0, "casesBy", "([III)I"⟩
abbrev cX0_firstWrong : ByteArray := prog_2_method_5_code
def yX0_firstWrong : MethodName := ⟨RX0, "firstWrong", "([I)I"⟩
abbrev cX0_takingsBy : ByteArray := prog_2_method_6_code
def yX0_takingsBy : MethodName := ⟨RX0, "takingsBy", "([II)I"⟩
abbrev cX0_missedBy : ByteArray := prog_2_method_7_code
def yX0_missedBy : MethodName := ⟨RX0, "missedBy", "([I)I"⟩
abbrev cX0_hoursInCase : ByteArray := prog_2_method_8_code
def yX0_hoursInCase : MethodName := ⟨RX0, "hoursInCase", "([II)I"⟩
abbrev cX0_gain : ByteArray := prog_2_method_9_code
def yX0_gain : MethodName := ⟨RX0, "gain", "(IIII)I"⟩
abbrev cX0_isLast : ByteArray := prog_2_method_10_code
def yX0_isLast : MethodName := ⟨RX0, "isLast", "(II)Z"⟩
abbrev cX0_missedByTake : ByteArray := prog_2_method_11_code
def yX0_missedByTake : MethodName := ⟨RX0, "missedByTake", "(II)I"⟩
def RX1 : String := "UseMuseum$Readings"
def TX1 : u_T := fun k => match k with
  | 0 => ("UseMuseum$Readings", "things", "[I", true)
  | 1 => ("UseMuseum$Readings", "hours", "[I", true)
  | 2 => ("UseMuseum$Readings", "inCase", "[Z", true)
  | _ => ("UseMuseum$Readings", "count", "I", false)
def tyX1 : Nat → FieldType := fun k => match k with
  | 0 => .array .int
  | 1 => .array .int
  | 2 => .array .boolean
  | _ => .int
abbrev wsX10 : List Cond := u_ws RX1 TX1 4
theorem nmX1 : ∀ a, a < 4 → ∀ b, b < 4 → a ≠ b → (TX1 a).2.1 ≠ (TX1 b).2.1 := by decide +kernel
theorem tyX1_ok : ∀ k, k < 4 → parseFieldDescriptor (TX1 k).2.2.1 = some (tyX1 k) := by decide +kernel
abbrev cX1_init : ByteArray := prog_3_method_1_code
def yX1_init : MethodName := ⟨RX1, "<init>", "()V"⟩
abbrev cX1_add : ByteArray := prog_3_method_2_code
def yX1_add : MethodName := ⟨RX1, "add", "(IIZ)I"⟩
abbrev cX1_bind : ByteArray := prog_3_method_3_code
def yX1_bind : MethodName := ⟨RX1, "bind", "(LUseMuseum$Search;)V"⟩
def RX2 : String := "UseMuseum$Search"
def TX2 : u_T := fun k => match k with
  | 0 => ("UseMuseum$Search", "row", "[I", true)
  | 1 => ("UseMuseum$Search", "first", "[I", true)
  | 2 => ("UseMuseum$Search", "best", "[I", true)
  | 3 => ("UseMuseum$Search", "seen", "[I", true)
  | 4 => ("UseMuseum$Search", "mustBeIn", "[I", true)
  | 5 => ("UseMuseum$Search", "mustBeOut", "[I", true)
  | 6 => ("UseMuseum$Search", "without", "I", false)
  | 7 => ("UseMuseum$Search", "mostMissed", "I", false)
  | 8 => ("UseMuseum$Search", "count", "I", false)
  | 9 => ("UseMuseum$Search", "bestLeft", "I", false)
  | _ => ("UseMuseum$Search", "mostTakings", "I", false)
def tyX2 : Nat → FieldType := fun k => match k with
  | 0 => .array .int
  | 1 => .array .int
  | 2 => .array .int
  | 3 => .array .int
  | 4 => .array .int
  | 5 => .array .int
  | 6 => .int
  | 7 => .int
  | 8 => .int
  | 9 => .int
  | _ => .int
abbrev wsX20 : List Cond := u_ws RX2 TX2 11
theorem nmX2 : ∀ a, a < 11 → ∀ b, b < 11 → a ≠ b → (TX2 a).2.1 ≠ (TX2 b).2.1 := by decide +kernel
theorem tyX2_ok : ∀ k, k < 11 → parseFieldDescriptor (TX2 k).2.2.1 = some (tyX2 k) := by decide +kernel
abbrev cX2_init : ByteArray := prog_4_method_1_code
def yX2_init : MethodName := ⟨RX2, "<init>", "()V"⟩
abbrev cX2_clear : ByteArray := prog_4_method_2_code
def yX2_clear : MethodName := ⟨RX2, "clear", "()V"⟩
abbrev cX2_fits : ByteArray := prog_4_method_3_code
def yX2_fits : MethodName := ⟨RX2, "fits", "(II)Z"⟩
abbrev cX2_arrive : ByteArray := prog_4_method_4_code
def yX2_arrive : MethodName := ⟨RX2, "arrive", "(III)V"⟩
abbrev cX2_note : ByteArray := prog_4_method_5_code
def yX2_note : MethodName := ⟨RX2, "note", "(III)V"⟩
def RX3 : String := "UseMuseum$Sheet"
def TX3 : u_T := fun k => match k with
  | 0 => ("UseMuseum$Sheet", "cells", "[I", true)
  | 1 => ("UseMuseum$Sheet", "there", "Z", false)
  | 2 => ("UseMuseum$Sheet", "lane", "I", false)
  | _ => ("UseMuseum$Sheet", "length", "I", false)
def tyX3 : Nat → FieldType := fun k => match k with
  | 0 => .array .int
  | 1 => .boolean
  | 2 => .int
  | _ => .int
abbrev wsX30 : List Cond := u_ws RX3 TX3 4
theorem nmX3 : ∀ a, a < 4 → ∀ b, b < 4 → a ≠ b → (TX3 a).2.1 ≠ (TX3 b).2.1 := by decide +kernel
theorem tyX3_ok : ∀ k, k < 4 → parseFieldDescriptor (TX3 k).2.2.1 = some (tyX3 k) := by decide +kernel
abbrev cX3_init : ByteArray := prog_5_method_1_code
def yX3_init : MethodName := ⟨RX3, "<init>", "()V"⟩
abbrev cX3_begin : ByteArray := prog_5_method_2_code
def yX3_begin : MethodName := ⟨RX3, "begin", "(II)V"⟩
abbrev cX3_holds : ByteArray := prog_5_method_3_code
def yX3_holds : MethodName := ⟨RX3, "holds", "(II)Z"⟩
abbrev cX3_faultOfCells : ByteArray := prog_5_method_4_code
def yX3_faultOfCells : MethodName := ⟨RX3, "faultOfCells", "(III)I"⟩
abbrev cX3_cut : ByteArray := prog_5_method_5_code
def yX3_cut : MethodName := ⟨RX3, "cut", "(I)I"⟩
def RX4 : String := "UseMuseum$Text"
def TX4 : u_T := fun k => match k with
  | _ => ("", "", "", false)
def tyX4 : Nat → FieldType := fun k => match k with
  | _ => .int
abbrev wsX40 : List Cond := u_ws RX4 TX4 0
theorem nmX4 : ∀ a, a < 0 → ∀ b, b < 0 → a ≠ b → (TX4 a).2.1 ≠ (TX4 b).2.1 := by decide +kernel
theorem tyX4_ok : ∀ k, k < 0 → parseFieldDescriptor (TX4 k).2.2.1 = some (tyX4 k) := by decide +kernel
abbrev cX4_firstFault : ByteArray := prog_6_method_2_code
def yX4_firstFault : MethodName := ⟨RX4, "firstFault", "([III)I"⟩
abbrev cX4_goesOn : ByteArray := prog_6_method_3_code
def yX4_goesOn : MethodName := ⟨RX4, "goesOn", "(III)Z"⟩
abbrev cX4_isDigit : ByteArray := prog_6_method_4_code
def yX4_isDigit : MethodName := ⟨RX4, "isDigit", "(III)Z"⟩
abbrev cX4_fill : ByteArray := prog_6_method_5_code
def yX4_fill : MethodName := ⟨RX4, "fill", "(LUseMuseum$House;[III)V"⟩
abbrev cX4_kindOf : ByteArray := prog_6_method_6_code
def yX4_kindOf : MethodName := ⟨RX4, "kindOf", "(I)I"⟩
def RX5 : String := "UseMuseum$Thing"
def TX5 : u_T := fun k => match k with
  | 0 => ("UseMuseum$Thing", "kind", "I", false)
  | 1 => ("UseMuseum$Thing", "sort", "I", false)
  | 2 => ("UseMuseum$Thing", "worth", "I", false)
  | 3 => ("UseMuseum$Thing", "stay", "I", false)
  | _ => ("UseMuseum$Thing", "uses", "I", false)
def tyX5 : Nat → FieldType := fun k => match k with
  | 0 => .int
  | 1 => .int
  | 2 => .int
  | 3 => .int
  | _ => .int
abbrev wsX50 : List Cond := u_ws RX5 TX5 5
theorem nmX5 : ∀ a, a < 5 → ∀ b, b < 5 → a ≠ b → (TX5 a).2.1 ≠ (TX5 b).2.1 := by decide +kernel
theorem tyX5_ok : ∀ k, k < 5 → parseFieldDescriptor (TX5 k).2.2.1 = some (tyX5 k) := by decide +kernel
abbrev cX5_init : ByteArray := prog_7_method_1_code
def yX5_init : MethodName := ⟨RX5, "<init>", "()V"⟩
abbrev cX5_value : ByteArray := prog_7_method_2_code
def yX5_value : MethodName := ⟨RX5, "value", "()I"⟩
abbrev cX5_span : ByteArray := prog_7_method_3_code
def yX5_span : MethodName := ⟨RX5, "span", "(I)I"⟩
def RX6 : String := "UseMuseum"
def TX6 : u_T := fun k => match k with
  | 0 => ("UseMuseum", "sheets", "[LUseMuseum$Sheet;", true)
  | 1 => ("UseMuseum", "house", "LUseMuseum$House;", true)
  | 2 => ("UseMuseum", "readings", "LUseMuseum$Readings;", true)
  | 3 => ("UseMuseum", "search", "LUseMuseum$Search;", true)
  | 4 => ("UseMuseum", "told", "[I", true)
  | 5 => ("UseMuseum", "latestFault", "I", false)
  | _ => ("UseMuseum", "leftNumbers", "I", false)
def tyX6 : Nat → FieldType := fun k => match k with
  | 0 => .array (.object "UseMuseum$Sheet")
  | 1 => .object "UseMuseum$House"
  | 2 => .object "UseMuseum$Readings"
  | 3 => .object "UseMuseum$Search"
  | 4 => .array .int
  | 5 => .int
  | _ => .int
abbrev wsX60 : List Cond := u_ws RX6 TX6 7
theorem nmX6 : ∀ a, a < 7 → ∀ b, b < 7 → a ≠ b → (TX6 a).2.1 ≠ (TX6 b).2.1 := by decide +kernel
theorem tyX6_ok : ∀ k, k < 7 → parseFieldDescriptor (TX6 k).2.2.1 = some (tyX6 k) := by decide +kernel
abbrev cX6_init : ByteArray := prog_1_method_1_code
def yX6_init : MethodName := ⟨RX6, "<init>", "()V"⟩
abbrev cX6_museum : ByteArray := prog_1_method_2_code
def yX6_museum : MethodName := ⟨RX6, "museum", "(IIII)I"⟩
abbrev cX6_ofThing : ByteArray := prog_1_method_3_code
def yX6_ofThing : MethodName := ⟨RX6, "ofThing", "(II)I"⟩
abbrev cX6_penalty : ByteArray := prog_1_method_4_code
def yX6_penalty : MethodName := ⟨RX6, "penalty", "(I)I"⟩
abbrev cX6_law : ByteArray := prog_1_method_5_code
def yX6_law : MethodName := ⟨RX6, "law", "(I)I"⟩
abbrev cX6_use : ByteArray := prog_1_method_6_code
def yX6_use : MethodName := ⟨RX6, "use", "(II)I"⟩
abbrev cX6_round : ByteArray := prog_1_method_7_code
def yX6_round : MethodName := ⟨RX6, "round", "(IIII)I"⟩
abbrev cX6_best : ByteArray := prog_1_method_8_code
def yX6_best : MethodName := ⟨RX6, "best", "(I)I"⟩
abbrev cX6_mild : ByteArray := prog_1_method_9_code
def yX6_mild : MethodName := ⟨RX6, "mild", "(I)I"⟩
abbrev cX6_worth : ByteArray := prog_1_method_10_code
def yX6_worth : MethodName := ⟨RX6, "worth", "(I)I"⟩
abbrev cX6_shift : ByteArray := prog_1_method_11_code
def yX6_shift : MethodName := ⟨RX6, "shift", "(I)I"⟩
abbrev cX6_reading : ByteArray := prog_1_method_12_code
def yX6_reading : MethodName := ⟨RX6, "reading", "(IIZ)I"⟩
abbrev cX6_back : ByteArray := prog_1_method_13_code
def yX6_back : MethodName := ⟨RX6, "back", "(I)I"⟩
abbrev cX6_rounds : ByteArray := prog_1_method_14_code
def yX6_rounds : MethodName := ⟨RX6, "rounds", "(I)I"⟩
abbrev cX6_sure : ByteArray := prog_1_method_15_code
def yX6_sure : MethodName := ⟨RX6, "sure", "(I)I"⟩
abbrev cX6_laws : ByteArray := prog_1_method_16_code
def yX6_laws : MethodName := ⟨RX6, "laws", "(IIII)I"⟩
abbrev cX6_used : ByteArray := prog_1_method_17_code
def yX6_used : MethodName := ⟨RX6, "used", "(IIIII)I"⟩
abbrev cX6_odds : ByteArray := prog_1_method_18_code
def yX6_odds : MethodName := ⟨RX6, "odds", "(IIIII)J"⟩
abbrev cX6_sheet : ByteArray := prog_1_method_19_code
def yX6_sheet : MethodName := ⟨RX6, "sheet", "(III)I"⟩
abbrev cX6_lose : ByteArray := prog_1_method_20_code
def yX6_lose : MethodName := ⟨RX6, "lose", "(I)I"⟩
abbrev cX6_put : ByteArray := prog_1_method_21_code
def yX6_put : MethodName := ⟨RX6, "put", "(III)I"⟩
abbrev cX6_cell : ByteArray := prog_1_method_22_code
def yX6_cell : MethodName := ⟨RX6, "cell", "(III)J"⟩
abbrev cX6_copy : ByteArray := prog_1_method_23_code
def yX6_copy : MethodName := ⟨RX6, "copy", "(IIIII)I"⟩
abbrev cX6_tell : ByteArray := prog_1_method_24_code
def yX6_tell : MethodName := ⟨RX6, "tell", "(I)I"⟩
abbrev cX6_label : ByteArray := prog_1_method_25_code
def yX6_label : MethodName := ⟨RX6, "label", "(I)I"⟩
abbrev cX6_as : ByteArray := prog_1_method_26_code
def yX6_as : MethodName := ⟨RX6, "as", "(II)I"⟩
abbrev cX6_trace : ByteArray := prog_1_method_27_code
def yX6_trace : MethodName := ⟨RX6, "trace", "()I"⟩
abbrev cX6_fault : ByteArray := prog_1_method_28_code
def yX6_fault : MethodName := ⟨RX6, "fault", "()I"⟩
abbrev cX6_many : ByteArray := prog_1_method_29_code
def yX6_many : MethodName := ⟨RX6, "many", "(I)I"⟩
abbrev cX6_isSheet : ByteArray := prog_1_method_30_code
def yX6_isSheet : MethodName := ⟨RX6, "isSheet", "(I)Z"⟩
abbrev cX6_isLane : ByteArray := prog_1_method_31_code
def yX6_isLane : MethodName := ⟨RX6, "isLane", "(I)Z"⟩
abbrev cX6_isHour : ByteArray := prog_1_method_32_code
def yX6_isHour : MethodName := ⟨RX6, "isHour", "(I)Z"⟩
abbrev cX6_isIn : ByteArray := prog_1_method_33_code
def yX6_isIn : MethodName := ⟨RX6, "isIn", "(II)Z"⟩
abbrev cX6_answerFault : ByteArray := prog_1_method_34_code
def yX6_answerFault : MethodName := ⟨RX6, "answerFault", "(I)I"⟩
abbrev cX6_hearRound : ByteArray := prog_1_method_35_code
def yX6_hearRound : MethodName := ⟨RX6, "hearRound", "(IIIZ)I"⟩
abbrev cX6_searchBest : ByteArray := prog_1_method_36_code
def yX6_searchBest : MethodName := ⟨RX6, "searchBest", "(I)V"⟩
abbrev cX6_takesByBest : ByteArray := prog_1_method_37_code
def yX6_takesByBest : MethodName := ⟨RX6, "takesByBest", "(I)I"⟩
abbrev cX6_searchRead : ByteArray := prog_1_method_38_code
def yX6_searchRead : MethodName := ⟨RX6, "searchRead", "()V"⟩
abbrev cX6_walk : ByteArray := prog_1_method_39_code
def yX6_walk : MethodName := ⟨RX6, "walk", "(LUseMuseum$Search;LUseMuseum$House;III)V"⟩
abbrev cX6_waysForAtMost : ByteArray := prog_1_method_40_code
def yX6_waysForAtMost : MethodName := ⟨RX6, "waysForAtMost", "(II)J"⟩
abbrev cX6_leave : ByteArray := prog_1_method_41_code
def yX6_leave : MethodName := ⟨RX6, "leave", "(I)V"⟩
abbrev cX6_thingTells : ByteArray := prog_1_method_42_code
def yX6_thingTells : MethodName := ⟨RX6, "thingTells", "(LUseMuseum$Thing;)I"⟩
abbrev cX6_heirloomTells : ByteArray := prog_1_method_43_code
def yX6_heirloomTells : MethodName := ⟨RX6, "heirloomTells", "(LUseMuseum$Thing;)I"⟩
abbrev cX6_livingTells : ByteArray := prog_1_method_44_code
def yX6_livingTells : MethodName := ⟨RX6, "livingTells", "(LUseMuseum$Thing;)I"⟩
def RX7 : String := "UseMuseumModel"
def TX7 : u_T := fun k => match k with
  | 0 => ("UseMuseumModel", "fault", "I", false)
  | 1 => ("UseMuseumModel", "penaltyNow", "I", false)
  | 2 => ("UseMuseumModel", "lawNow", "I", false)
  | 3 => ("UseMuseumModel", "things", "I", false)
  | 4 => ("UseMuseumModel", "kindOf", "[I", true)
  | 5 => ("UseMuseumModel", "sortOf", "[I", true)
  | 6 => ("UseMuseumModel", "worthOf", "[I", true)
  | 7 => ("UseMuseumModel", "longOf", "[I", true)
  | 8 => ("UseMuseumModel", "usesOf", "[I", true)
  | 9 => ("UseMuseumModel", "never", "I", false)
  | 10 => ("UseMuseumModel", "readAt", "I", false)
  | 11 => ("UseMuseumModel", "readPenalty", "I", false)
  | 12 => ("UseMuseumModel", "readThings", "I", false)
  | 13 => ("UseMuseumModel", "readKind", "[I", true)
  | 14 => ("UseMuseumModel", "readSort", "[I", true)
  | 15 => ("UseMuseumModel", "readWorth", "[I", true)
  | 16 => ("UseMuseumModel", "readLong", "[I", true)
  | 17 => ("UseMuseumModel", "readUses", "[I", true)
  | 18 => ("UseMuseumModel", "rowNow", "[I", true)
  | 19 => ("UseMuseumModel", "casesIn", "[I", true)
  | 20 => ("UseMuseumModel", "caseTill", "[I", true)
  | 21 => ("UseMuseumModel", "firstWrong", "I", false)
  | 22 => ("UseMuseumModel", "takings", "I", false)
  | 23 => ("UseMuseumModel", "missed", "I", false)
  | 24 => ("UseMuseumModel", "mostIs", "I", false)
  | 25 => ("UseMuseumModel", "readings", "I", false)
  | 26 => ("UseMuseumModel", "readingOf", "[I", true)
  | 27 => ("UseMuseumModel", "readingIn", "[I", true)
  | 28 => ("UseMuseumModel", "readingWas", "[Z", true)
  | 29 => ("UseMuseumModel", "sheetSize", "[I", true)
  | 30 => ("UseMuseumModel", "sheetLane", "[I", true)
  | 31 => ("UseMuseumModel", "sheet", "[I", true)
  | 32 => ("UseMuseumModel", "hands", "[I", true)
  | _ => ("UseMuseumModel", "traceNow", "I", false)
def tyX7 : Nat → FieldType := fun k => match k with
  | 0 => .int
  | 1 => .int
  | 2 => .int
  | 3 => .int
  | 4 => .array .int
  | 5 => .array .int
  | 6 => .array .int
  | 7 => .array .int
  | 8 => .array .int
  | 9 => .int
  | 10 => .int
  | 11 => .int
  | 12 => .int
  | 13 => .array .int
  | 14 => .array .int
  | 15 => .array .int
  | 16 => .array .int
  | 17 => .array .int
  | 18 => .array .int
  | 19 => .array .int
  | 20 => .array .int
  | 21 => .int
  | 22 => .int
  | 23 => .int
  | 24 => .int
  | 25 => .int
  | 26 => .array .int
  | 27 => .array .int
  | 28 => .array .boolean
  | 29 => .array .int
  | 30 => .array .int
  | 31 => .array .int
  | 32 => .array .int
  | _ => .int
abbrev wsX70 : List Cond := u_ws RX7 TX7 34
theorem nmX7 : ∀ a, a < 34 → ∀ b, b < 34 → a ≠ b → (TX7 a).2.1 ≠ (TX7 b).2.1 := by decide +kernel
theorem tyX7_ok : ∀ k, k < 34 → parseFieldDescriptor (TX7 k).2.2.1 = some (tyX7 k) := by decide +kernel
abbrev cX7_init : ByteArray := prog_9_method_1_code
def yX7_init : MethodName := ⟨RX7, "<init>", "()V"⟩
abbrev cX7_in : ByteArray := prog_9_method_2_code
def yX7_in : MethodName := ⟨RX7, "in", "(JJJ)Z"⟩
abbrev cX7_lost : ByteArray := prog_9_method_3_code
def yX7_lost : MethodName := ⟨RX7, "lost", "()J"⟩
abbrev cX7_isIn : ByteArray := prog_9_method_4_code
def yX7_isIn : MethodName := ⟨RX7, "isIn", "(II)Z"⟩
abbrev cX7_told : ByteArray := prog_9_method_5_code
def yX7_told : MethodName := ⟨RX7, "told", "(JJI)J"⟩
abbrev cX7_refused : ByteArray := prog_9_method_6_code
def yX7_refused : MethodName := ⟨RX7, "refused", "(I)I"⟩
abbrev cX7_failed : ByteArray := prog_9_method_7_code
def yX7_failed : MethodName := ⟨RX7, "failed", "(I)I"⟩
abbrev cX7_failedLong : ByteArray := prog_9_method_8_code
def yX7_failedLong : MethodName := ⟨RX7, "failedLong", "(I)J"⟩
abbrev cX7_noThing : ByteArray := prog_9_method_9_code
def yX7_noThing : MethodName := ⟨RX7, "noThing", "(I)Z"⟩
abbrev cX7_codeAt : ByteArray := prog_9_method_10_code
def yX7_codeAt : MethodName := ⟨RX7, "codeAt", "(II)I"⟩
abbrev cX7_figure : ByteArray := prog_9_method_11_code
def yX7_figure : MethodName := ⟨RX7, "figure", "(IIII)I"⟩
abbrev cX7_readsThing : ByteArray := prog_9_method_12_code
def yX7_readsThing : MethodName := ⟨RX7, "readsThing", "(II)Z"⟩
abbrev cX7_readsMuseum : ByteArray := prog_9_method_13_code
def yX7_readsMuseum : MethodName := ⟨RX7, "readsMuseum", "(II)Z"⟩
abbrev cX7_cellsBarred : ByteArray := prog_9_method_14_code
def yX7_cellsBarred : MethodName := ⟨RX7, "cellsBarred", "(IIIJ)I"⟩
abbrev cX7_museum : ByteArray := prog_9_method_15_code
def yX7_museum : MethodName := ⟨RX7, "museum", "(IIII)I"⟩
abbrev cX7_valueOf : ByteArray := prog_9_method_16_code
def yX7_valueOf : MethodName := ⟨RX7, "valueOf", "(I)I"⟩
abbrev cX7_ofThing : ByteArray := prog_9_method_17_code
def yX7_ofThing : MethodName := ⟨RX7, "ofThing", "(II)I"⟩
abbrev cX7_penalty : ByteArray := prog_9_method_18_code
def yX7_penalty : MethodName := ⟨RX7, "penalty", "(I)I"⟩
abbrev cX7_law : ByteArray := prog_9_method_19_code
def yX7_law : MethodName := ⟨RX7, "law", "(I)I"⟩
abbrev cX7_use : ByteArray := prog_9_method_20_code
def yX7_use : MethodName := ⟨RX7, "use", "(II)I"⟩
abbrev cX7_casesOf : ByteArray := prog_9_method_21_code
def yX7_casesOf : MethodName := ⟨RX7, "casesOf", "(I)I"⟩
abbrev cX7_takingOf : ByteArray := prog_9_method_22_code
def yX7_takingOf : MethodName := ⟨RX7, "takingOf", "(II)I"⟩
abbrev cX7_missedIn : ByteArray := prog_9_method_23_code
def yX7_missedIn : MethodName := ⟨RX7, "missedIn", "(I)I"⟩
abbrev cX7_goRound : ByteArray := prog_9_method_24_code
def yX7_goRound : MethodName := ⟨RX7, "goRound", "()Z"⟩
abbrev cX7_leftNow : ByteArray := prog_9_method_25_code
def yX7_leftNow : MethodName := ⟨RX7, "leftNow", "()I"⟩
abbrev cX7_roundBarred : ByteArray := prog_9_method_26_code
def yX7_roundBarred : MethodName := ⟨RX7, "roundBarred", "(III)I"⟩
abbrev cX7_round : ByteArray := prog_9_method_27_code
def yX7_round : MethodName := ⟨RX7, "round", "(IIII)I"⟩
abbrev cX7_rows : ByteArray := prog_9_method_28_code
def yX7_rows : MethodName := ⟨RX7, "rows", "()I"⟩
abbrev cX7_layRow : ByteArray := prog_9_method_29_code
def yX7_layRow : MethodName := ⟨RX7, "layRow", "(I)V"⟩
abbrev cX7_bestRow : ByteArray := prog_9_method_30_code
def yX7_bestRow : MethodName := ⟨RX7, "bestRow", "()I"⟩
abbrev cX7_best : ByteArray := prog_9_method_31_code
def yX7_best : MethodName := ⟨RX7, "best", "(I)I"⟩
abbrev cX7_mild : ByteArray := prog_9_method_32_code
def yX7_mild : MethodName := ⟨RX7, "mild", "(I)I"⟩
abbrev cX7_worth : ByteArray := prog_9_method_33_code
def yX7_worth : MethodName := ⟨RX7, "worth", "(I)I"⟩
abbrev cX7_takesOf : ByteArray := prog_9_method_34_code
def yX7_takesOf : MethodName := ⟨RX7, "takesOf", "(I)I"⟩
abbrev cX7_shift : ByteArray := prog_9_method_35_code
def yX7_shift : MethodName := ⟨RX7, "shift", "(I)I"⟩
abbrev cX7_reading : ByteArray := prog_9_method_36_code
def yX7_reading : MethodName := ⟨RX7, "reading", "(IIZ)I"⟩
abbrev cX7_back : ByteArray := prog_9_method_37_code
def yX7_back : MethodName := ⟨RX7, "back", "(I)I"⟩
abbrev cX7_isSo : ByteArray := prog_9_method_38_code
def yX7_isSo : MethodName := ⟨RX7, "isSo", "(I)Z"⟩
abbrev cX7_rounds : ByteArray := prog_9_method_39_code
def yX7_rounds : MethodName := ⟨RX7, "rounds", "(I)I"⟩
abbrev cX7_sure : ByteArray := prog_9_method_40_code
def yX7_sure : MethodName := ⟨RX7, "sure", "(I)I"⟩
abbrev cX7_seenBarred : ByteArray := prog_9_method_41_code
def yX7_seenBarred : MethodName := ⟨RX7, "seenBarred", "(IIII)I"⟩
abbrev cX7_laws : ByteArray := prog_9_method_42_code
def yX7_laws : MethodName := ⟨RX7, "laws", "(IIII)I"⟩
abbrev cX7_used : ByteArray := prog_9_method_43_code
def yX7_used : MethodName := ⟨RX7, "used", "(IIIII)I"⟩
abbrev cX7_refusedLong : ByteArray := prog_9_method_44_code
def yX7_refusedLong : MethodName := ⟨RX7, "refusedLong", "()J"⟩
abbrev cX7_odds : ByteArray := prog_9_method_45_code
def yX7_odds : MethodName := ⟨RX7, "odds", "(IIIII)J"⟩
abbrev cX7_noSheet : ByteArray := prog_9_method_46_code
def yX7_noSheet : MethodName := ⟨RX7, "noSheet", "(I)Z"⟩
abbrev cX7_sheet : ByteArray := prog_9_method_47_code
def yX7_sheet : MethodName := ⟨RX7, "sheet", "(III)I"⟩
abbrev cX7_lose : ByteArray := prog_9_method_48_code
def yX7_lose : MethodName := ⟨RX7, "lose", "(I)I"⟩
abbrev cX7_noCell : ByteArray := prog_9_method_49_code
def yX7_noCell : MethodName := ⟨RX7, "noCell", "(II)I"⟩
abbrev cX7_put : ByteArray := prog_9_method_50_code
def yX7_put : MethodName := ⟨RX7, "put", "(III)I"⟩
abbrev cX7_cell : ByteArray := prog_9_method_51_code
def yX7_cell : MethodName := ⟨RX7, "cell", "(III)J"⟩
abbrev cX7_isBeyond : ByteArray := prog_9_method_52_code
def yX7_isBeyond : MethodName := ⟨RX7, "isBeyond", "(IJI)Z"⟩
abbrev cX7_copy : ByteArray := prog_9_method_53_code
def yX7_copy : MethodName := ⟨RX7, "copy", "(IIIII)I"⟩
abbrev cX7_traced : ByteArray := prog_9_method_54_code
def yX7_traced : MethodName := ⟨RX7, "traced", "(I)V"⟩
abbrev cX7_tell : ByteArray := prog_9_method_55_code
def yX7_tell : MethodName := ⟨RX7, "tell", "(I)I"⟩
abbrev cX7_label : ByteArray := prog_9_method_56_code
def yX7_label : MethodName := ⟨RX7, "label", "(I)I"⟩
abbrev cX7_as : ByteArray := prog_9_method_57_code
def yX7_as : MethodName := ⟨RX7, "as", "(II)I"⟩
abbrev cX7_trace : ByteArray := prog_9_method_58_code
def yX7_trace : MethodName := ⟨RX7, "trace", "()I"⟩
abbrev cX7_fault : ByteArray := prog_9_method_59_code
def yX7_fault : MethodName := ⟨RX7, "fault", "()I"⟩
abbrev cX7_many : ByteArray := prog_9_method_60_code
def yX7_many : MethodName := ⟨RX7, "many", "(I)I"⟩
def RJ6 : String := "java/lang/Integer"
def TJ6 : u_T := fun k => match k with
  | _ => ("", "", "", false)
def tyJ6 : Nat → FieldType := fun k => match k with
  | _ => .int
abbrev wsJ60 : List Cond := u_ws RJ6 TJ6 0
theorem nmJ6 : ∀ a, a < 0 → ∀ b, b < 0 → a ≠ b → (TJ6 a).2.1 ≠ (TJ6 b).2.1 := by decide +kernel
theorem tyJ6_ok : ∀ k, k < 0 → parseFieldDescriptor (TJ6 k).2.2.1 = some (tyJ6 k) := by decide +kernel
abbrev cJ6_bitCount_0f7a4 : ByteArray := prog_10_method_49_code
def yJ6_bitCount_0f7a4 : MethodName := ⟨RJ6, "bitCount", "(I)I"⟩
def RJ10 : String := "java/lang/System"
def TJ10 : u_T := fun k => match k with
  | _ => ("", "", "", false)
def tyJ10 : Nat → FieldType := fun k => match k with
  | _ => .int
abbrev wsJ100 : List Cond := u_ws RJ10 TJ10 0
theorem nmJ10 : ∀ a, a < 0 → ∀ b, b < 0 → a ≠ b → (TJ10 a).2.1 ≠ (TJ10 b).2.1 := by decide +kernel
theorem tyJ10_ok : ∀ k, k < 0 → parseFieldDescriptor (TJ10 k).2.2.1 = some (tyJ10 k) := by decide +kernel
def RL : String := "UseMuseumLaw"
abbrev cL_law : ByteArray := code
def yL_law : MethodName := ⟨RL, "law", "([I)Z"⟩
end
section
theorem dX0_init_0 : decode cX0_init 0 = .ok (.aload_n 0, 1) := by decide +kernel
theorem dX0_init_1 : decode cX0_init 1 = .ok (.invokespecial 3, 3) := by decide +kernel
theorem dX0_init_4 : decode cX0_init 4 = .ok (.aload_n 0, 1) := by decide +kernel
theorem dX0_init_5 : decode cX0_init 5 = .ok (.iconst 5, 1) := by decide +kernel
theorem dX0_init_6 : decode cX0_init 6 = .ok (.anewarray 9, 3) := by decide +kernel
theorem dX0_init_9 : decode cX0_init 9 = .ok (.putfield 11, 3) := by decide +kernel
theorem dX0_init_12 : decode cX0_init 12 = .ok (.iconst 0, 1) := by decide +kernel
theorem dX0_init_13 : decode cX0_init 13 = .ok (.istore_n 1, 1) := by decide +kernel
theorem dX0_init_14 : decode cX0_init 14 = .ok (.iload_n 1, 1) := by decide +kernel
theorem dX0_init_15 : decode cX0_init 15 = .ok (.iconst 5, 1) := by decide +kernel
theorem dX0_init_16 : decode cX0_init 16 = .ok (.if_icmp .ge 22, 3) := by decide +kernel
theorem dX0_init_19 : decode cX0_init 19 = .ok (.aload_n 0, 1) := by decide +kernel
theorem dX0_init_20 : decode cX0_init 20 = .ok (.getfield 11, 3) := by decide +kernel
theorem dX0_init_23 : decode cX0_init 23 = .ok (.iload_n 1, 1) := by decide +kernel
theorem dX0_init_24 : decode cX0_init 24 = .ok (.new 9, 3) := by decide +kernel
theorem dX0_init_27 : decode cX0_init 27 = .ok (.dup, 1) := by decide +kernel
theorem dX0_init_28 : decode cX0_init 28 = .ok (.invokespecial 17, 3) := by decide +kernel
theorem dX0_init_31 : decode cX0_init 31 = .ok (.aastore, 1) := by decide +kernel
theorem dX0_init_32 : decode cX0_init 32 = .ok (.iinc 1 1, 3) := by decide +kernel
theorem dX0_init_35 : decode cX0_init 35 = .ok (.goto (-21), 3) := by decide +kernel
theorem dX0_init_38 : decode cX0_init 38 = .ok (.return_, 1) := by decide +kernel
theorem dX0_stands_0 : decode cX0_stands 0 = .ok (.aload_n 0, 1) := by decide +kernel
theorem dX0_stands_1 : decode cX0_stands 1 = .ok (.getfield 18, 3) := by decide +kernel
theorem dX0_stands_4 : decode cX0_stands 4 = .ok (.ifCond .le 7, 3) := by decide +kernel
theorem dX0_stands_7 : decode cX0_stands 7 = .ok (.iconst 1, 1) := by decide +kernel
theorem dX0_stands_8 : decode cX0_stands 8 = .ok (.goto 4, 3) := by decide +kernel
theorem dX0_stands_11 : decode cX0_stands 11 = .ok (.iconst 0, 1) := by decide +kernel
theorem dX0_stands_12 : decode cX0_stands 12 = .ok (.ireturn, 1) := by decide +kernel
theorem dX0_has_0 : decode cX0_has 0 = .ok (.iload_n 1, 1) := by decide +kernel
theorem dX0_has_1 : decode cX0_has 1 = .ok (.ifCond .lt 15, 3) := by decide +kernel
theorem dX0_has_4 : decode cX0_has 4 = .ok (.iload_n 1, 1) := by decide +kernel
theorem dX0_has_5 : decode cX0_has 5 = .ok (.aload_n 0, 1) := by decide +kernel
theorem dX0_has_6 : decode cX0_has 6 = .ok (.getfield 18, 3) := by decide +kernel
theorem dX0_has_9 : decode cX0_has 9 = .ok (.if_icmp .ge 7, 3) := by decide +kernel
theorem dX0_has_12 : decode cX0_has 12 = .ok (.iconst 1, 1) := by decide +kernel
theorem dX0_has_13 : decode cX0_has 13 = .ok (.goto 4, 3) := by decide +kernel
theorem dX0_has_16 : decode cX0_has 16 = .ok (.iconst 0, 1) := by decide +kernel
theorem dX0_has_17 : decode cX0_has 17 = .ok (.ireturn, 1) := by decide +kernel
theorem dX0_casesBy_0 : decode cX0_casesBy 0 = .ok (.iconst 0, 1) := by decide +kernel
theorem dX0_casesBy_1 : decode cX0_casesBy 1 = .ok (.istore 4, 2) := by decide +kernel
theorem dX0_casesBy_3 : decode cX0_casesBy 3 = .ok (.iconst 0, 1) := by decide +kernel
theorem dX0_casesBy_4 : decode cX0_casesBy 4 = .ok (.istore 5, 2) := by decide +kernel
theorem dX0_casesBy_6 : decode cX0_casesBy 6 = .ok (.iload 5, 2) := by decide +kernel
theorem dX0_casesBy_8 : decode cX0_casesBy 8 = .ok (.iload_n 2, 1) := by decide +kernel
theorem dX0_casesBy_9 : decode cX0_casesBy 9 = .ok (.if_icmp .ge 50, 3) := by decide +kernel
theorem dX0_casesBy_12 : decode cX0_casesBy 12 = .ok (.aload_n 1, 1) := by decide +kernel
theorem dX0_casesBy_13 : decode cX0_casesBy 13 = .ok (.iload 5, 2) := by decide +kernel
theorem dX0_casesBy_15 : decode cX0_casesBy 15 = .ok (.iaload, 1) := by decide +kernel
theorem dX0_casesBy_16 : decode cX0_casesBy 16 = .ok (.istore 6, 2) := by decide +kernel
theorem dX0_casesBy_18 : decode cX0_casesBy 18 = .ok (.aload_n 0, 1) := by decide +kernel
theorem dX0_casesBy_19 : decode cX0_casesBy 19 = .ok (.iload 6, 2) := by decide +kernel
theorem dX0_casesBy_21 : decode cX0_casesBy 21 = .ok (.invokevirtual 22, 3) := by decide +kernel
theorem dX0_casesBy_24 : decode cX0_casesBy 24 = .ok (.ifCond .eq 29, 3) := by decide +kernel
theorem dX0_casesBy_27 : decode cX0_casesBy 27 = .ok (.iload 5, 2) := by decide +kernel
theorem dX0_casesBy_29 : decode cX0_casesBy 29 = .ok (.aload_n 0, 1) := by decide +kernel
theorem dX0_casesBy_30 : decode cX0_casesBy 30 = .ok (.getfield 11, 3) := by decide +kernel
theorem dX0_casesBy_33 : decode cX0_casesBy 33 = .ok (.iload 6, 2) := by decide +kernel
theorem dX0_casesBy_35 : decode cX0_casesBy 35 = .ok (.aaload, 1) := by decide +kernel
theorem dX0_casesBy_36 : decode cX0_casesBy 36 = .ok (.getfield 26, 3) := by decide +kernel
theorem dX0_casesBy_39 : decode cX0_casesBy 39 = .ok (.iadd, 1) := by decide +kernel
theorem dX0_casesBy_40 : decode cX0_casesBy 40 = .ok (.iload_n 3, 1) := by decide +kernel
theorem dX0_casesBy_41 : decode cX0_casesBy 41 = .ok (.if_icmp .le 12, 3) := by decide +kernel
theorem dX0_casesBy_44 : decode cX0_casesBy 44 = .ok (.iload 4, 2) := by decide +kernel
theorem dX0_casesBy_46 : decode cX0_casesBy 46 = .ok (.iconst 1, 1) := by decide +kernel
theorem dX0_casesBy_47 : decode cX0_casesBy 47 = .ok (.iload 6, 2) := by decide +kernel
theorem dX0_casesBy_49 : decode cX0_casesBy 49 = .ok (.ishl, 1) := by decide +kernel
theorem dX0_casesBy_50 : decode cX0_casesBy 50 = .ok (.ior, 1) := by decide +kernel
theorem dX0_casesBy_51 : decode cX0_casesBy 51 = .ok (.istore 4, 2) := by decide +kernel
theorem dX0_casesBy_53 : decode cX0_casesBy 53 = .ok (.iinc 5 1, 3) := by decide +kernel
theorem dX0_casesBy_56 : decode cX0_casesBy 56 = .ok (.goto (-50), 3) := by decide +kernel
theorem dX0_casesBy_59 : decode cX0_casesBy 59 = .ok (.iload 4, 2) := by decide +kernel
theorem dX0_casesBy_61 : decode cX0_casesBy 61 = .ok (.ireturn, 1) := by decide +kernel
theorem dX0_firstWrong_0 : decode cX0_firstWrong 0 = .ok (.iconst 0, 1) := by decide +kernel
theorem dX0_firstWrong_1 : decode cX0_firstWrong 1 = .ok (.istore_n 2, 1) := by decide +kernel
theorem dX0_firstWrong_2 : decode cX0_firstWrong 2 = .ok (.iload_n 2, 1) := by decide +kernel
theorem dX0_firstWrong_3 : decode cX0_firstWrong 3 = .ok (.bipush 6, 2) := by decide +kernel
theorem dX0_firstWrong_5 : decode cX0_firstWrong 5 = .ok (.if_icmp .ge 37, 3) := by decide +kernel
theorem dX0_firstWrong_8 : decode cX0_firstWrong 8 = .ok (.aload_n 0, 1) := by decide +kernel
theorem dX0_firstWrong_9 : decode cX0_firstWrong 9 = .ok (.aload_n 1, 1) := by decide +kernel
theorem dX0_firstWrong_10 : decode cX0_firstWrong 10 = .ok (.iload_n 2, 1) := by decide +kernel
theorem dX0_firstWrong_11 : decode cX0_firstWrong 11 = .ok (.iaload, 1) := by decide +kernel
theorem dX0_firstWrong_12 : decode cX0_firstWrong 12 = .ok (.invokevirtual 22, 3) := by decide +kernel
theorem dX0_firstWrong_15 : decode cX0_firstWrong 15 = .ok (.ifCond .eq 21, 3) := by decide +kernel
theorem dX0_firstWrong_18 : decode cX0_firstWrong 18 = .ok (.aload_n 0, 1) := by decide +kernel
theorem dX0_firstWrong_19 : decode cX0_firstWrong 19 = .ok (.aload_n 1, 1) := by decide +kernel
theorem dX0_firstWrong_20 : decode cX0_firstWrong 20 = .ok (.iload_n 2, 1) := by decide +kernel
theorem dX0_firstWrong_21 : decode cX0_firstWrong 21 = .ok (.iload_n 2, 1) := by decide +kernel
theorem dX0_firstWrong_22 : decode cX0_firstWrong 22 = .ok (.invokevirtual 29, 3) := by decide +kernel
theorem dX0_firstWrong_25 : decode cX0_firstWrong 25 = .ok (.aload_n 1, 1) := by decide +kernel
theorem dX0_firstWrong_26 : decode cX0_firstWrong 26 = .ok (.iload_n 2, 1) := by decide +kernel
theorem dX0_firstWrong_27 : decode cX0_firstWrong 27 = .ok (.iaload, 1) := by decide +kernel
theorem dX0_firstWrong_28 : decode cX0_firstWrong 28 = .ok (.invokestatic 33, 3) := by decide +kernel
theorem dX0_firstWrong_31 : decode cX0_firstWrong 31 = .ok (.ifCond .eq 5, 3) := by decide +kernel
theorem dX0_firstWrong_34 : decode cX0_firstWrong 34 = .ok (.iload_n 2, 1) := by decide +kernel
theorem dX0_firstWrong_35 : decode cX0_firstWrong 35 = .ok (.ireturn, 1) := by decide +kernel
theorem dX0_firstWrong_36 : decode cX0_firstWrong 36 = .ok (.iinc 2 1, 3) := by decide +kernel
theorem dX0_firstWrong_39 : decode cX0_firstWrong 39 = .ok (.goto (-37), 3) := by decide +kernel
theorem dX0_firstWrong_42 : decode cX0_firstWrong 42 = .ok (.bipush (-9), 2) := by decide +kernel
theorem dX0_firstWrong_44 : decode cX0_firstWrong 44 = .ok (.ireturn, 1) := by decide +kernel
theorem dX0_takingsBy_0 : decode cX0_takingsBy 0 = .ok (.iconst 0, 1) := by decide +kernel
theorem dX0_takingsBy_1 : decode cX0_takingsBy 1 = .ok (.istore_n 3, 1) := by decide +kernel
theorem dX0_takingsBy_2 : decode cX0_takingsBy 2 = .ok (.iconst 0, 1) := by decide +kernel
theorem dX0_takingsBy_3 : decode cX0_takingsBy 3 = .ok (.istore 4, 2) := by decide +kernel
theorem dX0_takingsBy_5 : decode cX0_takingsBy 5 = .ok (.iload 4, 2) := by decide +kernel
theorem dX0_takingsBy_7 : decode cX0_takingsBy 7 = .ok (.bipush 6, 2) := by decide +kernel
theorem dX0_takingsBy_9 : decode cX0_takingsBy 9 = .ok (.if_icmp .ge 43, 3) := by decide +kernel
theorem dX0_takingsBy_12 : decode cX0_takingsBy 12 = .ok (.aload_n 0, 1) := by decide +kernel
theorem dX0_takingsBy_13 : decode cX0_takingsBy 13 = .ok (.aload_n 1, 1) := by decide +kernel
theorem dX0_takingsBy_14 : decode cX0_takingsBy 14 = .ok (.iload 4, 2) := by decide +kernel
theorem dX0_takingsBy_16 : decode cX0_takingsBy 16 = .ok (.iaload, 1) := by decide +kernel
theorem dX0_takingsBy_17 : decode cX0_takingsBy 17 = .ok (.invokevirtual 22, 3) := by decide +kernel
theorem dX0_takingsBy_20 : decode cX0_takingsBy 20 = .ok (.ifCond .eq 26, 3) := by decide +kernel
theorem dX0_takingsBy_23 : decode cX0_takingsBy 23 = .ok (.iload_n 3, 1) := by decide +kernel
theorem dX0_takingsBy_24 : decode cX0_takingsBy 24 = .ok (.aload_n 0, 1) := by decide +kernel
theorem dX0_takingsBy_25 : decode cX0_takingsBy 25 = .ok (.aload_n 1, 1) := by decide +kernel
theorem dX0_takingsBy_26 : decode cX0_takingsBy 26 = .ok (.iload 4, 2) := by decide +kernel
theorem dX0_takingsBy_28 : decode cX0_takingsBy 28 = .ok (.iaload, 1) := by decide +kernel
theorem dX0_takingsBy_29 : decode cX0_takingsBy 29 = .ok (.iload 4, 2) := by decide +kernel
theorem dX0_takingsBy_31 : decode cX0_takingsBy 31 = .ok (.aload_n 0, 1) := by decide +kernel
theorem dX0_takingsBy_32 : decode cX0_takingsBy 32 = .ok (.aload_n 1, 1) := by decide +kernel
theorem dX0_takingsBy_33 : decode cX0_takingsBy 33 = .ok (.iload 4, 2) := by decide +kernel
theorem dX0_takingsBy_35 : decode cX0_takingsBy 35 = .ok (.iload 4, 2) := by decide +kernel
theorem dX0_takingsBy_37 : decode cX0_takingsBy 37 = .ok (.invokevirtual 29, 3) := by decide +kernel
theorem dX0_takingsBy_40 : decode cX0_takingsBy 40 = .ok (.iload_n 2, 1) := by decide +kernel
theorem dX0_takingsBy_41 : decode cX0_takingsBy 41 = .ok (.invokevirtual 37, 3) := by decide +kernel
theorem dX0_takingsBy_44 : decode cX0_takingsBy 44 = .ok (.iadd, 1) := by decide +kernel
theorem dX0_takingsBy_45 : decode cX0_takingsBy 45 = .ok (.istore_n 3, 1) := by decide +kernel
theorem dX0_takingsBy_46 : decode cX0_takingsBy 46 = .ok (.iinc 4 1, 3) := by decide +kernel
theorem dX0_takingsBy_49 : decode cX0_takingsBy 49 = .ok (.goto (-44), 3) := by decide +kernel
theorem dX0_takingsBy_52 : decode cX0_takingsBy 52 = .ok (.iload_n 3, 1) := by decide +kernel
theorem dX0_takingsBy_53 : decode cX0_takingsBy 53 = .ok (.ireturn, 1) := by decide +kernel
theorem dX0_missedBy_0 : decode cX0_missedBy 0 = .ok (.iconst 0, 1) := by decide +kernel
theorem dX0_missedBy_1 : decode cX0_missedBy 1 = .ok (.istore_n 2, 1) := by decide +kernel
theorem dX0_missedBy_2 : decode cX0_missedBy 2 = .ok (.iconst 0, 1) := by decide +kernel
theorem dX0_missedBy_3 : decode cX0_missedBy 3 = .ok (.istore_n 3, 1) := by decide +kernel
theorem dX0_missedBy_4 : decode cX0_missedBy 4 = .ok (.iload_n 3, 1) := by decide +kernel
theorem dX0_missedBy_5 : decode cX0_missedBy 5 = .ok (.bipush 6, 2) := by decide +kernel
theorem dX0_missedBy_7 : decode cX0_missedBy 7 = .ok (.if_icmp .ge 30, 3) := by decide +kernel
theorem dX0_missedBy_10 : decode cX0_missedBy 10 = .ok (.aload_n 0, 1) := by decide +kernel
theorem dX0_missedBy_11 : decode cX0_missedBy 11 = .ok (.aload_n 1, 1) := by decide +kernel
theorem dX0_missedBy_12 : decode cX0_missedBy 12 = .ok (.iload_n 3, 1) := by decide +kernel
theorem dX0_missedBy_13 : decode cX0_missedBy 13 = .ok (.iaload, 1) := by decide +kernel
theorem dX0_missedBy_14 : decode cX0_missedBy 14 = .ok (.invokevirtual 22, 3) := by decide +kernel
theorem dX0_missedBy_17 : decode cX0_missedBy 17 = .ok (.ifCond .eq 14, 3) := by decide +kernel
theorem dX0_missedBy_20 : decode cX0_missedBy 20 = .ok (.iload_n 2, 1) := by decide +kernel
theorem dX0_missedBy_21 : decode cX0_missedBy 21 = .ok (.aload_n 0, 1) := by decide +kernel
theorem dX0_missedBy_22 : decode cX0_missedBy 22 = .ok (.aload_n 1, 1) := by decide +kernel
theorem dX0_missedBy_23 : decode cX0_missedBy 23 = .ok (.iload_n 3, 1) := by decide +kernel
theorem dX0_missedBy_24 : decode cX0_missedBy 24 = .ok (.iaload, 1) := by decide +kernel
theorem dX0_missedBy_25 : decode cX0_missedBy 25 = .ok (.iload_n 3, 1) := by decide +kernel
theorem dX0_missedBy_26 : decode cX0_missedBy 26 = .ok (.invokevirtual 41, 3) := by decide +kernel
theorem dX0_missedBy_29 : decode cX0_missedBy 29 = .ok (.iadd, 1) := by decide +kernel
theorem dX0_missedBy_30 : decode cX0_missedBy 30 = .ok (.istore_n 2, 1) := by decide +kernel
theorem dX0_missedBy_31 : decode cX0_missedBy 31 = .ok (.iinc 3 1, 3) := by decide +kernel
theorem dX0_missedBy_34 : decode cX0_missedBy 34 = .ok (.goto (-30), 3) := by decide +kernel
theorem dX0_missedBy_37 : decode cX0_missedBy 37 = .ok (.iload_n 2, 1) := by decide +kernel
theorem dX0_missedBy_38 : decode cX0_missedBy 38 = .ok (.ireturn, 1) := by decide +kernel
theorem dX0_hoursInCase_0 : decode cX0_hoursInCase 0 = .ok (.iconst 0, 1) := by decide +kernel
theorem dX0_hoursInCase_1 : decode cX0_hoursInCase 1 = .ok (.istore_n 3, 1) := by decide +kernel
theorem dX0_hoursInCase_2 : decode cX0_hoursInCase 2 = .ok (.iconst 0, 1) := by decide +kernel
theorem dX0_hoursInCase_3 : decode cX0_hoursInCase 3 = .ok (.istore 4, 2) := by decide +kernel
theorem dX0_hoursInCase_5 : decode cX0_hoursInCase 5 = .ok (.iload 4, 2) := by decide +kernel
theorem dX0_hoursInCase_7 : decode cX0_hoursInCase 7 = .ok (.bipush 6, 2) := by decide +kernel
theorem dX0_hoursInCase_9 : decode cX0_hoursInCase 9 = .ok (.if_icmp .ge 39, 3) := by decide +kernel
theorem dX0_hoursInCase_12 : decode cX0_hoursInCase 12 = .ok (.aload_n 1, 1) := by decide +kernel
theorem dX0_hoursInCase_13 : decode cX0_hoursInCase 13 = .ok (.iload 4, 2) := by decide +kernel
theorem dX0_hoursInCase_15 : decode cX0_hoursInCase 15 = .ok (.iaload, 1) := by decide +kernel
theorem dX0_hoursInCase_16 : decode cX0_hoursInCase 16 = .ok (.iload_n 2, 1) := by decide +kernel
theorem dX0_hoursInCase_17 : decode cX0_hoursInCase 17 = .ok (.if_icmp .ne 25, 3) := by decide +kernel
theorem dX0_hoursInCase_20 : decode cX0_hoursInCase 20 = .ok (.aload_n 0, 1) := by decide +kernel
theorem dX0_hoursInCase_21 : decode cX0_hoursInCase 21 = .ok (.iload_n 2, 1) := by decide +kernel
theorem dX0_hoursInCase_22 : decode cX0_hoursInCase 22 = .ok (.invokevirtual 22, 3) := by decide +kernel
theorem dX0_hoursInCase_25 : decode cX0_hoursInCase 25 = .ok (.ifCond .eq 17, 3) := by decide +kernel
theorem dX0_hoursInCase_28 : decode cX0_hoursInCase 28 = .ok (.iload_n 3, 1) := by decide +kernel
theorem dX0_hoursInCase_29 : decode cX0_hoursInCase 29 = .ok (.aload_n 0, 1) := by decide +kernel
theorem dX0_hoursInCase_30 : decode cX0_hoursInCase 30 = .ok (.getfield 11, 3) := by decide +kernel
theorem dX0_hoursInCase_33 : decode cX0_hoursInCase 33 = .ok (.iload_n 2, 1) := by decide +kernel
theorem dX0_hoursInCase_34 : decode cX0_hoursInCase 34 = .ok (.aaload, 1) := by decide +kernel
theorem dX0_hoursInCase_35 : decode cX0_hoursInCase 35 = .ok (.iload 4, 2) := by decide +kernel
theorem dX0_hoursInCase_37 : decode cX0_hoursInCase 37 = .ok (.invokevirtual 45, 3) := by decide +kernel
theorem dX0_hoursInCase_40 : decode cX0_hoursInCase 40 = .ok (.ior, 1) := by decide +kernel
theorem dX0_hoursInCase_41 : decode cX0_hoursInCase 41 = .ok (.istore_n 3, 1) := by decide +kernel
theorem dX0_hoursInCase_42 : decode cX0_hoursInCase 42 = .ok (.iinc 4 1, 3) := by decide +kernel
theorem dX0_hoursInCase_45 : decode cX0_hoursInCase 45 = .ok (.goto (-40), 3) := by decide +kernel
theorem dX0_hoursInCase_48 : decode cX0_hoursInCase 48 = .ok (.iload_n 3, 1) := by decide +kernel
theorem dX0_hoursInCase_49 : decode cX0_hoursInCase 49 = .ok (.ireturn, 1) := by decide +kernel
theorem dX0_gain_0 : decode cX0_gain 0 = .ok (.aload_n 0, 1) := by decide +kernel
theorem dX0_gain_1 : decode cX0_gain 1 = .ok (.getfield 11, 3) := by decide +kernel
theorem dX0_gain_4 : decode cX0_gain 4 = .ok (.iload_n 1, 1) := by decide +kernel
theorem dX0_gain_5 : decode cX0_gain 5 = .ok (.aaload, 1) := by decide +kernel
theorem dX0_gain_6 : decode cX0_gain 6 = .ok (.astore 5, 2) := by decide +kernel
theorem dX0_gain_8 : decode cX0_gain 8 = .ok (.aload 5, 2) := by decide +kernel
theorem dX0_gain_10 : decode cX0_gain 10 = .ok (.invokevirtual 49, 3) := by decide +kernel
theorem dX0_gain_13 : decode cX0_gain 13 = .ok (.istore 6, 2) := by decide +kernel
theorem dX0_gain_15 : decode cX0_gain 15 = .ok (.iload 4, 2) := by decide +kernel
theorem dX0_gain_17 : decode cX0_gain 17 = .ok (.iconst 1, 1) := by decide +kernel
theorem dX0_gain_18 : decode cX0_gain 18 = .ok (.iand, 1) := by decide +kernel
theorem dX0_gain_19 : decode cX0_gain 19 = .ok (.ifCond .eq 25, 3) := by decide +kernel
theorem dX0_gain_22 : decode cX0_gain 22 = .ok (.aload 5, 2) := by decide +kernel
theorem dX0_gain_24 : decode cX0_gain 24 = .ok (.getfield 53, 3) := by decide +kernel
theorem dX0_gain_27 : decode cX0_gain 27 = .ok (.iload_n 2, 1) := by decide +kernel
theorem dX0_gain_28 : decode cX0_gain 28 = .ok (.invokestatic 33, 3) := by decide +kernel
theorem dX0_gain_31 : decode cX0_gain 31 = .ok (.ifCond .eq 13, 3) := by decide +kernel
theorem dX0_gain_34 : decode cX0_gain 34 = .ok (.iload 6, 2) := by decide +kernel
theorem dX0_gain_36 : decode cX0_gain 36 = .ok (.aload 5, 2) := by decide +kernel
theorem dX0_gain_38 : decode cX0_gain 38 = .ok (.invokevirtual 49, 3) := by decide +kernel
theorem dX0_gain_41 : decode cX0_gain 41 = .ok (.iadd, 1) := by decide +kernel
theorem dX0_gain_42 : decode cX0_gain 42 = .ok (.istore 6, 2) := by decide +kernel
theorem dX0_gain_44 : decode cX0_gain 44 = .ok (.iload 4, 2) := by decide +kernel
theorem dX0_gain_46 : decode cX0_gain 46 = .ok (.iconst 2, 1) := by decide +kernel
theorem dX0_gain_47 : decode cX0_gain 47 = .ok (.iand, 1) := by decide +kernel
theorem dX0_gain_48 : decode cX0_gain 48 = .ok (.ifCond .eq 15, 3) := by decide +kernel
theorem dX0_gain_51 : decode cX0_gain 51 = .ok (.aload_n 0, 1) := by decide +kernel
theorem dX0_gain_52 : decode cX0_gain 52 = .ok (.iload_n 1, 1) := by decide +kernel
theorem dX0_gain_53 : decode cX0_gain 53 = .ok (.iload_n 3, 1) := by decide +kernel
theorem dX0_gain_54 : decode cX0_gain 54 = .ok (.invokevirtual 56, 3) := by decide +kernel
theorem dX0_gain_57 : decode cX0_gain 57 = .ok (.ifCond .eq 6, 3) := by decide +kernel
theorem dX0_gain_60 : decode cX0_gain 60 = .ok (.iinc 6 5, 3) := by decide +kernel
theorem dX0_gain_63 : decode cX0_gain 63 = .ok (.iload 6, 2) := by decide +kernel
theorem dX0_gain_65 : decode cX0_gain 65 = .ok (.ireturn, 1) := by decide +kernel
theorem dX0_isLast_0 : decode cX0_isLast 0 = .ok (.iconst 0, 1) := by decide +kernel
theorem dX0_isLast_1 : decode cX0_isLast 1 = .ok (.istore_n 3, 1) := by decide +kernel
theorem dX0_isLast_2 : decode cX0_isLast 2 = .ok (.iload_n 3, 1) := by decide +kernel
theorem dX0_isLast_3 : decode cX0_isLast 3 = .ok (.aload_n 0, 1) := by decide +kernel
theorem dX0_isLast_4 : decode cX0_isLast 4 = .ok (.getfield 18, 3) := by decide +kernel
theorem dX0_isLast_7 : decode cX0_isLast 7 = .ok (.if_icmp .ge 45, 3) := by decide +kernel
theorem dX0_isLast_10 : decode cX0_isLast 10 = .ok (.iload_n 3, 1) := by decide +kernel
theorem dX0_isLast_11 : decode cX0_isLast 11 = .ok (.iload_n 1, 1) := by decide +kernel
theorem dX0_isLast_12 : decode cX0_isLast 12 = .ok (.if_icmp .eq 34, 3) := by decide +kernel
theorem dX0_isLast_15 : decode cX0_isLast 15 = .ok (.aload_n 0, 1) := by decide +kernel
theorem dX0_isLast_16 : decode cX0_isLast 16 = .ok (.getfield 11, 3) := by decide +kernel
theorem dX0_isLast_19 : decode cX0_isLast 19 = .ok (.iload_n 3, 1) := by decide +kernel
theorem dX0_isLast_20 : decode cX0_isLast 20 = .ok (.aaload, 1) := by decide +kernel
theorem dX0_isLast_21 : decode cX0_isLast 21 = .ok (.getfield 59, 3) := by decide +kernel
theorem dX0_isLast_24 : decode cX0_isLast 24 = .ok (.aload_n 0, 1) := by decide +kernel
theorem dX0_isLast_25 : decode cX0_isLast 25 = .ok (.getfield 11, 3) := by decide +kernel
theorem dX0_isLast_28 : decode cX0_isLast 28 = .ok (.iload_n 1, 1) := by decide +kernel
theorem dX0_isLast_29 : decode cX0_isLast 29 = .ok (.aaload, 1) := by decide +kernel
theorem dX0_isLast_30 : decode cX0_isLast 30 = .ok (.getfield 59, 3) := by decide +kernel
theorem dX0_isLast_33 : decode cX0_isLast 33 = .ok (.if_icmp .ne 13, 3) := by decide +kernel
theorem dX0_isLast_36 : decode cX0_isLast 36 = .ok (.iload_n 2, 1) := by decide +kernel
theorem dX0_isLast_37 : decode cX0_isLast 37 = .ok (.iload_n 3, 1) := by decide +kernel
theorem dX0_isLast_38 : decode cX0_isLast 38 = .ok (.invokestatic 33, 3) := by decide +kernel
theorem dX0_isLast_41 : decode cX0_isLast 41 = .ok (.ifCond .ne 5, 3) := by decide +kernel
theorem dX0_isLast_44 : decode cX0_isLast 44 = .ok (.iconst 0, 1) := by decide +kernel
theorem dX0_isLast_45 : decode cX0_isLast 45 = .ok (.ireturn, 1) := by decide +kernel
theorem dX0_isLast_46 : decode cX0_isLast 46 = .ok (.iinc 3 1, 3) := by decide +kernel
theorem dX0_isLast_49 : decode cX0_isLast 49 = .ok (.goto (-47), 3) := by decide +kernel
theorem dX0_isLast_52 : decode cX0_isLast 52 = .ok (.iconst 1, 1) := by decide +kernel
theorem dX0_isLast_53 : decode cX0_isLast 53 = .ok (.ireturn, 1) := by decide +kernel
theorem dX0_missedByTake_0 : decode cX0_missedByTake 0 = .ok (.aload_n 0, 1) := by decide +kernel
theorem dX0_missedByTake_1 : decode cX0_missedByTake 1 = .ok (.getfield 11, 3) := by decide +kernel
theorem dX0_missedByTake_4 : decode cX0_missedByTake 4 = .ok (.iload_n 1, 1) := by decide +kernel
theorem dX0_missedByTake_5 : decode cX0_missedByTake 5 = .ok (.aaload, 1) := by decide +kernel
theorem dX0_missedByTake_6 : decode cX0_missedByTake 6 = .ok (.getfield 53, 3) := by decide +kernel
theorem dX0_missedByTake_9 : decode cX0_missedByTake 9 = .ok (.aload_n 0, 1) := by decide +kernel
theorem dX0_missedByTake_10 : decode cX0_missedByTake 10 = .ok (.getfield 11, 3) := by decide +kernel
theorem dX0_missedByTake_13 : decode cX0_missedByTake 13 = .ok (.iload_n 1, 1) := by decide +kernel
theorem dX0_missedByTake_14 : decode cX0_missedByTake 14 = .ok (.aaload, 1) := by decide +kernel
theorem dX0_missedByTake_15 : decode cX0_missedByTake 15 = .ok (.iload_n 2, 1) := by decide +kernel
theorem dX0_missedByTake_16 : decode cX0_missedByTake 16 = .ok (.invokevirtual 45, 3) := by decide +kernel
theorem dX0_missedByTake_19 : decode cX0_missedByTake 19 = .ok (.iand, 1) := by decide +kernel
theorem dX0_missedByTake_20 : decode cX0_missedByTake 20 = .ok (.invokestatic 62, 3) := by decide +kernel
theorem dX0_missedByTake_23 : decode cX0_missedByTake 23 = .ok (.ireturn, 1) := by decide +kernel
theorem dX1_init_0 : decode cX1_init 0 = .ok (.aload_n 0, 1) := by decide +kernel
theorem dX1_init_1 : decode cX1_init 1 = .ok (.invokespecial 3, 3) := by decide +kernel
theorem dX1_init_4 : decode cX1_init 4 = .ok (.aload_n 0, 1) := by decide +kernel
theorem dX1_init_5 : decode cX1_init 5 = .ok (.bipush 8, 2) := by decide +kernel
theorem dX1_init_7 : decode cX1_init 7 = .ok (.newarray .int, 2) := by decide +kernel
theorem dX1_init_9 : decode cX1_init 9 = .ok (.putfield 9, 3) := by decide +kernel
theorem dX1_init_12 : decode cX1_init 12 = .ok (.aload_n 0, 1) := by decide +kernel
theorem dX1_init_13 : decode cX1_init 13 = .ok (.bipush 8, 2) := by decide +kernel
theorem dX1_init_15 : decode cX1_init 15 = .ok (.newarray .int, 2) := by decide +kernel
theorem dX1_init_17 : decode cX1_init 17 = .ok (.putfield 15, 3) := by decide +kernel
theorem dX1_init_20 : decode cX1_init 20 = .ok (.aload_n 0, 1) := by decide +kernel
theorem dX1_init_21 : decode cX1_init 21 = .ok (.bipush 8, 2) := by decide +kernel
theorem dX1_init_23 : decode cX1_init 23 = .ok (.newarray .boolean, 2) := by decide +kernel
theorem dX1_init_25 : decode cX1_init 25 = .ok (.putfield 18, 3) := by decide +kernel
theorem dX1_init_28 : decode cX1_init 28 = .ok (.return_, 1) := by decide +kernel
theorem dX1_add_0 : decode cX1_add 0 = .ok (.aload_n 0, 1) := by decide +kernel
theorem dX1_add_1 : decode cX1_add 1 = .ok (.getfield 22, 3) := by decide +kernel
theorem dX1_add_4 : decode cX1_add 4 = .ok (.bipush 8, 2) := by decide +kernel
theorem dX1_add_6 : decode cX1_add 6 = .ok (.if_icmp .lt 6, 3) := by decide +kernel
theorem dX1_add_9 : decode cX1_add 9 = .ok (.bipush (-4), 2) := by decide +kernel
theorem dX1_add_11 : decode cX1_add 11 = .ok (.ireturn, 1) := by decide +kernel
theorem dX1_add_12 : decode cX1_add 12 = .ok (.aload_n 0, 1) := by decide +kernel
theorem dX1_add_13 : decode cX1_add 13 = .ok (.getfield 9, 3) := by decide +kernel
theorem dX1_add_16 : decode cX1_add 16 = .ok (.aload_n 0, 1) := by decide +kernel
theorem dX1_add_17 : decode cX1_add 17 = .ok (.getfield 22, 3) := by decide +kernel
theorem dX1_add_20 : decode cX1_add 20 = .ok (.iload_n 1, 1) := by decide +kernel
theorem dX1_add_21 : decode cX1_add 21 = .ok (.iastore, 1) := by decide +kernel
theorem dX1_add_22 : decode cX1_add 22 = .ok (.aload_n 0, 1) := by decide +kernel
theorem dX1_add_23 : decode cX1_add 23 = .ok (.getfield 15, 3) := by decide +kernel
theorem dX1_add_26 : decode cX1_add 26 = .ok (.aload_n 0, 1) := by decide +kernel
theorem dX1_add_27 : decode cX1_add 27 = .ok (.getfield 22, 3) := by decide +kernel
theorem dX1_add_30 : decode cX1_add 30 = .ok (.iload_n 2, 1) := by decide +kernel
theorem dX1_add_31 : decode cX1_add 31 = .ok (.iastore, 1) := by decide +kernel
theorem dX1_add_32 : decode cX1_add 32 = .ok (.aload_n 0, 1) := by decide +kernel
theorem dX1_add_33 : decode cX1_add 33 = .ok (.getfield 18, 3) := by decide +kernel
theorem dX1_add_36 : decode cX1_add 36 = .ok (.aload_n 0, 1) := by decide +kernel
theorem dX1_add_37 : decode cX1_add 37 = .ok (.getfield 22, 3) := by decide +kernel
theorem dX1_add_40 : decode cX1_add 40 = .ok (.iload_n 3, 1) := by decide +kernel
theorem dX1_add_41 : decode cX1_add 41 = .ok (.bastore, 1) := by decide +kernel
theorem dX1_add_42 : decode cX1_add 42 = .ok (.aload_n 0, 1) := by decide +kernel
theorem dX1_add_43 : decode cX1_add 43 = .ok (.dup, 1) := by decide +kernel
theorem dX1_add_44 : decode cX1_add 44 = .ok (.getfield 22, 3) := by decide +kernel
theorem dX1_add_47 : decode cX1_add 47 = .ok (.dup_x1, 1) := by decide +kernel
theorem dX1_add_48 : decode cX1_add 48 = .ok (.iconst 1, 1) := by decide +kernel
theorem dX1_add_49 : decode cX1_add 49 = .ok (.iadd, 1) := by decide +kernel
theorem dX1_add_50 : decode cX1_add 50 = .ok (.putfield 22, 3) := by decide +kernel
theorem dX1_add_53 : decode cX1_add 53 = .ok (.ireturn, 1) := by decide +kernel
theorem dX1_bind_0 : decode cX1_bind 0 = .ok (.iconst 0, 1) := by decide +kernel
theorem dX1_bind_1 : decode cX1_bind 1 = .ok (.istore_n 2, 1) := by decide +kernel
theorem dX1_bind_2 : decode cX1_bind 2 = .ok (.iload_n 2, 1) := by decide +kernel
theorem dX1_bind_3 : decode cX1_bind 3 = .ok (.aload_n 0, 1) := by decide +kernel
theorem dX1_bind_4 : decode cX1_bind 4 = .ok (.getfield 22, 3) := by decide +kernel
theorem dX1_bind_7 : decode cX1_bind 7 = .ok (.if_icmp .ge 49, 3) := by decide +kernel
theorem dX1_bind_10 : decode cX1_bind 10 = .ok (.aload_n 0, 1) := by decide +kernel
theorem dX1_bind_11 : decode cX1_bind 11 = .ok (.getfield 18, 3) := by decide +kernel
theorem dX1_bind_14 : decode cX1_bind 14 = .ok (.iload_n 2, 1) := by decide +kernel
theorem dX1_bind_15 : decode cX1_bind 15 = .ok (.baload, 1) := by decide +kernel
theorem dX1_bind_16 : decode cX1_bind 16 = .ok (.ifCond .eq 10, 3) := by decide +kernel
theorem dX1_bind_19 : decode cX1_bind 19 = .ok (.aload_n 1, 1) := by decide +kernel
theorem dX1_bind_20 : decode cX1_bind 20 = .ok (.getfield 26, 3) := by decide +kernel
theorem dX1_bind_23 : decode cX1_bind 23 = .ok (.goto 7, 3) := by decide +kernel
theorem dX1_bind_26 : decode cX1_bind 26 = .ok (.aload_n 1, 1) := by decide +kernel
theorem dX1_bind_27 : decode cX1_bind 27 = .ok (.getfield 31, 3) := by decide +kernel
theorem dX1_bind_30 : decode cX1_bind 30 = .ok (.astore_n 3, 1) := by decide +kernel
theorem dX1_bind_31 : decode cX1_bind 31 = .ok (.aload_n 3, 1) := by decide +kernel
theorem dX1_bind_32 : decode cX1_bind 32 = .ok (.aload_n 0, 1) := by decide +kernel
theorem dX1_bind_33 : decode cX1_bind 33 = .ok (.getfield 15, 3) := by decide +kernel
theorem dX1_bind_36 : decode cX1_bind 36 = .ok (.iload_n 2, 1) := by decide +kernel
theorem dX1_bind_37 : decode cX1_bind 37 = .ok (.iaload, 1) := by decide +kernel
theorem dX1_bind_38 : decode cX1_bind 38 = .ok (.dup2, 1) := by decide +kernel
theorem dX1_bind_39 : decode cX1_bind 39 = .ok (.iaload, 1) := by decide +kernel
theorem dX1_bind_40 : decode cX1_bind 40 = .ok (.iconst 1, 1) := by decide +kernel
theorem dX1_bind_41 : decode cX1_bind 41 = .ok (.aload_n 0, 1) := by decide +kernel
theorem dX1_bind_42 : decode cX1_bind 42 = .ok (.getfield 9, 3) := by decide +kernel
theorem dX1_bind_45 : decode cX1_bind 45 = .ok (.iload_n 2, 1) := by decide +kernel
theorem dX1_bind_46 : decode cX1_bind 46 = .ok (.iaload, 1) := by decide +kernel
theorem dX1_bind_47 : decode cX1_bind 47 = .ok (.ishl, 1) := by decide +kernel
theorem dX1_bind_48 : decode cX1_bind 48 = .ok (.ior, 1) := by decide +kernel
theorem dX1_bind_49 : decode cX1_bind 49 = .ok (.iastore, 1) := by decide +kernel
theorem dX1_bind_50 : decode cX1_bind 50 = .ok (.iinc 2 1, 3) := by decide +kernel
theorem dX1_bind_53 : decode cX1_bind 53 = .ok (.goto (-51), 3) := by decide +kernel
theorem dX1_bind_56 : decode cX1_bind 56 = .ok (.return_, 1) := by decide +kernel
theorem dX2_init_0 : decode cX2_init 0 = .ok (.aload_n 0, 1) := by decide +kernel
theorem dX2_init_1 : decode cX2_init 1 = .ok (.invokespecial 3, 3) := by decide +kernel
theorem dX2_init_4 : decode cX2_init 4 = .ok (.aload_n 0, 1) := by decide +kernel
theorem dX2_init_5 : decode cX2_init 5 = .ok (.bipush 6, 2) := by decide +kernel
theorem dX2_init_7 : decode cX2_init 7 = .ok (.newarray .int, 2) := by decide +kernel
theorem dX2_init_9 : decode cX2_init 9 = .ok (.putfield 9, 3) := by decide +kernel
theorem dX2_init_12 : decode cX2_init 12 = .ok (.aload_n 0, 1) := by decide +kernel
theorem dX2_init_13 : decode cX2_init 13 = .ok (.bipush 6, 2) := by decide +kernel
theorem dX2_init_15 : decode cX2_init 15 = .ok (.newarray .int, 2) := by decide +kernel
theorem dX2_init_17 : decode cX2_init 17 = .ok (.putfield 15, 3) := by decide +kernel
theorem dX2_init_20 : decode cX2_init 20 = .ok (.aload_n 0, 1) := by decide +kernel
theorem dX2_init_21 : decode cX2_init 21 = .ok (.bipush 6, 2) := by decide +kernel
theorem dX2_init_23 : decode cX2_init 23 = .ok (.newarray .int, 2) := by decide +kernel
theorem dX2_init_25 : decode cX2_init 25 = .ok (.putfield 18, 3) := by decide +kernel
theorem dX2_init_28 : decode cX2_init 28 = .ok (.aload_n 0, 1) := by decide +kernel
theorem dX2_init_29 : decode cX2_init 29 = .ok (.bipush 6, 2) := by decide +kernel
theorem dX2_init_31 : decode cX2_init 31 = .ok (.newarray .int, 2) := by decide +kernel
theorem dX2_init_33 : decode cX2_init 33 = .ok (.putfield 21, 3) := by decide +kernel
theorem dX2_init_36 : decode cX2_init 36 = .ok (.aload_n 0, 1) := by decide +kernel
theorem dX2_init_37 : decode cX2_init 37 = .ok (.bipush 6, 2) := by decide +kernel
theorem dX2_init_39 : decode cX2_init 39 = .ok (.newarray .int, 2) := by decide +kernel
theorem dX2_init_41 : decode cX2_init 41 = .ok (.putfield 24, 3) := by decide +kernel
theorem dX2_init_44 : decode cX2_init 44 = .ok (.aload_n 0, 1) := by decide +kernel
theorem dX2_init_45 : decode cX2_init 45 = .ok (.bipush 6, 2) := by decide +kernel
theorem dX2_init_47 : decode cX2_init 47 = .ok (.newarray .int, 2) := by decide +kernel
theorem dX2_init_49 : decode cX2_init 49 = .ok (.putfield 27, 3) := by decide +kernel
theorem dX2_init_52 : decode cX2_init 52 = .ok (.return_, 1) := by decide +kernel
theorem dX2_clear_0 : decode cX2_clear 0 = .ok (.iconst 0, 1) := by decide +kernel
theorem dX2_clear_1 : decode cX2_clear 1 = .ok (.istore_n 1, 1) := by decide +kernel
theorem dX2_clear_2 : decode cX2_clear 2 = .ok (.iload_n 1, 1) := by decide +kernel
theorem dX2_clear_3 : decode cX2_clear 3 = .ok (.bipush 6, 2) := by decide +kernel
theorem dX2_clear_5 : decode cX2_clear 5 = .ok (.if_icmp .ge 54, 3) := by decide +kernel
theorem dX2_clear_8 : decode cX2_clear 8 = .ok (.aload_n 0, 1) := by decide +kernel
theorem dX2_clear_9 : decode cX2_clear 9 = .ok (.getfield 9, 3) := by decide +kernel
theorem dX2_clear_12 : decode cX2_clear 12 = .ok (.iload_n 1, 1) := by decide +kernel
theorem dX2_clear_13 : decode cX2_clear 13 = .ok (.bipush (-9), 2) := by decide +kernel
theorem dX2_clear_15 : decode cX2_clear 15 = .ok (.iastore, 1) := by decide +kernel
theorem dX2_clear_16 : decode cX2_clear 16 = .ok (.aload_n 0, 1) := by decide +kernel
theorem dX2_clear_17 : decode cX2_clear 17 = .ok (.getfield 15, 3) := by decide +kernel
theorem dX2_clear_20 : decode cX2_clear 20 = .ok (.iload_n 1, 1) := by decide +kernel
theorem dX2_clear_21 : decode cX2_clear 21 = .ok (.bipush (-9), 2) := by decide +kernel
theorem dX2_clear_23 : decode cX2_clear 23 = .ok (.iastore, 1) := by decide +kernel
theorem dX2_clear_24 : decode cX2_clear 24 = .ok (.aload_n 0, 1) := by decide +kernel
theorem dX2_clear_25 : decode cX2_clear 25 = .ok (.getfield 18, 3) := by decide +kernel
theorem dX2_clear_28 : decode cX2_clear 28 = .ok (.iload_n 1, 1) := by decide +kernel
theorem dX2_clear_29 : decode cX2_clear 29 = .ok (.bipush (-9), 2) := by decide +kernel
theorem dX2_clear_31 : decode cX2_clear 31 = .ok (.iastore, 1) := by decide +kernel
theorem dX2_clear_32 : decode cX2_clear 32 = .ok (.aload_n 0, 1) := by decide +kernel
theorem dX2_clear_33 : decode cX2_clear 33 = .ok (.getfield 21, 3) := by decide +kernel
theorem dX2_clear_36 : decode cX2_clear 36 = .ok (.iload_n 1, 1) := by decide +kernel
theorem dX2_clear_37 : decode cX2_clear 37 = .ok (.iconst 0, 1) := by decide +kernel
theorem dX2_clear_38 : decode cX2_clear 38 = .ok (.iastore, 1) := by decide +kernel
theorem dX2_clear_39 : decode cX2_clear 39 = .ok (.aload_n 0, 1) := by decide +kernel
theorem dX2_clear_40 : decode cX2_clear 40 = .ok (.getfield 24, 3) := by decide +kernel
theorem dX2_clear_43 : decode cX2_clear 43 = .ok (.iload_n 1, 1) := by decide +kernel
theorem dX2_clear_44 : decode cX2_clear 44 = .ok (.iconst 0, 1) := by decide +kernel
theorem dX2_clear_45 : decode cX2_clear 45 = .ok (.iastore, 1) := by decide +kernel
theorem dX2_clear_46 : decode cX2_clear 46 = .ok (.aload_n 0, 1) := by decide +kernel
theorem dX2_clear_47 : decode cX2_clear 47 = .ok (.getfield 27, 3) := by decide +kernel
theorem dX2_clear_50 : decode cX2_clear 50 = .ok (.iload_n 1, 1) := by decide +kernel
theorem dX2_clear_51 : decode cX2_clear 51 = .ok (.iconst 0, 1) := by decide +kernel
theorem dX2_clear_52 : decode cX2_clear 52 = .ok (.iastore, 1) := by decide +kernel
theorem dX2_clear_53 : decode cX2_clear 53 = .ok (.iinc 1 1, 3) := by decide +kernel
theorem dX2_clear_56 : decode cX2_clear 56 = .ok (.goto (-54), 3) := by decide +kernel
theorem dX2_clear_59 : decode cX2_clear 59 = .ok (.aload_n 0, 1) := by decide +kernel
theorem dX2_clear_60 : decode cX2_clear 60 = .ok (.bipush (-9), 2) := by decide +kernel
theorem dX2_clear_62 : decode cX2_clear 62 = .ok (.putfield 30, 3) := by decide +kernel
theorem dX2_clear_65 : decode cX2_clear 65 = .ok (.aload_n 0, 1) := by decide +kernel
theorem dX2_clear_66 : decode cX2_clear 66 = .ok (.bipush 30, 2) := by decide +kernel
theorem dX2_clear_68 : decode cX2_clear 68 = .ok (.putfield 34, 3) := by decide +kernel
theorem dX2_clear_71 : decode cX2_clear 71 = .ok (.aload_n 0, 1) := by decide +kernel
theorem dX2_clear_72 : decode cX2_clear 72 = .ok (.iconst 0, 1) := by decide +kernel
theorem dX2_clear_73 : decode cX2_clear 73 = .ok (.putfield 37, 3) := by decide +kernel
theorem dX2_clear_76 : decode cX2_clear 76 = .ok (.aload_n 0, 1) := by decide +kernel
theorem dX2_clear_77 : decode cX2_clear 77 = .ok (.iconst 0, 1) := by decide +kernel
theorem dX2_clear_78 : decode cX2_clear 78 = .ok (.putfield 40, 3) := by decide +kernel
theorem dX2_clear_81 : decode cX2_clear 81 = .ok (.aload_n 0, 1) := by decide +kernel
theorem dX2_clear_82 : decode cX2_clear 82 = .ok (.iconst 0, 1) := by decide +kernel
theorem dX2_clear_83 : decode cX2_clear 83 = .ok (.putfield 43, 3) := by decide +kernel
theorem dX2_clear_86 : decode cX2_clear 86 = .ok (.return_, 1) := by decide +kernel
theorem dX2_fits_0 : decode cX2_fits 0 = .ok (.aload_n 0, 1) := by decide +kernel
theorem dX2_fits_1 : decode cX2_fits 1 = .ok (.getfield 24, 3) := by decide +kernel
theorem dX2_fits_4 : decode cX2_fits 4 = .ok (.iload_n 1, 1) := by decide +kernel
theorem dX2_fits_5 : decode cX2_fits 5 = .ok (.iaload, 1) := by decide +kernel
theorem dX2_fits_6 : decode cX2_fits 6 = .ok (.iload_n 2, 1) := by decide +kernel
theorem dX2_fits_7 : decode cX2_fits 7 = .ok (.iconst (-1), 1) := by decide +kernel
theorem dX2_fits_8 : decode cX2_fits 8 = .ok (.ixor, 1) := by decide +kernel
theorem dX2_fits_9 : decode cX2_fits 9 = .ok (.iand, 1) := by decide +kernel
theorem dX2_fits_10 : decode cX2_fits 10 = .ok (.ifCond .ne 18, 3) := by decide +kernel
theorem dX2_fits_13 : decode cX2_fits 13 = .ok (.aload_n 0, 1) := by decide +kernel
theorem dX2_fits_14 : decode cX2_fits 14 = .ok (.getfield 27, 3) := by decide +kernel
theorem dX2_fits_17 : decode cX2_fits 17 = .ok (.iload_n 1, 1) := by decide +kernel
theorem dX2_fits_18 : decode cX2_fits 18 = .ok (.iaload, 1) := by decide +kernel
theorem dX2_fits_19 : decode cX2_fits 19 = .ok (.iload_n 2, 1) := by decide +kernel
theorem dX2_fits_20 : decode cX2_fits 20 = .ok (.iand, 1) := by decide +kernel
theorem dX2_fits_21 : decode cX2_fits 21 = .ok (.ifCond .ne 7, 3) := by decide +kernel
theorem dX2_fits_24 : decode cX2_fits 24 = .ok (.iconst 1, 1) := by decide +kernel
theorem dX2_fits_25 : decode cX2_fits 25 = .ok (.goto 4, 3) := by decide +kernel
theorem dX2_fits_28 : decode cX2_fits 28 = .ok (.iconst 0, 1) := by decide +kernel
theorem dX2_fits_29 : decode cX2_fits 29 = .ok (.ireturn, 1) := by decide +kernel
theorem dX2_arrive_0 : decode cX2_arrive 0 = .ok (.iload_n 1, 1) := by decide +kernel
theorem dX2_arrive_1 : decode cX2_arrive 1 = .ok (.iload_n 3, 1) := by decide +kernel
theorem dX2_arrive_2 : decode cX2_arrive 2 = .ok (.iload_n 2, 1) := by decide +kernel
theorem dX2_arrive_3 : decode cX2_arrive 3 = .ok (.imul, 1) := by decide +kernel
theorem dX2_arrive_4 : decode cX2_arrive 4 = .ok (.isub, 1) := by decide +kernel
theorem dX2_arrive_5 : decode cX2_arrive 5 = .ok (.istore 4, 2) := by decide +kernel
theorem dX2_arrive_7 : decode cX2_arrive 7 = .ok (.aload_n 0, 1) := by decide +kernel
theorem dX2_arrive_8 : decode cX2_arrive 8 = .ok (.getfield 37, 3) := by decide +kernel
theorem dX2_arrive_11 : decode cX2_arrive 11 = .ok (.ifCond .ne 18, 3) := by decide +kernel
theorem dX2_arrive_14 : decode cX2_arrive 14 = .ok (.aload_n 0, 1) := by decide +kernel
theorem dX2_arrive_15 : decode cX2_arrive 15 = .ok (.getfield 9, 3) := by decide +kernel
theorem dX2_arrive_18 : decode cX2_arrive 18 = .ok (.iconst 0, 1) := by decide +kernel
theorem dX2_arrive_19 : decode cX2_arrive 19 = .ok (.aload_n 0, 1) := by decide +kernel
theorem dX2_arrive_20 : decode cX2_arrive 20 = .ok (.getfield 15, 3) := by decide +kernel
theorem dX2_arrive_23 : decode cX2_arrive 23 = .ok (.iconst 0, 1) := by decide +kernel
theorem dX2_arrive_24 : decode cX2_arrive 24 = .ok (.bipush 6, 2) := by decide +kernel
theorem dX2_arrive_26 : decode cX2_arrive 26 = .ok (.invokestatic 46, 3) := by decide +kernel
theorem dX2_arrive_29 : decode cX2_arrive 29 = .ok (.aload_n 0, 1) := by decide +kernel
theorem dX2_arrive_30 : decode cX2_arrive 30 = .ok (.getfield 37, 3) := by decide +kernel
theorem dX2_arrive_33 : decode cX2_arrive 33 = .ok (.ifCond .eq 12, 3) := by decide +kernel
theorem dX2_arrive_36 : decode cX2_arrive 36 = .ok (.iload 4, 2) := by decide +kernel
theorem dX2_arrive_38 : decode cX2_arrive 38 = .ok (.aload_n 0, 1) := by decide +kernel
theorem dX2_arrive_39 : decode cX2_arrive 39 = .ok (.getfield 40, 3) := by decide +kernel
theorem dX2_arrive_42 : decode cX2_arrive 42 = .ok (.if_icmp .le 24, 3) := by decide +kernel
theorem dX2_arrive_45 : decode cX2_arrive 45 = .ok (.aload_n 0, 1) := by decide +kernel
theorem dX2_arrive_46 : decode cX2_arrive 46 = .ok (.iload 4, 2) := by decide +kernel
theorem dX2_arrive_48 : decode cX2_arrive 48 = .ok (.putfield 40, 3) := by decide +kernel
theorem dX2_arrive_51 : decode cX2_arrive 51 = .ok (.aload_n 0, 1) := by decide +kernel
theorem dX2_arrive_52 : decode cX2_arrive 52 = .ok (.getfield 9, 3) := by decide +kernel
theorem dX2_arrive_55 : decode cX2_arrive 55 = .ok (.iconst 0, 1) := by decide +kernel
theorem dX2_arrive_56 : decode cX2_arrive 56 = .ok (.aload_n 0, 1) := by decide +kernel
theorem dX2_arrive_57 : decode cX2_arrive 57 = .ok (.getfield 18, 3) := by decide +kernel
theorem dX2_arrive_60 : decode cX2_arrive 60 = .ok (.iconst 0, 1) := by decide +kernel
theorem dX2_arrive_61 : decode cX2_arrive 61 = .ok (.bipush 6, 2) := by decide +kernel
theorem dX2_arrive_63 : decode cX2_arrive 63 = .ok (.invokestatic 46, 3) := by decide +kernel
theorem dX2_arrive_66 : decode cX2_arrive 66 = .ok (.iload_n 2, 1) := by decide +kernel
theorem dX2_arrive_67 : decode cX2_arrive 67 = .ok (.aload_n 0, 1) := by decide +kernel
theorem dX2_arrive_68 : decode cX2_arrive 68 = .ok (.getfield 34, 3) := by decide +kernel
theorem dX2_arrive_71 : decode cX2_arrive 71 = .ok (.if_icmp .gt 16, 3) := by decide +kernel
theorem dX2_arrive_74 : decode cX2_arrive 74 = .ok (.iload_n 1, 1) := by decide +kernel
theorem dX2_arrive_75 : decode cX2_arrive 75 = .ok (.aload_n 0, 1) := by decide +kernel
theorem dX2_arrive_76 : decode cX2_arrive 76 = .ok (.getfield 43, 3) := by decide +kernel
theorem dX2_arrive_79 : decode cX2_arrive 79 = .ok (.if_icmp .le 8, 3) := by decide +kernel
theorem dX2_arrive_82 : decode cX2_arrive 82 = .ok (.aload_n 0, 1) := by decide +kernel
theorem dX2_arrive_83 : decode cX2_arrive 83 = .ok (.iload_n 1, 1) := by decide +kernel
theorem dX2_arrive_84 : decode cX2_arrive 84 = .ok (.putfield 43, 3) := by decide +kernel
theorem dX2_arrive_87 : decode cX2_arrive 87 = .ok (.aload_n 0, 1) := by decide +kernel
theorem dX2_arrive_88 : decode cX2_arrive 88 = .ok (.dup, 1) := by decide +kernel
theorem dX2_arrive_89 : decode cX2_arrive 89 = .ok (.getfield 37, 3) := by decide +kernel
theorem dX2_arrive_92 : decode cX2_arrive 92 = .ok (.iconst 1, 1) := by decide +kernel
theorem dX2_arrive_93 : decode cX2_arrive 93 = .ok (.iadd, 1) := by decide +kernel
theorem dX2_arrive_94 : decode cX2_arrive 94 = .ok (.putfield 37, 3) := by decide +kernel
theorem dX2_arrive_97 : decode cX2_arrive 97 = .ok (.return_, 1) := by decide +kernel
theorem dX2_note_0 : decode cX2_note 0 = .ok (.aload_n 0, 1) := by decide +kernel
theorem dX2_note_1 : decode cX2_note 1 = .ok (.getfield 37, 3) := by decide +kernel
theorem dX2_note_4 : decode cX2_note 4 = .ok (.iload_n 3, 1) := by decide +kernel
theorem dX2_note_5 : decode cX2_note 5 = .ok (.if_icmp .le 15, 3) := by decide +kernel
theorem dX2_note_8 : decode cX2_note 8 = .ok (.aload_n 0, 1) := by decide +kernel
theorem dX2_note_9 : decode cX2_note 9 = .ok (.getfield 21, 3) := by decide +kernel
theorem dX2_note_12 : decode cX2_note 12 = .ok (.iload_n 1, 1) := by decide +kernel
theorem dX2_note_13 : decode cX2_note 13 = .ok (.dup2, 1) := by decide +kernel
theorem dX2_note_14 : decode cX2_note 14 = .ok (.iaload, 1) := by decide +kernel
theorem dX2_note_15 : decode cX2_note 15 = .ok (.iconst 1, 1) := by decide +kernel
theorem dX2_note_16 : decode cX2_note 16 = .ok (.iload_n 2, 1) := by decide +kernel
theorem dX2_note_17 : decode cX2_note 17 = .ok (.ishl, 1) := by decide +kernel
theorem dX2_note_18 : decode cX2_note 18 = .ok (.ior, 1) := by decide +kernel
theorem dX2_note_19 : decode cX2_note 19 = .ok (.iastore, 1) := by decide +kernel
theorem dX2_note_20 : decode cX2_note 20 = .ok (.return_, 1) := by decide +kernel
theorem dX3_init_0 : decode cX3_init 0 = .ok (.aload_n 0, 1) := by decide +kernel
theorem dX3_init_1 : decode cX3_init 1 = .ok (.invokespecial 3, 3) := by decide +kernel
theorem dX3_init_4 : decode cX3_init 4 = .ok (.aload_n 0, 1) := by decide +kernel
theorem dX3_init_5 : decode cX3_init 5 = .ok (.bipush 60, 2) := by decide +kernel
theorem dX3_init_7 : decode cX3_init 7 = .ok (.newarray .int, 2) := by decide +kernel
theorem dX3_init_9 : decode cX3_init 9 = .ok (.putfield 9, 3) := by decide +kernel
theorem dX3_init_12 : decode cX3_init 12 = .ok (.return_, 1) := by decide +kernel
theorem dX3_begin_0 : decode cX3_begin 0 = .ok (.aload_n 0, 1) := by decide +kernel
theorem dX3_begin_1 : decode cX3_begin 1 = .ok (.iconst 1, 1) := by decide +kernel
theorem dX3_begin_2 : decode cX3_begin 2 = .ok (.putfield 15, 3) := by decide +kernel
theorem dX3_begin_5 : decode cX3_begin 5 = .ok (.aload_n 0, 1) := by decide +kernel
theorem dX3_begin_6 : decode cX3_begin 6 = .ok (.iload_n 1, 1) := by decide +kernel
theorem dX3_begin_7 : decode cX3_begin 7 = .ok (.putfield 19, 3) := by decide +kernel
theorem dX3_begin_10 : decode cX3_begin 10 = .ok (.aload_n 0, 1) := by decide +kernel
theorem dX3_begin_11 : decode cX3_begin 11 = .ok (.iload_n 2, 1) := by decide +kernel
theorem dX3_begin_12 : decode cX3_begin 12 = .ok (.putfield 23, 3) := by decide +kernel
theorem dX3_begin_15 : decode cX3_begin 15 = .ok (.iconst 0, 1) := by decide +kernel
theorem dX3_begin_16 : decode cX3_begin 16 = .ok (.istore_n 3, 1) := by decide +kernel
theorem dX3_begin_17 : decode cX3_begin 17 = .ok (.iload_n 3, 1) := by decide +kernel
theorem dX3_begin_18 : decode cX3_begin 18 = .ok (.bipush 60, 2) := by decide +kernel
theorem dX3_begin_20 : decode cX3_begin 20 = .ok (.if_icmp .ge 16, 3) := by decide +kernel
theorem dX3_begin_23 : decode cX3_begin 23 = .ok (.aload_n 0, 1) := by decide +kernel
theorem dX3_begin_24 : decode cX3_begin 24 = .ok (.getfield 9, 3) := by decide +kernel
theorem dX3_begin_27 : decode cX3_begin 27 = .ok (.iload_n 3, 1) := by decide +kernel
theorem dX3_begin_28 : decode cX3_begin 28 = .ok (.iconst 0, 1) := by decide +kernel
theorem dX3_begin_29 : decode cX3_begin 29 = .ok (.iastore, 1) := by decide +kernel
theorem dX3_begin_30 : decode cX3_begin 30 = .ok (.iinc 3 1, 3) := by decide +kernel
theorem dX3_begin_33 : decode cX3_begin 33 = .ok (.goto (-16), 3) := by decide +kernel
theorem dX3_begin_36 : decode cX3_begin 36 = .ok (.return_, 1) := by decide +kernel
theorem dX3_holds_0 : decode cX3_holds 0 = .ok (.iload_n 1, 1) := by decide +kernel
theorem dX3_holds_1 : decode cX3_holds 1 = .ok (.ifCond .lt 29, 3) := by decide +kernel
theorem dX3_holds_4 : decode cX3_holds 4 = .ok (.iload_n 1, 1) := by decide +kernel
theorem dX3_holds_5 : decode cX3_holds 5 = .ok (.aload_n 0, 1) := by decide +kernel
theorem dX3_holds_6 : decode cX3_holds 6 = .ok (.getfield 23, 3) := by decide +kernel
theorem dX3_holds_9 : decode cX3_holds 9 = .ok (.if_icmp .gt 21, 3) := by decide +kernel
theorem dX3_holds_12 : decode cX3_holds 12 = .ok (.iload_n 2, 1) := by decide +kernel
theorem dX3_holds_13 : decode cX3_holds 13 = .ok (.ifCond .lt 17, 3) := by decide +kernel
theorem dX3_holds_16 : decode cX3_holds 16 = .ok (.iload_n 2, 1) := by decide +kernel
theorem dX3_holds_17 : decode cX3_holds 17 = .ok (.aload_n 0, 1) := by decide +kernel
theorem dX3_holds_18 : decode cX3_holds 18 = .ok (.getfield 23, 3) := by decide +kernel
theorem dX3_holds_21 : decode cX3_holds 21 = .ok (.iload_n 1, 1) := by decide +kernel
theorem dX3_holds_22 : decode cX3_holds 22 = .ok (.isub, 1) := by decide +kernel
theorem dX3_holds_23 : decode cX3_holds 23 = .ok (.if_icmp .gt 7, 3) := by decide +kernel
theorem dX3_holds_26 : decode cX3_holds 26 = .ok (.iconst 1, 1) := by decide +kernel
theorem dX3_holds_27 : decode cX3_holds 27 = .ok (.goto 4, 3) := by decide +kernel
theorem dX3_holds_30 : decode cX3_holds 30 = .ok (.iconst 0, 1) := by decide +kernel
theorem dX3_holds_31 : decode cX3_holds 31 = .ok (.ireturn, 1) := by decide +kernel
theorem dX3_faultOfCells_0 : decode cX3_faultOfCells 0 = .ok (.aload_n 0, 1) := by decide +kernel
theorem dX3_faultOfCells_1 : decode cX3_faultOfCells 1 = .ok (.getfield 15, 3) := by decide +kernel
theorem dX3_faultOfCells_4 : decode cX3_faultOfCells 4 = .ok (.ifCond .ne 5, 3) := by decide +kernel
theorem dX3_faultOfCells_7 : decode cX3_faultOfCells 7 = .ok (.iconst 1, 1) := by decide +kernel
theorem dX3_faultOfCells_8 : decode cX3_faultOfCells 8 = .ok (.ireturn, 1) := by decide +kernel
theorem dX3_faultOfCells_9 : decode cX3_faultOfCells 9 = .ok (.aload_n 0, 1) := by decide +kernel
theorem dX3_faultOfCells_10 : decode cX3_faultOfCells 10 = .ok (.getfield 19, 3) := by decide +kernel
theorem dX3_faultOfCells_13 : decode cX3_faultOfCells 13 = .ok (.iload_n 1, 1) := by decide +kernel
theorem dX3_faultOfCells_14 : decode cX3_faultOfCells 14 = .ok (.if_icmp .eq 5, 3) := by decide +kernel
theorem dX3_faultOfCells_17 : decode cX3_faultOfCells 17 = .ok (.iconst 2, 1) := by decide +kernel
theorem dX3_faultOfCells_18 : decode cX3_faultOfCells 18 = .ok (.ireturn, 1) := by decide +kernel
theorem dX3_faultOfCells_19 : decode cX3_faultOfCells 19 = .ok (.iload_n 3, 1) := by decide +kernel
theorem dX3_faultOfCells_20 : decode cX3_faultOfCells 20 = .ok (.ifCond .ge 5, 3) := by decide +kernel
theorem dX3_faultOfCells_23 : decode cX3_faultOfCells 23 = .ok (.iconst 4, 1) := by decide +kernel
theorem dX3_faultOfCells_24 : decode cX3_faultOfCells 24 = .ok (.ireturn, 1) := by decide +kernel
theorem dX3_faultOfCells_25 : decode cX3_faultOfCells 25 = .ok (.aload_n 0, 1) := by decide +kernel
theorem dX3_faultOfCells_26 : decode cX3_faultOfCells 26 = .ok (.iload_n 2, 1) := by decide +kernel
theorem dX3_faultOfCells_27 : decode cX3_faultOfCells 27 = .ok (.iload_n 3, 1) := by decide +kernel
theorem dX3_faultOfCells_28 : decode cX3_faultOfCells 28 = .ok (.invokevirtual 26, 3) := by decide +kernel
theorem dX3_faultOfCells_31 : decode cX3_faultOfCells 31 = .ok (.ifCond .eq 7, 3) := by decide +kernel
theorem dX3_faultOfCells_34 : decode cX3_faultOfCells 34 = .ok (.iconst 0, 1) := by decide +kernel
theorem dX3_faultOfCells_35 : decode cX3_faultOfCells 35 = .ok (.goto 4, 3) := by decide +kernel
theorem dX3_faultOfCells_38 : decode cX3_faultOfCells 38 = .ok (.iconst 3, 1) := by decide +kernel
theorem dX3_faultOfCells_39 : decode cX3_faultOfCells 39 = .ok (.ireturn, 1) := by decide +kernel
theorem dX3_cut_0 : decode cX3_cut 0 = .ok (.aload_n 0, 1) := by decide +kernel
theorem dX3_cut_1 : decode cX3_cut 1 = .ok (.getfield 19, 3) := by decide +kernel
theorem dX3_cut_4 : decode cX3_cut 4 = .ok (.ifCond .ne 6, 3) := by decide +kernel
theorem dX3_cut_7 : decode cX3_cut 7 = .ok (.iload_n 1, 1) := by decide +kernel
theorem dX3_cut_8 : decode cX3_cut 8 = .ok (.i2b, 1) := by decide +kernel
theorem dX3_cut_9 : decode cX3_cut 9 = .ok (.ireturn, 1) := by decide +kernel
theorem dX3_cut_10 : decode cX3_cut 10 = .ok (.aload_n 0, 1) := by decide +kernel
theorem dX3_cut_11 : decode cX3_cut 11 = .ok (.getfield 19, 3) := by decide +kernel
theorem dX3_cut_14 : decode cX3_cut 14 = .ok (.iconst 1, 1) := by decide +kernel
theorem dX3_cut_15 : decode cX3_cut 15 = .ok (.if_icmp .ne 8, 3) := by decide +kernel
theorem dX3_cut_18 : decode cX3_cut 18 = .ok (.iload_n 1, 1) := by decide +kernel
theorem dX3_cut_19 : decode cX3_cut 19 = .ok (.i2s, 1) := by decide +kernel
theorem dX3_cut_20 : decode cX3_cut 20 = .ok (.goto 4, 3) := by decide +kernel
theorem dX3_cut_23 : decode cX3_cut 23 = .ok (.iload_n 1, 1) := by decide +kernel
theorem dX3_cut_24 : decode cX3_cut 24 = .ok (.ireturn, 1) := by decide +kernel
theorem dX4_firstFault_0 : decode cX4_firstFault 0 = .ok (.iconst 0, 1) := by decide +kernel
theorem dX4_firstFault_1 : decode cX4_firstFault 1 = .ok (.istore_n 3, 1) := by decide +kernel
theorem dX4_firstFault_2 : decode cX4_firstFault 2 = .ok (.iconst 0, 1) := by decide +kernel
theorem dX4_firstFault_3 : decode cX4_firstFault 3 = .ok (.istore 4, 2) := by decide +kernel
theorem dX4_firstFault_5 : decode cX4_firstFault 5 = .ok (.iload 4, 2) := by decide +kernel
theorem dX4_firstFault_7 : decode cX4_firstFault 7 = .ok (.iload_n 2, 1) := by decide +kernel
theorem dX4_firstFault_8 : decode cX4_firstFault 8 = .ok (.if_icmp .ge 34, 3) := by decide +kernel
theorem dX4_firstFault_11 : decode cX4_firstFault 11 = .ok (.aload_n 0, 1) := by decide +kernel
theorem dX4_firstFault_12 : decode cX4_firstFault 12 = .ok (.iload_n 1, 1) := by decide +kernel
theorem dX4_firstFault_13 : decode cX4_firstFault 13 = .ok (.iload 4, 2) := by decide +kernel
theorem dX4_firstFault_15 : decode cX4_firstFault 15 = .ok (.iadd, 1) := by decide +kernel
theorem dX4_firstFault_16 : decode cX4_firstFault 16 = .ok (.iaload, 1) := by decide +kernel
theorem dX4_firstFault_17 : decode cX4_firstFault 17 = .ok (.istore 5, 2) := by decide +kernel
theorem dX4_firstFault_19 : decode cX4_firstFault 19 = .ok (.iload 4, 2) := by decide +kernel
theorem dX4_firstFault_21 : decode cX4_firstFault 21 = .ok (.iload_n 3, 1) := by decide +kernel
theorem dX4_firstFault_22 : decode cX4_firstFault 22 = .ok (.iload 5, 2) := by decide +kernel
theorem dX4_firstFault_24 : decode cX4_firstFault 24 = .ok (.invokestatic 11, 3) := by decide +kernel
theorem dX4_firstFault_27 : decode cX4_firstFault 27 = .ok (.ifCond .ne 6, 3) := by decide +kernel
theorem dX4_firstFault_30 : decode cX4_firstFault 30 = .ok (.iload 4, 2) := by decide +kernel
theorem dX4_firstFault_32 : decode cX4_firstFault 32 = .ok (.ireturn, 1) := by decide +kernel
theorem dX4_firstFault_33 : decode cX4_firstFault 33 = .ok (.iload 5, 2) := by decide +kernel
theorem dX4_firstFault_35 : decode cX4_firstFault 35 = .ok (.istore_n 3, 1) := by decide +kernel
theorem dX4_firstFault_36 : decode cX4_firstFault 36 = .ok (.iinc 4 1, 3) := by decide +kernel
theorem dX4_firstFault_39 : decode cX4_firstFault 39 = .ok (.goto (-34), 3) := by decide +kernel
theorem dX4_firstFault_42 : decode cX4_firstFault 42 = .ok (.iload_n 2, 1) := by decide +kernel
theorem dX4_firstFault_43 : decode cX4_firstFault 43 = .ok (.iconst 2, 1) := by decide +kernel
theorem dX4_firstFault_44 : decode cX4_firstFault 44 = .ok (.if_icmp .le 17, 3) := by decide +kernel
theorem dX4_firstFault_47 : decode cX4_firstFault 47 = .ok (.iload_n 2, 1) := by decide +kernel
theorem dX4_firstFault_48 : decode cX4_firstFault 48 = .ok (.iconst 2, 1) := by decide +kernel
theorem dX4_firstFault_49 : decode cX4_firstFault 49 = .ok (.isub, 1) := by decide +kernel
theorem dX4_firstFault_50 : decode cX4_firstFault 50 = .ok (.bipush 7, 2) := by decide +kernel
theorem dX4_firstFault_52 : decode cX4_firstFault 52 = .ok (.irem, 1) := by decide +kernel
theorem dX4_firstFault_53 : decode cX4_firstFault 53 = .ok (.ifCond .ne 8, 3) := by decide +kernel
theorem dX4_firstFault_56 : decode cX4_firstFault 56 = .ok (.bipush (-9), 2) := by decide +kernel
theorem dX4_firstFault_58 : decode cX4_firstFault 58 = .ok (.goto 4, 3) := by decide +kernel
theorem dX4_firstFault_61 : decode cX4_firstFault 61 = .ok (.iload_n 2, 1) := by decide +kernel
theorem dX4_firstFault_62 : decode cX4_firstFault 62 = .ok (.ireturn, 1) := by decide +kernel
theorem dX4_goesOn_0 : decode cX4_goesOn 0 = .ok (.iload_n 0, 1) := by decide +kernel
theorem dX4_goesOn_1 : decode cX4_goesOn 1 = .ok (.ifCond .ne 15, 3) := by decide +kernel
theorem dX4_goesOn_4 : decode cX4_goesOn 4 = .ok (.iload_n 2, 1) := by decide +kernel
theorem dX4_goesOn_5 : decode cX4_goesOn 5 = .ok (.bipush 117, 2) := by decide +kernel
theorem dX4_goesOn_7 : decode cX4_goesOn 7 = .ok (.if_icmp .ne 7, 3) := by decide +kernel
theorem dX4_goesOn_10 : decode cX4_goesOn 10 = .ok (.iconst 1, 1) := by decide +kernel
theorem dX4_goesOn_11 : decode cX4_goesOn 11 = .ok (.goto 4, 3) := by decide +kernel
theorem dX4_goesOn_14 : decode cX4_goesOn 14 = .ok (.iconst 0, 1) := by decide +kernel
theorem dX4_goesOn_15 : decode cX4_goesOn 15 = .ok (.ireturn, 1) := by decide +kernel
theorem dX4_goesOn_16 : decode cX4_goesOn 16 = .ok (.iload_n 0, 1) := by decide +kernel
theorem dX4_goesOn_17 : decode cX4_goesOn 17 = .ok (.iconst 1, 1) := by decide +kernel
theorem dX4_goesOn_18 : decode cX4_goesOn 18 = .ok (.if_icmp .ne 11, 3) := by decide +kernel
theorem dX4_goesOn_21 : decode cX4_goesOn 21 = .ok (.iload_n 2, 1) := by decide +kernel
theorem dX4_goesOn_22 : decode cX4_goesOn 22 = .ok (.iconst 0, 1) := by decide +kernel
theorem dX4_goesOn_23 : decode cX4_goesOn 23 = .ok (.bipush 9, 2) := by decide +kernel
theorem dX4_goesOn_25 : decode cX4_goesOn 25 = .ok (.invokestatic 15, 3) := by decide +kernel
theorem dX4_goesOn_28 : decode cX4_goesOn 28 = .ok (.ireturn, 1) := by decide +kernel
theorem dX4_goesOn_29 : decode cX4_goesOn 29 = .ok (.iload_n 0, 1) := by decide +kernel
theorem dX4_goesOn_30 : decode cX4_goesOn 30 = .ok (.bipush 37, 2) := by decide +kernel
theorem dX4_goesOn_32 : decode cX4_goesOn 32 = .ok (.if_icmp .lt 5, 3) := by decide +kernel
theorem dX4_goesOn_35 : decode cX4_goesOn 35 = .ok (.iconst 0, 1) := by decide +kernel
theorem dX4_goesOn_36 : decode cX4_goesOn 36 = .ok (.ireturn, 1) := by decide +kernel
theorem dX4_goesOn_37 : decode cX4_goesOn 37 = .ok (.iload_n 0, 1) := by decide +kernel
theorem dX4_goesOn_38 : decode cX4_goesOn 38 = .ok (.iconst 2, 1) := by decide +kernel
theorem dX4_goesOn_39 : decode cX4_goesOn 39 = .ok (.isub, 1) := by decide +kernel
theorem dX4_goesOn_40 : decode cX4_goesOn 40 = .ok (.bipush 7, 2) := by decide +kernel
theorem dX4_goesOn_42 : decode cX4_goesOn 42 = .ok (.irem, 1) := by decide +kernel
theorem dX4_goesOn_43 : decode cX4_goesOn 43 = .ok (.tableswitch 104 0 5 #[37, 49, 73, 80, 88, 96], 37) := by decide +kernel
theorem dX4_goesOn_80 : decode cX4_goesOn 80 = .ok (.iload_n 2, 1) := by decide +kernel
theorem dX4_goesOn_81 : decode cX4_goesOn 81 = .ok (.bipush 59, 2) := by decide +kernel
theorem dX4_goesOn_83 : decode cX4_goesOn 83 = .ok (.if_icmp .ne 7, 3) := by decide +kernel
theorem dX4_goesOn_86 : decode cX4_goesOn 86 = .ok (.iconst 1, 1) := by decide +kernel
theorem dX4_goesOn_87 : decode cX4_goesOn 87 = .ok (.goto 4, 3) := by decide +kernel
theorem dX4_goesOn_90 : decode cX4_goesOn 90 = .ok (.iconst 0, 1) := by decide +kernel
theorem dX4_goesOn_91 : decode cX4_goesOn 91 = .ok (.ireturn, 1) := by decide +kernel
theorem dX4_goesOn_92 : decode cX4_goesOn 92 = .ok (.iload_n 2, 1) := by decide +kernel
theorem dX4_goesOn_93 : decode cX4_goesOn 93 = .ok (.bipush 116, 2) := by decide +kernel
theorem dX4_goesOn_95 : decode cX4_goesOn 95 = .ok (.if_icmp .eq 15, 3) := by decide +kernel
theorem dX4_goesOn_98 : decode cX4_goesOn 98 = .ok (.iload_n 2, 1) := by decide +kernel
theorem dX4_goesOn_99 : decode cX4_goesOn 99 = .ok (.bipush 104, 2) := by decide +kernel
theorem dX4_goesOn_101 : decode cX4_goesOn 101 = .ok (.if_icmp .eq 9, 3) := by decide +kernel
theorem dX4_goesOn_104 : decode cX4_goesOn 104 = .ok (.iload_n 2, 1) := by decide +kernel
theorem dX4_goesOn_105 : decode cX4_goesOn 105 = .ok (.bipush 108, 2) := by decide +kernel
theorem dX4_goesOn_107 : decode cX4_goesOn 107 = .ok (.if_icmp .ne 7, 3) := by decide +kernel
theorem dX4_goesOn_110 : decode cX4_goesOn 110 = .ok (.iconst 1, 1) := by decide +kernel
theorem dX4_goesOn_111 : decode cX4_goesOn 111 = .ok (.goto 4, 3) := by decide +kernel
theorem dX4_goesOn_114 : decode cX4_goesOn 114 = .ok (.iconst 0, 1) := by decide +kernel
theorem dX4_goesOn_115 : decode cX4_goesOn 115 = .ok (.ireturn, 1) := by decide +kernel
theorem dX4_goesOn_116 : decode cX4_goesOn 116 = .ok (.iload_n 2, 1) := by decide +kernel
theorem dX4_goesOn_117 : decode cX4_goesOn 117 = .ok (.iconst 0, 1) := by decide +kernel
theorem dX4_goesOn_118 : decode cX4_goesOn 118 = .ok (.iconst 3, 1) := by decide +kernel
theorem dX4_goesOn_119 : decode cX4_goesOn 119 = .ok (.invokestatic 15, 3) := by decide +kernel
theorem dX4_goesOn_122 : decode cX4_goesOn 122 = .ok (.ireturn, 1) := by decide +kernel
theorem dX4_goesOn_123 : decode cX4_goesOn 123 = .ok (.iload_n 2, 1) := by decide +kernel
theorem dX4_goesOn_124 : decode cX4_goesOn 124 = .ok (.iconst 1, 1) := by decide +kernel
theorem dX4_goesOn_125 : decode cX4_goesOn 125 = .ok (.bipush 9, 2) := by decide +kernel
theorem dX4_goesOn_127 : decode cX4_goesOn 127 = .ok (.invokestatic 15, 3) := by decide +kernel
theorem dX4_goesOn_130 : decode cX4_goesOn 130 = .ok (.ireturn, 1) := by decide +kernel
theorem dX4_goesOn_131 : decode cX4_goesOn 131 = .ok (.iload_n 2, 1) := by decide +kernel
theorem dX4_goesOn_132 : decode cX4_goesOn 132 = .ok (.iconst 1, 1) := by decide +kernel
theorem dX4_goesOn_133 : decode cX4_goesOn 133 = .ok (.bipush 6, 2) := by decide +kernel
theorem dX4_goesOn_135 : decode cX4_goesOn 135 = .ok (.invokestatic 15, 3) := by decide +kernel
theorem dX4_goesOn_138 : decode cX4_goesOn 138 = .ok (.ireturn, 1) := by decide +kernel
theorem dX4_goesOn_139 : decode cX4_goesOn 139 = .ok (.iload_n 2, 1) := by decide +kernel
theorem dX4_goesOn_140 : decode cX4_goesOn 140 = .ok (.iconst 0, 1) := by decide +kernel
theorem dX4_goesOn_141 : decode cX4_goesOn 141 = .ok (.bipush 6, 2) := by decide +kernel
theorem dX4_goesOn_143 : decode cX4_goesOn 143 = .ok (.invokestatic 15, 3) := by decide +kernel
theorem dX4_goesOn_146 : decode cX4_goesOn 146 = .ok (.ireturn, 1) := by decide +kernel
theorem dX4_goesOn_147 : decode cX4_goesOn 147 = .ok (.iload_n 2, 1) := by decide +kernel
theorem dX4_goesOn_148 : decode cX4_goesOn 148 = .ok (.iconst 0, 1) := by decide +kernel
theorem dX4_goesOn_149 : decode cX4_goesOn 149 = .ok (.iload_n 1, 1) := by decide +kernel
theorem dX4_goesOn_150 : decode cX4_goesOn 150 = .ok (.bipush 54, 2) := by decide +kernel
theorem dX4_goesOn_152 : decode cX4_goesOn 152 = .ok (.if_icmp .ne 7, 3) := by decide +kernel
theorem dX4_goesOn_155 : decode cX4_goesOn 155 = .ok (.iconst 3, 1) := by decide +kernel
theorem dX4_goesOn_156 : decode cX4_goesOn 156 = .ok (.goto 5, 3) := by decide +kernel
theorem dX4_goesOn_159 : decode cX4_goesOn 159 = .ok (.bipush 9, 2) := by decide +kernel
theorem dX4_goesOn_161 : decode cX4_goesOn 161 = .ok (.invokestatic 15, 3) := by decide +kernel
theorem dX4_goesOn_164 : decode cX4_goesOn 164 = .ok (.ireturn, 1) := by decide +kernel
theorem dX4_isDigit_0 : decode cX4_isDigit 0 = .ok (.iload_n 0, 1) := by decide +kernel
theorem dX4_isDigit_1 : decode cX4_isDigit 1 = .ok (.bipush 48, 2) := by decide +kernel
theorem dX4_isDigit_3 : decode cX4_isDigit 3 = .ok (.iload_n 1, 1) := by decide +kernel
theorem dX4_isDigit_4 : decode cX4_isDigit 4 = .ok (.iadd, 1) := by decide +kernel
theorem dX4_isDigit_5 : decode cX4_isDigit 5 = .ok (.if_icmp .lt 15, 3) := by decide +kernel
theorem dX4_isDigit_8 : decode cX4_isDigit 8 = .ok (.iload_n 0, 1) := by decide +kernel
theorem dX4_isDigit_9 : decode cX4_isDigit 9 = .ok (.bipush 48, 2) := by decide +kernel
theorem dX4_isDigit_11 : decode cX4_isDigit 11 = .ok (.iload_n 2, 1) := by decide +kernel
theorem dX4_isDigit_12 : decode cX4_isDigit 12 = .ok (.iadd, 1) := by decide +kernel
theorem dX4_isDigit_13 : decode cX4_isDigit 13 = .ok (.if_icmp .gt 7, 3) := by decide +kernel
theorem dX4_isDigit_16 : decode cX4_isDigit 16 = .ok (.iconst 1, 1) := by decide +kernel
theorem dX4_isDigit_17 : decode cX4_isDigit 17 = .ok (.goto 4, 3) := by decide +kernel
theorem dX4_isDigit_20 : decode cX4_isDigit 20 = .ok (.iconst 0, 1) := by decide +kernel
theorem dX4_isDigit_21 : decode cX4_isDigit 21 = .ok (.ireturn, 1) := by decide +kernel
theorem dX4_fill_0 : decode cX4_fill 0 = .ok (.aload_n 0, 1) := by decide +kernel
theorem dX4_fill_1 : decode cX4_fill 1 = .ok (.iload_n 3, 1) := by decide +kernel
theorem dX4_fill_2 : decode cX4_fill 2 = .ok (.iconst 2, 1) := by decide +kernel
theorem dX4_fill_3 : decode cX4_fill 3 = .ok (.isub, 1) := by decide +kernel
theorem dX4_fill_4 : decode cX4_fill 4 = .ok (.bipush 7, 2) := by decide +kernel
theorem dX4_fill_6 : decode cX4_fill 6 = .ok (.idiv, 1) := by decide +kernel
theorem dX4_fill_7 : decode cX4_fill 7 = .ok (.putfield 18, 3) := by decide +kernel
theorem dX4_fill_10 : decode cX4_fill 10 = .ok (.aload_n 0, 1) := by decide +kernel
theorem dX4_fill_11 : decode cX4_fill 11 = .ok (.aload_n 1, 1) := by decide +kernel
theorem dX4_fill_12 : decode cX4_fill 12 = .ok (.iload_n 2, 1) := by decide +kernel
theorem dX4_fill_13 : decode cX4_fill 13 = .ok (.iconst 1, 1) := by decide +kernel
theorem dX4_fill_14 : decode cX4_fill 14 = .ok (.iadd, 1) := by decide +kernel
theorem dX4_fill_15 : decode cX4_fill 15 = .ok (.iaload, 1) := by decide +kernel
theorem dX4_fill_16 : decode cX4_fill 16 = .ok (.bipush 48, 2) := by decide +kernel
theorem dX4_fill_18 : decode cX4_fill 18 = .ok (.isub, 1) := by decide +kernel
theorem dX4_fill_19 : decode cX4_fill 19 = .ok (.putfield 24, 3) := by decide +kernel
theorem dX4_fill_22 : decode cX4_fill 22 = .ok (.aload_n 0, 1) := by decide +kernel
theorem dX4_fill_23 : decode cX4_fill 23 = .ok (.iconst 3, 1) := by decide +kernel
theorem dX4_fill_24 : decode cX4_fill 24 = .ok (.putfield 27, 3) := by decide +kernel
theorem dX4_fill_27 : decode cX4_fill 27 = .ok (.iconst 0, 1) := by decide +kernel
theorem dX4_fill_28 : decode cX4_fill 28 = .ok (.istore 4, 2) := by decide +kernel
theorem dX4_fill_30 : decode cX4_fill 30 = .ok (.iload 4, 2) := by decide +kernel
theorem dX4_fill_32 : decode cX4_fill 32 = .ok (.aload_n 0, 1) := by decide +kernel
theorem dX4_fill_33 : decode cX4_fill 33 = .ok (.getfield 18, 3) := by decide +kernel
theorem dX4_fill_36 : decode cX4_fill 36 = .ok (.if_icmp .ge 113, 3) := by decide +kernel
theorem dX4_fill_39 : decode cX4_fill 39 = .ok (.iload_n 2, 1) := by decide +kernel
theorem dX4_fill_40 : decode cX4_fill 40 = .ok (.iconst 2, 1) := by decide +kernel
theorem dX4_fill_41 : decode cX4_fill 41 = .ok (.iadd, 1) := by decide +kernel
theorem dX4_fill_42 : decode cX4_fill 42 = .ok (.iload 4, 2) := by decide +kernel
theorem dX4_fill_44 : decode cX4_fill 44 = .ok (.bipush 7, 2) := by decide +kernel
theorem dX4_fill_46 : decode cX4_fill 46 = .ok (.imul, 1) := by decide +kernel
theorem dX4_fill_47 : decode cX4_fill 47 = .ok (.iadd, 1) := by decide +kernel
theorem dX4_fill_48 : decode cX4_fill 48 = .ok (.istore 5, 2) := by decide +kernel
theorem dX4_fill_50 : decode cX4_fill 50 = .ok (.aload_n 0, 1) := by decide +kernel
theorem dX4_fill_51 : decode cX4_fill 51 = .ok (.getfield 30, 3) := by decide +kernel
theorem dX4_fill_54 : decode cX4_fill 54 = .ok (.iload 4, 2) := by decide +kernel
theorem dX4_fill_56 : decode cX4_fill 56 = .ok (.aaload, 1) := by decide +kernel
theorem dX4_fill_57 : decode cX4_fill 57 = .ok (.astore 6, 2) := by decide +kernel
theorem dX4_fill_59 : decode cX4_fill 59 = .ok (.aload 6, 2) := by decide +kernel
theorem dX4_fill_61 : decode cX4_fill 61 = .ok (.aload_n 1, 1) := by decide +kernel
theorem dX4_fill_62 : decode cX4_fill 62 = .ok (.iload 5, 2) := by decide +kernel
theorem dX4_fill_64 : decode cX4_fill 64 = .ok (.iconst 1, 1) := by decide +kernel
theorem dX4_fill_65 : decode cX4_fill 65 = .ok (.iadd, 1) := by decide +kernel
theorem dX4_fill_66 : decode cX4_fill 66 = .ok (.iaload, 1) := by decide +kernel
theorem dX4_fill_67 : decode cX4_fill 67 = .ok (.invokestatic 34, 3) := by decide +kernel
theorem dX4_fill_70 : decode cX4_fill 70 = .ok (.putfield 38, 3) := by decide +kernel
theorem dX4_fill_73 : decode cX4_fill 73 = .ok (.aload 6, 2) := by decide +kernel
theorem dX4_fill_75 : decode cX4_fill 75 = .ok (.aload_n 1, 1) := by decide +kernel
theorem dX4_fill_76 : decode cX4_fill 76 = .ok (.iload 5, 2) := by decide +kernel
theorem dX4_fill_78 : decode cX4_fill 78 = .ok (.iconst 2, 1) := by decide +kernel
theorem dX4_fill_79 : decode cX4_fill 79 = .ok (.iadd, 1) := by decide +kernel
theorem dX4_fill_80 : decode cX4_fill 80 = .ok (.iaload, 1) := by decide +kernel
theorem dX4_fill_81 : decode cX4_fill 81 = .ok (.bipush 48, 2) := by decide +kernel
theorem dX4_fill_83 : decode cX4_fill 83 = .ok (.isub, 1) := by decide +kernel
theorem dX4_fill_84 : decode cX4_fill 84 = .ok (.putfield 43, 3) := by decide +kernel
theorem dX4_fill_87 : decode cX4_fill 87 = .ok (.aload 6, 2) := by decide +kernel
theorem dX4_fill_89 : decode cX4_fill 89 = .ok (.aload_n 1, 1) := by decide +kernel
theorem dX4_fill_90 : decode cX4_fill 90 = .ok (.iload 5, 2) := by decide +kernel
theorem dX4_fill_92 : decode cX4_fill 92 = .ok (.iconst 3, 1) := by decide +kernel
theorem dX4_fill_93 : decode cX4_fill 93 = .ok (.iadd, 1) := by decide +kernel
theorem dX4_fill_94 : decode cX4_fill 94 = .ok (.iaload, 1) := by decide +kernel
theorem dX4_fill_95 : decode cX4_fill 95 = .ok (.bipush 48, 2) := by decide +kernel
theorem dX4_fill_97 : decode cX4_fill 97 = .ok (.isub, 1) := by decide +kernel
theorem dX4_fill_98 : decode cX4_fill 98 = .ok (.putfield 46, 3) := by decide +kernel
theorem dX4_fill_101 : decode cX4_fill 101 = .ok (.aload 6, 2) := by decide +kernel
theorem dX4_fill_103 : decode cX4_fill 103 = .ok (.aload_n 1, 1) := by decide +kernel
theorem dX4_fill_104 : decode cX4_fill 104 = .ok (.iload 5, 2) := by decide +kernel
theorem dX4_fill_106 : decode cX4_fill 106 = .ok (.iconst 4, 1) := by decide +kernel
theorem dX4_fill_107 : decode cX4_fill 107 = .ok (.iadd, 1) := by decide +kernel
theorem dX4_fill_108 : decode cX4_fill 108 = .ok (.iaload, 1) := by decide +kernel
theorem dX4_fill_109 : decode cX4_fill 109 = .ok (.bipush 48, 2) := by decide +kernel
theorem dX4_fill_111 : decode cX4_fill 111 = .ok (.isub, 1) := by decide +kernel
theorem dX4_fill_112 : decode cX4_fill 112 = .ok (.putfield 49, 3) := by decide +kernel
theorem dX4_fill_115 : decode cX4_fill 115 = .ok (.aload 6, 2) := by decide +kernel
theorem dX4_fill_117 : decode cX4_fill 117 = .ok (.bipush 10, 2) := by decide +kernel
theorem dX4_fill_119 : decode cX4_fill 119 = .ok (.aload_n 1, 1) := by decide +kernel
theorem dX4_fill_120 : decode cX4_fill 120 = .ok (.iload 5, 2) := by decide +kernel
theorem dX4_fill_122 : decode cX4_fill 122 = .ok (.iconst 5, 1) := by decide +kernel
theorem dX4_fill_123 : decode cX4_fill 123 = .ok (.iadd, 1) := by decide +kernel
theorem dX4_fill_124 : decode cX4_fill 124 = .ok (.iaload, 1) := by decide +kernel
theorem dX4_fill_125 : decode cX4_fill 125 = .ok (.bipush 48, 2) := by decide +kernel
theorem dX4_fill_127 : decode cX4_fill 127 = .ok (.isub, 1) := by decide +kernel
theorem dX4_fill_128 : decode cX4_fill 128 = .ok (.imul, 1) := by decide +kernel
theorem dX4_fill_129 : decode cX4_fill 129 = .ok (.aload_n 1, 1) := by decide +kernel
theorem dX4_fill_130 : decode cX4_fill 130 = .ok (.iload 5, 2) := by decide +kernel
theorem dX4_fill_132 : decode cX4_fill 132 = .ok (.bipush 6, 2) := by decide +kernel
theorem dX4_fill_134 : decode cX4_fill 134 = .ok (.iadd, 1) := by decide +kernel
theorem dX4_fill_135 : decode cX4_fill 135 = .ok (.iaload, 1) := by decide +kernel
theorem dX4_fill_136 : decode cX4_fill 136 = .ok (.iadd, 1) := by decide +kernel
theorem dX4_fill_137 : decode cX4_fill 137 = .ok (.bipush 48, 2) := by decide +kernel
theorem dX4_fill_139 : decode cX4_fill 139 = .ok (.isub, 1) := by decide +kernel
theorem dX4_fill_140 : decode cX4_fill 140 = .ok (.putfield 52, 3) := by decide +kernel
theorem dX4_fill_143 : decode cX4_fill 143 = .ok (.iinc 4 1, 3) := by decide +kernel
theorem dX4_fill_146 : decode cX4_fill 146 = .ok (.goto (-116), 3) := by decide +kernel
theorem dX4_fill_149 : decode cX4_fill 149 = .ok (.return_, 1) := by decide +kernel
theorem dX4_kindOf_0 : decode cX4_kindOf 0 = .ok (.iload_n 0, 1) := by decide +kernel
theorem dX4_kindOf_1 : decode cX4_kindOf 1 = .ok (.bipush 108, 2) := by decide +kernel
theorem dX4_kindOf_3 : decode cX4_kindOf 3 = .ok (.if_icmp .ne 5, 3) := by decide +kernel
theorem dX4_kindOf_6 : decode cX4_kindOf 6 = .ok (.iconst 2, 1) := by decide +kernel
theorem dX4_kindOf_7 : decode cX4_kindOf 7 = .ok (.ireturn, 1) := by decide +kernel
theorem dX4_kindOf_8 : decode cX4_kindOf 8 = .ok (.iload_n 0, 1) := by decide +kernel
theorem dX4_kindOf_9 : decode cX4_kindOf 9 = .ok (.bipush 104, 2) := by decide +kernel
theorem dX4_kindOf_11 : decode cX4_kindOf 11 = .ok (.if_icmp .ne 7, 3) := by decide +kernel
theorem dX4_kindOf_14 : decode cX4_kindOf 14 = .ok (.iconst 1, 1) := by decide +kernel
theorem dX4_kindOf_15 : decode cX4_kindOf 15 = .ok (.goto 4, 3) := by decide +kernel
theorem dX4_kindOf_18 : decode cX4_kindOf 18 = .ok (.iconst 0, 1) := by decide +kernel
theorem dX4_kindOf_19 : decode cX4_kindOf 19 = .ok (.ireturn, 1) := by decide +kernel
theorem dX5_init_0 : decode cX5_init 0 = .ok (.aload_n 0, 1) := by decide +kernel
theorem dX5_init_1 : decode cX5_init 1 = .ok (.invokespecial 3, 3) := by decide +kernel
theorem dX5_init_4 : decode cX5_init 4 = .ok (.return_, 1) := by decide +kernel
theorem dX5_value_0 : decode cX5_value 0 = .ok (.aload_n 0, 1) := by decide +kernel
theorem dX5_value_1 : decode cX5_value 1 = .ok (.getfield 9, 3) := by decide +kernel
theorem dX5_value_4 : decode cX5_value 4 = .ok (.iconst 2, 1) := by decide +kernel
theorem dX5_value_5 : decode cX5_value 5 = .ok (.if_icmp .ne 12, 3) := by decide +kernel
theorem dX5_value_8 : decode cX5_value 8 = .ok (.iconst 2, 1) := by decide +kernel
theorem dX5_value_9 : decode cX5_value 9 = .ok (.aload_n 0, 1) := by decide +kernel
theorem dX5_value_10 : decode cX5_value 10 = .ok (.getfield 15, 3) := by decide +kernel
theorem dX5_value_13 : decode cX5_value 13 = .ok (.iconst 1, 1) := by decide +kernel
theorem dX5_value_14 : decode cX5_value 14 = .ok (.iadd, 1) := by decide +kernel
theorem dX5_value_15 : decode cX5_value 15 = .ok (.imul, 1) := by decide +kernel
theorem dX5_value_16 : decode cX5_value 16 = .ok (.ireturn, 1) := by decide +kernel
theorem dX5_value_17 : decode cX5_value 17 = .ok (.aload_n 0, 1) := by decide +kernel
theorem dX5_value_18 : decode cX5_value 18 = .ok (.getfield 9, 3) := by decide +kernel
theorem dX5_value_21 : decode cX5_value 21 = .ok (.iconst 1, 1) := by decide +kernel
theorem dX5_value_22 : decode cX5_value 22 = .ok (.if_icmp .ne 12, 3) := by decide +kernel
theorem dX5_value_25 : decode cX5_value 25 = .ok (.aload_n 0, 1) := by decide +kernel
theorem dX5_value_26 : decode cX5_value 26 = .ok (.getfield 15, 3) := by decide +kernel
theorem dX5_value_29 : decode cX5_value 29 = .ok (.iconst 1, 1) := by decide +kernel
theorem dX5_value_30 : decode cX5_value 30 = .ok (.iadd, 1) := by decide +kernel
theorem dX5_value_31 : decode cX5_value 31 = .ok (.goto 7, 3) := by decide +kernel
theorem dX5_value_34 : decode cX5_value 34 = .ok (.aload_n 0, 1) := by decide +kernel
theorem dX5_value_35 : decode cX5_value 35 = .ok (.getfield 15, 3) := by decide +kernel
theorem dX5_value_38 : decode cX5_value 38 = .ok (.ireturn, 1) := by decide +kernel
theorem dX5_span_0 : decode cX5_span 0 = .ok (.iconst 1, 1) := by decide +kernel
theorem dX5_span_1 : decode cX5_span 1 = .ok (.aload_n 0, 1) := by decide +kernel
theorem dX5_span_2 : decode cX5_span 2 = .ok (.getfield 18, 3) := by decide +kernel
theorem dX5_span_5 : decode cX5_span 5 = .ok (.ishl, 1) := by decide +kernel
theorem dX5_span_6 : decode cX5_span 6 = .ok (.iconst 1, 1) := by decide +kernel
theorem dX5_span_7 : decode cX5_span 7 = .ok (.isub, 1) := by decide +kernel
theorem dX5_span_8 : decode cX5_span 8 = .ok (.iload_n 1, 1) := by decide +kernel
theorem dX5_span_9 : decode cX5_span 9 = .ok (.ishl, 1) := by decide +kernel
theorem dX5_span_10 : decode cX5_span 10 = .ok (.bipush 63, 2) := by decide +kernel
theorem dX5_span_12 : decode cX5_span 12 = .ok (.iand, 1) := by decide +kernel
theorem dX5_span_13 : decode cX5_span 13 = .ok (.ireturn, 1) := by decide +kernel
theorem dX6_init_0 : decode cX6_init 0 = .ok (.aload_n 0, 1) := by decide +kernel
theorem dX6_init_1 : decode cX6_init 1 = .ok (.invokespecial 5, 3) := by decide +kernel
theorem dX6_init_4 : decode cX6_init 4 = .ok (.aload_n 0, 1) := by decide +kernel
theorem dX6_init_5 : decode cX6_init 5 = .ok (.iconst 4, 1) := by decide +kernel
theorem dX6_init_6 : decode cX6_init 6 = .ok (.anewarray 11, 3) := by decide +kernel
theorem dX6_init_9 : decode cX6_init 9 = .ok (.putfield 13, 3) := by decide +kernel
theorem dX6_init_12 : decode cX6_init 12 = .ok (.iconst 0, 1) := by decide +kernel
theorem dX6_init_13 : decode cX6_init 13 = .ok (.istore_n 1, 1) := by decide +kernel
theorem dX6_init_14 : decode cX6_init 14 = .ok (.iload_n 1, 1) := by decide +kernel
theorem dX6_init_15 : decode cX6_init 15 = .ok (.iconst 4, 1) := by decide +kernel
theorem dX6_init_16 : decode cX6_init 16 = .ok (.if_icmp .ge 22, 3) := by decide +kernel
theorem dX6_init_19 : decode cX6_init 19 = .ok (.aload_n 0, 1) := by decide +kernel
theorem dX6_init_20 : decode cX6_init 20 = .ok (.getfield 13, 3) := by decide +kernel
theorem dX6_init_23 : decode cX6_init 23 = .ok (.iload_n 1, 1) := by decide +kernel
theorem dX6_init_24 : decode cX6_init 24 = .ok (.new 11, 3) := by decide +kernel
theorem dX6_init_27 : decode cX6_init 27 = .ok (.dup, 1) := by decide +kernel
theorem dX6_init_28 : decode cX6_init 28 = .ok (.invokespecial 17, 3) := by decide +kernel
theorem dX6_init_31 : decode cX6_init 31 = .ok (.aastore, 1) := by decide +kernel
theorem dX6_init_32 : decode cX6_init 32 = .ok (.iinc 1 1, 3) := by decide +kernel
theorem dX6_init_35 : decode cX6_init 35 = .ok (.goto (-21), 3) := by decide +kernel
theorem dX6_init_38 : decode cX6_init 38 = .ok (.aload_n 0, 1) := by decide +kernel
theorem dX6_init_39 : decode cX6_init 39 = .ok (.new 18, 3) := by decide +kernel
theorem dX6_init_42 : decode cX6_init 42 = .ok (.dup, 1) := by decide +kernel
theorem dX6_init_43 : decode cX6_init 43 = .ok (.invokespecial 20, 3) := by decide +kernel
theorem dX6_init_46 : decode cX6_init 46 = .ok (.putfield 21, 3) := by decide +kernel
theorem dX6_init_49 : decode cX6_init 49 = .ok (.aload_n 0, 1) := by decide +kernel
theorem dX6_init_50 : decode cX6_init 50 = .ok (.new 25, 3) := by decide +kernel
theorem dX6_init_53 : decode cX6_init 53 = .ok (.dup, 1) := by decide +kernel
theorem dX6_init_54 : decode cX6_init 54 = .ok (.invokespecial 27, 3) := by decide +kernel
theorem dX6_init_57 : decode cX6_init 57 = .ok (.putfield 28, 3) := by decide +kernel
theorem dX6_init_60 : decode cX6_init 60 = .ok (.aload_n 0, 1) := by decide +kernel
theorem dX6_init_61 : decode cX6_init 61 = .ok (.new 32, 3) := by decide +kernel
theorem dX6_init_64 : decode cX6_init 64 = .ok (.dup, 1) := by decide +kernel
theorem dX6_init_65 : decode cX6_init 65 = .ok (.invokespecial 34, 3) := by decide +kernel
theorem dX6_init_68 : decode cX6_init 68 = .ok (.putfield 35, 3) := by decide +kernel
theorem dX6_init_71 : decode cX6_init 71 = .ok (.aload_n 0, 1) := by decide +kernel
theorem dX6_init_72 : decode cX6_init 72 = .ok (.bipush 6, 2) := by decide +kernel
theorem dX6_init_74 : decode cX6_init 74 = .ok (.newarray .int, 2) := by decide +kernel
theorem dX6_init_76 : decode cX6_init 76 = .ok (.putfield 39, 3) := by decide +kernel
theorem dX6_init_79 : decode cX6_init 79 = .ok (.return_, 1) := by decide +kernel
theorem dX6_museum_0 : decode cX6_museum 0 = .ok (.aload_n 0, 1) := by decide +kernel
theorem dX6_museum_1 : decode cX6_museum 1 = .ok (.iconst 0, 1) := by decide +kernel
theorem dX6_museum_2 : decode cX6_museum 2 = .ok (.putfield 43, 3) := by decide +kernel
theorem dX6_museum_5 : decode cX6_museum 5 = .ok (.iload_n 1, 1) := by decide +kernel
theorem dX6_museum_6 : decode cX6_museum 6 = .ok (.invokestatic 47, 3) := by decide +kernel
theorem dX6_museum_9 : decode cX6_museum 9 = .ok (.ifCond .ne 5, 3) := by decide +kernel
theorem dX6_museum_12 : decode cX6_museum 12 = .ok (.iconst (-1), 1) := by decide +kernel
theorem dX6_museum_13 : decode cX6_museum 13 = .ok (.ireturn, 1) := by decide +kernel
theorem dX6_museum_14 : decode cX6_museum 14 = .ok (.iload_n 2, 1) := by decide +kernel
theorem dX6_museum_15 : decode cX6_museum 15 = .ok (.invokestatic 51, 3) := by decide +kernel
theorem dX6_museum_18 : decode cX6_museum 18 = .ok (.ifCond .ne 6, 3) := by decide +kernel
theorem dX6_museum_21 : decode cX6_museum 21 = .ok (.bipush (-2), 2) := by decide +kernel
theorem dX6_museum_23 : decode cX6_museum 23 = .ok (.ireturn, 1) := by decide +kernel
theorem dX6_museum_24 : decode cX6_museum 24 = .ok (.aload_n 0, 1) := by decide +kernel
theorem dX6_museum_25 : decode cX6_museum 25 = .ok (.getfield 13, 3) := by decide +kernel
theorem dX6_museum_28 : decode cX6_museum 28 = .ok (.iload_n 1, 1) := by decide +kernel
theorem dX6_museum_29 : decode cX6_museum 29 = .ok (.aaload, 1) := by decide +kernel
theorem dX6_museum_30 : decode cX6_museum 30 = .ok (.astore 5, 2) := by decide +kernel
theorem dX6_museum_32 : decode cX6_museum 32 = .ok (.aload 5, 2) := by decide +kernel
theorem dX6_museum_34 : decode cX6_museum 34 = .ok (.iload_n 2, 1) := by decide +kernel
theorem dX6_museum_35 : decode cX6_museum 35 = .ok (.iload_n 3, 1) := by decide +kernel
theorem dX6_museum_36 : decode cX6_museum 36 = .ok (.iload 4, 2) := by decide +kernel
theorem dX6_museum_38 : decode cX6_museum 38 = .ok (.invokevirtual 54, 3) := by decide +kernel
theorem dX6_museum_41 : decode cX6_museum 41 = .ok (.istore 6, 2) := by decide +kernel
theorem dX6_museum_43 : decode cX6_museum 43 = .ok (.iload 6, 2) := by decide +kernel
theorem dX6_museum_45 : decode cX6_museum 45 = .ok (.ifCond .eq 10, 3) := by decide +kernel
theorem dX6_museum_48 : decode cX6_museum 48 = .ok (.aload_n 0, 1) := by decide +kernel
theorem dX6_museum_49 : decode cX6_museum 49 = .ok (.iload 6, 2) := by decide +kernel
theorem dX6_museum_51 : decode cX6_museum 51 = .ok (.invokevirtual 58, 3) := by decide +kernel
theorem dX6_museum_54 : decode cX6_museum 54 = .ok (.ireturn, 1) := by decide +kernel
theorem dX6_museum_55 : decode cX6_museum 55 = .ok (.aload 5, 2) := by decide +kernel
theorem dX6_museum_57 : decode cX6_museum 57 = .ok (.getfield 62, 3) := by decide +kernel
theorem dX6_museum_60 : decode cX6_museum 60 = .ok (.iload_n 3, 1) := by decide +kernel
theorem dX6_museum_61 : decode cX6_museum 61 = .ok (.iload 4, 2) := by decide +kernel
theorem dX6_museum_63 : decode cX6_museum 63 = .ok (.invokestatic 65, 3) := by decide +kernel
theorem dX6_museum_66 : decode cX6_museum 66 = .ok (.istore 7, 2) := by decide +kernel
theorem dX6_museum_68 : decode cX6_museum 68 = .ok (.iload 7, 2) := by decide +kernel
theorem dX6_museum_70 : decode cX6_museum 70 = .ok (.bipush (-9), 2) := by decide +kernel
theorem dX6_museum_72 : decode cX6_museum 72 = .ok (.if_icmp .eq 9, 3) := by decide +kernel
theorem dX6_museum_75 : decode cX6_museum 75 = .ok (.bipush (-100), 2) := by decide +kernel
theorem dX6_museum_77 : decode cX6_museum 77 = .ok (.iload 7, 2) := by decide +kernel
theorem dX6_museum_79 : decode cX6_museum 79 = .ok (.isub, 1) := by decide +kernel
theorem dX6_museum_80 : decode cX6_museum 80 = .ok (.ireturn, 1) := by decide +kernel
theorem dX6_museum_81 : decode cX6_museum 81 = .ok (.aload_n 0, 1) := by decide +kernel
theorem dX6_museum_82 : decode cX6_museum 82 = .ok (.getfield 21, 3) := by decide +kernel
theorem dX6_museum_85 : decode cX6_museum 85 = .ok (.aload 5, 2) := by decide +kernel
theorem dX6_museum_87 : decode cX6_museum 87 = .ok (.getfield 62, 3) := by decide +kernel
theorem dX6_museum_90 : decode cX6_museum 90 = .ok (.iload_n 3, 1) := by decide +kernel
theorem dX6_museum_91 : decode cX6_museum 91 = .ok (.iload 4, 2) := by decide +kernel
theorem dX6_museum_93 : decode cX6_museum 93 = .ok (.invokestatic 71, 3) := by decide +kernel
theorem dX6_museum_96 : decode cX6_museum 96 = .ok (.aload_n 0, 1) := by decide +kernel
theorem dX6_museum_97 : decode cX6_museum 97 = .ok (.getfield 28, 3) := by decide +kernel
theorem dX6_museum_100 : decode cX6_museum 100 = .ok (.iconst 0, 1) := by decide +kernel
theorem dX6_museum_101 : decode cX6_museum 101 = .ok (.putfield 75, 3) := by decide +kernel
theorem dX6_museum_104 : decode cX6_museum 104 = .ok (.aload_n 0, 1) := by decide +kernel
theorem dX6_museum_105 : decode cX6_museum 105 = .ok (.getfield 21, 3) := by decide +kernel
theorem dX6_museum_108 : decode cX6_museum 108 = .ok (.getfield 78, 3) := by decide +kernel
theorem dX6_museum_111 : decode cX6_museum 111 = .ok (.ireturn, 1) := by decide +kernel
theorem dX6_ofThing_0 : decode cX6_ofThing 0 = .ok (.aload_n 0, 1) := by decide +kernel
theorem dX6_ofThing_1 : decode cX6_ofThing 1 = .ok (.getfield 21, 3) := by decide +kernel
theorem dX6_ofThing_4 : decode cX6_ofThing 4 = .ok (.iload_n 1, 1) := by decide +kernel
theorem dX6_ofThing_5 : decode cX6_ofThing 5 = .ok (.invokevirtual 79, 3) := by decide +kernel
theorem dX6_ofThing_8 : decode cX6_ofThing 8 = .ok (.ifCond .ne 5, 3) := by decide +kernel
theorem dX6_ofThing_11 : decode cX6_ofThing 11 = .ok (.iconst (-1), 1) := by decide +kernel
theorem dX6_ofThing_12 : decode cX6_ofThing 12 = .ok (.ireturn, 1) := by decide +kernel
theorem dX6_ofThing_13 : decode cX6_ofThing 13 = .ok (.aload_n 0, 1) := by decide +kernel
theorem dX6_ofThing_14 : decode cX6_ofThing 14 = .ok (.getfield 21, 3) := by decide +kernel
theorem dX6_ofThing_17 : decode cX6_ofThing 17 = .ok (.getfield 82, 3) := by decide +kernel
theorem dX6_ofThing_20 : decode cX6_ofThing 20 = .ok (.iload_n 1, 1) := by decide +kernel
theorem dX6_ofThing_21 : decode cX6_ofThing 21 = .ok (.aaload, 1) := by decide +kernel
theorem dX6_ofThing_22 : decode cX6_ofThing 22 = .ok (.astore_n 3, 1) := by decide +kernel
theorem dX6_ofThing_23 : decode cX6_ofThing 23 = .ok (.iload_n 2, 1) := by decide +kernel
theorem dX6_ofThing_24 : decode cX6_ofThing 24 = .ok (.tableswitch 70 0 5 #[40, 45, 50, 55, 60, 65], 40) := by decide +kernel
theorem dX6_ofThing_64 : decode cX6_ofThing 64 = .ok (.aload_n 3, 1) := by decide +kernel
theorem dX6_ofThing_65 : decode cX6_ofThing 65 = .ok (.getfield 86, 3) := by decide +kernel
theorem dX6_ofThing_68 : decode cX6_ofThing 68 = .ok (.ireturn, 1) := by decide +kernel
theorem dX6_ofThing_69 : decode cX6_ofThing 69 = .ok (.aload_n 3, 1) := by decide +kernel
theorem dX6_ofThing_70 : decode cX6_ofThing 70 = .ok (.getfield 91, 3) := by decide +kernel
theorem dX6_ofThing_73 : decode cX6_ofThing 73 = .ok (.ireturn, 1) := by decide +kernel
theorem dX6_ofThing_74 : decode cX6_ofThing 74 = .ok (.aload_n 3, 1) := by decide +kernel
theorem dX6_ofThing_75 : decode cX6_ofThing 75 = .ok (.getfield 94, 3) := by decide +kernel
theorem dX6_ofThing_78 : decode cX6_ofThing 78 = .ok (.ireturn, 1) := by decide +kernel
theorem dX6_ofThing_79 : decode cX6_ofThing 79 = .ok (.aload_n 3, 1) := by decide +kernel
theorem dX6_ofThing_80 : decode cX6_ofThing 80 = .ok (.getfield 97, 3) := by decide +kernel
theorem dX6_ofThing_83 : decode cX6_ofThing 83 = .ok (.ireturn, 1) := by decide +kernel
theorem dX6_ofThing_84 : decode cX6_ofThing 84 = .ok (.aload_n 3, 1) := by decide +kernel
theorem dX6_ofThing_85 : decode cX6_ofThing 85 = .ok (.getfield 100, 3) := by decide +kernel
theorem dX6_ofThing_88 : decode cX6_ofThing 88 = .ok (.ireturn, 1) := by decide +kernel
theorem dX6_ofThing_89 : decode cX6_ofThing 89 = .ok (.aload_n 3, 1) := by decide +kernel
theorem dX6_ofThing_90 : decode cX6_ofThing 90 = .ok (.invokevirtual 103, 3) := by decide +kernel
theorem dX6_ofThing_93 : decode cX6_ofThing 93 = .ok (.ireturn, 1) := by decide +kernel
theorem dX6_ofThing_94 : decode cX6_ofThing 94 = .ok (.bipush (-2), 2) := by decide +kernel
theorem dX6_ofThing_96 : decode cX6_ofThing 96 = .ok (.ireturn, 1) := by decide +kernel
theorem dX6_penalty_0 : decode cX6_penalty 0 = .ok (.iload_n 1, 1) := by decide +kernel
theorem dX6_penalty_1 : decode cX6_penalty 1 = .ok (.ifCond .lt 9, 3) := by decide +kernel
theorem dX6_penalty_4 : decode cX6_penalty 4 = .ok (.iload_n 1, 1) := by decide +kernel
theorem dX6_penalty_5 : decode cX6_penalty 5 = .ok (.bipush 9, 2) := by decide +kernel
theorem dX6_penalty_7 : decode cX6_penalty 7 = .ok (.if_icmp .le 6, 3) := by decide +kernel
theorem dX6_penalty_10 : decode cX6_penalty 10 = .ok (.bipush (-2), 2) := by decide +kernel
theorem dX6_penalty_12 : decode cX6_penalty 12 = .ok (.ireturn, 1) := by decide +kernel
theorem dX6_penalty_13 : decode cX6_penalty 13 = .ok (.aload_n 0, 1) := by decide +kernel
theorem dX6_penalty_14 : decode cX6_penalty 14 = .ok (.getfield 21, 3) := by decide +kernel
theorem dX6_penalty_17 : decode cX6_penalty 17 = .ok (.invokevirtual 107, 3) := by decide +kernel
theorem dX6_penalty_20 : decode cX6_penalty 20 = .ok (.ifCond .ne 6, 3) := by decide +kernel
theorem dX6_penalty_23 : decode cX6_penalty 23 = .ok (.bipush (-3), 2) := by decide +kernel
theorem dX6_penalty_25 : decode cX6_penalty 25 = .ok (.ireturn, 1) := by decide +kernel
theorem dX6_penalty_26 : decode cX6_penalty 26 = .ok (.aload_n 0, 1) := by decide +kernel
theorem dX6_penalty_27 : decode cX6_penalty 27 = .ok (.getfield 21, 3) := by decide +kernel
theorem dX6_penalty_30 : decode cX6_penalty 30 = .ok (.getfield 111, 3) := by decide +kernel
theorem dX6_penalty_33 : decode cX6_penalty 33 = .ok (.istore_n 2, 1) := by decide +kernel
theorem dX6_penalty_34 : decode cX6_penalty 34 = .ok (.aload_n 0, 1) := by decide +kernel
theorem dX6_penalty_35 : decode cX6_penalty 35 = .ok (.getfield 21, 3) := by decide +kernel
theorem dX6_penalty_38 : decode cX6_penalty 38 = .ok (.iload_n 1, 1) := by decide +kernel
theorem dX6_penalty_39 : decode cX6_penalty 39 = .ok (.putfield 111, 3) := by decide +kernel
theorem dX6_penalty_42 : decode cX6_penalty 42 = .ok (.iload_n 2, 1) := by decide +kernel
theorem dX6_penalty_43 : decode cX6_penalty 43 = .ok (.ireturn, 1) := by decide +kernel
theorem dX6_law_0 : decode cX6_law 0 = .ok (.iload_n 1, 1) := by decide +kernel
theorem dX6_law_1 : decode cX6_law 1 = .ok (.ifCond .lt 8, 3) := by decide +kernel
theorem dX6_law_4 : decode cX6_law 4 = .ok (.iload_n 1, 1) := by decide +kernel
theorem dX6_law_5 : decode cX6_law 5 = .ok (.iconst 4, 1) := by decide +kernel
theorem dX6_law_6 : decode cX6_law 6 = .ok (.if_icmp .lt 6, 3) := by decide +kernel
theorem dX6_law_9 : decode cX6_law 9 = .ok (.bipush (-2), 2) := by decide +kernel
theorem dX6_law_11 : decode cX6_law 11 = .ok (.ireturn, 1) := by decide +kernel
theorem dX6_law_12 : decode cX6_law 12 = .ok (.aload_n 0, 1) := by decide +kernel
theorem dX6_law_13 : decode cX6_law 13 = .ok (.getfield 21, 3) := by decide +kernel
theorem dX6_law_16 : decode cX6_law 16 = .ok (.invokevirtual 107, 3) := by decide +kernel
theorem dX6_law_19 : decode cX6_law 19 = .ok (.ifCond .ne 6, 3) := by decide +kernel
theorem dX6_law_22 : decode cX6_law 22 = .ok (.bipush (-3), 2) := by decide +kernel
theorem dX6_law_24 : decode cX6_law 24 = .ok (.ireturn, 1) := by decide +kernel
theorem dX6_law_25 : decode cX6_law 25 = .ok (.aload_n 0, 1) := by decide +kernel
theorem dX6_law_26 : decode cX6_law 26 = .ok (.getfield 21, 3) := by decide +kernel
theorem dX6_law_29 : decode cX6_law 29 = .ok (.getfield 114, 3) := by decide +kernel
theorem dX6_law_32 : decode cX6_law 32 = .ok (.istore_n 2, 1) := by decide +kernel
theorem dX6_law_33 : decode cX6_law 33 = .ok (.aload_n 0, 1) := by decide +kernel
theorem dX6_law_34 : decode cX6_law 34 = .ok (.getfield 21, 3) := by decide +kernel
theorem dX6_law_37 : decode cX6_law 37 = .ok (.iload_n 1, 1) := by decide +kernel
theorem dX6_law_38 : decode cX6_law 38 = .ok (.putfield 114, 3) := by decide +kernel
theorem dX6_law_41 : decode cX6_law 41 = .ok (.iload_n 2, 1) := by decide +kernel
theorem dX6_law_42 : decode cX6_law 42 = .ok (.ireturn, 1) := by decide +kernel
theorem dX6_use_0 : decode cX6_use 0 = .ok (.aload_n 0, 1) := by decide +kernel
theorem dX6_use_1 : decode cX6_use 1 = .ok (.getfield 21, 3) := by decide +kernel
theorem dX6_use_4 : decode cX6_use 4 = .ok (.iload_n 1, 1) := by decide +kernel
theorem dX6_use_5 : decode cX6_use 5 = .ok (.invokevirtual 79, 3) := by decide +kernel
theorem dX6_use_8 : decode cX6_use 8 = .ok (.ifCond .ne 5, 3) := by decide +kernel
theorem dX6_use_11 : decode cX6_use 11 = .ok (.iconst (-1), 1) := by decide +kernel
theorem dX6_use_12 : decode cX6_use 12 = .ok (.ireturn, 1) := by decide +kernel
theorem dX6_use_13 : decode cX6_use 13 = .ok (.iload_n 2, 1) := by decide +kernel
theorem dX6_use_14 : decode cX6_use 14 = .ok (.ifCond .lt 9, 3) := by decide +kernel
theorem dX6_use_17 : decode cX6_use 17 = .ok (.iload_n 2, 1) := by decide +kernel
theorem dX6_use_18 : decode cX6_use 18 = .ok (.bipush 64, 2) := by decide +kernel
theorem dX6_use_20 : decode cX6_use 20 = .ok (.if_icmp .lt 6, 3) := by decide +kernel
theorem dX6_use_23 : decode cX6_use 23 = .ok (.bipush (-2), 2) := by decide +kernel
theorem dX6_use_25 : decode cX6_use 25 = .ok (.ireturn, 1) := by decide +kernel
theorem dX6_use_26 : decode cX6_use 26 = .ok (.aload_n 0, 1) := by decide +kernel
theorem dX6_use_27 : decode cX6_use 27 = .ok (.getfield 21, 3) := by decide +kernel
theorem dX6_use_30 : decode cX6_use 30 = .ok (.getfield 82, 3) := by decide +kernel
theorem dX6_use_33 : decode cX6_use 33 = .ok (.iload_n 1, 1) := by decide +kernel
theorem dX6_use_34 : decode cX6_use 34 = .ok (.aaload, 1) := by decide +kernel
theorem dX6_use_35 : decode cX6_use 35 = .ok (.getfield 100, 3) := by decide +kernel
theorem dX6_use_38 : decode cX6_use 38 = .ok (.istore_n 3, 1) := by decide +kernel
theorem dX6_use_39 : decode cX6_use 39 = .ok (.aload_n 0, 1) := by decide +kernel
theorem dX6_use_40 : decode cX6_use 40 = .ok (.getfield 21, 3) := by decide +kernel
theorem dX6_use_43 : decode cX6_use 43 = .ok (.getfield 82, 3) := by decide +kernel
theorem dX6_use_46 : decode cX6_use 46 = .ok (.iload_n 1, 1) := by decide +kernel
theorem dX6_use_47 : decode cX6_use 47 = .ok (.aaload, 1) := by decide +kernel
theorem dX6_use_48 : decode cX6_use 48 = .ok (.iload_n 2, 1) := by decide +kernel
theorem dX6_use_49 : decode cX6_use 49 = .ok (.putfield 100, 3) := by decide +kernel
theorem dX6_use_52 : decode cX6_use 52 = .ok (.iload_n 3, 1) := by decide +kernel
theorem dX6_use_53 : decode cX6_use 53 = .ok (.ireturn, 1) := by decide +kernel
theorem dX6_round_0 : decode cX6_round 0 = .ok (.iload 4, 2) := by decide +kernel
theorem dX6_round_2 : decode cX6_round 2 = .ok (.bipush 10, 2) := by decide +kernel
theorem dX6_round_4 : decode cX6_round 4 = .ok (.if_icmp .lt 14, 3) := by decide +kernel
theorem dX6_round_7 : decode cX6_round 7 = .ok (.iload 4, 2) := by decide +kernel
theorem dX6_round_9 : decode cX6_round 9 = .ok (.bipush 16, 2) := by decide +kernel
theorem dX6_round_11 : decode cX6_round 11 = .ok (.if_icmp .ge 7, 3) := by decide +kernel
theorem dX6_round_14 : decode cX6_round 14 = .ok (.iconst 1, 1) := by decide +kernel
theorem dX6_round_15 : decode cX6_round 15 = .ok (.goto 4, 3) := by decide +kernel
theorem dX6_round_18 : decode cX6_round 18 = .ok (.iconst 0, 1) := by decide +kernel
theorem dX6_round_19 : decode cX6_round 19 = .ok (.istore 5, 2) := by decide +kernel
theorem dX6_round_21 : decode cX6_round 21 = .ok (.aload_n 0, 1) := by decide +kernel
theorem dX6_round_22 : decode cX6_round 22 = .ok (.iload_n 1, 1) := by decide +kernel
theorem dX6_round_23 : decode cX6_round 23 = .ok (.iload_n 2, 1) := by decide +kernel
theorem dX6_round_24 : decode cX6_round 24 = .ok (.iload_n 3, 1) := by decide +kernel
theorem dX6_round_25 : decode cX6_round 25 = .ok (.iload 5, 2) := by decide +kernel
theorem dX6_round_27 : decode cX6_round 27 = .ok (.ifCond .ne 14, 3) := by decide +kernel
theorem dX6_round_30 : decode cX6_round 30 = .ok (.iload 4, 2) := by decide +kernel
theorem dX6_round_32 : decode cX6_round 32 = .ok (.ifCond .lt 13, 3) := by decide +kernel
theorem dX6_round_35 : decode cX6_round 35 = .ok (.iload 4, 2) := by decide +kernel
theorem dX6_round_37 : decode cX6_round 37 = .ok (.iconst 3, 1) := by decide +kernel
theorem dX6_round_38 : decode cX6_round 38 = .ok (.if_icmp .gt 7, 3) := by decide +kernel
theorem dX6_round_41 : decode cX6_round 41 = .ok (.iconst 1, 1) := by decide +kernel
theorem dX6_round_42 : decode cX6_round 42 = .ok (.goto 4, 3) := by decide +kernel
theorem dX6_round_45 : decode cX6_round 45 = .ok (.iconst 0, 1) := by decide +kernel
theorem dX6_round_46 : decode cX6_round 46 = .ok (.invokevirtual 117, 3) := by decide +kernel
theorem dX6_round_49 : decode cX6_round 49 = .ok (.istore 6, 2) := by decide +kernel
theorem dX6_round_51 : decode cX6_round 51 = .ok (.iload 6, 2) := by decide +kernel
theorem dX6_round_53 : decode cX6_round 53 = .ok (.ifCond .eq 6, 3) := by decide +kernel
theorem dX6_round_56 : decode cX6_round 56 = .ok (.iload 6, 2) := by decide +kernel
theorem dX6_round_58 : decode cX6_round 58 = .ok (.ireturn, 1) := by decide +kernel
theorem dX6_round_59 : decode cX6_round 59 = .ok (.aload_n 0, 1) := by decide +kernel
theorem dX6_round_60 : decode cX6_round 60 = .ok (.getfield 21, 3) := by decide +kernel
theorem dX6_round_63 : decode cX6_round 63 = .ok (.aload_n 0, 1) := by decide +kernel
theorem dX6_round_64 : decode cX6_round 64 = .ok (.getfield 39, 3) := by decide +kernel
theorem dX6_round_67 : decode cX6_round 67 = .ok (.invokevirtual 121, 3) := by decide +kernel
theorem dX6_round_70 : decode cX6_round 70 = .ok (.istore 7, 2) := by decide +kernel
theorem dX6_round_72 : decode cX6_round 72 = .ok (.iload 4, 2) := by decide +kernel
theorem dX6_round_74 : decode cX6_round 74 = .ok (.iconst 1, 1) := by decide +kernel
theorem dX6_round_75 : decode cX6_round 75 = .ok (.if_icmp .ne 6, 3) := by decide +kernel
theorem dX6_round_78 : decode cX6_round 78 = .ok (.iload 7, 2) := by decide +kernel
theorem dX6_round_80 : decode cX6_round 80 = .ok (.ireturn, 1) := by decide +kernel
theorem dX6_round_81 : decode cX6_round 81 = .ok (.iload 7, 2) := by decide +kernel
theorem dX6_round_83 : decode cX6_round 83 = .ok (.bipush (-9), 2) := by decide +kernel
theorem dX6_round_85 : decode cX6_round 85 = .ok (.if_icmp .eq 9, 3) := by decide +kernel
theorem dX6_round_88 : decode cX6_round 88 = .ok (.bipush (-100), 2) := by decide +kernel
theorem dX6_round_90 : decode cX6_round 90 = .ok (.iload 7, 2) := by decide +kernel
theorem dX6_round_92 : decode cX6_round 92 = .ok (.isub, 1) := by decide +kernel
theorem dX6_round_93 : decode cX6_round 93 = .ok (.ireturn, 1) := by decide +kernel
theorem dX6_round_94 : decode cX6_round 94 = .ok (.iload 5, 2) := by decide +kernel
theorem dX6_round_96 : decode cX6_round 96 = .ok (.ifCond .eq 27, 3) := by decide +kernel
theorem dX6_round_99 : decode cX6_round 99 = .ok (.aload_n 0, 1) := by decide +kernel
theorem dX6_round_100 : decode cX6_round 100 = .ok (.getfield 21, 3) := by decide +kernel
theorem dX6_round_103 : decode cX6_round 103 = .ok (.aload_n 0, 1) := by decide +kernel
theorem dX6_round_104 : decode cX6_round 104 = .ok (.getfield 39, 3) := by decide +kernel
theorem dX6_round_107 : decode cX6_round 107 = .ok (.iload 4, 2) := by decide +kernel
theorem dX6_round_109 : decode cX6_round 109 = .ok (.bipush 10, 2) := by decide +kernel
theorem dX6_round_111 : decode cX6_round 111 = .ok (.isub, 1) := by decide +kernel
theorem dX6_round_112 : decode cX6_round 112 = .ok (.iconst 1, 1) := by decide +kernel
theorem dX6_round_113 : decode cX6_round 113 = .ok (.iadd, 1) := by decide +kernel
theorem dX6_round_114 : decode cX6_round 114 = .ok (.iload 4, 2) := by decide +kernel
theorem dX6_round_116 : decode cX6_round 116 = .ok (.bipush 10, 2) := by decide +kernel
theorem dX6_round_118 : decode cX6_round 118 = .ok (.isub, 1) := by decide +kernel
theorem dX6_round_119 : decode cX6_round 119 = .ok (.invokevirtual 125, 3) := by decide +kernel
theorem dX6_round_122 : decode cX6_round 122 = .ok (.ireturn, 1) := by decide +kernel
theorem dX6_round_123 : decode cX6_round 123 = .ok (.aload_n 0, 1) := by decide +kernel
theorem dX6_round_124 : decode cX6_round 124 = .ok (.getfield 21, 3) := by decide +kernel
theorem dX6_round_127 : decode cX6_round 127 = .ok (.aload_n 0, 1) := by decide +kernel
theorem dX6_round_128 : decode cX6_round 128 = .ok (.getfield 39, 3) := by decide +kernel
theorem dX6_round_131 : decode cX6_round 131 = .ok (.invokevirtual 128, 3) := by decide +kernel
theorem dX6_round_134 : decode cX6_round 134 = .ok (.istore 8, 2) := by decide +kernel
theorem dX6_round_136 : decode cX6_round 136 = .ok (.iload 4, 2) := by decide +kernel
theorem dX6_round_138 : decode cX6_round 138 = .ok (.iconst 2, 1) := by decide +kernel
theorem dX6_round_139 : decode cX6_round 139 = .ok (.if_icmp .ne 6, 3) := by decide +kernel
theorem dX6_round_142 : decode cX6_round 142 = .ok (.iload 8, 2) := by decide +kernel
theorem dX6_round_144 : decode cX6_round 144 = .ok (.ireturn, 1) := by decide +kernel
theorem dX6_round_145 : decode cX6_round 145 = .ok (.aload_n 0, 1) := by decide +kernel
theorem dX6_round_146 : decode cX6_round 146 = .ok (.getfield 21, 3) := by decide +kernel
theorem dX6_round_149 : decode cX6_round 149 = .ok (.aload_n 0, 1) := by decide +kernel
theorem dX6_round_150 : decode cX6_round 150 = .ok (.getfield 39, 3) := by decide +kernel
theorem dX6_round_153 : decode cX6_round 153 = .ok (.aload_n 0, 1) := by decide +kernel
theorem dX6_round_154 : decode cX6_round 154 = .ok (.getfield 21, 3) := by decide +kernel
theorem dX6_round_157 : decode cX6_round 157 = .ok (.getfield 114, 3) := by decide +kernel
theorem dX6_round_160 : decode cX6_round 160 = .ok (.invokevirtual 131, 3) := by decide +kernel
theorem dX6_round_163 : decode cX6_round 163 = .ok (.istore 9, 2) := by decide +kernel
theorem dX6_round_165 : decode cX6_round 165 = .ok (.iload 4, 2) := by decide +kernel
theorem dX6_round_167 : decode cX6_round 167 = .ok (.ifCond .ne 8, 3) := by decide +kernel
theorem dX6_round_170 : decode cX6_round 170 = .ok (.iload 9, 2) := by decide +kernel
theorem dX6_round_172 : decode cX6_round 172 = .ok (.goto 20, 3) := by decide +kernel
theorem dX6_round_175 : decode cX6_round 175 = .ok (.iload 9, 2) := by decide +kernel
theorem dX6_round_177 : decode cX6_round 177 = .ok (.aload_n 0, 1) := by decide +kernel
theorem dX6_round_178 : decode cX6_round 178 = .ok (.getfield 21, 3) := by decide +kernel
theorem dX6_round_181 : decode cX6_round 181 = .ok (.getfield 111, 3) := by decide +kernel
theorem dX6_round_184 : decode cX6_round 184 = .ok (.iload 8, 2) := by decide +kernel
theorem dX6_round_186 : decode cX6_round 186 = .ok (.imul, 1) := by decide +kernel
theorem dX6_round_187 : decode cX6_round 187 = .ok (.isub, 1) := by decide +kernel
theorem dX6_round_188 : decode cX6_round 188 = .ok (.sipush 1000, 3) := by decide +kernel
theorem dX6_round_191 : decode cX6_round 191 = .ok (.iadd, 1) := by decide +kernel
theorem dX6_round_192 : decode cX6_round 192 = .ok (.ireturn, 1) := by decide +kernel
theorem dX6_best_0 : decode cX6_best 0 = .ok (.iload_n 1, 1) := by decide +kernel
theorem dX6_best_1 : decode cX6_best 1 = .ok (.iconst (-1), 1) := by decide +kernel
theorem dX6_best_2 : decode cX6_best 2 = .ok (.if_icmp .lt 9, 3) := by decide +kernel
theorem dX6_best_5 : decode cX6_best 5 = .ok (.iload_n 1, 1) := by decide +kernel
theorem dX6_best_6 : decode cX6_best 6 = .ok (.bipush 6, 2) := by decide +kernel
theorem dX6_best_8 : decode cX6_best 8 = .ok (.if_icmp .lt 6, 3) := by decide +kernel
theorem dX6_best_11 : decode cX6_best 11 = .ok (.bipush (-2), 2) := by decide +kernel
theorem dX6_best_13 : decode cX6_best 13 = .ok (.ireturn, 1) := by decide +kernel
theorem dX6_best_14 : decode cX6_best 14 = .ok (.aload_n 0, 1) := by decide +kernel
theorem dX6_best_15 : decode cX6_best 15 = .ok (.getfield 21, 3) := by decide +kernel
theorem dX6_best_18 : decode cX6_best 18 = .ok (.invokevirtual 107, 3) := by decide +kernel
theorem dX6_best_21 : decode cX6_best 21 = .ok (.ifCond .ne 6, 3) := by decide +kernel
theorem dX6_best_24 : decode cX6_best 24 = .ok (.bipush (-3), 2) := by decide +kernel
theorem dX6_best_26 : decode cX6_best 26 = .ok (.ireturn, 1) := by decide +kernel
theorem dX6_best_27 : decode cX6_best 27 = .ok (.aload_n 0, 1) := by decide +kernel
theorem dX6_best_28 : decode cX6_best 28 = .ok (.bipush (-9), 2) := by decide +kernel
theorem dX6_best_30 : decode cX6_best 30 = .ok (.invokevirtual 135, 3) := by decide +kernel
theorem dX6_best_33 : decode cX6_best 33 = .ok (.iload_n 1, 1) := by decide +kernel
theorem dX6_best_34 : decode cX6_best 34 = .ok (.iconst (-1), 1) := by decide +kernel
theorem dX6_best_35 : decode cX6_best 35 = .ok (.if_icmp .ne 17, 3) := by decide +kernel
theorem dX6_best_38 : decode cX6_best 38 = .ok (.aload_n 0, 1) := by decide +kernel
theorem dX6_best_39 : decode cX6_best 39 = .ok (.getfield 35, 3) := by decide +kernel
theorem dX6_best_42 : decode cX6_best 42 = .ok (.getfield 139, 3) := by decide +kernel
theorem dX6_best_45 : decode cX6_best 45 = .ok (.sipush 1000, 3) := by decide +kernel
theorem dX6_best_48 : decode cX6_best 48 = .ok (.iadd, 1) := by decide +kernel
theorem dX6_best_49 : decode cX6_best 49 = .ok (.goto 12, 3) := by decide +kernel
theorem dX6_best_52 : decode cX6_best 52 = .ok (.aload_n 0, 1) := by decide +kernel
theorem dX6_best_53 : decode cX6_best 53 = .ok (.getfield 35, 3) := by decide +kernel
theorem dX6_best_56 : decode cX6_best 56 = .ok (.getfield 142, 3) := by decide +kernel
theorem dX6_best_59 : decode cX6_best 59 = .ok (.iload_n 1, 1) := by decide +kernel
theorem dX6_best_60 : decode cX6_best 60 = .ok (.iaload, 1) := by decide +kernel
theorem dX6_best_61 : decode cX6_best 61 = .ok (.ireturn, 1) := by decide +kernel
theorem dX6_mild_0 : decode cX6_mild 0 = .ok (.iload_n 1, 1) := by decide +kernel
theorem dX6_mild_1 : decode cX6_mild 1 = .ok (.ifCond .lt 9, 3) := by decide +kernel
theorem dX6_mild_4 : decode cX6_mild 4 = .ok (.iload_n 1, 1) := by decide +kernel
theorem dX6_mild_5 : decode cX6_mild 5 = .ok (.bipush 30, 2) := by decide +kernel
theorem dX6_mild_7 : decode cX6_mild 7 = .ok (.if_icmp .le 6, 3) := by decide +kernel
theorem dX6_mild_10 : decode cX6_mild 10 = .ok (.bipush (-2), 2) := by decide +kernel
theorem dX6_mild_12 : decode cX6_mild 12 = .ok (.ireturn, 1) := by decide +kernel
theorem dX6_mild_13 : decode cX6_mild 13 = .ok (.aload_n 0, 1) := by decide +kernel
theorem dX6_mild_14 : decode cX6_mild 14 = .ok (.getfield 21, 3) := by decide +kernel
theorem dX6_mild_17 : decode cX6_mild 17 = .ok (.invokevirtual 107, 3) := by decide +kernel
theorem dX6_mild_20 : decode cX6_mild 20 = .ok (.ifCond .ne 6, 3) := by decide +kernel
theorem dX6_mild_23 : decode cX6_mild 23 = .ok (.bipush (-3), 2) := by decide +kernel
theorem dX6_mild_25 : decode cX6_mild 25 = .ok (.ireturn, 1) := by decide +kernel
theorem dX6_mild_26 : decode cX6_mild 26 = .ok (.aload_n 0, 1) := by decide +kernel
theorem dX6_mild_27 : decode cX6_mild 27 = .ok (.getfield 35, 3) := by decide +kernel
theorem dX6_mild_30 : decode cX6_mild 30 = .ok (.invokevirtual 145, 3) := by decide +kernel
theorem dX6_mild_33 : decode cX6_mild 33 = .ok (.aload_n 0, 1) := by decide +kernel
theorem dX6_mild_34 : decode cX6_mild 34 = .ok (.getfield 35, 3) := by decide +kernel
theorem dX6_mild_37 : decode cX6_mild 37 = .ok (.iload_n 1, 1) := by decide +kernel
theorem dX6_mild_38 : decode cX6_mild 38 = .ok (.putfield 148, 3) := by decide +kernel
theorem dX6_mild_41 : decode cX6_mild 41 = .ok (.aload_n 0, 1) := by decide +kernel
theorem dX6_mild_42 : decode cX6_mild 42 = .ok (.getfield 35, 3) := by decide +kernel
theorem dX6_mild_45 : decode cX6_mild 45 = .ok (.aload_n 0, 1) := by decide +kernel
theorem dX6_mild_46 : decode cX6_mild 46 = .ok (.getfield 21, 3) := by decide +kernel
theorem dX6_mild_49 : decode cX6_mild 49 = .ok (.iconst 0, 1) := by decide +kernel
theorem dX6_mild_50 : decode cX6_mild 50 = .ok (.iconst 0, 1) := by decide +kernel
theorem dX6_mild_51 : decode cX6_mild 51 = .ok (.iconst 0, 1) := by decide +kernel
theorem dX6_mild_52 : decode cX6_mild 52 = .ok (.invokestatic 151, 3) := by decide +kernel
theorem dX6_mild_55 : decode cX6_mild 55 = .ok (.aload_n 0, 1) := by decide +kernel
theorem dX6_mild_56 : decode cX6_mild 56 = .ok (.getfield 35, 3) := by decide +kernel
theorem dX6_mild_59 : decode cX6_mild 59 = .ok (.getfield 155, 3) := by decide +kernel
theorem dX6_mild_62 : decode cX6_mild 62 = .ok (.ireturn, 1) := by decide +kernel
theorem dX6_worth_0 : decode cX6_worth 0 = .ok (.aload_n 0, 1) := by decide +kernel
theorem dX6_worth_1 : decode cX6_worth 1 = .ok (.getfield 21, 3) := by decide +kernel
theorem dX6_worth_4 : decode cX6_worth 4 = .ok (.iload_n 1, 1) := by decide +kernel
theorem dX6_worth_5 : decode cX6_worth 5 = .ok (.invokevirtual 79, 3) := by decide +kernel
theorem dX6_worth_8 : decode cX6_worth 8 = .ok (.ifCond .ne 5, 3) := by decide +kernel
theorem dX6_worth_11 : decode cX6_worth 11 = .ok (.iconst (-1), 1) := by decide +kernel
theorem dX6_worth_12 : decode cX6_worth 12 = .ok (.ireturn, 1) := by decide +kernel
theorem dX6_worth_13 : decode cX6_worth 13 = .ok (.aload_n 0, 1) := by decide +kernel
theorem dX6_worth_14 : decode cX6_worth 14 = .ok (.bipush (-9), 2) := by decide +kernel
theorem dX6_worth_16 : decode cX6_worth 16 = .ok (.invokevirtual 135, 3) := by decide +kernel
theorem dX6_worth_19 : decode cX6_worth 19 = .ok (.aload_n 0, 1) := by decide +kernel
theorem dX6_worth_20 : decode cX6_worth 20 = .ok (.getfield 35, 3) := by decide +kernel
theorem dX6_worth_23 : decode cX6_worth 23 = .ok (.getfield 139, 3) := by decide +kernel
theorem dX6_worth_26 : decode cX6_worth 26 = .ok (.istore_n 2, 1) := by decide +kernel
theorem dX6_worth_27 : decode cX6_worth 27 = .ok (.aload_n 0, 1) := by decide +kernel
theorem dX6_worth_28 : decode cX6_worth 28 = .ok (.iload_n 1, 1) := by decide +kernel
theorem dX6_worth_29 : decode cX6_worth 29 = .ok (.invokevirtual 135, 3) := by decide +kernel
theorem dX6_worth_32 : decode cX6_worth 32 = .ok (.iload_n 2, 1) := by decide +kernel
theorem dX6_worth_33 : decode cX6_worth 33 = .ok (.aload_n 0, 1) := by decide +kernel
theorem dX6_worth_34 : decode cX6_worth 34 = .ok (.getfield 35, 3) := by decide +kernel
theorem dX6_worth_37 : decode cX6_worth 37 = .ok (.getfield 139, 3) := by decide +kernel
theorem dX6_worth_40 : decode cX6_worth 40 = .ok (.isub, 1) := by decide +kernel
theorem dX6_worth_41 : decode cX6_worth 41 = .ok (.sipush 1000, 3) := by decide +kernel
theorem dX6_worth_44 : decode cX6_worth 44 = .ok (.iadd, 1) := by decide +kernel
theorem dX6_worth_45 : decode cX6_worth 45 = .ok (.ireturn, 1) := by decide +kernel
theorem dX6_shift_0 : decode cX6_shift 0 = .ok (.aload_n 0, 1) := by decide +kernel
theorem dX6_shift_1 : decode cX6_shift 1 = .ok (.getfield 21, 3) := by decide +kernel
theorem dX6_shift_4 : decode cX6_shift 4 = .ok (.iload_n 1, 1) := by decide +kernel
theorem dX6_shift_5 : decode cX6_shift 5 = .ok (.invokevirtual 79, 3) := by decide +kernel
theorem dX6_shift_8 : decode cX6_shift 8 = .ok (.ifCond .ne 5, 3) := by decide +kernel
theorem dX6_shift_11 : decode cX6_shift 11 = .ok (.iconst (-1), 1) := by decide +kernel
theorem dX6_shift_12 : decode cX6_shift 12 = .ok (.ireturn, 1) := by decide +kernel
theorem dX6_shift_13 : decode cX6_shift 13 = .ok (.aload_n 0, 1) := by decide +kernel
theorem dX6_shift_14 : decode cX6_shift 14 = .ok (.getfield 21, 3) := by decide +kernel
theorem dX6_shift_17 : decode cX6_shift 17 = .ok (.getfield 82, 3) := by decide +kernel
theorem dX6_shift_20 : decode cX6_shift 20 = .ok (.iload_n 1, 1) := by decide +kernel
theorem dX6_shift_21 : decode cX6_shift 21 = .ok (.aaload, 1) := by decide +kernel
theorem dX6_shift_22 : decode cX6_shift 22 = .ok (.astore_n 2, 1) := by decide +kernel
theorem dX6_shift_23 : decode cX6_shift 23 = .ok (.aload_n 2, 1) := by decide +kernel
theorem dX6_shift_24 : decode cX6_shift 24 = .ok (.getfield 100, 3) := by decide +kernel
theorem dX6_shift_27 : decode cX6_shift 27 = .ok (.istore_n 3, 1) := by decide +kernel
theorem dX6_shift_28 : decode cX6_shift 28 = .ok (.aload_n 0, 1) := by decide +kernel
theorem dX6_shift_29 : decode cX6_shift 29 = .ok (.iload_n 1, 1) := by decide +kernel
theorem dX6_shift_30 : decode cX6_shift 30 = .ok (.invokevirtual 158, 3) := by decide +kernel
theorem dX6_shift_33 : decode cX6_shift 33 = .ok (.istore 4, 2) := by decide +kernel
theorem dX6_shift_35 : decode cX6_shift 35 = .ok (.bipush (-9), 2) := by decide +kernel
theorem dX6_shift_37 : decode cX6_shift 37 = .ok (.istore 5, 2) := by decide +kernel
theorem dX6_shift_39 : decode cX6_shift 39 = .ok (.iconst 0, 1) := by decide +kernel
theorem dX6_shift_40 : decode cX6_shift 40 = .ok (.istore 6, 2) := by decide +kernel
theorem dX6_shift_42 : decode cX6_shift 42 = .ok (.iload 6, 2) := by decide +kernel
theorem dX6_shift_44 : decode cX6_shift 44 = .ok (.bipush 6, 2) := by decide +kernel
theorem dX6_shift_46 : decode cX6_shift 46 = .ok (.if_icmp .ge 52, 3) := by decide +kernel
theorem dX6_shift_49 : decode cX6_shift 49 = .ok (.iload_n 3, 1) := by decide +kernel
theorem dX6_shift_50 : decode cX6_shift 50 = .ok (.iload 6, 2) := by decide +kernel
theorem dX6_shift_52 : decode cX6_shift 52 = .ok (.invokestatic 161, 3) := by decide +kernel
theorem dX6_shift_55 : decode cX6_shift 55 = .ok (.ifCond .eq 37, 3) := by decide +kernel
theorem dX6_shift_58 : decode cX6_shift 58 = .ok (.aload_n 2, 1) := by decide +kernel
theorem dX6_shift_59 : decode cX6_shift 59 = .ok (.iload_n 3, 1) := by decide +kernel
theorem dX6_shift_60 : decode cX6_shift 60 = .ok (.iconst 1, 1) := by decide +kernel
theorem dX6_shift_61 : decode cX6_shift 61 = .ok (.iload 6, 2) := by decide +kernel
theorem dX6_shift_63 : decode cX6_shift 63 = .ok (.ishl, 1) := by decide +kernel
theorem dX6_shift_64 : decode cX6_shift 64 = .ok (.iconst (-1), 1) := by decide +kernel
theorem dX6_shift_65 : decode cX6_shift 65 = .ok (.ixor, 1) := by decide +kernel
theorem dX6_shift_66 : decode cX6_shift 66 = .ok (.iand, 1) := by decide +kernel
theorem dX6_shift_67 : decode cX6_shift 67 = .ok (.putfield 100, 3) := by decide +kernel
theorem dX6_shift_70 : decode cX6_shift 70 = .ok (.aload_n 0, 1) := by decide +kernel
theorem dX6_shift_71 : decode cX6_shift 71 = .ok (.iload_n 1, 1) := by decide +kernel
theorem dX6_shift_72 : decode cX6_shift 72 = .ok (.invokevirtual 158, 3) := by decide +kernel
theorem dX6_shift_75 : decode cX6_shift 75 = .ok (.istore 7, 2) := by decide +kernel
theorem dX6_shift_77 : decode cX6_shift 77 = .ok (.iload 7, 2) := by decide +kernel
theorem dX6_shift_79 : decode cX6_shift 79 = .ok (.iload 4, 2) := by decide +kernel
theorem dX6_shift_81 : decode cX6_shift 81 = .ok (.if_icmp .ge 11, 3) := by decide +kernel
theorem dX6_shift_84 : decode cX6_shift 84 = .ok (.iload 7, 2) := by decide +kernel
theorem dX6_shift_86 : decode cX6_shift 86 = .ok (.istore 4, 2) := by decide +kernel
theorem dX6_shift_88 : decode cX6_shift 88 = .ok (.iload 6, 2) := by decide +kernel
theorem dX6_shift_90 : decode cX6_shift 90 = .ok (.istore 5, 2) := by decide +kernel
theorem dX6_shift_92 : decode cX6_shift 92 = .ok (.iinc 6 1, 3) := by decide +kernel
theorem dX6_shift_95 : decode cX6_shift 95 = .ok (.goto (-53), 3) := by decide +kernel
theorem dX6_shift_98 : decode cX6_shift 98 = .ok (.aload_n 2, 1) := by decide +kernel
theorem dX6_shift_99 : decode cX6_shift 99 = .ok (.iload_n 3, 1) := by decide +kernel
theorem dX6_shift_100 : decode cX6_shift 100 = .ok (.putfield 100, 3) := by decide +kernel
theorem dX6_shift_103 : decode cX6_shift 103 = .ok (.iload 5, 2) := by decide +kernel
theorem dX6_shift_105 : decode cX6_shift 105 = .ok (.ireturn, 1) := by decide +kernel
theorem dX6_reading_0 : decode cX6_reading 0 = .ok (.aload_n 0, 1) := by decide +kernel
theorem dX6_reading_1 : decode cX6_reading 1 = .ok (.getfield 21, 3) := by decide +kernel
theorem dX6_reading_4 : decode cX6_reading 4 = .ok (.iload_n 1, 1) := by decide +kernel
theorem dX6_reading_5 : decode cX6_reading 5 = .ok (.invokevirtual 79, 3) := by decide +kernel
theorem dX6_reading_8 : decode cX6_reading 8 = .ok (.ifCond .ne 5, 3) := by decide +kernel
theorem dX6_reading_11 : decode cX6_reading 11 = .ok (.iconst (-1), 1) := by decide +kernel
theorem dX6_reading_12 : decode cX6_reading 12 = .ok (.ireturn, 1) := by decide +kernel
theorem dX6_reading_13 : decode cX6_reading 13 = .ok (.iload_n 2, 1) := by decide +kernel
theorem dX6_reading_14 : decode cX6_reading 14 = .ok (.invokestatic 165, 3) := by decide +kernel
theorem dX6_reading_17 : decode cX6_reading 17 = .ok (.ifCond .ne 6, 3) := by decide +kernel
theorem dX6_reading_20 : decode cX6_reading 20 = .ok (.bipush (-2), 2) := by decide +kernel
theorem dX6_reading_22 : decode cX6_reading 22 = .ok (.ireturn, 1) := by decide +kernel
theorem dX6_reading_23 : decode cX6_reading 23 = .ok (.aload_n 0, 1) := by decide +kernel
theorem dX6_reading_24 : decode cX6_reading 24 = .ok (.getfield 28, 3) := by decide +kernel
theorem dX6_reading_27 : decode cX6_reading 27 = .ok (.iload_n 1, 1) := by decide +kernel
theorem dX6_reading_28 : decode cX6_reading 28 = .ok (.iload_n 2, 1) := by decide +kernel
theorem dX6_reading_29 : decode cX6_reading 29 = .ok (.iload_n 3, 1) := by decide +kernel
theorem dX6_reading_30 : decode cX6_reading 30 = .ok (.invokevirtual 168, 3) := by decide +kernel
theorem dX6_reading_33 : decode cX6_reading 33 = .ok (.ireturn, 1) := by decide +kernel
theorem dX6_back_0 : decode cX6_back 0 = .ok (.iload_n 1, 1) := by decide +kernel
theorem dX6_back_1 : decode cX6_back 1 = .ok (.ifCond .lt 14, 3) := by decide +kernel
theorem dX6_back_4 : decode cX6_back 4 = .ok (.iload_n 1, 1) := by decide +kernel
theorem dX6_back_5 : decode cX6_back 5 = .ok (.aload_n 0, 1) := by decide +kernel
theorem dX6_back_6 : decode cX6_back 6 = .ok (.getfield 28, 3) := by decide +kernel
theorem dX6_back_9 : decode cX6_back 9 = .ok (.getfield 75, 3) := by decide +kernel
theorem dX6_back_12 : decode cX6_back 12 = .ok (.if_icmp .le 6, 3) := by decide +kernel
theorem dX6_back_15 : decode cX6_back 15 = .ok (.bipush (-2), 2) := by decide +kernel
theorem dX6_back_17 : decode cX6_back 17 = .ok (.ireturn, 1) := by decide +kernel
theorem dX6_back_18 : decode cX6_back 18 = .ok (.aload_n 0, 1) := by decide +kernel
theorem dX6_back_19 : decode cX6_back 19 = .ok (.getfield 28, 3) := by decide +kernel
theorem dX6_back_22 : decode cX6_back 22 = .ok (.dup, 1) := by decide +kernel
theorem dX6_back_23 : decode cX6_back 23 = .ok (.getfield 75, 3) := by decide +kernel
theorem dX6_back_26 : decode cX6_back 26 = .ok (.iload_n 1, 1) := by decide +kernel
theorem dX6_back_27 : decode cX6_back 27 = .ok (.isub, 1) := by decide +kernel
theorem dX6_back_28 : decode cX6_back 28 = .ok (.putfield 75, 3) := by decide +kernel
theorem dX6_back_31 : decode cX6_back 31 = .ok (.aload_n 0, 1) := by decide +kernel
theorem dX6_back_32 : decode cX6_back 32 = .ok (.getfield 28, 3) := by decide +kernel
theorem dX6_back_35 : decode cX6_back 35 = .ok (.getfield 75, 3) := by decide +kernel
theorem dX6_back_38 : decode cX6_back 38 = .ok (.ireturn, 1) := by decide +kernel
theorem dX6_rounds_0 : decode cX6_rounds 0 = .ok (.iload_n 1, 1) := by decide +kernel
theorem dX6_rounds_1 : decode cX6_rounds 1 = .ok (.iconst (-1), 1) := by decide +kernel
theorem dX6_rounds_2 : decode cX6_rounds 2 = .ok (.if_icmp .lt 9, 3) := by decide +kernel
theorem dX6_rounds_5 : decode cX6_rounds 5 = .ok (.iload_n 1, 1) := by decide +kernel
theorem dX6_rounds_6 : decode cX6_rounds 6 = .ok (.bipush 6, 2) := by decide +kernel
theorem dX6_rounds_8 : decode cX6_rounds 8 = .ok (.if_icmp .lt 6, 3) := by decide +kernel
theorem dX6_rounds_11 : decode cX6_rounds 11 = .ok (.bipush (-2), 2) := by decide +kernel
theorem dX6_rounds_13 : decode cX6_rounds 13 = .ok (.ireturn, 1) := by decide +kernel
theorem dX6_rounds_14 : decode cX6_rounds 14 = .ok (.aload_n 0, 1) := by decide +kernel
theorem dX6_rounds_15 : decode cX6_rounds 15 = .ok (.getfield 21, 3) := by decide +kernel
theorem dX6_rounds_18 : decode cX6_rounds 18 = .ok (.invokevirtual 107, 3) := by decide +kernel
theorem dX6_rounds_21 : decode cX6_rounds 21 = .ok (.ifCond .ne 6, 3) := by decide +kernel
theorem dX6_rounds_24 : decode cX6_rounds 24 = .ok (.bipush (-3), 2) := by decide +kernel
theorem dX6_rounds_26 : decode cX6_rounds 26 = .ok (.ireturn, 1) := by decide +kernel
theorem dX6_rounds_27 : decode cX6_rounds 27 = .ok (.aload_n 0, 1) := by decide +kernel
theorem dX6_rounds_28 : decode cX6_rounds 28 = .ok (.invokevirtual 172, 3) := by decide +kernel
theorem dX6_rounds_31 : decode cX6_rounds 31 = .ok (.iload_n 1, 1) := by decide +kernel
theorem dX6_rounds_32 : decode cX6_rounds 32 = .ok (.iconst (-1), 1) := by decide +kernel
theorem dX6_rounds_33 : decode cX6_rounds 33 = .ok (.if_icmp .ne 13, 3) := by decide +kernel
theorem dX6_rounds_36 : decode cX6_rounds 36 = .ok (.aload_n 0, 1) := by decide +kernel
theorem dX6_rounds_37 : decode cX6_rounds 37 = .ok (.getfield 35, 3) := by decide +kernel
theorem dX6_rounds_40 : decode cX6_rounds 40 = .ok (.getfield 175, 3) := by decide +kernel
theorem dX6_rounds_43 : decode cX6_rounds 43 = .ok (.goto 12, 3) := by decide +kernel
theorem dX6_rounds_46 : decode cX6_rounds 46 = .ok (.aload_n 0, 1) := by decide +kernel
theorem dX6_rounds_47 : decode cX6_rounds 47 = .ok (.getfield 35, 3) := by decide +kernel
theorem dX6_rounds_50 : decode cX6_rounds 50 = .ok (.getfield 176, 3) := by decide +kernel
theorem dX6_rounds_53 : decode cX6_rounds 53 = .ok (.iload_n 1, 1) := by decide +kernel
theorem dX6_rounds_54 : decode cX6_rounds 54 = .ok (.iaload, 1) := by decide +kernel
theorem dX6_rounds_55 : decode cX6_rounds 55 = .ok (.ireturn, 1) := by decide +kernel
theorem dX6_sure_0 : decode cX6_sure 0 = .ok (.iload_n 1, 1) := by decide +kernel
theorem dX6_sure_1 : decode cX6_sure 1 = .ok (.invokestatic 165, 3) := by decide +kernel
theorem dX6_sure_4 : decode cX6_sure 4 = .ok (.ifCond .ne 6, 3) := by decide +kernel
theorem dX6_sure_7 : decode cX6_sure 7 = .ok (.bipush (-2), 2) := by decide +kernel
theorem dX6_sure_9 : decode cX6_sure 9 = .ok (.ireturn, 1) := by decide +kernel
end
section
theorem dX6_sure_10 : decode cX6_sure 10 = .ok (.aload_n 0, 1) := by decide +kernel
theorem dX6_sure_11 : decode cX6_sure 11 = .ok (.getfield 21, 3) := by decide +kernel
theorem dX6_sure_14 : decode cX6_sure 14 = .ok (.invokevirtual 107, 3) := by decide +kernel
theorem dX6_sure_17 : decode cX6_sure 17 = .ok (.ifCond .ne 6, 3) := by decide +kernel
theorem dX6_sure_20 : decode cX6_sure 20 = .ok (.bipush (-3), 2) := by decide +kernel
theorem dX6_sure_22 : decode cX6_sure 22 = .ok (.ireturn, 1) := by decide +kernel
theorem dX6_sure_23 : decode cX6_sure 23 = .ok (.aload_n 0, 1) := by decide +kernel
theorem dX6_sure_24 : decode cX6_sure 24 = .ok (.invokevirtual 172, 3) := by decide +kernel
theorem dX6_sure_27 : decode cX6_sure 27 = .ok (.aload_n 0, 1) := by decide +kernel
theorem dX6_sure_28 : decode cX6_sure 28 = .ok (.getfield 35, 3) := by decide +kernel
theorem dX6_sure_31 : decode cX6_sure 31 = .ok (.getfield 179, 3) := by decide +kernel
theorem dX6_sure_34 : decode cX6_sure 34 = .ok (.iload_n 1, 1) := by decide +kernel
theorem dX6_sure_35 : decode cX6_sure 35 = .ok (.iaload, 1) := by decide +kernel
theorem dX6_sure_36 : decode cX6_sure 36 = .ok (.ireturn, 1) := by decide +kernel
theorem dX6_laws_0 : decode cX6_laws 0 = .ok (.aload_n 0, 1) := by decide +kernel
theorem dX6_laws_1 : decode cX6_laws 1 = .ok (.iload_n 1, 1) := by decide +kernel
theorem dX6_laws_2 : decode cX6_laws 2 = .ok (.iload_n 2, 1) := by decide +kernel
theorem dX6_laws_3 : decode cX6_laws 3 = .ok (.iload_n 3, 1) := by decide +kernel
theorem dX6_laws_4 : decode cX6_laws 4 = .ok (.iload 4, 2) := by decide +kernel
theorem dX6_laws_6 : decode cX6_laws 6 = .ok (.ifCond .lt 15, 3) := by decide +kernel
theorem dX6_laws_9 : decode cX6_laws 9 = .ok (.iload 4, 2) := by decide +kernel
theorem dX6_laws_11 : decode cX6_laws 11 = .ok (.sipush 999, 3) := by decide +kernel
theorem dX6_laws_14 : decode cX6_laws 14 = .ok (.if_icmp .gt 7, 3) := by decide +kernel
theorem dX6_laws_17 : decode cX6_laws 17 = .ok (.iconst 1, 1) := by decide +kernel
theorem dX6_laws_18 : decode cX6_laws 18 = .ok (.goto 4, 3) := by decide +kernel
theorem dX6_laws_21 : decode cX6_laws 21 = .ok (.iconst 0, 1) := by decide +kernel
theorem dX6_laws_22 : decode cX6_laws 22 = .ok (.invokevirtual 117, 3) := by decide +kernel
theorem dX6_laws_25 : decode cX6_laws 25 = .ok (.istore 5, 2) := by decide +kernel
theorem dX6_laws_27 : decode cX6_laws 27 = .ok (.iload 5, 2) := by decide +kernel
theorem dX6_laws_29 : decode cX6_laws 29 = .ok (.ifCond .eq 6, 3) := by decide +kernel
theorem dX6_laws_32 : decode cX6_laws 32 = .ok (.iload 5, 2) := by decide +kernel
theorem dX6_laws_34 : decode cX6_laws 34 = .ok (.ireturn, 1) := by decide +kernel
theorem dX6_laws_35 : decode cX6_laws 35 = .ok (.aload_n 0, 1) := by decide +kernel
theorem dX6_laws_36 : decode cX6_laws 36 = .ok (.getfield 21, 3) := by decide +kernel
theorem dX6_laws_39 : decode cX6_laws 39 = .ok (.aload_n 0, 1) := by decide +kernel
theorem dX6_laws_40 : decode cX6_laws 40 = .ok (.getfield 39, 3) := by decide +kernel
theorem dX6_laws_43 : decode cX6_laws 43 = .ok (.invokevirtual 121, 3) := by decide +kernel
theorem dX6_laws_46 : decode cX6_laws 46 = .ok (.istore 6, 2) := by decide +kernel
theorem dX6_laws_48 : decode cX6_laws 48 = .ok (.iload 6, 2) := by decide +kernel
theorem dX6_laws_50 : decode cX6_laws 50 = .ok (.bipush (-9), 2) := by decide +kernel
theorem dX6_laws_52 : decode cX6_laws 52 = .ok (.if_icmp .eq 9, 3) := by decide +kernel
theorem dX6_laws_55 : decode cX6_laws 55 = .ok (.bipush (-100), 2) := by decide +kernel
theorem dX6_laws_57 : decode cX6_laws 57 = .ok (.iload 6, 2) := by decide +kernel
theorem dX6_laws_59 : decode cX6_laws 59 = .ok (.isub, 1) := by decide +kernel
theorem dX6_laws_60 : decode cX6_laws 60 = .ok (.ireturn, 1) := by decide +kernel
theorem dX6_laws_61 : decode cX6_laws 61 = .ok (.iconst 0, 1) := by decide +kernel
theorem dX6_laws_62 : decode cX6_laws 62 = .ok (.istore 7, 2) := by decide +kernel
theorem dX6_laws_64 : decode cX6_laws 64 = .ok (.iconst 0, 1) := by decide +kernel
theorem dX6_laws_65 : decode cX6_laws 65 = .ok (.istore 8, 2) := by decide +kernel
theorem dX6_laws_67 : decode cX6_laws 67 = .ok (.iload 8, 2) := by decide +kernel
theorem dX6_laws_69 : decode cX6_laws 69 = .ok (.iconst 4, 1) := by decide +kernel
theorem dX6_laws_70 : decode cX6_laws 70 = .ok (.if_icmp .ge 36, 3) := by decide +kernel
theorem dX6_laws_73 : decode cX6_laws 73 = .ok (.aload_n 0, 1) := by decide +kernel
theorem dX6_laws_74 : decode cX6_laws 74 = .ok (.getfield 21, 3) := by decide +kernel
theorem dX6_laws_77 : decode cX6_laws 77 = .ok (.aload_n 0, 1) := by decide +kernel
theorem dX6_laws_78 : decode cX6_laws 78 = .ok (.getfield 39, 3) := by decide +kernel
theorem dX6_laws_81 : decode cX6_laws 81 = .ok (.iload 8, 2) := by decide +kernel
theorem dX6_laws_83 : decode cX6_laws 83 = .ok (.invokevirtual 131, 3) := by decide +kernel
theorem dX6_laws_86 : decode cX6_laws 86 = .ok (.iload 4, 2) := by decide +kernel
theorem dX6_laws_88 : decode cX6_laws 88 = .ok (.if_icmp .ne 12, 3) := by decide +kernel
theorem dX6_laws_91 : decode cX6_laws 91 = .ok (.iload 7, 2) := by decide +kernel
theorem dX6_laws_93 : decode cX6_laws 93 = .ok (.iconst 1, 1) := by decide +kernel
theorem dX6_laws_94 : decode cX6_laws 94 = .ok (.iload 8, 2) := by decide +kernel
theorem dX6_laws_96 : decode cX6_laws 96 = .ok (.ishl, 1) := by decide +kernel
theorem dX6_laws_97 : decode cX6_laws 97 = .ok (.ior, 1) := by decide +kernel
theorem dX6_laws_98 : decode cX6_laws 98 = .ok (.istore 7, 2) := by decide +kernel
theorem dX6_laws_100 : decode cX6_laws 100 = .ok (.iinc 8 1, 3) := by decide +kernel
theorem dX6_laws_103 : decode cX6_laws 103 = .ok (.goto (-36), 3) := by decide +kernel
theorem dX6_laws_106 : decode cX6_laws 106 = .ok (.iload 7, 2) := by decide +kernel
theorem dX6_laws_108 : decode cX6_laws 108 = .ok (.ireturn, 1) := by decide +kernel
theorem dX6_used_0 : decode cX6_used 0 = .ok (.aload_n 0, 1) := by decide +kernel
theorem dX6_used_1 : decode cX6_used 1 = .ok (.iconst 0, 1) := by decide +kernel
theorem dX6_used_2 : decode cX6_used 2 = .ok (.putfield 43, 3) := by decide +kernel
theorem dX6_used_5 : decode cX6_used 5 = .ok (.aload_n 0, 1) := by decide +kernel
theorem dX6_used_6 : decode cX6_used 6 = .ok (.getfield 21, 3) := by decide +kernel
theorem dX6_used_9 : decode cX6_used 9 = .ok (.iload_n 1, 1) := by decide +kernel
theorem dX6_used_10 : decode cX6_used 10 = .ok (.invokevirtual 79, 3) := by decide +kernel
theorem dX6_used_13 : decode cX6_used 13 = .ok (.ifCond .ne 5, 3) := by decide +kernel
theorem dX6_used_16 : decode cX6_used 16 = .ok (.iconst (-1), 1) := by decide +kernel
theorem dX6_used_17 : decode cX6_used 17 = .ok (.ireturn, 1) := by decide +kernel
theorem dX6_used_18 : decode cX6_used 18 = .ok (.aload_n 0, 1) := by decide +kernel
theorem dX6_used_19 : decode cX6_used 19 = .ok (.iload_n 2, 1) := by decide +kernel
theorem dX6_used_20 : decode cX6_used 20 = .ok (.iload_n 3, 1) := by decide +kernel
theorem dX6_used_21 : decode cX6_used 21 = .ok (.iload 4, 2) := by decide +kernel
theorem dX6_used_23 : decode cX6_used 23 = .ok (.iload 5, 2) := by decide +kernel
theorem dX6_used_25 : decode cX6_used 25 = .ok (.ifCond .lt 15, 3) := by decide +kernel
theorem dX6_used_28 : decode cX6_used 28 = .ok (.iload 5, 2) := by decide +kernel
theorem dX6_used_30 : decode cX6_used 30 = .ok (.sipush 999, 3) := by decide +kernel
theorem dX6_used_33 : decode cX6_used 33 = .ok (.if_icmp .gt 7, 3) := by decide +kernel
theorem dX6_used_36 : decode cX6_used 36 = .ok (.iconst 1, 1) := by decide +kernel
theorem dX6_used_37 : decode cX6_used 37 = .ok (.goto 4, 3) := by decide +kernel
theorem dX6_used_40 : decode cX6_used 40 = .ok (.iconst 0, 1) := by decide +kernel
theorem dX6_used_41 : decode cX6_used 41 = .ok (.invokevirtual 117, 3) := by decide +kernel
theorem dX6_used_44 : decode cX6_used 44 = .ok (.istore 6, 2) := by decide +kernel
theorem dX6_used_46 : decode cX6_used 46 = .ok (.iload 6, 2) := by decide +kernel
theorem dX6_used_48 : decode cX6_used 48 = .ok (.ifCond .eq 6, 3) := by decide +kernel
theorem dX6_used_51 : decode cX6_used 51 = .ok (.iload 6, 2) := by decide +kernel
theorem dX6_used_53 : decode cX6_used 53 = .ok (.ireturn, 1) := by decide +kernel
theorem dX6_used_54 : decode cX6_used 54 = .ok (.aload_n 0, 1) := by decide +kernel
theorem dX6_used_55 : decode cX6_used 55 = .ok (.getfield 21, 3) := by decide +kernel
theorem dX6_used_58 : decode cX6_used 58 = .ok (.aload_n 0, 1) := by decide +kernel
theorem dX6_used_59 : decode cX6_used 59 = .ok (.getfield 39, 3) := by decide +kernel
theorem dX6_used_62 : decode cX6_used 62 = .ok (.invokevirtual 121, 3) := by decide +kernel
theorem dX6_used_65 : decode cX6_used 65 = .ok (.istore 7, 2) := by decide +kernel
theorem dX6_used_67 : decode cX6_used 67 = .ok (.iload 7, 2) := by decide +kernel
theorem dX6_used_69 : decode cX6_used 69 = .ok (.bipush (-9), 2) := by decide +kernel
theorem dX6_used_71 : decode cX6_used 71 = .ok (.if_icmp .eq 9, 3) := by decide +kernel
theorem dX6_used_74 : decode cX6_used 74 = .ok (.bipush (-100), 2) := by decide +kernel
theorem dX6_used_76 : decode cX6_used 76 = .ok (.iload 7, 2) := by decide +kernel
theorem dX6_used_78 : decode cX6_used 78 = .ok (.isub, 1) := by decide +kernel
theorem dX6_used_79 : decode cX6_used 79 = .ok (.ireturn, 1) := by decide +kernel
theorem dX6_used_80 : decode cX6_used 80 = .ok (.aload_n 0, 1) := by decide +kernel
theorem dX6_used_81 : decode cX6_used 81 = .ok (.getfield 21, 3) := by decide +kernel
theorem dX6_used_84 : decode cX6_used 84 = .ok (.aload_n 0, 1) := by decide +kernel
theorem dX6_used_85 : decode cX6_used 85 = .ok (.getfield 39, 3) := by decide +kernel
theorem dX6_used_88 : decode cX6_used 88 = .ok (.iload_n 1, 1) := by decide +kernel
theorem dX6_used_89 : decode cX6_used 89 = .ok (.invokevirtual 182, 3) := by decide +kernel
theorem dX6_used_92 : decode cX6_used 92 = .ok (.istore 8, 2) := by decide +kernel
theorem dX6_used_94 : decode cX6_used 94 = .ok (.aload_n 0, 1) := by decide +kernel
theorem dX6_used_95 : decode cX6_used 95 = .ok (.getfield 21, 3) := by decide +kernel
theorem dX6_used_98 : decode cX6_used 98 = .ok (.aload_n 0, 1) := by decide +kernel
theorem dX6_used_99 : decode cX6_used 99 = .ok (.getfield 39, 3) := by decide +kernel
theorem dX6_used_102 : decode cX6_used 102 = .ok (.invokevirtual 128, 3) := by decide +kernel
theorem dX6_used_105 : decode cX6_used 105 = .ok (.aload_n 0, 1) := by decide +kernel
theorem dX6_used_106 : decode cX6_used 106 = .ok (.getfield 21, 3) := by decide +kernel
theorem dX6_used_109 : decode cX6_used 109 = .ok (.getfield 82, 3) := by decide +kernel
theorem dX6_used_112 : decode cX6_used 112 = .ok (.iload_n 1, 1) := by decide +kernel
theorem dX6_used_113 : decode cX6_used 113 = .ok (.aaload, 1) := by decide +kernel
theorem dX6_used_114 : decode cX6_used 114 = .ok (.getfield 100, 3) := by decide +kernel
theorem dX6_used_117 : decode cX6_used 117 = .ok (.iload 8, 2) := by decide +kernel
theorem dX6_used_119 : decode cX6_used 119 = .ok (.iand, 1) := by decide +kernel
theorem dX6_used_120 : decode cX6_used 120 = .ok (.invokestatic 185, 3) := by decide +kernel
theorem dX6_used_123 : decode cX6_used 123 = .ok (.isub, 1) := by decide +kernel
theorem dX6_used_124 : decode cX6_used 124 = .ok (.istore 9, 2) := by decide +kernel
theorem dX6_used_126 : decode cX6_used 126 = .ok (.iconst 0, 1) := by decide +kernel
theorem dX6_used_127 : decode cX6_used 127 = .ok (.istore 10, 2) := by decide +kernel
theorem dX6_used_129 : decode cX6_used 129 = .ok (.iconst 0, 1) := by decide +kernel
theorem dX6_used_130 : decode cX6_used 130 = .ok (.istore 11, 2) := by decide +kernel
theorem dX6_used_132 : decode cX6_used 132 = .ok (.iload 11, 2) := by decide +kernel
theorem dX6_used_134 : decode cX6_used 134 = .ok (.bipush 64, 2) := by decide +kernel
theorem dX6_used_136 : decode cX6_used 136 = .ok (.if_icmp .ge 28, 3) := by decide +kernel
theorem dX6_used_139 : decode cX6_used 139 = .ok (.iload 9, 2) := by decide +kernel
theorem dX6_used_141 : decode cX6_used 141 = .ok (.iload 11, 2) := by decide +kernel
theorem dX6_used_143 : decode cX6_used 143 = .ok (.iload 8, 2) := by decide +kernel
theorem dX6_used_145 : decode cX6_used 145 = .ok (.iand, 1) := by decide +kernel
theorem dX6_used_146 : decode cX6_used 146 = .ok (.invokestatic 185, 3) := by decide +kernel
theorem dX6_used_149 : decode cX6_used 149 = .ok (.iadd, 1) := by decide +kernel
theorem dX6_used_150 : decode cX6_used 150 = .ok (.iload 5, 2) := by decide +kernel
theorem dX6_used_152 : decode cX6_used 152 = .ok (.if_icmp .ne 6, 3) := by decide +kernel
theorem dX6_used_155 : decode cX6_used 155 = .ok (.iinc 10 1, 3) := by decide +kernel
theorem dX6_used_158 : decode cX6_used 158 = .ok (.iinc 11 1, 3) := by decide +kernel
theorem dX6_used_161 : decode cX6_used 161 = .ok (.goto (-29), 3) := by decide +kernel
theorem dX6_used_164 : decode cX6_used 164 = .ok (.iload 10, 2) := by decide +kernel
theorem dX6_used_166 : decode cX6_used 166 = .ok (.ireturn, 1) := by decide +kernel
theorem dX6_odds_0 : decode cX6_odds 0 = .ok (.iload 4, 2) := by decide +kernel
theorem dX6_odds_2 : decode cX6_odds 2 = .ok (.ifCond .lt 25, 3) := by decide +kernel
theorem dX6_odds_5 : decode cX6_odds 5 = .ok (.iload 4, 2) := by decide +kernel
theorem dX6_odds_7 : decode cX6_odds 7 = .ok (.bipush 30, 2) := by decide +kernel
theorem dX6_odds_9 : decode cX6_odds 9 = .ok (.if_icmp .gt 18, 3) := by decide +kernel
theorem dX6_odds_12 : decode cX6_odds 12 = .ok (.iload 5, 2) := by decide +kernel
theorem dX6_odds_14 : decode cX6_odds 14 = .ok (.ifCond .eq 9, 3) := by decide +kernel
theorem dX6_odds_17 : decode cX6_odds 17 = .ok (.iload 5, 2) := by decide +kernel
theorem dX6_odds_19 : decode cX6_odds 19 = .ok (.iconst 1, 1) := by decide +kernel
theorem dX6_odds_20 : decode cX6_odds 20 = .ok (.if_icmp .ne 7, 3) := by decide +kernel
theorem dX6_odds_23 : decode cX6_odds 23 = .ok (.iconst 1, 1) := by decide +kernel
theorem dX6_odds_24 : decode cX6_odds 24 = .ok (.goto 4, 3) := by decide +kernel
theorem dX6_odds_27 : decode cX6_odds 27 = .ok (.iconst 0, 1) := by decide +kernel
theorem dX6_odds_28 : decode cX6_odds 28 = .ok (.istore 6, 2) := by decide +kernel
theorem dX6_odds_30 : decode cX6_odds 30 = .ok (.aload_n 0, 1) := by decide +kernel
theorem dX6_odds_31 : decode cX6_odds 31 = .ok (.iload_n 1, 1) := by decide +kernel
theorem dX6_odds_32 : decode cX6_odds 32 = .ok (.iload_n 2, 1) := by decide +kernel
theorem dX6_odds_33 : decode cX6_odds 33 = .ok (.iload_n 3, 1) := by decide +kernel
theorem dX6_odds_34 : decode cX6_odds 34 = .ok (.iload 6, 2) := by decide +kernel
theorem dX6_odds_36 : decode cX6_odds 36 = .ok (.invokevirtual 117, 3) := by decide +kernel
theorem dX6_odds_39 : decode cX6_odds 39 = .ok (.ifCond .ne 19, 3) := by decide +kernel
theorem dX6_odds_42 : decode cX6_odds 42 = .ok (.aload_n 0, 1) := by decide +kernel
theorem dX6_odds_43 : decode cX6_odds 43 = .ok (.getfield 21, 3) := by decide +kernel
theorem dX6_odds_46 : decode cX6_odds 46 = .ok (.aload_n 0, 1) := by decide +kernel
theorem dX6_odds_47 : decode cX6_odds 47 = .ok (.getfield 39, 3) := by decide +kernel
theorem dX6_odds_50 : decode cX6_odds 50 = .ok (.invokevirtual 121, 3) := by decide +kernel
theorem dX6_odds_53 : decode cX6_odds 53 = .ok (.bipush (-9), 2) := by decide +kernel
theorem dX6_odds_55 : decode cX6_odds 55 = .ok (.if_icmp .eq 7, 3) := by decide +kernel
theorem dX6_odds_58 : decode cX6_odds 58 = .ok (.ldc2_w 190, 3) := by decide +kernel
theorem dX6_odds_61 : decode cX6_odds 61 = .ok (.lreturn, 1) := by decide +kernel
theorem dX6_odds_62 : decode cX6_odds 62 = .ok (.aload_n 0, 1) := by decide +kernel
theorem dX6_odds_63 : decode cX6_odds 63 = .ok (.getfield 21, 3) := by decide +kernel
theorem dX6_odds_66 : decode cX6_odds 66 = .ok (.aload_n 0, 1) := by decide +kernel
theorem dX6_odds_67 : decode cX6_odds 67 = .ok (.getfield 39, 3) := by decide +kernel
theorem dX6_odds_70 : decode cX6_odds 70 = .ok (.invokevirtual 128, 3) := by decide +kernel
theorem dX6_odds_73 : decode cX6_odds 73 = .ok (.istore 7, 2) := by decide +kernel
theorem dX6_odds_75 : decode cX6_odds 75 = .ok (.iload 7, 2) := by decide +kernel
theorem dX6_odds_77 : decode cX6_odds 77 = .ok (.iload 4, 2) := by decide +kernel
theorem dX6_odds_79 : decode cX6_odds 79 = .ok (.invokestatic 192, 3) := by decide +kernel
theorem dX6_odds_82 : decode cX6_odds 82 = .ok (.lstore 8, 2) := by decide +kernel
theorem dX6_odds_84 : decode cX6_odds 84 = .ok (.lconst 1, 1) := by decide +kernel
theorem dX6_odds_85 : decode cX6_odds 85 = .ok (.iload 7, 2) := by decide +kernel
theorem dX6_odds_87 : decode cX6_odds 87 = .ok (.lshl, 1) := by decide +kernel
theorem dX6_odds_88 : decode cX6_odds 88 = .ok (.lstore 10, 2) := by decide +kernel
theorem dX6_odds_90 : decode cX6_odds 90 = .ok (.iconst 0, 1) := by decide +kernel
theorem dX6_odds_91 : decode cX6_odds 91 = .ok (.istore 12, 2) := by decide +kernel
theorem dX6_odds_93 : decode cX6_odds 93 = .ok (.iload 12, 2) := by decide +kernel
theorem dX6_odds_95 : decode cX6_odds 95 = .ok (.iload 7, 2) := by decide +kernel
theorem dX6_odds_97 : decode cX6_odds 97 = .ok (.if_icmp .ge 36, 3) := by decide +kernel
theorem dX6_odds_100 : decode cX6_odds 100 = .ok (.lload 8, 2) := by decide +kernel
theorem dX6_odds_102 : decode cX6_odds 102 = .ok (.ldc2_w 196, 3) := by decide +kernel
theorem dX6_odds_105 : decode cX6_odds 105 = .ok (.lrem, 1) := by decide +kernel
theorem dX6_odds_106 : decode cX6_odds 106 = .ok (.lconst 0, 1) := by decide +kernel
theorem dX6_odds_107 : decode cX6_odds 107 = .ok (.lcmp, 1) := by decide +kernel
theorem dX6_odds_108 : decode cX6_odds 108 = .ok (.ifCond .ne 25, 3) := by decide +kernel
theorem dX6_odds_111 : decode cX6_odds 111 = .ok (.lload 8, 2) := by decide +kernel
theorem dX6_odds_113 : decode cX6_odds 113 = .ok (.ldc2_w 196, 3) := by decide +kernel
theorem dX6_odds_116 : decode cX6_odds 116 = .ok (.ldiv, 1) := by decide +kernel
theorem dX6_odds_117 : decode cX6_odds 117 = .ok (.lstore 8, 2) := by decide +kernel
theorem dX6_odds_119 : decode cX6_odds 119 = .ok (.lload 10, 2) := by decide +kernel
theorem dX6_odds_121 : decode cX6_odds 121 = .ok (.ldc2_w 196, 3) := by decide +kernel
theorem dX6_odds_124 : decode cX6_odds 124 = .ok (.ldiv, 1) := by decide +kernel
theorem dX6_odds_125 : decode cX6_odds 125 = .ok (.lstore 10, 2) := by decide +kernel
theorem dX6_odds_127 : decode cX6_odds 127 = .ok (.iinc 12 1, 3) := by decide +kernel
theorem dX6_odds_130 : decode cX6_odds 130 = .ok (.goto (-37), 3) := by decide +kernel
theorem dX6_odds_133 : decode cX6_odds 133 = .ok (.iload 5, 2) := by decide +kernel
theorem dX6_odds_135 : decode cX6_odds 135 = .ok (.ifCond .ne 8, 3) := by decide +kernel
theorem dX6_odds_138 : decode cX6_odds 138 = .ok (.lload 8, 2) := by decide +kernel
theorem dX6_odds_140 : decode cX6_odds 140 = .ok (.goto 5, 3) := by decide +kernel
theorem dX6_odds_143 : decode cX6_odds 143 = .ok (.lload 10, 2) := by decide +kernel
theorem dX6_odds_145 : decode cX6_odds 145 = .ok (.lreturn, 1) := by decide +kernel
theorem dX6_sheet_0 : decode cX6_sheet 0 = .ok (.aload_n 0, 1) := by decide +kernel
theorem dX6_sheet_1 : decode cX6_sheet 1 = .ok (.iconst 0, 1) := by decide +kernel
theorem dX6_sheet_2 : decode cX6_sheet 2 = .ok (.putfield 43, 3) := by decide +kernel
theorem dX6_sheet_5 : decode cX6_sheet 5 = .ok (.iload_n 1, 1) := by decide +kernel
theorem dX6_sheet_6 : decode cX6_sheet 6 = .ok (.invokestatic 47, 3) := by decide +kernel
theorem dX6_sheet_9 : decode cX6_sheet 9 = .ok (.ifCond .ne 5, 3) := by decide +kernel
theorem dX6_sheet_12 : decode cX6_sheet 12 = .ok (.iconst (-1), 1) := by decide +kernel
theorem dX6_sheet_13 : decode cX6_sheet 13 = .ok (.ireturn, 1) := by decide +kernel
theorem dX6_sheet_14 : decode cX6_sheet 14 = .ok (.iload_n 2, 1) := by decide +kernel
theorem dX6_sheet_15 : decode cX6_sheet 15 = .ok (.invokestatic 51, 3) := by decide +kernel
theorem dX6_sheet_18 : decode cX6_sheet 18 = .ok (.ifCond .eq 9, 3) := by decide +kernel
theorem dX6_sheet_21 : decode cX6_sheet 21 = .ok (.iload_n 3, 1) := by decide +kernel
theorem dX6_sheet_22 : decode cX6_sheet 22 = .ok (.bipush 60, 2) := by decide +kernel
theorem dX6_sheet_24 : decode cX6_sheet 24 = .ok (.if_icmp .le 6, 3) := by decide +kernel
theorem dX6_sheet_27 : decode cX6_sheet 27 = .ok (.bipush (-2), 2) := by decide +kernel
theorem dX6_sheet_29 : decode cX6_sheet 29 = .ok (.ireturn, 1) := by decide +kernel
theorem dX6_sheet_30 : decode cX6_sheet 30 = .ok (.iload_n 3, 1) := by decide +kernel
theorem dX6_sheet_31 : decode cX6_sheet 31 = .ok (.ifCond .ge 9, 3) := by decide +kernel
theorem dX6_sheet_34 : decode cX6_sheet 34 = .ok (.aload_n 0, 1) := by decide +kernel
theorem dX6_sheet_35 : decode cX6_sheet 35 = .ok (.iconst 4, 1) := by decide +kernel
theorem dX6_sheet_36 : decode cX6_sheet 36 = .ok (.invokevirtual 58, 3) := by decide +kernel
theorem dX6_sheet_39 : decode cX6_sheet 39 = .ok (.ireturn, 1) := by decide +kernel
theorem dX6_sheet_40 : decode cX6_sheet 40 = .ok (.aload_n 0, 1) := by decide +kernel
theorem dX6_sheet_41 : decode cX6_sheet 41 = .ok (.getfield 13, 3) := by decide +kernel
theorem dX6_sheet_44 : decode cX6_sheet 44 = .ok (.iload_n 1, 1) := by decide +kernel
theorem dX6_sheet_45 : decode cX6_sheet 45 = .ok (.aaload, 1) := by decide +kernel
theorem dX6_sheet_46 : decode cX6_sheet 46 = .ok (.iload_n 2, 1) := by decide +kernel
theorem dX6_sheet_47 : decode cX6_sheet 47 = .ok (.iload_n 3, 1) := by decide +kernel
theorem dX6_sheet_48 : decode cX6_sheet 48 = .ok (.invokevirtual 198, 3) := by decide +kernel
theorem dX6_sheet_51 : decode cX6_sheet 51 = .ok (.iconst 1, 1) := by decide +kernel
theorem dX6_sheet_52 : decode cX6_sheet 52 = .ok (.ireturn, 1) := by decide +kernel
theorem dX6_lose_0 : decode cX6_lose 0 = .ok (.iload_n 1, 1) := by decide +kernel
theorem dX6_lose_1 : decode cX6_lose 1 = .ok (.invokestatic 47, 3) := by decide +kernel
theorem dX6_lose_4 : decode cX6_lose 4 = .ok (.ifCond .ne 5, 3) := by decide +kernel
theorem dX6_lose_7 : decode cX6_lose 7 = .ok (.iconst (-1), 1) := by decide +kernel
theorem dX6_lose_8 : decode cX6_lose 8 = .ok (.ireturn, 1) := by decide +kernel
theorem dX6_lose_9 : decode cX6_lose 9 = .ok (.aload_n 0, 1) := by decide +kernel
theorem dX6_lose_10 : decode cX6_lose 10 = .ok (.getfield 13, 3) := by decide +kernel
theorem dX6_lose_13 : decode cX6_lose 13 = .ok (.iload_n 1, 1) := by decide +kernel
theorem dX6_lose_14 : decode cX6_lose 14 = .ok (.aaload, 1) := by decide +kernel
theorem dX6_lose_15 : decode cX6_lose 15 = .ok (.getfield 202, 3) := by decide +kernel
theorem dX6_lose_18 : decode cX6_lose 18 = .ok (.ifCond .eq 7, 3) := by decide +kernel
theorem dX6_lose_21 : decode cX6_lose 21 = .ok (.iconst 1, 1) := by decide +kernel
theorem dX6_lose_22 : decode cX6_lose 22 = .ok (.goto 4, 3) := by decide +kernel
theorem dX6_lose_25 : decode cX6_lose 25 = .ok (.iconst 0, 1) := by decide +kernel
theorem dX6_lose_26 : decode cX6_lose 26 = .ok (.istore_n 2, 1) := by decide +kernel
theorem dX6_lose_27 : decode cX6_lose 27 = .ok (.aload_n 0, 1) := by decide +kernel
theorem dX6_lose_28 : decode cX6_lose 28 = .ok (.getfield 13, 3) := by decide +kernel
theorem dX6_lose_31 : decode cX6_lose 31 = .ok (.iload_n 1, 1) := by decide +kernel
theorem dX6_lose_32 : decode cX6_lose 32 = .ok (.aaload, 1) := by decide +kernel
theorem dX6_lose_33 : decode cX6_lose 33 = .ok (.iconst 0, 1) := by decide +kernel
theorem dX6_lose_34 : decode cX6_lose 34 = .ok (.putfield 202, 3) := by decide +kernel
theorem dX6_lose_37 : decode cX6_lose 37 = .ok (.iload_n 2, 1) := by decide +kernel
theorem dX6_lose_38 : decode cX6_lose 38 = .ok (.ireturn, 1) := by decide +kernel
theorem dX6_put_0 : decode cX6_put 0 = .ok (.aload_n 0, 1) := by decide +kernel
theorem dX6_put_1 : decode cX6_put 1 = .ok (.iconst 0, 1) := by decide +kernel
theorem dX6_put_2 : decode cX6_put 2 = .ok (.putfield 43, 3) := by decide +kernel
theorem dX6_put_5 : decode cX6_put 5 = .ok (.iload_n 1, 1) := by decide +kernel
theorem dX6_put_6 : decode cX6_put 6 = .ok (.invokestatic 47, 3) := by decide +kernel
theorem dX6_put_9 : decode cX6_put 9 = .ok (.ifCond .ne 5, 3) := by decide +kernel
theorem dX6_put_12 : decode cX6_put 12 = .ok (.iconst (-1), 1) := by decide +kernel
theorem dX6_put_13 : decode cX6_put 13 = .ok (.ireturn, 1) := by decide +kernel
theorem dX6_put_14 : decode cX6_put 14 = .ok (.aload_n 0, 1) := by decide +kernel
theorem dX6_put_15 : decode cX6_put 15 = .ok (.getfield 13, 3) := by decide +kernel
theorem dX6_put_18 : decode cX6_put 18 = .ok (.iload_n 1, 1) := by decide +kernel
theorem dX6_put_19 : decode cX6_put 19 = .ok (.aaload, 1) := by decide +kernel
theorem dX6_put_20 : decode cX6_put 20 = .ok (.astore 4, 2) := by decide +kernel
theorem dX6_put_22 : decode cX6_put 22 = .ok (.aload 4, 2) := by decide +kernel
theorem dX6_put_24 : decode cX6_put 24 = .ok (.aload 4, 2) := by decide +kernel
theorem dX6_put_26 : decode cX6_put 26 = .ok (.getfield 206, 3) := by decide +kernel
theorem dX6_put_29 : decode cX6_put 29 = .ok (.iload_n 2, 1) := by decide +kernel
theorem dX6_put_30 : decode cX6_put 30 = .ok (.iconst 1, 1) := by decide +kernel
theorem dX6_put_31 : decode cX6_put 31 = .ok (.invokevirtual 54, 3) := by decide +kernel
theorem dX6_put_34 : decode cX6_put 34 = .ok (.istore 5, 2) := by decide +kernel
theorem dX6_put_36 : decode cX6_put 36 = .ok (.iload 5, 2) := by decide +kernel
theorem dX6_put_38 : decode cX6_put 38 = .ok (.ifCond .eq 10, 3) := by decide +kernel
theorem dX6_put_41 : decode cX6_put 41 = .ok (.aload_n 0, 1) := by decide +kernel
theorem dX6_put_42 : decode cX6_put 42 = .ok (.iload 5, 2) := by decide +kernel
theorem dX6_put_44 : decode cX6_put 44 = .ok (.invokevirtual 58, 3) := by decide +kernel
theorem dX6_put_47 : decode cX6_put 47 = .ok (.ireturn, 1) := by decide +kernel
theorem dX6_put_48 : decode cX6_put 48 = .ok (.aload 4, 2) := by decide +kernel
theorem dX6_put_50 : decode cX6_put 50 = .ok (.getfield 62, 3) := by decide +kernel
theorem dX6_put_53 : decode cX6_put 53 = .ok (.iload_n 2, 1) := by decide +kernel
theorem dX6_put_54 : decode cX6_put 54 = .ok (.aload 4, 2) := by decide +kernel
theorem dX6_put_56 : decode cX6_put 56 = .ok (.iload_n 3, 1) := by decide +kernel
theorem dX6_put_57 : decode cX6_put 57 = .ok (.invokevirtual 209, 3) := by decide +kernel
theorem dX6_put_60 : decode cX6_put 60 = .ok (.iastore, 1) := by decide +kernel
theorem dX6_put_61 : decode cX6_put 61 = .ok (.iconst 1, 1) := by decide +kernel
theorem dX6_put_62 : decode cX6_put 62 = .ok (.ireturn, 1) := by decide +kernel
theorem dX6_cell_0 : decode cX6_cell 0 = .ok (.aload_n 0, 1) := by decide +kernel
theorem dX6_cell_1 : decode cX6_cell 1 = .ok (.iconst 0, 1) := by decide +kernel
theorem dX6_cell_2 : decode cX6_cell 2 = .ok (.putfield 43, 3) := by decide +kernel
theorem dX6_cell_5 : decode cX6_cell 5 = .ok (.iload_n 1, 1) := by decide +kernel
theorem dX6_cell_6 : decode cX6_cell 6 = .ok (.invokestatic 47, 3) := by decide +kernel
theorem dX6_cell_9 : decode cX6_cell 9 = .ok (.ifCond .eq 10, 3) := by decide +kernel
theorem dX6_cell_12 : decode cX6_cell 12 = .ok (.iload_n 3, 1) := by decide +kernel
theorem dX6_cell_13 : decode cX6_cell 13 = .ok (.invokestatic 51, 3) := by decide +kernel
theorem dX6_cell_16 : decode cX6_cell 16 = .ok (.ifCond .ne 7, 3) := by decide +kernel
theorem dX6_cell_19 : decode cX6_cell 19 = .ok (.ldc2_w 190, 3) := by decide +kernel
theorem dX6_cell_22 : decode cX6_cell 22 = .ok (.lreturn, 1) := by decide +kernel
theorem dX6_cell_23 : decode cX6_cell 23 = .ok (.aload_n 0, 1) := by decide +kernel
theorem dX6_cell_24 : decode cX6_cell 24 = .ok (.aload_n 0, 1) := by decide +kernel
theorem dX6_cell_25 : decode cX6_cell 25 = .ok (.getfield 13, 3) := by decide +kernel
theorem dX6_cell_28 : decode cX6_cell 28 = .ok (.iload_n 1, 1) := by decide +kernel
theorem dX6_cell_29 : decode cX6_cell 29 = .ok (.aaload, 1) := by decide +kernel
theorem dX6_cell_30 : decode cX6_cell 30 = .ok (.iload_n 3, 1) := by decide +kernel
theorem dX6_cell_31 : decode cX6_cell 31 = .ok (.iload_n 2, 1) := by decide +kernel
theorem dX6_cell_32 : decode cX6_cell 32 = .ok (.iconst 1, 1) := by decide +kernel
theorem dX6_cell_33 : decode cX6_cell 33 = .ok (.invokevirtual 54, 3) := by decide +kernel
theorem dX6_cell_36 : decode cX6_cell 36 = .ok (.putfield 43, 3) := by decide +kernel
theorem dX6_cell_39 : decode cX6_cell 39 = .ok (.aload_n 0, 1) := by decide +kernel
theorem dX6_cell_40 : decode cX6_cell 40 = .ok (.getfield 43, 3) := by decide +kernel
theorem dX6_cell_43 : decode cX6_cell 43 = .ok (.ifCond .ne 18, 3) := by decide +kernel
theorem dX6_cell_46 : decode cX6_cell 46 = .ok (.aload_n 0, 1) := by decide +kernel
theorem dX6_cell_47 : decode cX6_cell 47 = .ok (.getfield 13, 3) := by decide +kernel
theorem dX6_cell_50 : decode cX6_cell 50 = .ok (.iload_n 1, 1) := by decide +kernel
theorem dX6_cell_51 : decode cX6_cell 51 = .ok (.aaload, 1) := by decide +kernel
theorem dX6_cell_52 : decode cX6_cell 52 = .ok (.getfield 62, 3) := by decide +kernel
theorem dX6_cell_55 : decode cX6_cell 55 = .ok (.iload_n 2, 1) := by decide +kernel
theorem dX6_cell_56 : decode cX6_cell 56 = .ok (.iaload, 1) := by decide +kernel
theorem dX6_cell_57 : decode cX6_cell 57 = .ok (.i2l, 1) := by decide +kernel
theorem dX6_cell_58 : decode cX6_cell 58 = .ok (.goto 6, 3) := by decide +kernel
theorem dX6_cell_61 : decode cX6_cell 61 = .ok (.ldc2_w 190, 3) := by decide +kernel
theorem dX6_cell_64 : decode cX6_cell 64 = .ok (.lreturn, 1) := by decide +kernel
theorem dX6_copy_0 : decode cX6_copy 0 = .ok (.aload_n 0, 1) := by decide +kernel
theorem dX6_copy_1 : decode cX6_copy 1 = .ok (.iconst 0, 1) := by decide +kernel
theorem dX6_copy_2 : decode cX6_copy 2 = .ok (.putfield 43, 3) := by decide +kernel
theorem dX6_copy_5 : decode cX6_copy 5 = .ok (.iload_n 1, 1) := by decide +kernel
theorem dX6_copy_6 : decode cX6_copy 6 = .ok (.invokestatic 47, 3) := by decide +kernel
theorem dX6_copy_9 : decode cX6_copy 9 = .ok (.ifCond .eq 10, 3) := by decide +kernel
theorem dX6_copy_12 : decode cX6_copy 12 = .ok (.iload_n 3, 1) := by decide +kernel
theorem dX6_copy_13 : decode cX6_copy 13 = .ok (.invokestatic 47, 3) := by decide +kernel
theorem dX6_copy_16 : decode cX6_copy 16 = .ok (.ifCond .ne 5, 3) := by decide +kernel
theorem dX6_copy_19 : decode cX6_copy 19 = .ok (.iconst (-1), 1) := by decide +kernel
theorem dX6_copy_20 : decode cX6_copy 20 = .ok (.ireturn, 1) := by decide +kernel
theorem dX6_copy_21 : decode cX6_copy 21 = .ok (.aload_n 0, 1) := by decide +kernel
theorem dX6_copy_22 : decode cX6_copy 22 = .ok (.getfield 13, 3) := by decide +kernel
theorem dX6_copy_25 : decode cX6_copy 25 = .ok (.iload_n 1, 1) := by decide +kernel
theorem dX6_copy_26 : decode cX6_copy 26 = .ok (.aaload, 1) := by decide +kernel
theorem dX6_copy_27 : decode cX6_copy 27 = .ok (.astore 6, 2) := by decide +kernel
theorem dX6_copy_29 : decode cX6_copy 29 = .ok (.aload_n 0, 1) := by decide +kernel
theorem dX6_copy_30 : decode cX6_copy 30 = .ok (.getfield 13, 3) := by decide +kernel
theorem dX6_copy_33 : decode cX6_copy 33 = .ok (.iload_n 3, 1) := by decide +kernel
theorem dX6_copy_34 : decode cX6_copy 34 = .ok (.aaload, 1) := by decide +kernel
theorem dX6_copy_35 : decode cX6_copy 35 = .ok (.astore 7, 2) := by decide +kernel
theorem dX6_copy_37 : decode cX6_copy 37 = .ok (.aload 6, 2) := by decide +kernel
theorem dX6_copy_39 : decode cX6_copy 39 = .ok (.getfield 202, 3) := by decide +kernel
theorem dX6_copy_42 : decode cX6_copy 42 = .ok (.ifCond .eq 11, 3) := by decide +kernel
theorem dX6_copy_45 : decode cX6_copy 45 = .ok (.aload 7, 2) := by decide +kernel
theorem dX6_copy_47 : decode cX6_copy 47 = .ok (.getfield 202, 3) := by decide +kernel
theorem dX6_copy_50 : decode cX6_copy 50 = .ok (.ifCond .ne 9, 3) := by decide +kernel
theorem dX6_copy_53 : decode cX6_copy 53 = .ok (.aload_n 0, 1) := by decide +kernel
theorem dX6_copy_54 : decode cX6_copy 54 = .ok (.iconst 1, 1) := by decide +kernel
theorem dX6_copy_55 : decode cX6_copy 55 = .ok (.invokevirtual 58, 3) := by decide +kernel
theorem dX6_copy_58 : decode cX6_copy 58 = .ok (.ireturn, 1) := by decide +kernel
theorem dX6_copy_59 : decode cX6_copy 59 = .ok (.aload 6, 2) := by decide +kernel
theorem dX6_copy_61 : decode cX6_copy 61 = .ok (.getfield 206, 3) := by decide +kernel
theorem dX6_copy_64 : decode cX6_copy 64 = .ok (.aload 7, 2) := by decide +kernel
theorem dX6_copy_66 : decode cX6_copy 66 = .ok (.getfield 206, 3) := by decide +kernel
theorem dX6_copy_69 : decode cX6_copy 69 = .ok (.if_icmp .eq 9, 3) := by decide +kernel
theorem dX6_copy_72 : decode cX6_copy 72 = .ok (.aload_n 0, 1) := by decide +kernel
theorem dX6_copy_73 : decode cX6_copy 73 = .ok (.iconst 2, 1) := by decide +kernel
theorem dX6_copy_74 : decode cX6_copy 74 = .ok (.invokevirtual 58, 3) := by decide +kernel
theorem dX6_copy_77 : decode cX6_copy 77 = .ok (.ireturn, 1) := by decide +kernel
theorem dX6_copy_78 : decode cX6_copy 78 = .ok (.aload 6, 2) := by decide +kernel
theorem dX6_copy_80 : decode cX6_copy 80 = .ok (.iload_n 2, 1) := by decide +kernel
theorem dX6_copy_81 : decode cX6_copy 81 = .ok (.iload 5, 2) := by decide +kernel
theorem dX6_copy_83 : decode cX6_copy 83 = .ok (.invokevirtual 212, 3) := by decide +kernel
theorem dX6_copy_86 : decode cX6_copy 86 = .ok (.ifCond .eq 15, 3) := by decide +kernel
theorem dX6_copy_89 : decode cX6_copy 89 = .ok (.aload 7, 2) := by decide +kernel
theorem dX6_copy_91 : decode cX6_copy 91 = .ok (.iload 4, 2) := by decide +kernel
theorem dX6_copy_93 : decode cX6_copy 93 = .ok (.iload 5, 2) := by decide +kernel
theorem dX6_copy_95 : decode cX6_copy 95 = .ok (.invokevirtual 212, 3) := by decide +kernel
theorem dX6_copy_98 : decode cX6_copy 98 = .ok (.ifCond .ne 9, 3) := by decide +kernel
theorem dX6_copy_101 : decode cX6_copy 101 = .ok (.aload_n 0, 1) := by decide +kernel
theorem dX6_copy_102 : decode cX6_copy 102 = .ok (.iconst 3, 1) := by decide +kernel
theorem dX6_copy_103 : decode cX6_copy 103 = .ok (.invokevirtual 58, 3) := by decide +kernel
theorem dX6_copy_106 : decode cX6_copy 106 = .ok (.ireturn, 1) := by decide +kernel
theorem dX6_copy_107 : decode cX6_copy 107 = .ok (.aload 6, 2) := by decide +kernel
theorem dX6_copy_109 : decode cX6_copy 109 = .ok (.getfield 62, 3) := by decide +kernel
theorem dX6_copy_112 : decode cX6_copy 112 = .ok (.iload_n 2, 1) := by decide +kernel
theorem dX6_copy_113 : decode cX6_copy 113 = .ok (.aload 7, 2) := by decide +kernel
theorem dX6_copy_115 : decode cX6_copy 115 = .ok (.getfield 62, 3) := by decide +kernel
theorem dX6_copy_118 : decode cX6_copy 118 = .ok (.iload 4, 2) := by decide +kernel
theorem dX6_copy_120 : decode cX6_copy 120 = .ok (.iload 5, 2) := by decide +kernel
theorem dX6_copy_122 : decode cX6_copy 122 = .ok (.invokestatic 215, 3) := by decide +kernel
theorem dX6_copy_125 : decode cX6_copy 125 = .ok (.iload 5, 2) := by decide +kernel
theorem dX6_copy_127 : decode cX6_copy 127 = .ok (.ireturn, 1) := by decide +kernel
theorem dX6_tell_0 : decode cX6_tell 0 = .ok (.aload_n 0, 1) := by decide +kernel
theorem dX6_tell_1 : decode cX6_tell 1 = .ok (.getfield 21, 3) := by decide +kernel
theorem dX6_tell_4 : decode cX6_tell 4 = .ok (.iload_n 1, 1) := by decide +kernel
theorem dX6_tell_5 : decode cX6_tell 5 = .ok (.invokevirtual 79, 3) := by decide +kernel
theorem dX6_tell_8 : decode cX6_tell 8 = .ok (.ifCond .ne 5, 3) := by decide +kernel
theorem dX6_tell_11 : decode cX6_tell 11 = .ok (.iconst (-1), 1) := by decide +kernel
theorem dX6_tell_12 : decode cX6_tell 12 = .ok (.ireturn, 1) := by decide +kernel
theorem dX6_tell_13 : decode cX6_tell 13 = .ok (.aload_n 0, 1) := by decide +kernel
theorem dX6_tell_14 : decode cX6_tell 14 = .ok (.getfield 21, 3) := by decide +kernel
theorem dX6_tell_17 : decode cX6_tell 17 = .ok (.getfield 82, 3) := by decide +kernel
theorem dX6_tell_20 : decode cX6_tell 20 = .ok (.iload_n 1, 1) := by decide +kernel
theorem dX6_tell_21 : decode cX6_tell 21 = .ok (.aaload, 1) := by decide +kernel
theorem dX6_tell_22 : decode cX6_tell 22 = .ok (.astore_n 2, 1) := by decide +kernel
theorem dX6_tell_23 : decode cX6_tell 23 = .ok (.aload_n 2, 1) := by decide +kernel
theorem dX6_tell_24 : decode cX6_tell 24 = .ok (.getfield 86, 3) := by decide +kernel
theorem dX6_tell_27 : decode cX6_tell 27 = .ok (.iconst 2, 1) := by decide +kernel
theorem dX6_tell_28 : decode cX6_tell 28 = .ok (.if_icmp .ne 9, 3) := by decide +kernel
theorem dX6_tell_31 : decode cX6_tell 31 = .ok (.aload_n 0, 1) := by decide +kernel
theorem dX6_tell_32 : decode cX6_tell 32 = .ok (.aload_n 2, 1) := by decide +kernel
theorem dX6_tell_33 : decode cX6_tell 33 = .ok (.invokevirtual 221, 3) := by decide +kernel
theorem dX6_tell_36 : decode cX6_tell 36 = .ok (.ireturn, 1) := by decide +kernel
theorem dX6_tell_37 : decode cX6_tell 37 = .ok (.aload_n 2, 1) := by decide +kernel
theorem dX6_tell_38 : decode cX6_tell 38 = .ok (.getfield 86, 3) := by decide +kernel
theorem dX6_tell_41 : decode cX6_tell 41 = .ok (.iconst 1, 1) := by decide +kernel
theorem dX6_tell_42 : decode cX6_tell 42 = .ok (.if_icmp .ne 11, 3) := by decide +kernel
theorem dX6_tell_45 : decode cX6_tell 45 = .ok (.aload_n 0, 1) := by decide +kernel
theorem dX6_tell_46 : decode cX6_tell 46 = .ok (.aload_n 2, 1) := by decide +kernel
theorem dX6_tell_47 : decode cX6_tell 47 = .ok (.invokevirtual 225, 3) := by decide +kernel
theorem dX6_tell_50 : decode cX6_tell 50 = .ok (.goto 8, 3) := by decide +kernel
theorem dX6_tell_53 : decode cX6_tell 53 = .ok (.aload_n 0, 1) := by decide +kernel
theorem dX6_tell_54 : decode cX6_tell 54 = .ok (.aload_n 2, 1) := by decide +kernel
theorem dX6_tell_55 : decode cX6_tell 55 = .ok (.invokevirtual 228, 3) := by decide +kernel
theorem dX6_tell_58 : decode cX6_tell 58 = .ok (.ireturn, 1) := by decide +kernel
theorem dX6_label_0 : decode cX6_label 0 = .ok (.aload_n 0, 1) := by decide +kernel
theorem dX6_label_1 : decode cX6_label 1 = .ok (.getfield 21, 3) := by decide +kernel
theorem dX6_label_4 : decode cX6_label 4 = .ok (.iload_n 1, 1) := by decide +kernel
theorem dX6_label_5 : decode cX6_label 5 = .ok (.invokevirtual 79, 3) := by decide +kernel
theorem dX6_label_8 : decode cX6_label 8 = .ok (.ifCond .ne 5, 3) := by decide +kernel
theorem dX6_label_11 : decode cX6_label 11 = .ok (.iconst (-1), 1) := by decide +kernel
theorem dX6_label_12 : decode cX6_label 12 = .ok (.ireturn, 1) := by decide +kernel
theorem dX6_label_13 : decode cX6_label 13 = .ok (.aload_n 0, 1) := by decide +kernel
theorem dX6_label_14 : decode cX6_label 14 = .ok (.getfield 21, 3) := by decide +kernel
theorem dX6_label_17 : decode cX6_label 17 = .ok (.getfield 82, 3) := by decide +kernel
theorem dX6_label_20 : decode cX6_label 20 = .ok (.iload_n 1, 1) := by decide +kernel
theorem dX6_label_21 : decode cX6_label 21 = .ok (.aaload, 1) := by decide +kernel
theorem dX6_label_22 : decode cX6_label 22 = .ok (.getfield 86, 3) := by decide +kernel
theorem dX6_label_25 : decode cX6_label 25 = .ok (.iconst 2, 1) := by decide +kernel
theorem dX6_label_26 : decode cX6_label 26 = .ok (.if_icmp .ne 11, 3) := by decide +kernel
theorem dX6_label_29 : decode cX6_label 29 = .ok (.aload_n 0, 1) := by decide +kernel
theorem dX6_label_30 : decode cX6_label 30 = .ok (.iconst 5, 1) := by decide +kernel
theorem dX6_label_31 : decode cX6_label 31 = .ok (.invokevirtual 231, 3) := by decide +kernel
theorem dX6_label_34 : decode cX6_label 34 = .ok (.bipush 70, 2) := by decide +kernel
theorem dX6_label_36 : decode cX6_label 36 = .ok (.ireturn, 1) := by decide +kernel
theorem dX6_label_37 : decode cX6_label 37 = .ok (.aload_n 0, 1) := by decide +kernel
theorem dX6_label_38 : decode cX6_label 38 = .ok (.iconst 4, 1) := by decide +kernel
theorem dX6_label_39 : decode cX6_label 39 = .ok (.invokevirtual 231, 3) := by decide +kernel
theorem dX6_label_42 : decode cX6_label 42 = .ok (.iload_n 1, 1) := by decide +kernel
theorem dX6_label_43 : decode cX6_label 43 = .ok (.ireturn, 1) := by decide +kernel
theorem dX6_as_0 : decode cX6_as 0 = .ok (.aload_n 0, 1) := by decide +kernel
theorem dX6_as_1 : decode cX6_as 1 = .ok (.iconst 0, 1) := by decide +kernel
theorem dX6_as_2 : decode cX6_as 2 = .ok (.putfield 43, 3) := by decide +kernel
theorem dX6_as_5 : decode cX6_as 5 = .ok (.aload_n 0, 1) := by decide +kernel
theorem dX6_as_6 : decode cX6_as 6 = .ok (.getfield 21, 3) := by decide +kernel
theorem dX6_as_9 : decode cX6_as 9 = .ok (.iload_n 1, 1) := by decide +kernel
theorem dX6_as_10 : decode cX6_as 10 = .ok (.invokevirtual 79, 3) := by decide +kernel
theorem dX6_as_13 : decode cX6_as 13 = .ok (.ifCond .ne 5, 3) := by decide +kernel
theorem dX6_as_16 : decode cX6_as 16 = .ok (.iconst (-1), 1) := by decide +kernel
theorem dX6_as_17 : decode cX6_as 17 = .ok (.ireturn, 1) := by decide +kernel
theorem dX6_as_18 : decode cX6_as 18 = .ok (.iload_n 2, 1) := by decide +kernel
theorem dX6_as_19 : decode cX6_as 19 = .ok (.ifCond .lt 8, 3) := by decide +kernel
theorem dX6_as_22 : decode cX6_as 22 = .ok (.iload_n 2, 1) := by decide +kernel
theorem dX6_as_23 : decode cX6_as 23 = .ok (.iconst 3, 1) := by decide +kernel
theorem dX6_as_24 : decode cX6_as 24 = .ok (.if_icmp .lt 6, 3) := by decide +kernel
theorem dX6_as_27 : decode cX6_as 27 = .ok (.bipush (-2), 2) := by decide +kernel
theorem dX6_as_29 : decode cX6_as 29 = .ok (.ireturn, 1) := by decide +kernel
theorem dX6_as_30 : decode cX6_as 30 = .ok (.aload_n 0, 1) := by decide +kernel
theorem dX6_as_31 : decode cX6_as 31 = .ok (.getfield 21, 3) := by decide +kernel
theorem dX6_as_34 : decode cX6_as 34 = .ok (.getfield 82, 3) := by decide +kernel
theorem dX6_as_37 : decode cX6_as 37 = .ok (.iload_n 1, 1) := by decide +kernel
theorem dX6_as_38 : decode cX6_as 38 = .ok (.aaload, 1) := by decide +kernel
theorem dX6_as_39 : decode cX6_as 39 = .ok (.getfield 86, 3) := by decide +kernel
theorem dX6_as_42 : decode cX6_as 42 = .ok (.iload_n 2, 1) := by decide +kernel
theorem dX6_as_43 : decode cX6_as 43 = .ok (.if_icmp .lt 7, 3) := by decide +kernel
theorem dX6_as_46 : decode cX6_as 46 = .ok (.iconst 1, 1) := by decide +kernel
theorem dX6_as_47 : decode cX6_as 47 = .ok (.goto 8, 3) := by decide +kernel
theorem dX6_as_50 : decode cX6_as 50 = .ok (.aload_n 0, 1) := by decide +kernel
theorem dX6_as_51 : decode cX6_as 51 = .ok (.iconst 2, 1) := by decide +kernel
theorem dX6_as_52 : decode cX6_as 52 = .ok (.invokevirtual 58, 3) := by decide +kernel
theorem dX6_as_55 : decode cX6_as 55 = .ok (.ireturn, 1) := by decide +kernel
theorem dX6_trace_0 : decode cX6_trace 0 = .ok (.aload_n 0, 1) := by decide +kernel
theorem dX6_trace_1 : decode cX6_trace 1 = .ok (.getfield 234, 3) := by decide +kernel
theorem dX6_trace_4 : decode cX6_trace 4 = .ok (.ireturn, 1) := by decide +kernel
theorem dX6_fault_0 : decode cX6_fault 0 = .ok (.aload_n 0, 1) := by decide +kernel
theorem dX6_fault_1 : decode cX6_fault 1 = .ok (.getfield 43, 3) := by decide +kernel
theorem dX6_fault_4 : decode cX6_fault 4 = .ok (.ireturn, 1) := by decide +kernel
theorem dX6_many_0 : decode cX6_many 0 = .ok (.iload_n 1, 1) := by decide +kernel
theorem dX6_many_1 : decode cX6_many 1 = .ok (.tableswitch 63 0 3 #[31, 39, 47, 55], 31) := by decide +kernel
theorem dX6_many_32 : decode cX6_many 32 = .ok (.aload_n 0, 1) := by decide +kernel
theorem dX6_many_33 : decode cX6_many 33 = .ok (.getfield 21, 3) := by decide +kernel
theorem dX6_many_36 : decode cX6_many 36 = .ok (.getfield 78, 3) := by decide +kernel
theorem dX6_many_39 : decode cX6_many 39 = .ok (.ireturn, 1) := by decide +kernel
theorem dX6_many_40 : decode cX6_many 40 = .ok (.aload_n 0, 1) := by decide +kernel
theorem dX6_many_41 : decode cX6_many 41 = .ok (.getfield 21, 3) := by decide +kernel
theorem dX6_many_44 : decode cX6_many 44 = .ok (.getfield 111, 3) := by decide +kernel
theorem dX6_many_47 : decode cX6_many 47 = .ok (.ireturn, 1) := by decide +kernel
theorem dX6_many_48 : decode cX6_many 48 = .ok (.aload_n 0, 1) := by decide +kernel
theorem dX6_many_49 : decode cX6_many 49 = .ok (.getfield 21, 3) := by decide +kernel
theorem dX6_many_52 : decode cX6_many 52 = .ok (.getfield 114, 3) := by decide +kernel
theorem dX6_many_55 : decode cX6_many 55 = .ok (.ireturn, 1) := by decide +kernel
theorem dX6_many_56 : decode cX6_many 56 = .ok (.aload_n 0, 1) := by decide +kernel
theorem dX6_many_57 : decode cX6_many 57 = .ok (.getfield 28, 3) := by decide +kernel
theorem dX6_many_60 : decode cX6_many 60 = .ok (.getfield 75, 3) := by decide +kernel
theorem dX6_many_63 : decode cX6_many 63 = .ok (.ireturn, 1) := by decide +kernel
theorem dX6_many_64 : decode cX6_many 64 = .ok (.bipush (-2), 2) := by decide +kernel
theorem dX6_many_66 : decode cX6_many 66 = .ok (.ireturn, 1) := by decide +kernel
theorem dX6_isSheet_0 : decode cX6_isSheet 0 = .ok (.iload_n 0, 1) := by decide +kernel
theorem dX6_isSheet_1 : decode cX6_isSheet 1 = .ok (.ifCond .lt 12, 3) := by decide +kernel
theorem dX6_isSheet_4 : decode cX6_isSheet 4 = .ok (.iload_n 0, 1) := by decide +kernel
theorem dX6_isSheet_5 : decode cX6_isSheet 5 = .ok (.iconst 4, 1) := by decide +kernel
theorem dX6_isSheet_6 : decode cX6_isSheet 6 = .ok (.if_icmp .ge 7, 3) := by decide +kernel
theorem dX6_isSheet_9 : decode cX6_isSheet 9 = .ok (.iconst 1, 1) := by decide +kernel
theorem dX6_isSheet_10 : decode cX6_isSheet 10 = .ok (.goto 4, 3) := by decide +kernel
theorem dX6_isSheet_13 : decode cX6_isSheet 13 = .ok (.iconst 0, 1) := by decide +kernel
theorem dX6_isSheet_14 : decode cX6_isSheet 14 = .ok (.ireturn, 1) := by decide +kernel
theorem dX6_isLane_0 : decode cX6_isLane 0 = .ok (.iload_n 0, 1) := by decide +kernel
theorem dX6_isLane_1 : decode cX6_isLane 1 = .ok (.ifCond .lt 12, 3) := by decide +kernel
theorem dX6_isLane_4 : decode cX6_isLane 4 = .ok (.iload_n 0, 1) := by decide +kernel
theorem dX6_isLane_5 : decode cX6_isLane 5 = .ok (.iconst 3, 1) := by decide +kernel
theorem dX6_isLane_6 : decode cX6_isLane 6 = .ok (.if_icmp .ge 7, 3) := by decide +kernel
theorem dX6_isLane_9 : decode cX6_isLane 9 = .ok (.iconst 1, 1) := by decide +kernel
theorem dX6_isLane_10 : decode cX6_isLane 10 = .ok (.goto 4, 3) := by decide +kernel
theorem dX6_isLane_13 : decode cX6_isLane 13 = .ok (.iconst 0, 1) := by decide +kernel
theorem dX6_isLane_14 : decode cX6_isLane 14 = .ok (.ireturn, 1) := by decide +kernel
theorem dX6_isHour_0 : decode cX6_isHour 0 = .ok (.iload_n 0, 1) := by decide +kernel
theorem dX6_isHour_1 : decode cX6_isHour 1 = .ok (.ifCond .lt 13, 3) := by decide +kernel
theorem dX6_isHour_4 : decode cX6_isHour 4 = .ok (.iload_n 0, 1) := by decide +kernel
theorem dX6_isHour_5 : decode cX6_isHour 5 = .ok (.bipush 6, 2) := by decide +kernel
theorem dX6_isHour_7 : decode cX6_isHour 7 = .ok (.if_icmp .ge 7, 3) := by decide +kernel
theorem dX6_isHour_10 : decode cX6_isHour 10 = .ok (.iconst 1, 1) := by decide +kernel
theorem dX6_isHour_11 : decode cX6_isHour 11 = .ok (.goto 4, 3) := by decide +kernel
theorem dX6_isHour_14 : decode cX6_isHour 14 = .ok (.iconst 0, 1) := by decide +kernel
theorem dX6_isHour_15 : decode cX6_isHour 15 = .ok (.ireturn, 1) := by decide +kernel
theorem dX6_isIn_0 : decode cX6_isIn 0 = .ok (.iload_n 0, 1) := by decide +kernel
theorem dX6_isIn_1 : decode cX6_isIn 1 = .ok (.iload_n 1, 1) := by decide +kernel
theorem dX6_isIn_2 : decode cX6_isIn 2 = .ok (.ishr, 1) := by decide +kernel
theorem dX6_isIn_3 : decode cX6_isIn 3 = .ok (.iconst 1, 1) := by decide +kernel
theorem dX6_isIn_4 : decode cX6_isIn 4 = .ok (.iand, 1) := by decide +kernel
theorem dX6_isIn_5 : decode cX6_isIn 5 = .ok (.ifCond .eq 7, 3) := by decide +kernel
theorem dX6_isIn_8 : decode cX6_isIn 8 = .ok (.iconst 1, 1) := by decide +kernel
theorem dX6_isIn_9 : decode cX6_isIn 9 = .ok (.goto 4, 3) := by decide +kernel
theorem dX6_isIn_12 : decode cX6_isIn 12 = .ok (.iconst 0, 1) := by decide +kernel
theorem dX6_isIn_13 : decode cX6_isIn 13 = .ok (.ireturn, 1) := by decide +kernel
theorem dX6_answerFault_0 : decode cX6_answerFault 0 = .ok (.aload_n 0, 1) := by decide +kernel
theorem dX6_answerFault_1 : decode cX6_answerFault 1 = .ok (.iload_n 1, 1) := by decide +kernel
theorem dX6_answerFault_2 : decode cX6_answerFault 2 = .ok (.putfield 43, 3) := by decide +kernel
theorem dX6_answerFault_5 : decode cX6_answerFault 5 = .ok (.bipush (-10), 2) := by decide +kernel
theorem dX6_answerFault_7 : decode cX6_answerFault 7 = .ok (.iload_n 1, 1) := by decide +kernel
theorem dX6_answerFault_8 : decode cX6_answerFault 8 = .ok (.isub, 1) := by decide +kernel
theorem dX6_answerFault_9 : decode cX6_answerFault 9 = .ok (.ireturn, 1) := by decide +kernel
theorem dX6_hearRound_0 : decode cX6_hearRound 0 = .ok (.aload_n 0, 1) := by decide +kernel
theorem dX6_hearRound_1 : decode cX6_hearRound 1 = .ok (.iconst 0, 1) := by decide +kernel
theorem dX6_hearRound_2 : decode cX6_hearRound 2 = .ok (.putfield 43, 3) := by decide +kernel
theorem dX6_hearRound_5 : decode cX6_hearRound 5 = .ok (.iload_n 1, 1) := by decide +kernel
theorem dX6_hearRound_6 : decode cX6_hearRound 6 = .ok (.invokestatic 47, 3) := by decide +kernel
theorem dX6_hearRound_9 : decode cX6_hearRound 9 = .ok (.ifCond .ne 5, 3) := by decide +kernel
theorem dX6_hearRound_12 : decode cX6_hearRound 12 = .ok (.iconst (-1), 1) := by decide +kernel
theorem dX6_hearRound_13 : decode cX6_hearRound 13 = .ok (.ireturn, 1) := by decide +kernel
theorem dX6_hearRound_14 : decode cX6_hearRound 14 = .ok (.iload_n 2, 1) := by decide +kernel
theorem dX6_hearRound_15 : decode cX6_hearRound 15 = .ok (.invokestatic 51, 3) := by decide +kernel
theorem dX6_hearRound_18 : decode cX6_hearRound 18 = .ok (.ifCond .eq 8, 3) := by decide +kernel
theorem dX6_hearRound_21 : decode cX6_hearRound 21 = .ok (.iload 4, 2) := by decide +kernel
theorem dX6_hearRound_23 : decode cX6_hearRound 23 = .ok (.ifCond .ne 6, 3) := by decide +kernel
theorem dX6_hearRound_26 : decode cX6_hearRound 26 = .ok (.bipush (-2), 2) := by decide +kernel
theorem dX6_hearRound_28 : decode cX6_hearRound 28 = .ok (.ireturn, 1) := by decide +kernel
theorem dX6_hearRound_29 : decode cX6_hearRound 29 = .ok (.aload_n 0, 1) := by decide +kernel
theorem dX6_hearRound_30 : decode cX6_hearRound 30 = .ok (.getfield 21, 3) := by decide +kernel
theorem dX6_hearRound_33 : decode cX6_hearRound 33 = .ok (.invokevirtual 107, 3) := by decide +kernel
theorem dX6_hearRound_36 : decode cX6_hearRound 36 = .ok (.ifCond .ne 6, 3) := by decide +kernel
theorem dX6_hearRound_39 : decode cX6_hearRound 39 = .ok (.bipush (-3), 2) := by decide +kernel
theorem dX6_hearRound_41 : decode cX6_hearRound 41 = .ok (.ireturn, 1) := by decide +kernel
theorem dX6_hearRound_42 : decode cX6_hearRound 42 = .ok (.aload_n 0, 1) := by decide +kernel
theorem dX6_hearRound_43 : decode cX6_hearRound 43 = .ok (.getfield 13, 3) := by decide +kernel
theorem dX6_hearRound_46 : decode cX6_hearRound 46 = .ok (.iload_n 1, 1) := by decide +kernel
theorem dX6_hearRound_47 : decode cX6_hearRound 47 = .ok (.aaload, 1) := by decide +kernel
theorem dX6_hearRound_48 : decode cX6_hearRound 48 = .ok (.astore 5, 2) := by decide +kernel
theorem dX6_hearRound_50 : decode cX6_hearRound 50 = .ok (.aload 5, 2) := by decide +kernel
theorem dX6_hearRound_52 : decode cX6_hearRound 52 = .ok (.iload_n 2, 1) := by decide +kernel
theorem dX6_hearRound_53 : decode cX6_hearRound 53 = .ok (.iload_n 3, 1) := by decide +kernel
theorem dX6_hearRound_54 : decode cX6_hearRound 54 = .ok (.bipush 6, 2) := by decide +kernel
theorem dX6_hearRound_56 : decode cX6_hearRound 56 = .ok (.invokevirtual 54, 3) := by decide +kernel
theorem dX6_hearRound_59 : decode cX6_hearRound 59 = .ok (.istore 6, 2) := by decide +kernel
theorem dX6_hearRound_61 : decode cX6_hearRound 61 = .ok (.iload 6, 2) := by decide +kernel
theorem dX6_hearRound_63 : decode cX6_hearRound 63 = .ok (.ifCond .eq 10, 3) := by decide +kernel
theorem dX6_hearRound_66 : decode cX6_hearRound 66 = .ok (.aload_n 0, 1) := by decide +kernel
theorem dX6_hearRound_67 : decode cX6_hearRound 67 = .ok (.iload 6, 2) := by decide +kernel
theorem dX6_hearRound_69 : decode cX6_hearRound 69 = .ok (.invokevirtual 58, 3) := by decide +kernel
theorem dX6_hearRound_72 : decode cX6_hearRound 72 = .ok (.ireturn, 1) := by decide +kernel
theorem dX6_hearRound_73 : decode cX6_hearRound 73 = .ok (.iconst 0, 1) := by decide +kernel
theorem dX6_hearRound_74 : decode cX6_hearRound 74 = .ok (.istore 7, 2) := by decide +kernel
theorem dX6_hearRound_76 : decode cX6_hearRound 76 = .ok (.iload 7, 2) := by decide +kernel
theorem dX6_hearRound_78 : decode cX6_hearRound 78 = .ok (.bipush 6, 2) := by decide +kernel
theorem dX6_hearRound_80 : decode cX6_hearRound 80 = .ok (.if_icmp .ge 57, 3) := by decide +kernel
theorem dX6_hearRound_83 : decode cX6_hearRound 83 = .ok (.aload_n 0, 1) := by decide +kernel
theorem dX6_hearRound_84 : decode cX6_hearRound 84 = .ok (.getfield 39, 3) := by decide +kernel
theorem dX6_hearRound_87 : decode cX6_hearRound 87 = .ok (.iload 7, 2) := by decide +kernel
theorem dX6_hearRound_89 : decode cX6_hearRound 89 = .ok (.aload 5, 2) := by decide +kernel
theorem dX6_hearRound_91 : decode cX6_hearRound 91 = .ok (.getfield 62, 3) := by decide +kernel
theorem dX6_hearRound_94 : decode cX6_hearRound 94 = .ok (.iload_n 3, 1) := by decide +kernel
theorem dX6_hearRound_95 : decode cX6_hearRound 95 = .ok (.iload 7, 2) := by decide +kernel
theorem dX6_hearRound_97 : decode cX6_hearRound 97 = .ok (.iadd, 1) := by decide +kernel
theorem dX6_hearRound_98 : decode cX6_hearRound 98 = .ok (.iaload, 1) := by decide +kernel
theorem dX6_hearRound_99 : decode cX6_hearRound 99 = .ok (.iastore, 1) := by decide +kernel
theorem dX6_hearRound_100 : decode cX6_hearRound 100 = .ok (.aload_n 0, 1) := by decide +kernel
theorem dX6_hearRound_101 : decode cX6_hearRound 101 = .ok (.getfield 39, 3) := by decide +kernel
theorem dX6_hearRound_104 : decode cX6_hearRound 104 = .ok (.iload 7, 2) := by decide +kernel
theorem dX6_hearRound_106 : decode cX6_hearRound 106 = .ok (.iaload, 1) := by decide +kernel
theorem dX6_hearRound_107 : decode cX6_hearRound 107 = .ok (.bipush (-9), 2) := by decide +kernel
theorem dX6_hearRound_109 : decode cX6_hearRound 109 = .ok (.if_icmp .eq 22, 3) := by decide +kernel
theorem dX6_hearRound_112 : decode cX6_hearRound 112 = .ok (.aload_n 0, 1) := by decide +kernel
theorem dX6_hearRound_113 : decode cX6_hearRound 113 = .ok (.getfield 21, 3) := by decide +kernel
theorem dX6_hearRound_116 : decode cX6_hearRound 116 = .ok (.aload_n 0, 1) := by decide +kernel
theorem dX6_hearRound_117 : decode cX6_hearRound 117 = .ok (.getfield 39, 3) := by decide +kernel
theorem dX6_hearRound_120 : decode cX6_hearRound 120 = .ok (.iload 7, 2) := by decide +kernel
theorem dX6_hearRound_122 : decode cX6_hearRound 122 = .ok (.iaload, 1) := by decide +kernel
theorem dX6_hearRound_123 : decode cX6_hearRound 123 = .ok (.invokevirtual 79, 3) := by decide +kernel
theorem dX6_hearRound_126 : decode cX6_hearRound 126 = .ok (.ifCond .ne 5, 3) := by decide +kernel
theorem dX6_hearRound_129 : decode cX6_hearRound 129 = .ok (.iconst (-1), 1) := by decide +kernel
theorem dX6_hearRound_130 : decode cX6_hearRound 130 = .ok (.ireturn, 1) := by decide +kernel
theorem dX6_hearRound_131 : decode cX6_hearRound 131 = .ok (.iinc 7 1, 3) := by decide +kernel
theorem dX6_hearRound_134 : decode cX6_hearRound 134 = .ok (.goto (-58), 3) := by decide +kernel
theorem dX6_hearRound_137 : decode cX6_hearRound 137 = .ok (.iconst 0, 1) := by decide +kernel
theorem dX6_hearRound_138 : decode cX6_hearRound 138 = .ok (.ireturn, 1) := by decide +kernel
theorem dX6_searchBest_0 : decode cX6_searchBest 0 = .ok (.aload_n 0, 1) := by decide +kernel
theorem dX6_searchBest_1 : decode cX6_searchBest 1 = .ok (.getfield 35, 3) := by decide +kernel
theorem dX6_searchBest_4 : decode cX6_searchBest 4 = .ok (.invokevirtual 145, 3) := by decide +kernel
theorem dX6_searchBest_7 : decode cX6_searchBest 7 = .ok (.aload_n 0, 1) := by decide +kernel
theorem dX6_searchBest_8 : decode cX6_searchBest 8 = .ok (.getfield 35, 3) := by decide +kernel
theorem dX6_searchBest_11 : decode cX6_searchBest 11 = .ok (.iload_n 1, 1) := by decide +kernel
theorem dX6_searchBest_12 : decode cX6_searchBest 12 = .ok (.putfield 237, 3) := by decide +kernel
theorem dX6_searchBest_15 : decode cX6_searchBest 15 = .ok (.aload_n 0, 1) := by decide +kernel
theorem dX6_searchBest_16 : decode cX6_searchBest 16 = .ok (.getfield 35, 3) := by decide +kernel
theorem dX6_searchBest_19 : decode cX6_searchBest 19 = .ok (.aload_n 0, 1) := by decide +kernel
theorem dX6_searchBest_20 : decode cX6_searchBest 20 = .ok (.getfield 21, 3) := by decide +kernel
theorem dX6_searchBest_23 : decode cX6_searchBest 23 = .ok (.iconst 0, 1) := by decide +kernel
theorem dX6_searchBest_24 : decode cX6_searchBest 24 = .ok (.iconst 0, 1) := by decide +kernel
theorem dX6_searchBest_25 : decode cX6_searchBest 25 = .ok (.iconst 0, 1) := by decide +kernel
theorem dX6_searchBest_26 : decode cX6_searchBest 26 = .ok (.invokestatic 151, 3) := by decide +kernel
theorem dX6_searchBest_29 : decode cX6_searchBest 29 = .ok (.return_, 1) := by decide +kernel
theorem dX6_takesByBest_0 : decode cX6_takesByBest 0 = .ok (.aload_n 0, 1) := by decide +kernel
theorem dX6_takesByBest_1 : decode cX6_takesByBest 1 = .ok (.bipush (-9), 2) := by decide +kernel
theorem dX6_takesByBest_3 : decode cX6_takesByBest 3 = .ok (.invokevirtual 135, 3) := by decide +kernel
theorem dX6_takesByBest_6 : decode cX6_takesByBest 6 = .ok (.iconst 0, 1) := by decide +kernel
theorem dX6_takesByBest_7 : decode cX6_takesByBest 7 = .ok (.istore_n 2, 1) := by decide +kernel
theorem dX6_takesByBest_8 : decode cX6_takesByBest 8 = .ok (.iconst 0, 1) := by decide +kernel
theorem dX6_takesByBest_9 : decode cX6_takesByBest 9 = .ok (.istore_n 3, 1) := by decide +kernel
theorem dX6_takesByBest_10 : decode cX6_takesByBest 10 = .ok (.iload_n 3, 1) := by decide +kernel
theorem dX6_takesByBest_11 : decode cX6_takesByBest 11 = .ok (.bipush 6, 2) := by decide +kernel
theorem dX6_takesByBest_13 : decode cX6_takesByBest 13 = .ok (.if_icmp .ge 25, 3) := by decide +kernel
theorem dX6_takesByBest_16 : decode cX6_takesByBest 16 = .ok (.aload_n 0, 1) := by decide +kernel
theorem dX6_takesByBest_17 : decode cX6_takesByBest 17 = .ok (.getfield 35, 3) := by decide +kernel
theorem dX6_takesByBest_20 : decode cX6_takesByBest 20 = .ok (.getfield 142, 3) := by decide +kernel
theorem dX6_takesByBest_23 : decode cX6_takesByBest 23 = .ok (.iload_n 3, 1) := by decide +kernel
theorem dX6_takesByBest_24 : decode cX6_takesByBest 24 = .ok (.iaload, 1) := by decide +kernel
theorem dX6_takesByBest_25 : decode cX6_takesByBest 25 = .ok (.iload_n 1, 1) := by decide +kernel
theorem dX6_takesByBest_26 : decode cX6_takesByBest 26 = .ok (.if_icmp .ne 6, 3) := by decide +kernel
theorem dX6_takesByBest_29 : decode cX6_takesByBest 29 = .ok (.iinc 2 1, 3) := by decide +kernel
theorem dX6_takesByBest_32 : decode cX6_takesByBest 32 = .ok (.iinc 3 1, 3) := by decide +kernel
theorem dX6_takesByBest_35 : decode cX6_takesByBest 35 = .ok (.goto (-25), 3) := by decide +kernel
theorem dX6_takesByBest_38 : decode cX6_takesByBest 38 = .ok (.iload_n 2, 1) := by decide +kernel
theorem dX6_takesByBest_39 : decode cX6_takesByBest 39 = .ok (.ireturn, 1) := by decide +kernel
theorem dX6_searchRead_0 : decode cX6_searchRead 0 = .ok (.aload_n 0, 1) := by decide +kernel
theorem dX6_searchRead_1 : decode cX6_searchRead 1 = .ok (.getfield 35, 3) := by decide +kernel
theorem dX6_searchRead_4 : decode cX6_searchRead 4 = .ok (.invokevirtual 145, 3) := by decide +kernel
theorem dX6_searchRead_7 : decode cX6_searchRead 7 = .ok (.aload_n 0, 1) := by decide +kernel
theorem dX6_searchRead_8 : decode cX6_searchRead 8 = .ok (.getfield 28, 3) := by decide +kernel
theorem dX6_searchRead_11 : decode cX6_searchRead 11 = .ok (.aload_n 0, 1) := by decide +kernel
theorem dX6_searchRead_12 : decode cX6_searchRead 12 = .ok (.getfield 35, 3) := by decide +kernel
theorem dX6_searchRead_15 : decode cX6_searchRead 15 = .ok (.invokevirtual 240, 3) := by decide +kernel
theorem dX6_searchRead_18 : decode cX6_searchRead 18 = .ok (.aload_n 0, 1) := by decide +kernel
theorem dX6_searchRead_19 : decode cX6_searchRead 19 = .ok (.getfield 35, 3) := by decide +kernel
theorem dX6_searchRead_22 : decode cX6_searchRead 22 = .ok (.aload_n 0, 1) := by decide +kernel
theorem dX6_searchRead_23 : decode cX6_searchRead 23 = .ok (.getfield 21, 3) := by decide +kernel
theorem dX6_searchRead_26 : decode cX6_searchRead 26 = .ok (.iconst 0, 1) := by decide +kernel
theorem dX6_searchRead_27 : decode cX6_searchRead 27 = .ok (.iconst 0, 1) := by decide +kernel
theorem dX6_searchRead_28 : decode cX6_searchRead 28 = .ok (.iconst 0, 1) := by decide +kernel
theorem dX6_searchRead_29 : decode cX6_searchRead 29 = .ok (.invokestatic 151, 3) := by decide +kernel
theorem dX6_searchRead_32 : decode cX6_searchRead 32 = .ok (.return_, 1) := by decide +kernel
theorem dX6_walk_0 : decode cX6_walk 0 = .ok (.iload_n 2, 1) := by decide +kernel
theorem dX6_walk_1 : decode cX6_walk 1 = .ok (.bipush 6, 2) := by decide +kernel
theorem dX6_walk_3 : decode cX6_walk 3 = .ok (.if_icmp .lt 15, 3) := by decide +kernel
theorem dX6_walk_6 : decode cX6_walk 6 = .ok (.aload_n 0, 1) := by decide +kernel
theorem dX6_walk_7 : decode cX6_walk 7 = .ok (.iload_n 3, 1) := by decide +kernel
theorem dX6_walk_8 : decode cX6_walk 8 = .ok (.iload 4, 2) := by decide +kernel
theorem dX6_walk_10 : decode cX6_walk 10 = .ok (.aload_n 1, 1) := by decide +kernel
theorem dX6_walk_11 : decode cX6_walk 11 = .ok (.getfield 111, 3) := by decide +kernel
theorem dX6_walk_14 : decode cX6_walk 14 = .ok (.invokevirtual 244, 3) := by decide +kernel
theorem dX6_walk_17 : decode cX6_walk 17 = .ok (.return_, 1) := by decide +kernel
theorem dX6_walk_18 : decode cX6_walk 18 = .ok (.aload_n 1, 1) := by decide +kernel
theorem dX6_walk_19 : decode cX6_walk 19 = .ok (.aload_n 0, 1) := by decide +kernel
theorem dX6_walk_20 : decode cX6_walk 20 = .ok (.getfield 248, 3) := by decide +kernel
theorem dX6_walk_23 : decode cX6_walk 23 = .ok (.iload_n 2, 1) := by decide +kernel
theorem dX6_walk_24 : decode cX6_walk 24 = .ok (.iload_n 2, 1) := by decide +kernel
theorem dX6_walk_25 : decode cX6_walk 25 = .ok (.invokevirtual 125, 3) := by decide +kernel
theorem dX6_walk_28 : decode cX6_walk 28 = .ok (.istore 5, 2) := by decide +kernel
theorem dX6_walk_30 : decode cX6_walk 30 = .ok (.aload_n 0, 1) := by decide +kernel
theorem dX6_walk_31 : decode cX6_walk 31 = .ok (.getfield 248, 3) := by decide +kernel
theorem dX6_walk_34 : decode cX6_walk 34 = .ok (.iload_n 2, 1) := by decide +kernel
theorem dX6_walk_35 : decode cX6_walk 35 = .ok (.bipush (-9), 2) := by decide +kernel
theorem dX6_walk_37 : decode cX6_walk 37 = .ok (.iastore, 1) := by decide +kernel
theorem dX6_walk_38 : decode cX6_walk 38 = .ok (.aload_n 0, 1) := by decide +kernel
theorem dX6_walk_39 : decode cX6_walk 39 = .ok (.iload_n 2, 1) := by decide +kernel
theorem dX6_walk_40 : decode cX6_walk 40 = .ok (.iload 5, 2) := by decide +kernel
theorem dX6_walk_42 : decode cX6_walk 42 = .ok (.invokevirtual 251, 3) := by decide +kernel
theorem dX6_walk_45 : decode cX6_walk 45 = .ok (.ifCond .eq 28, 3) := by decide +kernel
theorem dX6_walk_48 : decode cX6_walk 48 = .ok (.aload_n 0, 1) := by decide +kernel
theorem dX6_walk_49 : decode cX6_walk 49 = .ok (.getfield 175, 3) := by decide +kernel
theorem dX6_walk_52 : decode cX6_walk 52 = .ok (.istore 6, 2) := by decide +kernel
theorem dX6_walk_54 : decode cX6_walk 54 = .ok (.aload_n 0, 1) := by decide +kernel
theorem dX6_walk_55 : decode cX6_walk 55 = .ok (.aload_n 1, 1) := by decide +kernel
theorem dX6_walk_56 : decode cX6_walk 56 = .ok (.iload_n 2, 1) := by decide +kernel
theorem dX6_walk_57 : decode cX6_walk 57 = .ok (.iconst 1, 1) := by decide +kernel
theorem dX6_walk_58 : decode cX6_walk 58 = .ok (.iadd, 1) := by decide +kernel
theorem dX6_walk_59 : decode cX6_walk 59 = .ok (.iload_n 3, 1) := by decide +kernel
theorem dX6_walk_60 : decode cX6_walk 60 = .ok (.iload 4, 2) := by decide +kernel
theorem dX6_walk_62 : decode cX6_walk 62 = .ok (.invokestatic 151, 3) := by decide +kernel
theorem dX6_walk_65 : decode cX6_walk 65 = .ok (.aload_n 0, 1) := by decide +kernel
theorem dX6_walk_66 : decode cX6_walk 66 = .ok (.iload_n 2, 1) := by decide +kernel
theorem dX6_walk_67 : decode cX6_walk 67 = .ok (.iconst 5, 1) := by decide +kernel
theorem dX6_walk_68 : decode cX6_walk 68 = .ok (.iload 6, 2) := by decide +kernel
theorem dX6_walk_70 : decode cX6_walk 70 = .ok (.invokevirtual 254, 3) := by decide +kernel
theorem dX6_walk_73 : decode cX6_walk 73 = .ok (.iconst 0, 1) := by decide +kernel
theorem dX6_walk_74 : decode cX6_walk 74 = .ok (.istore 6, 2) := by decide +kernel
theorem dX6_walk_76 : decode cX6_walk 76 = .ok (.iload 6, 2) := by decide +kernel
theorem dX6_walk_78 : decode cX6_walk 78 = .ok (.aload_n 1, 1) := by decide +kernel
theorem dX6_walk_79 : decode cX6_walk 79 = .ok (.getfield 78, 3) := by decide +kernel
theorem dX6_walk_82 : decode cX6_walk 82 = .ok (.if_icmp .ge 99, 3) := by decide +kernel
theorem dX6_walk_85 : decode cX6_walk 85 = .ok (.iload 6, 2) := by decide +kernel
theorem dX6_walk_87 : decode cX6_walk 87 = .ok (.aload_n 0, 1) := by decide +kernel
theorem dX6_walk_88 : decode cX6_walk 88 = .ok (.getfield 237, 3) := by decide +kernel
theorem dX6_walk_91 : decode cX6_walk 91 = .ok (.if_icmp .eq 84, 3) := by decide +kernel
theorem dX6_walk_94 : decode cX6_walk 94 = .ok (.iload 5, 2) := by decide +kernel
theorem dX6_walk_96 : decode cX6_walk 96 = .ok (.iload 6, 2) := by decide +kernel
theorem dX6_walk_98 : decode cX6_walk 98 = .ok (.invokestatic 161, 3) := by decide +kernel
theorem dX6_walk_101 : decode cX6_walk 101 = .ok (.ifCond .ne 74, 3) := by decide +kernel
theorem dX6_walk_104 : decode cX6_walk 104 = .ok (.aload_n 0, 1) := by decide +kernel
theorem dX6_walk_105 : decode cX6_walk 105 = .ok (.iload_n 2, 1) := by decide +kernel
theorem dX6_walk_106 : decode cX6_walk 106 = .ok (.iload 5, 2) := by decide +kernel
theorem dX6_walk_108 : decode cX6_walk 108 = .ok (.iconst 1, 1) := by decide +kernel
theorem dX6_walk_109 : decode cX6_walk 109 = .ok (.iload 6, 2) := by decide +kernel
theorem dX6_walk_111 : decode cX6_walk 111 = .ok (.ishl, 1) := by decide +kernel
theorem dX6_walk_112 : decode cX6_walk 112 = .ok (.ior, 1) := by decide +kernel
theorem dX6_walk_113 : decode cX6_walk 113 = .ok (.invokevirtual 251, 3) := by decide +kernel
theorem dX6_walk_116 : decode cX6_walk 116 = .ok (.ifCond .eq 59, 3) := by decide +kernel
theorem dX6_walk_119 : decode cX6_walk 119 = .ok (.aload_n 0, 1) := by decide +kernel
theorem dX6_walk_120 : decode cX6_walk 120 = .ok (.getfield 175, 3) := by decide +kernel
theorem dX6_walk_123 : decode cX6_walk 123 = .ok (.istore 7, 2) := by decide +kernel
theorem dX6_walk_125 : decode cX6_walk 125 = .ok (.aload_n 0, 1) := by decide +kernel
theorem dX6_walk_126 : decode cX6_walk 126 = .ok (.getfield 248, 3) := by decide +kernel
theorem dX6_walk_129 : decode cX6_walk 129 = .ok (.iload_n 2, 1) := by decide +kernel
theorem dX6_walk_130 : decode cX6_walk 130 = .ok (.iload 6, 2) := by decide +kernel
theorem dX6_walk_132 : decode cX6_walk 132 = .ok (.iastore, 1) := by decide +kernel
theorem dX6_walk_133 : decode cX6_walk 133 = .ok (.aload_n 0, 1) := by decide +kernel
theorem dX6_walk_134 : decode cX6_walk 134 = .ok (.aload_n 1, 1) := by decide +kernel
theorem dX6_walk_135 : decode cX6_walk 135 = .ok (.iload_n 2, 1) := by decide +kernel
theorem dX6_walk_136 : decode cX6_walk 136 = .ok (.iconst 1, 1) := by decide +kernel
theorem dX6_walk_137 : decode cX6_walk 137 = .ok (.iadd, 1) := by decide +kernel
theorem dX6_walk_138 : decode cX6_walk 138 = .ok (.iload_n 3, 1) := by decide +kernel
theorem dX6_walk_139 : decode cX6_walk 139 = .ok (.aload_n 1, 1) := by decide +kernel
theorem dX6_walk_140 : decode cX6_walk 140 = .ok (.iload 6, 2) := by decide +kernel
theorem dX6_walk_142 : decode cX6_walk 142 = .ok (.iload_n 2, 1) := by decide +kernel
theorem dX6_walk_143 : decode cX6_walk 143 = .ok (.iload 5, 2) := by decide +kernel
theorem dX6_walk_145 : decode cX6_walk 145 = .ok (.aload_n 1, 1) := by decide +kernel
theorem dX6_walk_146 : decode cX6_walk 146 = .ok (.getfield 114, 3) := by decide +kernel
theorem dX6_walk_149 : decode cX6_walk 149 = .ok (.invokevirtual 257, 3) := by decide +kernel
theorem dX6_walk_152 : decode cX6_walk 152 = .ok (.iadd, 1) := by decide +kernel
theorem dX6_walk_153 : decode cX6_walk 153 = .ok (.iload 4, 2) := by decide +kernel
theorem dX6_walk_155 : decode cX6_walk 155 = .ok (.aload_n 1, 1) := by decide +kernel
theorem dX6_walk_156 : decode cX6_walk 156 = .ok (.iload 6, 2) := by decide +kernel
theorem dX6_walk_158 : decode cX6_walk 158 = .ok (.iload_n 2, 1) := by decide +kernel
theorem dX6_walk_159 : decode cX6_walk 159 = .ok (.invokevirtual 261, 3) := by decide +kernel
theorem dX6_walk_162 : decode cX6_walk 162 = .ok (.iadd, 1) := by decide +kernel
theorem dX6_walk_163 : decode cX6_walk 163 = .ok (.invokestatic 151, 3) := by decide +kernel
theorem dX6_walk_166 : decode cX6_walk 166 = .ok (.aload_n 0, 1) := by decide +kernel
theorem dX6_walk_167 : decode cX6_walk 167 = .ok (.iload_n 2, 1) := by decide +kernel
theorem dX6_walk_168 : decode cX6_walk 168 = .ok (.iload 6, 2) := by decide +kernel
theorem dX6_walk_170 : decode cX6_walk 170 = .ok (.iload 7, 2) := by decide +kernel
theorem dX6_walk_172 : decode cX6_walk 172 = .ok (.invokevirtual 254, 3) := by decide +kernel
theorem dX6_walk_175 : decode cX6_walk 175 = .ok (.iinc 6 1, 3) := by decide +kernel
theorem dX6_walk_178 : decode cX6_walk 178 = .ok (.goto (-102), 3) := by decide +kernel
theorem dX6_walk_181 : decode cX6_walk 181 = .ok (.return_, 1) := by decide +kernel
theorem dX6_waysForAtMost_0 : decode cX6_waysForAtMost 0 = .ok (.lconst 0, 1) := by decide +kernel
theorem dX6_waysForAtMost_1 : decode cX6_waysForAtMost 1 = .ok (.lstore_n 2, 1) := by decide +kernel
theorem dX6_waysForAtMost_2 : decode cX6_waysForAtMost 2 = .ok (.lconst 1, 1) := by decide +kernel
theorem dX6_waysForAtMost_3 : decode cX6_waysForAtMost 3 = .ok (.lstore 4, 2) := by decide +kernel
theorem dX6_waysForAtMost_5 : decode cX6_waysForAtMost 5 = .ok (.iconst 0, 1) := by decide +kernel
theorem dX6_waysForAtMost_6 : decode cX6_waysForAtMost 6 = .ok (.istore 6, 2) := by decide +kernel
theorem dX6_waysForAtMost_8 : decode cX6_waysForAtMost 8 = .ok (.iload 6, 2) := by decide +kernel
theorem dX6_waysForAtMost_10 : decode cX6_waysForAtMost 10 = .ok (.iload_n 1, 1) := by decide +kernel
theorem dX6_waysForAtMost_11 : decode cX6_waysForAtMost 11 = .ok (.if_icmp .gt 36, 3) := by decide +kernel
theorem dX6_waysForAtMost_14 : decode cX6_waysForAtMost 14 = .ok (.iload 6, 2) := by decide +kernel
theorem dX6_waysForAtMost_16 : decode cX6_waysForAtMost 16 = .ok (.iload_n 0, 1) := by decide +kernel
theorem dX6_waysForAtMost_17 : decode cX6_waysForAtMost 17 = .ok (.if_icmp .gt 30, 3) := by decide +kernel
theorem dX6_waysForAtMost_20 : decode cX6_waysForAtMost 20 = .ok (.lload_n 2, 1) := by decide +kernel
theorem dX6_waysForAtMost_21 : decode cX6_waysForAtMost 21 = .ok (.lload 4, 2) := by decide +kernel
theorem dX6_waysForAtMost_23 : decode cX6_waysForAtMost 23 = .ok (.ladd, 1) := by decide +kernel
theorem dX6_waysForAtMost_24 : decode cX6_waysForAtMost 24 = .ok (.lstore_n 2, 1) := by decide +kernel
theorem dX6_waysForAtMost_25 : decode cX6_waysForAtMost 25 = .ok (.lload 4, 2) := by decide +kernel
theorem dX6_waysForAtMost_27 : decode cX6_waysForAtMost 27 = .ok (.iload_n 0, 1) := by decide +kernel
theorem dX6_waysForAtMost_28 : decode cX6_waysForAtMost 28 = .ok (.iload 6, 2) := by decide +kernel
theorem dX6_waysForAtMost_30 : decode cX6_waysForAtMost 30 = .ok (.isub, 1) := by decide +kernel
theorem dX6_waysForAtMost_31 : decode cX6_waysForAtMost 31 = .ok (.i2l, 1) := by decide +kernel
theorem dX6_waysForAtMost_32 : decode cX6_waysForAtMost 32 = .ok (.lmul, 1) := by decide +kernel
theorem dX6_waysForAtMost_33 : decode cX6_waysForAtMost 33 = .ok (.iload 6, 2) := by decide +kernel
theorem dX6_waysForAtMost_35 : decode cX6_waysForAtMost 35 = .ok (.iconst 1, 1) := by decide +kernel
theorem dX6_waysForAtMost_36 : decode cX6_waysForAtMost 36 = .ok (.iadd, 1) := by decide +kernel
theorem dX6_waysForAtMost_37 : decode cX6_waysForAtMost 37 = .ok (.i2l, 1) := by decide +kernel
theorem dX6_waysForAtMost_38 : decode cX6_waysForAtMost 38 = .ok (.ldiv, 1) := by decide +kernel
theorem dX6_waysForAtMost_39 : decode cX6_waysForAtMost 39 = .ok (.lstore 4, 2) := by decide +kernel
theorem dX6_waysForAtMost_41 : decode cX6_waysForAtMost 41 = .ok (.iinc 6 1, 3) := by decide +kernel
theorem dX6_waysForAtMost_44 : decode cX6_waysForAtMost 44 = .ok (.goto (-36), 3) := by decide +kernel
theorem dX6_waysForAtMost_47 : decode cX6_waysForAtMost 47 = .ok (.lload_n 2, 1) := by decide +kernel
theorem dX6_waysForAtMost_48 : decode cX6_waysForAtMost 48 = .ok (.lreturn, 1) := by decide +kernel
theorem dX6_leave_0 : decode cX6_leave 0 = .ok (.aload_n 0, 1) := by decide +kernel
theorem dX6_leave_1 : decode cX6_leave 1 = .ok (.bipush 31, 2) := by decide +kernel
theorem dX6_leave_3 : decode cX6_leave 3 = .ok (.aload_n 0, 1) := by decide +kernel
theorem dX6_leave_4 : decode cX6_leave 4 = .ok (.getfield 234, 3) := by decide +kernel
theorem dX6_leave_7 : decode cX6_leave 7 = .ok (.imul, 1) := by decide +kernel
theorem dX6_leave_8 : decode cX6_leave 8 = .ok (.iload_n 1, 1) := by decide +kernel
theorem dX6_leave_9 : decode cX6_leave 9 = .ok (.iadd, 1) := by decide +kernel
theorem dX6_leave_10 : decode cX6_leave 10 = .ok (.putfield 234, 3) := by decide +kernel
theorem dX6_leave_13 : decode cX6_leave 13 = .ok (.return_, 1) := by decide +kernel
theorem dX6_thingTells_0 : decode cX6_thingTells 0 = .ok (.aload_n 0, 1) := by decide +kernel
theorem dX6_thingTells_1 : decode cX6_thingTells 1 = .ok (.iconst 1, 1) := by decide +kernel
theorem dX6_thingTells_2 : decode cX6_thingTells 2 = .ok (.invokevirtual 231, 3) := by decide +kernel
theorem dX6_thingTells_5 : decode cX6_thingTells 5 = .ok (.aload_n 1, 1) := by decide +kernel
theorem dX6_thingTells_6 : decode cX6_thingTells 6 = .ok (.getfield 94, 3) := by decide +kernel
theorem dX6_thingTells_9 : decode cX6_thingTells 9 = .ok (.ireturn, 1) := by decide +kernel
theorem dX6_heirloomTells_0 : decode cX6_heirloomTells 0 = .ok (.aload_n 0, 1) := by decide +kernel
theorem dX6_heirloomTells_1 : decode cX6_heirloomTells 1 = .ok (.iconst 2, 1) := by decide +kernel
theorem dX6_heirloomTells_2 : decode cX6_heirloomTells 2 = .ok (.invokevirtual 231, 3) := by decide +kernel
theorem dX6_heirloomTells_5 : decode cX6_heirloomTells 5 = .ok (.aload_n 0, 1) := by decide +kernel
theorem dX6_heirloomTells_6 : decode cX6_heirloomTells 6 = .ok (.aload_n 1, 1) := by decide +kernel
theorem dX6_heirloomTells_7 : decode cX6_heirloomTells 7 = .ok (.invokevirtual 228, 3) := by decide +kernel
theorem dX6_heirloomTells_10 : decode cX6_heirloomTells 10 = .ok (.bipush 100, 2) := by decide +kernel
theorem dX6_heirloomTells_12 : decode cX6_heirloomTells 12 = .ok (.iadd, 1) := by decide +kernel
theorem dX6_heirloomTells_13 : decode cX6_heirloomTells 13 = .ok (.ireturn, 1) := by decide +kernel
theorem dX6_livingTells_0 : decode cX6_livingTells 0 = .ok (.aload_n 0, 1) := by decide +kernel
theorem dX6_livingTells_1 : decode cX6_livingTells 1 = .ok (.iconst 3, 1) := by decide +kernel
theorem dX6_livingTells_2 : decode cX6_livingTells 2 = .ok (.invokevirtual 231, 3) := by decide +kernel
theorem dX6_livingTells_5 : decode cX6_livingTells 5 = .ok (.aload_n 0, 1) := by decide +kernel
theorem dX6_livingTells_6 : decode cX6_livingTells 6 = .ok (.aload_n 1, 1) := by decide +kernel
theorem dX6_livingTells_7 : decode cX6_livingTells 7 = .ok (.invokevirtual 225, 3) := by decide +kernel
theorem dX6_livingTells_10 : decode cX6_livingTells 10 = .ok (.istore_n 2, 1) := by decide +kernel
theorem dX6_livingTells_11 : decode cX6_livingTells 11 = .ok (.iload_n 2, 1) := by decide +kernel
theorem dX6_livingTells_12 : decode cX6_livingTells 12 = .ok (.aload_n 0, 1) := by decide +kernel
theorem dX6_livingTells_13 : decode cX6_livingTells 13 = .ok (.aload_n 1, 1) := by decide +kernel
theorem dX6_livingTells_14 : decode cX6_livingTells 14 = .ok (.invokevirtual 228, 3) := by decide +kernel
theorem dX6_livingTells_17 : decode cX6_livingTells 17 = .ok (.iadd, 1) := by decide +kernel
theorem dX6_livingTells_18 : decode cX6_livingTells 18 = .ok (.ireturn, 1) := by decide +kernel
theorem dX7_init_0 : decode cX7_init 0 = .ok (.aload_n 0, 1) := by decide +kernel
theorem dX7_init_1 : decode cX7_init 1 = .ok (.invokespecial 1, 3) := by decide +kernel
theorem dX7_init_4 : decode cX7_init 4 = .ok (.aload_n 0, 1) := by decide +kernel
theorem dX7_init_5 : decode cX7_init 5 = .ok (.iconst 5, 1) := by decide +kernel
theorem dX7_init_6 : decode cX7_init 6 = .ok (.newarray .int, 2) := by decide +kernel
theorem dX7_init_8 : decode cX7_init 8 = .ok (.putfield 7, 3) := by decide +kernel
theorem dX7_init_11 : decode cX7_init 11 = .ok (.aload_n 0, 1) := by decide +kernel
theorem dX7_init_12 : decode cX7_init 12 = .ok (.iconst 5, 1) := by decide +kernel
theorem dX7_init_13 : decode cX7_init 13 = .ok (.newarray .int, 2) := by decide +kernel
theorem dX7_init_15 : decode cX7_init 15 = .ok (.putfield 13, 3) := by decide +kernel
theorem dX7_init_18 : decode cX7_init 18 = .ok (.aload_n 0, 1) := by decide +kernel
theorem dX7_init_19 : decode cX7_init 19 = .ok (.iconst 5, 1) := by decide +kernel
theorem dX7_init_20 : decode cX7_init 20 = .ok (.newarray .int, 2) := by decide +kernel
theorem dX7_init_22 : decode cX7_init 22 = .ok (.putfield 16, 3) := by decide +kernel
theorem dX7_init_25 : decode cX7_init 25 = .ok (.aload_n 0, 1) := by decide +kernel
theorem dX7_init_26 : decode cX7_init 26 = .ok (.iconst 5, 1) := by decide +kernel
theorem dX7_init_27 : decode cX7_init 27 = .ok (.newarray .int, 2) := by decide +kernel
theorem dX7_init_29 : decode cX7_init 29 = .ok (.putfield 19, 3) := by decide +kernel
theorem dX7_init_32 : decode cX7_init 32 = .ok (.aload_n 0, 1) := by decide +kernel
theorem dX7_init_33 : decode cX7_init 33 = .ok (.iconst 5, 1) := by decide +kernel
theorem dX7_init_34 : decode cX7_init 34 = .ok (.newarray .int, 2) := by decide +kernel
theorem dX7_init_36 : decode cX7_init 36 = .ok (.putfield 22, 3) := by decide +kernel
theorem dX7_init_39 : decode cX7_init 39 = .ok (.aload_n 0, 1) := by decide +kernel
theorem dX7_init_40 : decode cX7_init 40 = .ok (.iconst 5, 1) := by decide +kernel
theorem dX7_init_41 : decode cX7_init 41 = .ok (.newarray .int, 2) := by decide +kernel
theorem dX7_init_43 : decode cX7_init 43 = .ok (.putfield 25, 3) := by decide +kernel
theorem dX7_init_46 : decode cX7_init 46 = .ok (.aload_n 0, 1) := by decide +kernel
theorem dX7_init_47 : decode cX7_init 47 = .ok (.iconst 5, 1) := by decide +kernel
theorem dX7_init_48 : decode cX7_init 48 = .ok (.newarray .int, 2) := by decide +kernel
theorem dX7_init_50 : decode cX7_init 50 = .ok (.putfield 28, 3) := by decide +kernel
theorem dX7_init_53 : decode cX7_init 53 = .ok (.aload_n 0, 1) := by decide +kernel
theorem dX7_init_54 : decode cX7_init 54 = .ok (.iconst 5, 1) := by decide +kernel
theorem dX7_init_55 : decode cX7_init 55 = .ok (.newarray .int, 2) := by decide +kernel
theorem dX7_init_57 : decode cX7_init 57 = .ok (.putfield 31, 3) := by decide +kernel
theorem dX7_init_60 : decode cX7_init 60 = .ok (.aload_n 0, 1) := by decide +kernel
theorem dX7_init_61 : decode cX7_init 61 = .ok (.iconst 5, 1) := by decide +kernel
theorem dX7_init_62 : decode cX7_init 62 = .ok (.newarray .int, 2) := by decide +kernel
theorem dX7_init_64 : decode cX7_init 64 = .ok (.putfield 34, 3) := by decide +kernel
theorem dX7_init_67 : decode cX7_init 67 = .ok (.aload_n 0, 1) := by decide +kernel
theorem dX7_init_68 : decode cX7_init 68 = .ok (.iconst 5, 1) := by decide +kernel
theorem dX7_init_69 : decode cX7_init 69 = .ok (.newarray .int, 2) := by decide +kernel
theorem dX7_init_71 : decode cX7_init 71 = .ok (.putfield 37, 3) := by decide +kernel
theorem dX7_init_74 : decode cX7_init 74 = .ok (.aload_n 0, 1) := by decide +kernel
theorem dX7_init_75 : decode cX7_init 75 = .ok (.bipush 6, 2) := by decide +kernel
theorem dX7_init_77 : decode cX7_init 77 = .ok (.newarray .int, 2) := by decide +kernel
theorem dX7_init_79 : decode cX7_init 79 = .ok (.putfield 40, 3) := by decide +kernel
theorem dX7_init_82 : decode cX7_init 82 = .ok (.aload_n 0, 1) := by decide +kernel
theorem dX7_init_83 : decode cX7_init 83 = .ok (.bipush 6, 2) := by decide +kernel
theorem dX7_init_85 : decode cX7_init 85 = .ok (.newarray .int, 2) := by decide +kernel
theorem dX7_init_87 : decode cX7_init 87 = .ok (.putfield 43, 3) := by decide +kernel
theorem dX7_init_90 : decode cX7_init 90 = .ok (.aload_n 0, 1) := by decide +kernel
theorem dX7_init_91 : decode cX7_init 91 = .ok (.iconst 5, 1) := by decide +kernel
theorem dX7_init_92 : decode cX7_init 92 = .ok (.newarray .int, 2) := by decide +kernel
theorem dX7_init_94 : decode cX7_init 94 = .ok (.putfield 46, 3) := by decide +kernel
theorem dX7_init_97 : decode cX7_init 97 = .ok (.aload_n 0, 1) := by decide +kernel
theorem dX7_init_98 : decode cX7_init 98 = .ok (.bipush 8, 2) := by decide +kernel
theorem dX7_init_100 : decode cX7_init 100 = .ok (.newarray .int, 2) := by decide +kernel
theorem dX7_init_102 : decode cX7_init 102 = .ok (.putfield 49, 3) := by decide +kernel
theorem dX7_init_105 : decode cX7_init 105 = .ok (.aload_n 0, 1) := by decide +kernel
theorem dX7_init_106 : decode cX7_init 106 = .ok (.bipush 8, 2) := by decide +kernel
theorem dX7_init_108 : decode cX7_init 108 = .ok (.newarray .int, 2) := by decide +kernel
theorem dX7_init_110 : decode cX7_init 110 = .ok (.putfield 52, 3) := by decide +kernel
theorem dX7_init_113 : decode cX7_init 113 = .ok (.aload_n 0, 1) := by decide +kernel
theorem dX7_init_114 : decode cX7_init 114 = .ok (.bipush 8, 2) := by decide +kernel
theorem dX7_init_116 : decode cX7_init 116 = .ok (.newarray .boolean, 2) := by decide +kernel
theorem dX7_init_118 : decode cX7_init 118 = .ok (.putfield 55, 3) := by decide +kernel
theorem dX7_init_121 : decode cX7_init 121 = .ok (.aload_n 0, 1) := by decide +kernel
theorem dX7_init_122 : decode cX7_init 122 = .ok (.iconst 4, 1) := by decide +kernel
theorem dX7_init_123 : decode cX7_init 123 = .ok (.newarray .int, 2) := by decide +kernel
theorem dX7_init_125 : decode cX7_init 125 = .ok (.putfield 59, 3) := by decide +kernel
theorem dX7_init_128 : decode cX7_init 128 = .ok (.aload_n 0, 1) := by decide +kernel
theorem dX7_init_129 : decode cX7_init 129 = .ok (.iconst 4, 1) := by decide +kernel
theorem dX7_init_130 : decode cX7_init 130 = .ok (.newarray .int, 2) := by decide +kernel
theorem dX7_init_132 : decode cX7_init 132 = .ok (.putfield 62, 3) := by decide +kernel
theorem dX7_init_135 : decode cX7_init 135 = .ok (.aload_n 0, 1) := by decide +kernel
theorem dX7_init_136 : decode cX7_init 136 = .ok (.sipush 240, 3) := by decide +kernel
theorem dX7_init_139 : decode cX7_init 139 = .ok (.newarray .int, 2) := by decide +kernel
theorem dX7_init_141 : decode cX7_init 141 = .ok (.putfield 65, 3) := by decide +kernel
theorem dX7_init_144 : decode cX7_init 144 = .ok (.aload_n 0, 1) := by decide +kernel
theorem dX7_init_145 : decode cX7_init 145 = .ok (.bipush 60, 2) := by decide +kernel
theorem dX7_init_147 : decode cX7_init 147 = .ok (.newarray .int, 2) := by decide +kernel
theorem dX7_init_149 : decode cX7_init 149 = .ok (.putfield 68, 3) := by decide +kernel
theorem dX7_init_152 : decode cX7_init 152 = .ok (.iconst 0, 1) := by decide +kernel
theorem dX7_init_153 : decode cX7_init 153 = .ok (.istore_n 1, 1) := by decide +kernel
theorem dX7_init_154 : decode cX7_init 154 = .ok (.iload_n 1, 1) := by decide +kernel
theorem dX7_init_155 : decode cX7_init 155 = .ok (.iconst 4, 1) := by decide +kernel
theorem dX7_init_156 : decode cX7_init 156 = .ok (.if_icmp .ge 16, 3) := by decide +kernel
theorem dX7_init_159 : decode cX7_init 159 = .ok (.aload_n 0, 1) := by decide +kernel
theorem dX7_init_160 : decode cX7_init 160 = .ok (.getfield 59, 3) := by decide +kernel
theorem dX7_init_163 : decode cX7_init 163 = .ok (.iload_n 1, 1) := by decide +kernel
theorem dX7_init_164 : decode cX7_init 164 = .ok (.iconst (-1), 1) := by decide +kernel
theorem dX7_init_165 : decode cX7_init 165 = .ok (.iastore, 1) := by decide +kernel
theorem dX7_init_166 : decode cX7_init 166 = .ok (.iinc 1 1, 3) := by decide +kernel
theorem dX7_init_169 : decode cX7_init 169 = .ok (.goto (-15), 3) := by decide +kernel
theorem dX7_init_172 : decode cX7_init 172 = .ok (.aload_n 0, 1) := by decide +kernel
theorem dX7_init_173 : decode cX7_init 173 = .ok (.bipush (-9), 2) := by decide +kernel
theorem dX7_init_175 : decode cX7_init 175 = .ok (.putfield 71, 3) := by decide +kernel
theorem dX7_init_178 : decode cX7_init 178 = .ok (.return_, 1) := by decide +kernel
theorem dX7_in_0 : decode cX7_in 0 = .ok (.lload_n 0, 1) := by decide +kernel
theorem dX7_in_1 : decode cX7_in 1 = .ok (.lload_n 2, 1) := by decide +kernel
theorem dX7_in_2 : decode cX7_in 2 = .ok (.lcmp, 1) := by decide +kernel
theorem dX7_in_3 : decode cX7_in 3 = .ok (.ifCond .lt 14, 3) := by decide +kernel
theorem dX7_in_6 : decode cX7_in 6 = .ok (.lload_n 0, 1) := by decide +kernel
theorem dX7_in_7 : decode cX7_in 7 = .ok (.lload 4, 2) := by decide +kernel
theorem dX7_in_9 : decode cX7_in 9 = .ok (.lcmp, 1) := by decide +kernel
theorem dX7_in_10 : decode cX7_in 10 = .ok (.ifCond .gt 7, 3) := by decide +kernel
theorem dX7_in_13 : decode cX7_in 13 = .ok (.iconst 1, 1) := by decide +kernel
theorem dX7_in_14 : decode cX7_in 14 = .ok (.goto 4, 3) := by decide +kernel
theorem dX7_in_17 : decode cX7_in 17 = .ok (.iconst 0, 1) := by decide +kernel
theorem dX7_in_18 : decode cX7_in 18 = .ok (.ireturn, 1) := by decide +kernel
theorem dX7_lost_0 : decode cX7_lost 0 = .ok (.ldc2_w 75, 3) := by decide +kernel
theorem dX7_lost_3 : decode cX7_lost 3 = .ok (.lreturn, 1) := by decide +kernel
theorem dX7_isIn_0 : decode cX7_isIn 0 = .ok (.iload_n 0, 1) := by decide +kernel
theorem dX7_isIn_1 : decode cX7_isIn 1 = .ok (.iload_n 1, 1) := by decide +kernel
theorem dX7_isIn_2 : decode cX7_isIn 2 = .ok (.ishr, 1) := by decide +kernel
theorem dX7_isIn_3 : decode cX7_isIn 3 = .ok (.iconst 1, 1) := by decide +kernel
theorem dX7_isIn_4 : decode cX7_isIn 4 = .ok (.iand, 1) := by decide +kernel
theorem dX7_isIn_5 : decode cX7_isIn 5 = .ok (.iconst 1, 1) := by decide +kernel
theorem dX7_isIn_6 : decode cX7_isIn 6 = .ok (.if_icmp .ne 7, 3) := by decide +kernel
theorem dX7_isIn_9 : decode cX7_isIn 9 = .ok (.iconst 1, 1) := by decide +kernel
theorem dX7_isIn_10 : decode cX7_isIn 10 = .ok (.goto 4, 3) := by decide +kernel
theorem dX7_isIn_13 : decode cX7_isIn 13 = .ok (.iconst 0, 1) := by decide +kernel
theorem dX7_isIn_14 : decode cX7_isIn 14 = .ok (.ireturn, 1) := by decide +kernel
theorem dX7_told_0 : decode cX7_told 0 = .ok (.lload_n 0, 1) := by decide +kernel
theorem dX7_told_1 : decode cX7_told 1 = .ok (.lstore 5, 2) := by decide +kernel
theorem dX7_told_3 : decode cX7_told 3 = .ok (.lload_n 2, 1) := by decide +kernel
theorem dX7_told_4 : decode cX7_told 4 = .ok (.lstore 7, 2) := by decide +kernel
theorem dX7_told_6 : decode cX7_told 6 = .ok (.lload 7, 2) := by decide +kernel
theorem dX7_told_8 : decode cX7_told 8 = .ok (.lconst 0, 1) := by decide +kernel
theorem dX7_told_9 : decode cX7_told 9 = .ok (.lcmp, 1) := by decide +kernel
theorem dX7_told_10 : decode cX7_told 10 = .ok (.ifCond .eq 21, 3) := by decide +kernel
theorem dX7_told_13 : decode cX7_told 13 = .ok (.lload 5, 2) := by decide +kernel
theorem dX7_told_15 : decode cX7_told 15 = .ok (.lload 7, 2) := by decide +kernel
theorem dX7_told_17 : decode cX7_told 17 = .ok (.lrem, 1) := by decide +kernel
theorem dX7_told_18 : decode cX7_told 18 = .ok (.lstore 9, 2) := by decide +kernel
theorem dX7_told_20 : decode cX7_told 20 = .ok (.lload 7, 2) := by decide +kernel
theorem dX7_told_22 : decode cX7_told 22 = .ok (.lstore 5, 2) := by decide +kernel
theorem dX7_told_24 : decode cX7_told 24 = .ok (.lload 9, 2) := by decide +kernel
theorem dX7_told_26 : decode cX7_told 26 = .ok (.lstore 7, 2) := by decide +kernel
theorem dX7_told_28 : decode cX7_told 28 = .ok (.goto (-22), 3) := by decide +kernel
theorem dX7_told_31 : decode cX7_told 31 = .ok (.iload 4, 2) := by decide +kernel
theorem dX7_told_33 : decode cX7_told 33 = .ok (.ifCond .ne 7, 3) := by decide +kernel
theorem dX7_told_36 : decode cX7_told 36 = .ok (.lload_n 0, 1) := by decide +kernel
theorem dX7_told_37 : decode cX7_told 37 = .ok (.goto 4, 3) := by decide +kernel
theorem dX7_told_40 : decode cX7_told 40 = .ok (.lload_n 2, 1) := by decide +kernel
theorem dX7_told_41 : decode cX7_told 41 = .ok (.lload 5, 2) := by decide +kernel
theorem dX7_told_43 : decode cX7_told 43 = .ok (.ldiv, 1) := by decide +kernel
theorem dX7_told_44 : decode cX7_told 44 = .ok (.lreturn, 1) := by decide +kernel
theorem dX7_refused_0 : decode cX7_refused 0 = .ok (.aload_n 0, 1) := by decide +kernel
theorem dX7_refused_1 : decode cX7_refused 1 = .ok (.iconst 0, 1) := by decide +kernel
theorem dX7_refused_2 : decode cX7_refused 2 = .ok (.putfield 77, 3) := by decide +kernel
theorem dX7_refused_5 : decode cX7_refused 5 = .ok (.iload_n 1, 1) := by decide +kernel
theorem dX7_refused_6 : decode cX7_refused 6 = .ok (.ireturn, 1) := by decide +kernel
theorem dX7_failed_0 : decode cX7_failed 0 = .ok (.aload_n 0, 1) := by decide +kernel
theorem dX7_failed_1 : decode cX7_failed 1 = .ok (.iload_n 1, 1) := by decide +kernel
theorem dX7_failed_2 : decode cX7_failed 2 = .ok (.putfield 77, 3) := by decide +kernel
theorem dX7_failed_5 : decode cX7_failed 5 = .ok (.bipush (-10), 2) := by decide +kernel
theorem dX7_failed_7 : decode cX7_failed 7 = .ok (.iload_n 1, 1) := by decide +kernel
theorem dX7_failed_8 : decode cX7_failed 8 = .ok (.isub, 1) := by decide +kernel
theorem dX7_failed_9 : decode cX7_failed 9 = .ok (.ireturn, 1) := by decide +kernel
theorem dX7_failedLong_0 : decode cX7_failedLong 0 = .ok (.aload_n 0, 1) := by decide +kernel
theorem dX7_failedLong_1 : decode cX7_failedLong 1 = .ok (.iload_n 1, 1) := by decide +kernel
theorem dX7_failedLong_2 : decode cX7_failedLong 2 = .ok (.putfield 77, 3) := by decide +kernel
theorem dX7_failedLong_5 : decode cX7_failedLong 5 = .ok (.invokestatic 80, 3) := by decide +kernel
theorem dX7_failedLong_8 : decode cX7_failedLong 8 = .ok (.lreturn, 1) := by decide +kernel
theorem dX7_noThing_0 : decode cX7_noThing 0 = .ok (.iload_n 1, 1) := by decide +kernel
theorem dX7_noThing_1 : decode cX7_noThing 1 = .ok (.i2l, 1) := by decide +kernel
theorem dX7_noThing_2 : decode cX7_noThing 2 = .ok (.lconst 0, 1) := by decide +kernel
theorem dX7_noThing_3 : decode cX7_noThing 3 = .ok (.aload_n 0, 1) := by decide +kernel
theorem dX7_noThing_4 : decode cX7_noThing 4 = .ok (.getfield 84, 3) := by decide +kernel
theorem dX7_noThing_7 : decode cX7_noThing 7 = .ok (.i2l, 1) := by decide +kernel
theorem dX7_noThing_8 : decode cX7_noThing 8 = .ok (.lconst 1, 1) := by decide +kernel
theorem dX7_noThing_9 : decode cX7_noThing 9 = .ok (.lsub, 1) := by decide +kernel
theorem dX7_noThing_10 : decode cX7_noThing 10 = .ok (.invokestatic 87, 3) := by decide +kernel
theorem dX7_noThing_13 : decode cX7_noThing 13 = .ok (.ifCond .ne 7, 3) := by decide +kernel
theorem dX7_noThing_16 : decode cX7_noThing 16 = .ok (.iconst 1, 1) := by decide +kernel
theorem dX7_noThing_17 : decode cX7_noThing 17 = .ok (.goto 4, 3) := by decide +kernel
theorem dX7_noThing_20 : decode cX7_noThing 20 = .ok (.iconst 0, 1) := by decide +kernel
theorem dX7_noThing_21 : decode cX7_noThing 21 = .ok (.ireturn, 1) := by decide +kernel
theorem dX7_codeAt_0 : decode cX7_codeAt 0 = .ok (.aload_n 0, 1) := by decide +kernel
theorem dX7_codeAt_1 : decode cX7_codeAt 1 = .ok (.getfield 91, 3) := by decide +kernel
theorem dX7_codeAt_4 : decode cX7_codeAt 4 = .ok (.iload_n 2, 1) := by decide +kernel
theorem dX7_codeAt_5 : decode cX7_codeAt 5 = .ok (.if_icmp .ge 17, 3) := by decide +kernel
theorem dX7_codeAt_8 : decode cX7_codeAt 8 = .ok (.aload_n 0, 1) := by decide +kernel
theorem dX7_codeAt_9 : decode cX7_codeAt 9 = .ok (.getfield 65, 3) := by decide +kernel
theorem dX7_codeAt_12 : decode cX7_codeAt 12 = .ok (.iload_n 1, 1) := by decide +kernel
theorem dX7_codeAt_13 : decode cX7_codeAt 13 = .ok (.aload_n 0, 1) := by decide +kernel
theorem dX7_codeAt_14 : decode cX7_codeAt 14 = .ok (.getfield 91, 3) := by decide +kernel
theorem dX7_codeAt_17 : decode cX7_codeAt 17 = .ok (.iadd, 1) := by decide +kernel
theorem dX7_codeAt_18 : decode cX7_codeAt 18 = .ok (.iaload, 1) := by decide +kernel
theorem dX7_codeAt_19 : decode cX7_codeAt 19 = .ok (.goto 5, 3) := by decide +kernel
theorem dX7_codeAt_22 : decode cX7_codeAt 22 = .ok (.bipush (-9), 2) := by decide +kernel
theorem dX7_codeAt_24 : decode cX7_codeAt 24 = .ok (.ireturn, 1) := by decide +kernel
theorem dX7_figure_0 : decode cX7_figure 0 = .ok (.aload_n 0, 1) := by decide +kernel
theorem dX7_figure_1 : decode cX7_figure 1 = .ok (.iload_n 1, 1) := by decide +kernel
theorem dX7_figure_2 : decode cX7_figure 2 = .ok (.iload_n 2, 1) := by decide +kernel
theorem dX7_figure_3 : decode cX7_figure 3 = .ok (.invokevirtual 94, 3) := by decide +kernel
theorem dX7_figure_6 : decode cX7_figure 6 = .ok (.bipush 48, 2) := by decide +kernel
theorem dX7_figure_8 : decode cX7_figure 8 = .ok (.isub, 1) := by decide +kernel
theorem dX7_figure_9 : decode cX7_figure 9 = .ok (.istore 5, 2) := by decide +kernel
theorem dX7_figure_11 : decode cX7_figure 11 = .ok (.iload 5, 2) := by decide +kernel
theorem dX7_figure_13 : decode cX7_figure 13 = .ok (.i2l, 1) := by decide +kernel
theorem dX7_figure_14 : decode cX7_figure 14 = .ok (.iload_n 3, 1) := by decide +kernel
theorem dX7_figure_15 : decode cX7_figure 15 = .ok (.i2l, 1) := by decide +kernel
theorem dX7_figure_16 : decode cX7_figure 16 = .ok (.iload 4, 2) := by decide +kernel
theorem dX7_figure_18 : decode cX7_figure 18 = .ok (.i2l, 1) := by decide +kernel
theorem dX7_figure_19 : decode cX7_figure 19 = .ok (.invokestatic 87, 3) := by decide +kernel
theorem dX7_figure_22 : decode cX7_figure 22 = .ok (.istore 6, 2) := by decide +kernel
theorem dX7_figure_24 : decode cX7_figure 24 = .ok (.aload_n 0, 1) := by decide +kernel
theorem dX7_figure_25 : decode cX7_figure 25 = .ok (.dup, 1) := by decide +kernel
theorem dX7_figure_26 : decode cX7_figure 26 = .ok (.getfield 91, 3) := by decide +kernel
theorem dX7_figure_29 : decode cX7_figure 29 = .ok (.iload 6, 2) := by decide +kernel
theorem dX7_figure_31 : decode cX7_figure 31 = .ok (.ifCond .eq 7, 3) := by decide +kernel
theorem dX7_figure_34 : decode cX7_figure 34 = .ok (.iconst 1, 1) := by decide +kernel
theorem dX7_figure_35 : decode cX7_figure 35 = .ok (.goto 4, 3) := by decide +kernel
theorem dX7_figure_38 : decode cX7_figure 38 = .ok (.iconst 0, 1) := by decide +kernel
theorem dX7_figure_39 : decode cX7_figure 39 = .ok (.iadd, 1) := by decide +kernel
theorem dX7_figure_40 : decode cX7_figure 40 = .ok (.putfield 91, 3) := by decide +kernel
theorem dX7_figure_43 : decode cX7_figure 43 = .ok (.iload 6, 2) := by decide +kernel
theorem dX7_figure_45 : decode cX7_figure 45 = .ok (.ifCond .eq 8, 3) := by decide +kernel
theorem dX7_figure_48 : decode cX7_figure 48 = .ok (.iload 5, 2) := by decide +kernel
theorem dX7_figure_50 : decode cX7_figure 50 = .ok (.goto 5, 3) := by decide +kernel
theorem dX7_figure_53 : decode cX7_figure 53 = .ok (.bipush (-9), 2) := by decide +kernel
theorem dX7_figure_55 : decode cX7_figure 55 = .ok (.ireturn, 1) := by decide +kernel
theorem dX7_readsThing_0 : decode cX7_readsThing 0 = .ok (.aload_n 0, 1) := by decide +kernel
theorem dX7_readsThing_1 : decode cX7_readsThing 1 = .ok (.getfield 98, 3) := by decide +kernel
theorem dX7_readsThing_4 : decode cX7_readsThing 4 = .ok (.iconst 5, 1) := by decide +kernel
theorem dX7_readsThing_5 : decode cX7_readsThing 5 = .ok (.if_icmp .eq 14, 3) := by decide +kernel
theorem dX7_readsThing_8 : decode cX7_readsThing 8 = .ok (.aload_n 0, 1) := by decide +kernel
theorem dX7_readsThing_9 : decode cX7_readsThing 9 = .ok (.iload_n 1, 1) := by decide +kernel
theorem dX7_readsThing_10 : decode cX7_readsThing 10 = .ok (.iload_n 2, 1) := by decide +kernel
theorem dX7_readsThing_11 : decode cX7_readsThing 11 = .ok (.invokevirtual 94, 3) := by decide +kernel
theorem dX7_readsThing_14 : decode cX7_readsThing 14 = .ok (.bipush 59, 2) := by decide +kernel
theorem dX7_readsThing_16 : decode cX7_readsThing 16 = .ok (.if_icmp .eq 5, 3) := by decide +kernel
theorem dX7_readsThing_19 : decode cX7_readsThing 19 = .ok (.iconst 0, 1) := by decide +kernel
theorem dX7_readsThing_20 : decode cX7_readsThing 20 = .ok (.ireturn, 1) := by decide +kernel
theorem dX7_readsThing_21 : decode cX7_readsThing 21 = .ok (.aload_n 0, 1) := by decide +kernel
theorem dX7_readsThing_22 : decode cX7_readsThing 22 = .ok (.dup, 1) := by decide +kernel
theorem dX7_readsThing_23 : decode cX7_readsThing 23 = .ok (.getfield 91, 3) := by decide +kernel
theorem dX7_readsThing_26 : decode cX7_readsThing 26 = .ok (.iconst 1, 1) := by decide +kernel
theorem dX7_readsThing_27 : decode cX7_readsThing 27 = .ok (.iadd, 1) := by decide +kernel
theorem dX7_readsThing_28 : decode cX7_readsThing 28 = .ok (.putfield 91, 3) := by decide +kernel
theorem dX7_readsThing_31 : decode cX7_readsThing 31 = .ok (.aload_n 0, 1) := by decide +kernel
theorem dX7_readsThing_32 : decode cX7_readsThing 32 = .ok (.iload_n 1, 1) := by decide +kernel
theorem dX7_readsThing_33 : decode cX7_readsThing 33 = .ok (.iload_n 2, 1) := by decide +kernel
theorem dX7_readsThing_34 : decode cX7_readsThing 34 = .ok (.invokevirtual 94, 3) := by decide +kernel
theorem dX7_readsThing_37 : decode cX7_readsThing 37 = .ok (.istore_n 3, 1) := by decide +kernel
theorem dX7_readsThing_38 : decode cX7_readsThing 38 = .ok (.iload_n 3, 1) := by decide +kernel
theorem dX7_readsThing_39 : decode cX7_readsThing 39 = .ok (.bipush 116, 2) := by decide +kernel
theorem dX7_readsThing_41 : decode cX7_readsThing 41 = .ok (.if_icmp .eq 17, 3) := by decide +kernel
theorem dX7_readsThing_44 : decode cX7_readsThing 44 = .ok (.iload_n 3, 1) := by decide +kernel
theorem dX7_readsThing_45 : decode cX7_readsThing 45 = .ok (.bipush 104, 2) := by decide +kernel
theorem dX7_readsThing_47 : decode cX7_readsThing 47 = .ok (.if_icmp .eq 11, 3) := by decide +kernel
theorem dX7_readsThing_50 : decode cX7_readsThing 50 = .ok (.iload_n 3, 1) := by decide +kernel
theorem dX7_readsThing_51 : decode cX7_readsThing 51 = .ok (.bipush 108, 2) := by decide +kernel
theorem dX7_readsThing_53 : decode cX7_readsThing 53 = .ok (.if_icmp .eq 5, 3) := by decide +kernel
theorem dX7_readsThing_56 : decode cX7_readsThing 56 = .ok (.iconst 0, 1) := by decide +kernel
theorem dX7_readsThing_57 : decode cX7_readsThing 57 = .ok (.ireturn, 1) := by decide +kernel
theorem dX7_readsThing_58 : decode cX7_readsThing 58 = .ok (.aload_n 0, 1) := by decide +kernel
theorem dX7_readsThing_59 : decode cX7_readsThing 59 = .ok (.dup, 1) := by decide +kernel
theorem dX7_readsThing_60 : decode cX7_readsThing 60 = .ok (.getfield 91, 3) := by decide +kernel
theorem dX7_readsThing_63 : decode cX7_readsThing 63 = .ok (.iconst 1, 1) := by decide +kernel
theorem dX7_readsThing_64 : decode cX7_readsThing 64 = .ok (.iadd, 1) := by decide +kernel
theorem dX7_readsThing_65 : decode cX7_readsThing 65 = .ok (.putfield 91, 3) := by decide +kernel
theorem dX7_readsThing_68 : decode cX7_readsThing 68 = .ok (.aload_n 0, 1) := by decide +kernel
theorem dX7_readsThing_69 : decode cX7_readsThing 69 = .ok (.iload_n 1, 1) := by decide +kernel
theorem dX7_readsThing_70 : decode cX7_readsThing 70 = .ok (.iload_n 2, 1) := by decide +kernel
theorem dX7_readsThing_71 : decode cX7_readsThing 71 = .ok (.iconst 0, 1) := by decide +kernel
theorem dX7_readsThing_72 : decode cX7_readsThing 72 = .ok (.iconst 3, 1) := by decide +kernel
theorem dX7_readsThing_73 : decode cX7_readsThing 73 = .ok (.invokevirtual 101, 3) := by decide +kernel
theorem dX7_readsThing_76 : decode cX7_readsThing 76 = .ok (.istore 4, 2) := by decide +kernel
theorem dX7_readsThing_78 : decode cX7_readsThing 78 = .ok (.iload 4, 2) := by decide +kernel
theorem dX7_readsThing_80 : decode cX7_readsThing 80 = .ok (.ifCond .ge 8, 3) := by decide +kernel
theorem dX7_readsThing_83 : decode cX7_readsThing 83 = .ok (.bipush (-9), 2) := by decide +kernel
theorem dX7_readsThing_85 : decode cX7_readsThing 85 = .ok (.goto 12, 3) := by decide +kernel
theorem dX7_readsThing_88 : decode cX7_readsThing 88 = .ok (.aload_n 0, 1) := by decide +kernel
theorem dX7_readsThing_89 : decode cX7_readsThing 89 = .ok (.iload_n 1, 1) := by decide +kernel
theorem dX7_readsThing_90 : decode cX7_readsThing 90 = .ok (.iload_n 2, 1) := by decide +kernel
theorem dX7_readsThing_91 : decode cX7_readsThing 91 = .ok (.iconst 1, 1) := by decide +kernel
theorem dX7_readsThing_92 : decode cX7_readsThing 92 = .ok (.bipush 9, 2) := by decide +kernel
theorem dX7_readsThing_94 : decode cX7_readsThing 94 = .ok (.invokevirtual 101, 3) := by decide +kernel
theorem dX7_readsThing_97 : decode cX7_readsThing 97 = .ok (.istore 5, 2) := by decide +kernel
theorem dX7_readsThing_99 : decode cX7_readsThing 99 = .ok (.iload 5, 2) := by decide +kernel
theorem dX7_readsThing_101 : decode cX7_readsThing 101 = .ok (.ifCond .ge 8, 3) := by decide +kernel
theorem dX7_readsThing_104 : decode cX7_readsThing 104 = .ok (.bipush (-9), 2) := by decide +kernel
theorem dX7_readsThing_106 : decode cX7_readsThing 106 = .ok (.goto 12, 3) := by decide +kernel
theorem dX7_readsThing_109 : decode cX7_readsThing 109 = .ok (.aload_n 0, 1) := by decide +kernel
theorem dX7_readsThing_110 : decode cX7_readsThing 110 = .ok (.iload_n 1, 1) := by decide +kernel
theorem dX7_readsThing_111 : decode cX7_readsThing 111 = .ok (.iload_n 2, 1) := by decide +kernel
theorem dX7_readsThing_112 : decode cX7_readsThing 112 = .ok (.iconst 1, 1) := by decide +kernel
theorem dX7_readsThing_113 : decode cX7_readsThing 113 = .ok (.bipush 6, 2) := by decide +kernel
theorem dX7_readsThing_115 : decode cX7_readsThing 115 = .ok (.invokevirtual 101, 3) := by decide +kernel
theorem dX7_readsThing_118 : decode cX7_readsThing 118 = .ok (.istore 6, 2) := by decide +kernel
theorem dX7_readsThing_120 : decode cX7_readsThing 120 = .ok (.iload 6, 2) := by decide +kernel
theorem dX7_readsThing_122 : decode cX7_readsThing 122 = .ok (.ifCond .ge 8, 3) := by decide +kernel
theorem dX7_readsThing_125 : decode cX7_readsThing 125 = .ok (.bipush (-9), 2) := by decide +kernel
theorem dX7_readsThing_127 : decode cX7_readsThing 127 = .ok (.goto 12, 3) := by decide +kernel
theorem dX7_readsThing_130 : decode cX7_readsThing 130 = .ok (.aload_n 0, 1) := by decide +kernel
theorem dX7_readsThing_131 : decode cX7_readsThing 131 = .ok (.iload_n 1, 1) := by decide +kernel
theorem dX7_readsThing_132 : decode cX7_readsThing 132 = .ok (.iload_n 2, 1) := by decide +kernel
theorem dX7_readsThing_133 : decode cX7_readsThing 133 = .ok (.iconst 0, 1) := by decide +kernel
theorem dX7_readsThing_134 : decode cX7_readsThing 134 = .ok (.bipush 6, 2) := by decide +kernel
theorem dX7_readsThing_136 : decode cX7_readsThing 136 = .ok (.invokevirtual 101, 3) := by decide +kernel
theorem dX7_readsThing_139 : decode cX7_readsThing 139 = .ok (.istore 7, 2) := by decide +kernel
theorem dX7_readsThing_141 : decode cX7_readsThing 141 = .ok (.iload 7, 2) := by decide +kernel
theorem dX7_readsThing_143 : decode cX7_readsThing 143 = .ok (.ifCond .ge 8, 3) := by decide +kernel
theorem dX7_readsThing_146 : decode cX7_readsThing 146 = .ok (.bipush (-9), 2) := by decide +kernel
theorem dX7_readsThing_148 : decode cX7_readsThing 148 = .ok (.goto 23, 3) := by decide +kernel
theorem dX7_readsThing_151 : decode cX7_readsThing 151 = .ok (.aload_n 0, 1) := by decide +kernel
theorem dX7_readsThing_152 : decode cX7_readsThing 152 = .ok (.iload_n 1, 1) := by decide +kernel
theorem dX7_readsThing_153 : decode cX7_readsThing 153 = .ok (.iload_n 2, 1) := by decide +kernel
theorem dX7_readsThing_154 : decode cX7_readsThing 154 = .ok (.iconst 0, 1) := by decide +kernel
theorem dX7_readsThing_155 : decode cX7_readsThing 155 = .ok (.iload 7, 2) := by decide +kernel
theorem dX7_readsThing_157 : decode cX7_readsThing 157 = .ok (.bipush 6, 2) := by decide +kernel
theorem dX7_readsThing_159 : decode cX7_readsThing 159 = .ok (.if_icmp .ne 7, 3) := by decide +kernel
theorem dX7_readsThing_162 : decode cX7_readsThing 162 = .ok (.iconst 3, 1) := by decide +kernel
theorem dX7_readsThing_163 : decode cX7_readsThing 163 = .ok (.goto 5, 3) := by decide +kernel
theorem dX7_readsThing_166 : decode cX7_readsThing 166 = .ok (.bipush 9, 2) := by decide +kernel
theorem dX7_readsThing_168 : decode cX7_readsThing 168 = .ok (.invokevirtual 101, 3) := by decide +kernel
theorem dX7_readsThing_171 : decode cX7_readsThing 171 = .ok (.istore 8, 2) := by decide +kernel
theorem dX7_readsThing_173 : decode cX7_readsThing 173 = .ok (.iload 8, 2) := by decide +kernel
theorem dX7_readsThing_175 : decode cX7_readsThing 175 = .ok (.ifCond .ge 5, 3) := by decide +kernel
theorem dX7_readsThing_178 : decode cX7_readsThing 178 = .ok (.iconst 0, 1) := by decide +kernel
theorem dX7_readsThing_179 : decode cX7_readsThing 179 = .ok (.ireturn, 1) := by decide +kernel
theorem dX7_readsThing_180 : decode cX7_readsThing 180 = .ok (.aload_n 0, 1) := by decide +kernel
theorem dX7_readsThing_181 : decode cX7_readsThing 181 = .ok (.getfield 25, 3) := by decide +kernel
theorem dX7_readsThing_184 : decode cX7_readsThing 184 = .ok (.aload_n 0, 1) := by decide +kernel
theorem dX7_readsThing_185 : decode cX7_readsThing 185 = .ok (.getfield 98, 3) := by decide +kernel
theorem dX7_readsThing_188 : decode cX7_readsThing 188 = .ok (.iload_n 3, 1) := by decide +kernel
theorem dX7_readsThing_189 : decode cX7_readsThing 189 = .ok (.bipush 116, 2) := by decide +kernel
theorem dX7_readsThing_191 : decode cX7_readsThing 191 = .ok (.if_icmp .ne 7, 3) := by decide +kernel
theorem dX7_readsThing_194 : decode cX7_readsThing 194 = .ok (.iconst 0, 1) := by decide +kernel
theorem dX7_readsThing_195 : decode cX7_readsThing 195 = .ok (.goto 14, 3) := by decide +kernel
theorem dX7_readsThing_198 : decode cX7_readsThing 198 = .ok (.iload_n 3, 1) := by decide +kernel
theorem dX7_readsThing_199 : decode cX7_readsThing 199 = .ok (.bipush 104, 2) := by decide +kernel
theorem dX7_readsThing_201 : decode cX7_readsThing 201 = .ok (.if_icmp .ne 7, 3) := by decide +kernel
theorem dX7_readsThing_204 : decode cX7_readsThing 204 = .ok (.iconst 1, 1) := by decide +kernel
theorem dX7_readsThing_205 : decode cX7_readsThing 205 = .ok (.goto 4, 3) := by decide +kernel
theorem dX7_readsThing_208 : decode cX7_readsThing 208 = .ok (.iconst 2, 1) := by decide +kernel
theorem dX7_readsThing_209 : decode cX7_readsThing 209 = .ok (.iastore, 1) := by decide +kernel
theorem dX7_readsThing_210 : decode cX7_readsThing 210 = .ok (.aload_n 0, 1) := by decide +kernel
theorem dX7_readsThing_211 : decode cX7_readsThing 211 = .ok (.getfield 28, 3) := by decide +kernel
theorem dX7_readsThing_214 : decode cX7_readsThing 214 = .ok (.aload_n 0, 1) := by decide +kernel
theorem dX7_readsThing_215 : decode cX7_readsThing 215 = .ok (.getfield 98, 3) := by decide +kernel
theorem dX7_readsThing_218 : decode cX7_readsThing 218 = .ok (.iload 4, 2) := by decide +kernel
theorem dX7_readsThing_220 : decode cX7_readsThing 220 = .ok (.iastore, 1) := by decide +kernel
theorem dX7_readsThing_221 : decode cX7_readsThing 221 = .ok (.aload_n 0, 1) := by decide +kernel
theorem dX7_readsThing_222 : decode cX7_readsThing 222 = .ok (.getfield 31, 3) := by decide +kernel
theorem dX7_readsThing_225 : decode cX7_readsThing 225 = .ok (.aload_n 0, 1) := by decide +kernel
theorem dX7_readsThing_226 : decode cX7_readsThing 226 = .ok (.getfield 98, 3) := by decide +kernel
theorem dX7_readsThing_229 : decode cX7_readsThing 229 = .ok (.iload 5, 2) := by decide +kernel
theorem dX7_readsThing_231 : decode cX7_readsThing 231 = .ok (.iastore, 1) := by decide +kernel
theorem dX7_readsThing_232 : decode cX7_readsThing 232 = .ok (.aload_n 0, 1) := by decide +kernel
theorem dX7_readsThing_233 : decode cX7_readsThing 233 = .ok (.getfield 34, 3) := by decide +kernel
theorem dX7_readsThing_236 : decode cX7_readsThing 236 = .ok (.aload_n 0, 1) := by decide +kernel
theorem dX7_readsThing_237 : decode cX7_readsThing 237 = .ok (.getfield 98, 3) := by decide +kernel
theorem dX7_readsThing_240 : decode cX7_readsThing 240 = .ok (.iload 6, 2) := by decide +kernel
theorem dX7_readsThing_242 : decode cX7_readsThing 242 = .ok (.iastore, 1) := by decide +kernel
theorem dX7_readsThing_243 : decode cX7_readsThing 243 = .ok (.aload_n 0, 1) := by decide +kernel
theorem dX7_readsThing_244 : decode cX7_readsThing 244 = .ok (.getfield 37, 3) := by decide +kernel
theorem dX7_readsThing_247 : decode cX7_readsThing 247 = .ok (.aload_n 0, 1) := by decide +kernel
theorem dX7_readsThing_248 : decode cX7_readsThing 248 = .ok (.getfield 98, 3) := by decide +kernel
theorem dX7_readsThing_251 : decode cX7_readsThing 251 = .ok (.bipush 10, 2) := by decide +kernel
theorem dX7_readsThing_253 : decode cX7_readsThing 253 = .ok (.iload 7, 2) := by decide +kernel
theorem dX7_readsThing_255 : decode cX7_readsThing 255 = .ok (.imul, 1) := by decide +kernel
theorem dX7_readsThing_256 : decode cX7_readsThing 256 = .ok (.iload 8, 2) := by decide +kernel
theorem dX7_readsThing_258 : decode cX7_readsThing 258 = .ok (.iadd, 1) := by decide +kernel
theorem dX7_readsThing_259 : decode cX7_readsThing 259 = .ok (.iastore, 1) := by decide +kernel
theorem dX7_readsThing_260 : decode cX7_readsThing 260 = .ok (.aload_n 0, 1) := by decide +kernel
theorem dX7_readsThing_261 : decode cX7_readsThing 261 = .ok (.dup, 1) := by decide +kernel
theorem dX7_readsThing_262 : decode cX7_readsThing 262 = .ok (.getfield 98, 3) := by decide +kernel
theorem dX7_readsThing_265 : decode cX7_readsThing 265 = .ok (.iconst 1, 1) := by decide +kernel
theorem dX7_readsThing_266 : decode cX7_readsThing 266 = .ok (.iadd, 1) := by decide +kernel
theorem dX7_readsThing_267 : decode cX7_readsThing 267 = .ok (.putfield 98, 3) := by decide +kernel
theorem dX7_readsThing_270 : decode cX7_readsThing 270 = .ok (.iconst 1, 1) := by decide +kernel
theorem dX7_readsThing_271 : decode cX7_readsThing 271 = .ok (.ireturn, 1) := by decide +kernel
theorem dX7_readsMuseum_0 : decode cX7_readsMuseum 0 = .ok (.aload_n 0, 1) := by decide +kernel
theorem dX7_readsMuseum_1 : decode cX7_readsMuseum 1 = .ok (.iconst 0, 1) := by decide +kernel
theorem dX7_readsMuseum_2 : decode cX7_readsMuseum 2 = .ok (.putfield 91, 3) := by decide +kernel
theorem dX7_readsMuseum_5 : decode cX7_readsMuseum 5 = .ok (.aload_n 0, 1) := by decide +kernel
theorem dX7_readsMuseum_6 : decode cX7_readsMuseum 6 = .ok (.iconst 0, 1) := by decide +kernel
theorem dX7_readsMuseum_7 : decode cX7_readsMuseum 7 = .ok (.putfield 98, 3) := by decide +kernel
theorem dX7_readsMuseum_10 : decode cX7_readsMuseum 10 = .ok (.aload_n 0, 1) := by decide +kernel
theorem dX7_readsMuseum_11 : decode cX7_readsMuseum 11 = .ok (.iload_n 1, 1) := by decide +kernel
theorem dX7_readsMuseum_12 : decode cX7_readsMuseum 12 = .ok (.iload_n 2, 1) := by decide +kernel
theorem dX7_readsMuseum_13 : decode cX7_readsMuseum 13 = .ok (.invokevirtual 94, 3) := by decide +kernel
theorem dX7_readsMuseum_16 : decode cX7_readsMuseum 16 = .ok (.bipush 117, 2) := by decide +kernel
theorem dX7_readsMuseum_18 : decode cX7_readsMuseum 18 = .ok (.if_icmp .ne 7, 3) := by decide +kernel
theorem dX7_readsMuseum_21 : decode cX7_readsMuseum 21 = .ok (.iconst 1, 1) := by decide +kernel
theorem dX7_readsMuseum_22 : decode cX7_readsMuseum 22 = .ok (.goto 4, 3) := by decide +kernel
theorem dX7_readsMuseum_25 : decode cX7_readsMuseum 25 = .ok (.iconst 0, 1) := by decide +kernel
theorem dX7_readsMuseum_26 : decode cX7_readsMuseum 26 = .ok (.istore_n 3, 1) := by decide +kernel
theorem dX7_readsMuseum_27 : decode cX7_readsMuseum 27 = .ok (.aload_n 0, 1) := by decide +kernel
theorem dX7_readsMuseum_28 : decode cX7_readsMuseum 28 = .ok (.dup, 1) := by decide +kernel
theorem dX7_readsMuseum_29 : decode cX7_readsMuseum 29 = .ok (.getfield 91, 3) := by decide +kernel
theorem dX7_readsMuseum_32 : decode cX7_readsMuseum 32 = .ok (.iload_n 3, 1) := by decide +kernel
theorem dX7_readsMuseum_33 : decode cX7_readsMuseum 33 = .ok (.ifCond .eq 7, 3) := by decide +kernel
theorem dX7_readsMuseum_36 : decode cX7_readsMuseum 36 = .ok (.iconst 1, 1) := by decide +kernel
theorem dX7_readsMuseum_37 : decode cX7_readsMuseum 37 = .ok (.goto 4, 3) := by decide +kernel
theorem dX7_readsMuseum_40 : decode cX7_readsMuseum 40 = .ok (.iconst 0, 1) := by decide +kernel
theorem dX7_readsMuseum_41 : decode cX7_readsMuseum 41 = .ok (.iadd, 1) := by decide +kernel
theorem dX7_readsMuseum_42 : decode cX7_readsMuseum 42 = .ok (.putfield 91, 3) := by decide +kernel
theorem dX7_readsMuseum_45 : decode cX7_readsMuseum 45 = .ok (.aload_n 0, 1) := by decide +kernel
theorem dX7_readsMuseum_46 : decode cX7_readsMuseum 46 = .ok (.iload_n 3, 1) := by decide +kernel
theorem dX7_readsMuseum_47 : decode cX7_readsMuseum 47 = .ok (.ifCond .eq 15, 3) := by decide +kernel
theorem dX7_readsMuseum_50 : decode cX7_readsMuseum 50 = .ok (.aload_n 0, 1) := by decide +kernel
theorem dX7_readsMuseum_51 : decode cX7_readsMuseum 51 = .ok (.iload_n 1, 1) := by decide +kernel
theorem dX7_readsMuseum_52 : decode cX7_readsMuseum 52 = .ok (.iload_n 2, 1) := by decide +kernel
theorem dX7_readsMuseum_53 : decode cX7_readsMuseum 53 = .ok (.iconst 0, 1) := by decide +kernel
theorem dX7_readsMuseum_54 : decode cX7_readsMuseum 54 = .ok (.bipush 9, 2) := by decide +kernel
theorem dX7_readsMuseum_56 : decode cX7_readsMuseum 56 = .ok (.invokevirtual 101, 3) := by decide +kernel
theorem dX7_readsMuseum_59 : decode cX7_readsMuseum 59 = .ok (.goto 5, 3) := by decide +kernel
theorem dX7_readsMuseum_62 : decode cX7_readsMuseum 62 = .ok (.bipush (-9), 2) := by decide +kernel
theorem dX7_readsMuseum_64 : decode cX7_readsMuseum 64 = .ok (.putfield 105, 3) := by decide +kernel
theorem dX7_readsMuseum_67 : decode cX7_readsMuseum 67 = .ok (.aload_n 0, 1) := by decide +kernel
theorem dX7_readsMuseum_68 : decode cX7_readsMuseum 68 = .ok (.getfield 105, 3) := by decide +kernel
theorem dX7_readsMuseum_71 : decode cX7_readsMuseum 71 = .ok (.ifCond .lt 7, 3) := by decide +kernel
theorem dX7_readsMuseum_74 : decode cX7_readsMuseum 74 = .ok (.iconst 1, 1) := by decide +kernel
theorem dX7_readsMuseum_75 : decode cX7_readsMuseum 75 = .ok (.goto 4, 3) := by decide +kernel
theorem dX7_readsMuseum_78 : decode cX7_readsMuseum 78 = .ok (.iconst 0, 1) := by decide +kernel
theorem dX7_readsMuseum_79 : decode cX7_readsMuseum 79 = .ok (.istore_n 3, 1) := by decide +kernel
theorem dX7_readsMuseum_80 : decode cX7_readsMuseum 80 = .ok (.iload_n 3, 1) := by decide +kernel
theorem dX7_readsMuseum_81 : decode cX7_readsMuseum 81 = .ok (.ifCond .eq 28, 3) := by decide +kernel
theorem dX7_readsMuseum_84 : decode cX7_readsMuseum 84 = .ok (.aload_n 0, 1) := by decide +kernel
theorem dX7_readsMuseum_85 : decode cX7_readsMuseum 85 = .ok (.getfield 98, 3) := by decide +kernel
theorem dX7_readsMuseum_88 : decode cX7_readsMuseum 88 = .ok (.ifCond .eq 11, 3) := by decide +kernel
theorem dX7_readsMuseum_91 : decode cX7_readsMuseum 91 = .ok (.aload_n 0, 1) := by decide +kernel
theorem dX7_readsMuseum_92 : decode cX7_readsMuseum 92 = .ok (.getfield 91, 3) := by decide +kernel
theorem dX7_readsMuseum_95 : decode cX7_readsMuseum 95 = .ok (.iload_n 2, 1) := by decide +kernel
theorem dX7_readsMuseum_96 : decode cX7_readsMuseum 96 = .ok (.if_icmp .ge 13, 3) := by decide +kernel
theorem dX7_readsMuseum_99 : decode cX7_readsMuseum 99 = .ok (.aload_n 0, 1) := by decide +kernel
theorem dX7_readsMuseum_100 : decode cX7_readsMuseum 100 = .ok (.iload_n 1, 1) := by decide +kernel
theorem dX7_readsMuseum_101 : decode cX7_readsMuseum 101 = .ok (.iload_n 2, 1) := by decide +kernel
theorem dX7_readsMuseum_102 : decode cX7_readsMuseum 102 = .ok (.invokevirtual 108, 3) := by decide +kernel
theorem dX7_readsMuseum_105 : decode cX7_readsMuseum 105 = .ok (.istore_n 3, 1) := by decide +kernel
theorem dX7_readsMuseum_106 : decode cX7_readsMuseum 106 = .ok (.goto (-26), 3) := by decide +kernel
theorem dX7_readsMuseum_109 : decode cX7_readsMuseum 109 = .ok (.iload_n 3, 1) := by decide +kernel
theorem dX7_readsMuseum_110 : decode cX7_readsMuseum 110 = .ok (.ireturn, 1) := by decide +kernel
theorem dX7_cellsBarred_0 : decode cX7_cellsBarred 0 = .ok (.aload_n 0, 1) := by decide +kernel
theorem dX7_cellsBarred_1 : decode cX7_cellsBarred 1 = .ok (.getfield 59, 3) := by decide +kernel
theorem dX7_cellsBarred_4 : decode cX7_cellsBarred 4 = .ok (.iload_n 1, 1) := by decide +kernel
theorem dX7_cellsBarred_5 : decode cX7_cellsBarred 5 = .ok (.iaload, 1) := by decide +kernel
theorem dX7_cellsBarred_6 : decode cX7_cellsBarred 6 = .ok (.ifCond .lt 19, 3) := by decide +kernel
theorem dX7_cellsBarred_9 : decode cX7_cellsBarred 9 = .ok (.aload_n 0, 1) := by decide +kernel
theorem dX7_cellsBarred_10 : decode cX7_cellsBarred 10 = .ok (.getfield 62, 3) := by decide +kernel
theorem dX7_cellsBarred_13 : decode cX7_cellsBarred 13 = .ok (.iload_n 1, 1) := by decide +kernel
theorem dX7_cellsBarred_14 : decode cX7_cellsBarred 14 = .ok (.iaload, 1) := by decide +kernel
theorem dX7_cellsBarred_15 : decode cX7_cellsBarred 15 = .ok (.iload_n 2, 1) := by decide +kernel
theorem dX7_cellsBarred_16 : decode cX7_cellsBarred 16 = .ok (.if_icmp .eq 9, 3) := by decide +kernel
theorem dX7_cellsBarred_19 : decode cX7_cellsBarred 19 = .ok (.aload_n 0, 1) := by decide +kernel
theorem dX7_cellsBarred_20 : decode cX7_cellsBarred 20 = .ok (.iconst 2, 1) := by decide +kernel
theorem dX7_cellsBarred_21 : decode cX7_cellsBarred 21 = .ok (.invokevirtual 112, 3) := by decide +kernel
theorem dX7_cellsBarred_24 : decode cX7_cellsBarred 24 = .ok (.ireturn, 1) := by decide +kernel
theorem dX7_cellsBarred_25 : decode cX7_cellsBarred 25 = .ok (.aload_n 0, 1) := by decide +kernel
theorem dX7_cellsBarred_26 : decode cX7_cellsBarred 26 = .ok (.getfield 59, 3) := by decide +kernel
theorem dX7_cellsBarred_29 : decode cX7_cellsBarred 29 = .ok (.iload_n 1, 1) := by decide +kernel
theorem dX7_cellsBarred_30 : decode cX7_cellsBarred 30 = .ok (.iaload, 1) := by decide +kernel
theorem dX7_cellsBarred_31 : decode cX7_cellsBarred 31 = .ok (.ifCond .ge 9, 3) := by decide +kernel
theorem dX7_cellsBarred_34 : decode cX7_cellsBarred 34 = .ok (.aload_n 0, 1) := by decide +kernel
theorem dX7_cellsBarred_35 : decode cX7_cellsBarred 35 = .ok (.iconst 1, 1) := by decide +kernel
theorem dX7_cellsBarred_36 : decode cX7_cellsBarred 36 = .ok (.invokevirtual 112, 3) := by decide +kernel
theorem dX7_cellsBarred_39 : decode cX7_cellsBarred 39 = .ok (.ireturn, 1) := by decide +kernel
theorem dX7_cellsBarred_40 : decode cX7_cellsBarred 40 = .ok (.lload 4, 2) := by decide +kernel
theorem dX7_cellsBarred_42 : decode cX7_cellsBarred 42 = .ok (.lconst 0, 1) := by decide +kernel
theorem dX7_cellsBarred_43 : decode cX7_cellsBarred 43 = .ok (.lcmp, 1) := by decide +kernel
theorem dX7_cellsBarred_44 : decode cX7_cellsBarred 44 = .ok (.ifCond .ge 9, 3) := by decide +kernel
theorem dX7_cellsBarred_47 : decode cX7_cellsBarred 47 = .ok (.aload_n 0, 1) := by decide +kernel
theorem dX7_cellsBarred_48 : decode cX7_cellsBarred 48 = .ok (.iconst 4, 1) := by decide +kernel
theorem dX7_cellsBarred_49 : decode cX7_cellsBarred 49 = .ok (.invokevirtual 112, 3) := by decide +kernel
theorem dX7_cellsBarred_52 : decode cX7_cellsBarred 52 = .ok (.ireturn, 1) := by decide +kernel
theorem dX7_cellsBarred_53 : decode cX7_cellsBarred 53 = .ok (.iload_n 3, 1) := by decide +kernel
theorem dX7_cellsBarred_54 : decode cX7_cellsBarred 54 = .ok (.lload 4, 2) := by decide +kernel
theorem dX7_cellsBarred_56 : decode cX7_cellsBarred 56 = .ok (.aload_n 0, 1) := by decide +kernel
theorem dX7_cellsBarred_57 : decode cX7_cellsBarred 57 = .ok (.getfield 59, 3) := by decide +kernel
theorem dX7_cellsBarred_60 : decode cX7_cellsBarred 60 = .ok (.iload_n 1, 1) := by decide +kernel
theorem dX7_cellsBarred_61 : decode cX7_cellsBarred 61 = .ok (.iaload, 1) := by decide +kernel
theorem dX7_cellsBarred_62 : decode cX7_cellsBarred 62 = .ok (.invokestatic 116, 3) := by decide +kernel
theorem dX7_cellsBarred_65 : decode cX7_cellsBarred 65 = .ok (.ifCond .eq 11, 3) := by decide +kernel
theorem dX7_cellsBarred_68 : decode cX7_cellsBarred 68 = .ok (.aload_n 0, 1) := by decide +kernel
theorem dX7_cellsBarred_69 : decode cX7_cellsBarred 69 = .ok (.iconst 3, 1) := by decide +kernel
theorem dX7_cellsBarred_70 : decode cX7_cellsBarred 70 = .ok (.invokevirtual 112, 3) := by decide +kernel
theorem dX7_cellsBarred_73 : decode cX7_cellsBarred 73 = .ok (.goto 4, 3) := by decide +kernel
theorem dX7_cellsBarred_76 : decode cX7_cellsBarred 76 = .ok (.iconst 0, 1) := by decide +kernel
theorem dX7_cellsBarred_77 : decode cX7_cellsBarred 77 = .ok (.ireturn, 1) := by decide +kernel
theorem dX7_museum_0 : decode cX7_museum 0 = .ok (.iload_n 1, 1) := by decide +kernel
theorem dX7_museum_1 : decode cX7_museum 1 = .ok (.invokestatic 120, 3) := by decide +kernel
theorem dX7_museum_4 : decode cX7_museum 4 = .ok (.ifCond .eq 9, 3) := by decide +kernel
theorem dX7_museum_7 : decode cX7_museum 7 = .ok (.aload_n 0, 1) := by decide +kernel
theorem dX7_museum_8 : decode cX7_museum 8 = .ok (.iconst (-1), 1) := by decide +kernel
theorem dX7_museum_9 : decode cX7_museum 9 = .ok (.invokevirtual 124, 3) := by decide +kernel
theorem dX7_museum_12 : decode cX7_museum 12 = .ok (.ireturn, 1) := by decide +kernel
theorem dX7_museum_13 : decode cX7_museum 13 = .ok (.iload_n 2, 1) := by decide +kernel
theorem dX7_museum_14 : decode cX7_museum 14 = .ok (.i2l, 1) := by decide +kernel
theorem dX7_museum_15 : decode cX7_museum 15 = .ok (.lconst 0, 1) := by decide +kernel
theorem dX7_museum_16 : decode cX7_museum 16 = .ok (.ldc2_w 127, 3) := by decide +kernel
theorem dX7_museum_19 : decode cX7_museum 19 = .ok (.invokestatic 87, 3) := by decide +kernel
theorem dX7_museum_22 : decode cX7_museum 22 = .ok (.ifCond .ne 10, 3) := by decide +kernel
theorem dX7_museum_25 : decode cX7_museum 25 = .ok (.aload_n 0, 1) := by decide +kernel
theorem dX7_museum_26 : decode cX7_museum 26 = .ok (.bipush (-2), 2) := by decide +kernel
theorem dX7_museum_28 : decode cX7_museum 28 = .ok (.invokevirtual 124, 3) := by decide +kernel
theorem dX7_museum_31 : decode cX7_museum 31 = .ok (.ireturn, 1) := by decide +kernel
theorem dX7_museum_32 : decode cX7_museum 32 = .ok (.aload_n 0, 1) := by decide +kernel
theorem dX7_museum_33 : decode cX7_museum 33 = .ok (.iload_n 1, 1) := by decide +kernel
theorem dX7_museum_34 : decode cX7_museum 34 = .ok (.iload_n 2, 1) := by decide +kernel
theorem dX7_museum_35 : decode cX7_museum 35 = .ok (.iload_n 3, 1) := by decide +kernel
theorem dX7_museum_36 : decode cX7_museum 36 = .ok (.iload 4, 2) := by decide +kernel
theorem dX7_museum_38 : decode cX7_museum 38 = .ok (.i2l, 1) := by decide +kernel
theorem dX7_museum_39 : decode cX7_museum 39 = .ok (.invokevirtual 129, 3) := by decide +kernel
theorem dX7_museum_42 : decode cX7_museum 42 = .ok (.istore 5, 2) := by decide +kernel
theorem dX7_museum_44 : decode cX7_museum 44 = .ok (.iload 5, 2) := by decide +kernel
theorem dX7_museum_46 : decode cX7_museum 46 = .ok (.ifCond .ge 6, 3) := by decide +kernel
theorem dX7_museum_49 : decode cX7_museum 49 = .ok (.iload 5, 2) := by decide +kernel
theorem dX7_museum_51 : decode cX7_museum 51 = .ok (.ireturn, 1) := by decide +kernel
theorem dX7_museum_52 : decode cX7_museum 52 = .ok (.aload_n 0, 1) := by decide +kernel
theorem dX7_museum_53 : decode cX7_museum 53 = .ok (.bipush 60, 2) := by decide +kernel
theorem dX7_museum_55 : decode cX7_museum 55 = .ok (.iload_n 1, 1) := by decide +kernel
theorem dX7_museum_56 : decode cX7_museum 56 = .ok (.imul, 1) := by decide +kernel
theorem dX7_museum_57 : decode cX7_museum 57 = .ok (.iload_n 3, 1) := by decide +kernel
theorem dX7_museum_58 : decode cX7_museum 58 = .ok (.iadd, 1) := by decide +kernel
theorem dX7_museum_59 : decode cX7_museum 59 = .ok (.iload 4, 2) := by decide +kernel
theorem dX7_museum_61 : decode cX7_museum 61 = .ok (.invokevirtual 133, 3) := by decide +kernel
theorem dX7_museum_64 : decode cX7_museum 64 = .ok (.ifCond .ne 15, 3) := by decide +kernel
theorem dX7_museum_67 : decode cX7_museum 67 = .ok (.aload_n 0, 1) := by decide +kernel
theorem dX7_museum_68 : decode cX7_museum 68 = .ok (.bipush (-100), 2) := by decide +kernel
theorem dX7_museum_70 : decode cX7_museum 70 = .ok (.aload_n 0, 1) := by decide +kernel
theorem dX7_museum_71 : decode cX7_museum 71 = .ok (.getfield 91, 3) := by decide +kernel
theorem dX7_museum_74 : decode cX7_museum 74 = .ok (.isub, 1) := by decide +kernel
theorem dX7_museum_75 : decode cX7_museum 75 = .ok (.invokevirtual 124, 3) := by decide +kernel
end
section
theorem dX7_museum_78 : decode cX7_museum 78 = .ok (.ireturn, 1) := by decide +kernel
theorem dX7_museum_79 : decode cX7_museum 79 = .ok (.aload_n 0, 1) := by decide +kernel
theorem dX7_museum_80 : decode cX7_museum 80 = .ok (.aload_n 0, 1) := by decide +kernel
theorem dX7_museum_81 : decode cX7_museum 81 = .ok (.getfield 105, 3) := by decide +kernel
theorem dX7_museum_84 : decode cX7_museum 84 = .ok (.putfield 136, 3) := by decide +kernel
theorem dX7_museum_87 : decode cX7_museum 87 = .ok (.aload_n 0, 1) := by decide +kernel
theorem dX7_museum_88 : decode cX7_museum 88 = .ok (.iconst 3, 1) := by decide +kernel
theorem dX7_museum_89 : decode cX7_museum 89 = .ok (.putfield 139, 3) := by decide +kernel
theorem dX7_museum_92 : decode cX7_museum 92 = .ok (.aload_n 0, 1) := by decide +kernel
theorem dX7_museum_93 : decode cX7_museum 93 = .ok (.aload_n 0, 1) := by decide +kernel
theorem dX7_museum_94 : decode cX7_museum 94 = .ok (.getfield 98, 3) := by decide +kernel
theorem dX7_museum_97 : decode cX7_museum 97 = .ok (.putfield 84, 3) := by decide +kernel
theorem dX7_museum_100 : decode cX7_museum 100 = .ok (.iconst 0, 1) := by decide +kernel
theorem dX7_museum_101 : decode cX7_museum 101 = .ok (.istore 6, 2) := by decide +kernel
theorem dX7_museum_103 : decode cX7_museum 103 = .ok (.iload 6, 2) := by decide +kernel
theorem dX7_museum_105 : decode cX7_museum 105 = .ok (.aload_n 0, 1) := by decide +kernel
theorem dX7_museum_106 : decode cX7_museum 106 = .ok (.getfield 84, 3) := by decide +kernel
theorem dX7_museum_109 : decode cX7_museum 109 = .ok (.if_icmp .ge 79, 3) := by decide +kernel
theorem dX7_museum_112 : decode cX7_museum 112 = .ok (.aload_n 0, 1) := by decide +kernel
theorem dX7_museum_113 : decode cX7_museum 113 = .ok (.getfield 7, 3) := by decide +kernel
theorem dX7_museum_116 : decode cX7_museum 116 = .ok (.iload 6, 2) := by decide +kernel
theorem dX7_museum_118 : decode cX7_museum 118 = .ok (.aload_n 0, 1) := by decide +kernel
theorem dX7_museum_119 : decode cX7_museum 119 = .ok (.getfield 25, 3) := by decide +kernel
theorem dX7_museum_122 : decode cX7_museum 122 = .ok (.iload 6, 2) := by decide +kernel
theorem dX7_museum_124 : decode cX7_museum 124 = .ok (.iaload, 1) := by decide +kernel
theorem dX7_museum_125 : decode cX7_museum 125 = .ok (.iastore, 1) := by decide +kernel
theorem dX7_museum_126 : decode cX7_museum 126 = .ok (.aload_n 0, 1) := by decide +kernel
theorem dX7_museum_127 : decode cX7_museum 127 = .ok (.getfield 13, 3) := by decide +kernel
theorem dX7_museum_130 : decode cX7_museum 130 = .ok (.iload 6, 2) := by decide +kernel
theorem dX7_museum_132 : decode cX7_museum 132 = .ok (.aload_n 0, 1) := by decide +kernel
theorem dX7_museum_133 : decode cX7_museum 133 = .ok (.getfield 28, 3) := by decide +kernel
theorem dX7_museum_136 : decode cX7_museum 136 = .ok (.iload 6, 2) := by decide +kernel
theorem dX7_museum_138 : decode cX7_museum 138 = .ok (.iaload, 1) := by decide +kernel
theorem dX7_museum_139 : decode cX7_museum 139 = .ok (.iastore, 1) := by decide +kernel
theorem dX7_museum_140 : decode cX7_museum 140 = .ok (.aload_n 0, 1) := by decide +kernel
theorem dX7_museum_141 : decode cX7_museum 141 = .ok (.getfield 16, 3) := by decide +kernel
theorem dX7_museum_144 : decode cX7_museum 144 = .ok (.iload 6, 2) := by decide +kernel
theorem dX7_museum_146 : decode cX7_museum 146 = .ok (.aload_n 0, 1) := by decide +kernel
theorem dX7_museum_147 : decode cX7_museum 147 = .ok (.getfield 31, 3) := by decide +kernel
theorem dX7_museum_150 : decode cX7_museum 150 = .ok (.iload 6, 2) := by decide +kernel
theorem dX7_museum_152 : decode cX7_museum 152 = .ok (.iaload, 1) := by decide +kernel
theorem dX7_museum_153 : decode cX7_museum 153 = .ok (.iastore, 1) := by decide +kernel
theorem dX7_museum_154 : decode cX7_museum 154 = .ok (.aload_n 0, 1) := by decide +kernel
theorem dX7_museum_155 : decode cX7_museum 155 = .ok (.getfield 19, 3) := by decide +kernel
theorem dX7_museum_158 : decode cX7_museum 158 = .ok (.iload 6, 2) := by decide +kernel
theorem dX7_museum_160 : decode cX7_museum 160 = .ok (.aload_n 0, 1) := by decide +kernel
theorem dX7_museum_161 : decode cX7_museum 161 = .ok (.getfield 34, 3) := by decide +kernel
theorem dX7_museum_164 : decode cX7_museum 164 = .ok (.iload 6, 2) := by decide +kernel
theorem dX7_museum_166 : decode cX7_museum 166 = .ok (.iaload, 1) := by decide +kernel
theorem dX7_museum_167 : decode cX7_museum 167 = .ok (.iastore, 1) := by decide +kernel
theorem dX7_museum_168 : decode cX7_museum 168 = .ok (.aload_n 0, 1) := by decide +kernel
theorem dX7_museum_169 : decode cX7_museum 169 = .ok (.getfield 22, 3) := by decide +kernel
theorem dX7_museum_172 : decode cX7_museum 172 = .ok (.iload 6, 2) := by decide +kernel
theorem dX7_museum_174 : decode cX7_museum 174 = .ok (.aload_n 0, 1) := by decide +kernel
theorem dX7_museum_175 : decode cX7_museum 175 = .ok (.getfield 37, 3) := by decide +kernel
theorem dX7_museum_178 : decode cX7_museum 178 = .ok (.iload 6, 2) := by decide +kernel
theorem dX7_museum_180 : decode cX7_museum 180 = .ok (.iaload, 1) := by decide +kernel
theorem dX7_museum_181 : decode cX7_museum 181 = .ok (.iastore, 1) := by decide +kernel
theorem dX7_museum_182 : decode cX7_museum 182 = .ok (.iinc 6 1, 3) := by decide +kernel
theorem dX7_museum_185 : decode cX7_museum 185 = .ok (.goto (-82), 3) := by decide +kernel
theorem dX7_museum_188 : decode cX7_museum 188 = .ok (.aload_n 0, 1) := by decide +kernel
theorem dX7_museum_189 : decode cX7_museum 189 = .ok (.iconst 0, 1) := by decide +kernel
theorem dX7_museum_190 : decode cX7_museum 190 = .ok (.putfield 142, 3) := by decide +kernel
theorem dX7_museum_193 : decode cX7_museum 193 = .ok (.aload_n 0, 1) := by decide +kernel
theorem dX7_museum_194 : decode cX7_museum 194 = .ok (.aload_n 0, 1) := by decide +kernel
theorem dX7_museum_195 : decode cX7_museum 195 = .ok (.getfield 84, 3) := by decide +kernel
theorem dX7_museum_198 : decode cX7_museum 198 = .ok (.invokevirtual 124, 3) := by decide +kernel
theorem dX7_museum_201 : decode cX7_museum 201 = .ok (.ireturn, 1) := by decide +kernel
theorem dX7_valueOf_0 : decode cX7_valueOf 0 = .ok (.aload_n 0, 1) := by decide +kernel
theorem dX7_valueOf_1 : decode cX7_valueOf 1 = .ok (.getfield 16, 3) := by decide +kernel
theorem dX7_valueOf_4 : decode cX7_valueOf 4 = .ok (.iload_n 1, 1) := by decide +kernel
theorem dX7_valueOf_5 : decode cX7_valueOf 5 = .ok (.iaload, 1) := by decide +kernel
theorem dX7_valueOf_6 : decode cX7_valueOf 6 = .ok (.istore_n 2, 1) := by decide +kernel
theorem dX7_valueOf_7 : decode cX7_valueOf 7 = .ok (.aload_n 0, 1) := by decide +kernel
theorem dX7_valueOf_8 : decode cX7_valueOf 8 = .ok (.getfield 7, 3) := by decide +kernel
theorem dX7_valueOf_11 : decode cX7_valueOf 11 = .ok (.iload_n 1, 1) := by decide +kernel
theorem dX7_valueOf_12 : decode cX7_valueOf 12 = .ok (.iaload, 1) := by decide +kernel
theorem dX7_valueOf_13 : decode cX7_valueOf 13 = .ok (.ifCond .ne 7, 3) := by decide +kernel
theorem dX7_valueOf_16 : decode cX7_valueOf 16 = .ok (.iload_n 2, 1) := by decide +kernel
theorem dX7_valueOf_17 : decode cX7_valueOf 17 = .ok (.goto 24, 3) := by decide +kernel
theorem dX7_valueOf_20 : decode cX7_valueOf 20 = .ok (.aload_n 0, 1) := by decide +kernel
theorem dX7_valueOf_21 : decode cX7_valueOf 21 = .ok (.getfield 7, 3) := by decide +kernel
theorem dX7_valueOf_24 : decode cX7_valueOf 24 = .ok (.iload_n 1, 1) := by decide +kernel
theorem dX7_valueOf_25 : decode cX7_valueOf 25 = .ok (.iaload, 1) := by decide +kernel
theorem dX7_valueOf_26 : decode cX7_valueOf 26 = .ok (.iconst 1, 1) := by decide +kernel
theorem dX7_valueOf_27 : decode cX7_valueOf 27 = .ok (.if_icmp .ne 9, 3) := by decide +kernel
theorem dX7_valueOf_30 : decode cX7_valueOf 30 = .ok (.iload_n 2, 1) := by decide +kernel
theorem dX7_valueOf_31 : decode cX7_valueOf 31 = .ok (.iconst 1, 1) := by decide +kernel
theorem dX7_valueOf_32 : decode cX7_valueOf 32 = .ok (.iadd, 1) := by decide +kernel
theorem dX7_valueOf_33 : decode cX7_valueOf 33 = .ok (.goto 8, 3) := by decide +kernel
theorem dX7_valueOf_36 : decode cX7_valueOf 36 = .ok (.iconst 2, 1) := by decide +kernel
theorem dX7_valueOf_37 : decode cX7_valueOf 37 = .ok (.iload_n 2, 1) := by decide +kernel
theorem dX7_valueOf_38 : decode cX7_valueOf 38 = .ok (.iconst 1, 1) := by decide +kernel
theorem dX7_valueOf_39 : decode cX7_valueOf 39 = .ok (.iadd, 1) := by decide +kernel
theorem dX7_valueOf_40 : decode cX7_valueOf 40 = .ok (.imul, 1) := by decide +kernel
theorem dX7_valueOf_41 : decode cX7_valueOf 41 = .ok (.ireturn, 1) := by decide +kernel
theorem dX7_ofThing_0 : decode cX7_ofThing 0 = .ok (.aload_n 0, 1) := by decide +kernel
theorem dX7_ofThing_1 : decode cX7_ofThing 1 = .ok (.iload_n 1, 1) := by decide +kernel
theorem dX7_ofThing_2 : decode cX7_ofThing 2 = .ok (.invokevirtual 145, 3) := by decide +kernel
theorem dX7_ofThing_5 : decode cX7_ofThing 5 = .ok (.ifCond .eq 5, 3) := by decide +kernel
theorem dX7_ofThing_8 : decode cX7_ofThing 8 = .ok (.iconst (-1), 1) := by decide +kernel
theorem dX7_ofThing_9 : decode cX7_ofThing 9 = .ok (.ireturn, 1) := by decide +kernel
theorem dX7_ofThing_10 : decode cX7_ofThing 10 = .ok (.iload_n 2, 1) := by decide +kernel
theorem dX7_ofThing_11 : decode cX7_ofThing 11 = .ok (.tableswitch 78 0 5 #[37, 44, 51, 58, 65, 72], 37) := by decide +kernel
theorem dX7_ofThing_48 : decode cX7_ofThing 48 = .ok (.aload_n 0, 1) := by decide +kernel
theorem dX7_ofThing_49 : decode cX7_ofThing 49 = .ok (.getfield 7, 3) := by decide +kernel
theorem dX7_ofThing_52 : decode cX7_ofThing 52 = .ok (.iload_n 1, 1) := by decide +kernel
theorem dX7_ofThing_53 : decode cX7_ofThing 53 = .ok (.iaload, 1) := by decide +kernel
theorem dX7_ofThing_54 : decode cX7_ofThing 54 = .ok (.ireturn, 1) := by decide +kernel
theorem dX7_ofThing_55 : decode cX7_ofThing 55 = .ok (.aload_n 0, 1) := by decide +kernel
theorem dX7_ofThing_56 : decode cX7_ofThing 56 = .ok (.getfield 13, 3) := by decide +kernel
theorem dX7_ofThing_59 : decode cX7_ofThing 59 = .ok (.iload_n 1, 1) := by decide +kernel
theorem dX7_ofThing_60 : decode cX7_ofThing 60 = .ok (.iaload, 1) := by decide +kernel
theorem dX7_ofThing_61 : decode cX7_ofThing 61 = .ok (.ireturn, 1) := by decide +kernel
theorem dX7_ofThing_62 : decode cX7_ofThing 62 = .ok (.aload_n 0, 1) := by decide +kernel
theorem dX7_ofThing_63 : decode cX7_ofThing 63 = .ok (.getfield 16, 3) := by decide +kernel
theorem dX7_ofThing_66 : decode cX7_ofThing 66 = .ok (.iload_n 1, 1) := by decide +kernel
theorem dX7_ofThing_67 : decode cX7_ofThing 67 = .ok (.iaload, 1) := by decide +kernel
theorem dX7_ofThing_68 : decode cX7_ofThing 68 = .ok (.ireturn, 1) := by decide +kernel
theorem dX7_ofThing_69 : decode cX7_ofThing 69 = .ok (.aload_n 0, 1) := by decide +kernel
theorem dX7_ofThing_70 : decode cX7_ofThing 70 = .ok (.getfield 19, 3) := by decide +kernel
theorem dX7_ofThing_73 : decode cX7_ofThing 73 = .ok (.iload_n 1, 1) := by decide +kernel
theorem dX7_ofThing_74 : decode cX7_ofThing 74 = .ok (.iaload, 1) := by decide +kernel
theorem dX7_ofThing_75 : decode cX7_ofThing 75 = .ok (.ireturn, 1) := by decide +kernel
theorem dX7_ofThing_76 : decode cX7_ofThing 76 = .ok (.aload_n 0, 1) := by decide +kernel
theorem dX7_ofThing_77 : decode cX7_ofThing 77 = .ok (.getfield 22, 3) := by decide +kernel
theorem dX7_ofThing_80 : decode cX7_ofThing 80 = .ok (.iload_n 1, 1) := by decide +kernel
theorem dX7_ofThing_81 : decode cX7_ofThing 81 = .ok (.iaload, 1) := by decide +kernel
theorem dX7_ofThing_82 : decode cX7_ofThing 82 = .ok (.ireturn, 1) := by decide +kernel
theorem dX7_ofThing_83 : decode cX7_ofThing 83 = .ok (.aload_n 0, 1) := by decide +kernel
theorem dX7_ofThing_84 : decode cX7_ofThing 84 = .ok (.iload_n 1, 1) := by decide +kernel
theorem dX7_ofThing_85 : decode cX7_ofThing 85 = .ok (.invokevirtual 148, 3) := by decide +kernel
theorem dX7_ofThing_88 : decode cX7_ofThing 88 = .ok (.ireturn, 1) := by decide +kernel
theorem dX7_ofThing_89 : decode cX7_ofThing 89 = .ok (.bipush (-2), 2) := by decide +kernel
theorem dX7_ofThing_91 : decode cX7_ofThing 91 = .ok (.ireturn, 1) := by decide +kernel
theorem dX7_penalty_0 : decode cX7_penalty 0 = .ok (.iload_n 1, 1) := by decide +kernel
theorem dX7_penalty_1 : decode cX7_penalty 1 = .ok (.i2l, 1) := by decide +kernel
theorem dX7_penalty_2 : decode cX7_penalty 2 = .ok (.lconst 0, 1) := by decide +kernel
theorem dX7_penalty_3 : decode cX7_penalty 3 = .ok (.ldc2_w 151, 3) := by decide +kernel
theorem dX7_penalty_6 : decode cX7_penalty 6 = .ok (.invokestatic 87, 3) := by decide +kernel
theorem dX7_penalty_9 : decode cX7_penalty 9 = .ok (.ifCond .ne 6, 3) := by decide +kernel
theorem dX7_penalty_12 : decode cX7_penalty 12 = .ok (.bipush (-2), 2) := by decide +kernel
theorem dX7_penalty_14 : decode cX7_penalty 14 = .ok (.ireturn, 1) := by decide +kernel
theorem dX7_penalty_15 : decode cX7_penalty 15 = .ok (.aload_n 0, 1) := by decide +kernel
theorem dX7_penalty_16 : decode cX7_penalty 16 = .ok (.getfield 84, 3) := by decide +kernel
theorem dX7_penalty_19 : decode cX7_penalty 19 = .ok (.ifCond .ne 6, 3) := by decide +kernel
theorem dX7_penalty_22 : decode cX7_penalty 22 = .ok (.bipush (-3), 2) := by decide +kernel
theorem dX7_penalty_24 : decode cX7_penalty 24 = .ok (.ireturn, 1) := by decide +kernel
theorem dX7_penalty_25 : decode cX7_penalty 25 = .ok (.aload_n 0, 1) := by decide +kernel
theorem dX7_penalty_26 : decode cX7_penalty 26 = .ok (.getfield 136, 3) := by decide +kernel
theorem dX7_penalty_29 : decode cX7_penalty 29 = .ok (.istore_n 2, 1) := by decide +kernel
theorem dX7_penalty_30 : decode cX7_penalty 30 = .ok (.aload_n 0, 1) := by decide +kernel
theorem dX7_penalty_31 : decode cX7_penalty 31 = .ok (.iload_n 1, 1) := by decide +kernel
theorem dX7_penalty_32 : decode cX7_penalty 32 = .ok (.putfield 136, 3) := by decide +kernel
theorem dX7_penalty_35 : decode cX7_penalty 35 = .ok (.iload_n 2, 1) := by decide +kernel
theorem dX7_penalty_36 : decode cX7_penalty 36 = .ok (.ireturn, 1) := by decide +kernel
theorem dX7_law_0 : decode cX7_law 0 = .ok (.iload_n 1, 1) := by decide +kernel
theorem dX7_law_1 : decode cX7_law 1 = .ok (.i2l, 1) := by decide +kernel
theorem dX7_law_2 : decode cX7_law 2 = .ok (.lconst 0, 1) := by decide +kernel
theorem dX7_law_3 : decode cX7_law 3 = .ok (.ldc2_w 153, 3) := by decide +kernel
theorem dX7_law_6 : decode cX7_law 6 = .ok (.invokestatic 87, 3) := by decide +kernel
theorem dX7_law_9 : decode cX7_law 9 = .ok (.ifCond .ne 6, 3) := by decide +kernel
theorem dX7_law_12 : decode cX7_law 12 = .ok (.bipush (-2), 2) := by decide +kernel
theorem dX7_law_14 : decode cX7_law 14 = .ok (.ireturn, 1) := by decide +kernel
theorem dX7_law_15 : decode cX7_law 15 = .ok (.aload_n 0, 1) := by decide +kernel
theorem dX7_law_16 : decode cX7_law 16 = .ok (.getfield 84, 3) := by decide +kernel
theorem dX7_law_19 : decode cX7_law 19 = .ok (.ifCond .ne 6, 3) := by decide +kernel
theorem dX7_law_22 : decode cX7_law 22 = .ok (.bipush (-3), 2) := by decide +kernel
theorem dX7_law_24 : decode cX7_law 24 = .ok (.ireturn, 1) := by decide +kernel
theorem dX7_law_25 : decode cX7_law 25 = .ok (.aload_n 0, 1) := by decide +kernel
theorem dX7_law_26 : decode cX7_law 26 = .ok (.getfield 139, 3) := by decide +kernel
theorem dX7_law_29 : decode cX7_law 29 = .ok (.istore_n 2, 1) := by decide +kernel
theorem dX7_law_30 : decode cX7_law 30 = .ok (.aload_n 0, 1) := by decide +kernel
theorem dX7_law_31 : decode cX7_law 31 = .ok (.iload_n 1, 1) := by decide +kernel
theorem dX7_law_32 : decode cX7_law 32 = .ok (.putfield 139, 3) := by decide +kernel
theorem dX7_law_35 : decode cX7_law 35 = .ok (.iload_n 2, 1) := by decide +kernel
theorem dX7_law_36 : decode cX7_law 36 = .ok (.ireturn, 1) := by decide +kernel
theorem dX7_use_0 : decode cX7_use 0 = .ok (.aload_n 0, 1) := by decide +kernel
theorem dX7_use_1 : decode cX7_use 1 = .ok (.iload_n 1, 1) := by decide +kernel
theorem dX7_use_2 : decode cX7_use 2 = .ok (.invokevirtual 145, 3) := by decide +kernel
theorem dX7_use_5 : decode cX7_use 5 = .ok (.ifCond .eq 5, 3) := by decide +kernel
theorem dX7_use_8 : decode cX7_use 8 = .ok (.iconst (-1), 1) := by decide +kernel
theorem dX7_use_9 : decode cX7_use 9 = .ok (.ireturn, 1) := by decide +kernel
theorem dX7_use_10 : decode cX7_use 10 = .ok (.iload_n 2, 1) := by decide +kernel
theorem dX7_use_11 : decode cX7_use 11 = .ok (.i2l, 1) := by decide +kernel
theorem dX7_use_12 : decode cX7_use 12 = .ok (.lconst 0, 1) := by decide +kernel
theorem dX7_use_13 : decode cX7_use 13 = .ok (.ldc2_w 155, 3) := by decide +kernel
theorem dX7_use_16 : decode cX7_use 16 = .ok (.invokestatic 87, 3) := by decide +kernel
theorem dX7_use_19 : decode cX7_use 19 = .ok (.ifCond .ne 6, 3) := by decide +kernel
theorem dX7_use_22 : decode cX7_use 22 = .ok (.bipush (-2), 2) := by decide +kernel
theorem dX7_use_24 : decode cX7_use 24 = .ok (.ireturn, 1) := by decide +kernel
theorem dX7_use_25 : decode cX7_use 25 = .ok (.aload_n 0, 1) := by decide +kernel
theorem dX7_use_26 : decode cX7_use 26 = .ok (.getfield 22, 3) := by decide +kernel
theorem dX7_use_29 : decode cX7_use 29 = .ok (.iload_n 1, 1) := by decide +kernel
theorem dX7_use_30 : decode cX7_use 30 = .ok (.iaload, 1) := by decide +kernel
theorem dX7_use_31 : decode cX7_use 31 = .ok (.istore_n 3, 1) := by decide +kernel
theorem dX7_use_32 : decode cX7_use 32 = .ok (.aload_n 0, 1) := by decide +kernel
theorem dX7_use_33 : decode cX7_use 33 = .ok (.getfield 22, 3) := by decide +kernel
theorem dX7_use_36 : decode cX7_use 36 = .ok (.iload_n 1, 1) := by decide +kernel
theorem dX7_use_37 : decode cX7_use 37 = .ok (.iload_n 2, 1) := by decide +kernel
theorem dX7_use_38 : decode cX7_use 38 = .ok (.iastore, 1) := by decide +kernel
theorem dX7_use_39 : decode cX7_use 39 = .ok (.iload_n 3, 1) := by decide +kernel
theorem dX7_use_40 : decode cX7_use 40 = .ok (.ireturn, 1) := by decide +kernel
theorem dX7_casesOf_0 : decode cX7_casesOf 0 = .ok (.iconst 0, 1) := by decide +kernel
theorem dX7_casesOf_1 : decode cX7_casesOf 1 = .ok (.istore_n 2, 1) := by decide +kernel
theorem dX7_casesOf_2 : decode cX7_casesOf 2 = .ok (.iconst 0, 1) := by decide +kernel
theorem dX7_casesOf_3 : decode cX7_casesOf 3 = .ok (.istore_n 3, 1) := by decide +kernel
theorem dX7_casesOf_4 : decode cX7_casesOf 4 = .ok (.iload_n 3, 1) := by decide +kernel
theorem dX7_casesOf_5 : decode cX7_casesOf 5 = .ok (.aload_n 0, 1) := by decide +kernel
theorem dX7_casesOf_6 : decode cX7_casesOf 6 = .ok (.getfield 84, 3) := by decide +kernel
theorem dX7_casesOf_9 : decode cX7_casesOf 9 = .ok (.if_icmp .ge 29, 3) := by decide +kernel
theorem dX7_casesOf_12 : decode cX7_casesOf 12 = .ok (.iload_n 2, 1) := by decide +kernel
theorem dX7_casesOf_13 : decode cX7_casesOf 13 = .ok (.aload_n 0, 1) := by decide +kernel
theorem dX7_casesOf_14 : decode cX7_casesOf 14 = .ok (.getfield 46, 3) := by decide +kernel
theorem dX7_casesOf_17 : decode cX7_casesOf 17 = .ok (.iload_n 3, 1) := by decide +kernel
theorem dX7_casesOf_18 : decode cX7_casesOf 18 = .ok (.iaload, 1) := by decide +kernel
theorem dX7_casesOf_19 : decode cX7_casesOf 19 = .ok (.iload_n 1, 1) := by decide +kernel
theorem dX7_casesOf_20 : decode cX7_casesOf 20 = .ok (.if_icmp .lt 9, 3) := by decide +kernel
theorem dX7_casesOf_23 : decode cX7_casesOf 23 = .ok (.iconst 1, 1) := by decide +kernel
theorem dX7_casesOf_24 : decode cX7_casesOf 24 = .ok (.iload_n 3, 1) := by decide +kernel
theorem dX7_casesOf_25 : decode cX7_casesOf 25 = .ok (.ishl, 1) := by decide +kernel
theorem dX7_casesOf_26 : decode cX7_casesOf 26 = .ok (.goto 4, 3) := by decide +kernel
theorem dX7_casesOf_29 : decode cX7_casesOf 29 = .ok (.iconst 0, 1) := by decide +kernel
theorem dX7_casesOf_30 : decode cX7_casesOf 30 = .ok (.ior, 1) := by decide +kernel
theorem dX7_casesOf_31 : decode cX7_casesOf 31 = .ok (.istore_n 2, 1) := by decide +kernel
theorem dX7_casesOf_32 : decode cX7_casesOf 32 = .ok (.iinc 3 1, 3) := by decide +kernel
theorem dX7_casesOf_35 : decode cX7_casesOf 35 = .ok (.goto (-31), 3) := by decide +kernel
theorem dX7_casesOf_38 : decode cX7_casesOf 38 = .ok (.iload_n 2, 1) := by decide +kernel
theorem dX7_casesOf_39 : decode cX7_casesOf 39 = .ok (.ireturn, 1) := by decide +kernel
theorem dX7_takingOf_0 : decode cX7_takingOf 0 = .ok (.iconst 1, 1) := by decide +kernel
theorem dX7_takingOf_1 : decode cX7_takingOf 1 = .ok (.istore_n 3, 1) := by decide +kernel
theorem dX7_takingOf_2 : decode cX7_takingOf 2 = .ok (.iconst 0, 1) := by decide +kernel
theorem dX7_takingOf_3 : decode cX7_takingOf 3 = .ok (.istore 4, 2) := by decide +kernel
theorem dX7_takingOf_5 : decode cX7_takingOf 5 = .ok (.iload 4, 2) := by decide +kernel
theorem dX7_takingOf_7 : decode cX7_takingOf 7 = .ok (.aload_n 0, 1) := by decide +kernel
theorem dX7_takingOf_8 : decode cX7_takingOf 8 = .ok (.getfield 84, 3) := by decide +kernel
theorem dX7_takingOf_11 : decode cX7_takingOf 11 = .ok (.if_icmp .ge 55, 3) := by decide +kernel
theorem dX7_takingOf_14 : decode cX7_takingOf 14 = .ok (.iload_n 3, 1) := by decide +kernel
theorem dX7_takingOf_15 : decode cX7_takingOf 15 = .ok (.ifCond .eq 43, 3) := by decide +kernel
theorem dX7_takingOf_18 : decode cX7_takingOf 18 = .ok (.iload 4, 2) := by decide +kernel
theorem dX7_takingOf_20 : decode cX7_takingOf 20 = .ok (.iload_n 1, 1) := by decide +kernel
theorem dX7_takingOf_21 : decode cX7_takingOf 21 = .ok (.if_icmp .eq 33, 3) := by decide +kernel
theorem dX7_takingOf_24 : decode cX7_takingOf 24 = .ok (.aload_n 0, 1) := by decide +kernel
theorem dX7_takingOf_25 : decode cX7_takingOf 25 = .ok (.getfield 13, 3) := by decide +kernel
theorem dX7_takingOf_28 : decode cX7_takingOf 28 = .ok (.iload 4, 2) := by decide +kernel
theorem dX7_takingOf_30 : decode cX7_takingOf 30 = .ok (.iaload, 1) := by decide +kernel
theorem dX7_takingOf_31 : decode cX7_takingOf 31 = .ok (.aload_n 0, 1) := by decide +kernel
theorem dX7_takingOf_32 : decode cX7_takingOf 32 = .ok (.getfield 13, 3) := by decide +kernel
theorem dX7_takingOf_35 : decode cX7_takingOf 35 = .ok (.iload_n 1, 1) := by decide +kernel
theorem dX7_takingOf_36 : decode cX7_takingOf 36 = .ok (.iaload, 1) := by decide +kernel
theorem dX7_takingOf_37 : decode cX7_takingOf 37 = .ok (.if_icmp .ne 17, 3) := by decide +kernel
theorem dX7_takingOf_40 : decode cX7_takingOf 40 = .ok (.aload_n 0, 1) := by decide +kernel
theorem dX7_takingOf_41 : decode cX7_takingOf 41 = .ok (.getfield 43, 3) := by decide +kernel
theorem dX7_takingOf_44 : decode cX7_takingOf 44 = .ok (.iload_n 2, 1) := by decide +kernel
theorem dX7_takingOf_45 : decode cX7_takingOf 45 = .ok (.iaload, 1) := by decide +kernel
theorem dX7_takingOf_46 : decode cX7_takingOf 46 = .ok (.iload 4, 2) := by decide +kernel
theorem dX7_takingOf_48 : decode cX7_takingOf 48 = .ok (.invokestatic 157, 3) := by decide +kernel
theorem dX7_takingOf_51 : decode cX7_takingOf 51 = .ok (.ifCond .eq 7, 3) := by decide +kernel
theorem dX7_takingOf_54 : decode cX7_takingOf 54 = .ok (.iconst 1, 1) := by decide +kernel
theorem dX7_takingOf_55 : decode cX7_takingOf 55 = .ok (.goto 4, 3) := by decide +kernel
theorem dX7_takingOf_58 : decode cX7_takingOf 58 = .ok (.iconst 0, 1) := by decide +kernel
theorem dX7_takingOf_59 : decode cX7_takingOf 59 = .ok (.istore_n 3, 1) := by decide +kernel
theorem dX7_takingOf_60 : decode cX7_takingOf 60 = .ok (.iinc 4 1, 3) := by decide +kernel
theorem dX7_takingOf_63 : decode cX7_takingOf 63 = .ok (.goto (-58), 3) := by decide +kernel
theorem dX7_takingOf_66 : decode cX7_takingOf 66 = .ok (.aload_n 0, 1) := by decide +kernel
theorem dX7_takingOf_67 : decode cX7_takingOf 67 = .ok (.iload_n 1, 1) := by decide +kernel
theorem dX7_takingOf_68 : decode cX7_takingOf 68 = .ok (.invokevirtual 148, 3) := by decide +kernel
theorem dX7_takingOf_71 : decode cX7_takingOf 71 = .ok (.aload_n 0, 1) := by decide +kernel
theorem dX7_takingOf_72 : decode cX7_takingOf 72 = .ok (.getfield 139, 3) := by decide +kernel
theorem dX7_takingOf_75 : decode cX7_takingOf 75 = .ok (.iconst 0, 1) := by decide +kernel
theorem dX7_takingOf_76 : decode cX7_takingOf 76 = .ok (.invokestatic 157, 3) := by decide +kernel
theorem dX7_takingOf_79 : decode cX7_takingOf 79 = .ok (.ifCond .eq 20, 3) := by decide +kernel
theorem dX7_takingOf_82 : decode cX7_takingOf 82 = .ok (.aload_n 0, 1) := by decide +kernel
theorem dX7_takingOf_83 : decode cX7_takingOf 83 = .ok (.getfield 22, 3) := by decide +kernel
theorem dX7_takingOf_86 : decode cX7_takingOf 86 = .ok (.iload_n 1, 1) := by decide +kernel
theorem dX7_takingOf_87 : decode cX7_takingOf 87 = .ok (.iaload, 1) := by decide +kernel
theorem dX7_takingOf_88 : decode cX7_takingOf 88 = .ok (.iload_n 2, 1) := by decide +kernel
theorem dX7_takingOf_89 : decode cX7_takingOf 89 = .ok (.invokestatic 157, 3) := by decide +kernel
theorem dX7_takingOf_92 : decode cX7_takingOf 92 = .ok (.ifCond .eq 7, 3) := by decide +kernel
theorem dX7_takingOf_95 : decode cX7_takingOf 95 = .ok (.iconst 2, 1) := by decide +kernel
theorem dX7_takingOf_96 : decode cX7_takingOf 96 = .ok (.goto 4, 3) := by decide +kernel
theorem dX7_takingOf_99 : decode cX7_takingOf 99 = .ok (.iconst 1, 1) := by decide +kernel
theorem dX7_takingOf_100 : decode cX7_takingOf 100 = .ok (.imul, 1) := by decide +kernel
theorem dX7_takingOf_101 : decode cX7_takingOf 101 = .ok (.istore 4, 2) := by decide +kernel
theorem dX7_takingOf_103 : decode cX7_takingOf 103 = .ok (.iload 4, 2) := by decide +kernel
theorem dX7_takingOf_105 : decode cX7_takingOf 105 = .ok (.aload_n 0, 1) := by decide +kernel
theorem dX7_takingOf_106 : decode cX7_takingOf 106 = .ok (.getfield 139, 3) := by decide +kernel
theorem dX7_takingOf_109 : decode cX7_takingOf 109 = .ok (.iconst 1, 1) := by decide +kernel
theorem dX7_takingOf_110 : decode cX7_takingOf 110 = .ok (.invokestatic 157, 3) := by decide +kernel
theorem dX7_takingOf_113 : decode cX7_takingOf 113 = .ok (.ifCond .eq 11, 3) := by decide +kernel
theorem dX7_takingOf_116 : decode cX7_takingOf 116 = .ok (.iload_n 3, 1) := by decide +kernel
theorem dX7_takingOf_117 : decode cX7_takingOf 117 = .ok (.ifCond .eq 7, 3) := by decide +kernel
theorem dX7_takingOf_120 : decode cX7_takingOf 120 = .ok (.iconst 5, 1) := by decide +kernel
theorem dX7_takingOf_121 : decode cX7_takingOf 121 = .ok (.goto 4, 3) := by decide +kernel
theorem dX7_takingOf_124 : decode cX7_takingOf 124 = .ok (.iconst 0, 1) := by decide +kernel
theorem dX7_takingOf_125 : decode cX7_takingOf 125 = .ok (.iadd, 1) := by decide +kernel
theorem dX7_takingOf_126 : decode cX7_takingOf 126 = .ok (.ireturn, 1) := by decide +kernel
theorem dX7_missedIn_0 : decode cX7_missedIn 0 = .ok (.iconst 0, 1) := by decide +kernel
theorem dX7_missedIn_1 : decode cX7_missedIn 1 = .ok (.istore_n 2, 1) := by decide +kernel
theorem dX7_missedIn_2 : decode cX7_missedIn 2 = .ok (.iconst 0, 1) := by decide +kernel
theorem dX7_missedIn_3 : decode cX7_missedIn 3 = .ok (.istore_n 3, 1) := by decide +kernel
theorem dX7_missedIn_4 : decode cX7_missedIn 4 = .ok (.iload_n 3, 1) := by decide +kernel
theorem dX7_missedIn_5 : decode cX7_missedIn 5 = .ok (.aload_n 0, 1) := by decide +kernel
theorem dX7_missedIn_6 : decode cX7_missedIn 6 = .ok (.getfield 84, 3) := by decide +kernel
theorem dX7_missedIn_9 : decode cX7_missedIn 9 = .ok (.if_icmp .ge 43, 3) := by decide +kernel
theorem dX7_missedIn_12 : decode cX7_missedIn 12 = .ok (.iload_n 2, 1) := by decide +kernel
theorem dX7_missedIn_13 : decode cX7_missedIn 13 = .ok (.aload_n 0, 1) := by decide +kernel
theorem dX7_missedIn_14 : decode cX7_missedIn 14 = .ok (.getfield 43, 3) := by decide +kernel
theorem dX7_missedIn_17 : decode cX7_missedIn 17 = .ok (.iload_n 1, 1) := by decide +kernel
theorem dX7_missedIn_18 : decode cX7_missedIn 18 = .ok (.iaload, 1) := by decide +kernel
theorem dX7_missedIn_19 : decode cX7_missedIn 19 = .ok (.iload_n 3, 1) := by decide +kernel
theorem dX7_missedIn_20 : decode cX7_missedIn 20 = .ok (.invokestatic 157, 3) := by decide +kernel
theorem dX7_missedIn_23 : decode cX7_missedIn 23 = .ok (.ifCond .eq 20, 3) := by decide +kernel
theorem dX7_missedIn_26 : decode cX7_missedIn 26 = .ok (.aload_n 0, 1) := by decide +kernel
theorem dX7_missedIn_27 : decode cX7_missedIn 27 = .ok (.getfield 22, 3) := by decide +kernel
theorem dX7_missedIn_30 : decode cX7_missedIn 30 = .ok (.iload_n 3, 1) := by decide +kernel
theorem dX7_missedIn_31 : decode cX7_missedIn 31 = .ok (.iaload, 1) := by decide +kernel
theorem dX7_missedIn_32 : decode cX7_missedIn 32 = .ok (.iload_n 1, 1) := by decide +kernel
theorem dX7_missedIn_33 : decode cX7_missedIn 33 = .ok (.invokestatic 157, 3) := by decide +kernel
theorem dX7_missedIn_36 : decode cX7_missedIn 36 = .ok (.ifCond .eq 7, 3) := by decide +kernel
theorem dX7_missedIn_39 : decode cX7_missedIn 39 = .ok (.iconst 1, 1) := by decide +kernel
theorem dX7_missedIn_40 : decode cX7_missedIn 40 = .ok (.goto 4, 3) := by decide +kernel
theorem dX7_missedIn_43 : decode cX7_missedIn 43 = .ok (.iconst 0, 1) := by decide +kernel
theorem dX7_missedIn_44 : decode cX7_missedIn 44 = .ok (.iadd, 1) := by decide +kernel
theorem dX7_missedIn_45 : decode cX7_missedIn 45 = .ok (.istore_n 2, 1) := by decide +kernel
theorem dX7_missedIn_46 : decode cX7_missedIn 46 = .ok (.iinc 3 1, 3) := by decide +kernel
theorem dX7_missedIn_49 : decode cX7_missedIn 49 = .ok (.goto (-45), 3) := by decide +kernel
theorem dX7_missedIn_52 : decode cX7_missedIn 52 = .ok (.iload_n 2, 1) := by decide +kernel
theorem dX7_missedIn_53 : decode cX7_missedIn 53 = .ok (.ireturn, 1) := by decide +kernel
theorem dX7_goRound_0 : decode cX7_goRound 0 = .ok (.iconst 0, 1) := by decide +kernel
theorem dX7_goRound_1 : decode cX7_goRound 1 = .ok (.istore_n 1, 1) := by decide +kernel
theorem dX7_goRound_2 : decode cX7_goRound 2 = .ok (.iload_n 1, 1) := by decide +kernel
theorem dX7_goRound_3 : decode cX7_goRound 3 = .ok (.iconst 5, 1) := by decide +kernel
theorem dX7_goRound_4 : decode cX7_goRound 4 = .ok (.if_icmp .ge 16, 3) := by decide +kernel
theorem dX7_goRound_7 : decode cX7_goRound 7 = .ok (.aload_n 0, 1) := by decide +kernel
theorem dX7_goRound_8 : decode cX7_goRound 8 = .ok (.getfield 46, 3) := by decide +kernel
theorem dX7_goRound_11 : decode cX7_goRound 11 = .ok (.iload_n 1, 1) := by decide +kernel
theorem dX7_goRound_12 : decode cX7_goRound 12 = .ok (.iconst (-1), 1) := by decide +kernel
theorem dX7_goRound_13 : decode cX7_goRound 13 = .ok (.iastore, 1) := by decide +kernel
theorem dX7_goRound_14 : decode cX7_goRound 14 = .ok (.iinc 1 1, 3) := by decide +kernel
theorem dX7_goRound_17 : decode cX7_goRound 17 = .ok (.goto (-15), 3) := by decide +kernel
theorem dX7_goRound_20 : decode cX7_goRound 20 = .ok (.aload_n 0, 1) := by decide +kernel
theorem dX7_goRound_21 : decode cX7_goRound 21 = .ok (.bipush (-9), 2) := by decide +kernel
theorem dX7_goRound_23 : decode cX7_goRound 23 = .ok (.putfield 160, 3) := by decide +kernel
theorem dX7_goRound_26 : decode cX7_goRound 26 = .ok (.aload_n 0, 1) := by decide +kernel
theorem dX7_goRound_27 : decode cX7_goRound 27 = .ok (.iconst 0, 1) := by decide +kernel
theorem dX7_goRound_28 : decode cX7_goRound 28 = .ok (.putfield 163, 3) := by decide +kernel
theorem dX7_goRound_31 : decode cX7_goRound 31 = .ok (.aload_n 0, 1) := by decide +kernel
theorem dX7_goRound_32 : decode cX7_goRound 32 = .ok (.iconst 0, 1) := by decide +kernel
theorem dX7_goRound_33 : decode cX7_goRound 33 = .ok (.putfield 166, 3) := by decide +kernel
theorem dX7_goRound_36 : decode cX7_goRound 36 = .ok (.iconst 0, 1) := by decide +kernel
theorem dX7_goRound_37 : decode cX7_goRound 37 = .ok (.istore_n 1, 1) := by decide +kernel
theorem dX7_goRound_38 : decode cX7_goRound 38 = .ok (.iload_n 1, 1) := by decide +kernel
theorem dX7_goRound_39 : decode cX7_goRound 39 = .ok (.bipush 6, 2) := by decide +kernel
theorem dX7_goRound_41 : decode cX7_goRound 41 = .ok (.if_icmp .ge 141, 3) := by decide +kernel
theorem dX7_goRound_44 : decode cX7_goRound 44 = .ok (.aload_n 0, 1) := by decide +kernel
theorem dX7_goRound_45 : decode cX7_goRound 45 = .ok (.getfield 160, 3) := by decide +kernel
theorem dX7_goRound_48 : decode cX7_goRound 48 = .ok (.ifCond .ge 134, 3) := by decide +kernel
theorem dX7_goRound_51 : decode cX7_goRound 51 = .ok (.aload_n 0, 1) := by decide +kernel
theorem dX7_goRound_52 : decode cX7_goRound 52 = .ok (.getfield 40, 3) := by decide +kernel
theorem dX7_goRound_55 : decode cX7_goRound 55 = .ok (.iload_n 1, 1) := by decide +kernel
theorem dX7_goRound_56 : decode cX7_goRound 56 = .ok (.iaload, 1) := by decide +kernel
theorem dX7_goRound_57 : decode cX7_goRound 57 = .ok (.istore_n 2, 1) := by decide +kernel
theorem dX7_goRound_58 : decode cX7_goRound 58 = .ok (.iload_n 2, 1) := by decide +kernel
theorem dX7_goRound_59 : decode cX7_goRound 59 = .ok (.ifCond .lt 25, 3) := by decide +kernel
theorem dX7_goRound_62 : decode cX7_goRound 62 = .ok (.aload_n 0, 1) := by decide +kernel
theorem dX7_goRound_63 : decode cX7_goRound 63 = .ok (.getfield 46, 3) := by decide +kernel
theorem dX7_goRound_66 : decode cX7_goRound 66 = .ok (.iload_n 2, 1) := by decide +kernel
theorem dX7_goRound_67 : decode cX7_goRound 67 = .ok (.iaload, 1) := by decide +kernel
theorem dX7_goRound_68 : decode cX7_goRound 68 = .ok (.iload_n 1, 1) := by decide +kernel
theorem dX7_goRound_69 : decode cX7_goRound 69 = .ok (.if_icmp .ge 11, 3) := by decide +kernel
theorem dX7_goRound_72 : decode cX7_goRound 72 = .ok (.iload_n 2, 1) := by decide +kernel
theorem dX7_goRound_73 : decode cX7_goRound 73 = .ok (.aload_n 0, 1) := by decide +kernel
theorem dX7_goRound_74 : decode cX7_goRound 74 = .ok (.getfield 71, 3) := by decide +kernel
theorem dX7_goRound_77 : decode cX7_goRound 77 = .ok (.if_icmp .ne 7, 3) := by decide +kernel
theorem dX7_goRound_80 : decode cX7_goRound 80 = .ok (.iconst 1, 1) := by decide +kernel
theorem dX7_goRound_81 : decode cX7_goRound 81 = .ok (.goto 4, 3) := by decide +kernel
theorem dX7_goRound_84 : decode cX7_goRound 84 = .ok (.iconst 0, 1) := by decide +kernel
theorem dX7_goRound_85 : decode cX7_goRound 85 = .ok (.istore_n 3, 1) := by decide +kernel
theorem dX7_goRound_86 : decode cX7_goRound 86 = .ok (.aload_n 0, 1) := by decide +kernel
theorem dX7_goRound_87 : decode cX7_goRound 87 = .ok (.iload_n 3, 1) := by decide +kernel
theorem dX7_goRound_88 : decode cX7_goRound 88 = .ok (.ifCond .eq 7, 3) := by decide +kernel
theorem dX7_goRound_91 : decode cX7_goRound 91 = .ok (.iload_n 1, 1) := by decide +kernel
theorem dX7_goRound_92 : decode cX7_goRound 92 = .ok (.goto 5, 3) := by decide +kernel
theorem dX7_goRound_95 : decode cX7_goRound 95 = .ok (.bipush (-9), 2) := by decide +kernel
theorem dX7_goRound_97 : decode cX7_goRound 97 = .ok (.putfield 160, 3) := by decide +kernel
theorem dX7_goRound_100 : decode cX7_goRound 100 = .ok (.iload_n 2, 1) := by decide +kernel
theorem dX7_goRound_101 : decode cX7_goRound 101 = .ok (.ifCond .lt 23, 3) := by decide +kernel
theorem dX7_goRound_104 : decode cX7_goRound 104 = .ok (.iload_n 3, 1) := by decide +kernel
theorem dX7_goRound_105 : decode cX7_goRound 105 = .ok (.ifCond .ne 19, 3) := by decide +kernel
theorem dX7_goRound_108 : decode cX7_goRound 108 = .ok (.aload_n 0, 1) := by decide +kernel
theorem dX7_goRound_109 : decode cX7_goRound 109 = .ok (.getfield 46, 3) := by decide +kernel
theorem dX7_goRound_112 : decode cX7_goRound 112 = .ok (.iload_n 2, 1) := by decide +kernel
theorem dX7_goRound_113 : decode cX7_goRound 113 = .ok (.iload_n 1, 1) := by decide +kernel
theorem dX7_goRound_114 : decode cX7_goRound 114 = .ok (.aload_n 0, 1) := by decide +kernel
theorem dX7_goRound_115 : decode cX7_goRound 115 = .ok (.getfield 19, 3) := by decide +kernel
theorem dX7_goRound_118 : decode cX7_goRound 118 = .ok (.iload_n 2, 1) := by decide +kernel
theorem dX7_goRound_119 : decode cX7_goRound 119 = .ok (.iaload, 1) := by decide +kernel
theorem dX7_goRound_120 : decode cX7_goRound 120 = .ok (.iadd, 1) := by decide +kernel
theorem dX7_goRound_121 : decode cX7_goRound 121 = .ok (.iconst 1, 1) := by decide +kernel
theorem dX7_goRound_122 : decode cX7_goRound 122 = .ok (.isub, 1) := by decide +kernel
theorem dX7_goRound_123 : decode cX7_goRound 123 = .ok (.iastore, 1) := by decide +kernel
theorem dX7_goRound_124 : decode cX7_goRound 124 = .ok (.aload_n 0, 1) := by decide +kernel
theorem dX7_goRound_125 : decode cX7_goRound 125 = .ok (.getfield 43, 3) := by decide +kernel
theorem dX7_goRound_128 : decode cX7_goRound 128 = .ok (.iload_n 1, 1) := by decide +kernel
theorem dX7_goRound_129 : decode cX7_goRound 129 = .ok (.aload_n 0, 1) := by decide +kernel
theorem dX7_goRound_130 : decode cX7_goRound 130 = .ok (.iload_n 1, 1) := by decide +kernel
theorem dX7_goRound_131 : decode cX7_goRound 131 = .ok (.invokevirtual 169, 3) := by decide +kernel
theorem dX7_goRound_134 : decode cX7_goRound 134 = .ok (.iastore, 1) := by decide +kernel
theorem dX7_goRound_135 : decode cX7_goRound 135 = .ok (.aload_n 0, 1) := by decide +kernel
theorem dX7_goRound_136 : decode cX7_goRound 136 = .ok (.dup, 1) := by decide +kernel
theorem dX7_goRound_137 : decode cX7_goRound 137 = .ok (.getfield 163, 3) := by decide +kernel
theorem dX7_goRound_140 : decode cX7_goRound 140 = .ok (.iload_n 2, 1) := by decide +kernel
theorem dX7_goRound_141 : decode cX7_goRound 141 = .ok (.ifCond .lt 16, 3) := by decide +kernel
theorem dX7_goRound_144 : decode cX7_goRound 144 = .ok (.iload_n 3, 1) := by decide +kernel
theorem dX7_goRound_145 : decode cX7_goRound 145 = .ok (.ifCond .ne 12, 3) := by decide +kernel
theorem dX7_goRound_148 : decode cX7_goRound 148 = .ok (.aload_n 0, 1) := by decide +kernel
theorem dX7_goRound_149 : decode cX7_goRound 149 = .ok (.iload_n 2, 1) := by decide +kernel
theorem dX7_goRound_150 : decode cX7_goRound 150 = .ok (.iload_n 1, 1) := by decide +kernel
theorem dX7_goRound_151 : decode cX7_goRound 151 = .ok (.invokevirtual 172, 3) := by decide +kernel
theorem dX7_goRound_154 : decode cX7_goRound 154 = .ok (.goto 4, 3) := by decide +kernel
theorem dX7_goRound_157 : decode cX7_goRound 157 = .ok (.iconst 0, 1) := by decide +kernel
theorem dX7_goRound_158 : decode cX7_goRound 158 = .ok (.iadd, 1) := by decide +kernel
theorem dX7_goRound_159 : decode cX7_goRound 159 = .ok (.putfield 163, 3) := by decide +kernel
theorem dX7_goRound_162 : decode cX7_goRound 162 = .ok (.aload_n 0, 1) := by decide +kernel
theorem dX7_goRound_163 : decode cX7_goRound 163 = .ok (.dup, 1) := by decide +kernel
theorem dX7_goRound_164 : decode cX7_goRound 164 = .ok (.getfield 166, 3) := by decide +kernel
theorem dX7_goRound_167 : decode cX7_goRound 167 = .ok (.aload_n 0, 1) := by decide +kernel
theorem dX7_goRound_168 : decode cX7_goRound 168 = .ok (.iload_n 1, 1) := by decide +kernel
theorem dX7_goRound_169 : decode cX7_goRound 169 = .ok (.invokevirtual 175, 3) := by decide +kernel
theorem dX7_goRound_172 : decode cX7_goRound 172 = .ok (.iadd, 1) := by decide +kernel
theorem dX7_goRound_173 : decode cX7_goRound 173 = .ok (.putfield 166, 3) := by decide +kernel
theorem dX7_goRound_176 : decode cX7_goRound 176 = .ok (.iinc 1 1, 3) := by decide +kernel
theorem dX7_goRound_179 : decode cX7_goRound 179 = .ok (.goto (-141), 3) := by decide +kernel
theorem dX7_goRound_182 : decode cX7_goRound 182 = .ok (.aload_n 0, 1) := by decide +kernel
theorem dX7_goRound_183 : decode cX7_goRound 183 = .ok (.getfield 160, 3) := by decide +kernel
theorem dX7_goRound_186 : decode cX7_goRound 186 = .ok (.ifCond .ge 7, 3) := by decide +kernel
theorem dX7_goRound_189 : decode cX7_goRound 189 = .ok (.iconst 1, 1) := by decide +kernel
theorem dX7_goRound_190 : decode cX7_goRound 190 = .ok (.goto 4, 3) := by decide +kernel
theorem dX7_goRound_193 : decode cX7_goRound 193 = .ok (.iconst 0, 1) := by decide +kernel
theorem dX7_goRound_194 : decode cX7_goRound 194 = .ok (.ireturn, 1) := by decide +kernel
theorem dX7_leftNow_0 : decode cX7_leftNow 0 = .ok (.aload_n 0, 1) := by decide +kernel
theorem dX7_leftNow_1 : decode cX7_leftNow 1 = .ok (.getfield 163, 3) := by decide +kernel
theorem dX7_leftNow_4 : decode cX7_leftNow 4 = .ok (.aload_n 0, 1) := by decide +kernel
theorem dX7_leftNow_5 : decode cX7_leftNow 5 = .ok (.getfield 136, 3) := by decide +kernel
theorem dX7_leftNow_8 : decode cX7_leftNow 8 = .ok (.aload_n 0, 1) := by decide +kernel
theorem dX7_leftNow_9 : decode cX7_leftNow 9 = .ok (.getfield 166, 3) := by decide +kernel
theorem dX7_leftNow_12 : decode cX7_leftNow 12 = .ok (.imul, 1) := by decide +kernel
theorem dX7_leftNow_13 : decode cX7_leftNow 13 = .ok (.isub, 1) := by decide +kernel
theorem dX7_leftNow_14 : decode cX7_leftNow 14 = .ok (.ireturn, 1) := by decide +kernel
theorem dX7_roundBarred_0 : decode cX7_roundBarred 0 = .ok (.aload_n 0, 1) := by decide +kernel
theorem dX7_roundBarred_1 : decode cX7_roundBarred 1 = .ok (.iload_n 1, 1) := by decide +kernel
theorem dX7_roundBarred_2 : decode cX7_roundBarred 2 = .ok (.iload_n 2, 1) := by decide +kernel
theorem dX7_roundBarred_3 : decode cX7_roundBarred 3 = .ok (.iload_n 3, 1) := by decide +kernel
theorem dX7_roundBarred_4 : decode cX7_roundBarred 4 = .ok (.ldc2_w 178, 3) := by decide +kernel
theorem dX7_roundBarred_7 : decode cX7_roundBarred 7 = .ok (.invokevirtual 129, 3) := by decide +kernel
theorem dX7_roundBarred_10 : decode cX7_roundBarred 10 = .ok (.istore 4, 2) := by decide +kernel
theorem dX7_roundBarred_12 : decode cX7_roundBarred 12 = .ok (.iload 4, 2) := by decide +kernel
theorem dX7_roundBarred_14 : decode cX7_roundBarred 14 = .ok (.ifCond .ge 6, 3) := by decide +kernel
theorem dX7_roundBarred_17 : decode cX7_roundBarred 17 = .ok (.iload 4, 2) := by decide +kernel
theorem dX7_roundBarred_19 : decode cX7_roundBarred 19 = .ok (.ireturn, 1) := by decide +kernel
theorem dX7_roundBarred_20 : decode cX7_roundBarred 20 = .ok (.iconst 0, 1) := by decide +kernel
theorem dX7_roundBarred_21 : decode cX7_roundBarred 21 = .ok (.istore 5, 2) := by decide +kernel
theorem dX7_roundBarred_23 : decode cX7_roundBarred 23 = .ok (.iload 5, 2) := by decide +kernel
theorem dX7_roundBarred_25 : decode cX7_roundBarred 25 = .ok (.bipush 6, 2) := by decide +kernel
theorem dX7_roundBarred_27 : decode cX7_roundBarred 27 = .ok (.if_icmp .ge 62, 3) := by decide +kernel
theorem dX7_roundBarred_30 : decode cX7_roundBarred 30 = .ok (.aload_n 0, 1) := by decide +kernel
theorem dX7_roundBarred_31 : decode cX7_roundBarred 31 = .ok (.getfield 40, 3) := by decide +kernel
theorem dX7_roundBarred_34 : decode cX7_roundBarred 34 = .ok (.iload 5, 2) := by decide +kernel
theorem dX7_roundBarred_36 : decode cX7_roundBarred 36 = .ok (.aload_n 0, 1) := by decide +kernel
theorem dX7_roundBarred_37 : decode cX7_roundBarred 37 = .ok (.getfield 65, 3) := by decide +kernel
theorem dX7_roundBarred_40 : decode cX7_roundBarred 40 = .ok (.bipush 60, 2) := by decide +kernel
theorem dX7_roundBarred_42 : decode cX7_roundBarred 42 = .ok (.iload_n 1, 1) := by decide +kernel
theorem dX7_roundBarred_43 : decode cX7_roundBarred 43 = .ok (.imul, 1) := by decide +kernel
theorem dX7_roundBarred_44 : decode cX7_roundBarred 44 = .ok (.iload_n 3, 1) := by decide +kernel
theorem dX7_roundBarred_45 : decode cX7_roundBarred 45 = .ok (.iadd, 1) := by decide +kernel
theorem dX7_roundBarred_46 : decode cX7_roundBarred 46 = .ok (.iload 5, 2) := by decide +kernel
theorem dX7_roundBarred_48 : decode cX7_roundBarred 48 = .ok (.iadd, 1) := by decide +kernel
theorem dX7_roundBarred_49 : decode cX7_roundBarred 49 = .ok (.iaload, 1) := by decide +kernel
theorem dX7_roundBarred_50 : decode cX7_roundBarred 50 = .ok (.iastore, 1) := by decide +kernel
theorem dX7_roundBarred_51 : decode cX7_roundBarred 51 = .ok (.aload_n 0, 1) := by decide +kernel
theorem dX7_roundBarred_52 : decode cX7_roundBarred 52 = .ok (.getfield 40, 3) := by decide +kernel
theorem dX7_roundBarred_55 : decode cX7_roundBarred 55 = .ok (.iload 5, 2) := by decide +kernel
theorem dX7_roundBarred_57 : decode cX7_roundBarred 57 = .ok (.iaload, 1) := by decide +kernel
theorem dX7_roundBarred_58 : decode cX7_roundBarred 58 = .ok (.bipush (-9), 2) := by decide +kernel
theorem dX7_roundBarred_60 : decode cX7_roundBarred 60 = .ok (.if_icmp .eq 23, 3) := by decide +kernel
theorem dX7_roundBarred_63 : decode cX7_roundBarred 63 = .ok (.aload_n 0, 1) := by decide +kernel
theorem dX7_roundBarred_64 : decode cX7_roundBarred 64 = .ok (.aload_n 0, 1) := by decide +kernel
theorem dX7_roundBarred_65 : decode cX7_roundBarred 65 = .ok (.getfield 40, 3) := by decide +kernel
theorem dX7_roundBarred_68 : decode cX7_roundBarred 68 = .ok (.iload 5, 2) := by decide +kernel
theorem dX7_roundBarred_70 : decode cX7_roundBarred 70 = .ok (.iaload, 1) := by decide +kernel
theorem dX7_roundBarred_71 : decode cX7_roundBarred 71 = .ok (.invokevirtual 145, 3) := by decide +kernel
theorem dX7_roundBarred_74 : decode cX7_roundBarred 74 = .ok (.ifCond .eq 9, 3) := by decide +kernel
theorem dX7_roundBarred_77 : decode cX7_roundBarred 77 = .ok (.aload_n 0, 1) := by decide +kernel
theorem dX7_roundBarred_78 : decode cX7_roundBarred 78 = .ok (.iconst (-1), 1) := by decide +kernel
theorem dX7_roundBarred_79 : decode cX7_roundBarred 79 = .ok (.invokevirtual 124, 3) := by decide +kernel
theorem dX7_roundBarred_82 : decode cX7_roundBarred 82 = .ok (.ireturn, 1) := by decide +kernel
theorem dX7_roundBarred_83 : decode cX7_roundBarred 83 = .ok (.iinc 5 1, 3) := by decide +kernel
theorem dX7_roundBarred_86 : decode cX7_roundBarred 86 = .ok (.goto (-63), 3) := by decide +kernel
theorem dX7_roundBarred_89 : decode cX7_roundBarred 89 = .ok (.aload_n 0, 1) := by decide +kernel
theorem dX7_roundBarred_90 : decode cX7_roundBarred 90 = .ok (.iconst 0, 1) := by decide +kernel
theorem dX7_roundBarred_91 : decode cX7_roundBarred 91 = .ok (.invokevirtual 124, 3) := by decide +kernel
theorem dX7_roundBarred_94 : decode cX7_roundBarred 94 = .ok (.ireturn, 1) := by decide +kernel
theorem dX7_round_0 : decode cX7_round 0 = .ok (.iload_n 1, 1) := by decide +kernel
theorem dX7_round_1 : decode cX7_round 1 = .ok (.invokestatic 120, 3) := by decide +kernel
theorem dX7_round_4 : decode cX7_round 4 = .ok (.ifCond .eq 9, 3) := by decide +kernel
theorem dX7_round_7 : decode cX7_round 7 = .ok (.aload_n 0, 1) := by decide +kernel
theorem dX7_round_8 : decode cX7_round 8 = .ok (.iconst (-1), 1) := by decide +kernel
theorem dX7_round_9 : decode cX7_round 9 = .ok (.invokevirtual 124, 3) := by decide +kernel
theorem dX7_round_12 : decode cX7_round 12 = .ok (.ireturn, 1) := by decide +kernel
theorem dX7_round_13 : decode cX7_round 13 = .ok (.iload_n 2, 1) := by decide +kernel
theorem dX7_round_14 : decode cX7_round 14 = .ok (.i2l, 1) := by decide +kernel
theorem dX7_round_15 : decode cX7_round 15 = .ok (.lconst 0, 1) := by decide +kernel
theorem dX7_round_16 : decode cX7_round 16 = .ok (.ldc2_w 127, 3) := by decide +kernel
theorem dX7_round_19 : decode cX7_round 19 = .ok (.invokestatic 87, 3) := by decide +kernel
theorem dX7_round_22 : decode cX7_round 22 = .ok (.ifCond .eq 31, 3) := by decide +kernel
theorem dX7_round_25 : decode cX7_round 25 = .ok (.iload 4, 2) := by decide +kernel
theorem dX7_round_27 : decode cX7_round 27 = .ok (.i2l, 1) := by decide +kernel
theorem dX7_round_28 : decode cX7_round 28 = .ok (.lconst 0, 1) := by decide +kernel
theorem dX7_round_29 : decode cX7_round 29 = .ok (.ldc2_w 153, 3) := by decide +kernel
theorem dX7_round_32 : decode cX7_round 32 = .ok (.invokestatic 87, 3) := by decide +kernel
theorem dX7_round_35 : decode cX7_round 35 = .ok (.ifCond .ne 25, 3) := by decide +kernel
theorem dX7_round_38 : decode cX7_round 38 = .ok (.iload 4, 2) := by decide +kernel
theorem dX7_round_40 : decode cX7_round 40 = .ok (.i2l, 1) := by decide +kernel
theorem dX7_round_41 : decode cX7_round 41 = .ok (.ldc2_w 180, 3) := by decide +kernel
theorem dX7_round_44 : decode cX7_round 44 = .ok (.ldc2_w 182, 3) := by decide +kernel
theorem dX7_round_47 : decode cX7_round 47 = .ok (.invokestatic 87, 3) := by decide +kernel
theorem dX7_round_50 : decode cX7_round 50 = .ok (.ifCond .ne 10, 3) := by decide +kernel
theorem dX7_round_53 : decode cX7_round 53 = .ok (.aload_n 0, 1) := by decide +kernel
theorem dX7_round_54 : decode cX7_round 54 = .ok (.bipush (-2), 2) := by decide +kernel
theorem dX7_round_56 : decode cX7_round 56 = .ok (.invokevirtual 124, 3) := by decide +kernel
theorem dX7_round_59 : decode cX7_round 59 = .ok (.ireturn, 1) := by decide +kernel
theorem dX7_round_60 : decode cX7_round 60 = .ok (.aload_n 0, 1) := by decide +kernel
theorem dX7_round_61 : decode cX7_round 61 = .ok (.getfield 84, 3) := by decide +kernel
theorem dX7_round_64 : decode cX7_round 64 = .ok (.ifCond .ne 10, 3) := by decide +kernel
theorem dX7_round_67 : decode cX7_round 67 = .ok (.aload_n 0, 1) := by decide +kernel
theorem dX7_round_68 : decode cX7_round 68 = .ok (.bipush (-3), 2) := by decide +kernel
theorem dX7_round_70 : decode cX7_round 70 = .ok (.invokevirtual 124, 3) := by decide +kernel
theorem dX7_round_73 : decode cX7_round 73 = .ok (.ireturn, 1) := by decide +kernel
theorem dX7_round_74 : decode cX7_round 74 = .ok (.aload_n 0, 1) := by decide +kernel
theorem dX7_round_75 : decode cX7_round 75 = .ok (.iload_n 1, 1) := by decide +kernel
theorem dX7_round_76 : decode cX7_round 76 = .ok (.iload_n 2, 1) := by decide +kernel
theorem dX7_round_77 : decode cX7_round 77 = .ok (.iload_n 3, 1) := by decide +kernel
theorem dX7_round_78 : decode cX7_round 78 = .ok (.invokevirtual 184, 3) := by decide +kernel
theorem dX7_round_81 : decode cX7_round 81 = .ok (.istore 5, 2) := by decide +kernel
theorem dX7_round_83 : decode cX7_round 83 = .ok (.iload 5, 2) := by decide +kernel
theorem dX7_round_85 : decode cX7_round 85 = .ok (.ifCond .ge 6, 3) := by decide +kernel
theorem dX7_round_88 : decode cX7_round 88 = .ok (.iload 5, 2) := by decide +kernel
theorem dX7_round_90 : decode cX7_round 90 = .ok (.ireturn, 1) := by decide +kernel
theorem dX7_round_91 : decode cX7_round 91 = .ok (.aload_n 0, 1) := by decide +kernel
theorem dX7_round_92 : decode cX7_round 92 = .ok (.invokevirtual 188, 3) := by decide +kernel
theorem dX7_round_95 : decode cX7_round 95 = .ok (.istore 6, 2) := by decide +kernel
theorem dX7_round_97 : decode cX7_round 97 = .ok (.iload 4, 2) := by decide +kernel
theorem dX7_round_99 : decode cX7_round 99 = .ok (.iconst 1, 1) := by decide +kernel
theorem dX7_round_100 : decode cX7_round 100 = .ok (.if_icmp .ne 8, 3) := by decide +kernel
theorem dX7_round_103 : decode cX7_round 103 = .ok (.aload_n 0, 1) := by decide +kernel
theorem dX7_round_104 : decode cX7_round 104 = .ok (.getfield 160, 3) := by decide +kernel
theorem dX7_round_107 : decode cX7_round 107 = .ok (.ireturn, 1) := by decide +kernel
theorem dX7_round_108 : decode cX7_round 108 = .ok (.iload 6, 2) := by decide +kernel
theorem dX7_round_110 : decode cX7_round 110 = .ok (.ifCond .ne 11, 3) := by decide +kernel
theorem dX7_round_113 : decode cX7_round 113 = .ok (.bipush (-100), 2) := by decide +kernel
theorem dX7_round_115 : decode cX7_round 115 = .ok (.aload_n 0, 1) := by decide +kernel
theorem dX7_round_116 : decode cX7_round 116 = .ok (.getfield 160, 3) := by decide +kernel
theorem dX7_round_119 : decode cX7_round 119 = .ok (.isub, 1) := by decide +kernel
theorem dX7_round_120 : decode cX7_round 120 = .ok (.ireturn, 1) := by decide +kernel
theorem dX7_round_121 : decode cX7_round 121 = .ok (.iload 4, 2) := by decide +kernel
theorem dX7_round_123 : decode cX7_round 123 = .ok (.tableswitch 48 0 3 #[29, 48, 34, 39], 29) := by decide +kernel
theorem dX7_round_152 : decode cX7_round 152 = .ok (.aload_n 0, 1) := by decide +kernel
theorem dX7_round_153 : decode cX7_round 153 = .ok (.getfield 163, 3) := by decide +kernel
theorem dX7_round_156 : decode cX7_round 156 = .ok (.ireturn, 1) := by decide +kernel
theorem dX7_round_157 : decode cX7_round 157 = .ok (.aload_n 0, 1) := by decide +kernel
theorem dX7_round_158 : decode cX7_round 158 = .ok (.getfield 166, 3) := by decide +kernel
theorem dX7_round_161 : decode cX7_round 161 = .ok (.ireturn, 1) := by decide +kernel
theorem dX7_round_162 : decode cX7_round 162 = .ok (.aload_n 0, 1) := by decide +kernel
theorem dX7_round_163 : decode cX7_round 163 = .ok (.invokevirtual 192, 3) := by decide +kernel
theorem dX7_round_166 : decode cX7_round 166 = .ok (.sipush 1000, 3) := by decide +kernel
theorem dX7_round_169 : decode cX7_round 169 = .ok (.iadd, 1) := by decide +kernel
theorem dX7_round_170 : decode cX7_round 170 = .ok (.ireturn, 1) := by decide +kernel
theorem dX7_round_171 : decode cX7_round 171 = .ok (.aload_n 0, 1) := by decide +kernel
theorem dX7_round_172 : decode cX7_round 172 = .ok (.getfield 43, 3) := by decide +kernel
theorem dX7_round_175 : decode cX7_round 175 = .ok (.iload 4, 2) := by decide +kernel
theorem dX7_round_177 : decode cX7_round 177 = .ok (.bipush 10, 2) := by decide +kernel
theorem dX7_round_179 : decode cX7_round 179 = .ok (.isub, 1) := by decide +kernel
theorem dX7_round_180 : decode cX7_round 180 = .ok (.iaload, 1) := by decide +kernel
theorem dX7_round_181 : decode cX7_round 181 = .ok (.ireturn, 1) := by decide +kernel
theorem dX7_rows_0 : decode cX7_rows 0 = .ok (.iconst 1, 1) := by decide +kernel
theorem dX7_rows_1 : decode cX7_rows 1 = .ok (.istore_n 1, 1) := by decide +kernel
theorem dX7_rows_2 : decode cX7_rows 2 = .ok (.iconst 0, 1) := by decide +kernel
theorem dX7_rows_3 : decode cX7_rows 3 = .ok (.istore_n 2, 1) := by decide +kernel
theorem dX7_rows_4 : decode cX7_rows 4 = .ok (.iload_n 2, 1) := by decide +kernel
theorem dX7_rows_5 : decode cX7_rows 5 = .ok (.bipush 6, 2) := by decide +kernel
theorem dX7_rows_7 : decode cX7_rows 7 = .ok (.if_icmp .ge 18, 3) := by decide +kernel
theorem dX7_rows_10 : decode cX7_rows 10 = .ok (.iload_n 1, 1) := by decide +kernel
theorem dX7_rows_11 : decode cX7_rows 11 = .ok (.aload_n 0, 1) := by decide +kernel
theorem dX7_rows_12 : decode cX7_rows 12 = .ok (.getfield 84, 3) := by decide +kernel
theorem dX7_rows_15 : decode cX7_rows 15 = .ok (.iconst 1, 1) := by decide +kernel
theorem dX7_rows_16 : decode cX7_rows 16 = .ok (.iadd, 1) := by decide +kernel
theorem dX7_rows_17 : decode cX7_rows 17 = .ok (.imul, 1) := by decide +kernel
theorem dX7_rows_18 : decode cX7_rows 18 = .ok (.istore_n 1, 1) := by decide +kernel
theorem dX7_rows_19 : decode cX7_rows 19 = .ok (.iinc 2 1, 3) := by decide +kernel
theorem dX7_rows_22 : decode cX7_rows 22 = .ok (.goto (-18), 3) := by decide +kernel
theorem dX7_rows_25 : decode cX7_rows 25 = .ok (.iload_n 1, 1) := by decide +kernel
theorem dX7_rows_26 : decode cX7_rows 26 = .ok (.ireturn, 1) := by decide +kernel
theorem dX7_layRow_0 : decode cX7_layRow 0 = .ok (.iload_n 1, 1) := by decide +kernel
theorem dX7_layRow_1 : decode cX7_layRow 1 = .ok (.istore_n 2, 1) := by decide +kernel
theorem dX7_layRow_2 : decode cX7_layRow 2 = .ok (.iconst 5, 1) := by decide +kernel
theorem dX7_layRow_3 : decode cX7_layRow 3 = .ok (.istore_n 3, 1) := by decide +kernel
theorem dX7_layRow_4 : decode cX7_layRow 4 = .ok (.iload_n 3, 1) := by decide +kernel
theorem dX7_layRow_5 : decode cX7_layRow 5 = .ok (.ifCond .lt 48, 3) := by decide +kernel
theorem dX7_layRow_8 : decode cX7_layRow 8 = .ok (.iload_n 2, 1) := by decide +kernel
theorem dX7_layRow_9 : decode cX7_layRow 9 = .ok (.aload_n 0, 1) := by decide +kernel
theorem dX7_layRow_10 : decode cX7_layRow 10 = .ok (.getfield 84, 3) := by decide +kernel
theorem dX7_layRow_13 : decode cX7_layRow 13 = .ok (.iconst 1, 1) := by decide +kernel
theorem dX7_layRow_14 : decode cX7_layRow 14 = .ok (.iadd, 1) := by decide +kernel
theorem dX7_layRow_15 : decode cX7_layRow 15 = .ok (.irem, 1) := by decide +kernel
theorem dX7_layRow_16 : decode cX7_layRow 16 = .ok (.istore 4, 2) := by decide +kernel
theorem dX7_layRow_18 : decode cX7_layRow 18 = .ok (.aload_n 0, 1) := by decide +kernel
theorem dX7_layRow_19 : decode cX7_layRow 19 = .ok (.getfield 40, 3) := by decide +kernel
theorem dX7_layRow_22 : decode cX7_layRow 22 = .ok (.iload_n 3, 1) := by decide +kernel
theorem dX7_layRow_23 : decode cX7_layRow 23 = .ok (.iload 4, 2) := by decide +kernel
theorem dX7_layRow_25 : decode cX7_layRow 25 = .ok (.ifCond .ne 8, 3) := by decide +kernel
theorem dX7_layRow_28 : decode cX7_layRow 28 = .ok (.bipush (-9), 2) := by decide +kernel
theorem dX7_layRow_30 : decode cX7_layRow 30 = .ok (.goto 7, 3) := by decide +kernel
theorem dX7_layRow_33 : decode cX7_layRow 33 = .ok (.iload 4, 2) := by decide +kernel
theorem dX7_layRow_35 : decode cX7_layRow 35 = .ok (.iconst 1, 1) := by decide +kernel
theorem dX7_layRow_36 : decode cX7_layRow 36 = .ok (.isub, 1) := by decide +kernel
theorem dX7_layRow_37 : decode cX7_layRow 37 = .ok (.iastore, 1) := by decide +kernel
theorem dX7_layRow_38 : decode cX7_layRow 38 = .ok (.iload_n 2, 1) := by decide +kernel
theorem dX7_layRow_39 : decode cX7_layRow 39 = .ok (.aload_n 0, 1) := by decide +kernel
theorem dX7_layRow_40 : decode cX7_layRow 40 = .ok (.getfield 84, 3) := by decide +kernel
theorem dX7_layRow_43 : decode cX7_layRow 43 = .ok (.iconst 1, 1) := by decide +kernel
theorem dX7_layRow_44 : decode cX7_layRow 44 = .ok (.iadd, 1) := by decide +kernel
theorem dX7_layRow_45 : decode cX7_layRow 45 = .ok (.idiv, 1) := by decide +kernel
theorem dX7_layRow_46 : decode cX7_layRow 46 = .ok (.istore_n 2, 1) := by decide +kernel
theorem dX7_layRow_47 : decode cX7_layRow 47 = .ok (.iinc 3 (-1), 3) := by decide +kernel
theorem dX7_layRow_50 : decode cX7_layRow 50 = .ok (.goto (-46), 3) := by decide +kernel
theorem dX7_layRow_53 : decode cX7_layRow 53 = .ok (.return_, 1) := by decide +kernel
theorem dX7_bestRow_0 : decode cX7_bestRow 0 = .ok (.bipush (-9), 2) := by decide +kernel
theorem dX7_bestRow_2 : decode cX7_bestRow 2 = .ok (.istore_n 1, 1) := by decide +kernel
theorem dX7_bestRow_3 : decode cX7_bestRow 3 = .ok (.iconst 0, 1) := by decide +kernel
theorem dX7_bestRow_4 : decode cX7_bestRow 4 = .ok (.istore_n 2, 1) := by decide +kernel
theorem dX7_bestRow_5 : decode cX7_bestRow 5 = .ok (.iload_n 2, 1) := by decide +kernel
theorem dX7_bestRow_6 : decode cX7_bestRow 6 = .ok (.aload_n 0, 1) := by decide +kernel
theorem dX7_bestRow_7 : decode cX7_bestRow 7 = .ok (.invokevirtual 196, 3) := by decide +kernel
theorem dX7_bestRow_10 : decode cX7_bestRow 10 = .ok (.if_icmp .ge 46, 3) := by decide +kernel
theorem dX7_bestRow_13 : decode cX7_bestRow 13 = .ok (.aload_n 0, 1) := by decide +kernel
theorem dX7_bestRow_14 : decode cX7_bestRow 14 = .ok (.iload_n 2, 1) := by decide +kernel
theorem dX7_bestRow_15 : decode cX7_bestRow 15 = .ok (.invokevirtual 199, 3) := by decide +kernel
theorem dX7_bestRow_18 : decode cX7_bestRow 18 = .ok (.aload_n 0, 1) := by decide +kernel
theorem dX7_bestRow_19 : decode cX7_bestRow 19 = .ok (.invokevirtual 188, 3) := by decide +kernel
theorem dX7_bestRow_22 : decode cX7_bestRow 22 = .ok (.ifCond .eq 28, 3) := by decide +kernel
theorem dX7_bestRow_25 : decode cX7_bestRow 25 = .ok (.iload_n 1, 1) := by decide +kernel
theorem dX7_bestRow_26 : decode cX7_bestRow 26 = .ok (.ifCond .lt 14, 3) := by decide +kernel
theorem dX7_bestRow_29 : decode cX7_bestRow 29 = .ok (.aload_n 0, 1) := by decide +kernel
theorem dX7_bestRow_30 : decode cX7_bestRow 30 = .ok (.invokevirtual 192, 3) := by decide +kernel
theorem dX7_bestRow_33 : decode cX7_bestRow 33 = .ok (.aload_n 0, 1) := by decide +kernel
theorem dX7_bestRow_34 : decode cX7_bestRow 34 = .ok (.getfield 203, 3) := by decide +kernel
theorem dX7_bestRow_37 : decode cX7_bestRow 37 = .ok (.if_icmp .le 13, 3) := by decide +kernel
theorem dX7_bestRow_40 : decode cX7_bestRow 40 = .ok (.iload_n 2, 1) := by decide +kernel
theorem dX7_bestRow_41 : decode cX7_bestRow 41 = .ok (.istore_n 1, 1) := by decide +kernel
theorem dX7_bestRow_42 : decode cX7_bestRow 42 = .ok (.aload_n 0, 1) := by decide +kernel
theorem dX7_bestRow_43 : decode cX7_bestRow 43 = .ok (.aload_n 0, 1) := by decide +kernel
theorem dX7_bestRow_44 : decode cX7_bestRow 44 = .ok (.invokevirtual 192, 3) := by decide +kernel
theorem dX7_bestRow_47 : decode cX7_bestRow 47 = .ok (.putfield 203, 3) := by decide +kernel
theorem dX7_bestRow_50 : decode cX7_bestRow 50 = .ok (.iinc 2 1, 3) := by decide +kernel
theorem dX7_bestRow_53 : decode cX7_bestRow 53 = .ok (.goto (-48), 3) := by decide +kernel
theorem dX7_bestRow_56 : decode cX7_bestRow 56 = .ok (.iload_n 1, 1) := by decide +kernel
theorem dX7_bestRow_57 : decode cX7_bestRow 57 = .ok (.ireturn, 1) := by decide +kernel
theorem dX7_best_0 : decode cX7_best 0 = .ok (.iload_n 1, 1) := by decide +kernel
theorem dX7_best_1 : decode cX7_best 1 = .ok (.i2l, 1) := by decide +kernel
theorem dX7_best_2 : decode cX7_best 2 = .ok (.ldc2_w 206, 3) := by decide +kernel
theorem dX7_best_5 : decode cX7_best 5 = .ok (.ldc2_w 208, 3) := by decide +kernel
theorem dX7_best_8 : decode cX7_best 8 = .ok (.invokestatic 87, 3) := by decide +kernel
theorem dX7_best_11 : decode cX7_best 11 = .ok (.ifCond .ne 6, 3) := by decide +kernel
theorem dX7_best_14 : decode cX7_best 14 = .ok (.bipush (-2), 2) := by decide +kernel
theorem dX7_best_16 : decode cX7_best 16 = .ok (.ireturn, 1) := by decide +kernel
theorem dX7_best_17 : decode cX7_best 17 = .ok (.aload_n 0, 1) := by decide +kernel
theorem dX7_best_18 : decode cX7_best 18 = .ok (.getfield 84, 3) := by decide +kernel
theorem dX7_best_21 : decode cX7_best 21 = .ok (.ifCond .ne 6, 3) := by decide +kernel
theorem dX7_best_24 : decode cX7_best 24 = .ok (.bipush (-3), 2) := by decide +kernel
theorem dX7_best_26 : decode cX7_best 26 = .ok (.ireturn, 1) := by decide +kernel
theorem dX7_best_27 : decode cX7_best 27 = .ok (.aload_n 0, 1) := by decide +kernel
theorem dX7_best_28 : decode cX7_best 28 = .ok (.invokevirtual 210, 3) := by decide +kernel
theorem dX7_best_31 : decode cX7_best 31 = .ok (.istore_n 2, 1) := by decide +kernel
theorem dX7_best_32 : decode cX7_best 32 = .ok (.aload_n 0, 1) := by decide +kernel
theorem dX7_best_33 : decode cX7_best 33 = .ok (.iload_n 2, 1) := by decide +kernel
theorem dX7_best_34 : decode cX7_best 34 = .ok (.invokevirtual 199, 3) := by decide +kernel
theorem dX7_best_37 : decode cX7_best 37 = .ok (.iload_n 1, 1) := by decide +kernel
theorem dX7_best_38 : decode cX7_best 38 = .ok (.ifCond .ge 14, 3) := by decide +kernel
theorem dX7_best_41 : decode cX7_best 41 = .ok (.aload_n 0, 1) := by decide +kernel
theorem dX7_best_42 : decode cX7_best 42 = .ok (.getfield 203, 3) := by decide +kernel
theorem dX7_best_45 : decode cX7_best 45 = .ok (.sipush 1000, 3) := by decide +kernel
theorem dX7_best_48 : decode cX7_best 48 = .ok (.iadd, 1) := by decide +kernel
theorem dX7_best_49 : decode cX7_best 49 = .ok (.goto 9, 3) := by decide +kernel
theorem dX7_best_52 : decode cX7_best 52 = .ok (.aload_n 0, 1) := by decide +kernel
theorem dX7_best_53 : decode cX7_best 53 = .ok (.getfield 40, 3) := by decide +kernel
theorem dX7_best_56 : decode cX7_best 56 = .ok (.iload_n 1, 1) := by decide +kernel
theorem dX7_best_57 : decode cX7_best 57 = .ok (.iaload, 1) := by decide +kernel
theorem dX7_best_58 : decode cX7_best 58 = .ok (.ireturn, 1) := by decide +kernel
theorem dX7_mild_0 : decode cX7_mild 0 = .ok (.iload_n 1, 1) := by decide +kernel
theorem dX7_mild_1 : decode cX7_mild 1 = .ok (.i2l, 1) := by decide +kernel
theorem dX7_mild_2 : decode cX7_mild 2 = .ok (.lconst 0, 1) := by decide +kernel
theorem dX7_mild_3 : decode cX7_mild 3 = .ok (.ldc2_w 213, 3) := by decide +kernel
theorem dX7_mild_6 : decode cX7_mild 6 = .ok (.invokestatic 87, 3) := by decide +kernel
theorem dX7_mild_9 : decode cX7_mild 9 = .ok (.ifCond .ne 6, 3) := by decide +kernel
theorem dX7_mild_12 : decode cX7_mild 12 = .ok (.bipush (-2), 2) := by decide +kernel
theorem dX7_mild_14 : decode cX7_mild 14 = .ok (.ireturn, 1) := by decide +kernel
theorem dX7_mild_15 : decode cX7_mild 15 = .ok (.aload_n 0, 1) := by decide +kernel
theorem dX7_mild_16 : decode cX7_mild 16 = .ok (.getfield 84, 3) := by decide +kernel
theorem dX7_mild_19 : decode cX7_mild 19 = .ok (.ifCond .ne 6, 3) := by decide +kernel
theorem dX7_mild_22 : decode cX7_mild 22 = .ok (.bipush (-3), 2) := by decide +kernel
theorem dX7_mild_24 : decode cX7_mild 24 = .ok (.ireturn, 1) := by decide +kernel
theorem dX7_mild_25 : decode cX7_mild 25 = .ok (.iconst 0, 1) := by decide +kernel
theorem dX7_mild_26 : decode cX7_mild 26 = .ok (.istore_n 2, 1) := by decide +kernel
theorem dX7_mild_27 : decode cX7_mild 27 = .ok (.iconst 0, 1) := by decide +kernel
theorem dX7_mild_28 : decode cX7_mild 28 = .ok (.istore_n 3, 1) := by decide +kernel
theorem dX7_mild_29 : decode cX7_mild 29 = .ok (.iload_n 3, 1) := by decide +kernel
theorem dX7_mild_30 : decode cX7_mild 30 = .ok (.aload_n 0, 1) := by decide +kernel
theorem dX7_mild_31 : decode cX7_mild 31 = .ok (.invokevirtual 196, 3) := by decide +kernel
theorem dX7_mild_34 : decode cX7_mild 34 = .ok (.if_icmp .ge 58, 3) := by decide +kernel
theorem dX7_mild_37 : decode cX7_mild 37 = .ok (.aload_n 0, 1) := by decide +kernel
theorem dX7_mild_38 : decode cX7_mild 38 = .ok (.iload_n 3, 1) := by decide +kernel
theorem dX7_mild_39 : decode cX7_mild 39 = .ok (.invokevirtual 199, 3) := by decide +kernel
theorem dX7_mild_42 : decode cX7_mild 42 = .ok (.aload_n 0, 1) := by decide +kernel
theorem dX7_mild_43 : decode cX7_mild 43 = .ok (.invokevirtual 188, 3) := by decide +kernel
theorem dX7_mild_46 : decode cX7_mild 46 = .ok (.ifCond .eq 15, 3) := by decide +kernel
theorem dX7_mild_49 : decode cX7_mild 49 = .ok (.aload_n 0, 1) := by decide +kernel
theorem dX7_mild_50 : decode cX7_mild 50 = .ok (.getfield 166, 3) := by decide +kernel
theorem dX7_mild_53 : decode cX7_mild 53 = .ok (.iload_n 1, 1) := by decide +kernel
theorem dX7_mild_54 : decode cX7_mild 54 = .ok (.if_icmp .gt 7, 3) := by decide +kernel
theorem dX7_mild_57 : decode cX7_mild 57 = .ok (.iconst 1, 1) := by decide +kernel
theorem dX7_mild_58 : decode cX7_mild 58 = .ok (.goto 4, 3) := by decide +kernel
theorem dX7_mild_61 : decode cX7_mild 61 = .ok (.iconst 0, 1) := by decide +kernel
theorem dX7_mild_62 : decode cX7_mild 62 = .ok (.istore 4, 2) := by decide +kernel
theorem dX7_mild_64 : decode cX7_mild 64 = .ok (.iload 4, 2) := by decide +kernel
theorem dX7_mild_66 : decode cX7_mild 66 = .ok (.ifCond .eq 18, 3) := by decide +kernel
theorem dX7_mild_69 : decode cX7_mild 69 = .ok (.aload_n 0, 1) := by decide +kernel
theorem dX7_mild_70 : decode cX7_mild 70 = .ok (.getfield 163, 3) := by decide +kernel
theorem dX7_mild_73 : decode cX7_mild 73 = .ok (.iload_n 2, 1) := by decide +kernel
theorem dX7_mild_74 : decode cX7_mild 74 = .ok (.if_icmp .le 10, 3) := by decide +kernel
theorem dX7_mild_77 : decode cX7_mild 77 = .ok (.aload_n 0, 1) := by decide +kernel
theorem dX7_mild_78 : decode cX7_mild 78 = .ok (.getfield 163, 3) := by decide +kernel
theorem dX7_mild_81 : decode cX7_mild 81 = .ok (.goto 4, 3) := by decide +kernel
theorem dX7_mild_84 : decode cX7_mild 84 = .ok (.iload_n 2, 1) := by decide +kernel
theorem dX7_mild_85 : decode cX7_mild 85 = .ok (.istore_n 2, 1) := by decide +kernel
theorem dX7_mild_86 : decode cX7_mild 86 = .ok (.iinc 3 1, 3) := by decide +kernel
theorem dX7_mild_89 : decode cX7_mild 89 = .ok (.goto (-60), 3) := by decide +kernel
theorem dX7_mild_92 : decode cX7_mild 92 = .ok (.iload_n 2, 1) := by decide +kernel
theorem dX7_mild_93 : decode cX7_mild 93 = .ok (.ireturn, 1) := by decide +kernel
theorem dX7_worth_0 : decode cX7_worth 0 = .ok (.aload_n 0, 1) := by decide +kernel
theorem dX7_worth_1 : decode cX7_worth 1 = .ok (.iload_n 1, 1) := by decide +kernel
theorem dX7_worth_2 : decode cX7_worth 2 = .ok (.invokevirtual 145, 3) := by decide +kernel
theorem dX7_worth_5 : decode cX7_worth 5 = .ok (.ifCond .eq 5, 3) := by decide +kernel
theorem dX7_worth_8 : decode cX7_worth 8 = .ok (.iconst (-1), 1) := by decide +kernel
theorem dX7_worth_9 : decode cX7_worth 9 = .ok (.ireturn, 1) := by decide +kernel
theorem dX7_worth_10 : decode cX7_worth 10 = .ok (.aload_n 0, 1) := by decide +kernel
theorem dX7_worth_11 : decode cX7_worth 11 = .ok (.invokevirtual 210, 3) := by decide +kernel
theorem dX7_worth_14 : decode cX7_worth 14 = .ok (.pop, 1) := by decide +kernel
theorem dX7_worth_15 : decode cX7_worth 15 = .ok (.aload_n 0, 1) := by decide +kernel
theorem dX7_worth_16 : decode cX7_worth 16 = .ok (.getfield 203, 3) := by decide +kernel
theorem dX7_worth_19 : decode cX7_worth 19 = .ok (.istore_n 2, 1) := by decide +kernel
theorem dX7_worth_20 : decode cX7_worth 20 = .ok (.aload_n 0, 1) := by decide +kernel
theorem dX7_worth_21 : decode cX7_worth 21 = .ok (.iload_n 1, 1) := by decide +kernel
theorem dX7_worth_22 : decode cX7_worth 22 = .ok (.putfield 71, 3) := by decide +kernel
theorem dX7_worth_25 : decode cX7_worth 25 = .ok (.aload_n 0, 1) := by decide +kernel
theorem dX7_worth_26 : decode cX7_worth 26 = .ok (.invokevirtual 210, 3) := by decide +kernel
theorem dX7_worth_29 : decode cX7_worth 29 = .ok (.pop, 1) := by decide +kernel
theorem dX7_worth_30 : decode cX7_worth 30 = .ok (.aload_n 0, 1) := by decide +kernel
theorem dX7_worth_31 : decode cX7_worth 31 = .ok (.bipush (-9), 2) := by decide +kernel
theorem dX7_worth_33 : decode cX7_worth 33 = .ok (.putfield 71, 3) := by decide +kernel
theorem dX7_worth_36 : decode cX7_worth 36 = .ok (.iload_n 2, 1) := by decide +kernel
theorem dX7_worth_37 : decode cX7_worth 37 = .ok (.aload_n 0, 1) := by decide +kernel
theorem dX7_worth_38 : decode cX7_worth 38 = .ok (.getfield 203, 3) := by decide +kernel
theorem dX7_worth_41 : decode cX7_worth 41 = .ok (.isub, 1) := by decide +kernel
theorem dX7_worth_42 : decode cX7_worth 42 = .ok (.sipush 1000, 3) := by decide +kernel
theorem dX7_worth_45 : decode cX7_worth 45 = .ok (.iadd, 1) := by decide +kernel
theorem dX7_worth_46 : decode cX7_worth 46 = .ok (.ireturn, 1) := by decide +kernel
theorem dX7_takesOf_0 : decode cX7_takesOf 0 = .ok (.aload_n 0, 1) := by decide +kernel
theorem dX7_takesOf_1 : decode cX7_takesOf 1 = .ok (.aload_n 0, 1) := by decide +kernel
theorem dX7_takesOf_2 : decode cX7_takesOf 2 = .ok (.invokevirtual 210, 3) := by decide +kernel
theorem dX7_takesOf_5 : decode cX7_takesOf 5 = .ok (.invokevirtual 199, 3) := by decide +kernel
theorem dX7_takesOf_8 : decode cX7_takesOf 8 = .ok (.iconst 0, 1) := by decide +kernel
theorem dX7_takesOf_9 : decode cX7_takesOf 9 = .ok (.istore_n 2, 1) := by decide +kernel
theorem dX7_takesOf_10 : decode cX7_takesOf 10 = .ok (.iconst 0, 1) := by decide +kernel
theorem dX7_takesOf_11 : decode cX7_takesOf 11 = .ok (.istore_n 3, 1) := by decide +kernel
theorem dX7_takesOf_12 : decode cX7_takesOf 12 = .ok (.iload_n 3, 1) := by decide +kernel
theorem dX7_takesOf_13 : decode cX7_takesOf 13 = .ok (.bipush 6, 2) := by decide +kernel
theorem dX7_takesOf_15 : decode cX7_takesOf 15 = .ok (.if_icmp .ge 27, 3) := by decide +kernel
theorem dX7_takesOf_18 : decode cX7_takesOf 18 = .ok (.iload_n 2, 1) := by decide +kernel
theorem dX7_takesOf_19 : decode cX7_takesOf 19 = .ok (.aload_n 0, 1) := by decide +kernel
theorem dX7_takesOf_20 : decode cX7_takesOf 20 = .ok (.getfield 40, 3) := by decide +kernel
theorem dX7_takesOf_23 : decode cX7_takesOf 23 = .ok (.iload_n 3, 1) := by decide +kernel
theorem dX7_takesOf_24 : decode cX7_takesOf 24 = .ok (.iaload, 1) := by decide +kernel
theorem dX7_takesOf_25 : decode cX7_takesOf 25 = .ok (.iload_n 1, 1) := by decide +kernel
theorem dX7_takesOf_26 : decode cX7_takesOf 26 = .ok (.if_icmp .ne 7, 3) := by decide +kernel
theorem dX7_takesOf_29 : decode cX7_takesOf 29 = .ok (.iconst 1, 1) := by decide +kernel
theorem dX7_takesOf_30 : decode cX7_takesOf 30 = .ok (.goto 4, 3) := by decide +kernel
theorem dX7_takesOf_33 : decode cX7_takesOf 33 = .ok (.iconst 0, 1) := by decide +kernel
theorem dX7_takesOf_34 : decode cX7_takesOf 34 = .ok (.iadd, 1) := by decide +kernel
theorem dX7_takesOf_35 : decode cX7_takesOf 35 = .ok (.istore_n 2, 1) := by decide +kernel
theorem dX7_takesOf_36 : decode cX7_takesOf 36 = .ok (.iinc 3 1, 3) := by decide +kernel
theorem dX7_takesOf_39 : decode cX7_takesOf 39 = .ok (.goto (-27), 3) := by decide +kernel
theorem dX7_takesOf_42 : decode cX7_takesOf 42 = .ok (.iload_n 2, 1) := by decide +kernel
theorem dX7_takesOf_43 : decode cX7_takesOf 43 = .ok (.ireturn, 1) := by decide +kernel
theorem dX7_shift_0 : decode cX7_shift 0 = .ok (.aload_n 0, 1) := by decide +kernel
theorem dX7_shift_1 : decode cX7_shift 1 = .ok (.iload_n 1, 1) := by decide +kernel
theorem dX7_shift_2 : decode cX7_shift 2 = .ok (.invokevirtual 145, 3) := by decide +kernel
theorem dX7_shift_5 : decode cX7_shift 5 = .ok (.ifCond .eq 5, 3) := by decide +kernel
theorem dX7_shift_8 : decode cX7_shift 8 = .ok (.iconst (-1), 1) := by decide +kernel
theorem dX7_shift_9 : decode cX7_shift 9 = .ok (.ireturn, 1) := by decide +kernel
theorem dX7_shift_10 : decode cX7_shift 10 = .ok (.aload_n 0, 1) := by decide +kernel
theorem dX7_shift_11 : decode cX7_shift 11 = .ok (.getfield 22, 3) := by decide +kernel
theorem dX7_shift_14 : decode cX7_shift 14 = .ok (.iload_n 1, 1) := by decide +kernel
theorem dX7_shift_15 : decode cX7_shift 15 = .ok (.iaload, 1) := by decide +kernel
theorem dX7_shift_16 : decode cX7_shift 16 = .ok (.istore_n 2, 1) := by decide +kernel
theorem dX7_shift_17 : decode cX7_shift 17 = .ok (.aload_n 0, 1) := by decide +kernel
theorem dX7_shift_18 : decode cX7_shift 18 = .ok (.iload_n 1, 1) := by decide +kernel
theorem dX7_shift_19 : decode cX7_shift 19 = .ok (.invokevirtual 215, 3) := by decide +kernel
theorem dX7_shift_22 : decode cX7_shift 22 = .ok (.istore_n 3, 1) := by decide +kernel
theorem dX7_shift_23 : decode cX7_shift 23 = .ok (.bipush (-9), 2) := by decide +kernel
theorem dX7_shift_25 : decode cX7_shift 25 = .ok (.istore 4, 2) := by decide +kernel
theorem dX7_shift_27 : decode cX7_shift 27 = .ok (.iconst 0, 1) := by decide +kernel
theorem dX7_shift_28 : decode cX7_shift 28 = .ok (.istore 5, 2) := by decide +kernel
theorem dX7_shift_30 : decode cX7_shift 30 = .ok (.iload 5, 2) := by decide +kernel
theorem dX7_shift_32 : decode cX7_shift 32 = .ok (.bipush 6, 2) := by decide +kernel
theorem dX7_shift_34 : decode cX7_shift 34 = .ok (.if_icmp .ge 67, 3) := by decide +kernel
theorem dX7_shift_37 : decode cX7_shift 37 = .ok (.iload_n 2, 1) := by decide +kernel
theorem dX7_shift_38 : decode cX7_shift 38 = .ok (.iload 5, 2) := by decide +kernel
theorem dX7_shift_40 : decode cX7_shift 40 = .ok (.invokestatic 157, 3) := by decide +kernel
theorem dX7_shift_43 : decode cX7_shift 43 = .ok (.ifCond .eq 52, 3) := by decide +kernel
theorem dX7_shift_46 : decode cX7_shift 46 = .ok (.aload_n 0, 1) := by decide +kernel
theorem dX7_shift_47 : decode cX7_shift 47 = .ok (.getfield 22, 3) := by decide +kernel
theorem dX7_shift_50 : decode cX7_shift 50 = .ok (.iload_n 1, 1) := by decide +kernel
theorem dX7_shift_51 : decode cX7_shift 51 = .ok (.iload_n 2, 1) := by decide +kernel
theorem dX7_shift_52 : decode cX7_shift 52 = .ok (.iconst 1, 1) := by decide +kernel
theorem dX7_shift_53 : decode cX7_shift 53 = .ok (.iload 5, 2) := by decide +kernel
theorem dX7_shift_55 : decode cX7_shift 55 = .ok (.ishl, 1) := by decide +kernel
theorem dX7_shift_56 : decode cX7_shift 56 = .ok (.iconst (-1), 1) := by decide +kernel
theorem dX7_shift_57 : decode cX7_shift 57 = .ok (.ixor, 1) := by decide +kernel
theorem dX7_shift_58 : decode cX7_shift 58 = .ok (.iand, 1) := by decide +kernel
theorem dX7_shift_59 : decode cX7_shift 59 = .ok (.iastore, 1) := by decide +kernel
theorem dX7_shift_60 : decode cX7_shift 60 = .ok (.aload_n 0, 1) := by decide +kernel
theorem dX7_shift_61 : decode cX7_shift 61 = .ok (.iload_n 1, 1) := by decide +kernel
theorem dX7_shift_62 : decode cX7_shift 62 = .ok (.invokevirtual 215, 3) := by decide +kernel
theorem dX7_shift_65 : decode cX7_shift 65 = .ok (.istore 6, 2) := by decide +kernel
theorem dX7_shift_67 : decode cX7_shift 67 = .ok (.iload 6, 2) := by decide +kernel
theorem dX7_shift_69 : decode cX7_shift 69 = .ok (.iload_n 3, 1) := by decide +kernel
theorem dX7_shift_70 : decode cX7_shift 70 = .ok (.if_icmp .ge 8, 3) := by decide +kernel
theorem dX7_shift_73 : decode cX7_shift 73 = .ok (.iload 5, 2) := by decide +kernel
theorem dX7_shift_75 : decode cX7_shift 75 = .ok (.goto 5, 3) := by decide +kernel
theorem dX7_shift_78 : decode cX7_shift 78 = .ok (.iload 4, 2) := by decide +kernel
theorem dX7_shift_80 : decode cX7_shift 80 = .ok (.istore 4, 2) := by decide +kernel
theorem dX7_shift_82 : decode cX7_shift 82 = .ok (.iload 6, 2) := by decide +kernel
theorem dX7_shift_84 : decode cX7_shift 84 = .ok (.iload_n 3, 1) := by decide +kernel
theorem dX7_shift_85 : decode cX7_shift 85 = .ok (.if_icmp .ge 8, 3) := by decide +kernel
theorem dX7_shift_88 : decode cX7_shift 88 = .ok (.iload 6, 2) := by decide +kernel
theorem dX7_shift_90 : decode cX7_shift 90 = .ok (.goto 4, 3) := by decide +kernel
theorem dX7_shift_93 : decode cX7_shift 93 = .ok (.iload_n 3, 1) := by decide +kernel
theorem dX7_shift_94 : decode cX7_shift 94 = .ok (.istore_n 3, 1) := by decide +kernel
theorem dX7_shift_95 : decode cX7_shift 95 = .ok (.iinc 5 1, 3) := by decide +kernel
theorem dX7_shift_98 : decode cX7_shift 98 = .ok (.goto (-68), 3) := by decide +kernel
theorem dX7_shift_101 : decode cX7_shift 101 = .ok (.aload_n 0, 1) := by decide +kernel
theorem dX7_shift_102 : decode cX7_shift 102 = .ok (.getfield 22, 3) := by decide +kernel
theorem dX7_shift_105 : decode cX7_shift 105 = .ok (.iload_n 1, 1) := by decide +kernel
theorem dX7_shift_106 : decode cX7_shift 106 = .ok (.iload_n 2, 1) := by decide +kernel
theorem dX7_shift_107 : decode cX7_shift 107 = .ok (.iastore, 1) := by decide +kernel
theorem dX7_shift_108 : decode cX7_shift 108 = .ok (.iload 4, 2) := by decide +kernel
theorem dX7_shift_110 : decode cX7_shift 110 = .ok (.ireturn, 1) := by decide +kernel
theorem dX7_reading_0 : decode cX7_reading 0 = .ok (.aload_n 0, 1) := by decide +kernel
theorem dX7_reading_1 : decode cX7_reading 1 = .ok (.iload_n 1, 1) := by decide +kernel
theorem dX7_reading_2 : decode cX7_reading 2 = .ok (.invokevirtual 145, 3) := by decide +kernel
theorem dX7_reading_5 : decode cX7_reading 5 = .ok (.ifCond .eq 5, 3) := by decide +kernel
theorem dX7_reading_8 : decode cX7_reading 8 = .ok (.iconst (-1), 1) := by decide +kernel
theorem dX7_reading_9 : decode cX7_reading 9 = .ok (.ireturn, 1) := by decide +kernel
theorem dX7_reading_10 : decode cX7_reading 10 = .ok (.iload_n 2, 1) := by decide +kernel
theorem dX7_reading_11 : decode cX7_reading 11 = .ok (.i2l, 1) := by decide +kernel
theorem dX7_reading_12 : decode cX7_reading 12 = .ok (.lconst 0, 1) := by decide +kernel
theorem dX7_reading_13 : decode cX7_reading 13 = .ok (.ldc2_w 208, 3) := by decide +kernel
theorem dX7_reading_16 : decode cX7_reading 16 = .ok (.invokestatic 87, 3) := by decide +kernel
theorem dX7_reading_19 : decode cX7_reading 19 = .ok (.ifCond .ne 6, 3) := by decide +kernel
theorem dX7_reading_22 : decode cX7_reading 22 = .ok (.bipush (-2), 2) := by decide +kernel
theorem dX7_reading_24 : decode cX7_reading 24 = .ok (.ireturn, 1) := by decide +kernel
theorem dX7_reading_25 : decode cX7_reading 25 = .ok (.aload_n 0, 1) := by decide +kernel
theorem dX7_reading_26 : decode cX7_reading 26 = .ok (.getfield 142, 3) := by decide +kernel
theorem dX7_reading_29 : decode cX7_reading 29 = .ok (.bipush 8, 2) := by decide +kernel
theorem dX7_reading_31 : decode cX7_reading 31 = .ok (.if_icmp .ne 6, 3) := by decide +kernel
theorem dX7_reading_34 : decode cX7_reading 34 = .ok (.bipush (-4), 2) := by decide +kernel
theorem dX7_reading_36 : decode cX7_reading 36 = .ok (.ireturn, 1) := by decide +kernel
theorem dX7_reading_37 : decode cX7_reading 37 = .ok (.aload_n 0, 1) := by decide +kernel
theorem dX7_reading_38 : decode cX7_reading 38 = .ok (.getfield 49, 3) := by decide +kernel
theorem dX7_reading_41 : decode cX7_reading 41 = .ok (.aload_n 0, 1) := by decide +kernel
theorem dX7_reading_42 : decode cX7_reading 42 = .ok (.getfield 142, 3) := by decide +kernel
theorem dX7_reading_45 : decode cX7_reading 45 = .ok (.iload_n 1, 1) := by decide +kernel
theorem dX7_reading_46 : decode cX7_reading 46 = .ok (.iastore, 1) := by decide +kernel
theorem dX7_reading_47 : decode cX7_reading 47 = .ok (.aload_n 0, 1) := by decide +kernel
theorem dX7_reading_48 : decode cX7_reading 48 = .ok (.getfield 52, 3) := by decide +kernel
theorem dX7_reading_51 : decode cX7_reading 51 = .ok (.aload_n 0, 1) := by decide +kernel
theorem dX7_reading_52 : decode cX7_reading 52 = .ok (.getfield 142, 3) := by decide +kernel
theorem dX7_reading_55 : decode cX7_reading 55 = .ok (.iload_n 2, 1) := by decide +kernel
theorem dX7_reading_56 : decode cX7_reading 56 = .ok (.iastore, 1) := by decide +kernel
theorem dX7_reading_57 : decode cX7_reading 57 = .ok (.aload_n 0, 1) := by decide +kernel
theorem dX7_reading_58 : decode cX7_reading 58 = .ok (.getfield 55, 3) := by decide +kernel
theorem dX7_reading_61 : decode cX7_reading 61 = .ok (.aload_n 0, 1) := by decide +kernel
theorem dX7_reading_62 : decode cX7_reading 62 = .ok (.getfield 142, 3) := by decide +kernel
theorem dX7_reading_65 : decode cX7_reading 65 = .ok (.iload_n 3, 1) := by decide +kernel
theorem dX7_reading_66 : decode cX7_reading 66 = .ok (.bastore, 1) := by decide +kernel
theorem dX7_reading_67 : decode cX7_reading 67 = .ok (.aload_n 0, 1) := by decide +kernel
theorem dX7_reading_68 : decode cX7_reading 68 = .ok (.dup, 1) := by decide +kernel
theorem dX7_reading_69 : decode cX7_reading 69 = .ok (.getfield 142, 3) := by decide +kernel
theorem dX7_reading_72 : decode cX7_reading 72 = .ok (.iconst 1, 1) := by decide +kernel
theorem dX7_reading_73 : decode cX7_reading 73 = .ok (.iadd, 1) := by decide +kernel
theorem dX7_reading_74 : decode cX7_reading 74 = .ok (.putfield 142, 3) := by decide +kernel
theorem dX7_reading_77 : decode cX7_reading 77 = .ok (.aload_n 0, 1) := by decide +kernel
theorem dX7_reading_78 : decode cX7_reading 78 = .ok (.getfield 142, 3) := by decide +kernel
theorem dX7_reading_81 : decode cX7_reading 81 = .ok (.iconst 1, 1) := by decide +kernel
theorem dX7_reading_82 : decode cX7_reading 82 = .ok (.isub, 1) := by decide +kernel
theorem dX7_reading_83 : decode cX7_reading 83 = .ok (.ireturn, 1) := by decide +kernel
theorem dX7_back_0 : decode cX7_back 0 = .ok (.iload_n 1, 1) := by decide +kernel
theorem dX7_back_1 : decode cX7_back 1 = .ok (.i2l, 1) := by decide +kernel
theorem dX7_back_2 : decode cX7_back 2 = .ok (.lconst 0, 1) := by decide +kernel
theorem dX7_back_3 : decode cX7_back 3 = .ok (.aload_n 0, 1) := by decide +kernel
theorem dX7_back_4 : decode cX7_back 4 = .ok (.getfield 142, 3) := by decide +kernel
theorem dX7_back_7 : decode cX7_back 7 = .ok (.i2l, 1) := by decide +kernel
theorem dX7_back_8 : decode cX7_back 8 = .ok (.invokestatic 87, 3) := by decide +kernel
theorem dX7_back_11 : decode cX7_back 11 = .ok (.ifCond .ne 6, 3) := by decide +kernel
theorem dX7_back_14 : decode cX7_back 14 = .ok (.bipush (-2), 2) := by decide +kernel
theorem dX7_back_16 : decode cX7_back 16 = .ok (.ireturn, 1) := by decide +kernel
theorem dX7_back_17 : decode cX7_back 17 = .ok (.aload_n 0, 1) := by decide +kernel
theorem dX7_back_18 : decode cX7_back 18 = .ok (.dup, 1) := by decide +kernel
theorem dX7_back_19 : decode cX7_back 19 = .ok (.getfield 142, 3) := by decide +kernel
theorem dX7_back_22 : decode cX7_back 22 = .ok (.iload_n 1, 1) := by decide +kernel
theorem dX7_back_23 : decode cX7_back 23 = .ok (.isub, 1) := by decide +kernel
theorem dX7_back_24 : decode cX7_back 24 = .ok (.putfield 142, 3) := by decide +kernel
theorem dX7_back_27 : decode cX7_back 27 = .ok (.aload_n 0, 1) := by decide +kernel
theorem dX7_back_28 : decode cX7_back 28 = .ok (.getfield 142, 3) := by decide +kernel
theorem dX7_back_31 : decode cX7_back 31 = .ok (.ireturn, 1) := by decide +kernel
theorem dX7_isSo_0 : decode cX7_isSo 0 = .ok (.aload_n 0, 1) := by decide +kernel
theorem dX7_isSo_1 : decode cX7_isSo 1 = .ok (.iload_n 1, 1) := by decide +kernel
theorem dX7_isSo_2 : decode cX7_isSo 2 = .ok (.invokevirtual 199, 3) := by decide +kernel
theorem dX7_isSo_5 : decode cX7_isSo 5 = .ok (.aload_n 0, 1) := by decide +kernel
theorem dX7_isSo_6 : decode cX7_isSo 6 = .ok (.invokevirtual 188, 3) := by decide +kernel
theorem dX7_isSo_9 : decode cX7_isSo 9 = .ok (.istore_n 2, 1) := by decide +kernel
theorem dX7_isSo_10 : decode cX7_isSo 10 = .ok (.iconst 0, 1) := by decide +kernel
theorem dX7_isSo_11 : decode cX7_isSo 11 = .ok (.istore_n 3, 1) := by decide +kernel
theorem dX7_isSo_12 : decode cX7_isSo 12 = .ok (.iload_n 3, 1) := by decide +kernel
theorem dX7_isSo_13 : decode cX7_isSo 13 = .ok (.aload_n 0, 1) := by decide +kernel
theorem dX7_isSo_14 : decode cX7_isSo 14 = .ok (.getfield 142, 3) := by decide +kernel
theorem dX7_isSo_17 : decode cX7_isSo 17 = .ok (.if_icmp .ge 48, 3) := by decide +kernel
theorem dX7_isSo_20 : decode cX7_isSo 20 = .ok (.iload_n 2, 1) := by decide +kernel
theorem dX7_isSo_21 : decode cX7_isSo 21 = .ok (.ifCond .eq 36, 3) := by decide +kernel
theorem dX7_isSo_24 : decode cX7_isSo 24 = .ok (.aload_n 0, 1) := by decide +kernel
theorem dX7_isSo_25 : decode cX7_isSo 25 = .ok (.getfield 43, 3) := by decide +kernel
theorem dX7_isSo_28 : decode cX7_isSo 28 = .ok (.aload_n 0, 1) := by decide +kernel
theorem dX7_isSo_29 : decode cX7_isSo 29 = .ok (.getfield 52, 3) := by decide +kernel
theorem dX7_isSo_32 : decode cX7_isSo 32 = .ok (.iload_n 3, 1) := by decide +kernel
theorem dX7_isSo_33 : decode cX7_isSo 33 = .ok (.iaload, 1) := by decide +kernel
theorem dX7_isSo_34 : decode cX7_isSo 34 = .ok (.iaload, 1) := by decide +kernel
theorem dX7_isSo_35 : decode cX7_isSo 35 = .ok (.aload_n 0, 1) := by decide +kernel
theorem dX7_isSo_36 : decode cX7_isSo 36 = .ok (.getfield 49, 3) := by decide +kernel
theorem dX7_isSo_39 : decode cX7_isSo 39 = .ok (.iload_n 3, 1) := by decide +kernel
theorem dX7_isSo_40 : decode cX7_isSo 40 = .ok (.iaload, 1) := by decide +kernel
theorem dX7_isSo_41 : decode cX7_isSo 41 = .ok (.invokestatic 157, 3) := by decide +kernel
theorem dX7_isSo_44 : decode cX7_isSo 44 = .ok (.aload_n 0, 1) := by decide +kernel
theorem dX7_isSo_45 : decode cX7_isSo 45 = .ok (.getfield 55, 3) := by decide +kernel
theorem dX7_isSo_48 : decode cX7_isSo 48 = .ok (.iload_n 3, 1) := by decide +kernel
theorem dX7_isSo_49 : decode cX7_isSo 49 = .ok (.baload, 1) := by decide +kernel
theorem dX7_isSo_50 : decode cX7_isSo 50 = .ok (.if_icmp .ne 7, 3) := by decide +kernel
theorem dX7_isSo_53 : decode cX7_isSo 53 = .ok (.iconst 1, 1) := by decide +kernel
theorem dX7_isSo_54 : decode cX7_isSo 54 = .ok (.goto 4, 3) := by decide +kernel
theorem dX7_isSo_57 : decode cX7_isSo 57 = .ok (.iconst 0, 1) := by decide +kernel
theorem dX7_isSo_58 : decode cX7_isSo 58 = .ok (.istore_n 2, 1) := by decide +kernel
theorem dX7_isSo_59 : decode cX7_isSo 59 = .ok (.iinc 3 1, 3) := by decide +kernel
theorem dX7_isSo_62 : decode cX7_isSo 62 = .ok (.goto (-50), 3) := by decide +kernel
theorem dX7_isSo_65 : decode cX7_isSo 65 = .ok (.iload_n 2, 1) := by decide +kernel
theorem dX7_isSo_66 : decode cX7_isSo 66 = .ok (.ireturn, 1) := by decide +kernel
theorem dX7_rounds_0 : decode cX7_rounds 0 = .ok (.iload_n 1, 1) := by decide +kernel
theorem dX7_rounds_1 : decode cX7_rounds 1 = .ok (.i2l, 1) := by decide +kernel
theorem dX7_rounds_2 : decode cX7_rounds 2 = .ok (.ldc2_w 206, 3) := by decide +kernel
theorem dX7_rounds_5 : decode cX7_rounds 5 = .ok (.ldc2_w 208, 3) := by decide +kernel
theorem dX7_rounds_8 : decode cX7_rounds 8 = .ok (.invokestatic 87, 3) := by decide +kernel
theorem dX7_rounds_11 : decode cX7_rounds 11 = .ok (.ifCond .ne 6, 3) := by decide +kernel
theorem dX7_rounds_14 : decode cX7_rounds 14 = .ok (.bipush (-2), 2) := by decide +kernel
theorem dX7_rounds_16 : decode cX7_rounds 16 = .ok (.ireturn, 1) := by decide +kernel
theorem dX7_rounds_17 : decode cX7_rounds 17 = .ok (.aload_n 0, 1) := by decide +kernel
theorem dX7_rounds_18 : decode cX7_rounds 18 = .ok (.getfield 84, 3) := by decide +kernel
theorem dX7_rounds_21 : decode cX7_rounds 21 = .ok (.ifCond .ne 6, 3) := by decide +kernel
theorem dX7_rounds_24 : decode cX7_rounds 24 = .ok (.bipush (-3), 2) := by decide +kernel
theorem dX7_rounds_26 : decode cX7_rounds 26 = .ok (.ireturn, 1) := by decide +kernel
theorem dX7_rounds_27 : decode cX7_rounds 27 = .ok (.iconst 0, 1) := by decide +kernel
theorem dX7_rounds_28 : decode cX7_rounds 28 = .ok (.istore_n 2, 1) := by decide +kernel
theorem dX7_rounds_29 : decode cX7_rounds 29 = .ok (.bipush (-9), 2) := by decide +kernel
theorem dX7_rounds_31 : decode cX7_rounds 31 = .ok (.istore_n 3, 1) := by decide +kernel
theorem dX7_rounds_32 : decode cX7_rounds 32 = .ok (.iconst 0, 1) := by decide +kernel
theorem dX7_rounds_33 : decode cX7_rounds 33 = .ok (.istore 4, 2) := by decide +kernel
theorem dX7_rounds_35 : decode cX7_rounds 35 = .ok (.iload 4, 2) := by decide +kernel
theorem dX7_rounds_37 : decode cX7_rounds 37 = .ok (.aload_n 0, 1) := by decide +kernel
theorem dX7_rounds_38 : decode cX7_rounds 38 = .ok (.invokevirtual 196, 3) := by decide +kernel
theorem dX7_rounds_41 : decode cX7_rounds 41 = .ok (.if_icmp .ge 32, 3) := by decide +kernel
theorem dX7_rounds_44 : decode cX7_rounds 44 = .ok (.aload_n 0, 1) := by decide +kernel
theorem dX7_rounds_45 : decode cX7_rounds 45 = .ok (.iload 4, 2) := by decide +kernel
theorem dX7_rounds_47 : decode cX7_rounds 47 = .ok (.invokevirtual 218, 3) := by decide +kernel
theorem dX7_rounds_50 : decode cX7_rounds 50 = .ok (.ifCond .eq 17, 3) := by decide +kernel
theorem dX7_rounds_53 : decode cX7_rounds 53 = .ok (.iinc 2 1, 3) := by decide +kernel
theorem dX7_rounds_56 : decode cX7_rounds 56 = .ok (.iload_n 3, 1) := by decide +kernel
theorem dX7_rounds_57 : decode cX7_rounds 57 = .ok (.ifCond .ge 8, 3) := by decide +kernel
theorem dX7_rounds_60 : decode cX7_rounds 60 = .ok (.iload 4, 2) := by decide +kernel
theorem dX7_rounds_62 : decode cX7_rounds 62 = .ok (.goto 4, 3) := by decide +kernel
theorem dX7_rounds_65 : decode cX7_rounds 65 = .ok (.iload_n 3, 1) := by decide +kernel
theorem dX7_rounds_66 : decode cX7_rounds 66 = .ok (.istore_n 3, 1) := by decide +kernel
theorem dX7_rounds_67 : decode cX7_rounds 67 = .ok (.iinc 4 1, 3) := by decide +kernel
theorem dX7_rounds_70 : decode cX7_rounds 70 = .ok (.goto (-35), 3) := by decide +kernel
theorem dX7_rounds_73 : decode cX7_rounds 73 = .ok (.iload_n 1, 1) := by decide +kernel
theorem dX7_rounds_74 : decode cX7_rounds 74 = .ok (.ifCond .ge 5, 3) := by decide +kernel
theorem dX7_rounds_77 : decode cX7_rounds 77 = .ok (.iload_n 2, 1) := by decide +kernel
theorem dX7_rounds_78 : decode cX7_rounds 78 = .ok (.ireturn, 1) := by decide +kernel
theorem dX7_rounds_79 : decode cX7_rounds 79 = .ok (.aload_n 0, 1) := by decide +kernel
theorem dX7_rounds_80 : decode cX7_rounds 80 = .ok (.iload_n 3, 1) := by decide +kernel
theorem dX7_rounds_81 : decode cX7_rounds 81 = .ok (.ifCond .ge 7, 3) := by decide +kernel
theorem dX7_rounds_84 : decode cX7_rounds 84 = .ok (.iconst 0, 1) := by decide +kernel
theorem dX7_rounds_85 : decode cX7_rounds 85 = .ok (.goto 4, 3) := by decide +kernel
theorem dX7_rounds_88 : decode cX7_rounds 88 = .ok (.iload_n 3, 1) := by decide +kernel
theorem dX7_rounds_89 : decode cX7_rounds 89 = .ok (.invokevirtual 199, 3) := by decide +kernel
theorem dX7_rounds_92 : decode cX7_rounds 92 = .ok (.aload_n 0, 1) := by decide +kernel
theorem dX7_rounds_93 : decode cX7_rounds 93 = .ok (.getfield 40, 3) := by decide +kernel
theorem dX7_rounds_96 : decode cX7_rounds 96 = .ok (.iload_n 1, 1) := by decide +kernel
theorem dX7_rounds_97 : decode cX7_rounds 97 = .ok (.iaload, 1) := by decide +kernel
theorem dX7_rounds_98 : decode cX7_rounds 98 = .ok (.ireturn, 1) := by decide +kernel
theorem dX7_sure_0 : decode cX7_sure 0 = .ok (.iload_n 1, 1) := by decide +kernel
theorem dX7_sure_1 : decode cX7_sure 1 = .ok (.i2l, 1) := by decide +kernel
theorem dX7_sure_2 : decode cX7_sure 2 = .ok (.lconst 0, 1) := by decide +kernel
theorem dX7_sure_3 : decode cX7_sure 3 = .ok (.ldc2_w 208, 3) := by decide +kernel
theorem dX7_sure_6 : decode cX7_sure 6 = .ok (.invokestatic 87, 3) := by decide +kernel
theorem dX7_sure_9 : decode cX7_sure 9 = .ok (.ifCond .ne 6, 3) := by decide +kernel
theorem dX7_sure_12 : decode cX7_sure 12 = .ok (.bipush (-2), 2) := by decide +kernel
theorem dX7_sure_14 : decode cX7_sure 14 = .ok (.ireturn, 1) := by decide +kernel
theorem dX7_sure_15 : decode cX7_sure 15 = .ok (.aload_n 0, 1) := by decide +kernel
theorem dX7_sure_16 : decode cX7_sure 16 = .ok (.getfield 84, 3) := by decide +kernel
theorem dX7_sure_19 : decode cX7_sure 19 = .ok (.ifCond .ne 6, 3) := by decide +kernel
theorem dX7_sure_22 : decode cX7_sure 22 = .ok (.bipush (-3), 2) := by decide +kernel
theorem dX7_sure_24 : decode cX7_sure 24 = .ok (.ireturn, 1) := by decide +kernel
theorem dX7_sure_25 : decode cX7_sure 25 = .ok (.iconst 0, 1) := by decide +kernel
theorem dX7_sure_26 : decode cX7_sure 26 = .ok (.istore_n 2, 1) := by decide +kernel
theorem dX7_sure_27 : decode cX7_sure 27 = .ok (.iconst 0, 1) := by decide +kernel
theorem dX7_sure_28 : decode cX7_sure 28 = .ok (.istore_n 3, 1) := by decide +kernel
theorem dX7_sure_29 : decode cX7_sure 29 = .ok (.iload_n 3, 1) := by decide +kernel
theorem dX7_sure_30 : decode cX7_sure 30 = .ok (.aload_n 0, 1) := by decide +kernel
theorem dX7_sure_31 : decode cX7_sure 31 = .ok (.invokevirtual 196, 3) := by decide +kernel
theorem dX7_sure_34 : decode cX7_sure 34 = .ok (.if_icmp .ge 41, 3) := by decide +kernel
theorem dX7_sure_37 : decode cX7_sure 37 = .ok (.aload_n 0, 1) := by decide +kernel
theorem dX7_sure_38 : decode cX7_sure 38 = .ok (.iload_n 3, 1) := by decide +kernel
theorem dX7_sure_39 : decode cX7_sure 39 = .ok (.invokevirtual 218, 3) := by decide +kernel
theorem dX7_sure_42 : decode cX7_sure 42 = .ok (.ifCond .eq 27, 3) := by decide +kernel
theorem dX7_sure_45 : decode cX7_sure 45 = .ok (.iload_n 2, 1) := by decide +kernel
theorem dX7_sure_46 : decode cX7_sure 46 = .ok (.iconst 1, 1) := by decide +kernel
theorem dX7_sure_47 : decode cX7_sure 47 = .ok (.aload_n 0, 1) := by decide +kernel
theorem dX7_sure_48 : decode cX7_sure 48 = .ok (.getfield 40, 3) := by decide +kernel
theorem dX7_sure_51 : decode cX7_sure 51 = .ok (.iload_n 1, 1) := by decide +kernel
theorem dX7_sure_52 : decode cX7_sure 52 = .ok (.iaload, 1) := by decide +kernel
theorem dX7_sure_53 : decode cX7_sure 53 = .ok (.ifCond .ge 7, 3) := by decide +kernel
theorem dX7_sure_56 : decode cX7_sure 56 = .ok (.iconst 5, 1) := by decide +kernel
theorem dX7_sure_57 : decode cX7_sure 57 = .ok (.goto 9, 3) := by decide +kernel
theorem dX7_sure_60 : decode cX7_sure 60 = .ok (.aload_n 0, 1) := by decide +kernel
theorem dX7_sure_61 : decode cX7_sure 61 = .ok (.getfield 40, 3) := by decide +kernel
theorem dX7_sure_64 : decode cX7_sure 64 = .ok (.iload_n 1, 1) := by decide +kernel
theorem dX7_sure_65 : decode cX7_sure 65 = .ok (.iaload, 1) := by decide +kernel
theorem dX7_sure_66 : decode cX7_sure 66 = .ok (.ishl, 1) := by decide +kernel
theorem dX7_sure_67 : decode cX7_sure 67 = .ok (.ior, 1) := by decide +kernel
theorem dX7_sure_68 : decode cX7_sure 68 = .ok (.istore_n 2, 1) := by decide +kernel
theorem dX7_sure_69 : decode cX7_sure 69 = .ok (.iinc 3 1, 3) := by decide +kernel
theorem dX7_sure_72 : decode cX7_sure 72 = .ok (.goto (-43), 3) := by decide +kernel
theorem dX7_sure_75 : decode cX7_sure 75 = .ok (.iload_n 2, 1) := by decide +kernel
theorem dX7_sure_76 : decode cX7_sure 76 = .ok (.ireturn, 1) := by decide +kernel
theorem dX7_seenBarred_0 : decode cX7_seenBarred 0 = .ok (.iload_n 1, 1) := by decide +kernel
theorem dX7_seenBarred_1 : decode cX7_seenBarred 1 = .ok (.invokestatic 120, 3) := by decide +kernel
theorem dX7_seenBarred_4 : decode cX7_seenBarred 4 = .ok (.ifCond .eq 9, 3) := by decide +kernel
theorem dX7_seenBarred_7 : decode cX7_seenBarred 7 = .ok (.aload_n 0, 1) := by decide +kernel
theorem dX7_seenBarred_8 : decode cX7_seenBarred 8 = .ok (.iconst (-1), 1) := by decide +kernel
theorem dX7_seenBarred_9 : decode cX7_seenBarred 9 = .ok (.invokevirtual 124, 3) := by decide +kernel
theorem dX7_seenBarred_12 : decode cX7_seenBarred 12 = .ok (.ireturn, 1) := by decide +kernel
theorem dX7_seenBarred_13 : decode cX7_seenBarred 13 = .ok (.iload_n 2, 1) := by decide +kernel
theorem dX7_seenBarred_14 : decode cX7_seenBarred 14 = .ok (.i2l, 1) := by decide +kernel
theorem dX7_seenBarred_15 : decode cX7_seenBarred 15 = .ok (.lconst 0, 1) := by decide +kernel
theorem dX7_seenBarred_16 : decode cX7_seenBarred 16 = .ok (.ldc2_w 127, 3) := by decide +kernel
theorem dX7_seenBarred_19 : decode cX7_seenBarred 19 = .ok (.invokestatic 87, 3) := by decide +kernel
theorem dX7_seenBarred_22 : decode cX7_seenBarred 22 = .ok (.ifCond .eq 16, 3) := by decide +kernel
theorem dX7_seenBarred_25 : decode cX7_seenBarred 25 = .ok (.iload 4, 2) := by decide +kernel
theorem dX7_seenBarred_27 : decode cX7_seenBarred 27 = .ok (.i2l, 1) := by decide +kernel
theorem dX7_seenBarred_28 : decode cX7_seenBarred 28 = .ok (.lconst 0, 1) := by decide +kernel
theorem dX7_seenBarred_29 : decode cX7_seenBarred 29 = .ok (.ldc2_w 221, 3) := by decide +kernel
theorem dX7_seenBarred_32 : decode cX7_seenBarred 32 = .ok (.invokestatic 87, 3) := by decide +kernel
theorem dX7_seenBarred_35 : decode cX7_seenBarred 35 = .ok (.ifCond .ne 10, 3) := by decide +kernel
theorem dX7_seenBarred_38 : decode cX7_seenBarred 38 = .ok (.aload_n 0, 1) := by decide +kernel
theorem dX7_seenBarred_39 : decode cX7_seenBarred 39 = .ok (.bipush (-2), 2) := by decide +kernel
theorem dX7_seenBarred_41 : decode cX7_seenBarred 41 = .ok (.invokevirtual 124, 3) := by decide +kernel
theorem dX7_seenBarred_44 : decode cX7_seenBarred 44 = .ok (.ireturn, 1) := by decide +kernel
theorem dX7_seenBarred_45 : decode cX7_seenBarred 45 = .ok (.aload_n 0, 1) := by decide +kernel
theorem dX7_seenBarred_46 : decode cX7_seenBarred 46 = .ok (.getfield 84, 3) := by decide +kernel
theorem dX7_seenBarred_49 : decode cX7_seenBarred 49 = .ok (.ifCond .ne 10, 3) := by decide +kernel
theorem dX7_seenBarred_52 : decode cX7_seenBarred 52 = .ok (.aload_n 0, 1) := by decide +kernel
theorem dX7_seenBarred_53 : decode cX7_seenBarred 53 = .ok (.bipush (-3), 2) := by decide +kernel
theorem dX7_seenBarred_55 : decode cX7_seenBarred 55 = .ok (.invokevirtual 124, 3) := by decide +kernel
theorem dX7_seenBarred_58 : decode cX7_seenBarred 58 = .ok (.ireturn, 1) := by decide +kernel
theorem dX7_seenBarred_59 : decode cX7_seenBarred 59 = .ok (.aload_n 0, 1) := by decide +kernel
theorem dX7_seenBarred_60 : decode cX7_seenBarred 60 = .ok (.iload_n 1, 1) := by decide +kernel
theorem dX7_seenBarred_61 : decode cX7_seenBarred 61 = .ok (.iload_n 2, 1) := by decide +kernel
theorem dX7_seenBarred_62 : decode cX7_seenBarred 62 = .ok (.iload_n 3, 1) := by decide +kernel
theorem dX7_seenBarred_63 : decode cX7_seenBarred 63 = .ok (.invokevirtual 184, 3) := by decide +kernel
theorem dX7_seenBarred_66 : decode cX7_seenBarred 66 = .ok (.istore 5, 2) := by decide +kernel
theorem dX7_seenBarred_68 : decode cX7_seenBarred 68 = .ok (.iload 5, 2) := by decide +kernel
theorem dX7_seenBarred_70 : decode cX7_seenBarred 70 = .ok (.ifCond .ge 6, 3) := by decide +kernel
theorem dX7_seenBarred_73 : decode cX7_seenBarred 73 = .ok (.iload 5, 2) := by decide +kernel
theorem dX7_seenBarred_75 : decode cX7_seenBarred 75 = .ok (.ireturn, 1) := by decide +kernel
theorem dX7_seenBarred_76 : decode cX7_seenBarred 76 = .ok (.aload_n 0, 1) := by decide +kernel
theorem dX7_seenBarred_77 : decode cX7_seenBarred 77 = .ok (.invokevirtual 188, 3) := by decide +kernel
theorem dX7_seenBarred_80 : decode cX7_seenBarred 80 = .ok (.ifCond .eq 7, 3) := by decide +kernel
theorem dX7_seenBarred_83 : decode cX7_seenBarred 83 = .ok (.iconst 0, 1) := by decide +kernel
theorem dX7_seenBarred_84 : decode cX7_seenBarred 84 = .ok (.goto 10, 3) := by decide +kernel
theorem dX7_seenBarred_87 : decode cX7_seenBarred 87 = .ok (.bipush (-100), 2) := by decide +kernel
theorem dX7_seenBarred_89 : decode cX7_seenBarred 89 = .ok (.aload_n 0, 1) := by decide +kernel
theorem dX7_seenBarred_90 : decode cX7_seenBarred 90 = .ok (.getfield 160, 3) := by decide +kernel
theorem dX7_seenBarred_93 : decode cX7_seenBarred 93 = .ok (.isub, 1) := by decide +kernel
theorem dX7_seenBarred_94 : decode cX7_seenBarred 94 = .ok (.ireturn, 1) := by decide +kernel
theorem dX7_laws_0 : decode cX7_laws 0 = .ok (.aload_n 0, 1) := by decide +kernel
theorem dX7_laws_1 : decode cX7_laws 1 = .ok (.iload_n 1, 1) := by decide +kernel
theorem dX7_laws_2 : decode cX7_laws 2 = .ok (.iload_n 2, 1) := by decide +kernel
theorem dX7_laws_3 : decode cX7_laws 3 = .ok (.iload_n 3, 1) := by decide +kernel
theorem dX7_laws_4 : decode cX7_laws 4 = .ok (.iload 4, 2) := by decide +kernel
theorem dX7_laws_6 : decode cX7_laws 6 = .ok (.invokevirtual 223, 3) := by decide +kernel
theorem dX7_laws_9 : decode cX7_laws 9 = .ok (.istore 5, 2) := by decide +kernel
theorem dX7_laws_11 : decode cX7_laws 11 = .ok (.iload 5, 2) := by decide +kernel
theorem dX7_laws_13 : decode cX7_laws 13 = .ok (.ifCond .ge 6, 3) := by decide +kernel
theorem dX7_laws_16 : decode cX7_laws 16 = .ok (.iload 5, 2) := by decide +kernel
theorem dX7_laws_18 : decode cX7_laws 18 = .ok (.ireturn, 1) := by decide +kernel
theorem dX7_laws_19 : decode cX7_laws 19 = .ok (.aload_n 0, 1) := by decide +kernel
theorem dX7_laws_20 : decode cX7_laws 20 = .ok (.getfield 139, 3) := by decide +kernel
theorem dX7_laws_23 : decode cX7_laws 23 = .ok (.istore 6, 2) := by decide +kernel
theorem dX7_laws_25 : decode cX7_laws 25 = .ok (.iconst 0, 1) := by decide +kernel
theorem dX7_laws_26 : decode cX7_laws 26 = .ok (.istore 7, 2) := by decide +kernel
theorem dX7_laws_28 : decode cX7_laws 28 = .ok (.iconst 0, 1) := by decide +kernel
theorem dX7_laws_29 : decode cX7_laws 29 = .ok (.istore 8, 2) := by decide +kernel
theorem dX7_laws_31 : decode cX7_laws 31 = .ok (.iload 8, 2) := by decide +kernel
theorem dX7_laws_33 : decode cX7_laws 33 = .ok (.iconst 4, 1) := by decide +kernel
theorem dX7_laws_34 : decode cX7_laws 34 = .ok (.if_icmp .ge 42, 3) := by decide +kernel
theorem dX7_laws_37 : decode cX7_laws 37 = .ok (.aload_n 0, 1) := by decide +kernel
theorem dX7_laws_38 : decode cX7_laws 38 = .ok (.iload 8, 2) := by decide +kernel
theorem dX7_laws_40 : decode cX7_laws 40 = .ok (.putfield 139, 3) := by decide +kernel
theorem dX7_laws_43 : decode cX7_laws 43 = .ok (.aload_n 0, 1) := by decide +kernel
theorem dX7_laws_44 : decode cX7_laws 44 = .ok (.invokevirtual 188, 3) := by decide +kernel
theorem dX7_laws_47 : decode cX7_laws 47 = .ok (.pop, 1) := by decide +kernel
theorem dX7_laws_48 : decode cX7_laws 48 = .ok (.iload 7, 2) := by decide +kernel
theorem dX7_laws_50 : decode cX7_laws 50 = .ok (.aload_n 0, 1) := by decide +kernel
theorem dX7_laws_51 : decode cX7_laws 51 = .ok (.getfield 163, 3) := by decide +kernel
theorem dX7_laws_54 : decode cX7_laws 54 = .ok (.iload 4, 2) := by decide +kernel
theorem dX7_laws_56 : decode cX7_laws 56 = .ok (.if_icmp .ne 10, 3) := by decide +kernel
theorem dX7_laws_59 : decode cX7_laws 59 = .ok (.iconst 1, 1) := by decide +kernel
theorem dX7_laws_60 : decode cX7_laws 60 = .ok (.iload 8, 2) := by decide +kernel
theorem dX7_laws_62 : decode cX7_laws 62 = .ok (.ishl, 1) := by decide +kernel
theorem dX7_laws_63 : decode cX7_laws 63 = .ok (.goto 4, 3) := by decide +kernel
theorem dX7_laws_66 : decode cX7_laws 66 = .ok (.iconst 0, 1) := by decide +kernel
theorem dX7_laws_67 : decode cX7_laws 67 = .ok (.ior, 1) := by decide +kernel
theorem dX7_laws_68 : decode cX7_laws 68 = .ok (.istore 7, 2) := by decide +kernel
theorem dX7_laws_70 : decode cX7_laws 70 = .ok (.iinc 8 1, 3) := by decide +kernel
theorem dX7_laws_73 : decode cX7_laws 73 = .ok (.goto (-42), 3) := by decide +kernel
theorem dX7_laws_76 : decode cX7_laws 76 = .ok (.aload_n 0, 1) := by decide +kernel
theorem dX7_laws_77 : decode cX7_laws 77 = .ok (.iload 6, 2) := by decide +kernel
theorem dX7_laws_79 : decode cX7_laws 79 = .ok (.putfield 139, 3) := by decide +kernel
theorem dX7_laws_82 : decode cX7_laws 82 = .ok (.iload 7, 2) := by decide +kernel
theorem dX7_laws_84 : decode cX7_laws 84 = .ok (.ireturn, 1) := by decide +kernel
theorem dX7_used_0 : decode cX7_used 0 = .ok (.aload_n 0, 1) := by decide +kernel
theorem dX7_used_1 : decode cX7_used 1 = .ok (.iload_n 1, 1) := by decide +kernel
theorem dX7_used_2 : decode cX7_used 2 = .ok (.invokevirtual 145, 3) := by decide +kernel
theorem dX7_used_5 : decode cX7_used 5 = .ok (.ifCond .eq 9, 3) := by decide +kernel
theorem dX7_used_8 : decode cX7_used 8 = .ok (.aload_n 0, 1) := by decide +kernel
theorem dX7_used_9 : decode cX7_used 9 = .ok (.iconst (-1), 1) := by decide +kernel
theorem dX7_used_10 : decode cX7_used 10 = .ok (.invokevirtual 124, 3) := by decide +kernel
theorem dX7_used_13 : decode cX7_used 13 = .ok (.ireturn, 1) := by decide +kernel
theorem dX7_used_14 : decode cX7_used 14 = .ok (.aload_n 0, 1) := by decide +kernel
theorem dX7_used_15 : decode cX7_used 15 = .ok (.iload_n 2, 1) := by decide +kernel
theorem dX7_used_16 : decode cX7_used 16 = .ok (.iload_n 3, 1) := by decide +kernel
theorem dX7_used_17 : decode cX7_used 17 = .ok (.iload 4, 2) := by decide +kernel
theorem dX7_used_19 : decode cX7_used 19 = .ok (.iload 5, 2) := by decide +kernel
theorem dX7_used_21 : decode cX7_used 21 = .ok (.invokevirtual 223, 3) := by decide +kernel
theorem dX7_used_24 : decode cX7_used 24 = .ok (.istore 6, 2) := by decide +kernel
theorem dX7_used_26 : decode cX7_used 26 = .ok (.iload 6, 2) := by decide +kernel
theorem dX7_used_28 : decode cX7_used 28 = .ok (.ifCond .ge 6, 3) := by decide +kernel
theorem dX7_used_31 : decode cX7_used 31 = .ok (.iload 6, 2) := by decide +kernel
theorem dX7_used_33 : decode cX7_used 33 = .ok (.ireturn, 1) := by decide +kernel
theorem dX7_used_34 : decode cX7_used 34 = .ok (.aload_n 0, 1) := by decide +kernel
theorem dX7_used_35 : decode cX7_used 35 = .ok (.getfield 22, 3) := by decide +kernel
theorem dX7_used_38 : decode cX7_used 38 = .ok (.iload_n 1, 1) := by decide +kernel
theorem dX7_used_39 : decode cX7_used 39 = .ok (.iaload, 1) := by decide +kernel
theorem dX7_used_40 : decode cX7_used 40 = .ok (.istore 7, 2) := by decide +kernel
theorem dX7_used_42 : decode cX7_used 42 = .ok (.iconst 0, 1) := by decide +kernel
theorem dX7_used_43 : decode cX7_used 43 = .ok (.istore 8, 2) := by decide +kernel
theorem dX7_used_45 : decode cX7_used 45 = .ok (.iconst 0, 1) := by decide +kernel
theorem dX7_used_46 : decode cX7_used 46 = .ok (.istore 9, 2) := by decide +kernel
theorem dX7_used_48 : decode cX7_used 48 = .ok (.iload 9, 2) := by decide +kernel
theorem dX7_used_50 : decode cX7_used 50 = .ok (.bipush 64, 2) := by decide +kernel
theorem dX7_used_52 : decode cX7_used 52 = .ok (.if_icmp .ge 41, 3) := by decide +kernel
theorem dX7_used_55 : decode cX7_used 55 = .ok (.aload_n 0, 1) := by decide +kernel
theorem dX7_used_56 : decode cX7_used 56 = .ok (.getfield 22, 3) := by decide +kernel
theorem dX7_used_59 : decode cX7_used 59 = .ok (.iload_n 1, 1) := by decide +kernel
theorem dX7_used_60 : decode cX7_used 60 = .ok (.iload 9, 2) := by decide +kernel
theorem dX7_used_62 : decode cX7_used 62 = .ok (.iastore, 1) := by decide +kernel
theorem dX7_used_63 : decode cX7_used 63 = .ok (.aload_n 0, 1) := by decide +kernel
theorem dX7_used_64 : decode cX7_used 64 = .ok (.invokevirtual 188, 3) := by decide +kernel
theorem dX7_used_67 : decode cX7_used 67 = .ok (.pop, 1) := by decide +kernel
theorem dX7_used_68 : decode cX7_used 68 = .ok (.iload 8, 2) := by decide +kernel
theorem dX7_used_70 : decode cX7_used 70 = .ok (.aload_n 0, 1) := by decide +kernel
theorem dX7_used_71 : decode cX7_used 71 = .ok (.getfield 166, 3) := by decide +kernel
theorem dX7_used_74 : decode cX7_used 74 = .ok (.iload 5, 2) := by decide +kernel
theorem dX7_used_76 : decode cX7_used 76 = .ok (.if_icmp .ne 7, 3) := by decide +kernel
theorem dX7_used_79 : decode cX7_used 79 = .ok (.iconst 1, 1) := by decide +kernel
theorem dX7_used_80 : decode cX7_used 80 = .ok (.goto 4, 3) := by decide +kernel
theorem dX7_used_83 : decode cX7_used 83 = .ok (.iconst 0, 1) := by decide +kernel
theorem dX7_used_84 : decode cX7_used 84 = .ok (.iadd, 1) := by decide +kernel
theorem dX7_used_85 : decode cX7_used 85 = .ok (.istore 8, 2) := by decide +kernel
theorem dX7_used_87 : decode cX7_used 87 = .ok (.iinc 9 1, 3) := by decide +kernel
theorem dX7_used_90 : decode cX7_used 90 = .ok (.goto (-42), 3) := by decide +kernel
theorem dX7_used_93 : decode cX7_used 93 = .ok (.aload_n 0, 1) := by decide +kernel
theorem dX7_used_94 : decode cX7_used 94 = .ok (.getfield 22, 3) := by decide +kernel
theorem dX7_used_97 : decode cX7_used 97 = .ok (.iload_n 1, 1) := by decide +kernel
theorem dX7_used_98 : decode cX7_used 98 = .ok (.iload 7, 2) := by decide +kernel
theorem dX7_used_100 : decode cX7_used 100 = .ok (.iastore, 1) := by decide +kernel
theorem dX7_used_101 : decode cX7_used 101 = .ok (.iload 8, 2) := by decide +kernel
theorem dX7_used_103 : decode cX7_used 103 = .ok (.ireturn, 1) := by decide +kernel
theorem dX7_refusedLong_0 : decode cX7_refusedLong 0 = .ok (.aload_n 0, 1) := by decide +kernel
theorem dX7_refusedLong_1 : decode cX7_refusedLong 1 = .ok (.iconst 0, 1) := by decide +kernel
theorem dX7_refusedLong_2 : decode cX7_refusedLong 2 = .ok (.putfield 77, 3) := by decide +kernel
theorem dX7_refusedLong_5 : decode cX7_refusedLong 5 = .ok (.invokestatic 80, 3) := by decide +kernel
theorem dX7_refusedLong_8 : decode cX7_refusedLong 8 = .ok (.lreturn, 1) := by decide +kernel
theorem dX7_odds_0 : decode cX7_odds 0 = .ok (.iload_n 1, 1) := by decide +kernel
theorem dX7_odds_1 : decode cX7_odds 1 = .ok (.invokestatic 120, 3) := by decide +kernel
theorem dX7_odds_4 : decode cX7_odds 4 = .ok (.ifCond .ne 46, 3) := by decide +kernel
theorem dX7_odds_7 : decode cX7_odds 7 = .ok (.iload_n 2, 1) := by decide +kernel
theorem dX7_odds_8 : decode cX7_odds 8 = .ok (.i2l, 1) := by decide +kernel
theorem dX7_odds_9 : decode cX7_odds 9 = .ok (.lconst 0, 1) := by decide +kernel
theorem dX7_odds_10 : decode cX7_odds 10 = .ok (.ldc2_w 127, 3) := by decide +kernel
theorem dX7_odds_13 : decode cX7_odds 13 = .ok (.invokestatic 87, 3) := by decide +kernel
theorem dX7_odds_16 : decode cX7_odds 16 = .ok (.ifCond .eq 34, 3) := by decide +kernel
theorem dX7_odds_19 : decode cX7_odds 19 = .ok (.iload 4, 2) := by decide +kernel
theorem dX7_odds_21 : decode cX7_odds 21 = .ok (.i2l, 1) := by decide +kernel
theorem dX7_odds_22 : decode cX7_odds 22 = .ok (.lconst 0, 1) := by decide +kernel
theorem dX7_odds_23 : decode cX7_odds 23 = .ok (.ldc2_w 213, 3) := by decide +kernel
theorem dX7_odds_26 : decode cX7_odds 26 = .ok (.invokestatic 87, 3) := by decide +kernel
theorem dX7_odds_29 : decode cX7_odds 29 = .ok (.ifCond .eq 21, 3) := by decide +kernel
theorem dX7_odds_32 : decode cX7_odds 32 = .ok (.iload 5, 2) := by decide +kernel
theorem dX7_odds_34 : decode cX7_odds 34 = .ok (.i2l, 1) := by decide +kernel
theorem dX7_odds_35 : decode cX7_odds 35 = .ok (.lconst 0, 1) := by decide +kernel
theorem dX7_odds_36 : decode cX7_odds 36 = .ok (.lconst 1, 1) := by decide +kernel
theorem dX7_odds_37 : decode cX7_odds 37 = .ok (.invokestatic 87, 3) := by decide +kernel
theorem dX7_odds_40 : decode cX7_odds 40 = .ok (.ifCond .eq 10, 3) := by decide +kernel
theorem dX7_odds_43 : decode cX7_odds 43 = .ok (.aload_n 0, 1) := by decide +kernel
theorem dX7_odds_44 : decode cX7_odds 44 = .ok (.getfield 84, 3) := by decide +kernel
theorem dX7_odds_47 : decode cX7_odds 47 = .ok (.ifCond .ne 8, 3) := by decide +kernel
theorem dX7_odds_50 : decode cX7_odds 50 = .ok (.aload_n 0, 1) := by decide +kernel
theorem dX7_odds_51 : decode cX7_odds 51 = .ok (.invokevirtual 226, 3) := by decide +kernel
theorem dX7_odds_54 : decode cX7_odds 54 = .ok (.lreturn, 1) := by decide +kernel
theorem dX7_odds_55 : decode cX7_odds 55 = .ok (.aload_n 0, 1) := by decide +kernel
theorem dX7_odds_56 : decode cX7_odds 56 = .ok (.iload_n 1, 1) := by decide +kernel
theorem dX7_odds_57 : decode cX7_odds 57 = .ok (.iload_n 2, 1) := by decide +kernel
theorem dX7_odds_58 : decode cX7_odds 58 = .ok (.iload_n 3, 1) := by decide +kernel
theorem dX7_odds_59 : decode cX7_odds 59 = .ok (.invokevirtual 184, 3) := by decide +kernel
theorem dX7_odds_62 : decode cX7_odds 62 = .ok (.ifCond .lt 10, 3) := by decide +kernel
theorem dX7_odds_65 : decode cX7_odds 65 = .ok (.aload_n 0, 1) := by decide +kernel
theorem dX7_odds_66 : decode cX7_odds 66 = .ok (.invokevirtual 188, 3) := by decide +kernel
theorem dX7_odds_69 : decode cX7_odds 69 = .ok (.ifCond .ne 7, 3) := by decide +kernel
theorem dX7_odds_72 : decode cX7_odds 72 = .ok (.invokestatic 80, 3) := by decide +kernel
theorem dX7_odds_75 : decode cX7_odds 75 = .ok (.lreturn, 1) := by decide +kernel
theorem dX7_odds_76 : decode cX7_odds 76 = .ok (.lconst 1, 1) := by decide +kernel
theorem dX7_odds_77 : decode cX7_odds 77 = .ok (.lstore 6, 2) := by decide +kernel
theorem dX7_odds_79 : decode cX7_odds 79 = .ok (.lconst 0, 1) := by decide +kernel
theorem dX7_odds_80 : decode cX7_odds 80 = .ok (.lstore 8, 2) := by decide +kernel
theorem dX7_odds_82 : decode cX7_odds 82 = .ok (.iconst 0, 1) := by decide +kernel
theorem dX7_odds_83 : decode cX7_odds 83 = .ok (.istore 10, 2) := by decide +kernel
theorem dX7_odds_85 : decode cX7_odds 85 = .ok (.iload 10, 2) := by decide +kernel
theorem dX7_odds_87 : decode cX7_odds 87 = .ok (.aload_n 0, 1) := by decide +kernel
theorem dX7_odds_88 : decode cX7_odds 88 = .ok (.getfield 166, 3) := by decide +kernel
theorem dX7_odds_91 : decode cX7_odds 91 = .ok (.if_icmp .gt 42, 3) := by decide +kernel
theorem dX7_odds_94 : decode cX7_odds 94 = .ok (.iload 10, 2) := by decide +kernel
theorem dX7_odds_96 : decode cX7_odds 96 = .ok (.iload 4, 2) := by decide +kernel
theorem dX7_odds_98 : decode cX7_odds 98 = .ok (.if_icmp .gt 35, 3) := by decide +kernel
theorem dX7_odds_101 : decode cX7_odds 101 = .ok (.lload 8, 2) := by decide +kernel
theorem dX7_odds_103 : decode cX7_odds 103 = .ok (.lload 6, 2) := by decide +kernel
theorem dX7_odds_105 : decode cX7_odds 105 = .ok (.ladd, 1) := by decide +kernel
theorem dX7_odds_106 : decode cX7_odds 106 = .ok (.lstore 8, 2) := by decide +kernel
theorem dX7_odds_108 : decode cX7_odds 108 = .ok (.lload 6, 2) := by decide +kernel
theorem dX7_odds_110 : decode cX7_odds 110 = .ok (.aload_n 0, 1) := by decide +kernel
theorem dX7_odds_111 : decode cX7_odds 111 = .ok (.getfield 166, 3) := by decide +kernel
theorem dX7_odds_114 : decode cX7_odds 114 = .ok (.iload 10, 2) := by decide +kernel
theorem dX7_odds_116 : decode cX7_odds 116 = .ok (.isub, 1) := by decide +kernel
theorem dX7_odds_117 : decode cX7_odds 117 = .ok (.i2l, 1) := by decide +kernel
theorem dX7_odds_118 : decode cX7_odds 118 = .ok (.lmul, 1) := by decide +kernel
theorem dX7_odds_119 : decode cX7_odds 119 = .ok (.iload 10, 2) := by decide +kernel
theorem dX7_odds_121 : decode cX7_odds 121 = .ok (.iconst 1, 1) := by decide +kernel
theorem dX7_odds_122 : decode cX7_odds 122 = .ok (.iadd, 1) := by decide +kernel
theorem dX7_odds_123 : decode cX7_odds 123 = .ok (.i2l, 1) := by decide +kernel
theorem dX7_odds_124 : decode cX7_odds 124 = .ok (.ldiv, 1) := by decide +kernel
theorem dX7_odds_125 : decode cX7_odds 125 = .ok (.lstore 6, 2) := by decide +kernel
theorem dX7_odds_127 : decode cX7_odds 127 = .ok (.iinc 10 1, 3) := by decide +kernel
theorem dX7_odds_130 : decode cX7_odds 130 = .ok (.goto (-45), 3) := by decide +kernel
theorem dX7_odds_133 : decode cX7_odds 133 = .ok (.lload 8, 2) := by decide +kernel
theorem dX7_odds_135 : decode cX7_odds 135 = .ok (.lconst 1, 1) := by decide +kernel
theorem dX7_odds_136 : decode cX7_odds 136 = .ok (.aload_n 0, 1) := by decide +kernel
theorem dX7_odds_137 : decode cX7_odds 137 = .ok (.getfield 166, 3) := by decide +kernel
theorem dX7_odds_140 : decode cX7_odds 140 = .ok (.lshl, 1) := by decide +kernel
theorem dX7_odds_141 : decode cX7_odds 141 = .ok (.iload 5, 2) := by decide +kernel
theorem dX7_odds_143 : decode cX7_odds 143 = .ok (.invokestatic 229, 3) := by decide +kernel
theorem dX7_odds_146 : decode cX7_odds 146 = .ok (.lreturn, 1) := by decide +kernel
theorem dX7_noSheet_0 : decode cX7_noSheet 0 = .ok (.iload_n 0, 1) := by decide +kernel
theorem dX7_noSheet_1 : decode cX7_noSheet 1 = .ok (.i2l, 1) := by decide +kernel
theorem dX7_noSheet_2 : decode cX7_noSheet 2 = .ok (.lconst 0, 1) := by decide +kernel
theorem dX7_noSheet_3 : decode cX7_noSheet 3 = .ok (.ldc2_w 153, 3) := by decide +kernel
theorem dX7_noSheet_6 : decode cX7_noSheet 6 = .ok (.invokestatic 87, 3) := by decide +kernel
theorem dX7_noSheet_9 : decode cX7_noSheet 9 = .ok (.ifCond .ne 7, 3) := by decide +kernel
theorem dX7_noSheet_12 : decode cX7_noSheet 12 = .ok (.iconst 1, 1) := by decide +kernel
theorem dX7_noSheet_13 : decode cX7_noSheet 13 = .ok (.goto 4, 3) := by decide +kernel
theorem dX7_noSheet_16 : decode cX7_noSheet 16 = .ok (.iconst 0, 1) := by decide +kernel
theorem dX7_noSheet_17 : decode cX7_noSheet 17 = .ok (.ireturn, 1) := by decide +kernel
theorem dX7_sheet_0 : decode cX7_sheet 0 = .ok (.iload_n 1, 1) := by decide +kernel
theorem dX7_sheet_1 : decode cX7_sheet 1 = .ok (.invokestatic 120, 3) := by decide +kernel
theorem dX7_sheet_4 : decode cX7_sheet 4 = .ok (.ifCond .eq 9, 3) := by decide +kernel
theorem dX7_sheet_7 : decode cX7_sheet 7 = .ok (.aload_n 0, 1) := by decide +kernel
theorem dX7_sheet_8 : decode cX7_sheet 8 = .ok (.iconst (-1), 1) := by decide +kernel
theorem dX7_sheet_9 : decode cX7_sheet 9 = .ok (.invokevirtual 124, 3) := by decide +kernel
theorem dX7_sheet_12 : decode cX7_sheet 12 = .ok (.ireturn, 1) := by decide +kernel
theorem dX7_sheet_13 : decode cX7_sheet 13 = .ok (.iload_n 2, 1) := by decide +kernel
theorem dX7_sheet_14 : decode cX7_sheet 14 = .ok (.i2l, 1) := by decide +kernel
theorem dX7_sheet_15 : decode cX7_sheet 15 = .ok (.lconst 0, 1) := by decide +kernel
theorem dX7_sheet_16 : decode cX7_sheet 16 = .ok (.ldc2_w 127, 3) := by decide +kernel
theorem dX7_sheet_19 : decode cX7_sheet 19 = .ok (.invokestatic 87, 3) := by decide +kernel
theorem dX7_sheet_22 : decode cX7_sheet 22 = .ok (.ifCond .eq 9, 3) := by decide +kernel
theorem dX7_sheet_25 : decode cX7_sheet 25 = .ok (.iload_n 3, 1) := by decide +kernel
theorem dX7_sheet_26 : decode cX7_sheet 26 = .ok (.bipush 60, 2) := by decide +kernel
theorem dX7_sheet_28 : decode cX7_sheet 28 = .ok (.if_icmp .le 10, 3) := by decide +kernel
theorem dX7_sheet_31 : decode cX7_sheet 31 = .ok (.aload_n 0, 1) := by decide +kernel
theorem dX7_sheet_32 : decode cX7_sheet 32 = .ok (.bipush (-2), 2) := by decide +kernel
theorem dX7_sheet_34 : decode cX7_sheet 34 = .ok (.invokevirtual 124, 3) := by decide +kernel
theorem dX7_sheet_37 : decode cX7_sheet 37 = .ok (.ireturn, 1) := by decide +kernel
theorem dX7_sheet_38 : decode cX7_sheet 38 = .ok (.iload_n 3, 1) := by decide +kernel
theorem dX7_sheet_39 : decode cX7_sheet 39 = .ok (.ifCond .ge 9, 3) := by decide +kernel
theorem dX7_sheet_42 : decode cX7_sheet 42 = .ok (.aload_n 0, 1) := by decide +kernel
theorem dX7_sheet_43 : decode cX7_sheet 43 = .ok (.iconst 4, 1) := by decide +kernel
theorem dX7_sheet_44 : decode cX7_sheet 44 = .ok (.invokevirtual 112, 3) := by decide +kernel
theorem dX7_sheet_47 : decode cX7_sheet 47 = .ok (.ireturn, 1) := by decide +kernel
theorem dX7_sheet_48 : decode cX7_sheet 48 = .ok (.aload_n 0, 1) := by decide +kernel
theorem dX7_sheet_49 : decode cX7_sheet 49 = .ok (.getfield 59, 3) := by decide +kernel
theorem dX7_sheet_52 : decode cX7_sheet 52 = .ok (.iload_n 1, 1) := by decide +kernel
theorem dX7_sheet_53 : decode cX7_sheet 53 = .ok (.iload_n 3, 1) := by decide +kernel
theorem dX7_sheet_54 : decode cX7_sheet 54 = .ok (.iastore, 1) := by decide +kernel
theorem dX7_sheet_55 : decode cX7_sheet 55 = .ok (.aload_n 0, 1) := by decide +kernel
theorem dX7_sheet_56 : decode cX7_sheet 56 = .ok (.getfield 62, 3) := by decide +kernel
theorem dX7_sheet_59 : decode cX7_sheet 59 = .ok (.iload_n 1, 1) := by decide +kernel
theorem dX7_sheet_60 : decode cX7_sheet 60 = .ok (.iload_n 2, 1) := by decide +kernel
theorem dX7_sheet_61 : decode cX7_sheet 61 = .ok (.iastore, 1) := by decide +kernel
theorem dX7_sheet_62 : decode cX7_sheet 62 = .ok (.iconst 0, 1) := by decide +kernel
theorem dX7_sheet_63 : decode cX7_sheet 63 = .ok (.istore 4, 2) := by decide +kernel
theorem dX7_sheet_65 : decode cX7_sheet 65 = .ok (.iload 4, 2) := by decide +kernel
theorem dX7_sheet_67 : decode cX7_sheet 67 = .ok (.iload_n 3, 1) := by decide +kernel
theorem dX7_sheet_68 : decode cX7_sheet 68 = .ok (.if_icmp .ge 22, 3) := by decide +kernel
theorem dX7_sheet_71 : decode cX7_sheet 71 = .ok (.aload_n 0, 1) := by decide +kernel
theorem dX7_sheet_72 : decode cX7_sheet 72 = .ok (.getfield 65, 3) := by decide +kernel
theorem dX7_sheet_75 : decode cX7_sheet 75 = .ok (.bipush 60, 2) := by decide +kernel
theorem dX7_sheet_77 : decode cX7_sheet 77 = .ok (.iload_n 1, 1) := by decide +kernel
theorem dX7_sheet_78 : decode cX7_sheet 78 = .ok (.imul, 1) := by decide +kernel
theorem dX7_sheet_79 : decode cX7_sheet 79 = .ok (.iload 4, 2) := by decide +kernel
theorem dX7_sheet_81 : decode cX7_sheet 81 = .ok (.iadd, 1) := by decide +kernel
theorem dX7_sheet_82 : decode cX7_sheet 82 = .ok (.iconst 0, 1) := by decide +kernel
theorem dX7_sheet_83 : decode cX7_sheet 83 = .ok (.iastore, 1) := by decide +kernel
theorem dX7_sheet_84 : decode cX7_sheet 84 = .ok (.iinc 4 1, 3) := by decide +kernel
theorem dX7_sheet_87 : decode cX7_sheet 87 = .ok (.goto (-22), 3) := by decide +kernel
theorem dX7_sheet_90 : decode cX7_sheet 90 = .ok (.aload_n 0, 1) := by decide +kernel
theorem dX7_sheet_91 : decode cX7_sheet 91 = .ok (.iconst 1, 1) := by decide +kernel
theorem dX7_sheet_92 : decode cX7_sheet 92 = .ok (.invokevirtual 124, 3) := by decide +kernel
theorem dX7_sheet_95 : decode cX7_sheet 95 = .ok (.ireturn, 1) := by decide +kernel
theorem dX7_lose_0 : decode cX7_lose 0 = .ok (.iload_n 1, 1) := by decide +kernel
theorem dX7_lose_1 : decode cX7_lose 1 = .ok (.invokestatic 120, 3) := by decide +kernel
theorem dX7_lose_4 : decode cX7_lose 4 = .ok (.ifCond .eq 5, 3) := by decide +kernel
theorem dX7_lose_7 : decode cX7_lose 7 = .ok (.iconst (-1), 1) := by decide +kernel
theorem dX7_lose_8 : decode cX7_lose 8 = .ok (.ireturn, 1) := by decide +kernel
theorem dX7_lose_9 : decode cX7_lose 9 = .ok (.aload_n 0, 1) := by decide +kernel
theorem dX7_lose_10 : decode cX7_lose 10 = .ok (.getfield 59, 3) := by decide +kernel
theorem dX7_lose_13 : decode cX7_lose 13 = .ok (.iload_n 1, 1) := by decide +kernel
theorem dX7_lose_14 : decode cX7_lose 14 = .ok (.iaload, 1) := by decide +kernel
theorem dX7_lose_15 : decode cX7_lose 15 = .ok (.ifCond .ge 7, 3) := by decide +kernel
theorem dX7_lose_18 : decode cX7_lose 18 = .ok (.iconst 0, 1) := by decide +kernel
theorem dX7_lose_19 : decode cX7_lose 19 = .ok (.goto 4, 3) := by decide +kernel
theorem dX7_lose_22 : decode cX7_lose 22 = .ok (.iconst 1, 1) := by decide +kernel
theorem dX7_lose_23 : decode cX7_lose 23 = .ok (.istore_n 2, 1) := by decide +kernel
theorem dX7_lose_24 : decode cX7_lose 24 = .ok (.aload_n 0, 1) := by decide +kernel
theorem dX7_lose_25 : decode cX7_lose 25 = .ok (.getfield 59, 3) := by decide +kernel
theorem dX7_lose_28 : decode cX7_lose 28 = .ok (.iload_n 1, 1) := by decide +kernel
theorem dX7_lose_29 : decode cX7_lose 29 = .ok (.iconst (-1), 1) := by decide +kernel
theorem dX7_lose_30 : decode cX7_lose 30 = .ok (.iastore, 1) := by decide +kernel
theorem dX7_lose_31 : decode cX7_lose 31 = .ok (.iload_n 2, 1) := by decide +kernel
theorem dX7_lose_32 : decode cX7_lose 32 = .ok (.ireturn, 1) := by decide +kernel
theorem dX7_noCell_0 : decode cX7_noCell 0 = .ok (.aload_n 0, 1) := by decide +kernel
theorem dX7_noCell_1 : decode cX7_noCell 1 = .ok (.getfield 59, 3) := by decide +kernel
theorem dX7_noCell_4 : decode cX7_noCell 4 = .ok (.iload_n 1, 1) := by decide +kernel
theorem dX7_noCell_5 : decode cX7_noCell 5 = .ok (.iaload, 1) := by decide +kernel
end
section
theorem dX7_noCell_6 : decode cX7_noCell 6 = .ok (.ifCond .ge 7, 3) := by decide +kernel
theorem dX7_noCell_9 : decode cX7_noCell 9 = .ok (.iconst 1, 1) := by decide +kernel
theorem dX7_noCell_10 : decode cX7_noCell 10 = .ok (.goto 26, 3) := by decide +kernel
theorem dX7_noCell_13 : decode cX7_noCell 13 = .ok (.iload_n 2, 1) := by decide +kernel
theorem dX7_noCell_14 : decode cX7_noCell 14 = .ok (.i2l, 1) := by decide +kernel
theorem dX7_noCell_15 : decode cX7_noCell 15 = .ok (.lconst 0, 1) := by decide +kernel
theorem dX7_noCell_16 : decode cX7_noCell 16 = .ok (.aload_n 0, 1) := by decide +kernel
theorem dX7_noCell_17 : decode cX7_noCell 17 = .ok (.getfield 59, 3) := by decide +kernel
theorem dX7_noCell_20 : decode cX7_noCell 20 = .ok (.iload_n 1, 1) := by decide +kernel
theorem dX7_noCell_21 : decode cX7_noCell 21 = .ok (.iaload, 1) := by decide +kernel
theorem dX7_noCell_22 : decode cX7_noCell 22 = .ok (.i2l, 1) := by decide +kernel
theorem dX7_noCell_23 : decode cX7_noCell 23 = .ok (.lconst 1, 1) := by decide +kernel
theorem dX7_noCell_24 : decode cX7_noCell 24 = .ok (.lsub, 1) := by decide +kernel
theorem dX7_noCell_25 : decode cX7_noCell 25 = .ok (.invokestatic 87, 3) := by decide +kernel
theorem dX7_noCell_28 : decode cX7_noCell 28 = .ok (.ifCond .eq 7, 3) := by decide +kernel
theorem dX7_noCell_31 : decode cX7_noCell 31 = .ok (.iconst 0, 1) := by decide +kernel
theorem dX7_noCell_32 : decode cX7_noCell 32 = .ok (.goto 4, 3) := by decide +kernel
theorem dX7_noCell_35 : decode cX7_noCell 35 = .ok (.iconst 3, 1) := by decide +kernel
theorem dX7_noCell_36 : decode cX7_noCell 36 = .ok (.ireturn, 1) := by decide +kernel
theorem dX7_put_0 : decode cX7_put 0 = .ok (.iload_n 1, 1) := by decide +kernel
theorem dX7_put_1 : decode cX7_put 1 = .ok (.invokestatic 120, 3) := by decide +kernel
theorem dX7_put_4 : decode cX7_put 4 = .ok (.ifCond .eq 9, 3) := by decide +kernel
theorem dX7_put_7 : decode cX7_put 7 = .ok (.aload_n 0, 1) := by decide +kernel
theorem dX7_put_8 : decode cX7_put 8 = .ok (.iconst (-1), 1) := by decide +kernel
theorem dX7_put_9 : decode cX7_put 9 = .ok (.invokevirtual 124, 3) := by decide +kernel
theorem dX7_put_12 : decode cX7_put 12 = .ok (.ireturn, 1) := by decide +kernel
theorem dX7_put_13 : decode cX7_put 13 = .ok (.aload_n 0, 1) := by decide +kernel
theorem dX7_put_14 : decode cX7_put 14 = .ok (.iload_n 1, 1) := by decide +kernel
theorem dX7_put_15 : decode cX7_put 15 = .ok (.iload_n 2, 1) := by decide +kernel
theorem dX7_put_16 : decode cX7_put 16 = .ok (.invokevirtual 233, 3) := by decide +kernel
theorem dX7_put_19 : decode cX7_put 19 = .ok (.ifCond .le 14, 3) := by decide +kernel
theorem dX7_put_22 : decode cX7_put 22 = .ok (.aload_n 0, 1) := by decide +kernel
theorem dX7_put_23 : decode cX7_put 23 = .ok (.aload_n 0, 1) := by decide +kernel
theorem dX7_put_24 : decode cX7_put 24 = .ok (.iload_n 1, 1) := by decide +kernel
theorem dX7_put_25 : decode cX7_put 25 = .ok (.iload_n 2, 1) := by decide +kernel
theorem dX7_put_26 : decode cX7_put 26 = .ok (.invokevirtual 233, 3) := by decide +kernel
theorem dX7_put_29 : decode cX7_put 29 = .ok (.invokevirtual 112, 3) := by decide +kernel
theorem dX7_put_32 : decode cX7_put 32 = .ok (.ireturn, 1) := by decide +kernel
theorem dX7_put_33 : decode cX7_put 33 = .ok (.aload_n 0, 1) := by decide +kernel
theorem dX7_put_34 : decode cX7_put 34 = .ok (.getfield 65, 3) := by decide +kernel
theorem dX7_put_37 : decode cX7_put 37 = .ok (.bipush 60, 2) := by decide +kernel
theorem dX7_put_39 : decode cX7_put 39 = .ok (.iload_n 1, 1) := by decide +kernel
theorem dX7_put_40 : decode cX7_put 40 = .ok (.imul, 1) := by decide +kernel
theorem dX7_put_41 : decode cX7_put 41 = .ok (.iload_n 2, 1) := by decide +kernel
theorem dX7_put_42 : decode cX7_put 42 = .ok (.iadd, 1) := by decide +kernel
theorem dX7_put_43 : decode cX7_put 43 = .ok (.aload_n 0, 1) := by decide +kernel
theorem dX7_put_44 : decode cX7_put 44 = .ok (.getfield 62, 3) := by decide +kernel
theorem dX7_put_47 : decode cX7_put 47 = .ok (.iload_n 1, 1) := by decide +kernel
theorem dX7_put_48 : decode cX7_put 48 = .ok (.iaload, 1) := by decide +kernel
theorem dX7_put_49 : decode cX7_put 49 = .ok (.ifCond .ne 8, 3) := by decide +kernel
theorem dX7_put_52 : decode cX7_put 52 = .ok (.iload_n 3, 1) := by decide +kernel
theorem dX7_put_53 : decode cX7_put 53 = .ok (.i2b, 1) := by decide +kernel
theorem dX7_put_54 : decode cX7_put 54 = .ok (.goto 19, 3) := by decide +kernel
theorem dX7_put_57 : decode cX7_put 57 = .ok (.aload_n 0, 1) := by decide +kernel
theorem dX7_put_58 : decode cX7_put 58 = .ok (.getfield 62, 3) := by decide +kernel
theorem dX7_put_61 : decode cX7_put 61 = .ok (.iload_n 1, 1) := by decide +kernel
theorem dX7_put_62 : decode cX7_put 62 = .ok (.iaload, 1) := by decide +kernel
theorem dX7_put_63 : decode cX7_put 63 = .ok (.iconst 1, 1) := by decide +kernel
theorem dX7_put_64 : decode cX7_put 64 = .ok (.if_icmp .ne 8, 3) := by decide +kernel
theorem dX7_put_67 : decode cX7_put 67 = .ok (.iload_n 3, 1) := by decide +kernel
theorem dX7_put_68 : decode cX7_put 68 = .ok (.i2s, 1) := by decide +kernel
theorem dX7_put_69 : decode cX7_put 69 = .ok (.goto 4, 3) := by decide +kernel
theorem dX7_put_72 : decode cX7_put 72 = .ok (.iload_n 3, 1) := by decide +kernel
theorem dX7_put_73 : decode cX7_put 73 = .ok (.iastore, 1) := by decide +kernel
theorem dX7_put_74 : decode cX7_put 74 = .ok (.aload_n 0, 1) := by decide +kernel
theorem dX7_put_75 : decode cX7_put 75 = .ok (.iconst 1, 1) := by decide +kernel
theorem dX7_put_76 : decode cX7_put 76 = .ok (.invokevirtual 124, 3) := by decide +kernel
theorem dX7_put_79 : decode cX7_put 79 = .ok (.ireturn, 1) := by decide +kernel
theorem dX7_cell_0 : decode cX7_cell 0 = .ok (.aload_n 0, 1) := by decide +kernel
theorem dX7_cell_1 : decode cX7_cell 1 = .ok (.iconst 0, 1) := by decide +kernel
theorem dX7_cell_2 : decode cX7_cell 2 = .ok (.putfield 77, 3) := by decide +kernel
theorem dX7_cell_5 : decode cX7_cell 5 = .ok (.iload_n 1, 1) := by decide +kernel
theorem dX7_cell_6 : decode cX7_cell 6 = .ok (.invokestatic 120, 3) := by decide +kernel
theorem dX7_cell_9 : decode cX7_cell 9 = .ok (.ifCond .ne 15, 3) := by decide +kernel
theorem dX7_cell_12 : decode cX7_cell 12 = .ok (.iload_n 3, 1) := by decide +kernel
theorem dX7_cell_13 : decode cX7_cell 13 = .ok (.i2l, 1) := by decide +kernel
theorem dX7_cell_14 : decode cX7_cell 14 = .ok (.lconst 0, 1) := by decide +kernel
theorem dX7_cell_15 : decode cX7_cell 15 = .ok (.ldc2_w 127, 3) := by decide +kernel
theorem dX7_cell_18 : decode cX7_cell 18 = .ok (.invokestatic 87, 3) := by decide +kernel
theorem dX7_cell_21 : decode cX7_cell 21 = .ok (.ifCond .ne 7, 3) := by decide +kernel
theorem dX7_cell_24 : decode cX7_cell 24 = .ok (.invokestatic 80, 3) := by decide +kernel
theorem dX7_cell_27 : decode cX7_cell 27 = .ok (.lreturn, 1) := by decide +kernel
theorem dX7_cell_28 : decode cX7_cell 28 = .ok (.aload_n 0, 1) := by decide +kernel
theorem dX7_cell_29 : decode cX7_cell 29 = .ok (.getfield 59, 3) := by decide +kernel
theorem dX7_cell_32 : decode cX7_cell 32 = .ok (.iload_n 1, 1) := by decide +kernel
theorem dX7_cell_33 : decode cX7_cell 33 = .ok (.iaload, 1) := by decide +kernel
theorem dX7_cell_34 : decode cX7_cell 34 = .ok (.ifCond .lt 19, 3) := by decide +kernel
theorem dX7_cell_37 : decode cX7_cell 37 = .ok (.aload_n 0, 1) := by decide +kernel
theorem dX7_cell_38 : decode cX7_cell 38 = .ok (.getfield 62, 3) := by decide +kernel
theorem dX7_cell_41 : decode cX7_cell 41 = .ok (.iload_n 1, 1) := by decide +kernel
theorem dX7_cell_42 : decode cX7_cell 42 = .ok (.iaload, 1) := by decide +kernel
theorem dX7_cell_43 : decode cX7_cell 43 = .ok (.iload_n 3, 1) := by decide +kernel
theorem dX7_cell_44 : decode cX7_cell 44 = .ok (.if_icmp .eq 9, 3) := by decide +kernel
theorem dX7_cell_47 : decode cX7_cell 47 = .ok (.aload_n 0, 1) := by decide +kernel
theorem dX7_cell_48 : decode cX7_cell 48 = .ok (.iconst 2, 1) := by decide +kernel
theorem dX7_cell_49 : decode cX7_cell 49 = .ok (.invokevirtual 236, 3) := by decide +kernel
theorem dX7_cell_52 : decode cX7_cell 52 = .ok (.lreturn, 1) := by decide +kernel
theorem dX7_cell_53 : decode cX7_cell 53 = .ok (.aload_n 0, 1) := by decide +kernel
theorem dX7_cell_54 : decode cX7_cell 54 = .ok (.iload_n 1, 1) := by decide +kernel
theorem dX7_cell_55 : decode cX7_cell 55 = .ok (.iload_n 2, 1) := by decide +kernel
theorem dX7_cell_56 : decode cX7_cell 56 = .ok (.invokevirtual 233, 3) := by decide +kernel
theorem dX7_cell_59 : decode cX7_cell 59 = .ok (.ifCond .le 16, 3) := by decide +kernel
theorem dX7_cell_62 : decode cX7_cell 62 = .ok (.aload_n 0, 1) := by decide +kernel
theorem dX7_cell_63 : decode cX7_cell 63 = .ok (.aload_n 0, 1) := by decide +kernel
theorem dX7_cell_64 : decode cX7_cell 64 = .ok (.iload_n 1, 1) := by decide +kernel
theorem dX7_cell_65 : decode cX7_cell 65 = .ok (.iload_n 2, 1) := by decide +kernel
theorem dX7_cell_66 : decode cX7_cell 66 = .ok (.invokevirtual 233, 3) := by decide +kernel
theorem dX7_cell_69 : decode cX7_cell 69 = .ok (.invokevirtual 236, 3) := by decide +kernel
theorem dX7_cell_72 : decode cX7_cell 72 = .ok (.goto 15, 3) := by decide +kernel
theorem dX7_cell_75 : decode cX7_cell 75 = .ok (.aload_n 0, 1) := by decide +kernel
theorem dX7_cell_76 : decode cX7_cell 76 = .ok (.getfield 65, 3) := by decide +kernel
theorem dX7_cell_79 : decode cX7_cell 79 = .ok (.bipush 60, 2) := by decide +kernel
theorem dX7_cell_81 : decode cX7_cell 81 = .ok (.iload_n 1, 1) := by decide +kernel
theorem dX7_cell_82 : decode cX7_cell 82 = .ok (.imul, 1) := by decide +kernel
theorem dX7_cell_83 : decode cX7_cell 83 = .ok (.iload_n 2, 1) := by decide +kernel
theorem dX7_cell_84 : decode cX7_cell 84 = .ok (.iadd, 1) := by decide +kernel
theorem dX7_cell_85 : decode cX7_cell 85 = .ok (.iaload, 1) := by decide +kernel
theorem dX7_cell_86 : decode cX7_cell 86 = .ok (.i2l, 1) := by decide +kernel
theorem dX7_cell_87 : decode cX7_cell 87 = .ok (.lreturn, 1) := by decide +kernel
theorem dX7_isBeyond_0 : decode cX7_isBeyond 0 = .ok (.iload_n 0, 1) := by decide +kernel
theorem dX7_isBeyond_1 : decode cX7_isBeyond 1 = .ok (.ifCond .lt 19, 3) := by decide +kernel
theorem dX7_isBeyond_4 : decode cX7_isBeyond 4 = .ok (.lload_n 1, 1) := by decide +kernel
theorem dX7_isBeyond_5 : decode cX7_isBeyond 5 = .ok (.lconst 0, 1) := by decide +kernel
theorem dX7_isBeyond_6 : decode cX7_isBeyond 6 = .ok (.lcmp, 1) := by decide +kernel
theorem dX7_isBeyond_7 : decode cX7_isBeyond 7 = .ok (.ifCond .lt 13, 3) := by decide +kernel
theorem dX7_isBeyond_10 : decode cX7_isBeyond 10 = .ok (.iload_n 0, 1) := by decide +kernel
theorem dX7_isBeyond_11 : decode cX7_isBeyond 11 = .ok (.i2l, 1) := by decide +kernel
theorem dX7_isBeyond_12 : decode cX7_isBeyond 12 = .ok (.lload_n 1, 1) := by decide +kernel
theorem dX7_isBeyond_13 : decode cX7_isBeyond 13 = .ok (.ladd, 1) := by decide +kernel
theorem dX7_isBeyond_14 : decode cX7_isBeyond 14 = .ok (.iload_n 3, 1) := by decide +kernel
theorem dX7_isBeyond_15 : decode cX7_isBeyond 15 = .ok (.i2l, 1) := by decide +kernel
theorem dX7_isBeyond_16 : decode cX7_isBeyond 16 = .ok (.lcmp, 1) := by decide +kernel
theorem dX7_isBeyond_17 : decode cX7_isBeyond 17 = .ok (.ifCond .le 7, 3) := by decide +kernel
theorem dX7_isBeyond_20 : decode cX7_isBeyond 20 = .ok (.iconst 1, 1) := by decide +kernel
theorem dX7_isBeyond_21 : decode cX7_isBeyond 21 = .ok (.goto 4, 3) := by decide +kernel
theorem dX7_isBeyond_24 : decode cX7_isBeyond 24 = .ok (.iconst 0, 1) := by decide +kernel
theorem dX7_isBeyond_25 : decode cX7_isBeyond 25 = .ok (.ireturn, 1) := by decide +kernel
theorem dX7_copy_0 : decode cX7_copy 0 = .ok (.iload_n 1, 1) := by decide +kernel
theorem dX7_copy_1 : decode cX7_copy 1 = .ok (.invokestatic 120, 3) := by decide +kernel
theorem dX7_copy_4 : decode cX7_copy 4 = .ok (.ifCond .ne 10, 3) := by decide +kernel
theorem dX7_copy_7 : decode cX7_copy 7 = .ok (.iload_n 3, 1) := by decide +kernel
theorem dX7_copy_8 : decode cX7_copy 8 = .ok (.invokestatic 120, 3) := by decide +kernel
theorem dX7_copy_11 : decode cX7_copy 11 = .ok (.ifCond .eq 9, 3) := by decide +kernel
theorem dX7_copy_14 : decode cX7_copy 14 = .ok (.aload_n 0, 1) := by decide +kernel
theorem dX7_copy_15 : decode cX7_copy 15 = .ok (.iconst (-1), 1) := by decide +kernel
theorem dX7_copy_16 : decode cX7_copy 16 = .ok (.invokevirtual 124, 3) := by decide +kernel
theorem dX7_copy_19 : decode cX7_copy 19 = .ok (.ireturn, 1) := by decide +kernel
theorem dX7_copy_20 : decode cX7_copy 20 = .ok (.aload_n 0, 1) := by decide +kernel
theorem dX7_copy_21 : decode cX7_copy 21 = .ok (.getfield 59, 3) := by decide +kernel
theorem dX7_copy_24 : decode cX7_copy 24 = .ok (.iload_n 1, 1) := by decide +kernel
theorem dX7_copy_25 : decode cX7_copy 25 = .ok (.iaload, 1) := by decide +kernel
theorem dX7_copy_26 : decode cX7_copy 26 = .ok (.ifCond .lt 12, 3) := by decide +kernel
theorem dX7_copy_29 : decode cX7_copy 29 = .ok (.aload_n 0, 1) := by decide +kernel
theorem dX7_copy_30 : decode cX7_copy 30 = .ok (.getfield 59, 3) := by decide +kernel
theorem dX7_copy_33 : decode cX7_copy 33 = .ok (.iload_n 3, 1) := by decide +kernel
theorem dX7_copy_34 : decode cX7_copy 34 = .ok (.iaload, 1) := by decide +kernel
theorem dX7_copy_35 : decode cX7_copy 35 = .ok (.ifCond .ge 9, 3) := by decide +kernel
theorem dX7_copy_38 : decode cX7_copy 38 = .ok (.aload_n 0, 1) := by decide +kernel
theorem dX7_copy_39 : decode cX7_copy 39 = .ok (.iconst 1, 1) := by decide +kernel
theorem dX7_copy_40 : decode cX7_copy 40 = .ok (.invokevirtual 112, 3) := by decide +kernel
theorem dX7_copy_43 : decode cX7_copy 43 = .ok (.ireturn, 1) := by decide +kernel
theorem dX7_copy_44 : decode cX7_copy 44 = .ok (.aload_n 0, 1) := by decide +kernel
theorem dX7_copy_45 : decode cX7_copy 45 = .ok (.getfield 62, 3) := by decide +kernel
theorem dX7_copy_48 : decode cX7_copy 48 = .ok (.iload_n 1, 1) := by decide +kernel
theorem dX7_copy_49 : decode cX7_copy 49 = .ok (.iaload, 1) := by decide +kernel
theorem dX7_copy_50 : decode cX7_copy 50 = .ok (.aload_n 0, 1) := by decide +kernel
theorem dX7_copy_51 : decode cX7_copy 51 = .ok (.getfield 62, 3) := by decide +kernel
theorem dX7_copy_54 : decode cX7_copy 54 = .ok (.iload_n 3, 1) := by decide +kernel
theorem dX7_copy_55 : decode cX7_copy 55 = .ok (.iaload, 1) := by decide +kernel
theorem dX7_copy_56 : decode cX7_copy 56 = .ok (.if_icmp .eq 9, 3) := by decide +kernel
theorem dX7_copy_59 : decode cX7_copy 59 = .ok (.aload_n 0, 1) := by decide +kernel
theorem dX7_copy_60 : decode cX7_copy 60 = .ok (.iconst 2, 1) := by decide +kernel
theorem dX7_copy_61 : decode cX7_copy 61 = .ok (.invokevirtual 112, 3) := by decide +kernel
theorem dX7_copy_64 : decode cX7_copy 64 = .ok (.ireturn, 1) := by decide +kernel
theorem dX7_copy_65 : decode cX7_copy 65 = .ok (.iload_n 2, 1) := by decide +kernel
theorem dX7_copy_66 : decode cX7_copy 66 = .ok (.iload 5, 2) := by decide +kernel
theorem dX7_copy_68 : decode cX7_copy 68 = .ok (.i2l, 1) := by decide +kernel
theorem dX7_copy_69 : decode cX7_copy 69 = .ok (.aload_n 0, 1) := by decide +kernel
theorem dX7_copy_70 : decode cX7_copy 70 = .ok (.getfield 59, 3) := by decide +kernel
theorem dX7_copy_73 : decode cX7_copy 73 = .ok (.iload_n 1, 1) := by decide +kernel
theorem dX7_copy_74 : decode cX7_copy 74 = .ok (.iaload, 1) := by decide +kernel
theorem dX7_copy_75 : decode cX7_copy 75 = .ok (.invokestatic 116, 3) := by decide +kernel
theorem dX7_copy_78 : decode cX7_copy 78 = .ok (.ifCond .ne 20, 3) := by decide +kernel
theorem dX7_copy_81 : decode cX7_copy 81 = .ok (.iload 4, 2) := by decide +kernel
theorem dX7_copy_83 : decode cX7_copy 83 = .ok (.iload 5, 2) := by decide +kernel
theorem dX7_copy_85 : decode cX7_copy 85 = .ok (.i2l, 1) := by decide +kernel
theorem dX7_copy_86 : decode cX7_copy 86 = .ok (.aload_n 0, 1) := by decide +kernel
theorem dX7_copy_87 : decode cX7_copy 87 = .ok (.getfield 59, 3) := by decide +kernel
theorem dX7_copy_90 : decode cX7_copy 90 = .ok (.iload_n 3, 1) := by decide +kernel
theorem dX7_copy_91 : decode cX7_copy 91 = .ok (.iaload, 1) := by decide +kernel
theorem dX7_copy_92 : decode cX7_copy 92 = .ok (.invokestatic 116, 3) := by decide +kernel
theorem dX7_copy_95 : decode cX7_copy 95 = .ok (.ifCond .eq 9, 3) := by decide +kernel
theorem dX7_copy_98 : decode cX7_copy 98 = .ok (.aload_n 0, 1) := by decide +kernel
theorem dX7_copy_99 : decode cX7_copy 99 = .ok (.iconst 3, 1) := by decide +kernel
theorem dX7_copy_100 : decode cX7_copy 100 = .ok (.invokevirtual 112, 3) := by decide +kernel
theorem dX7_copy_103 : decode cX7_copy 103 = .ok (.ireturn, 1) := by decide +kernel
theorem dX7_copy_104 : decode cX7_copy 104 = .ok (.iconst 0, 1) := by decide +kernel
theorem dX7_copy_105 : decode cX7_copy 105 = .ok (.istore 6, 2) := by decide +kernel
theorem dX7_copy_107 : decode cX7_copy 107 = .ok (.iload 6, 2) := by decide +kernel
theorem dX7_copy_109 : decode cX7_copy 109 = .ok (.iload 5, 2) := by decide +kernel
theorem dX7_copy_111 : decode cX7_copy 111 = .ok (.if_icmp .ge 30, 3) := by decide +kernel
theorem dX7_copy_114 : decode cX7_copy 114 = .ok (.aload_n 0, 1) := by decide +kernel
theorem dX7_copy_115 : decode cX7_copy 115 = .ok (.getfield 68, 3) := by decide +kernel
theorem dX7_copy_118 : decode cX7_copy 118 = .ok (.iload 6, 2) := by decide +kernel
theorem dX7_copy_120 : decode cX7_copy 120 = .ok (.aload_n 0, 1) := by decide +kernel
theorem dX7_copy_121 : decode cX7_copy 121 = .ok (.getfield 65, 3) := by decide +kernel
theorem dX7_copy_124 : decode cX7_copy 124 = .ok (.bipush 60, 2) := by decide +kernel
theorem dX7_copy_126 : decode cX7_copy 126 = .ok (.iload_n 1, 1) := by decide +kernel
theorem dX7_copy_127 : decode cX7_copy 127 = .ok (.imul, 1) := by decide +kernel
theorem dX7_copy_128 : decode cX7_copy 128 = .ok (.iload_n 2, 1) := by decide +kernel
theorem dX7_copy_129 : decode cX7_copy 129 = .ok (.iadd, 1) := by decide +kernel
theorem dX7_copy_130 : decode cX7_copy 130 = .ok (.iload 6, 2) := by decide +kernel
theorem dX7_copy_132 : decode cX7_copy 132 = .ok (.iadd, 1) := by decide +kernel
theorem dX7_copy_133 : decode cX7_copy 133 = .ok (.iaload, 1) := by decide +kernel
theorem dX7_copy_134 : decode cX7_copy 134 = .ok (.iastore, 1) := by decide +kernel
theorem dX7_copy_135 : decode cX7_copy 135 = .ok (.iinc 6 1, 3) := by decide +kernel
theorem dX7_copy_138 : decode cX7_copy 138 = .ok (.goto (-31), 3) := by decide +kernel
theorem dX7_copy_141 : decode cX7_copy 141 = .ok (.iconst 0, 1) := by decide +kernel
theorem dX7_copy_142 : decode cX7_copy 142 = .ok (.istore 6, 2) := by decide +kernel
theorem dX7_copy_144 : decode cX7_copy 144 = .ok (.iload 6, 2) := by decide +kernel
theorem dX7_copy_146 : decode cX7_copy 146 = .ok (.iload 5, 2) := by decide +kernel
theorem dX7_copy_148 : decode cX7_copy 148 = .ok (.if_icmp .ge 31, 3) := by decide +kernel
theorem dX7_copy_151 : decode cX7_copy 151 = .ok (.aload_n 0, 1) := by decide +kernel
theorem dX7_copy_152 : decode cX7_copy 152 = .ok (.getfield 65, 3) := by decide +kernel
theorem dX7_copy_155 : decode cX7_copy 155 = .ok (.bipush 60, 2) := by decide +kernel
theorem dX7_copy_157 : decode cX7_copy 157 = .ok (.iload_n 3, 1) := by decide +kernel
theorem dX7_copy_158 : decode cX7_copy 158 = .ok (.imul, 1) := by decide +kernel
theorem dX7_copy_159 : decode cX7_copy 159 = .ok (.iload 4, 2) := by decide +kernel
theorem dX7_copy_161 : decode cX7_copy 161 = .ok (.iadd, 1) := by decide +kernel
theorem dX7_copy_162 : decode cX7_copy 162 = .ok (.iload 6, 2) := by decide +kernel
theorem dX7_copy_164 : decode cX7_copy 164 = .ok (.iadd, 1) := by decide +kernel
theorem dX7_copy_165 : decode cX7_copy 165 = .ok (.aload_n 0, 1) := by decide +kernel
theorem dX7_copy_166 : decode cX7_copy 166 = .ok (.getfield 68, 3) := by decide +kernel
theorem dX7_copy_169 : decode cX7_copy 169 = .ok (.iload 6, 2) := by decide +kernel
theorem dX7_copy_171 : decode cX7_copy 171 = .ok (.iaload, 1) := by decide +kernel
theorem dX7_copy_172 : decode cX7_copy 172 = .ok (.iastore, 1) := by decide +kernel
theorem dX7_copy_173 : decode cX7_copy 173 = .ok (.iinc 6 1, 3) := by decide +kernel
theorem dX7_copy_176 : decode cX7_copy 176 = .ok (.goto (-32), 3) := by decide +kernel
theorem dX7_copy_179 : decode cX7_copy 179 = .ok (.aload_n 0, 1) := by decide +kernel
theorem dX7_copy_180 : decode cX7_copy 180 = .ok (.iload 5, 2) := by decide +kernel
theorem dX7_copy_182 : decode cX7_copy 182 = .ok (.invokevirtual 124, 3) := by decide +kernel
theorem dX7_copy_185 : decode cX7_copy 185 = .ok (.ireturn, 1) := by decide +kernel
theorem dX7_traced_0 : decode cX7_traced 0 = .ok (.aload_n 0, 1) := by decide +kernel
theorem dX7_traced_1 : decode cX7_traced 1 = .ok (.bipush 31, 2) := by decide +kernel
theorem dX7_traced_3 : decode cX7_traced 3 = .ok (.aload_n 0, 1) := by decide +kernel
theorem dX7_traced_4 : decode cX7_traced 4 = .ok (.getfield 240, 3) := by decide +kernel
theorem dX7_traced_7 : decode cX7_traced 7 = .ok (.imul, 1) := by decide +kernel
theorem dX7_traced_8 : decode cX7_traced 8 = .ok (.iload_n 1, 1) := by decide +kernel
theorem dX7_traced_9 : decode cX7_traced 9 = .ok (.iadd, 1) := by decide +kernel
theorem dX7_traced_10 : decode cX7_traced 10 = .ok (.putfield 240, 3) := by decide +kernel
theorem dX7_traced_13 : decode cX7_traced 13 = .ok (.return_, 1) := by decide +kernel
theorem dX7_tell_0 : decode cX7_tell 0 = .ok (.aload_n 0, 1) := by decide +kernel
theorem dX7_tell_1 : decode cX7_tell 1 = .ok (.iload_n 1, 1) := by decide +kernel
theorem dX7_tell_2 : decode cX7_tell 2 = .ok (.invokevirtual 145, 3) := by decide +kernel
theorem dX7_tell_5 : decode cX7_tell 5 = .ok (.ifCond .eq 5, 3) := by decide +kernel
theorem dX7_tell_8 : decode cX7_tell 8 = .ok (.iconst (-1), 1) := by decide +kernel
theorem dX7_tell_9 : decode cX7_tell 9 = .ok (.ireturn, 1) := by decide +kernel
theorem dX7_tell_10 : decode cX7_tell 10 = .ok (.aload_n 0, 1) := by decide +kernel
theorem dX7_tell_11 : decode cX7_tell 11 = .ok (.getfield 7, 3) := by decide +kernel
theorem dX7_tell_14 : decode cX7_tell 14 = .ok (.iload_n 1, 1) := by decide +kernel
theorem dX7_tell_15 : decode cX7_tell 15 = .ok (.iaload, 1) := by decide +kernel
theorem dX7_tell_16 : decode cX7_tell 16 = .ok (.istore_n 2, 1) := by decide +kernel
theorem dX7_tell_17 : decode cX7_tell 17 = .ok (.iload_n 2, 1) := by decide +kernel
theorem dX7_tell_18 : decode cX7_tell 18 = .ok (.iconst 2, 1) := by decide +kernel
theorem dX7_tell_19 : decode cX7_tell 19 = .ok (.if_icmp .ne 8, 3) := by decide +kernel
theorem dX7_tell_22 : decode cX7_tell 22 = .ok (.aload_n 0, 1) := by decide +kernel
theorem dX7_tell_23 : decode cX7_tell 23 = .ok (.iconst 3, 1) := by decide +kernel
theorem dX7_tell_24 : decode cX7_tell 24 = .ok (.invokevirtual 243, 3) := by decide +kernel
theorem dX7_tell_27 : decode cX7_tell 27 = .ok (.iload_n 2, 1) := by decide +kernel
theorem dX7_tell_28 : decode cX7_tell 28 = .ok (.ifCond .le 8, 3) := by decide +kernel
theorem dX7_tell_31 : decode cX7_tell 31 = .ok (.aload_n 0, 1) := by decide +kernel
theorem dX7_tell_32 : decode cX7_tell 32 = .ok (.iconst 2, 1) := by decide +kernel
theorem dX7_tell_33 : decode cX7_tell 33 = .ok (.invokevirtual 243, 3) := by decide +kernel
theorem dX7_tell_36 : decode cX7_tell 36 = .ok (.aload_n 0, 1) := by decide +kernel
theorem dX7_tell_37 : decode cX7_tell 37 = .ok (.iconst 1, 1) := by decide +kernel
theorem dX7_tell_38 : decode cX7_tell 38 = .ok (.invokevirtual 243, 3) := by decide +kernel
theorem dX7_tell_41 : decode cX7_tell 41 = .ok (.iload_n 2, 1) := by decide +kernel
theorem dX7_tell_42 : decode cX7_tell 42 = .ok (.iconst 2, 1) := by decide +kernel
theorem dX7_tell_43 : decode cX7_tell 43 = .ok (.if_icmp .ne 8, 3) := by decide +kernel
theorem dX7_tell_46 : decode cX7_tell 46 = .ok (.aload_n 0, 1) := by decide +kernel
theorem dX7_tell_47 : decode cX7_tell 47 = .ok (.iconst 1, 1) := by decide +kernel
theorem dX7_tell_48 : decode cX7_tell 48 = .ok (.invokevirtual 243, 3) := by decide +kernel
theorem dX7_tell_51 : decode cX7_tell 51 = .ok (.aload_n 0, 1) := by decide +kernel
theorem dX7_tell_52 : decode cX7_tell 52 = .ok (.getfield 16, 3) := by decide +kernel
theorem dX7_tell_55 : decode cX7_tell 55 = .ok (.iload_n 1, 1) := by decide +kernel
theorem dX7_tell_56 : decode cX7_tell 56 = .ok (.iaload, 1) := by decide +kernel
theorem dX7_tell_57 : decode cX7_tell 57 = .ok (.istore_n 3, 1) := by decide +kernel
theorem dX7_tell_58 : decode cX7_tell 58 = .ok (.iload_n 2, 1) := by decide +kernel
theorem dX7_tell_59 : decode cX7_tell 59 = .ok (.ifCond .ne 7, 3) := by decide +kernel
theorem dX7_tell_62 : decode cX7_tell 62 = .ok (.iload_n 3, 1) := by decide +kernel
theorem dX7_tell_63 : decode cX7_tell 63 = .ok (.goto 21, 3) := by decide +kernel
theorem dX7_tell_66 : decode cX7_tell 66 = .ok (.iload_n 2, 1) := by decide +kernel
theorem dX7_tell_67 : decode cX7_tell 67 = .ok (.iconst 1, 1) := by decide +kernel
theorem dX7_tell_68 : decode cX7_tell 68 = .ok (.if_icmp .ne 10, 3) := by decide +kernel
theorem dX7_tell_71 : decode cX7_tell 71 = .ok (.iload_n 3, 1) := by decide +kernel
theorem dX7_tell_72 : decode cX7_tell 72 = .ok (.bipush 100, 2) := by decide +kernel
theorem dX7_tell_74 : decode cX7_tell 74 = .ok (.iadd, 1) := by decide +kernel
theorem dX7_tell_75 : decode cX7_tell 75 = .ok (.goto 9, 3) := by decide +kernel
theorem dX7_tell_78 : decode cX7_tell 78 = .ok (.iconst 2, 1) := by decide +kernel
theorem dX7_tell_79 : decode cX7_tell 79 = .ok (.iload_n 3, 1) := by decide +kernel
theorem dX7_tell_80 : decode cX7_tell 80 = .ok (.imul, 1) := by decide +kernel
theorem dX7_tell_81 : decode cX7_tell 81 = .ok (.bipush 100, 2) := by decide +kernel
theorem dX7_tell_83 : decode cX7_tell 83 = .ok (.iadd, 1) := by decide +kernel
theorem dX7_tell_84 : decode cX7_tell 84 = .ok (.ireturn, 1) := by decide +kernel
theorem dX7_label_0 : decode cX7_label 0 = .ok (.aload_n 0, 1) := by decide +kernel
theorem dX7_label_1 : decode cX7_label 1 = .ok (.iload_n 1, 1) := by decide +kernel
theorem dX7_label_2 : decode cX7_label 2 = .ok (.invokevirtual 145, 3) := by decide +kernel
theorem dX7_label_5 : decode cX7_label 5 = .ok (.ifCond .eq 5, 3) := by decide +kernel
theorem dX7_label_8 : decode cX7_label 8 = .ok (.iconst (-1), 1) := by decide +kernel
theorem dX7_label_9 : decode cX7_label 9 = .ok (.ireturn, 1) := by decide +kernel
theorem dX7_label_10 : decode cX7_label 10 = .ok (.aload_n 0, 1) := by decide +kernel
theorem dX7_label_11 : decode cX7_label 11 = .ok (.aload_n 0, 1) := by decide +kernel
theorem dX7_label_12 : decode cX7_label 12 = .ok (.getfield 7, 3) := by decide +kernel
theorem dX7_label_15 : decode cX7_label 15 = .ok (.iload_n 1, 1) := by decide +kernel
theorem dX7_label_16 : decode cX7_label 16 = .ok (.iaload, 1) := by decide +kernel
theorem dX7_label_17 : decode cX7_label 17 = .ok (.iconst 2, 1) := by decide +kernel
theorem dX7_label_18 : decode cX7_label 18 = .ok (.if_icmp .ne 7, 3) := by decide +kernel
theorem dX7_label_21 : decode cX7_label 21 = .ok (.iconst 5, 1) := by decide +kernel
theorem dX7_label_22 : decode cX7_label 22 = .ok (.goto 4, 3) := by decide +kernel
theorem dX7_label_25 : decode cX7_label 25 = .ok (.iconst 4, 1) := by decide +kernel
theorem dX7_label_26 : decode cX7_label 26 = .ok (.invokevirtual 243, 3) := by decide +kernel
theorem dX7_label_29 : decode cX7_label 29 = .ok (.aload_n 0, 1) := by decide +kernel
theorem dX7_label_30 : decode cX7_label 30 = .ok (.getfield 7, 3) := by decide +kernel
theorem dX7_label_33 : decode cX7_label 33 = .ok (.iload_n 1, 1) := by decide +kernel
theorem dX7_label_34 : decode cX7_label 34 = .ok (.iaload, 1) := by decide +kernel
theorem dX7_label_35 : decode cX7_label 35 = .ok (.iconst 2, 1) := by decide +kernel
theorem dX7_label_36 : decode cX7_label 36 = .ok (.if_icmp .ne 8, 3) := by decide +kernel
theorem dX7_label_39 : decode cX7_label 39 = .ok (.bipush 70, 2) := by decide +kernel
theorem dX7_label_41 : decode cX7_label 41 = .ok (.goto 4, 3) := by decide +kernel
theorem dX7_label_44 : decode cX7_label 44 = .ok (.iload_n 1, 1) := by decide +kernel
theorem dX7_label_45 : decode cX7_label 45 = .ok (.ireturn, 1) := by decide +kernel
theorem dX7_as_0 : decode cX7_as 0 = .ok (.aload_n 0, 1) := by decide +kernel
theorem dX7_as_1 : decode cX7_as 1 = .ok (.iload_n 1, 1) := by decide +kernel
theorem dX7_as_2 : decode cX7_as 2 = .ok (.invokevirtual 145, 3) := by decide +kernel
theorem dX7_as_5 : decode cX7_as 5 = .ok (.ifCond .eq 9, 3) := by decide +kernel
theorem dX7_as_8 : decode cX7_as 8 = .ok (.aload_n 0, 1) := by decide +kernel
theorem dX7_as_9 : decode cX7_as 9 = .ok (.iconst (-1), 1) := by decide +kernel
theorem dX7_as_10 : decode cX7_as 10 = .ok (.invokevirtual 124, 3) := by decide +kernel
theorem dX7_as_13 : decode cX7_as 13 = .ok (.ireturn, 1) := by decide +kernel
theorem dX7_as_14 : decode cX7_as 14 = .ok (.iload_n 2, 1) := by decide +kernel
theorem dX7_as_15 : decode cX7_as 15 = .ok (.i2l, 1) := by decide +kernel
theorem dX7_as_16 : decode cX7_as 16 = .ok (.lconst 0, 1) := by decide +kernel
theorem dX7_as_17 : decode cX7_as 17 = .ok (.ldc2_w 127, 3) := by decide +kernel
theorem dX7_as_20 : decode cX7_as 20 = .ok (.invokestatic 87, 3) := by decide +kernel
theorem dX7_as_23 : decode cX7_as 23 = .ok (.ifCond .ne 10, 3) := by decide +kernel
theorem dX7_as_26 : decode cX7_as 26 = .ok (.aload_n 0, 1) := by decide +kernel
theorem dX7_as_27 : decode cX7_as 27 = .ok (.bipush (-2), 2) := by decide +kernel
theorem dX7_as_29 : decode cX7_as 29 = .ok (.invokevirtual 124, 3) := by decide +kernel
theorem dX7_as_32 : decode cX7_as 32 = .ok (.ireturn, 1) := by decide +kernel
theorem dX7_as_33 : decode cX7_as 33 = .ok (.aload_n 0, 1) := by decide +kernel
theorem dX7_as_34 : decode cX7_as 34 = .ok (.getfield 7, 3) := by decide +kernel
theorem dX7_as_37 : decode cX7_as 37 = .ok (.iload_n 1, 1) := by decide +kernel
theorem dX7_as_38 : decode cX7_as 38 = .ok (.iaload, 1) := by decide +kernel
theorem dX7_as_39 : decode cX7_as 39 = .ok (.iload_n 2, 1) := by decide +kernel
theorem dX7_as_40 : decode cX7_as 40 = .ok (.if_icmp .lt 11, 3) := by decide +kernel
theorem dX7_as_43 : decode cX7_as 43 = .ok (.aload_n 0, 1) := by decide +kernel
theorem dX7_as_44 : decode cX7_as 44 = .ok (.iconst 1, 1) := by decide +kernel
theorem dX7_as_45 : decode cX7_as 45 = .ok (.invokevirtual 124, 3) := by decide +kernel
theorem dX7_as_48 : decode cX7_as 48 = .ok (.goto 8, 3) := by decide +kernel
theorem dX7_as_51 : decode cX7_as 51 = .ok (.aload_n 0, 1) := by decide +kernel
theorem dX7_as_52 : decode cX7_as 52 = .ok (.iconst 2, 1) := by decide +kernel
theorem dX7_as_53 : decode cX7_as 53 = .ok (.invokevirtual 112, 3) := by decide +kernel
theorem dX7_as_56 : decode cX7_as 56 = .ok (.ireturn, 1) := by decide +kernel
theorem dX7_trace_0 : decode cX7_trace 0 = .ok (.aload_n 0, 1) := by decide +kernel
theorem dX7_trace_1 : decode cX7_trace 1 = .ok (.getfield 240, 3) := by decide +kernel
theorem dX7_trace_4 : decode cX7_trace 4 = .ok (.ireturn, 1) := by decide +kernel
theorem dX7_fault_0 : decode cX7_fault 0 = .ok (.aload_n 0, 1) := by decide +kernel
theorem dX7_fault_1 : decode cX7_fault 1 = .ok (.getfield 77, 3) := by decide +kernel
theorem dX7_fault_4 : decode cX7_fault 4 = .ok (.ireturn, 1) := by decide +kernel
theorem dX7_many_0 : decode cX7_many 0 = .ok (.iload_n 1, 1) := by decide +kernel
theorem dX7_many_1 : decode cX7_many 1 = .ok (.tableswitch 51 0 3 #[31, 36, 41, 46], 31) := by decide +kernel
theorem dX7_many_32 : decode cX7_many 32 = .ok (.aload_n 0, 1) := by decide +kernel
theorem dX7_many_33 : decode cX7_many 33 = .ok (.getfield 84, 3) := by decide +kernel
theorem dX7_many_36 : decode cX7_many 36 = .ok (.ireturn, 1) := by decide +kernel
theorem dX7_many_37 : decode cX7_many 37 = .ok (.aload_n 0, 1) := by decide +kernel
theorem dX7_many_38 : decode cX7_many 38 = .ok (.getfield 136, 3) := by decide +kernel
theorem dX7_many_41 : decode cX7_many 41 = .ok (.ireturn, 1) := by decide +kernel
theorem dX7_many_42 : decode cX7_many 42 = .ok (.aload_n 0, 1) := by decide +kernel
theorem dX7_many_43 : decode cX7_many 43 = .ok (.getfield 139, 3) := by decide +kernel
theorem dX7_many_46 : decode cX7_many 46 = .ok (.ireturn, 1) := by decide +kernel
theorem dX7_many_47 : decode cX7_many 47 = .ok (.aload_n 0, 1) := by decide +kernel
theorem dX7_many_48 : decode cX7_many 48 = .ok (.getfield 142, 3) := by decide +kernel
theorem dX7_many_51 : decode cX7_many 51 = .ok (.ireturn, 1) := by decide +kernel
theorem dX7_many_52 : decode cX7_many 52 = .ok (.bipush (-2), 2) := by decide +kernel
theorem dX7_many_54 : decode cX7_many 54 = .ok (.ireturn, 1) := by decide +kernel
theorem dJ6_bitCount_0f7a4_0 : decode cJ6_bitCount_0f7a4 0 = .ok (.iload_n 0, 1) := by decide +kernel
theorem dJ6_bitCount_0f7a4_1 : decode cJ6_bitCount_0f7a4 1 = .ok (.iload_n 0, 1) := by decide +kernel
theorem dJ6_bitCount_0f7a4_2 : decode cJ6_bitCount_0f7a4 2 = .ok (.iconst 1, 1) := by decide +kernel
theorem dJ6_bitCount_0f7a4_3 : decode cJ6_bitCount_0f7a4 3 = .ok (.iushr, 1) := by decide +kernel
theorem dJ6_bitCount_0f7a4_4 : decode cJ6_bitCount_0f7a4 4 = .ok (.ldc_w 265, 3) := by decide +kernel
theorem dJ6_bitCount_0f7a4_7 : decode cJ6_bitCount_0f7a4 7 = .ok (.iand, 1) := by decide +kernel
theorem dJ6_bitCount_0f7a4_8 : decode cJ6_bitCount_0f7a4 8 = .ok (.isub, 1) := by decide +kernel
theorem dJ6_bitCount_0f7a4_9 : decode cJ6_bitCount_0f7a4 9 = .ok (.istore_n 0, 1) := by decide +kernel
theorem dJ6_bitCount_0f7a4_10 : decode cJ6_bitCount_0f7a4 10 = .ok (.iload_n 0, 1) := by decide +kernel
theorem dJ6_bitCount_0f7a4_11 : decode cJ6_bitCount_0f7a4 11 = .ok (.ldc_w 266, 3) := by decide +kernel
theorem dJ6_bitCount_0f7a4_14 : decode cJ6_bitCount_0f7a4 14 = .ok (.iand, 1) := by decide +kernel
theorem dJ6_bitCount_0f7a4_15 : decode cJ6_bitCount_0f7a4 15 = .ok (.iload_n 0, 1) := by decide +kernel
theorem dJ6_bitCount_0f7a4_16 : decode cJ6_bitCount_0f7a4 16 = .ok (.iconst 2, 1) := by decide +kernel
theorem dJ6_bitCount_0f7a4_17 : decode cJ6_bitCount_0f7a4 17 = .ok (.iushr, 1) := by decide +kernel
theorem dJ6_bitCount_0f7a4_18 : decode cJ6_bitCount_0f7a4 18 = .ok (.ldc_w 266, 3) := by decide +kernel
theorem dJ6_bitCount_0f7a4_21 : decode cJ6_bitCount_0f7a4 21 = .ok (.iand, 1) := by decide +kernel
theorem dJ6_bitCount_0f7a4_22 : decode cJ6_bitCount_0f7a4 22 = .ok (.iadd, 1) := by decide +kernel
theorem dJ6_bitCount_0f7a4_23 : decode cJ6_bitCount_0f7a4 23 = .ok (.istore_n 0, 1) := by decide +kernel
theorem dJ6_bitCount_0f7a4_24 : decode cJ6_bitCount_0f7a4 24 = .ok (.iload_n 0, 1) := by decide +kernel
theorem dJ6_bitCount_0f7a4_25 : decode cJ6_bitCount_0f7a4 25 = .ok (.iload_n 0, 1) := by decide +kernel
theorem dJ6_bitCount_0f7a4_26 : decode cJ6_bitCount_0f7a4 26 = .ok (.iconst 4, 1) := by decide +kernel
theorem dJ6_bitCount_0f7a4_27 : decode cJ6_bitCount_0f7a4 27 = .ok (.iushr, 1) := by decide +kernel
theorem dJ6_bitCount_0f7a4_28 : decode cJ6_bitCount_0f7a4 28 = .ok (.iadd, 1) := by decide +kernel
theorem dJ6_bitCount_0f7a4_29 : decode cJ6_bitCount_0f7a4 29 = .ok (.ldc_w 267, 3) := by decide +kernel
theorem dJ6_bitCount_0f7a4_32 : decode cJ6_bitCount_0f7a4 32 = .ok (.iand, 1) := by decide +kernel
theorem dJ6_bitCount_0f7a4_33 : decode cJ6_bitCount_0f7a4 33 = .ok (.istore_n 0, 1) := by decide +kernel
theorem dJ6_bitCount_0f7a4_34 : decode cJ6_bitCount_0f7a4 34 = .ok (.iload_n 0, 1) := by decide +kernel
theorem dJ6_bitCount_0f7a4_35 : decode cJ6_bitCount_0f7a4 35 = .ok (.iload_n 0, 1) := by decide +kernel
theorem dJ6_bitCount_0f7a4_36 : decode cJ6_bitCount_0f7a4 36 = .ok (.bipush 8, 2) := by decide +kernel
theorem dJ6_bitCount_0f7a4_38 : decode cJ6_bitCount_0f7a4 38 = .ok (.iushr, 1) := by decide +kernel
theorem dJ6_bitCount_0f7a4_39 : decode cJ6_bitCount_0f7a4 39 = .ok (.iadd, 1) := by decide +kernel
theorem dJ6_bitCount_0f7a4_40 : decode cJ6_bitCount_0f7a4 40 = .ok (.istore_n 0, 1) := by decide +kernel
theorem dJ6_bitCount_0f7a4_41 : decode cJ6_bitCount_0f7a4 41 = .ok (.iload_n 0, 1) := by decide +kernel
theorem dJ6_bitCount_0f7a4_42 : decode cJ6_bitCount_0f7a4 42 = .ok (.iload_n 0, 1) := by decide +kernel
theorem dJ6_bitCount_0f7a4_43 : decode cJ6_bitCount_0f7a4 43 = .ok (.bipush 16, 2) := by decide +kernel
theorem dJ6_bitCount_0f7a4_45 : decode cJ6_bitCount_0f7a4 45 = .ok (.iushr, 1) := by decide +kernel
theorem dJ6_bitCount_0f7a4_46 : decode cJ6_bitCount_0f7a4 46 = .ok (.iadd, 1) := by decide +kernel
theorem dJ6_bitCount_0f7a4_47 : decode cJ6_bitCount_0f7a4 47 = .ok (.istore_n 0, 1) := by decide +kernel
theorem dJ6_bitCount_0f7a4_48 : decode cJ6_bitCount_0f7a4 48 = .ok (.iload_n 0, 1) := by decide +kernel
theorem dJ6_bitCount_0f7a4_49 : decode cJ6_bitCount_0f7a4 49 = .ok (.bipush 63, 2) := by decide +kernel
theorem dJ6_bitCount_0f7a4_51 : decode cJ6_bitCount_0f7a4 51 = .ok (.iand, 1) := by decide +kernel
theorem dJ6_bitCount_0f7a4_52 : decode cJ6_bitCount_0f7a4 52 = .ok (.ireturn, 1) := by decide +kernel
theorem dL_law_0 : decode cL_law 0 = .ok (.new 7, 3) := by decide +kernel
theorem dL_law_3 : decode cL_law 3 = .ok (.dup, 1) := by decide +kernel
theorem dL_law_4 : decode cL_law 4 = .ok (.invokespecial 9, 3) := by decide +kernel
theorem dL_law_7 : decode cL_law 7 = .ok (.astore_n 1, 1) := by decide +kernel
theorem dL_law_8 : decode cL_law 8 = .ok (.new 10, 3) := by decide +kernel
theorem dL_law_11 : decode cL_law 11 = .ok (.dup, 1) := by decide +kernel
theorem dL_law_12 : decode cL_law 12 = .ok (.invokespecial 12, 3) := by decide +kernel
theorem dL_law_15 : decode cL_law 15 = .ok (.astore_n 2, 1) := by decide +kernel
theorem dL_law_16 : decode cL_law 16 = .ok (.iconst 0, 1) := by decide +kernel
theorem dL_law_17 : decode cL_law 17 = .ok (.istore_n 3, 1) := by decide +kernel
theorem dL_law_18 : decode cL_law 18 = .ok (.iload_n 3, 1) := by decide +kernel
theorem dL_law_19 : decode cL_law 19 = .ok (.aload_n 0, 1) := by decide +kernel
theorem dL_law_20 : decode cL_law 20 = .ok (.arraylength, 1) := by decide +kernel
theorem dL_law_21 : decode cL_law 21 = .ok (.bipush 6, 2) := by decide +kernel
theorem dL_law_23 : decode cL_law 23 = .ok (.isub, 1) := by decide +kernel
theorem dL_law_24 : decode cL_law 24 = .ok (.if_icmp .gt 1104, 3) := by decide +kernel
theorem dL_law_27 : decode cL_law 27 = .ok (.aload_n 0, 1) := by decide +kernel
theorem dL_law_28 : decode cL_law 28 = .ok (.iload_n 3, 1) := by decide +kernel
theorem dL_law_29 : decode cL_law 29 = .ok (.iaload, 1) := by decide +kernel
theorem dL_law_30 : decode cL_law 30 = .ok (.bipush 31, 2) := by decide +kernel
theorem dL_law_32 : decode cL_law 32 = .ok (.iand, 1) := by decide +kernel
theorem dL_law_33 : decode cL_law 33 = .ok (.tableswitch 1089 0 27 #[127, 180, 213, 236, 259, 292, 345, 368, 391, 414, 437, 496, 519, 542, 565, 618, 681, 745, 788, 811, 854, 898, 961, 984, 1007, 1040, 1053, 1066], 127) := by decide +kernel
theorem dL_law_160 : decode cL_law 160 = .ok (.aload_n 1, 1) := by decide +kernel
theorem dL_law_161 : decode cL_law 161 = .ok (.aload_n 0, 1) := by decide +kernel
theorem dL_law_162 : decode cL_law 162 = .ok (.iload_n 3, 1) := by decide +kernel
theorem dL_law_163 : decode cL_law 163 = .ok (.iconst 1, 1) := by decide +kernel
theorem dL_law_164 : decode cL_law 164 = .ok (.iadd, 1) := by decide +kernel
theorem dL_law_165 : decode cL_law 165 = .ok (.iaload, 1) := by decide +kernel
theorem dL_law_166 : decode cL_law 166 = .ok (.aload_n 0, 1) := by decide +kernel
theorem dL_law_167 : decode cL_law 167 = .ok (.iload_n 3, 1) := by decide +kernel
theorem dL_law_168 : decode cL_law 168 = .ok (.iconst 2, 1) := by decide +kernel
theorem dL_law_169 : decode cL_law 169 = .ok (.iadd, 1) := by decide +kernel
theorem dL_law_170 : decode cL_law 170 = .ok (.iaload, 1) := by decide +kernel
theorem dL_law_171 : decode cL_law 171 = .ok (.aload_n 0, 1) := by decide +kernel
theorem dL_law_172 : decode cL_law 172 = .ok (.iload_n 3, 1) := by decide +kernel
theorem dL_law_173 : decode cL_law 173 = .ok (.iconst 3, 1) := by decide +kernel
theorem dL_law_174 : decode cL_law 174 = .ok (.iadd, 1) := by decide +kernel
theorem dL_law_175 : decode cL_law 175 = .ok (.iaload, 1) := by decide +kernel
theorem dL_law_176 : decode cL_law 176 = .ok (.aload_n 0, 1) := by decide +kernel
theorem dL_law_177 : decode cL_law 177 = .ok (.iload_n 3, 1) := by decide +kernel
theorem dL_law_178 : decode cL_law 178 = .ok (.iconst 4, 1) := by decide +kernel
theorem dL_law_179 : decode cL_law 179 = .ok (.iadd, 1) := by decide +kernel
theorem dL_law_180 : decode cL_law 180 = .ok (.iaload, 1) := by decide +kernel
theorem dL_law_181 : decode cL_law 181 = .ok (.invokevirtual 13, 3) := by decide +kernel
theorem dL_law_184 : decode cL_law 184 = .ok (.aload_n 2, 1) := by decide +kernel
theorem dL_law_185 : decode cL_law 185 = .ok (.aload_n 0, 1) := by decide +kernel
theorem dL_law_186 : decode cL_law 186 = .ok (.iload_n 3, 1) := by decide +kernel
theorem dL_law_187 : decode cL_law 187 = .ok (.iconst 1, 1) := by decide +kernel
theorem dL_law_188 : decode cL_law 188 = .ok (.iadd, 1) := by decide +kernel
theorem dL_law_189 : decode cL_law 189 = .ok (.iaload, 1) := by decide +kernel
theorem dL_law_190 : decode cL_law 190 = .ok (.aload_n 0, 1) := by decide +kernel
theorem dL_law_191 : decode cL_law 191 = .ok (.iload_n 3, 1) := by decide +kernel
theorem dL_law_192 : decode cL_law 192 = .ok (.iconst 2, 1) := by decide +kernel
theorem dL_law_193 : decode cL_law 193 = .ok (.iadd, 1) := by decide +kernel
theorem dL_law_194 : decode cL_law 194 = .ok (.iaload, 1) := by decide +kernel
theorem dL_law_195 : decode cL_law 195 = .ok (.aload_n 0, 1) := by decide +kernel
theorem dL_law_196 : decode cL_law 196 = .ok (.iload_n 3, 1) := by decide +kernel
theorem dL_law_197 : decode cL_law 197 = .ok (.iconst 3, 1) := by decide +kernel
theorem dL_law_198 : decode cL_law 198 = .ok (.iadd, 1) := by decide +kernel
theorem dL_law_199 : decode cL_law 199 = .ok (.iaload, 1) := by decide +kernel
theorem dL_law_200 : decode cL_law 200 = .ok (.aload_n 0, 1) := by decide +kernel
theorem dL_law_201 : decode cL_law 201 = .ok (.iload_n 3, 1) := by decide +kernel
theorem dL_law_202 : decode cL_law 202 = .ok (.iconst 4, 1) := by decide +kernel
theorem dL_law_203 : decode cL_law 203 = .ok (.iadd, 1) := by decide +kernel
theorem dL_law_204 : decode cL_law 204 = .ok (.iaload, 1) := by decide +kernel
theorem dL_law_205 : decode cL_law 205 = .ok (.invokevirtual 17, 3) := by decide +kernel
theorem dL_law_208 : decode cL_law 208 = .ok (.if_icmp .eq 914, 3) := by decide +kernel
theorem dL_law_211 : decode cL_law 211 = .ok (.iconst 0, 1) := by decide +kernel
theorem dL_law_212 : decode cL_law 212 = .ok (.ireturn, 1) := by decide +kernel
theorem dL_law_213 : decode cL_law 213 = .ok (.aload_n 1, 1) := by decide +kernel
theorem dL_law_214 : decode cL_law 214 = .ok (.aload_n 0, 1) := by decide +kernel
theorem dL_law_215 : decode cL_law 215 = .ok (.iload_n 3, 1) := by decide +kernel
theorem dL_law_216 : decode cL_law 216 = .ok (.iconst 1, 1) := by decide +kernel
theorem dL_law_217 : decode cL_law 217 = .ok (.iadd, 1) := by decide +kernel
theorem dL_law_218 : decode cL_law 218 = .ok (.iaload, 1) := by decide +kernel
theorem dL_law_219 : decode cL_law 219 = .ok (.aload_n 0, 1) := by decide +kernel
theorem dL_law_220 : decode cL_law 220 = .ok (.iload_n 3, 1) := by decide +kernel
theorem dL_law_221 : decode cL_law 221 = .ok (.iconst 2, 1) := by decide +kernel
theorem dL_law_222 : decode cL_law 222 = .ok (.iadd, 1) := by decide +kernel
theorem dL_law_223 : decode cL_law 223 = .ok (.iaload, 1) := by decide +kernel
theorem dL_law_224 : decode cL_law 224 = .ok (.invokevirtual 18, 3) := by decide +kernel
theorem dL_law_227 : decode cL_law 227 = .ok (.aload_n 2, 1) := by decide +kernel
theorem dL_law_228 : decode cL_law 228 = .ok (.aload_n 0, 1) := by decide +kernel
theorem dL_law_229 : decode cL_law 229 = .ok (.iload_n 3, 1) := by decide +kernel
theorem dL_law_230 : decode cL_law 230 = .ok (.iconst 1, 1) := by decide +kernel
theorem dL_law_231 : decode cL_law 231 = .ok (.iadd, 1) := by decide +kernel
theorem dL_law_232 : decode cL_law 232 = .ok (.iaload, 1) := by decide +kernel
theorem dL_law_233 : decode cL_law 233 = .ok (.aload_n 0, 1) := by decide +kernel
theorem dL_law_234 : decode cL_law 234 = .ok (.iload_n 3, 1) := by decide +kernel
theorem dL_law_235 : decode cL_law 235 = .ok (.iconst 2, 1) := by decide +kernel
theorem dL_law_236 : decode cL_law 236 = .ok (.iadd, 1) := by decide +kernel
theorem dL_law_237 : decode cL_law 237 = .ok (.iaload, 1) := by decide +kernel
theorem dL_law_238 : decode cL_law 238 = .ok (.invokevirtual 22, 3) := by decide +kernel
theorem dL_law_241 : decode cL_law 241 = .ok (.if_icmp .eq 881, 3) := by decide +kernel
theorem dL_law_244 : decode cL_law 244 = .ok (.iconst 0, 1) := by decide +kernel
theorem dL_law_245 : decode cL_law 245 = .ok (.ireturn, 1) := by decide +kernel
theorem dL_law_246 : decode cL_law 246 = .ok (.aload_n 1, 1) := by decide +kernel
theorem dL_law_247 : decode cL_law 247 = .ok (.aload_n 0, 1) := by decide +kernel
theorem dL_law_248 : decode cL_law 248 = .ok (.iload_n 3, 1) := by decide +kernel
theorem dL_law_249 : decode cL_law 249 = .ok (.iconst 1, 1) := by decide +kernel
theorem dL_law_250 : decode cL_law 250 = .ok (.iadd, 1) := by decide +kernel
theorem dL_law_251 : decode cL_law 251 = .ok (.iaload, 1) := by decide +kernel
theorem dL_law_252 : decode cL_law 252 = .ok (.invokevirtual 23, 3) := by decide +kernel
theorem dL_law_255 : decode cL_law 255 = .ok (.aload_n 2, 1) := by decide +kernel
theorem dL_law_256 : decode cL_law 256 = .ok (.aload_n 0, 1) := by decide +kernel
theorem dL_law_257 : decode cL_law 257 = .ok (.iload_n 3, 1) := by decide +kernel
theorem dL_law_258 : decode cL_law 258 = .ok (.iconst 1, 1) := by decide +kernel
theorem dL_law_259 : decode cL_law 259 = .ok (.iadd, 1) := by decide +kernel
theorem dL_law_260 : decode cL_law 260 = .ok (.iaload, 1) := by decide +kernel
theorem dL_law_261 : decode cL_law 261 = .ok (.invokevirtual 27, 3) := by decide +kernel
theorem dL_law_264 : decode cL_law 264 = .ok (.if_icmp .eq 858, 3) := by decide +kernel
theorem dL_law_267 : decode cL_law 267 = .ok (.iconst 0, 1) := by decide +kernel
theorem dL_law_268 : decode cL_law 268 = .ok (.ireturn, 1) := by decide +kernel
theorem dL_law_269 : decode cL_law 269 = .ok (.aload_n 1, 1) := by decide +kernel
theorem dL_law_270 : decode cL_law 270 = .ok (.aload_n 0, 1) := by decide +kernel
theorem dL_law_271 : decode cL_law 271 = .ok (.iload_n 3, 1) := by decide +kernel
theorem dL_law_272 : decode cL_law 272 = .ok (.iconst 1, 1) := by decide +kernel
theorem dL_law_273 : decode cL_law 273 = .ok (.iadd, 1) := by decide +kernel
theorem dL_law_274 : decode cL_law 274 = .ok (.iaload, 1) := by decide +kernel
theorem dL_law_275 : decode cL_law 275 = .ok (.invokevirtual 28, 3) := by decide +kernel
theorem dL_law_278 : decode cL_law 278 = .ok (.aload_n 2, 1) := by decide +kernel
theorem dL_law_279 : decode cL_law 279 = .ok (.aload_n 0, 1) := by decide +kernel
theorem dL_law_280 : decode cL_law 280 = .ok (.iload_n 3, 1) := by decide +kernel
theorem dL_law_281 : decode cL_law 281 = .ok (.iconst 1, 1) := by decide +kernel
theorem dL_law_282 : decode cL_law 282 = .ok (.iadd, 1) := by decide +kernel
theorem dL_law_283 : decode cL_law 283 = .ok (.iaload, 1) := by decide +kernel
theorem dL_law_284 : decode cL_law 284 = .ok (.invokevirtual 31, 3) := by decide +kernel
theorem dL_law_287 : decode cL_law 287 = .ok (.if_icmp .eq 835, 3) := by decide +kernel
theorem dL_law_290 : decode cL_law 290 = .ok (.iconst 0, 1) := by decide +kernel
theorem dL_law_291 : decode cL_law 291 = .ok (.ireturn, 1) := by decide +kernel
theorem dL_law_292 : decode cL_law 292 = .ok (.aload_n 1, 1) := by decide +kernel
theorem dL_law_293 : decode cL_law 293 = .ok (.aload_n 0, 1) := by decide +kernel
theorem dL_law_294 : decode cL_law 294 = .ok (.iload_n 3, 1) := by decide +kernel
theorem dL_law_295 : decode cL_law 295 = .ok (.iconst 1, 1) := by decide +kernel
theorem dL_law_296 : decode cL_law 296 = .ok (.iadd, 1) := by decide +kernel
theorem dL_law_297 : decode cL_law 297 = .ok (.iaload, 1) := by decide +kernel
theorem dL_law_298 : decode cL_law 298 = .ok (.aload_n 0, 1) := by decide +kernel
theorem dL_law_299 : decode cL_law 299 = .ok (.iload_n 3, 1) := by decide +kernel
theorem dL_law_300 : decode cL_law 300 = .ok (.iconst 2, 1) := by decide +kernel
theorem dL_law_301 : decode cL_law 301 = .ok (.iadd, 1) := by decide +kernel
theorem dL_law_302 : decode cL_law 302 = .ok (.iaload, 1) := by decide +kernel
theorem dL_law_303 : decode cL_law 303 = .ok (.invokevirtual 32, 3) := by decide +kernel
theorem dL_law_306 : decode cL_law 306 = .ok (.aload_n 2, 1) := by decide +kernel
theorem dL_law_307 : decode cL_law 307 = .ok (.aload_n 0, 1) := by decide +kernel
theorem dL_law_308 : decode cL_law 308 = .ok (.iload_n 3, 1) := by decide +kernel
theorem dL_law_309 : decode cL_law 309 = .ok (.iconst 1, 1) := by decide +kernel
theorem dL_law_310 : decode cL_law 310 = .ok (.iadd, 1) := by decide +kernel
theorem dL_law_311 : decode cL_law 311 = .ok (.iaload, 1) := by decide +kernel
theorem dL_law_312 : decode cL_law 312 = .ok (.aload_n 0, 1) := by decide +kernel
theorem dL_law_313 : decode cL_law 313 = .ok (.iload_n 3, 1) := by decide +kernel
theorem dL_law_314 : decode cL_law 314 = .ok (.iconst 2, 1) := by decide +kernel
theorem dL_law_315 : decode cL_law 315 = .ok (.iadd, 1) := by decide +kernel
theorem dL_law_316 : decode cL_law 316 = .ok (.iaload, 1) := by decide +kernel
theorem dL_law_317 : decode cL_law 317 = .ok (.invokevirtual 35, 3) := by decide +kernel
theorem dL_law_320 : decode cL_law 320 = .ok (.if_icmp .eq 802, 3) := by decide +kernel
theorem dL_law_323 : decode cL_law 323 = .ok (.iconst 0, 1) := by decide +kernel
theorem dL_law_324 : decode cL_law 324 = .ok (.ireturn, 1) := by decide +kernel
theorem dL_law_325 : decode cL_law 325 = .ok (.aload_n 1, 1) := by decide +kernel
theorem dL_law_326 : decode cL_law 326 = .ok (.aload_n 0, 1) := by decide +kernel
theorem dL_law_327 : decode cL_law 327 = .ok (.iload_n 3, 1) := by decide +kernel
theorem dL_law_328 : decode cL_law 328 = .ok (.iconst 1, 1) := by decide +kernel
theorem dL_law_329 : decode cL_law 329 = .ok (.iadd, 1) := by decide +kernel
theorem dL_law_330 : decode cL_law 330 = .ok (.iaload, 1) := by decide +kernel
theorem dL_law_331 : decode cL_law 331 = .ok (.aload_n 0, 1) := by decide +kernel
theorem dL_law_332 : decode cL_law 332 = .ok (.iload_n 3, 1) := by decide +kernel
theorem dL_law_333 : decode cL_law 333 = .ok (.iconst 2, 1) := by decide +kernel
theorem dL_law_334 : decode cL_law 334 = .ok (.iadd, 1) := by decide +kernel
theorem dL_law_335 : decode cL_law 335 = .ok (.iaload, 1) := by decide +kernel
theorem dL_law_336 : decode cL_law 336 = .ok (.aload_n 0, 1) := by decide +kernel
theorem dL_law_337 : decode cL_law 337 = .ok (.iload_n 3, 1) := by decide +kernel
theorem dL_law_338 : decode cL_law 338 = .ok (.iconst 3, 1) := by decide +kernel
theorem dL_law_339 : decode cL_law 339 = .ok (.iadd, 1) := by decide +kernel
theorem dL_law_340 : decode cL_law 340 = .ok (.iaload, 1) := by decide +kernel
theorem dL_law_341 : decode cL_law 341 = .ok (.aload_n 0, 1) := by decide +kernel
theorem dL_law_342 : decode cL_law 342 = .ok (.iload_n 3, 1) := by decide +kernel
theorem dL_law_343 : decode cL_law 343 = .ok (.iconst 4, 1) := by decide +kernel
theorem dL_law_344 : decode cL_law 344 = .ok (.iadd, 1) := by decide +kernel
theorem dL_law_345 : decode cL_law 345 = .ok (.iaload, 1) := by decide +kernel
theorem dL_law_346 : decode cL_law 346 = .ok (.invokevirtual 36, 3) := by decide +kernel
theorem dL_law_349 : decode cL_law 349 = .ok (.aload_n 2, 1) := by decide +kernel
theorem dL_law_350 : decode cL_law 350 = .ok (.aload_n 0, 1) := by decide +kernel
theorem dL_law_351 : decode cL_law 351 = .ok (.iload_n 3, 1) := by decide +kernel
theorem dL_law_352 : decode cL_law 352 = .ok (.iconst 1, 1) := by decide +kernel
theorem dL_law_353 : decode cL_law 353 = .ok (.iadd, 1) := by decide +kernel
theorem dL_law_354 : decode cL_law 354 = .ok (.iaload, 1) := by decide +kernel
theorem dL_law_355 : decode cL_law 355 = .ok (.aload_n 0, 1) := by decide +kernel
theorem dL_law_356 : decode cL_law 356 = .ok (.iload_n 3, 1) := by decide +kernel
theorem dL_law_357 : decode cL_law 357 = .ok (.iconst 2, 1) := by decide +kernel
theorem dL_law_358 : decode cL_law 358 = .ok (.iadd, 1) := by decide +kernel
theorem dL_law_359 : decode cL_law 359 = .ok (.iaload, 1) := by decide +kernel
theorem dL_law_360 : decode cL_law 360 = .ok (.aload_n 0, 1) := by decide +kernel
theorem dL_law_361 : decode cL_law 361 = .ok (.iload_n 3, 1) := by decide +kernel
theorem dL_law_362 : decode cL_law 362 = .ok (.iconst 3, 1) := by decide +kernel
theorem dL_law_363 : decode cL_law 363 = .ok (.iadd, 1) := by decide +kernel
theorem dL_law_364 : decode cL_law 364 = .ok (.iaload, 1) := by decide +kernel
theorem dL_law_365 : decode cL_law 365 = .ok (.aload_n 0, 1) := by decide +kernel
theorem dL_law_366 : decode cL_law 366 = .ok (.iload_n 3, 1) := by decide +kernel
theorem dL_law_367 : decode cL_law 367 = .ok (.iconst 4, 1) := by decide +kernel
theorem dL_law_368 : decode cL_law 368 = .ok (.iadd, 1) := by decide +kernel
theorem dL_law_369 : decode cL_law 369 = .ok (.iaload, 1) := by decide +kernel
theorem dL_law_370 : decode cL_law 370 = .ok (.invokevirtual 39, 3) := by decide +kernel
theorem dL_law_373 : decode cL_law 373 = .ok (.if_icmp .eq 749, 3) := by decide +kernel
theorem dL_law_376 : decode cL_law 376 = .ok (.iconst 0, 1) := by decide +kernel
theorem dL_law_377 : decode cL_law 377 = .ok (.ireturn, 1) := by decide +kernel
theorem dL_law_378 : decode cL_law 378 = .ok (.aload_n 1, 1) := by decide +kernel
theorem dL_law_379 : decode cL_law 379 = .ok (.aload_n 0, 1) := by decide +kernel
theorem dL_law_380 : decode cL_law 380 = .ok (.iload_n 3, 1) := by decide +kernel
theorem dL_law_381 : decode cL_law 381 = .ok (.iconst 1, 1) := by decide +kernel
theorem dL_law_382 : decode cL_law 382 = .ok (.iadd, 1) := by decide +kernel
theorem dL_law_383 : decode cL_law 383 = .ok (.iaload, 1) := by decide +kernel
theorem dL_law_384 : decode cL_law 384 = .ok (.invokevirtual 40, 3) := by decide +kernel
theorem dL_law_387 : decode cL_law 387 = .ok (.aload_n 2, 1) := by decide +kernel
theorem dL_law_388 : decode cL_law 388 = .ok (.aload_n 0, 1) := by decide +kernel
theorem dL_law_389 : decode cL_law 389 = .ok (.iload_n 3, 1) := by decide +kernel
theorem dL_law_390 : decode cL_law 390 = .ok (.iconst 1, 1) := by decide +kernel
theorem dL_law_391 : decode cL_law 391 = .ok (.iadd, 1) := by decide +kernel
theorem dL_law_392 : decode cL_law 392 = .ok (.iaload, 1) := by decide +kernel
theorem dL_law_393 : decode cL_law 393 = .ok (.invokevirtual 43, 3) := by decide +kernel
theorem dL_law_396 : decode cL_law 396 = .ok (.if_icmp .eq 726, 3) := by decide +kernel
theorem dL_law_399 : decode cL_law 399 = .ok (.iconst 0, 1) := by decide +kernel
theorem dL_law_400 : decode cL_law 400 = .ok (.ireturn, 1) := by decide +kernel
theorem dL_law_401 : decode cL_law 401 = .ok (.aload_n 1, 1) := by decide +kernel
theorem dL_law_402 : decode cL_law 402 = .ok (.aload_n 0, 1) := by decide +kernel
theorem dL_law_403 : decode cL_law 403 = .ok (.iload_n 3, 1) := by decide +kernel
theorem dL_law_404 : decode cL_law 404 = .ok (.iconst 1, 1) := by decide +kernel
theorem dL_law_405 : decode cL_law 405 = .ok (.iadd, 1) := by decide +kernel
theorem dL_law_406 : decode cL_law 406 = .ok (.iaload, 1) := by decide +kernel
theorem dL_law_407 : decode cL_law 407 = .ok (.invokevirtual 44, 3) := by decide +kernel
theorem dL_law_410 : decode cL_law 410 = .ok (.aload_n 2, 1) := by decide +kernel
theorem dL_law_411 : decode cL_law 411 = .ok (.aload_n 0, 1) := by decide +kernel
theorem dL_law_412 : decode cL_law 412 = .ok (.iload_n 3, 1) := by decide +kernel
theorem dL_law_413 : decode cL_law 413 = .ok (.iconst 1, 1) := by decide +kernel
theorem dL_law_414 : decode cL_law 414 = .ok (.iadd, 1) := by decide +kernel
theorem dL_law_415 : decode cL_law 415 = .ok (.iaload, 1) := by decide +kernel
theorem dL_law_416 : decode cL_law 416 = .ok (.invokevirtual 47, 3) := by decide +kernel
theorem dL_law_419 : decode cL_law 419 = .ok (.if_icmp .eq 703, 3) := by decide +kernel
theorem dL_law_422 : decode cL_law 422 = .ok (.iconst 0, 1) := by decide +kernel
theorem dL_law_423 : decode cL_law 423 = .ok (.ireturn, 1) := by decide +kernel
theorem dL_law_424 : decode cL_law 424 = .ok (.aload_n 1, 1) := by decide +kernel
theorem dL_law_425 : decode cL_law 425 = .ok (.aload_n 0, 1) := by decide +kernel
theorem dL_law_426 : decode cL_law 426 = .ok (.iload_n 3, 1) := by decide +kernel
theorem dL_law_427 : decode cL_law 427 = .ok (.iconst 1, 1) := by decide +kernel
theorem dL_law_428 : decode cL_law 428 = .ok (.iadd, 1) := by decide +kernel
theorem dL_law_429 : decode cL_law 429 = .ok (.iaload, 1) := by decide +kernel
theorem dL_law_430 : decode cL_law 430 = .ok (.invokevirtual 48, 3) := by decide +kernel
theorem dL_law_433 : decode cL_law 433 = .ok (.aload_n 2, 1) := by decide +kernel
theorem dL_law_434 : decode cL_law 434 = .ok (.aload_n 0, 1) := by decide +kernel
theorem dL_law_435 : decode cL_law 435 = .ok (.iload_n 3, 1) := by decide +kernel
theorem dL_law_436 : decode cL_law 436 = .ok (.iconst 1, 1) := by decide +kernel
theorem dL_law_437 : decode cL_law 437 = .ok (.iadd, 1) := by decide +kernel
theorem dL_law_438 : decode cL_law 438 = .ok (.iaload, 1) := by decide +kernel
theorem dL_law_439 : decode cL_law 439 = .ok (.invokevirtual 51, 3) := by decide +kernel
theorem dL_law_442 : decode cL_law 442 = .ok (.if_icmp .eq 680, 3) := by decide +kernel
theorem dL_law_445 : decode cL_law 445 = .ok (.iconst 0, 1) := by decide +kernel
theorem dL_law_446 : decode cL_law 446 = .ok (.ireturn, 1) := by decide +kernel
theorem dL_law_447 : decode cL_law 447 = .ok (.aload_n 1, 1) := by decide +kernel
theorem dL_law_448 : decode cL_law 448 = .ok (.aload_n 0, 1) := by decide +kernel
theorem dL_law_449 : decode cL_law 449 = .ok (.iload_n 3, 1) := by decide +kernel
theorem dL_law_450 : decode cL_law 450 = .ok (.iconst 1, 1) := by decide +kernel
theorem dL_law_451 : decode cL_law 451 = .ok (.iadd, 1) := by decide +kernel
theorem dL_law_452 : decode cL_law 452 = .ok (.iaload, 1) := by decide +kernel
theorem dL_law_453 : decode cL_law 453 = .ok (.invokevirtual 52, 3) := by decide +kernel
theorem dL_law_456 : decode cL_law 456 = .ok (.aload_n 2, 1) := by decide +kernel
theorem dL_law_457 : decode cL_law 457 = .ok (.aload_n 0, 1) := by decide +kernel
theorem dL_law_458 : decode cL_law 458 = .ok (.iload_n 3, 1) := by decide +kernel
theorem dL_law_459 : decode cL_law 459 = .ok (.iconst 1, 1) := by decide +kernel
theorem dL_law_460 : decode cL_law 460 = .ok (.iadd, 1) := by decide +kernel
theorem dL_law_461 : decode cL_law 461 = .ok (.iaload, 1) := by decide +kernel
theorem dL_law_462 : decode cL_law 462 = .ok (.invokevirtual 55, 3) := by decide +kernel
theorem dL_law_465 : decode cL_law 465 = .ok (.if_icmp .eq 657, 3) := by decide +kernel
theorem dL_law_468 : decode cL_law 468 = .ok (.iconst 0, 1) := by decide +kernel
theorem dL_law_469 : decode cL_law 469 = .ok (.ireturn, 1) := by decide +kernel
theorem dL_law_470 : decode cL_law 470 = .ok (.aload_n 1, 1) := by decide +kernel
theorem dL_law_471 : decode cL_law 471 = .ok (.aload_n 0, 1) := by decide +kernel
theorem dL_law_472 : decode cL_law 472 = .ok (.iload_n 3, 1) := by decide +kernel
theorem dL_law_473 : decode cL_law 473 = .ok (.iconst 1, 1) := by decide +kernel
theorem dL_law_474 : decode cL_law 474 = .ok (.iadd, 1) := by decide +kernel
theorem dL_law_475 : decode cL_law 475 = .ok (.iaload, 1) := by decide +kernel
theorem dL_law_476 : decode cL_law 476 = .ok (.aload_n 0, 1) := by decide +kernel
theorem dL_law_477 : decode cL_law 477 = .ok (.iload_n 3, 1) := by decide +kernel
theorem dL_law_478 : decode cL_law 478 = .ok (.iconst 2, 1) := by decide +kernel
theorem dL_law_479 : decode cL_law 479 = .ok (.iadd, 1) := by decide +kernel
theorem dL_law_480 : decode cL_law 480 = .ok (.iaload, 1) := by decide +kernel
theorem dL_law_481 : decode cL_law 481 = .ok (.aload_n 0, 1) := by decide +kernel
theorem dL_law_482 : decode cL_law 482 = .ok (.iload_n 3, 1) := by decide +kernel
theorem dL_law_483 : decode cL_law 483 = .ok (.iconst 3, 1) := by decide +kernel
theorem dL_law_484 : decode cL_law 484 = .ok (.iadd, 1) := by decide +kernel
theorem dL_law_485 : decode cL_law 485 = .ok (.iaload, 1) := by decide +kernel
theorem dL_law_486 : decode cL_law 486 = .ok (.ifCond .eq 7, 3) := by decide +kernel
theorem dL_law_489 : decode cL_law 489 = .ok (.iconst 1, 1) := by decide +kernel
theorem dL_law_490 : decode cL_law 490 = .ok (.goto 4, 3) := by decide +kernel
theorem dL_law_493 : decode cL_law 493 = .ok (.iconst 0, 1) := by decide +kernel
theorem dL_law_494 : decode cL_law 494 = .ok (.invokevirtual 56, 3) := by decide +kernel
theorem dL_law_497 : decode cL_law 497 = .ok (.aload_n 2, 1) := by decide +kernel
theorem dL_law_498 : decode cL_law 498 = .ok (.aload_n 0, 1) := by decide +kernel
theorem dL_law_499 : decode cL_law 499 = .ok (.iload_n 3, 1) := by decide +kernel
theorem dL_law_500 : decode cL_law 500 = .ok (.iconst 1, 1) := by decide +kernel
theorem dL_law_501 : decode cL_law 501 = .ok (.iadd, 1) := by decide +kernel
theorem dL_law_502 : decode cL_law 502 = .ok (.iaload, 1) := by decide +kernel
theorem dL_law_503 : decode cL_law 503 = .ok (.aload_n 0, 1) := by decide +kernel
theorem dL_law_504 : decode cL_law 504 = .ok (.iload_n 3, 1) := by decide +kernel
theorem dL_law_505 : decode cL_law 505 = .ok (.iconst 2, 1) := by decide +kernel
theorem dL_law_506 : decode cL_law 506 = .ok (.iadd, 1) := by decide +kernel
theorem dL_law_507 : decode cL_law 507 = .ok (.iaload, 1) := by decide +kernel
theorem dL_law_508 : decode cL_law 508 = .ok (.aload_n 0, 1) := by decide +kernel
theorem dL_law_509 : decode cL_law 509 = .ok (.iload_n 3, 1) := by decide +kernel
theorem dL_law_510 : decode cL_law 510 = .ok (.iconst 3, 1) := by decide +kernel
theorem dL_law_511 : decode cL_law 511 = .ok (.iadd, 1) := by decide +kernel
theorem dL_law_512 : decode cL_law 512 = .ok (.iaload, 1) := by decide +kernel
theorem dL_law_513 : decode cL_law 513 = .ok (.ifCond .eq 7, 3) := by decide +kernel
theorem dL_law_516 : decode cL_law 516 = .ok (.iconst 1, 1) := by decide +kernel
theorem dL_law_517 : decode cL_law 517 = .ok (.goto 4, 3) := by decide +kernel
theorem dL_law_520 : decode cL_law 520 = .ok (.iconst 0, 1) := by decide +kernel
theorem dL_law_521 : decode cL_law 521 = .ok (.invokevirtual 60, 3) := by decide +kernel
theorem dL_law_524 : decode cL_law 524 = .ok (.if_icmp .eq 598, 3) := by decide +kernel
theorem dL_law_527 : decode cL_law 527 = .ok (.iconst 0, 1) := by decide +kernel
theorem dL_law_528 : decode cL_law 528 = .ok (.ireturn, 1) := by decide +kernel
theorem dL_law_529 : decode cL_law 529 = .ok (.aload_n 1, 1) := by decide +kernel
theorem dL_law_530 : decode cL_law 530 = .ok (.aload_n 0, 1) := by decide +kernel
theorem dL_law_531 : decode cL_law 531 = .ok (.iload_n 3, 1) := by decide +kernel
theorem dL_law_532 : decode cL_law 532 = .ok (.iconst 1, 1) := by decide +kernel
theorem dL_law_533 : decode cL_law 533 = .ok (.iadd, 1) := by decide +kernel
theorem dL_law_534 : decode cL_law 534 = .ok (.iaload, 1) := by decide +kernel
theorem dL_law_535 : decode cL_law 535 = .ok (.invokevirtual 61, 3) := by decide +kernel
theorem dL_law_538 : decode cL_law 538 = .ok (.aload_n 2, 1) := by decide +kernel
theorem dL_law_539 : decode cL_law 539 = .ok (.aload_n 0, 1) := by decide +kernel
theorem dL_law_540 : decode cL_law 540 = .ok (.iload_n 3, 1) := by decide +kernel
theorem dL_law_541 : decode cL_law 541 = .ok (.iconst 1, 1) := by decide +kernel
theorem dL_law_542 : decode cL_law 542 = .ok (.iadd, 1) := by decide +kernel
theorem dL_law_543 : decode cL_law 543 = .ok (.iaload, 1) := by decide +kernel
theorem dL_law_544 : decode cL_law 544 = .ok (.invokevirtual 64, 3) := by decide +kernel
theorem dL_law_547 : decode cL_law 547 = .ok (.if_icmp .eq 575, 3) := by decide +kernel
theorem dL_law_550 : decode cL_law 550 = .ok (.iconst 0, 1) := by decide +kernel
theorem dL_law_551 : decode cL_law 551 = .ok (.ireturn, 1) := by decide +kernel
theorem dL_law_552 : decode cL_law 552 = .ok (.aload_n 1, 1) := by decide +kernel
theorem dL_law_553 : decode cL_law 553 = .ok (.aload_n 0, 1) := by decide +kernel
theorem dL_law_554 : decode cL_law 554 = .ok (.iload_n 3, 1) := by decide +kernel
theorem dL_law_555 : decode cL_law 555 = .ok (.iconst 1, 1) := by decide +kernel
theorem dL_law_556 : decode cL_law 556 = .ok (.iadd, 1) := by decide +kernel
theorem dL_law_557 : decode cL_law 557 = .ok (.iaload, 1) := by decide +kernel
theorem dL_law_558 : decode cL_law 558 = .ok (.invokevirtual 65, 3) := by decide +kernel
theorem dL_law_561 : decode cL_law 561 = .ok (.aload_n 2, 1) := by decide +kernel
theorem dL_law_562 : decode cL_law 562 = .ok (.aload_n 0, 1) := by decide +kernel
theorem dL_law_563 : decode cL_law 563 = .ok (.iload_n 3, 1) := by decide +kernel
theorem dL_law_564 : decode cL_law 564 = .ok (.iconst 1, 1) := by decide +kernel
theorem dL_law_565 : decode cL_law 565 = .ok (.iadd, 1) := by decide +kernel
theorem dL_law_566 : decode cL_law 566 = .ok (.iaload, 1) := by decide +kernel
theorem dL_law_567 : decode cL_law 567 = .ok (.invokevirtual 68, 3) := by decide +kernel
theorem dL_law_570 : decode cL_law 570 = .ok (.if_icmp .eq 552, 3) := by decide +kernel
theorem dL_law_573 : decode cL_law 573 = .ok (.iconst 0, 1) := by decide +kernel
theorem dL_law_574 : decode cL_law 574 = .ok (.ireturn, 1) := by decide +kernel
theorem dL_law_575 : decode cL_law 575 = .ok (.aload_n 1, 1) := by decide +kernel
theorem dL_law_576 : decode cL_law 576 = .ok (.aload_n 0, 1) := by decide +kernel
theorem dL_law_577 : decode cL_law 577 = .ok (.iload_n 3, 1) := by decide +kernel
theorem dL_law_578 : decode cL_law 578 = .ok (.iconst 1, 1) := by decide +kernel
theorem dL_law_579 : decode cL_law 579 = .ok (.iadd, 1) := by decide +kernel
theorem dL_law_580 : decode cL_law 580 = .ok (.iaload, 1) := by decide +kernel
theorem dL_law_581 : decode cL_law 581 = .ok (.invokevirtual 69, 3) := by decide +kernel
theorem dL_law_584 : decode cL_law 584 = .ok (.aload_n 2, 1) := by decide +kernel
theorem dL_law_585 : decode cL_law 585 = .ok (.aload_n 0, 1) := by decide +kernel
theorem dL_law_586 : decode cL_law 586 = .ok (.iload_n 3, 1) := by decide +kernel
theorem dL_law_587 : decode cL_law 587 = .ok (.iconst 1, 1) := by decide +kernel
theorem dL_law_588 : decode cL_law 588 = .ok (.iadd, 1) := by decide +kernel
theorem dL_law_589 : decode cL_law 589 = .ok (.iaload, 1) := by decide +kernel
theorem dL_law_590 : decode cL_law 590 = .ok (.invokevirtual 72, 3) := by decide +kernel
theorem dL_law_593 : decode cL_law 593 = .ok (.if_icmp .eq 529, 3) := by decide +kernel
theorem dL_law_596 : decode cL_law 596 = .ok (.iconst 0, 1) := by decide +kernel
theorem dL_law_597 : decode cL_law 597 = .ok (.ireturn, 1) := by decide +kernel
theorem dL_law_598 : decode cL_law 598 = .ok (.aload_n 1, 1) := by decide +kernel
theorem dL_law_599 : decode cL_law 599 = .ok (.aload_n 0, 1) := by decide +kernel
theorem dL_law_600 : decode cL_law 600 = .ok (.iload_n 3, 1) := by decide +kernel
theorem dL_law_601 : decode cL_law 601 = .ok (.iconst 1, 1) := by decide +kernel
theorem dL_law_602 : decode cL_law 602 = .ok (.iadd, 1) := by decide +kernel
theorem dL_law_603 : decode cL_law 603 = .ok (.iaload, 1) := by decide +kernel
theorem dL_law_604 : decode cL_law 604 = .ok (.aload_n 0, 1) := by decide +kernel
theorem dL_law_605 : decode cL_law 605 = .ok (.iload_n 3, 1) := by decide +kernel
theorem dL_law_606 : decode cL_law 606 = .ok (.iconst 2, 1) := by decide +kernel
theorem dL_law_607 : decode cL_law 607 = .ok (.iadd, 1) := by decide +kernel
theorem dL_law_608 : decode cL_law 608 = .ok (.iaload, 1) := by decide +kernel
theorem dL_law_609 : decode cL_law 609 = .ok (.aload_n 0, 1) := by decide +kernel
theorem dL_law_610 : decode cL_law 610 = .ok (.iload_n 3, 1) := by decide +kernel
theorem dL_law_611 : decode cL_law 611 = .ok (.iconst 3, 1) := by decide +kernel
theorem dL_law_612 : decode cL_law 612 = .ok (.iadd, 1) := by decide +kernel
theorem dL_law_613 : decode cL_law 613 = .ok (.iaload, 1) := by decide +kernel
theorem dL_law_614 : decode cL_law 614 = .ok (.aload_n 0, 1) := by decide +kernel
theorem dL_law_615 : decode cL_law 615 = .ok (.iload_n 3, 1) := by decide +kernel
theorem dL_law_616 : decode cL_law 616 = .ok (.iconst 4, 1) := by decide +kernel
theorem dL_law_617 : decode cL_law 617 = .ok (.iadd, 1) := by decide +kernel
theorem dL_law_618 : decode cL_law 618 = .ok (.iaload, 1) := by decide +kernel
theorem dL_law_619 : decode cL_law 619 = .ok (.invokevirtual 73, 3) := by decide +kernel
theorem dL_law_622 : decode cL_law 622 = .ok (.aload_n 2, 1) := by decide +kernel
theorem dL_law_623 : decode cL_law 623 = .ok (.aload_n 0, 1) := by decide +kernel
theorem dL_law_624 : decode cL_law 624 = .ok (.iload_n 3, 1) := by decide +kernel
theorem dL_law_625 : decode cL_law 625 = .ok (.iconst 1, 1) := by decide +kernel
theorem dL_law_626 : decode cL_law 626 = .ok (.iadd, 1) := by decide +kernel
theorem dL_law_627 : decode cL_law 627 = .ok (.iaload, 1) := by decide +kernel
theorem dL_law_628 : decode cL_law 628 = .ok (.aload_n 0, 1) := by decide +kernel
theorem dL_law_629 : decode cL_law 629 = .ok (.iload_n 3, 1) := by decide +kernel
theorem dL_law_630 : decode cL_law 630 = .ok (.iconst 2, 1) := by decide +kernel
theorem dL_law_631 : decode cL_law 631 = .ok (.iadd, 1) := by decide +kernel
theorem dL_law_632 : decode cL_law 632 = .ok (.iaload, 1) := by decide +kernel
theorem dL_law_633 : decode cL_law 633 = .ok (.aload_n 0, 1) := by decide +kernel
theorem dL_law_634 : decode cL_law 634 = .ok (.iload_n 3, 1) := by decide +kernel
theorem dL_law_635 : decode cL_law 635 = .ok (.iconst 3, 1) := by decide +kernel
theorem dL_law_636 : decode cL_law 636 = .ok (.iadd, 1) := by decide +kernel
theorem dL_law_637 : decode cL_law 637 = .ok (.iaload, 1) := by decide +kernel
theorem dL_law_638 : decode cL_law 638 = .ok (.aload_n 0, 1) := by decide +kernel
theorem dL_law_639 : decode cL_law 639 = .ok (.iload_n 3, 1) := by decide +kernel
theorem dL_law_640 : decode cL_law 640 = .ok (.iconst 4, 1) := by decide +kernel
theorem dL_law_641 : decode cL_law 641 = .ok (.iadd, 1) := by decide +kernel
theorem dL_law_642 : decode cL_law 642 = .ok (.iaload, 1) := by decide +kernel
theorem dL_law_643 : decode cL_law 643 = .ok (.invokevirtual 76, 3) := by decide +kernel
theorem dL_law_646 : decode cL_law 646 = .ok (.if_icmp .eq 476, 3) := by decide +kernel
theorem dL_law_649 : decode cL_law 649 = .ok (.iconst 0, 1) := by decide +kernel
theorem dL_law_650 : decode cL_law 650 = .ok (.ireturn, 1) := by decide +kernel
theorem dL_law_651 : decode cL_law 651 = .ok (.aload_n 1, 1) := by decide +kernel
theorem dL_law_652 : decode cL_law 652 = .ok (.aload_n 0, 1) := by decide +kernel
theorem dL_law_653 : decode cL_law 653 = .ok (.iload_n 3, 1) := by decide +kernel
theorem dL_law_654 : decode cL_law 654 = .ok (.iconst 1, 1) := by decide +kernel
theorem dL_law_655 : decode cL_law 655 = .ok (.iadd, 1) := by decide +kernel
theorem dL_law_656 : decode cL_law 656 = .ok (.iaload, 1) := by decide +kernel
theorem dL_law_657 : decode cL_law 657 = .ok (.aload_n 0, 1) := by decide +kernel
theorem dL_law_658 : decode cL_law 658 = .ok (.iload_n 3, 1) := by decide +kernel
theorem dL_law_659 : decode cL_law 659 = .ok (.iconst 2, 1) := by decide +kernel
theorem dL_law_660 : decode cL_law 660 = .ok (.iadd, 1) := by decide +kernel
theorem dL_law_661 : decode cL_law 661 = .ok (.iaload, 1) := by decide +kernel
theorem dL_law_662 : decode cL_law 662 = .ok (.aload_n 0, 1) := by decide +kernel
theorem dL_law_663 : decode cL_law 663 = .ok (.iload_n 3, 1) := by decide +kernel
theorem dL_law_664 : decode cL_law 664 = .ok (.iconst 3, 1) := by decide +kernel
theorem dL_law_665 : decode cL_law 665 = .ok (.iadd, 1) := by decide +kernel
theorem dL_law_666 : decode cL_law 666 = .ok (.iaload, 1) := by decide +kernel
theorem dL_law_667 : decode cL_law 667 = .ok (.aload_n 0, 1) := by decide +kernel
theorem dL_law_668 : decode cL_law 668 = .ok (.iload_n 3, 1) := by decide +kernel
theorem dL_law_669 : decode cL_law 669 = .ok (.iconst 4, 1) := by decide +kernel
theorem dL_law_670 : decode cL_law 670 = .ok (.iadd, 1) := by decide +kernel
theorem dL_law_671 : decode cL_law 671 = .ok (.iaload, 1) := by decide +kernel
theorem dL_law_672 : decode cL_law 672 = .ok (.aload_n 0, 1) := by decide +kernel
theorem dL_law_673 : decode cL_law 673 = .ok (.iload_n 3, 1) := by decide +kernel
theorem dL_law_674 : decode cL_law 674 = .ok (.iconst 5, 1) := by decide +kernel
theorem dL_law_675 : decode cL_law 675 = .ok (.iadd, 1) := by decide +kernel
theorem dL_law_676 : decode cL_law 676 = .ok (.iaload, 1) := by decide +kernel
theorem dL_law_677 : decode cL_law 677 = .ok (.invokevirtual 77, 3) := by decide +kernel
theorem dL_law_680 : decode cL_law 680 = .ok (.aload_n 2, 1) := by decide +kernel
theorem dL_law_681 : decode cL_law 681 = .ok (.aload_n 0, 1) := by decide +kernel
theorem dL_law_682 : decode cL_law 682 = .ok (.iload_n 3, 1) := by decide +kernel
theorem dL_law_683 : decode cL_law 683 = .ok (.iconst 1, 1) := by decide +kernel
theorem dL_law_684 : decode cL_law 684 = .ok (.iadd, 1) := by decide +kernel
theorem dL_law_685 : decode cL_law 685 = .ok (.iaload, 1) := by decide +kernel
theorem dL_law_686 : decode cL_law 686 = .ok (.aload_n 0, 1) := by decide +kernel
theorem dL_law_687 : decode cL_law 687 = .ok (.iload_n 3, 1) := by decide +kernel
theorem dL_law_688 : decode cL_law 688 = .ok (.iconst 2, 1) := by decide +kernel
theorem dL_law_689 : decode cL_law 689 = .ok (.iadd, 1) := by decide +kernel
theorem dL_law_690 : decode cL_law 690 = .ok (.iaload, 1) := by decide +kernel
theorem dL_law_691 : decode cL_law 691 = .ok (.aload_n 0, 1) := by decide +kernel
theorem dL_law_692 : decode cL_law 692 = .ok (.iload_n 3, 1) := by decide +kernel
theorem dL_law_693 : decode cL_law 693 = .ok (.iconst 3, 1) := by decide +kernel
theorem dL_law_694 : decode cL_law 694 = .ok (.iadd, 1) := by decide +kernel
theorem dL_law_695 : decode cL_law 695 = .ok (.iaload, 1) := by decide +kernel
theorem dL_law_696 : decode cL_law 696 = .ok (.aload_n 0, 1) := by decide +kernel
theorem dL_law_697 : decode cL_law 697 = .ok (.iload_n 3, 1) := by decide +kernel
theorem dL_law_698 : decode cL_law 698 = .ok (.iconst 4, 1) := by decide +kernel
theorem dL_law_699 : decode cL_law 699 = .ok (.iadd, 1) := by decide +kernel
theorem dL_law_700 : decode cL_law 700 = .ok (.iaload, 1) := by decide +kernel
theorem dL_law_701 : decode cL_law 701 = .ok (.aload_n 0, 1) := by decide +kernel
theorem dL_law_702 : decode cL_law 702 = .ok (.iload_n 3, 1) := by decide +kernel
theorem dL_law_703 : decode cL_law 703 = .ok (.iconst 5, 1) := by decide +kernel
theorem dL_law_704 : decode cL_law 704 = .ok (.iadd, 1) := by decide +kernel
theorem dL_law_705 : decode cL_law 705 = .ok (.iaload, 1) := by decide +kernel
theorem dL_law_706 : decode cL_law 706 = .ok (.invokevirtual 81, 3) := by decide +kernel
theorem dL_law_709 : decode cL_law 709 = .ok (.if_icmp .eq 413, 3) := by decide +kernel
theorem dL_law_712 : decode cL_law 712 = .ok (.iconst 0, 1) := by decide +kernel
theorem dL_law_713 : decode cL_law 713 = .ok (.ireturn, 1) := by decide +kernel
theorem dL_law_714 : decode cL_law 714 = .ok (.aload_n 1, 1) := by decide +kernel
theorem dL_law_715 : decode cL_law 715 = .ok (.aload_n 0, 1) := by decide +kernel
theorem dL_law_716 : decode cL_law 716 = .ok (.iload_n 3, 1) := by decide +kernel
theorem dL_law_717 : decode cL_law 717 = .ok (.iconst 1, 1) := by decide +kernel
theorem dL_law_718 : decode cL_law 718 = .ok (.iadd, 1) := by decide +kernel
theorem dL_law_719 : decode cL_law 719 = .ok (.iaload, 1) := by decide +kernel
theorem dL_law_720 : decode cL_law 720 = .ok (.aload_n 0, 1) := by decide +kernel
theorem dL_law_721 : decode cL_law 721 = .ok (.iload_n 3, 1) := by decide +kernel
theorem dL_law_722 : decode cL_law 722 = .ok (.iconst 2, 1) := by decide +kernel
theorem dL_law_723 : decode cL_law 723 = .ok (.iadd, 1) := by decide +kernel
theorem dL_law_724 : decode cL_law 724 = .ok (.iaload, 1) := by decide +kernel
theorem dL_law_725 : decode cL_law 725 = .ok (.aload_n 0, 1) := by decide +kernel
theorem dL_law_726 : decode cL_law 726 = .ok (.iload_n 3, 1) := by decide +kernel
theorem dL_law_727 : decode cL_law 727 = .ok (.iconst 3, 1) := by decide +kernel
theorem dL_law_728 : decode cL_law 728 = .ok (.iadd, 1) := by decide +kernel
theorem dL_law_729 : decode cL_law 729 = .ok (.iaload, 1) := by decide +kernel
theorem dL_law_730 : decode cL_law 730 = .ok (.aload_n 0, 1) := by decide +kernel
theorem dL_law_731 : decode cL_law 731 = .ok (.iload_n 3, 1) := by decide +kernel
theorem dL_law_732 : decode cL_law 732 = .ok (.iconst 4, 1) := by decide +kernel
theorem dL_law_733 : decode cL_law 733 = .ok (.iadd, 1) := by decide +kernel
theorem dL_law_734 : decode cL_law 734 = .ok (.iaload, 1) := by decide +kernel
theorem dL_law_735 : decode cL_law 735 = .ok (.aload_n 0, 1) := by decide +kernel
theorem dL_law_736 : decode cL_law 736 = .ok (.iload_n 3, 1) := by decide +kernel
theorem dL_law_737 : decode cL_law 737 = .ok (.iconst 5, 1) := by decide +kernel
theorem dL_law_738 : decode cL_law 738 = .ok (.iadd, 1) := by decide +kernel
theorem dL_law_739 : decode cL_law 739 = .ok (.iaload, 1) := by decide +kernel
theorem dL_law_740 : decode cL_law 740 = .ok (.invokevirtual 82, 3) := by decide +kernel
theorem dL_law_743 : decode cL_law 743 = .ok (.aload_n 2, 1) := by decide +kernel
theorem dL_law_744 : decode cL_law 744 = .ok (.aload_n 0, 1) := by decide +kernel
theorem dL_law_745 : decode cL_law 745 = .ok (.iload_n 3, 1) := by decide +kernel
theorem dL_law_746 : decode cL_law 746 = .ok (.iconst 1, 1) := by decide +kernel
theorem dL_law_747 : decode cL_law 747 = .ok (.iadd, 1) := by decide +kernel
theorem dL_law_748 : decode cL_law 748 = .ok (.iaload, 1) := by decide +kernel
theorem dL_law_749 : decode cL_law 749 = .ok (.aload_n 0, 1) := by decide +kernel
theorem dL_law_750 : decode cL_law 750 = .ok (.iload_n 3, 1) := by decide +kernel
theorem dL_law_751 : decode cL_law 751 = .ok (.iconst 2, 1) := by decide +kernel
theorem dL_law_752 : decode cL_law 752 = .ok (.iadd, 1) := by decide +kernel
theorem dL_law_753 : decode cL_law 753 = .ok (.iaload, 1) := by decide +kernel
theorem dL_law_754 : decode cL_law 754 = .ok (.aload_n 0, 1) := by decide +kernel
theorem dL_law_755 : decode cL_law 755 = .ok (.iload_n 3, 1) := by decide +kernel
theorem dL_law_756 : decode cL_law 756 = .ok (.iconst 3, 1) := by decide +kernel
theorem dL_law_757 : decode cL_law 757 = .ok (.iadd, 1) := by decide +kernel
theorem dL_law_758 : decode cL_law 758 = .ok (.iaload, 1) := by decide +kernel
theorem dL_law_759 : decode cL_law 759 = .ok (.aload_n 0, 1) := by decide +kernel
theorem dL_law_760 : decode cL_law 760 = .ok (.iload_n 3, 1) := by decide +kernel
theorem dL_law_761 : decode cL_law 761 = .ok (.iconst 4, 1) := by decide +kernel
theorem dL_law_762 : decode cL_law 762 = .ok (.iadd, 1) := by decide +kernel
theorem dL_law_763 : decode cL_law 763 = .ok (.iaload, 1) := by decide +kernel
theorem dL_law_764 : decode cL_law 764 = .ok (.aload_n 0, 1) := by decide +kernel
theorem dL_law_765 : decode cL_law 765 = .ok (.iload_n 3, 1) := by decide +kernel
theorem dL_law_766 : decode cL_law 766 = .ok (.iconst 5, 1) := by decide +kernel
theorem dL_law_767 : decode cL_law 767 = .ok (.iadd, 1) := by decide +kernel
theorem dL_law_768 : decode cL_law 768 = .ok (.iaload, 1) := by decide +kernel
theorem dL_law_769 : decode cL_law 769 = .ok (.invokevirtual 86, 3) := by decide +kernel
theorem dL_law_772 : decode cL_law 772 = .ok (.lcmp, 1) := by decide +kernel
theorem dL_law_773 : decode cL_law 773 = .ok (.ifCond .eq 349, 3) := by decide +kernel
theorem dL_law_776 : decode cL_law 776 = .ok (.iconst 0, 1) := by decide +kernel
theorem dL_law_777 : decode cL_law 777 = .ok (.ireturn, 1) := by decide +kernel
theorem dL_law_778 : decode cL_law 778 = .ok (.aload_n 1, 1) := by decide +kernel
theorem dL_law_779 : decode cL_law 779 = .ok (.aload_n 0, 1) := by decide +kernel
theorem dL_law_780 : decode cL_law 780 = .ok (.iload_n 3, 1) := by decide +kernel
theorem dL_law_781 : decode cL_law 781 = .ok (.iconst 1, 1) := by decide +kernel
theorem dL_law_782 : decode cL_law 782 = .ok (.iadd, 1) := by decide +kernel
theorem dL_law_783 : decode cL_law 783 = .ok (.iaload, 1) := by decide +kernel
theorem dL_law_784 : decode cL_law 784 = .ok (.aload_n 0, 1) := by decide +kernel
theorem dL_law_785 : decode cL_law 785 = .ok (.iload_n 3, 1) := by decide +kernel
theorem dL_law_786 : decode cL_law 786 = .ok (.iconst 2, 1) := by decide +kernel
theorem dL_law_787 : decode cL_law 787 = .ok (.iadd, 1) := by decide +kernel
theorem dL_law_788 : decode cL_law 788 = .ok (.iaload, 1) := by decide +kernel
theorem dL_law_789 : decode cL_law 789 = .ok (.aload_n 0, 1) := by decide +kernel
theorem dL_law_790 : decode cL_law 790 = .ok (.iload_n 3, 1) := by decide +kernel
theorem dL_law_791 : decode cL_law 791 = .ok (.iconst 3, 1) := by decide +kernel
theorem dL_law_792 : decode cL_law 792 = .ok (.iadd, 1) := by decide +kernel
theorem dL_law_793 : decode cL_law 793 = .ok (.iaload, 1) := by decide +kernel
theorem dL_law_794 : decode cL_law 794 = .ok (.invokevirtual 87, 3) := by decide +kernel
theorem dL_law_797 : decode cL_law 797 = .ok (.aload_n 2, 1) := by decide +kernel
theorem dL_law_798 : decode cL_law 798 = .ok (.aload_n 0, 1) := by decide +kernel
theorem dL_law_799 : decode cL_law 799 = .ok (.iload_n 3, 1) := by decide +kernel
theorem dL_law_800 : decode cL_law 800 = .ok (.iconst 1, 1) := by decide +kernel
theorem dL_law_801 : decode cL_law 801 = .ok (.iadd, 1) := by decide +kernel
theorem dL_law_802 : decode cL_law 802 = .ok (.iaload, 1) := by decide +kernel
theorem dL_law_803 : decode cL_law 803 = .ok (.aload_n 0, 1) := by decide +kernel
theorem dL_law_804 : decode cL_law 804 = .ok (.iload_n 3, 1) := by decide +kernel
theorem dL_law_805 : decode cL_law 805 = .ok (.iconst 2, 1) := by decide +kernel
theorem dL_law_806 : decode cL_law 806 = .ok (.iadd, 1) := by decide +kernel
theorem dL_law_807 : decode cL_law 807 = .ok (.iaload, 1) := by decide +kernel
theorem dL_law_808 : decode cL_law 808 = .ok (.aload_n 0, 1) := by decide +kernel
theorem dL_law_809 : decode cL_law 809 = .ok (.iload_n 3, 1) := by decide +kernel
theorem dL_law_810 : decode cL_law 810 = .ok (.iconst 3, 1) := by decide +kernel
theorem dL_law_811 : decode cL_law 811 = .ok (.iadd, 1) := by decide +kernel
theorem dL_law_812 : decode cL_law 812 = .ok (.iaload, 1) := by decide +kernel
theorem dL_law_813 : decode cL_law 813 = .ok (.invokevirtual 91, 3) := by decide +kernel
theorem dL_law_816 : decode cL_law 816 = .ok (.if_icmp .eq 306, 3) := by decide +kernel
theorem dL_law_819 : decode cL_law 819 = .ok (.iconst 0, 1) := by decide +kernel
theorem dL_law_820 : decode cL_law 820 = .ok (.ireturn, 1) := by decide +kernel
theorem dL_law_821 : decode cL_law 821 = .ok (.aload_n 1, 1) := by decide +kernel
theorem dL_law_822 : decode cL_law 822 = .ok (.aload_n 0, 1) := by decide +kernel
theorem dL_law_823 : decode cL_law 823 = .ok (.iload_n 3, 1) := by decide +kernel
theorem dL_law_824 : decode cL_law 824 = .ok (.iconst 1, 1) := by decide +kernel
theorem dL_law_825 : decode cL_law 825 = .ok (.iadd, 1) := by decide +kernel
theorem dL_law_826 : decode cL_law 826 = .ok (.iaload, 1) := by decide +kernel
theorem dL_law_827 : decode cL_law 827 = .ok (.invokevirtual 92, 3) := by decide +kernel
theorem dL_law_830 : decode cL_law 830 = .ok (.aload_n 2, 1) := by decide +kernel
theorem dL_law_831 : decode cL_law 831 = .ok (.aload_n 0, 1) := by decide +kernel
theorem dL_law_832 : decode cL_law 832 = .ok (.iload_n 3, 1) := by decide +kernel
theorem dL_law_833 : decode cL_law 833 = .ok (.iconst 1, 1) := by decide +kernel
theorem dL_law_834 : decode cL_law 834 = .ok (.iadd, 1) := by decide +kernel
theorem dL_law_835 : decode cL_law 835 = .ok (.iaload, 1) := by decide +kernel
theorem dL_law_836 : decode cL_law 836 = .ok (.invokevirtual 95, 3) := by decide +kernel
theorem dL_law_839 : decode cL_law 839 = .ok (.if_icmp .eq 283, 3) := by decide +kernel
theorem dL_law_842 : decode cL_law 842 = .ok (.iconst 0, 1) := by decide +kernel
theorem dL_law_843 : decode cL_law 843 = .ok (.ireturn, 1) := by decide +kernel
theorem dL_law_844 : decode cL_law 844 = .ok (.aload_n 1, 1) := by decide +kernel
theorem dL_law_845 : decode cL_law 845 = .ok (.aload_n 0, 1) := by decide +kernel
theorem dL_law_846 : decode cL_law 846 = .ok (.iload_n 3, 1) := by decide +kernel
theorem dL_law_847 : decode cL_law 847 = .ok (.iconst 1, 1) := by decide +kernel
theorem dL_law_848 : decode cL_law 848 = .ok (.iadd, 1) := by decide +kernel
theorem dL_law_849 : decode cL_law 849 = .ok (.iaload, 1) := by decide +kernel
theorem dL_law_850 : decode cL_law 850 = .ok (.aload_n 0, 1) := by decide +kernel
theorem dL_law_851 : decode cL_law 851 = .ok (.iload_n 3, 1) := by decide +kernel
theorem dL_law_852 : decode cL_law 852 = .ok (.iconst 2, 1) := by decide +kernel
theorem dL_law_853 : decode cL_law 853 = .ok (.iadd, 1) := by decide +kernel
theorem dL_law_854 : decode cL_law 854 = .ok (.iaload, 1) := by decide +kernel
theorem dL_law_855 : decode cL_law 855 = .ok (.aload_n 0, 1) := by decide +kernel
theorem dL_law_856 : decode cL_law 856 = .ok (.iload_n 3, 1) := by decide +kernel
theorem dL_law_857 : decode cL_law 857 = .ok (.iconst 3, 1) := by decide +kernel
theorem dL_law_858 : decode cL_law 858 = .ok (.iadd, 1) := by decide +kernel
theorem dL_law_859 : decode cL_law 859 = .ok (.iaload, 1) := by decide +kernel
theorem dL_law_860 : decode cL_law 860 = .ok (.invokevirtual 96, 3) := by decide +kernel
theorem dL_law_863 : decode cL_law 863 = .ok (.aload_n 2, 1) := by decide +kernel
theorem dL_law_864 : decode cL_law 864 = .ok (.aload_n 0, 1) := by decide +kernel
theorem dL_law_865 : decode cL_law 865 = .ok (.iload_n 3, 1) := by decide +kernel
theorem dL_law_866 : decode cL_law 866 = .ok (.iconst 1, 1) := by decide +kernel
theorem dL_law_867 : decode cL_law 867 = .ok (.iadd, 1) := by decide +kernel
theorem dL_law_868 : decode cL_law 868 = .ok (.iaload, 1) := by decide +kernel
theorem dL_law_869 : decode cL_law 869 = .ok (.aload_n 0, 1) := by decide +kernel
theorem dL_law_870 : decode cL_law 870 = .ok (.iload_n 3, 1) := by decide +kernel
theorem dL_law_871 : decode cL_law 871 = .ok (.iconst 2, 1) := by decide +kernel
theorem dL_law_872 : decode cL_law 872 = .ok (.iadd, 1) := by decide +kernel
theorem dL_law_873 : decode cL_law 873 = .ok (.iaload, 1) := by decide +kernel
theorem dL_law_874 : decode cL_law 874 = .ok (.aload_n 0, 1) := by decide +kernel
theorem dL_law_875 : decode cL_law 875 = .ok (.iload_n 3, 1) := by decide +kernel
theorem dL_law_876 : decode cL_law 876 = .ok (.iconst 3, 1) := by decide +kernel
theorem dL_law_877 : decode cL_law 877 = .ok (.iadd, 1) := by decide +kernel
theorem dL_law_878 : decode cL_law 878 = .ok (.iaload, 1) := by decide +kernel
theorem dL_law_879 : decode cL_law 879 = .ok (.invokevirtual 99, 3) := by decide +kernel
theorem dL_law_882 : decode cL_law 882 = .ok (.if_icmp .eq 240, 3) := by decide +kernel
theorem dL_law_885 : decode cL_law 885 = .ok (.iconst 0, 1) := by decide +kernel
theorem dL_law_886 : decode cL_law 886 = .ok (.ireturn, 1) := by decide +kernel
theorem dL_law_887 : decode cL_law 887 = .ok (.aload_n 1, 1) := by decide +kernel
theorem dL_law_888 : decode cL_law 888 = .ok (.aload_n 0, 1) := by decide +kernel
theorem dL_law_889 : decode cL_law 889 = .ok (.iload_n 3, 1) := by decide +kernel
theorem dL_law_890 : decode cL_law 890 = .ok (.iconst 1, 1) := by decide +kernel
theorem dL_law_891 : decode cL_law 891 = .ok (.iadd, 1) := by decide +kernel
theorem dL_law_892 : decode cL_law 892 = .ok (.iaload, 1) := by decide +kernel
theorem dL_law_893 : decode cL_law 893 = .ok (.aload_n 0, 1) := by decide +kernel
theorem dL_law_894 : decode cL_law 894 = .ok (.iload_n 3, 1) := by decide +kernel
theorem dL_law_895 : decode cL_law 895 = .ok (.iconst 2, 1) := by decide +kernel
theorem dL_law_896 : decode cL_law 896 = .ok (.iadd, 1) := by decide +kernel
theorem dL_law_897 : decode cL_law 897 = .ok (.iaload, 1) := by decide +kernel
theorem dL_law_898 : decode cL_law 898 = .ok (.aload_n 0, 1) := by decide +kernel
theorem dL_law_899 : decode cL_law 899 = .ok (.iload_n 3, 1) := by decide +kernel
theorem dL_law_900 : decode cL_law 900 = .ok (.iconst 3, 1) := by decide +kernel
theorem dL_law_901 : decode cL_law 901 = .ok (.iadd, 1) := by decide +kernel
theorem dL_law_902 : decode cL_law 902 = .ok (.iaload, 1) := by decide +kernel
theorem dL_law_903 : decode cL_law 903 = .ok (.invokevirtual 100, 3) := by decide +kernel
theorem dL_law_906 : decode cL_law 906 = .ok (.aload_n 2, 1) := by decide +kernel
theorem dL_law_907 : decode cL_law 907 = .ok (.aload_n 0, 1) := by decide +kernel
theorem dL_law_908 : decode cL_law 908 = .ok (.iload_n 3, 1) := by decide +kernel
theorem dL_law_909 : decode cL_law 909 = .ok (.iconst 1, 1) := by decide +kernel
theorem dL_law_910 : decode cL_law 910 = .ok (.iadd, 1) := by decide +kernel
theorem dL_law_911 : decode cL_law 911 = .ok (.iaload, 1) := by decide +kernel
theorem dL_law_912 : decode cL_law 912 = .ok (.aload_n 0, 1) := by decide +kernel
theorem dL_law_913 : decode cL_law 913 = .ok (.iload_n 3, 1) := by decide +kernel
theorem dL_law_914 : decode cL_law 914 = .ok (.iconst 2, 1) := by decide +kernel
theorem dL_law_915 : decode cL_law 915 = .ok (.iadd, 1) := by decide +kernel
theorem dL_law_916 : decode cL_law 916 = .ok (.iaload, 1) := by decide +kernel
theorem dL_law_917 : decode cL_law 917 = .ok (.aload_n 0, 1) := by decide +kernel
theorem dL_law_918 : decode cL_law 918 = .ok (.iload_n 3, 1) := by decide +kernel
theorem dL_law_919 : decode cL_law 919 = .ok (.iconst 3, 1) := by decide +kernel
theorem dL_law_920 : decode cL_law 920 = .ok (.iadd, 1) := by decide +kernel
theorem dL_law_921 : decode cL_law 921 = .ok (.iaload, 1) := by decide +kernel
theorem dL_law_922 : decode cL_law 922 = .ok (.invokevirtual 104, 3) := by decide +kernel
theorem dL_law_925 : decode cL_law 925 = .ok (.lcmp, 1) := by decide +kernel
theorem dL_law_926 : decode cL_law 926 = .ok (.ifCond .eq 196, 3) := by decide +kernel
theorem dL_law_929 : decode cL_law 929 = .ok (.iconst 0, 1) := by decide +kernel
theorem dL_law_930 : decode cL_law 930 = .ok (.ireturn, 1) := by decide +kernel
theorem dL_law_931 : decode cL_law 931 = .ok (.aload_n 1, 1) := by decide +kernel
theorem dL_law_932 : decode cL_law 932 = .ok (.aload_n 0, 1) := by decide +kernel
theorem dL_law_933 : decode cL_law 933 = .ok (.iload_n 3, 1) := by decide +kernel
theorem dL_law_934 : decode cL_law 934 = .ok (.iconst 1, 1) := by decide +kernel
theorem dL_law_935 : decode cL_law 935 = .ok (.iadd, 1) := by decide +kernel
theorem dL_law_936 : decode cL_law 936 = .ok (.iaload, 1) := by decide +kernel
theorem dL_law_937 : decode cL_law 937 = .ok (.aload_n 0, 1) := by decide +kernel
theorem dL_law_938 : decode cL_law 938 = .ok (.iload_n 3, 1) := by decide +kernel
theorem dL_law_939 : decode cL_law 939 = .ok (.iconst 2, 1) := by decide +kernel
theorem dL_law_940 : decode cL_law 940 = .ok (.iadd, 1) := by decide +kernel
theorem dL_law_941 : decode cL_law 941 = .ok (.iaload, 1) := by decide +kernel
theorem dL_law_942 : decode cL_law 942 = .ok (.aload_n 0, 1) := by decide +kernel
theorem dL_law_943 : decode cL_law 943 = .ok (.iload_n 3, 1) := by decide +kernel
theorem dL_law_944 : decode cL_law 944 = .ok (.iconst 3, 1) := by decide +kernel
theorem dL_law_945 : decode cL_law 945 = .ok (.iadd, 1) := by decide +kernel
theorem dL_law_946 : decode cL_law 946 = .ok (.iaload, 1) := by decide +kernel
theorem dL_law_947 : decode cL_law 947 = .ok (.aload_n 0, 1) := by decide +kernel
theorem dL_law_948 : decode cL_law 948 = .ok (.iload_n 3, 1) := by decide +kernel
theorem dL_law_949 : decode cL_law 949 = .ok (.iconst 4, 1) := by decide +kernel
theorem dL_law_950 : decode cL_law 950 = .ok (.iadd, 1) := by decide +kernel
theorem dL_law_951 : decode cL_law 951 = .ok (.iaload, 1) := by decide +kernel
theorem dL_law_952 : decode cL_law 952 = .ok (.aload_n 0, 1) := by decide +kernel
theorem dL_law_953 : decode cL_law 953 = .ok (.iload_n 3, 1) := by decide +kernel
theorem dL_law_954 : decode cL_law 954 = .ok (.iconst 5, 1) := by decide +kernel
theorem dL_law_955 : decode cL_law 955 = .ok (.iadd, 1) := by decide +kernel
theorem dL_law_956 : decode cL_law 956 = .ok (.iaload, 1) := by decide +kernel
theorem dL_law_957 : decode cL_law 957 = .ok (.invokevirtual 105, 3) := by decide +kernel
theorem dL_law_960 : decode cL_law 960 = .ok (.aload_n 2, 1) := by decide +kernel
theorem dL_law_961 : decode cL_law 961 = .ok (.aload_n 0, 1) := by decide +kernel
theorem dL_law_962 : decode cL_law 962 = .ok (.iload_n 3, 1) := by decide +kernel
theorem dL_law_963 : decode cL_law 963 = .ok (.iconst 1, 1) := by decide +kernel
theorem dL_law_964 : decode cL_law 964 = .ok (.iadd, 1) := by decide +kernel
theorem dL_law_965 : decode cL_law 965 = .ok (.iaload, 1) := by decide +kernel
theorem dL_law_966 : decode cL_law 966 = .ok (.aload_n 0, 1) := by decide +kernel
theorem dL_law_967 : decode cL_law 967 = .ok (.iload_n 3, 1) := by decide +kernel
theorem dL_law_968 : decode cL_law 968 = .ok (.iconst 2, 1) := by decide +kernel
theorem dL_law_969 : decode cL_law 969 = .ok (.iadd, 1) := by decide +kernel
theorem dL_law_970 : decode cL_law 970 = .ok (.iaload, 1) := by decide +kernel
theorem dL_law_971 : decode cL_law 971 = .ok (.aload_n 0, 1) := by decide +kernel
theorem dL_law_972 : decode cL_law 972 = .ok (.iload_n 3, 1) := by decide +kernel
theorem dL_law_973 : decode cL_law 973 = .ok (.iconst 3, 1) := by decide +kernel
theorem dL_law_974 : decode cL_law 974 = .ok (.iadd, 1) := by decide +kernel
theorem dL_law_975 : decode cL_law 975 = .ok (.iaload, 1) := by decide +kernel
theorem dL_law_976 : decode cL_law 976 = .ok (.aload_n 0, 1) := by decide +kernel
theorem dL_law_977 : decode cL_law 977 = .ok (.iload_n 3, 1) := by decide +kernel
theorem dL_law_978 : decode cL_law 978 = .ok (.iconst 4, 1) := by decide +kernel
theorem dL_law_979 : decode cL_law 979 = .ok (.iadd, 1) := by decide +kernel
theorem dL_law_980 : decode cL_law 980 = .ok (.iaload, 1) := by decide +kernel
theorem dL_law_981 : decode cL_law 981 = .ok (.aload_n 0, 1) := by decide +kernel
theorem dL_law_982 : decode cL_law 982 = .ok (.iload_n 3, 1) := by decide +kernel
theorem dL_law_983 : decode cL_law 983 = .ok (.iconst 5, 1) := by decide +kernel
theorem dL_law_984 : decode cL_law 984 = .ok (.iadd, 1) := by decide +kernel
theorem dL_law_985 : decode cL_law 985 = .ok (.iaload, 1) := by decide +kernel
theorem dL_law_986 : decode cL_law 986 = .ok (.invokevirtual 108, 3) := by decide +kernel
theorem dL_law_989 : decode cL_law 989 = .ok (.if_icmp .eq 133, 3) := by decide +kernel
theorem dL_law_992 : decode cL_law 992 = .ok (.iconst 0, 1) := by decide +kernel
theorem dL_law_993 : decode cL_law 993 = .ok (.ireturn, 1) := by decide +kernel
theorem dL_law_994 : decode cL_law 994 = .ok (.aload_n 1, 1) := by decide +kernel
theorem dL_law_995 : decode cL_law 995 = .ok (.aload_n 0, 1) := by decide +kernel
theorem dL_law_996 : decode cL_law 996 = .ok (.iload_n 3, 1) := by decide +kernel
theorem dL_law_997 : decode cL_law 997 = .ok (.iconst 1, 1) := by decide +kernel
theorem dL_law_998 : decode cL_law 998 = .ok (.iadd, 1) := by decide +kernel
theorem dL_law_999 : decode cL_law 999 = .ok (.iaload, 1) := by decide +kernel
theorem dL_law_1000 : decode cL_law 1000 = .ok (.invokevirtual 109, 3) := by decide +kernel
theorem dL_law_1003 : decode cL_law 1003 = .ok (.aload_n 2, 1) := by decide +kernel
theorem dL_law_1004 : decode cL_law 1004 = .ok (.aload_n 0, 1) := by decide +kernel
theorem dL_law_1005 : decode cL_law 1005 = .ok (.iload_n 3, 1) := by decide +kernel
theorem dL_law_1006 : decode cL_law 1006 = .ok (.iconst 1, 1) := by decide +kernel
theorem dL_law_1007 : decode cL_law 1007 = .ok (.iadd, 1) := by decide +kernel
theorem dL_law_1008 : decode cL_law 1008 = .ok (.iaload, 1) := by decide +kernel
theorem dL_law_1009 : decode cL_law 1009 = .ok (.invokevirtual 112, 3) := by decide +kernel
theorem dL_law_1012 : decode cL_law 1012 = .ok (.if_icmp .eq 110, 3) := by decide +kernel
theorem dL_law_1015 : decode cL_law 1015 = .ok (.iconst 0, 1) := by decide +kernel
theorem dL_law_1016 : decode cL_law 1016 = .ok (.ireturn, 1) := by decide +kernel
theorem dL_law_1017 : decode cL_law 1017 = .ok (.aload_n 1, 1) := by decide +kernel
theorem dL_law_1018 : decode cL_law 1018 = .ok (.aload_n 0, 1) := by decide +kernel
theorem dL_law_1019 : decode cL_law 1019 = .ok (.iload_n 3, 1) := by decide +kernel
theorem dL_law_1020 : decode cL_law 1020 = .ok (.iconst 1, 1) := by decide +kernel
theorem dL_law_1021 : decode cL_law 1021 = .ok (.iadd, 1) := by decide +kernel
theorem dL_law_1022 : decode cL_law 1022 = .ok (.iaload, 1) := by decide +kernel
theorem dL_law_1023 : decode cL_law 1023 = .ok (.invokevirtual 113, 3) := by decide +kernel
theorem dL_law_1026 : decode cL_law 1026 = .ok (.aload_n 2, 1) := by decide +kernel
theorem dL_law_1027 : decode cL_law 1027 = .ok (.aload_n 0, 1) := by decide +kernel
theorem dL_law_1028 : decode cL_law 1028 = .ok (.iload_n 3, 1) := by decide +kernel
theorem dL_law_1029 : decode cL_law 1029 = .ok (.iconst 1, 1) := by decide +kernel
theorem dL_law_1030 : decode cL_law 1030 = .ok (.iadd, 1) := by decide +kernel
theorem dL_law_1031 : decode cL_law 1031 = .ok (.iaload, 1) := by decide +kernel
theorem dL_law_1032 : decode cL_law 1032 = .ok (.invokevirtual 116, 3) := by decide +kernel
theorem dL_law_1035 : decode cL_law 1035 = .ok (.if_icmp .eq 87, 3) := by decide +kernel
theorem dL_law_1038 : decode cL_law 1038 = .ok (.iconst 0, 1) := by decide +kernel
theorem dL_law_1039 : decode cL_law 1039 = .ok (.ireturn, 1) := by decide +kernel
theorem dL_law_1040 : decode cL_law 1040 = .ok (.aload_n 1, 1) := by decide +kernel
theorem dL_law_1041 : decode cL_law 1041 = .ok (.aload_n 0, 1) := by decide +kernel
theorem dL_law_1042 : decode cL_law 1042 = .ok (.iload_n 3, 1) := by decide +kernel
theorem dL_law_1043 : decode cL_law 1043 = .ok (.iconst 1, 1) := by decide +kernel
theorem dL_law_1044 : decode cL_law 1044 = .ok (.iadd, 1) := by decide +kernel
theorem dL_law_1045 : decode cL_law 1045 = .ok (.iaload, 1) := by decide +kernel
theorem dL_law_1046 : decode cL_law 1046 = .ok (.aload_n 0, 1) := by decide +kernel
theorem dL_law_1047 : decode cL_law 1047 = .ok (.iload_n 3, 1) := by decide +kernel
theorem dL_law_1048 : decode cL_law 1048 = .ok (.iconst 2, 1) := by decide +kernel
theorem dL_law_1049 : decode cL_law 1049 = .ok (.iadd, 1) := by decide +kernel
theorem dL_law_1050 : decode cL_law 1050 = .ok (.iaload, 1) := by decide +kernel
theorem dL_law_1051 : decode cL_law 1051 = .ok (.invokevirtual 117, 3) := by decide +kernel
theorem dL_law_1054 : decode cL_law 1054 = .ok (.aload_n 2, 1) := by decide +kernel
theorem dL_law_1055 : decode cL_law 1055 = .ok (.aload_n 0, 1) := by decide +kernel
theorem dL_law_1056 : decode cL_law 1056 = .ok (.iload_n 3, 1) := by decide +kernel
theorem dL_law_1057 : decode cL_law 1057 = .ok (.iconst 1, 1) := by decide +kernel
theorem dL_law_1058 : decode cL_law 1058 = .ok (.iadd, 1) := by decide +kernel
theorem dL_law_1059 : decode cL_law 1059 = .ok (.iaload, 1) := by decide +kernel
theorem dL_law_1060 : decode cL_law 1060 = .ok (.aload_n 0, 1) := by decide +kernel
theorem dL_law_1061 : decode cL_law 1061 = .ok (.iload_n 3, 1) := by decide +kernel
theorem dL_law_1062 : decode cL_law 1062 = .ok (.iconst 2, 1) := by decide +kernel
theorem dL_law_1063 : decode cL_law 1063 = .ok (.iadd, 1) := by decide +kernel
theorem dL_law_1064 : decode cL_law 1064 = .ok (.iaload, 1) := by decide +kernel
theorem dL_law_1065 : decode cL_law 1065 = .ok (.invokevirtual 120, 3) := by decide +kernel
theorem dL_law_1068 : decode cL_law 1068 = .ok (.if_icmp .eq 54, 3) := by decide +kernel
theorem dL_law_1071 : decode cL_law 1071 = .ok (.iconst 0, 1) := by decide +kernel
theorem dL_law_1072 : decode cL_law 1072 = .ok (.ireturn, 1) := by decide +kernel
theorem dL_law_1073 : decode cL_law 1073 = .ok (.aload_n 1, 1) := by decide +kernel
theorem dL_law_1074 : decode cL_law 1074 = .ok (.invokevirtual 121, 3) := by decide +kernel
theorem dL_law_1077 : decode cL_law 1077 = .ok (.aload_n 2, 1) := by decide +kernel
theorem dL_law_1078 : decode cL_law 1078 = .ok (.invokevirtual 125, 3) := by decide +kernel
theorem dL_law_1081 : decode cL_law 1081 = .ok (.if_icmp .eq 41, 3) := by decide +kernel
theorem dL_law_1084 : decode cL_law 1084 = .ok (.iconst 0, 1) := by decide +kernel
theorem dL_law_1085 : decode cL_law 1085 = .ok (.ireturn, 1) := by decide +kernel
theorem dL_law_1086 : decode cL_law 1086 = .ok (.aload_n 1, 1) := by decide +kernel
theorem dL_law_1087 : decode cL_law 1087 = .ok (.invokevirtual 126, 3) := by decide +kernel
theorem dL_law_1090 : decode cL_law 1090 = .ok (.aload_n 2, 1) := by decide +kernel
theorem dL_law_1091 : decode cL_law 1091 = .ok (.invokevirtual 129, 3) := by decide +kernel
theorem dL_law_1094 : decode cL_law 1094 = .ok (.if_icmp .eq 28, 3) := by decide +kernel
theorem dL_law_1097 : decode cL_law 1097 = .ok (.iconst 0, 1) := by decide +kernel
theorem dL_law_1098 : decode cL_law 1098 = .ok (.ireturn, 1) := by decide +kernel
theorem dL_law_1099 : decode cL_law 1099 = .ok (.aload_n 1, 1) := by decide +kernel
theorem dL_law_1100 : decode cL_law 1100 = .ok (.aload_n 0, 1) := by decide +kernel
theorem dL_law_1101 : decode cL_law 1101 = .ok (.iload_n 3, 1) := by decide +kernel
theorem dL_law_1102 : decode cL_law 1102 = .ok (.iconst 1, 1) := by decide +kernel
theorem dL_law_1103 : decode cL_law 1103 = .ok (.iadd, 1) := by decide +kernel
theorem dL_law_1104 : decode cL_law 1104 = .ok (.iaload, 1) := by decide +kernel
theorem dL_law_1105 : decode cL_law 1105 = .ok (.invokevirtual 130, 3) := by decide +kernel
theorem dL_law_1108 : decode cL_law 1108 = .ok (.aload_n 2, 1) := by decide +kernel
theorem dL_law_1109 : decode cL_law 1109 = .ok (.aload_n 0, 1) := by decide +kernel
theorem dL_law_1110 : decode cL_law 1110 = .ok (.iload_n 3, 1) := by decide +kernel
theorem dL_law_1111 : decode cL_law 1111 = .ok (.iconst 1, 1) := by decide +kernel
theorem dL_law_1112 : decode cL_law 1112 = .ok (.iadd, 1) := by decide +kernel
theorem dL_law_1113 : decode cL_law 1113 = .ok (.iaload, 1) := by decide +kernel
theorem dL_law_1114 : decode cL_law 1114 = .ok (.invokevirtual 133, 3) := by decide +kernel
theorem dL_law_1117 : decode cL_law 1117 = .ok (.if_icmp .eq 5, 3) := by decide +kernel
theorem dL_law_1120 : decode cL_law 1120 = .ok (.iconst 0, 1) := by decide +kernel
theorem dL_law_1121 : decode cL_law 1121 = .ok (.ireturn, 1) := by decide +kernel
theorem dL_law_1122 : decode cL_law 1122 = .ok (.iinc 3 6, 3) := by decide +kernel
theorem dL_law_1125 : decode cL_law 1125 = .ok (.goto (-1107), 3) := by decide +kernel
theorem dL_law_1128 : decode cL_law 1128 = .ok (.iconst 1, 1) := by decide +kernel
theorem dL_law_1129 : decode cL_law 1129 = .ok (.ireturn, 1) := by decide +kernel
end
section
/-! THE PICTURE: fifty cells at addresses ad 0 .. ad 49 (50: the script), their numbers in a memory place -> index -> Int32; references never change. PW: from here the machine comes to an end with Q, in every context that holds the picture. -/
abbrev pv_M : Type := Nat → Nat → Int32
abbrev pv_Q : Type := Option Value → (Nat → Nat → Int32) → Prop
abbrev pv_V : Type := MethodName × ByteArray × Nat × Option FieldType × Option (Nat × (Nat → Int32))
abbrev pv_G : Type := Launch × va_G × (Nat → ClassId) × (Nat → Nat)
def pv_tr (ad : Nat → Nat) (v : Value) : Value := match v with
  | .ref k => .ref (ad k)
  | v => v
def pv_lay : Nat → (Nat × List (Option Nat)) ⊕ ((Nat × Nat) ⊕ (Nat × List Nat)) := fun k => match k with
  | 0 => .inl (5, [some 1, some 10, some 17, some 21, some 28, none, none])
  | 1 => .inr (.inr (2, [2, 3, 4, 5]))
  | 2 => .inl (3, [some 6, none, none, none])
  | 3 => .inl (3, [some 7, none, none, none])
  | 4 => .inl (3, [some 8, none, none, none])
  | 5 => .inl (3, [some 9, none, none, none])
  | 6 => .inr (.inl (0, 60))
  | 7 => .inr (.inl (0, 60))
  | 8 => .inr (.inl (0, 60))
  | 9 => .inr (.inl (0, 60))
  | 10 => .inl (0, [some 11, none, none, none])
  | 11 => .inr (.inr (3, [12, 13, 14, 15, 16]))
  | 12 => .inl (4, [none, none, none, none, none])
  | 13 => .inl (4, [none, none, none, none, none])
  | 14 => .inl (4, [none, none, none, none, none])
  | 15 => .inl (4, [none, none, none, none, none])
  | 16 => .inl (4, [none, none, none, none, none])
  | 17 => .inl (1, [some 18, some 19, some 20, none])
  | 18 => .inr (.inl (0, 8))
  | 19 => .inr (.inl (0, 8))
  | 20 => .inr (.inl (1, 8))
  | 21 => .inl (2, [some 22, some 23, some 24, some 25, some 26, some 27, none, none, none, none, none])
  | 22 => .inr (.inl (0, 6))
  | 23 => .inr (.inl (0, 6))
  | 24 => .inr (.inl (0, 6))
  | 25 => .inr (.inl (0, 6))
  | 26 => .inr (.inl (0, 6))
  | 27 => .inr (.inl (0, 6))
  | 28 => .inr (.inl (0, 6))
  | 29 => .inl (6, [none, none, none, none, some 30, some 31, some 32, some 33, some 34, none, none, none, none, some 35, some 36, some 37, some 38, some 39, some 40, some 41, some 42, none, none, none, none, none, some 43, some 44, some 45, some 46, some 47, some 48, some 49, none])
  | 30 => .inr (.inl (0, 5))
  | 31 => .inr (.inl (0, 5))
  | 32 => .inr (.inl (0, 5))
  | 33 => .inr (.inl (0, 5))
  | 34 => .inr (.inl (0, 5))
  | 35 => .inr (.inl (0, 5))
  | 36 => .inr (.inl (0, 5))
  | 37 => .inr (.inl (0, 5))
  | 38 => .inr (.inl (0, 5))
  | 39 => .inr (.inl (0, 5))
  | 40 => .inr (.inl (0, 6))
  | 41 => .inr (.inl (0, 6))
  | 42 => .inr (.inl (0, 5))
  | 43 => .inr (.inl (0, 8))
  | 44 => .inr (.inl (0, 8))
  | 45 => .inr (.inl (1, 8))
  | 46 => .inr (.inl (0, 4))
  | 47 => .inr (.inl (0, 4))
  | 48 => .inr (.inl (0, 240))
  | 49 => .inr (.inl (0, 60))
  | _ => .inr (.inr (9, []))
def pv_cl : List vw_C := [(RX0, TX0, 4), (RX1, TX1, 4), (RX2, TX2, 11), (RX3, TX3, 4), (RX5, TX5, 5), (RX6, TX6, 7), (RX7, TX7, 34)]
def pv_tys (cAt : Nat → ClassId) : List (ClassId × FieldType) := [(cAt 0, .int), (cAt 1, .boolean), (cAt 2, .object "UseMuseum$Sheet"), (cAt 3, .object "UseMuseum$Thing")]
def pv_fs (ad : Nat → Nat) (f : Nat → Int32) : Nat → List (Option Nat) → List Value
  | _, [] => []
  | i, none :: r => .int (f i) :: pv_fs ad f (i + 1) r
  | i, some q :: r => .ref (ad q) :: pv_fs ad f (i + 1) r
def pv_ce (cAt : Nat → ClassId) (ad : Nat → Nat) (M : pv_M) (k : Nat) : va_E := match pv_lay k with
  | .inl o => .inr (o.1, pv_fs ad (M k) 0 o.2)
  | .inr (.inl a) => .inl (cAt a.1, a.2, .inl (M k))
  | .inr (.inr a) => .inl (cAt a.1, a.2.length, .inr (.inr (.inr (.inr (fun j => (a.2[j]?).map ad)))))
def pv_ws (cAt : Nat → ClassId) (ad : Nat → Nat) (M : pv_M) : va_W := (List.range 50).map fun k => (ad k, pv_ce cAt ad M k)
def pv_row (M : pv_M) (p : Nat) (f : Nat → Int32) : pv_M := fun q => if q = p then f else M q
def pv_up (M : pv_M) (p k : Nat) (v : Int32) : pv_M := pv_row M p (upd (M p) k v)
theorem pv_fs_get (ad : Nat → Nat) (f : Nat → Int32) : ∀ (fs : List (Option Nat)) (i k : Nat), (pv_fs ad f i fs)[k]? = (fs[k]?).map (fun o => match o with | none => Value.int (f (i + k)) | some q => Value.ref (ad q))
  | [], i, k => by simp [pv_fs]
  | o :: r, i, k => by
    cases k with
    | zero => cases o <;> simp [pv_fs]
    | succ k =>
      have h := pv_fs_get ad f r (i + 1) k
      rw [show i + 1 + k = i + (k + 1) by omega] at h
      cases o <;> simpa [pv_fs] using h
theorem pv_fs_len (ad : Nat → Nat) (f : Nat → Int32) : ∀ (fs : List (Option Nat)) (i : Nat), (pv_fs ad f i fs).length = fs.length
  | [], i => rfl
  | o :: r, i => by cases o <;> simp [pv_fs, pv_fs_len ad f r (i + 1)]
theorem pv_fs_set (ad : Nat → Nat) (f : Nat → Int32) (fs : List (Option Nat)) (k : Nat) (v : Int32) (h : fs[k]? = some none) : (pv_fs ad f 0 fs).set k (.int v) = pv_fs ad (upd f k v) 0 fs := by
  apply List.ext_getElem?
  intro j
  rw [pv_fs_get, List.getElem?_set]
  by_cases hj : k = j
  · subst hj
    have hl := (List.getElem?_eq_some_iff.mp h).1
    rw [if_pos rfl, if_pos (by rw [pv_fs_len]; exact hl), h]
    simp [upd]
  · rw [if_neg hj, pv_fs_get]
    have e : upd f k v (0 + j) = f (0 + j) := by
      have : ¬ (0 + j = k) := by omega
      simp only [upd, if_neg this]
    simp only [e]
theorem pv_ws_get (cAt : Nat → ClassId) (ad : Nat → Nat) (M : pv_M) {k : Nat} (h : k < 50) : (pv_ws cAt ad M)[k]? = some (ad k, pv_ce cAt ad M k) := by
  simp [pv_ws, List.getElem?_map, List.getElem?_range h]
theorem pv_ws_in (cAt : Nat → ClassId) (ad : Nat → Nat) (M : pv_M) {k : Nat} {q : Nat × va_E} (h : (pv_ws cAt ad M)[k]? = some q) : k < 50 ∧ q = (ad k, pv_ce cAt ad M k) := by
  have hl := (List.getElem?_eq_some_iff.mp h).1
  have hk : k < 50 := by simpa [pv_ws] using hl
  rw [pv_ws_get cAt ad M hk] at h
  exact ⟨hk, (Option.some.inj h).symm⟩
theorem pv_ws_set (cAt : Nat → ClassId) (ad : Nat → Nat) (M : pv_M) (p : Nat) (f : Nat → Int32) (e : va_E) (he : pv_ce cAt ad (pv_row M p f) p = e) : (pv_ws cAt ad M).set p (ad p, e) = pv_ws cAt ad (pv_row M p f) := by
  apply List.ext_getElem?
  intro j
  rw [List.getElem?_set]
  by_cases hj : p = j
  · subst hj
    rw [if_pos rfl]
    by_cases hp : p < 50
    · rw [if_pos (by simpa [pv_ws] using hp), pv_ws_get _ _ _ hp, he]
    · rw [if_neg (by simpa [pv_ws] using hp)]
      simp [pv_ws, List.getElem?_eq_none (show (List.range 50).length ≤ p by simp; omega)]
  · rw [if_neg hj]
    have e2 : pv_ce cAt ad (pv_row M p f) j = pv_ce cAt ad M j := by
      have : pv_row M p f j = M j := by simp only [pv_row, if_neg (Ne.symm hj)]
      simp only [pv_ce, this]
    by_cases h5 : j < 50
    · rw [pv_ws_get _ _ _ h5, pv_ws_get _ _ _ h5, e2]
    · simp [pv_ws, List.getElem?_eq_none (show (List.range 50).length ≤ j by simp; omega)]
theorem pv_D {cAt : Nat → ClassId} {ad : Nat → Nat} {M : pv_M} {A : Nat → Prop} (hA : ∀ k, k < 50 → A (ad k)) (hi : ∀ i j, i < 50 → j < 50 → ad i = ad j → i = j) : va_D A (pv_ws cAt ad M) := by
  refine ⟨fun i j p q h1 h2 h3 => ?_, fun k q h => ?_⟩
  · obtain ⟨l1, rfl⟩ := pv_ws_in cAt ad M h1
    obtain ⟨l2, rfl⟩ := pv_ws_in cAt ad M h2
    exact hi i j l1 l2 h3
  · obtain ⟨l1, rfl⟩ := pv_ws_in cAt ad M h
    exact hA k l1
/-- locals: a list by place; null: not known, or the second word of a long -/
def pv_lv (ad : Nat → Nat) : Nat → List Value → List (Nat × Value)
  | _, [] => []
  | i, v :: L => match v with
    | .null => pv_lv ad (i + 1) L
    | _ => (i, pv_tr ad v) :: pv_lv ad (i + 1) L
theorem pv_lv_mem (ad : Nat → Nat) (q : Nat × Value) : ∀ (L : List Value) (i : Nat), q ∈ pv_lv ad i L ↔ ∃ (j : Nat) (v : Value), L[j]? = some v ∧ v ≠ .null ∧ q = (i + j, pv_tr ad v)
  | [], i => by simp [pv_lv]
  | w :: L, i => by
    have ih := pv_lv_mem ad q L (i + 1)
    have key : (∃ (j : Nat) (v : Value), (w :: L)[j]? = some v ∧ v ≠ .null ∧ q = (i + j, pv_tr ad v)) ↔ (w ≠ .null ∧ q = (i, pv_tr ad w)) ∨ ∃ (j : Nat) (v : Value), L[j]? = some v ∧ v ≠ .null ∧ q = (i + 1 + j, pv_tr ad v) := by
      constructor
      · rintro ⟨j, v, h1, h2, h3⟩
        cases j with
        | zero =>
          rw [List.getElem?_cons_zero] at h1
          cases h1
          exact Or.inl ⟨h2, h3⟩
        | succ j =>
          rw [List.getElem?_cons_succ] at h1
          exact Or.inr ⟨j, v, h1, h2, by rw [h3]; congr 1; omega⟩
      · rintro (⟨h1, h2⟩ | ⟨j, v, h1, h2, h3⟩)
        · exact ⟨0, w, rfl, h1, h2⟩
        · exact ⟨j + 1, v, h1, h2, by rw [h3]; congr 1; omega⟩
    rw [key, ← ih]
    cases w <;> simp [pv_lv]
theorem pv_at {ad : Nat → Nat} {ls : Array Slot} {n k : Nat} {L : List Value} {v : Value} (h : lv_has ls n (pv_lv ad 0 L)) (hk : L[k]? = some v) (hv : v ≠ .null) : ls[k]? = some (.val (pv_tr ad v)) :=
  h.2.2 (k, pv_tr ad v) ((pv_lv_mem ad _ L 0).mpr ⟨k, v, hk, hv, by rw [Nat.zero_add]⟩)
theorem pv_tr_cat (ad : Nat → Nat) (v : Value) : (pv_tr ad v).category = v.category := by cases v <;> rfl
def pv_nl (i : Nat) (L : List Value) : Bool := match i with
  | 0 => true
  | i + 1 => match L[i]? with
    | some v => v.category != 2
    | none => true
theorem pv_st1 {ad : Nat → Nat} {ls : Array Slot} {n i : Nat} {L : List Value} {v : Value} (hn : pv_nl i L = true) (h : lv_has ls n ((i, pv_tr ad v) :: (pv_lv ad 0 L).filter (fun q => !(q.1 == i) && !(q.1 + 1 == i && q.2.category == 2)))) : lv_has ls n (pv_lv ad 0 (L.set i v)) := by
  refine ⟨h.1, h.2.1, fun q hq => h.2.2 q ?_⟩
  obtain ⟨j, w, h1, h2, h3⟩ := (pv_lv_mem ad q _ 0).mp hq
  rw [Nat.zero_add] at h3
  rw [List.getElem?_set] at h1
  by_cases hj : i = j
  · rw [if_pos hj] at h1
    split at h1
    · cases h1
      rw [h3, ← hj]
      exact List.mem_cons_self
    · cases h1
  · rw [if_neg hj] at h1
    refine List.mem_cons_of_mem _ (List.mem_filter.mpr ⟨(pv_lv_mem ad q L 0).mpr ⟨j, w, h1, h2, by rw [Nat.zero_add]; exact h3⟩, ?_⟩)
    rw [h3]
    simp only [Bool.and_eq_true, Bool.not_eq_true', beq_eq_false_iff_ne, ne_eq, Bool.and_eq_false_imp, beq_iff_eq]
    refine ⟨fun z => hj z.symm, fun z => ?_⟩
    subst z
    simp only [pv_nl, h1] at hn
    rw [pv_tr_cat]
    simpa using hn
theorem pv_st2 {ad : Nat → Nat} {ls : Array Slot} {n i : Nat} {L : List Value} {v : Value} (hn : pv_nl i L = true) (h : lv_has ls n ((i, pv_tr ad v) :: (pv_lv ad 0 L).filter (fun q => !(q.1 == i) && (!(q.1 == i + 1) && !(q.1 + 1 == i && q.2.category == 2))))) : lv_has ls n (pv_lv ad 0 ((L.set i v).set (i + 1) .null)) := by
  refine ⟨h.1, h.2.1, fun q hq => h.2.2 q ?_⟩
  obtain ⟨j, w, h1, h2, h3⟩ := (pv_lv_mem ad q _ 0).mp hq
  rw [Nat.zero_add] at h3
  rw [List.getElem?_set] at h1
  by_cases hj1 : i + 1 = j
  · rw [if_pos hj1] at h1
    split at h1
    · cases h1
      exact absurd rfl h2
    · cases h1
  rw [if_neg hj1, List.getElem?_set] at h1
  by_cases hj : i = j
  · rw [if_pos hj] at h1
    split at h1
    · cases h1
      rw [h3, ← hj]
      exact List.mem_cons_self
    · cases h1
  · rw [if_neg hj] at h1
    refine List.mem_cons_of_mem _ (List.mem_filter.mpr ⟨(pv_lv_mem ad q L 0).mpr ⟨j, w, h1, h2, by rw [Nat.zero_add]; exact h3⟩, ?_⟩)
    rw [h3]
    simp only [Bool.and_eq_true, Bool.not_eq_true', beq_eq_false_iff_ne, ne_eq, Bool.and_eq_false_imp, beq_iff_eq]
    refine ⟨fun z => hj z.symm, fun z => hj1 z.symm, fun z => ?_⟩
    subst z
    simp only [pv_nl, h1] at hn
    rw [pv_tr_cat]
    simpa using hn
/-- the tables' words -/
def pv_T : List Cond := lw_tbl.filter goodWord
/-- the one link of a nest mate that a method takes (House calls isIn) -/
def pv_N (U : State) : Prop := va_Nw (.methodLinkNest RX0 33 yX6_isIn "UseMuseum") U
def pv_Cx (Γ : pv_G) (d : Nat) (V : pv_V) (p : Program) (R : Room) (s : State) (m : MethodId) (args : Array Value) (meth : Method) (c : Code) (A : Nat → Prop) : Prop :=
  p.tables.exec = Jvm.exec ∧ c.code = V.2.1 ∧ c.maxLocals = V.2.2.1 ∧ s.vm.findClass V.1.cls = some m.cls ∧ (∀ w ∈ pv_T, w.before args s = true) ∧ va_K Γ.2.1 pv_cl (pv_tys Γ.2.2.1) s ∧ pv_N s ∧ (d + 2 ≤ R.frames ∧ 64 * (d + 2) ≤ R.locals) ∧ (∀ k, k < 50 → A (Γ.2.2.2 k)) ∧ (∀ i j, i < 50 → j < 50 → Γ.2.2.2 i = Γ.2.2.2 j → i = j) ∧
  ∀ (n : Nat) (xs : Nat → Int32), V.2.2.2.2 = some (n, xs) → va_X (Γ.2.2.2 50) n xs s s.heap ∧ Γ.2.2.2 50 < s.heap.size ∧ ¬ A (Γ.2.2.2 50)
def pv_Wd (Γ : pv_G) (M : pv_M) (A : Nat → Prop) (s : State) (H : Heap) (locs : List Loc) : Prop := va_P Γ.2.1 pv_cl (pv_ws Γ.2.2.1 Γ.2.2.2 M) H ∧ va_S A s.heap H locs
def pv_ret (V : pv_V) (r : Option Value) (pc : Nat) : Prop := match r with
  | none => V.2.2.2.1 = none ∧ decode V.2.1 pc = .ok (.return_, 1)
  | some (.int v) => (∃ ty, V.2.2.2.1 = some ty ∧ narrow ty (.int v) = .int v) ∧ decode V.2.1 pc = .ok (.ireturn, 1)
  | some (.long _) => V.2.2.2.1 = some .long ∧ decode V.2.1 pc = .ok (.lreturn, 1)
  | _ => False
def pv_Exit (Γ : pv_G) (V : pv_V) (Q : pv_Q) (p : Program) (e : Env) (R : Room) (s : State) (m : MethodId) (args : Array Value) (below : List Frame) (meth : Method) (c : Code) (A : Nat → Prop) (cells slots : Nat) (Qf : State → Prop) : Prop :=
  ∀ (r : Option Value) (M : pv_M) (H : Heap) (locs : List Loc) (ls : Array Slot) (pc : Nat), Q r M → pv_ret V r pc → pv_Wd Γ M A s H locs → W p Γ.1 e R s m args below meth c H locs cells slots Qf (F0 m pc ls ((r.map (pv_tr Γ.2.2.2)).toList))
def PW (Γ : pv_G) (d : Nat) (V : pv_V) (pc : Nat) (L st : List Value) (M : pv_M) (Q : pv_Q) : Prop :=
  ∀ (p : Program) (e : Env) (R : Room) (s : State) (m : MethodId) (args : Array Value) (below : List Frame) (meth : Method) (c : Code) (A : Nat → Prop) (cells slots : Nat) (Qf : State → Prop), pv_Cx Γ d V p R s m args meth c A → cells ≤ R.cells ∧ slots ≤ R.slots → pv_Exit Γ V Q p e R s m args below meth c A cells slots Qf →
  ∀ (H : Heap) (locs : List Loc) (ls : Array Slot), pv_Wd Γ M A s H locs → lv_has ls V.2.2.1 (pv_lv Γ.2.2.2 0 L) → W p Γ.1 e R s m args below meth c H locs cells slots Qf (F0 m pc ls (st.map (pv_tr Γ.2.2.2)))
section PV
variable {Γ : pv_G} {d : Nat} {V : pv_V} {pc pc' : Nat} {L st : List Value} {M : pv_M} {Q : pv_Q}
theorem PW.mono {Q2 : pv_Q} (h : ∀ r M, Q2 r M → Q r M) (k : PW Γ d V pc L st M Q2) : PW Γ d V pc L st M Q :=
  fun p e R s m args below meth c A cells slots Qf C hR E => k p e R s m args below meth c A cells slots Qf C hR (fun r M H locs ls pc hq => E r M H locs ls pc (h r M hq))
theorem PW.eqM {M2 : pv_M} (h : M = M2) (k : PW Γ d V pc L st M2 Q) : PW Γ d V pc L st M Q := h ▸ k
theorem PW_iconst {n : Int} {v : Int32} (hd : decode V.2.1 pc = .ok (.iconst n, 1)) (hp : pc + 1 = pc') (hv : Int32.ofInt n = v) (k : PW Γ d V pc' L (.int v :: st) M Q) : PW Γ d V pc L (st) M Q := by
  subst hp
  intro p e R s m args below meth c A cells slots Qf C hR E H locs ls hW hl
  exact lv_iconst C.1 C.2.1 hd hv (k p e R s m args below meth c A cells slots Qf C hR E H locs ls hW hl)
theorem PW_bipush {n : Int} {v : Int32} (hd : decode V.2.1 pc = .ok (.bipush n, 2)) (hp : pc + 2 = pc') (hv : (Int8.ofInt n).toInt32 = v) (k : PW Γ d V pc' L (.int v :: st) M Q) : PW Γ d V pc L (st) M Q := by
  subst hp
  intro p e R s m args below meth c A cells slots Qf C hR E H locs ls hW hl
  exact lv_bipush C.1 C.2.1 hd hv (k p e R s m args below meth c A cells slots Qf C hR E H locs ls hW hl)
theorem PW_sipush {n : Int} {v : Int32} (hd : decode V.2.1 pc = .ok (.sipush n, 3)) (hp : pc + 3 = pc') (hv : (Int16.ofInt n).toInt32 = v) (k : PW Γ d V pc' L (.int v :: st) M Q) : PW Γ d V pc L (st) M Q := by
  subst hp
  intro p e R s m args below meth c A cells slots Qf C hR E H locs ls hW hl
  exact lv_sipush C.1 C.2.1 hd hv (k p e R s m args below meth c A cells slots Qf C hR E H locs ls hW hl)
theorem PW_lconst {n : Fin 2} {v : Int64} (hd : decode V.2.1 pc = .ok (.lconst n, 1)) (hp : pc + 1 = pc') (hv : Int64.ofNat (n : Nat) = v) (k : PW Γ d V pc' L (.long v :: st) M Q) : PW Γ d V pc L (st) M Q := by
  subst hp
  intro p e R s m args below meth c A cells slots Qf C hR E H locs ls hW hl
  exact lv_lconst C.1 C.2.1 hd hv (k p e R s m args below meth c A cells slots Qf C hR E H locs ls hW hl)
theorem PW_ldcw {i : Nat} {v : Int32} (hd : decode V.2.1 pc = .ok (.ldc_w i, 3)) (hp : pc + 3 = pc') (hc : Cond.constant V.1.cls i v ∈ pv_T) (k : PW Γ d V pc' L (.int v :: st) M Q) : PW Γ d V pc L (st) M Q := by
  subst hp
  intro p e R s m args below meth c A cells slots Qf C hR E H locs ls hW hl
  exact lv_ldcw C.1 C.2.1 C.2.2.2.1 (C.2.2.2.2.1 _ hc) hd (k p e R s m args below meth c A cells slots Qf C hR E H locs ls hW hl)
theorem PW_ldc2 {i : Nat} {v : Int64} (hd : decode V.2.1 pc = .ok (.ldc2_w i, 3)) (hp : pc + 3 = pc') (hc : Cond.constantLong V.1.cls i v ∈ pv_T) (k : PW Γ d V pc' L (.long v :: st) M Q) : PW Γ d V pc L (st) M Q := by
  subst hp
  intro p e R s m args below meth c A cells slots Qf C hR E H locs ls hW hl
  exact lv_ldc2 C.1 C.2.1 C.2.2.2.1 (C.2.2.2.2.1 _ hc) hd (k p e R s m args below meth c A cells slots Qf C hR E H locs ls hW hl)
theorem PW_iadd {x y : Int32} (hd : decode V.2.1 pc = .ok (.iadd, 1)) (hp : pc + 1 = pc') (k : PW Γ d V pc' L (.int (x + y) :: st) M Q) : PW Γ d V pc L (.int y :: .int x :: st) M Q := by
  subst hp
  intro p e R s m args below meth c A cells slots Qf C hR E H locs ls hW hl
  exact lv_iadd C.1 C.2.1 hd (k p e R s m args below meth c A cells slots Qf C hR E H locs ls hW hl)
theorem PW_isub {x y : Int32} (hd : decode V.2.1 pc = .ok (.isub, 1)) (hp : pc + 1 = pc') (k : PW Γ d V pc' L (.int (x - y) :: st) M Q) : PW Γ d V pc L (.int y :: .int x :: st) M Q := by
  subst hp
  intro p e R s m args below meth c A cells slots Qf C hR E H locs ls hW hl
  exact lv_isub C.1 C.2.1 hd (k p e R s m args below meth c A cells slots Qf C hR E H locs ls hW hl)
theorem PW_imul {x y : Int32} (hd : decode V.2.1 pc = .ok (.imul, 1)) (hp : pc + 1 = pc') (k : PW Γ d V pc' L (.int (x * y) :: st) M Q) : PW Γ d V pc L (.int y :: .int x :: st) M Q := by
  subst hp
  intro p e R s m args below meth c A cells slots Qf C hR E H locs ls hW hl
  exact lv_imul C.1 C.2.1 hd (k p e R s m args below meth c A cells slots Qf C hR E H locs ls hW hl)
theorem PW_iand {x y : Int32} (hd : decode V.2.1 pc = .ok (.iand, 1)) (hp : pc + 1 = pc') (k : PW Γ d V pc' L (.int (x &&& y) :: st) M Q) : PW Γ d V pc L (.int y :: .int x :: st) M Q := by
  subst hp
  intro p e R s m args below meth c A cells slots Qf C hR E H locs ls hW hl
  exact lv_iand C.1 C.2.1 hd (k p e R s m args below meth c A cells slots Qf C hR E H locs ls hW hl)
theorem PW_ior {x y : Int32} (hd : decode V.2.1 pc = .ok (.ior, 1)) (hp : pc + 1 = pc') (k : PW Γ d V pc' L (.int (x ||| y) :: st) M Q) : PW Γ d V pc L (.int y :: .int x :: st) M Q := by
  subst hp
  intro p e R s m args below meth c A cells slots Qf C hR E H locs ls hW hl
  exact lv_ior C.1 C.2.1 hd (k p e R s m args below meth c A cells slots Qf C hR E H locs ls hW hl)
theorem PW_ixor {x y : Int32} (hd : decode V.2.1 pc = .ok (.ixor, 1)) (hp : pc + 1 = pc') (k : PW Γ d V pc' L (.int (x ^^^ y) :: st) M Q) : PW Γ d V pc L (.int y :: .int x :: st) M Q := by
  subst hp
  intro p e R s m args below meth c A cells slots Qf C hR E H locs ls hW hl
  exact lv_ixor C.1 C.2.1 hd (k p e R s m args below meth c A cells slots Qf C hR E H locs ls hW hl)
theorem PW_ishl {x y : Int32} (hd : decode V.2.1 pc = .ok (.ishl, 1)) (hp : pc + 1 = pc') (k : PW Γ d V pc' L (.int (x <<< (y &&& 31)) :: st) M Q) : PW Γ d V pc L (.int y :: .int x :: st) M Q := by
  subst hp
  intro p e R s m args below meth c A cells slots Qf C hR E H locs ls hW hl
  exact lv_ishl C.1 C.2.1 hd (k p e R s m args below meth c A cells slots Qf C hR E H locs ls hW hl)
theorem PW_ishr {x y : Int32} (hd : decode V.2.1 pc = .ok (.ishr, 1)) (hp : pc + 1 = pc') (k : PW Γ d V pc' L (.int (x >>> (y &&& 31)) :: st) M Q) : PW Γ d V pc L (.int y :: .int x :: st) M Q := by
  subst hp
  intro p e R s m args below meth c A cells slots Qf C hR E H locs ls hW hl
  exact lv_ishr C.1 C.2.1 hd (k p e R s m args below meth c A cells slots Qf C hR E H locs ls hW hl)
theorem PW_idiv {x y : Int32} (hd : decode V.2.1 pc = .ok (.idiv, 1)) (hp : pc + 1 = pc') (hne : ¬ y = 0) (k : PW Γ d V pc' L (.int (x / y) :: st) M Q) : PW Γ d V pc L (.int y :: .int x :: st) M Q := by
  subst hp
  intro p e R s m args below meth c A cells slots Qf C hR E H locs ls hW hl
  exact lv_idiv C.1 C.2.1 hd hne (k p e R s m args below meth c A cells slots Qf C hR E H locs ls hW hl)
theorem PW_irem {x y : Int32} (hd : decode V.2.1 pc = .ok (.irem, 1)) (hp : pc + 1 = pc') (hne : ¬ y = 0) (k : PW Γ d V pc' L (.int (x - x / y * y) :: st) M Q) : PW Γ d V pc L (.int y :: .int x :: st) M Q := by
  subst hp
  intro p e R s m args below meth c A cells slots Qf C hR E H locs ls hW hl
  exact lv_irem C.1 C.2.1 hd hne (k p e R s m args below meth c A cells slots Qf C hR E H locs ls hW hl)
theorem PW_iushr {x y v : Int32} (hd : decode V.2.1 pc = .ok (.iushr, 1)) (hp : pc + 1 = pc') (hv : (x.toUInt32 >>> (y.toUInt32 &&& Int32.toUInt32 31)).toInt32 = v) (k : PW Γ d V pc' L (.int v :: st) M Q) : PW Γ d V pc L (.int y :: .int x :: st) M Q := by
  subst hp
  intro p e R s m args below meth c A cells slots Qf C hR E H locs ls hW hl
  exact lv_iushr C.1 C.2.1 hd hv (k p e R s m args below meth c A cells slots Qf C hR E H locs ls hW hl)
theorem PW_ladd {x y : Int64} (hd : decode V.2.1 pc = .ok (.ladd, 1)) (hp : pc + 1 = pc') (k : PW Γ d V pc' L (.long (x + y) :: st) M Q) : PW Γ d V pc L (.long y :: .long x :: st) M Q := by
  subst hp
  intro p e R s m args below meth c A cells slots Qf C hR E H locs ls hW hl
  exact lv_ladd C.1 C.2.1 hd (k p e R s m args below meth c A cells slots Qf C hR E H locs ls hW hl)
theorem PW_lsub {x y : Int64} (hd : decode V.2.1 pc = .ok (.lsub, 1)) (hp : pc + 1 = pc') (k : PW Γ d V pc' L (.long (x - y) :: st) M Q) : PW Γ d V pc L (.long y :: .long x :: st) M Q := by
  subst hp
  intro p e R s m args below meth c A cells slots Qf C hR E H locs ls hW hl
  exact lv_lsub C.1 C.2.1 hd (k p e R s m args below meth c A cells slots Qf C hR E H locs ls hW hl)
theorem PW_lmul {x y : Int64} (hd : decode V.2.1 pc = .ok (.lmul, 1)) (hp : pc + 1 = pc') (k : PW Γ d V pc' L (.long (x * y) :: st) M Q) : PW Γ d V pc L (.long y :: .long x :: st) M Q := by
  subst hp
  intro p e R s m args below meth c A cells slots Qf C hR E H locs ls hW hl
  exact lv_lmul C.1 C.2.1 hd (k p e R s m args below meth c A cells slots Qf C hR E H locs ls hW hl)
theorem PW_ldiv {x y : Int64} (hd : decode V.2.1 pc = .ok (.ldiv, 1)) (hp : pc + 1 = pc') (hne : ¬ y = 0) (k : PW Γ d V pc' L (.long (x / y) :: st) M Q) : PW Γ d V pc L (.long y :: .long x :: st) M Q := by
  subst hp
  intro p e R s m args below meth c A cells slots Qf C hR E H locs ls hW hl
  exact lv_ldiv C.1 C.2.1 hd hne (k p e R s m args below meth c A cells slots Qf C hR E H locs ls hW hl)
theorem PW_lrem {x y : Int64} (hd : decode V.2.1 pc = .ok (.lrem, 1)) (hp : pc + 1 = pc') (hne : ¬ y = 0) (k : PW Γ d V pc' L (.long (x - x / y * y) :: st) M Q) : PW Γ d V pc L (.long y :: .long x :: st) M Q := by
  subst hp
  intro p e R s m args below meth c A cells slots Qf C hR E H locs ls hW hl
  exact lv_lrem C.1 C.2.1 hd hne (k p e R s m args below meth c A cells slots Qf C hR E H locs ls hW hl)
theorem PW_lshl {x : Int64} {y : Int32} (hd : decode V.2.1 pc = .ok (.lshl, 1)) (hp : pc + 1 = pc') (k : PW Γ d V pc' L (.long (x <<< (y.toInt64 &&& 63)) :: st) M Q) : PW Γ d V pc L (.int y :: .long x :: st) M Q := by
  subst hp
  intro p e R s m args below meth c A cells slots Qf C hR E H locs ls hW hl
  exact lv_lshl C.1 C.2.1 hd rfl (k p e R s m args below meth c A cells slots Qf C hR E H locs ls hW hl)
theorem PW_i2l {x : Int32} (hd : decode V.2.1 pc = .ok (.i2l, 1)) (hp : pc + 1 = pc') (k : PW Γ d V pc' L (.long x.toInt64 :: st) M Q) : PW Γ d V pc L (.int x :: st) M Q := by
  subst hp
  intro p e R s m args below meth c A cells slots Qf C hR E H locs ls hW hl
  exact lv_i2l C.1 C.2.1 hd rfl (k p e R s m args below meth c A cells slots Qf C hR E H locs ls hW hl)
theorem PW_i2b {x : Int32} (hd : decode V.2.1 pc = .ok (.i2b, 1)) (hp : pc + 1 = pc') (k : PW Γ d V pc' L (.int x.toInt8.toInt32 :: st) M Q) : PW Γ d V pc L (.int x :: st) M Q := by
  subst hp
  intro p e R s m args below meth c A cells slots Qf C hR E H locs ls hW hl
  exact lv_i2b C.1 C.2.1 hd rfl (k p e R s m args below meth c A cells slots Qf C hR E H locs ls hW hl)
theorem PW_i2s {x : Int32} (hd : decode V.2.1 pc = .ok (.i2s, 1)) (hp : pc + 1 = pc') (k : PW Γ d V pc' L (.int x.toInt16.toInt32 :: st) M Q) : PW Γ d V pc L (.int x :: st) M Q := by
  subst hp
  intro p e R s m args below meth c A cells slots Qf C hR E H locs ls hW hl
  exact lv_i2s C.1 C.2.1 hd rfl (k p e R s m args below meth c A cells slots Qf C hR E H locs ls hW hl)
theorem PW_lcmp {x y : Int64} (hd : decode V.2.1 pc = .ok (.lcmp, 1)) (hp : pc + 1 = pc') (k : PW Γ d V pc' L (.int (lg_cmp x y) :: st) M Q) : PW Γ d V pc L (.long y :: .long x :: st) M Q := by
  subst hp
  intro p e R s m args below meth c A cells slots Qf C hR E H locs ls hW hl
  exact W.lcmp C.1 C.2.1 hd (k p e R s m args below meth c A cells slots Qf C hR E H locs ls hW hl)
theorem PW_dupI {x : Int32} (hd : decode V.2.1 pc = .ok (.dup, 1)) (hp : pc + 1 = pc') (k : PW Γ d V pc' L (.int x :: .int x :: st) M Q) : PW Γ d V pc L (.int x :: st) M Q := by
  subst hp
  intro p e R s m args below meth c A cells slots Qf C hR E H locs ls hW hl
  exact lv_dup C.1 C.2.1 hd rfl (k p e R s m args below meth c A cells slots Qf C hR E H locs ls hW hl)
theorem PW_dupR {x : Nat} (hd : decode V.2.1 pc = .ok (.dup, 1)) (hp : pc + 1 = pc') (k : PW Γ d V pc' L (.ref x :: .ref x :: st) M Q) : PW Γ d V pc L (.ref x :: st) M Q := by
  subst hp
  intro p e R s m args below meth c A cells slots Qf C hR E H locs ls hW hl
  exact lv_dup C.1 C.2.1 hd rfl (k p e R s m args below meth c A cells slots Qf C hR E H locs ls hW hl)
theorem PW_popI {x : Int32} (hd : decode V.2.1 pc = .ok (.pop, 1)) (hp : pc + 1 = pc') (k : PW Γ d V pc' L (st) M Q) : PW Γ d V pc L (.int x :: st) M Q := by
  subst hp
  intro p e R s m args below meth c A cells slots Qf C hR E H locs ls hW hl
  exact lv_pop C.1 C.2.1 hd rfl (k p e R s m args below meth c A cells slots Qf C hR E H locs ls hW hl)
theorem PW_dup_x1I {x y : Int32} (hd : decode V.2.1 pc = .ok (.dup_x1, 1)) (hp : pc + 1 = pc') (k : PW Γ d V pc' L (.int x :: .int y :: .int x :: st) M Q) : PW Γ d V pc L (.int x :: .int y :: st) M Q := by
  subst hp
  intro p e R s m args below meth c A cells slots Qf C hR E H locs ls hW hl
  exact lv_dup_x1 C.1 C.2.1 hd rfl rfl (k p e R s m args below meth c A cells slots Qf C hR E H locs ls hW hl)
theorem PW_dup_x1R {x : Int32} {y : Nat} (hd : decode V.2.1 pc = .ok (.dup_x1, 1)) (hp : pc + 1 = pc') (k : PW Γ d V pc' L (.int x :: .ref y :: .int x :: st) M Q) : PW Γ d V pc L (.int x :: .ref y :: st) M Q := by
  subst hp
  intro p e R s m args below meth c A cells slots Qf C hR E H locs ls hW hl
  exact lv_dup_x1 C.1 C.2.1 hd rfl rfl (k p e R s m args below meth c A cells slots Qf C hR E H locs ls hW hl)
theorem PW_dup2IR {x : Int32} {y : Nat} (hd : decode V.2.1 pc = .ok (.dup2, 1)) (hp : pc + 1 = pc') (k : PW Γ d V pc' L (.int x :: .ref y :: .int x :: .ref y :: st) M Q) : PW Γ d V pc L (.int x :: .ref y :: st) M Q := by
  subst hp
  intro p e R s m args below meth c A cells slots Qf C hR E H locs ls hW hl
  exact lv_dup2_11 C.1 C.2.1 hd rfl rfl (k p e R s m args below meth c A cells slots Qf C hR E H locs ls hW hl)
theorem PW_iload0 {x : Int32} (hd : decode V.2.1 pc = .ok (.iload_n 0, 1)) (hp : pc + 1 = pc') (k : PW Γ d V pc' (.int x :: L) (.int x :: st) M Q) : PW Γ d V pc (.int x :: L) st M Q := by
  subst hp
  intro p e R s m args below meth c A cells slots Qf C hR E H locs ls hW hl
  exact lv_iload_n C.1 C.2.1 hd rfl (pv_at hl (k := 0) (v := .int x) rfl (by simp)) (k p e R s m args below meth c A cells slots Qf C hR E H locs ls hW hl)
theorem PW_istore0 {o : Value} {x : Int32} (hd : decode V.2.1 pc = .ok (.istore_n 0, 1)) (hp : pc + 1 = pc') (hm : Nat.blt 0 V.2.2.1 = true) (hn : pv_nl 0 (o :: L) = true) (k : PW Γ d V pc' (.int x :: L) st M Q) : PW Γ d V pc (o :: L) (.int x :: st) M Q := by
  subst hp
  intro p e R s m args below meth c A cells slots Qf C hR E H locs ls hW hl
  exact lv_istore_n C.1 C.2.1 hd rfl hl (Nat.le_of_ble_eq_true hm) rfl (fun ls2 hl2 => k p e R s m args below meth c A cells slots Qf C hR E H locs ls2 hW (pv_st1 (v := .int x) hn hl2))
theorem PW_lload0 {x : Int64} (hd : decode V.2.1 pc = .ok (.lload_n 0, 1)) (hp : pc + 1 = pc') (k : PW Γ d V pc' (.long x :: L) (.long x :: st) M Q) : PW Γ d V pc (.long x :: L) st M Q := by
  subst hp
  intro p e R s m args below meth c A cells slots Qf C hR E H locs ls hW hl
  exact lv_lload_n C.1 C.2.1 hd rfl (pv_at hl (k := 0) (v := .long x) rfl (by simp)) (k p e R s m args below meth c A cells slots Qf C hR E H locs ls hW hl)
theorem PW_lstore0 {o o2 : Value} {x : Int64} (hd : decode V.2.1 pc = .ok (.lstore_n 0, 1)) (hp : pc + 1 = pc') (hm : Nat.blt 1 V.2.2.1 = true) (hn : pv_nl 0 (o :: o2 :: L) = true) (k : PW Γ d V pc' (.long x :: .null :: L) st M Q) : PW Γ d V pc (o :: o2 :: L) (.long x :: st) M Q := by
  subst hp
  intro p e R s m args below meth c A cells slots Qf C hR E H locs ls hW hl
  exact lv_lstore_n C.1 C.2.1 hd rfl hl (Nat.le_of_ble_eq_true hm) rfl (fun ls2 hl2 => k p e R s m args below meth c A cells slots Qf C hR E H locs ls2 hW (pv_st2 (v := .long x) hn hl2))
theorem PW_aload0 {x : Nat} (hd : decode V.2.1 pc = .ok (.aload_n 0, 1)) (hp : pc + 1 = pc') (k : PW Γ d V pc' (.ref x :: L) (.ref x :: st) M Q) : PW Γ d V pc (.ref x :: L) st M Q := by
  subst hp
  intro p e R s m args below meth c A cells slots Qf C hR E H locs ls hW hl
  exact lv_aload_n C.1 C.2.1 hd rfl (pv_at hl (k := 0) (v := .ref x) rfl (by simp)) (k p e R s m args below meth c A cells slots Qf C hR E H locs ls hW hl)
theorem PW_astore0 {o : Value} {x : Nat} (hd : decode V.2.1 pc = .ok (.astore_n 0, 1)) (hp : pc + 1 = pc') (hm : Nat.blt 0 V.2.2.1 = true) (hn : pv_nl 0 (o :: L) = true) (k : PW Γ d V pc' (.ref x :: L) st M Q) : PW Γ d V pc (o :: L) (.ref x :: st) M Q := by
  subst hp
  intro p e R s m args below meth c A cells slots Qf C hR E H locs ls hW hl
  exact lv_astore_n C.1 C.2.1 hd rfl hl (Nat.le_of_ble_eq_true hm) rfl (fun ls2 hl2 => k p e R s m args below meth c A cells slots Qf C hR E H locs ls2 hW (pv_st1 (v := .ref x) hn hl2))
theorem PW_iinc0 {n : Int} {x v : Int32} (hd : decode V.2.1 pc = .ok (.iinc 0 n, 3)) (hp : pc + 3 = pc') (hm : Nat.blt 0 V.2.2.1 = true) (hn : pv_nl 0 (.int x :: L) = true) (hv : x + Int32.ofInt n = v) (k : PW Γ d V pc' (.int v :: L) st M Q) : PW Γ d V pc (.int x :: L) st M Q := by
  subst hp
  intro p e R s m args below meth c A cells slots Qf C hR E H locs ls hW hl
  obtain ⟨j, hj⟩ := List.getElem?_of_mem ((pv_lv_mem Γ.2.2.2 (0, .int x) (.int x :: L) 0).mpr ⟨0, .int x, rfl, by simp, rfl⟩)
  exact lv_iinc C.1 C.2.1 hd hl hj hv (Nat.le_of_ble_eq_true hm) rfl (fun ls2 hl2 => k p e R s m args below meth c A cells slots Qf C hR E H locs ls2 hW (pv_st1 (v := .int v) hn hl2))
theorem PW_iload1 {a0 : Value} {x : Int32} (hd : decode V.2.1 pc = .ok (.iload_n 1, 1)) (hp : pc + 1 = pc') (k : PW Γ d V pc' (a0 :: .int x :: L) (.int x :: st) M Q) : PW Γ d V pc (a0 :: .int x :: L) st M Q := by
  subst hp
  intro p e R s m args below meth c A cells slots Qf C hR E H locs ls hW hl
  exact lv_iload_n C.1 C.2.1 hd rfl (pv_at hl (k := 1) (v := .int x) rfl (by simp)) (k p e R s m args below meth c A cells slots Qf C hR E H locs ls hW hl)
theorem PW_istore1 {a0 : Value} {o : Value} {x : Int32} (hd : decode V.2.1 pc = .ok (.istore_n 1, 1)) (hp : pc + 1 = pc') (hm : Nat.blt 1 V.2.2.1 = true) (hn : pv_nl 1 (a0 :: o :: L) = true) (k : PW Γ d V pc' (a0 :: .int x :: L) st M Q) : PW Γ d V pc (a0 :: o :: L) (.int x :: st) M Q := by
  subst hp
  intro p e R s m args below meth c A cells slots Qf C hR E H locs ls hW hl
  exact lv_istore_n C.1 C.2.1 hd rfl hl (Nat.le_of_ble_eq_true hm) rfl (fun ls2 hl2 => k p e R s m args below meth c A cells slots Qf C hR E H locs ls2 hW (pv_st1 (v := .int x) hn hl2))
theorem PW_lload1 {a0 : Value} {x : Int64} (hd : decode V.2.1 pc = .ok (.lload_n 1, 1)) (hp : pc + 1 = pc') (k : PW Γ d V pc' (a0 :: .long x :: L) (.long x :: st) M Q) : PW Γ d V pc (a0 :: .long x :: L) st M Q := by
  subst hp
  intro p e R s m args below meth c A cells slots Qf C hR E H locs ls hW hl
  exact lv_lload_n C.1 C.2.1 hd rfl (pv_at hl (k := 1) (v := .long x) rfl (by simp)) (k p e R s m args below meth c A cells slots Qf C hR E H locs ls hW hl)
theorem PW_lstore1 {a0 : Value} {o o2 : Value} {x : Int64} (hd : decode V.2.1 pc = .ok (.lstore_n 1, 1)) (hp : pc + 1 = pc') (hm : Nat.blt 2 V.2.2.1 = true) (hn : pv_nl 1 (a0 :: o :: o2 :: L) = true) (k : PW Γ d V pc' (a0 :: .long x :: .null :: L) st M Q) : PW Γ d V pc (a0 :: o :: o2 :: L) (.long x :: st) M Q := by
  subst hp
  intro p e R s m args below meth c A cells slots Qf C hR E H locs ls hW hl
  exact lv_lstore_n C.1 C.2.1 hd rfl hl (Nat.le_of_ble_eq_true hm) rfl (fun ls2 hl2 => k p e R s m args below meth c A cells slots Qf C hR E H locs ls2 hW (pv_st2 (v := .long x) hn hl2))
theorem PW_aload1 {a0 : Value} {x : Nat} (hd : decode V.2.1 pc = .ok (.aload_n 1, 1)) (hp : pc + 1 = pc') (k : PW Γ d V pc' (a0 :: .ref x :: L) (.ref x :: st) M Q) : PW Γ d V pc (a0 :: .ref x :: L) st M Q := by
  subst hp
  intro p e R s m args below meth c A cells slots Qf C hR E H locs ls hW hl
  exact lv_aload_n C.1 C.2.1 hd rfl (pv_at hl (k := 1) (v := .ref x) rfl (by simp)) (k p e R s m args below meth c A cells slots Qf C hR E H locs ls hW hl)
theorem PW_astore1 {a0 : Value} {o : Value} {x : Nat} (hd : decode V.2.1 pc = .ok (.astore_n 1, 1)) (hp : pc + 1 = pc') (hm : Nat.blt 1 V.2.2.1 = true) (hn : pv_nl 1 (a0 :: o :: L) = true) (k : PW Γ d V pc' (a0 :: .ref x :: L) st M Q) : PW Γ d V pc (a0 :: o :: L) (.ref x :: st) M Q := by
  subst hp
  intro p e R s m args below meth c A cells slots Qf C hR E H locs ls hW hl
  exact lv_astore_n C.1 C.2.1 hd rfl hl (Nat.le_of_ble_eq_true hm) rfl (fun ls2 hl2 => k p e R s m args below meth c A cells slots Qf C hR E H locs ls2 hW (pv_st1 (v := .ref x) hn hl2))
theorem PW_iinc1 {a0 : Value} {n : Int} {x v : Int32} (hd : decode V.2.1 pc = .ok (.iinc 1 n, 3)) (hp : pc + 3 = pc') (hm : Nat.blt 1 V.2.2.1 = true) (hn : pv_nl 1 (a0 :: .int x :: L) = true) (hv : x + Int32.ofInt n = v) (k : PW Γ d V pc' (a0 :: .int v :: L) st M Q) : PW Γ d V pc (a0 :: .int x :: L) st M Q := by
  subst hp
  intro p e R s m args below meth c A cells slots Qf C hR E H locs ls hW hl
  obtain ⟨j, hj⟩ := List.getElem?_of_mem ((pv_lv_mem Γ.2.2.2 (1, .int x) (a0 :: .int x :: L) 0).mpr ⟨1, .int x, rfl, by simp, rfl⟩)
  exact lv_iinc C.1 C.2.1 hd hl hj hv (Nat.le_of_ble_eq_true hm) rfl (fun ls2 hl2 => k p e R s m args below meth c A cells slots Qf C hR E H locs ls2 hW (pv_st1 (v := .int v) hn hl2))
theorem PW_iload2 {a0 a1 : Value} {x : Int32} (hd : decode V.2.1 pc = .ok (.iload_n 2, 1)) (hp : pc + 1 = pc') (k : PW Γ d V pc' (a0 :: a1 :: .int x :: L) (.int x :: st) M Q) : PW Γ d V pc (a0 :: a1 :: .int x :: L) st M Q := by
  subst hp
  intro p e R s m args below meth c A cells slots Qf C hR E H locs ls hW hl
  exact lv_iload_n C.1 C.2.1 hd rfl (pv_at hl (k := 2) (v := .int x) rfl (by simp)) (k p e R s m args below meth c A cells slots Qf C hR E H locs ls hW hl)
theorem PW_istore2 {a0 a1 : Value} {o : Value} {x : Int32} (hd : decode V.2.1 pc = .ok (.istore_n 2, 1)) (hp : pc + 1 = pc') (hm : Nat.blt 2 V.2.2.1 = true) (hn : pv_nl 2 (a0 :: a1 :: o :: L) = true) (k : PW Γ d V pc' (a0 :: a1 :: .int x :: L) st M Q) : PW Γ d V pc (a0 :: a1 :: o :: L) (.int x :: st) M Q := by
  subst hp
  intro p e R s m args below meth c A cells slots Qf C hR E H locs ls hW hl
  exact lv_istore_n C.1 C.2.1 hd rfl hl (Nat.le_of_ble_eq_true hm) rfl (fun ls2 hl2 => k p e R s m args below meth c A cells slots Qf C hR E H locs ls2 hW (pv_st1 (v := .int x) hn hl2))
theorem PW_lload2 {a0 a1 : Value} {x : Int64} (hd : decode V.2.1 pc = .ok (.lload_n 2, 1)) (hp : pc + 1 = pc') (k : PW Γ d V pc' (a0 :: a1 :: .long x :: L) (.long x :: st) M Q) : PW Γ d V pc (a0 :: a1 :: .long x :: L) st M Q := by
  subst hp
  intro p e R s m args below meth c A cells slots Qf C hR E H locs ls hW hl
  exact lv_lload_n C.1 C.2.1 hd rfl (pv_at hl (k := 2) (v := .long x) rfl (by simp)) (k p e R s m args below meth c A cells slots Qf C hR E H locs ls hW hl)
theorem PW_lstore2 {a0 a1 : Value} {o o2 : Value} {x : Int64} (hd : decode V.2.1 pc = .ok (.lstore_n 2, 1)) (hp : pc + 1 = pc') (hm : Nat.blt 3 V.2.2.1 = true) (hn : pv_nl 2 (a0 :: a1 :: o :: o2 :: L) = true) (k : PW Γ d V pc' (a0 :: a1 :: .long x :: .null :: L) st M Q) : PW Γ d V pc (a0 :: a1 :: o :: o2 :: L) (.long x :: st) M Q := by
  subst hp
  intro p e R s m args below meth c A cells slots Qf C hR E H locs ls hW hl
  exact lv_lstore_n C.1 C.2.1 hd rfl hl (Nat.le_of_ble_eq_true hm) rfl (fun ls2 hl2 => k p e R s m args below meth c A cells slots Qf C hR E H locs ls2 hW (pv_st2 (v := .long x) hn hl2))
theorem PW_aload2 {a0 a1 : Value} {x : Nat} (hd : decode V.2.1 pc = .ok (.aload_n 2, 1)) (hp : pc + 1 = pc') (k : PW Γ d V pc' (a0 :: a1 :: .ref x :: L) (.ref x :: st) M Q) : PW Γ d V pc (a0 :: a1 :: .ref x :: L) st M Q := by
  subst hp
  intro p e R s m args below meth c A cells slots Qf C hR E H locs ls hW hl
  exact lv_aload_n C.1 C.2.1 hd rfl (pv_at hl (k := 2) (v := .ref x) rfl (by simp)) (k p e R s m args below meth c A cells slots Qf C hR E H locs ls hW hl)
theorem PW_astore2 {a0 a1 : Value} {o : Value} {x : Nat} (hd : decode V.2.1 pc = .ok (.astore_n 2, 1)) (hp : pc + 1 = pc') (hm : Nat.blt 2 V.2.2.1 = true) (hn : pv_nl 2 (a0 :: a1 :: o :: L) = true) (k : PW Γ d V pc' (a0 :: a1 :: .ref x :: L) st M Q) : PW Γ d V pc (a0 :: a1 :: o :: L) (.ref x :: st) M Q := by
  subst hp
  intro p e R s m args below meth c A cells slots Qf C hR E H locs ls hW hl
  exact lv_astore_n C.1 C.2.1 hd rfl hl (Nat.le_of_ble_eq_true hm) rfl (fun ls2 hl2 => k p e R s m args below meth c A cells slots Qf C hR E H locs ls2 hW (pv_st1 (v := .ref x) hn hl2))
theorem PW_iinc2 {a0 a1 : Value} {n : Int} {x v : Int32} (hd : decode V.2.1 pc = .ok (.iinc 2 n, 3)) (hp : pc + 3 = pc') (hm : Nat.blt 2 V.2.2.1 = true) (hn : pv_nl 2 (a0 :: a1 :: .int x :: L) = true) (hv : x + Int32.ofInt n = v) (k : PW Γ d V pc' (a0 :: a1 :: .int v :: L) st M Q) : PW Γ d V pc (a0 :: a1 :: .int x :: L) st M Q := by
  subst hp
  intro p e R s m args below meth c A cells slots Qf C hR E H locs ls hW hl
  obtain ⟨j, hj⟩ := List.getElem?_of_mem ((pv_lv_mem Γ.2.2.2 (2, .int x) (a0 :: a1 :: .int x :: L) 0).mpr ⟨2, .int x, rfl, by simp, rfl⟩)
  exact lv_iinc C.1 C.2.1 hd hl hj hv (Nat.le_of_ble_eq_true hm) rfl (fun ls2 hl2 => k p e R s m args below meth c A cells slots Qf C hR E H locs ls2 hW (pv_st1 (v := .int v) hn hl2))
theorem PW_iload3 {a0 a1 a2 : Value} {x : Int32} (hd : decode V.2.1 pc = .ok (.iload_n 3, 1)) (hp : pc + 1 = pc') (k : PW Γ d V pc' (a0 :: a1 :: a2 :: .int x :: L) (.int x :: st) M Q) : PW Γ d V pc (a0 :: a1 :: a2 :: .int x :: L) st M Q := by
  subst hp
  intro p e R s m args below meth c A cells slots Qf C hR E H locs ls hW hl
  exact lv_iload_n C.1 C.2.1 hd rfl (pv_at hl (k := 3) (v := .int x) rfl (by simp)) (k p e R s m args below meth c A cells slots Qf C hR E H locs ls hW hl)
theorem PW_istore3 {a0 a1 a2 : Value} {o : Value} {x : Int32} (hd : decode V.2.1 pc = .ok (.istore_n 3, 1)) (hp : pc + 1 = pc') (hm : Nat.blt 3 V.2.2.1 = true) (hn : pv_nl 3 (a0 :: a1 :: a2 :: o :: L) = true) (k : PW Γ d V pc' (a0 :: a1 :: a2 :: .int x :: L) st M Q) : PW Γ d V pc (a0 :: a1 :: a2 :: o :: L) (.int x :: st) M Q := by
  subst hp
  intro p e R s m args below meth c A cells slots Qf C hR E H locs ls hW hl
  exact lv_istore_n C.1 C.2.1 hd rfl hl (Nat.le_of_ble_eq_true hm) rfl (fun ls2 hl2 => k p e R s m args below meth c A cells slots Qf C hR E H locs ls2 hW (pv_st1 (v := .int x) hn hl2))
theorem PW_lload3 {a0 a1 a2 : Value} {x : Int64} (hd : decode V.2.1 pc = .ok (.lload_n 3, 1)) (hp : pc + 1 = pc') (k : PW Γ d V pc' (a0 :: a1 :: a2 :: .long x :: L) (.long x :: st) M Q) : PW Γ d V pc (a0 :: a1 :: a2 :: .long x :: L) st M Q := by
  subst hp
  intro p e R s m args below meth c A cells slots Qf C hR E H locs ls hW hl
  exact lv_lload_n C.1 C.2.1 hd rfl (pv_at hl (k := 3) (v := .long x) rfl (by simp)) (k p e R s m args below meth c A cells slots Qf C hR E H locs ls hW hl)
theorem PW_lstore3 {a0 a1 a2 : Value} {o o2 : Value} {x : Int64} (hd : decode V.2.1 pc = .ok (.lstore_n 3, 1)) (hp : pc + 1 = pc') (hm : Nat.blt 4 V.2.2.1 = true) (hn : pv_nl 3 (a0 :: a1 :: a2 :: o :: o2 :: L) = true) (k : PW Γ d V pc' (a0 :: a1 :: a2 :: .long x :: .null :: L) st M Q) : PW Γ d V pc (a0 :: a1 :: a2 :: o :: o2 :: L) (.long x :: st) M Q := by
  subst hp
  intro p e R s m args below meth c A cells slots Qf C hR E H locs ls hW hl
  exact lv_lstore_n C.1 C.2.1 hd rfl hl (Nat.le_of_ble_eq_true hm) rfl (fun ls2 hl2 => k p e R s m args below meth c A cells slots Qf C hR E H locs ls2 hW (pv_st2 (v := .long x) hn hl2))
theorem PW_aload3 {a0 a1 a2 : Value} {x : Nat} (hd : decode V.2.1 pc = .ok (.aload_n 3, 1)) (hp : pc + 1 = pc') (k : PW Γ d V pc' (a0 :: a1 :: a2 :: .ref x :: L) (.ref x :: st) M Q) : PW Γ d V pc (a0 :: a1 :: a2 :: .ref x :: L) st M Q := by
  subst hp
  intro p e R s m args below meth c A cells slots Qf C hR E H locs ls hW hl
  exact lv_aload_n C.1 C.2.1 hd rfl (pv_at hl (k := 3) (v := .ref x) rfl (by simp)) (k p e R s m args below meth c A cells slots Qf C hR E H locs ls hW hl)
theorem PW_astore3 {a0 a1 a2 : Value} {o : Value} {x : Nat} (hd : decode V.2.1 pc = .ok (.astore_n 3, 1)) (hp : pc + 1 = pc') (hm : Nat.blt 3 V.2.2.1 = true) (hn : pv_nl 3 (a0 :: a1 :: a2 :: o :: L) = true) (k : PW Γ d V pc' (a0 :: a1 :: a2 :: .ref x :: L) st M Q) : PW Γ d V pc (a0 :: a1 :: a2 :: o :: L) (.ref x :: st) M Q := by
  subst hp
  intro p e R s m args below meth c A cells slots Qf C hR E H locs ls hW hl
  exact lv_astore_n C.1 C.2.1 hd rfl hl (Nat.le_of_ble_eq_true hm) rfl (fun ls2 hl2 => k p e R s m args below meth c A cells slots Qf C hR E H locs ls2 hW (pv_st1 (v := .ref x) hn hl2))
theorem PW_iinc3 {a0 a1 a2 : Value} {n : Int} {x v : Int32} (hd : decode V.2.1 pc = .ok (.iinc 3 n, 3)) (hp : pc + 3 = pc') (hm : Nat.blt 3 V.2.2.1 = true) (hn : pv_nl 3 (a0 :: a1 :: a2 :: .int x :: L) = true) (hv : x + Int32.ofInt n = v) (k : PW Γ d V pc' (a0 :: a1 :: a2 :: .int v :: L) st M Q) : PW Γ d V pc (a0 :: a1 :: a2 :: .int x :: L) st M Q := by
  subst hp
  intro p e R s m args below meth c A cells slots Qf C hR E H locs ls hW hl
  obtain ⟨j, hj⟩ := List.getElem?_of_mem ((pv_lv_mem Γ.2.2.2 (3, .int x) (a0 :: a1 :: a2 :: .int x :: L) 0).mpr ⟨3, .int x, rfl, by simp, rfl⟩)
  exact lv_iinc C.1 C.2.1 hd hl hj hv (Nat.le_of_ble_eq_true hm) rfl (fun ls2 hl2 => k p e R s m args below meth c A cells slots Qf C hR E H locs ls2 hW (pv_st1 (v := .int v) hn hl2))
theorem PW_iload4 {a0 a1 a2 a3 : Value} {x : Int32} (hd : decode V.2.1 pc = .ok (.iload 4, 2)) (hp : pc + 2 = pc') (k : PW Γ d V pc' (a0 :: a1 :: a2 :: a3 :: .int x :: L) (.int x :: st) M Q) : PW Γ d V pc (a0 :: a1 :: a2 :: a3 :: .int x :: L) st M Q := by
  subst hp
  intro p e R s m args below meth c A cells slots Qf C hR E H locs ls hW hl
  exact lv_iload C.1 C.2.1 hd (pv_at hl (k := 4) (v := .int x) rfl (by simp)) (k p e R s m args below meth c A cells slots Qf C hR E H locs ls hW hl)
theorem PW_istore4 {a0 a1 a2 a3 : Value} {o : Value} {x : Int32} (hd : decode V.2.1 pc = .ok (.istore 4, 2)) (hp : pc + 2 = pc') (hm : Nat.blt 4 V.2.2.1 = true) (hn : pv_nl 4 (a0 :: a1 :: a2 :: a3 :: o :: L) = true) (k : PW Γ d V pc' (a0 :: a1 :: a2 :: a3 :: .int x :: L) st M Q) : PW Γ d V pc (a0 :: a1 :: a2 :: a3 :: o :: L) (.int x :: st) M Q := by
  subst hp
  intro p e R s m args below meth c A cells slots Qf C hR E H locs ls hW hl
  exact lv_istore C.1 C.2.1 hd hl (Nat.le_of_ble_eq_true hm) rfl (fun ls2 hl2 => k p e R s m args below meth c A cells slots Qf C hR E H locs ls2 hW (pv_st1 (v := .int x) hn hl2))
theorem PW_lload4 {a0 a1 a2 a3 : Value} {x : Int64} (hd : decode V.2.1 pc = .ok (.lload 4, 2)) (hp : pc + 2 = pc') (k : PW Γ d V pc' (a0 :: a1 :: a2 :: a3 :: .long x :: L) (.long x :: st) M Q) : PW Γ d V pc (a0 :: a1 :: a2 :: a3 :: .long x :: L) st M Q := by
  subst hp
  intro p e R s m args below meth c A cells slots Qf C hR E H locs ls hW hl
  exact lv_lload C.1 C.2.1 hd (pv_at hl (k := 4) (v := .long x) rfl (by simp)) (k p e R s m args below meth c A cells slots Qf C hR E H locs ls hW hl)
theorem PW_lstore4 {a0 a1 a2 a3 : Value} {o o2 : Value} {x : Int64} (hd : decode V.2.1 pc = .ok (.lstore 4, 2)) (hp : pc + 2 = pc') (hm : Nat.blt 5 V.2.2.1 = true) (hn : pv_nl 4 (a0 :: a1 :: a2 :: a3 :: o :: o2 :: L) = true) (k : PW Γ d V pc' (a0 :: a1 :: a2 :: a3 :: .long x :: .null :: L) st M Q) : PW Γ d V pc (a0 :: a1 :: a2 :: a3 :: o :: o2 :: L) (.long x :: st) M Q := by
  subst hp
  intro p e R s m args below meth c A cells slots Qf C hR E H locs ls hW hl
  exact lv_lstore C.1 C.2.1 hd hl (Nat.le_of_ble_eq_true hm) rfl (fun ls2 hl2 => k p e R s m args below meth c A cells slots Qf C hR E H locs ls2 hW (pv_st2 (v := .long x) hn hl2))
theorem PW_aload4 {a0 a1 a2 a3 : Value} {x : Nat} (hd : decode V.2.1 pc = .ok (.aload 4, 2)) (hp : pc + 2 = pc') (k : PW Γ d V pc' (a0 :: a1 :: a2 :: a3 :: .ref x :: L) (.ref x :: st) M Q) : PW Γ d V pc (a0 :: a1 :: a2 :: a3 :: .ref x :: L) st M Q := by
  subst hp
  intro p e R s m args below meth c A cells slots Qf C hR E H locs ls hW hl
  exact lv_aload C.1 C.2.1 hd (pv_at hl (k := 4) (v := .ref x) rfl (by simp)) (k p e R s m args below meth c A cells slots Qf C hR E H locs ls hW hl)
theorem PW_astore4 {a0 a1 a2 a3 : Value} {o : Value} {x : Nat} (hd : decode V.2.1 pc = .ok (.astore 4, 2)) (hp : pc + 2 = pc') (hm : Nat.blt 4 V.2.2.1 = true) (hn : pv_nl 4 (a0 :: a1 :: a2 :: a3 :: o :: L) = true) (k : PW Γ d V pc' (a0 :: a1 :: a2 :: a3 :: .ref x :: L) st M Q) : PW Γ d V pc (a0 :: a1 :: a2 :: a3 :: o :: L) (.ref x :: st) M Q := by
  subst hp
  intro p e R s m args below meth c A cells slots Qf C hR E H locs ls hW hl
  exact lv_astore C.1 C.2.1 hd hl (Nat.le_of_ble_eq_true hm) rfl (fun ls2 hl2 => k p e R s m args below meth c A cells slots Qf C hR E H locs ls2 hW (pv_st1 (v := .ref x) hn hl2))
theorem PW_iinc4 {a0 a1 a2 a3 : Value} {n : Int} {x v : Int32} (hd : decode V.2.1 pc = .ok (.iinc 4 n, 3)) (hp : pc + 3 = pc') (hm : Nat.blt 4 V.2.2.1 = true) (hn : pv_nl 4 (a0 :: a1 :: a2 :: a3 :: .int x :: L) = true) (hv : x + Int32.ofInt n = v) (k : PW Γ d V pc' (a0 :: a1 :: a2 :: a3 :: .int v :: L) st M Q) : PW Γ d V pc (a0 :: a1 :: a2 :: a3 :: .int x :: L) st M Q := by
  subst hp
  intro p e R s m args below meth c A cells slots Qf C hR E H locs ls hW hl
  obtain ⟨j, hj⟩ := List.getElem?_of_mem ((pv_lv_mem Γ.2.2.2 (4, .int x) (a0 :: a1 :: a2 :: a3 :: .int x :: L) 0).mpr ⟨4, .int x, rfl, by simp, rfl⟩)
  exact lv_iinc C.1 C.2.1 hd hl hj hv (Nat.le_of_ble_eq_true hm) rfl (fun ls2 hl2 => k p e R s m args below meth c A cells slots Qf C hR E H locs ls2 hW (pv_st1 (v := .int v) hn hl2))
theorem PW_iload5 {a0 a1 a2 a3 a4 : Value} {x : Int32} (hd : decode V.2.1 pc = .ok (.iload 5, 2)) (hp : pc + 2 = pc') (k : PW Γ d V pc' (a0 :: a1 :: a2 :: a3 :: a4 :: .int x :: L) (.int x :: st) M Q) : PW Γ d V pc (a0 :: a1 :: a2 :: a3 :: a4 :: .int x :: L) st M Q := by
  subst hp
  intro p e R s m args below meth c A cells slots Qf C hR E H locs ls hW hl
  exact lv_iload C.1 C.2.1 hd (pv_at hl (k := 5) (v := .int x) rfl (by simp)) (k p e R s m args below meth c A cells slots Qf C hR E H locs ls hW hl)
theorem PW_istore5 {a0 a1 a2 a3 a4 : Value} {o : Value} {x : Int32} (hd : decode V.2.1 pc = .ok (.istore 5, 2)) (hp : pc + 2 = pc') (hm : Nat.blt 5 V.2.2.1 = true) (hn : pv_nl 5 (a0 :: a1 :: a2 :: a3 :: a4 :: o :: L) = true) (k : PW Γ d V pc' (a0 :: a1 :: a2 :: a3 :: a4 :: .int x :: L) st M Q) : PW Γ d V pc (a0 :: a1 :: a2 :: a3 :: a4 :: o :: L) (.int x :: st) M Q := by
  subst hp
  intro p e R s m args below meth c A cells slots Qf C hR E H locs ls hW hl
  exact lv_istore C.1 C.2.1 hd hl (Nat.le_of_ble_eq_true hm) rfl (fun ls2 hl2 => k p e R s m args below meth c A cells slots Qf C hR E H locs ls2 hW (pv_st1 (v := .int x) hn hl2))
theorem PW_lload5 {a0 a1 a2 a3 a4 : Value} {x : Int64} (hd : decode V.2.1 pc = .ok (.lload 5, 2)) (hp : pc + 2 = pc') (k : PW Γ d V pc' (a0 :: a1 :: a2 :: a3 :: a4 :: .long x :: L) (.long x :: st) M Q) : PW Γ d V pc (a0 :: a1 :: a2 :: a3 :: a4 :: .long x :: L) st M Q := by
  subst hp
  intro p e R s m args below meth c A cells slots Qf C hR E H locs ls hW hl
  exact lv_lload C.1 C.2.1 hd (pv_at hl (k := 5) (v := .long x) rfl (by simp)) (k p e R s m args below meth c A cells slots Qf C hR E H locs ls hW hl)
theorem PW_lstore5 {a0 a1 a2 a3 a4 : Value} {o o2 : Value} {x : Int64} (hd : decode V.2.1 pc = .ok (.lstore 5, 2)) (hp : pc + 2 = pc') (hm : Nat.blt 6 V.2.2.1 = true) (hn : pv_nl 5 (a0 :: a1 :: a2 :: a3 :: a4 :: o :: o2 :: L) = true) (k : PW Γ d V pc' (a0 :: a1 :: a2 :: a3 :: a4 :: .long x :: .null :: L) st M Q) : PW Γ d V pc (a0 :: a1 :: a2 :: a3 :: a4 :: o :: o2 :: L) (.long x :: st) M Q := by
  subst hp
  intro p e R s m args below meth c A cells slots Qf C hR E H locs ls hW hl
  exact lv_lstore C.1 C.2.1 hd hl (Nat.le_of_ble_eq_true hm) rfl (fun ls2 hl2 => k p e R s m args below meth c A cells slots Qf C hR E H locs ls2 hW (pv_st2 (v := .long x) hn hl2))
theorem PW_aload5 {a0 a1 a2 a3 a4 : Value} {x : Nat} (hd : decode V.2.1 pc = .ok (.aload 5, 2)) (hp : pc + 2 = pc') (k : PW Γ d V pc' (a0 :: a1 :: a2 :: a3 :: a4 :: .ref x :: L) (.ref x :: st) M Q) : PW Γ d V pc (a0 :: a1 :: a2 :: a3 :: a4 :: .ref x :: L) st M Q := by
  subst hp
  intro p e R s m args below meth c A cells slots Qf C hR E H locs ls hW hl
  exact lv_aload C.1 C.2.1 hd (pv_at hl (k := 5) (v := .ref x) rfl (by simp)) (k p e R s m args below meth c A cells slots Qf C hR E H locs ls hW hl)
theorem PW_astore5 {a0 a1 a2 a3 a4 : Value} {o : Value} {x : Nat} (hd : decode V.2.1 pc = .ok (.astore 5, 2)) (hp : pc + 2 = pc') (hm : Nat.blt 5 V.2.2.1 = true) (hn : pv_nl 5 (a0 :: a1 :: a2 :: a3 :: a4 :: o :: L) = true) (k : PW Γ d V pc' (a0 :: a1 :: a2 :: a3 :: a4 :: .ref x :: L) st M Q) : PW Γ d V pc (a0 :: a1 :: a2 :: a3 :: a4 :: o :: L) (.ref x :: st) M Q := by
  subst hp
  intro p e R s m args below meth c A cells slots Qf C hR E H locs ls hW hl
  exact lv_astore C.1 C.2.1 hd hl (Nat.le_of_ble_eq_true hm) rfl (fun ls2 hl2 => k p e R s m args below meth c A cells slots Qf C hR E H locs ls2 hW (pv_st1 (v := .ref x) hn hl2))
theorem PW_iinc5 {a0 a1 a2 a3 a4 : Value} {n : Int} {x v : Int32} (hd : decode V.2.1 pc = .ok (.iinc 5 n, 3)) (hp : pc + 3 = pc') (hm : Nat.blt 5 V.2.2.1 = true) (hn : pv_nl 5 (a0 :: a1 :: a2 :: a3 :: a4 :: .int x :: L) = true) (hv : x + Int32.ofInt n = v) (k : PW Γ d V pc' (a0 :: a1 :: a2 :: a3 :: a4 :: .int v :: L) st M Q) : PW Γ d V pc (a0 :: a1 :: a2 :: a3 :: a4 :: .int x :: L) st M Q := by
  subst hp
  intro p e R s m args below meth c A cells slots Qf C hR E H locs ls hW hl
  obtain ⟨j, hj⟩ := List.getElem?_of_mem ((pv_lv_mem Γ.2.2.2 (5, .int x) (a0 :: a1 :: a2 :: a3 :: a4 :: .int x :: L) 0).mpr ⟨5, .int x, rfl, by simp, rfl⟩)
  exact lv_iinc C.1 C.2.1 hd hl hj hv (Nat.le_of_ble_eq_true hm) rfl (fun ls2 hl2 => k p e R s m args below meth c A cells slots Qf C hR E H locs ls2 hW (pv_st1 (v := .int v) hn hl2))
theorem PW_iload6 {a0 a1 a2 a3 a4 a5 : Value} {x : Int32} (hd : decode V.2.1 pc = .ok (.iload 6, 2)) (hp : pc + 2 = pc') (k : PW Γ d V pc' (a0 :: a1 :: a2 :: a3 :: a4 :: a5 :: .int x :: L) (.int x :: st) M Q) : PW Γ d V pc (a0 :: a1 :: a2 :: a3 :: a4 :: a5 :: .int x :: L) st M Q := by
  subst hp
  intro p e R s m args below meth c A cells slots Qf C hR E H locs ls hW hl
  exact lv_iload C.1 C.2.1 hd (pv_at hl (k := 6) (v := .int x) rfl (by simp)) (k p e R s m args below meth c A cells slots Qf C hR E H locs ls hW hl)
theorem PW_istore6 {a0 a1 a2 a3 a4 a5 : Value} {o : Value} {x : Int32} (hd : decode V.2.1 pc = .ok (.istore 6, 2)) (hp : pc + 2 = pc') (hm : Nat.blt 6 V.2.2.1 = true) (hn : pv_nl 6 (a0 :: a1 :: a2 :: a3 :: a4 :: a5 :: o :: L) = true) (k : PW Γ d V pc' (a0 :: a1 :: a2 :: a3 :: a4 :: a5 :: .int x :: L) st M Q) : PW Γ d V pc (a0 :: a1 :: a2 :: a3 :: a4 :: a5 :: o :: L) (.int x :: st) M Q := by
  subst hp
  intro p e R s m args below meth c A cells slots Qf C hR E H locs ls hW hl
  exact lv_istore C.1 C.2.1 hd hl (Nat.le_of_ble_eq_true hm) rfl (fun ls2 hl2 => k p e R s m args below meth c A cells slots Qf C hR E H locs ls2 hW (pv_st1 (v := .int x) hn hl2))
theorem PW_lload6 {a0 a1 a2 a3 a4 a5 : Value} {x : Int64} (hd : decode V.2.1 pc = .ok (.lload 6, 2)) (hp : pc + 2 = pc') (k : PW Γ d V pc' (a0 :: a1 :: a2 :: a3 :: a4 :: a5 :: .long x :: L) (.long x :: st) M Q) : PW Γ d V pc (a0 :: a1 :: a2 :: a3 :: a4 :: a5 :: .long x :: L) st M Q := by
  subst hp
  intro p e R s m args below meth c A cells slots Qf C hR E H locs ls hW hl
  exact lv_lload C.1 C.2.1 hd (pv_at hl (k := 6) (v := .long x) rfl (by simp)) (k p e R s m args below meth c A cells slots Qf C hR E H locs ls hW hl)
theorem PW_lstore6 {a0 a1 a2 a3 a4 a5 : Value} {o o2 : Value} {x : Int64} (hd : decode V.2.1 pc = .ok (.lstore 6, 2)) (hp : pc + 2 = pc') (hm : Nat.blt 7 V.2.2.1 = true) (hn : pv_nl 6 (a0 :: a1 :: a2 :: a3 :: a4 :: a5 :: o :: o2 :: L) = true) (k : PW Γ d V pc' (a0 :: a1 :: a2 :: a3 :: a4 :: a5 :: .long x :: .null :: L) st M Q) : PW Γ d V pc (a0 :: a1 :: a2 :: a3 :: a4 :: a5 :: o :: o2 :: L) (.long x :: st) M Q := by
  subst hp
  intro p e R s m args below meth c A cells slots Qf C hR E H locs ls hW hl
  exact lv_lstore C.1 C.2.1 hd hl (Nat.le_of_ble_eq_true hm) rfl (fun ls2 hl2 => k p e R s m args below meth c A cells slots Qf C hR E H locs ls2 hW (pv_st2 (v := .long x) hn hl2))
theorem PW_aload6 {a0 a1 a2 a3 a4 a5 : Value} {x : Nat} (hd : decode V.2.1 pc = .ok (.aload 6, 2)) (hp : pc + 2 = pc') (k : PW Γ d V pc' (a0 :: a1 :: a2 :: a3 :: a4 :: a5 :: .ref x :: L) (.ref x :: st) M Q) : PW Γ d V pc (a0 :: a1 :: a2 :: a3 :: a4 :: a5 :: .ref x :: L) st M Q := by
  subst hp
  intro p e R s m args below meth c A cells slots Qf C hR E H locs ls hW hl
  exact lv_aload C.1 C.2.1 hd (pv_at hl (k := 6) (v := .ref x) rfl (by simp)) (k p e R s m args below meth c A cells slots Qf C hR E H locs ls hW hl)
theorem PW_astore6 {a0 a1 a2 a3 a4 a5 : Value} {o : Value} {x : Nat} (hd : decode V.2.1 pc = .ok (.astore 6, 2)) (hp : pc + 2 = pc') (hm : Nat.blt 6 V.2.2.1 = true) (hn : pv_nl 6 (a0 :: a1 :: a2 :: a3 :: a4 :: a5 :: o :: L) = true) (k : PW Γ d V pc' (a0 :: a1 :: a2 :: a3 :: a4 :: a5 :: .ref x :: L) st M Q) : PW Γ d V pc (a0 :: a1 :: a2 :: a3 :: a4 :: a5 :: o :: L) (.ref x :: st) M Q := by
  subst hp
  intro p e R s m args below meth c A cells slots Qf C hR E H locs ls hW hl
  exact lv_astore C.1 C.2.1 hd hl (Nat.le_of_ble_eq_true hm) rfl (fun ls2 hl2 => k p e R s m args below meth c A cells slots Qf C hR E H locs ls2 hW (pv_st1 (v := .ref x) hn hl2))
theorem PW_iinc6 {a0 a1 a2 a3 a4 a5 : Value} {n : Int} {x v : Int32} (hd : decode V.2.1 pc = .ok (.iinc 6 n, 3)) (hp : pc + 3 = pc') (hm : Nat.blt 6 V.2.2.1 = true) (hn : pv_nl 6 (a0 :: a1 :: a2 :: a3 :: a4 :: a5 :: .int x :: L) = true) (hv : x + Int32.ofInt n = v) (k : PW Γ d V pc' (a0 :: a1 :: a2 :: a3 :: a4 :: a5 :: .int v :: L) st M Q) : PW Γ d V pc (a0 :: a1 :: a2 :: a3 :: a4 :: a5 :: .int x :: L) st M Q := by
  subst hp
  intro p e R s m args below meth c A cells slots Qf C hR E H locs ls hW hl
  obtain ⟨j, hj⟩ := List.getElem?_of_mem ((pv_lv_mem Γ.2.2.2 (6, .int x) (a0 :: a1 :: a2 :: a3 :: a4 :: a5 :: .int x :: L) 0).mpr ⟨6, .int x, rfl, by simp, rfl⟩)
  exact lv_iinc C.1 C.2.1 hd hl hj hv (Nat.le_of_ble_eq_true hm) rfl (fun ls2 hl2 => k p e R s m args below meth c A cells slots Qf C hR E H locs ls2 hW (pv_st1 (v := .int v) hn hl2))
theorem PW_iload7 {a0 a1 a2 a3 a4 a5 a6 : Value} {x : Int32} (hd : decode V.2.1 pc = .ok (.iload 7, 2)) (hp : pc + 2 = pc') (k : PW Γ d V pc' (a0 :: a1 :: a2 :: a3 :: a4 :: a5 :: a6 :: .int x :: L) (.int x :: st) M Q) : PW Γ d V pc (a0 :: a1 :: a2 :: a3 :: a4 :: a5 :: a6 :: .int x :: L) st M Q := by
  subst hp
  intro p e R s m args below meth c A cells slots Qf C hR E H locs ls hW hl
  exact lv_iload C.1 C.2.1 hd (pv_at hl (k := 7) (v := .int x) rfl (by simp)) (k p e R s m args below meth c A cells slots Qf C hR E H locs ls hW hl)
theorem PW_istore7 {a0 a1 a2 a3 a4 a5 a6 : Value} {o : Value} {x : Int32} (hd : decode V.2.1 pc = .ok (.istore 7, 2)) (hp : pc + 2 = pc') (hm : Nat.blt 7 V.2.2.1 = true) (hn : pv_nl 7 (a0 :: a1 :: a2 :: a3 :: a4 :: a5 :: a6 :: o :: L) = true) (k : PW Γ d V pc' (a0 :: a1 :: a2 :: a3 :: a4 :: a5 :: a6 :: .int x :: L) st M Q) : PW Γ d V pc (a0 :: a1 :: a2 :: a3 :: a4 :: a5 :: a6 :: o :: L) (.int x :: st) M Q := by
  subst hp
  intro p e R s m args below meth c A cells slots Qf C hR E H locs ls hW hl
  exact lv_istore C.1 C.2.1 hd hl (Nat.le_of_ble_eq_true hm) rfl (fun ls2 hl2 => k p e R s m args below meth c A cells slots Qf C hR E H locs ls2 hW (pv_st1 (v := .int x) hn hl2))
theorem PW_lload7 {a0 a1 a2 a3 a4 a5 a6 : Value} {x : Int64} (hd : decode V.2.1 pc = .ok (.lload 7, 2)) (hp : pc + 2 = pc') (k : PW Γ d V pc' (a0 :: a1 :: a2 :: a3 :: a4 :: a5 :: a6 :: .long x :: L) (.long x :: st) M Q) : PW Γ d V pc (a0 :: a1 :: a2 :: a3 :: a4 :: a5 :: a6 :: .long x :: L) st M Q := by
  subst hp
  intro p e R s m args below meth c A cells slots Qf C hR E H locs ls hW hl
  exact lv_lload C.1 C.2.1 hd (pv_at hl (k := 7) (v := .long x) rfl (by simp)) (k p e R s m args below meth c A cells slots Qf C hR E H locs ls hW hl)
theorem PW_lstore7 {a0 a1 a2 a3 a4 a5 a6 : Value} {o o2 : Value} {x : Int64} (hd : decode V.2.1 pc = .ok (.lstore 7, 2)) (hp : pc + 2 = pc') (hm : Nat.blt 8 V.2.2.1 = true) (hn : pv_nl 7 (a0 :: a1 :: a2 :: a3 :: a4 :: a5 :: a6 :: o :: o2 :: L) = true) (k : PW Γ d V pc' (a0 :: a1 :: a2 :: a3 :: a4 :: a5 :: a6 :: .long x :: .null :: L) st M Q) : PW Γ d V pc (a0 :: a1 :: a2 :: a3 :: a4 :: a5 :: a6 :: o :: o2 :: L) (.long x :: st) M Q := by
  subst hp
  intro p e R s m args below meth c A cells slots Qf C hR E H locs ls hW hl
  exact lv_lstore C.1 C.2.1 hd hl (Nat.le_of_ble_eq_true hm) rfl (fun ls2 hl2 => k p e R s m args below meth c A cells slots Qf C hR E H locs ls2 hW (pv_st2 (v := .long x) hn hl2))
theorem PW_aload7 {a0 a1 a2 a3 a4 a5 a6 : Value} {x : Nat} (hd : decode V.2.1 pc = .ok (.aload 7, 2)) (hp : pc + 2 = pc') (k : PW Γ d V pc' (a0 :: a1 :: a2 :: a3 :: a4 :: a5 :: a6 :: .ref x :: L) (.ref x :: st) M Q) : PW Γ d V pc (a0 :: a1 :: a2 :: a3 :: a4 :: a5 :: a6 :: .ref x :: L) st M Q := by
  subst hp
  intro p e R s m args below meth c A cells slots Qf C hR E H locs ls hW hl
  exact lv_aload C.1 C.2.1 hd (pv_at hl (k := 7) (v := .ref x) rfl (by simp)) (k p e R s m args below meth c A cells slots Qf C hR E H locs ls hW hl)
theorem PW_astore7 {a0 a1 a2 a3 a4 a5 a6 : Value} {o : Value} {x : Nat} (hd : decode V.2.1 pc = .ok (.astore 7, 2)) (hp : pc + 2 = pc') (hm : Nat.blt 7 V.2.2.1 = true) (hn : pv_nl 7 (a0 :: a1 :: a2 :: a3 :: a4 :: a5 :: a6 :: o :: L) = true) (k : PW Γ d V pc' (a0 :: a1 :: a2 :: a3 :: a4 :: a5 :: a6 :: .ref x :: L) st M Q) : PW Γ d V pc (a0 :: a1 :: a2 :: a3 :: a4 :: a5 :: a6 :: o :: L) (.ref x :: st) M Q := by
  subst hp
  intro p e R s m args below meth c A cells slots Qf C hR E H locs ls hW hl
  exact lv_astore C.1 C.2.1 hd hl (Nat.le_of_ble_eq_true hm) rfl (fun ls2 hl2 => k p e R s m args below meth c A cells slots Qf C hR E H locs ls2 hW (pv_st1 (v := .ref x) hn hl2))
theorem PW_iinc7 {a0 a1 a2 a3 a4 a5 a6 : Value} {n : Int} {x v : Int32} (hd : decode V.2.1 pc = .ok (.iinc 7 n, 3)) (hp : pc + 3 = pc') (hm : Nat.blt 7 V.2.2.1 = true) (hn : pv_nl 7 (a0 :: a1 :: a2 :: a3 :: a4 :: a5 :: a6 :: .int x :: L) = true) (hv : x + Int32.ofInt n = v) (k : PW Γ d V pc' (a0 :: a1 :: a2 :: a3 :: a4 :: a5 :: a6 :: .int v :: L) st M Q) : PW Γ d V pc (a0 :: a1 :: a2 :: a3 :: a4 :: a5 :: a6 :: .int x :: L) st M Q := by
  subst hp
  intro p e R s m args below meth c A cells slots Qf C hR E H locs ls hW hl
  obtain ⟨j, hj⟩ := List.getElem?_of_mem ((pv_lv_mem Γ.2.2.2 (7, .int x) (a0 :: a1 :: a2 :: a3 :: a4 :: a5 :: a6 :: .int x :: L) 0).mpr ⟨7, .int x, rfl, by simp, rfl⟩)
  exact lv_iinc C.1 C.2.1 hd hl hj hv (Nat.le_of_ble_eq_true hm) rfl (fun ls2 hl2 => k p e R s m args below meth c A cells slots Qf C hR E H locs ls2 hW (pv_st1 (v := .int v) hn hl2))
theorem PW_iload8 {a0 a1 a2 a3 a4 a5 a6 a7 : Value} {x : Int32} (hd : decode V.2.1 pc = .ok (.iload 8, 2)) (hp : pc + 2 = pc') (k : PW Γ d V pc' (a0 :: a1 :: a2 :: a3 :: a4 :: a5 :: a6 :: a7 :: .int x :: L) (.int x :: st) M Q) : PW Γ d V pc (a0 :: a1 :: a2 :: a3 :: a4 :: a5 :: a6 :: a7 :: .int x :: L) st M Q := by
  subst hp
  intro p e R s m args below meth c A cells slots Qf C hR E H locs ls hW hl
  exact lv_iload C.1 C.2.1 hd (pv_at hl (k := 8) (v := .int x) rfl (by simp)) (k p e R s m args below meth c A cells slots Qf C hR E H locs ls hW hl)
theorem PW_istore8 {a0 a1 a2 a3 a4 a5 a6 a7 : Value} {o : Value} {x : Int32} (hd : decode V.2.1 pc = .ok (.istore 8, 2)) (hp : pc + 2 = pc') (hm : Nat.blt 8 V.2.2.1 = true) (hn : pv_nl 8 (a0 :: a1 :: a2 :: a3 :: a4 :: a5 :: a6 :: a7 :: o :: L) = true) (k : PW Γ d V pc' (a0 :: a1 :: a2 :: a3 :: a4 :: a5 :: a6 :: a7 :: .int x :: L) st M Q) : PW Γ d V pc (a0 :: a1 :: a2 :: a3 :: a4 :: a5 :: a6 :: a7 :: o :: L) (.int x :: st) M Q := by
  subst hp
  intro p e R s m args below meth c A cells slots Qf C hR E H locs ls hW hl
  exact lv_istore C.1 C.2.1 hd hl (Nat.le_of_ble_eq_true hm) rfl (fun ls2 hl2 => k p e R s m args below meth c A cells slots Qf C hR E H locs ls2 hW (pv_st1 (v := .int x) hn hl2))
theorem PW_lload8 {a0 a1 a2 a3 a4 a5 a6 a7 : Value} {x : Int64} (hd : decode V.2.1 pc = .ok (.lload 8, 2)) (hp : pc + 2 = pc') (k : PW Γ d V pc' (a0 :: a1 :: a2 :: a3 :: a4 :: a5 :: a6 :: a7 :: .long x :: L) (.long x :: st) M Q) : PW Γ d V pc (a0 :: a1 :: a2 :: a3 :: a4 :: a5 :: a6 :: a7 :: .long x :: L) st M Q := by
  subst hp
  intro p e R s m args below meth c A cells slots Qf C hR E H locs ls hW hl
  exact lv_lload C.1 C.2.1 hd (pv_at hl (k := 8) (v := .long x) rfl (by simp)) (k p e R s m args below meth c A cells slots Qf C hR E H locs ls hW hl)
theorem PW_lstore8 {a0 a1 a2 a3 a4 a5 a6 a7 : Value} {o o2 : Value} {x : Int64} (hd : decode V.2.1 pc = .ok (.lstore 8, 2)) (hp : pc + 2 = pc') (hm : Nat.blt 9 V.2.2.1 = true) (hn : pv_nl 8 (a0 :: a1 :: a2 :: a3 :: a4 :: a5 :: a6 :: a7 :: o :: o2 :: L) = true) (k : PW Γ d V pc' (a0 :: a1 :: a2 :: a3 :: a4 :: a5 :: a6 :: a7 :: .long x :: .null :: L) st M Q) : PW Γ d V pc (a0 :: a1 :: a2 :: a3 :: a4 :: a5 :: a6 :: a7 :: o :: o2 :: L) (.long x :: st) M Q := by
  subst hp
  intro p e R s m args below meth c A cells slots Qf C hR E H locs ls hW hl
  exact lv_lstore C.1 C.2.1 hd hl (Nat.le_of_ble_eq_true hm) rfl (fun ls2 hl2 => k p e R s m args below meth c A cells slots Qf C hR E H locs ls2 hW (pv_st2 (v := .long x) hn hl2))
theorem PW_aload8 {a0 a1 a2 a3 a4 a5 a6 a7 : Value} {x : Nat} (hd : decode V.2.1 pc = .ok (.aload 8, 2)) (hp : pc + 2 = pc') (k : PW Γ d V pc' (a0 :: a1 :: a2 :: a3 :: a4 :: a5 :: a6 :: a7 :: .ref x :: L) (.ref x :: st) M Q) : PW Γ d V pc (a0 :: a1 :: a2 :: a3 :: a4 :: a5 :: a6 :: a7 :: .ref x :: L) st M Q := by
  subst hp
  intro p e R s m args below meth c A cells slots Qf C hR E H locs ls hW hl
  exact lv_aload C.1 C.2.1 hd (pv_at hl (k := 8) (v := .ref x) rfl (by simp)) (k p e R s m args below meth c A cells slots Qf C hR E H locs ls hW hl)
theorem PW_astore8 {a0 a1 a2 a3 a4 a5 a6 a7 : Value} {o : Value} {x : Nat} (hd : decode V.2.1 pc = .ok (.astore 8, 2)) (hp : pc + 2 = pc') (hm : Nat.blt 8 V.2.2.1 = true) (hn : pv_nl 8 (a0 :: a1 :: a2 :: a3 :: a4 :: a5 :: a6 :: a7 :: o :: L) = true) (k : PW Γ d V pc' (a0 :: a1 :: a2 :: a3 :: a4 :: a5 :: a6 :: a7 :: .ref x :: L) st M Q) : PW Γ d V pc (a0 :: a1 :: a2 :: a3 :: a4 :: a5 :: a6 :: a7 :: o :: L) (.ref x :: st) M Q := by
  subst hp
  intro p e R s m args below meth c A cells slots Qf C hR E H locs ls hW hl
  exact lv_astore C.1 C.2.1 hd hl (Nat.le_of_ble_eq_true hm) rfl (fun ls2 hl2 => k p e R s m args below meth c A cells slots Qf C hR E H locs ls2 hW (pv_st1 (v := .ref x) hn hl2))
theorem PW_iinc8 {a0 a1 a2 a3 a4 a5 a6 a7 : Value} {n : Int} {x v : Int32} (hd : decode V.2.1 pc = .ok (.iinc 8 n, 3)) (hp : pc + 3 = pc') (hm : Nat.blt 8 V.2.2.1 = true) (hn : pv_nl 8 (a0 :: a1 :: a2 :: a3 :: a4 :: a5 :: a6 :: a7 :: .int x :: L) = true) (hv : x + Int32.ofInt n = v) (k : PW Γ d V pc' (a0 :: a1 :: a2 :: a3 :: a4 :: a5 :: a6 :: a7 :: .int v :: L) st M Q) : PW Γ d V pc (a0 :: a1 :: a2 :: a3 :: a4 :: a5 :: a6 :: a7 :: .int x :: L) st M Q := by
  subst hp
  intro p e R s m args below meth c A cells slots Qf C hR E H locs ls hW hl
  obtain ⟨j, hj⟩ := List.getElem?_of_mem ((pv_lv_mem Γ.2.2.2 (8, .int x) (a0 :: a1 :: a2 :: a3 :: a4 :: a5 :: a6 :: a7 :: .int x :: L) 0).mpr ⟨8, .int x, rfl, by simp, rfl⟩)
  exact lv_iinc C.1 C.2.1 hd hl hj hv (Nat.le_of_ble_eq_true hm) rfl (fun ls2 hl2 => k p e R s m args below meth c A cells slots Qf C hR E H locs ls2 hW (pv_st1 (v := .int v) hn hl2))
theorem PW_iload9 {a0 a1 a2 a3 a4 a5 a6 a7 a8 : Value} {x : Int32} (hd : decode V.2.1 pc = .ok (.iload 9, 2)) (hp : pc + 2 = pc') (k : PW Γ d V pc' (a0 :: a1 :: a2 :: a3 :: a4 :: a5 :: a6 :: a7 :: a8 :: .int x :: L) (.int x :: st) M Q) : PW Γ d V pc (a0 :: a1 :: a2 :: a3 :: a4 :: a5 :: a6 :: a7 :: a8 :: .int x :: L) st M Q := by
  subst hp
  intro p e R s m args below meth c A cells slots Qf C hR E H locs ls hW hl
  exact lv_iload C.1 C.2.1 hd (pv_at hl (k := 9) (v := .int x) rfl (by simp)) (k p e R s m args below meth c A cells slots Qf C hR E H locs ls hW hl)
theorem PW_istore9 {a0 a1 a2 a3 a4 a5 a6 a7 a8 : Value} {o : Value} {x : Int32} (hd : decode V.2.1 pc = .ok (.istore 9, 2)) (hp : pc + 2 = pc') (hm : Nat.blt 9 V.2.2.1 = true) (hn : pv_nl 9 (a0 :: a1 :: a2 :: a3 :: a4 :: a5 :: a6 :: a7 :: a8 :: o :: L) = true) (k : PW Γ d V pc' (a0 :: a1 :: a2 :: a3 :: a4 :: a5 :: a6 :: a7 :: a8 :: .int x :: L) st M Q) : PW Γ d V pc (a0 :: a1 :: a2 :: a3 :: a4 :: a5 :: a6 :: a7 :: a8 :: o :: L) (.int x :: st) M Q := by
  subst hp
  intro p e R s m args below meth c A cells slots Qf C hR E H locs ls hW hl
  exact lv_istore C.1 C.2.1 hd hl (Nat.le_of_ble_eq_true hm) rfl (fun ls2 hl2 => k p e R s m args below meth c A cells slots Qf C hR E H locs ls2 hW (pv_st1 (v := .int x) hn hl2))
theorem PW_lload9 {a0 a1 a2 a3 a4 a5 a6 a7 a8 : Value} {x : Int64} (hd : decode V.2.1 pc = .ok (.lload 9, 2)) (hp : pc + 2 = pc') (k : PW Γ d V pc' (a0 :: a1 :: a2 :: a3 :: a4 :: a5 :: a6 :: a7 :: a8 :: .long x :: L) (.long x :: st) M Q) : PW Γ d V pc (a0 :: a1 :: a2 :: a3 :: a4 :: a5 :: a6 :: a7 :: a8 :: .long x :: L) st M Q := by
  subst hp
  intro p e R s m args below meth c A cells slots Qf C hR E H locs ls hW hl
  exact lv_lload C.1 C.2.1 hd (pv_at hl (k := 9) (v := .long x) rfl (by simp)) (k p e R s m args below meth c A cells slots Qf C hR E H locs ls hW hl)
theorem PW_lstore9 {a0 a1 a2 a3 a4 a5 a6 a7 a8 : Value} {o o2 : Value} {x : Int64} (hd : decode V.2.1 pc = .ok (.lstore 9, 2)) (hp : pc + 2 = pc') (hm : Nat.blt 10 V.2.2.1 = true) (hn : pv_nl 9 (a0 :: a1 :: a2 :: a3 :: a4 :: a5 :: a6 :: a7 :: a8 :: o :: o2 :: L) = true) (k : PW Γ d V pc' (a0 :: a1 :: a2 :: a3 :: a4 :: a5 :: a6 :: a7 :: a8 :: .long x :: .null :: L) st M Q) : PW Γ d V pc (a0 :: a1 :: a2 :: a3 :: a4 :: a5 :: a6 :: a7 :: a8 :: o :: o2 :: L) (.long x :: st) M Q := by
  subst hp
  intro p e R s m args below meth c A cells slots Qf C hR E H locs ls hW hl
  exact lv_lstore C.1 C.2.1 hd hl (Nat.le_of_ble_eq_true hm) rfl (fun ls2 hl2 => k p e R s m args below meth c A cells slots Qf C hR E H locs ls2 hW (pv_st2 (v := .long x) hn hl2))
theorem PW_aload9 {a0 a1 a2 a3 a4 a5 a6 a7 a8 : Value} {x : Nat} (hd : decode V.2.1 pc = .ok (.aload 9, 2)) (hp : pc + 2 = pc') (k : PW Γ d V pc' (a0 :: a1 :: a2 :: a3 :: a4 :: a5 :: a6 :: a7 :: a8 :: .ref x :: L) (.ref x :: st) M Q) : PW Γ d V pc (a0 :: a1 :: a2 :: a3 :: a4 :: a5 :: a6 :: a7 :: a8 :: .ref x :: L) st M Q := by
  subst hp
  intro p e R s m args below meth c A cells slots Qf C hR E H locs ls hW hl
  exact lv_aload C.1 C.2.1 hd (pv_at hl (k := 9) (v := .ref x) rfl (by simp)) (k p e R s m args below meth c A cells slots Qf C hR E H locs ls hW hl)
theorem PW_astore9 {a0 a1 a2 a3 a4 a5 a6 a7 a8 : Value} {o : Value} {x : Nat} (hd : decode V.2.1 pc = .ok (.astore 9, 2)) (hp : pc + 2 = pc') (hm : Nat.blt 9 V.2.2.1 = true) (hn : pv_nl 9 (a0 :: a1 :: a2 :: a3 :: a4 :: a5 :: a6 :: a7 :: a8 :: o :: L) = true) (k : PW Γ d V pc' (a0 :: a1 :: a2 :: a3 :: a4 :: a5 :: a6 :: a7 :: a8 :: .ref x :: L) st M Q) : PW Γ d V pc (a0 :: a1 :: a2 :: a3 :: a4 :: a5 :: a6 :: a7 :: a8 :: o :: L) (.ref x :: st) M Q := by
  subst hp
  intro p e R s m args below meth c A cells slots Qf C hR E H locs ls hW hl
  exact lv_astore C.1 C.2.1 hd hl (Nat.le_of_ble_eq_true hm) rfl (fun ls2 hl2 => k p e R s m args below meth c A cells slots Qf C hR E H locs ls2 hW (pv_st1 (v := .ref x) hn hl2))
theorem PW_iinc9 {a0 a1 a2 a3 a4 a5 a6 a7 a8 : Value} {n : Int} {x v : Int32} (hd : decode V.2.1 pc = .ok (.iinc 9 n, 3)) (hp : pc + 3 = pc') (hm : Nat.blt 9 V.2.2.1 = true) (hn : pv_nl 9 (a0 :: a1 :: a2 :: a3 :: a4 :: a5 :: a6 :: a7 :: a8 :: .int x :: L) = true) (hv : x + Int32.ofInt n = v) (k : PW Γ d V pc' (a0 :: a1 :: a2 :: a3 :: a4 :: a5 :: a6 :: a7 :: a8 :: .int v :: L) st M Q) : PW Γ d V pc (a0 :: a1 :: a2 :: a3 :: a4 :: a5 :: a6 :: a7 :: a8 :: .int x :: L) st M Q := by
  subst hp
  intro p e R s m args below meth c A cells slots Qf C hR E H locs ls hW hl
  obtain ⟨j, hj⟩ := List.getElem?_of_mem ((pv_lv_mem Γ.2.2.2 (9, .int x) (a0 :: a1 :: a2 :: a3 :: a4 :: a5 :: a6 :: a7 :: a8 :: .int x :: L) 0).mpr ⟨9, .int x, rfl, by simp, rfl⟩)
  exact lv_iinc C.1 C.2.1 hd hl hj hv (Nat.le_of_ble_eq_true hm) rfl (fun ls2 hl2 => k p e R s m args below meth c A cells slots Qf C hR E H locs ls2 hW (pv_st1 (v := .int v) hn hl2))
theorem PW_iload10 {a0 a1 a2 a3 a4 a5 a6 a7 a8 a9 : Value} {x : Int32} (hd : decode V.2.1 pc = .ok (.iload 10, 2)) (hp : pc + 2 = pc') (k : PW Γ d V pc' (a0 :: a1 :: a2 :: a3 :: a4 :: a5 :: a6 :: a7 :: a8 :: a9 :: .int x :: L) (.int x :: st) M Q) : PW Γ d V pc (a0 :: a1 :: a2 :: a3 :: a4 :: a5 :: a6 :: a7 :: a8 :: a9 :: .int x :: L) st M Q := by
  subst hp
  intro p e R s m args below meth c A cells slots Qf C hR E H locs ls hW hl
  exact lv_iload C.1 C.2.1 hd (pv_at hl (k := 10) (v := .int x) rfl (by simp)) (k p e R s m args below meth c A cells slots Qf C hR E H locs ls hW hl)
theorem PW_istore10 {a0 a1 a2 a3 a4 a5 a6 a7 a8 a9 : Value} {o : Value} {x : Int32} (hd : decode V.2.1 pc = .ok (.istore 10, 2)) (hp : pc + 2 = pc') (hm : Nat.blt 10 V.2.2.1 = true) (hn : pv_nl 10 (a0 :: a1 :: a2 :: a3 :: a4 :: a5 :: a6 :: a7 :: a8 :: a9 :: o :: L) = true) (k : PW Γ d V pc' (a0 :: a1 :: a2 :: a3 :: a4 :: a5 :: a6 :: a7 :: a8 :: a9 :: .int x :: L) st M Q) : PW Γ d V pc (a0 :: a1 :: a2 :: a3 :: a4 :: a5 :: a6 :: a7 :: a8 :: a9 :: o :: L) (.int x :: st) M Q := by
  subst hp
  intro p e R s m args below meth c A cells slots Qf C hR E H locs ls hW hl
  exact lv_istore C.1 C.2.1 hd hl (Nat.le_of_ble_eq_true hm) rfl (fun ls2 hl2 => k p e R s m args below meth c A cells slots Qf C hR E H locs ls2 hW (pv_st1 (v := .int x) hn hl2))
theorem PW_lload10 {a0 a1 a2 a3 a4 a5 a6 a7 a8 a9 : Value} {x : Int64} (hd : decode V.2.1 pc = .ok (.lload 10, 2)) (hp : pc + 2 = pc') (k : PW Γ d V pc' (a0 :: a1 :: a2 :: a3 :: a4 :: a5 :: a6 :: a7 :: a8 :: a9 :: .long x :: L) (.long x :: st) M Q) : PW Γ d V pc (a0 :: a1 :: a2 :: a3 :: a4 :: a5 :: a6 :: a7 :: a8 :: a9 :: .long x :: L) st M Q := by
  subst hp
  intro p e R s m args below meth c A cells slots Qf C hR E H locs ls hW hl
  exact lv_lload C.1 C.2.1 hd (pv_at hl (k := 10) (v := .long x) rfl (by simp)) (k p e R s m args below meth c A cells slots Qf C hR E H locs ls hW hl)
theorem PW_lstore10 {a0 a1 a2 a3 a4 a5 a6 a7 a8 a9 : Value} {o o2 : Value} {x : Int64} (hd : decode V.2.1 pc = .ok (.lstore 10, 2)) (hp : pc + 2 = pc') (hm : Nat.blt 11 V.2.2.1 = true) (hn : pv_nl 10 (a0 :: a1 :: a2 :: a3 :: a4 :: a5 :: a6 :: a7 :: a8 :: a9 :: o :: o2 :: L) = true) (k : PW Γ d V pc' (a0 :: a1 :: a2 :: a3 :: a4 :: a5 :: a6 :: a7 :: a8 :: a9 :: .long x :: .null :: L) st M Q) : PW Γ d V pc (a0 :: a1 :: a2 :: a3 :: a4 :: a5 :: a6 :: a7 :: a8 :: a9 :: o :: o2 :: L) (.long x :: st) M Q := by
  subst hp
  intro p e R s m args below meth c A cells slots Qf C hR E H locs ls hW hl
  exact lv_lstore C.1 C.2.1 hd hl (Nat.le_of_ble_eq_true hm) rfl (fun ls2 hl2 => k p e R s m args below meth c A cells slots Qf C hR E H locs ls2 hW (pv_st2 (v := .long x) hn hl2))
theorem PW_aload10 {a0 a1 a2 a3 a4 a5 a6 a7 a8 a9 : Value} {x : Nat} (hd : decode V.2.1 pc = .ok (.aload 10, 2)) (hp : pc + 2 = pc') (k : PW Γ d V pc' (a0 :: a1 :: a2 :: a3 :: a4 :: a5 :: a6 :: a7 :: a8 :: a9 :: .ref x :: L) (.ref x :: st) M Q) : PW Γ d V pc (a0 :: a1 :: a2 :: a3 :: a4 :: a5 :: a6 :: a7 :: a8 :: a9 :: .ref x :: L) st M Q := by
  subst hp
  intro p e R s m args below meth c A cells slots Qf C hR E H locs ls hW hl
  exact lv_aload C.1 C.2.1 hd (pv_at hl (k := 10) (v := .ref x) rfl (by simp)) (k p e R s m args below meth c A cells slots Qf C hR E H locs ls hW hl)
theorem PW_astore10 {a0 a1 a2 a3 a4 a5 a6 a7 a8 a9 : Value} {o : Value} {x : Nat} (hd : decode V.2.1 pc = .ok (.astore 10, 2)) (hp : pc + 2 = pc') (hm : Nat.blt 10 V.2.2.1 = true) (hn : pv_nl 10 (a0 :: a1 :: a2 :: a3 :: a4 :: a5 :: a6 :: a7 :: a8 :: a9 :: o :: L) = true) (k : PW Γ d V pc' (a0 :: a1 :: a2 :: a3 :: a4 :: a5 :: a6 :: a7 :: a8 :: a9 :: .ref x :: L) st M Q) : PW Γ d V pc (a0 :: a1 :: a2 :: a3 :: a4 :: a5 :: a6 :: a7 :: a8 :: a9 :: o :: L) (.ref x :: st) M Q := by
  subst hp
  intro p e R s m args below meth c A cells slots Qf C hR E H locs ls hW hl
  exact lv_astore C.1 C.2.1 hd hl (Nat.le_of_ble_eq_true hm) rfl (fun ls2 hl2 => k p e R s m args below meth c A cells slots Qf C hR E H locs ls2 hW (pv_st1 (v := .ref x) hn hl2))
theorem PW_iinc10 {a0 a1 a2 a3 a4 a5 a6 a7 a8 a9 : Value} {n : Int} {x v : Int32} (hd : decode V.2.1 pc = .ok (.iinc 10 n, 3)) (hp : pc + 3 = pc') (hm : Nat.blt 10 V.2.2.1 = true) (hn : pv_nl 10 (a0 :: a1 :: a2 :: a3 :: a4 :: a5 :: a6 :: a7 :: a8 :: a9 :: .int x :: L) = true) (hv : x + Int32.ofInt n = v) (k : PW Γ d V pc' (a0 :: a1 :: a2 :: a3 :: a4 :: a5 :: a6 :: a7 :: a8 :: a9 :: .int v :: L) st M Q) : PW Γ d V pc (a0 :: a1 :: a2 :: a3 :: a4 :: a5 :: a6 :: a7 :: a8 :: a9 :: .int x :: L) st M Q := by
  subst hp
  intro p e R s m args below meth c A cells slots Qf C hR E H locs ls hW hl
  obtain ⟨j, hj⟩ := List.getElem?_of_mem ((pv_lv_mem Γ.2.2.2 (10, .int x) (a0 :: a1 :: a2 :: a3 :: a4 :: a5 :: a6 :: a7 :: a8 :: a9 :: .int x :: L) 0).mpr ⟨10, .int x, rfl, by simp, rfl⟩)
  exact lv_iinc C.1 C.2.1 hd hl hj hv (Nat.le_of_ble_eq_true hm) rfl (fun ls2 hl2 => k p e R s m args below meth c A cells slots Qf C hR E H locs ls2 hW (pv_st1 (v := .int v) hn hl2))
theorem PW_iload11 {a0 a1 a2 a3 a4 a5 a6 a7 a8 a9 a10 : Value} {x : Int32} (hd : decode V.2.1 pc = .ok (.iload 11, 2)) (hp : pc + 2 = pc') (k : PW Γ d V pc' (a0 :: a1 :: a2 :: a3 :: a4 :: a5 :: a6 :: a7 :: a8 :: a9 :: a10 :: .int x :: L) (.int x :: st) M Q) : PW Γ d V pc (a0 :: a1 :: a2 :: a3 :: a4 :: a5 :: a6 :: a7 :: a8 :: a9 :: a10 :: .int x :: L) st M Q := by
  subst hp
  intro p e R s m args below meth c A cells slots Qf C hR E H locs ls hW hl
  exact lv_iload C.1 C.2.1 hd (pv_at hl (k := 11) (v := .int x) rfl (by simp)) (k p e R s m args below meth c A cells slots Qf C hR E H locs ls hW hl)
theorem PW_istore11 {a0 a1 a2 a3 a4 a5 a6 a7 a8 a9 a10 : Value} {o : Value} {x : Int32} (hd : decode V.2.1 pc = .ok (.istore 11, 2)) (hp : pc + 2 = pc') (hm : Nat.blt 11 V.2.2.1 = true) (hn : pv_nl 11 (a0 :: a1 :: a2 :: a3 :: a4 :: a5 :: a6 :: a7 :: a8 :: a9 :: a10 :: o :: L) = true) (k : PW Γ d V pc' (a0 :: a1 :: a2 :: a3 :: a4 :: a5 :: a6 :: a7 :: a8 :: a9 :: a10 :: .int x :: L) st M Q) : PW Γ d V pc (a0 :: a1 :: a2 :: a3 :: a4 :: a5 :: a6 :: a7 :: a8 :: a9 :: a10 :: o :: L) (.int x :: st) M Q := by
  subst hp
  intro p e R s m args below meth c A cells slots Qf C hR E H locs ls hW hl
  exact lv_istore C.1 C.2.1 hd hl (Nat.le_of_ble_eq_true hm) rfl (fun ls2 hl2 => k p e R s m args below meth c A cells slots Qf C hR E H locs ls2 hW (pv_st1 (v := .int x) hn hl2))
theorem PW_lload11 {a0 a1 a2 a3 a4 a5 a6 a7 a8 a9 a10 : Value} {x : Int64} (hd : decode V.2.1 pc = .ok (.lload 11, 2)) (hp : pc + 2 = pc') (k : PW Γ d V pc' (a0 :: a1 :: a2 :: a3 :: a4 :: a5 :: a6 :: a7 :: a8 :: a9 :: a10 :: .long x :: L) (.long x :: st) M Q) : PW Γ d V pc (a0 :: a1 :: a2 :: a3 :: a4 :: a5 :: a6 :: a7 :: a8 :: a9 :: a10 :: .long x :: L) st M Q := by
  subst hp
  intro p e R s m args below meth c A cells slots Qf C hR E H locs ls hW hl
  exact lv_lload C.1 C.2.1 hd (pv_at hl (k := 11) (v := .long x) rfl (by simp)) (k p e R s m args below meth c A cells slots Qf C hR E H locs ls hW hl)
theorem PW_lstore11 {a0 a1 a2 a3 a4 a5 a6 a7 a8 a9 a10 : Value} {o o2 : Value} {x : Int64} (hd : decode V.2.1 pc = .ok (.lstore 11, 2)) (hp : pc + 2 = pc') (hm : Nat.blt 12 V.2.2.1 = true) (hn : pv_nl 11 (a0 :: a1 :: a2 :: a3 :: a4 :: a5 :: a6 :: a7 :: a8 :: a9 :: a10 :: o :: o2 :: L) = true) (k : PW Γ d V pc' (a0 :: a1 :: a2 :: a3 :: a4 :: a5 :: a6 :: a7 :: a8 :: a9 :: a10 :: .long x :: .null :: L) st M Q) : PW Γ d V pc (a0 :: a1 :: a2 :: a3 :: a4 :: a5 :: a6 :: a7 :: a8 :: a9 :: a10 :: o :: o2 :: L) (.long x :: st) M Q := by
  subst hp
  intro p e R s m args below meth c A cells slots Qf C hR E H locs ls hW hl
  exact lv_lstore C.1 C.2.1 hd hl (Nat.le_of_ble_eq_true hm) rfl (fun ls2 hl2 => k p e R s m args below meth c A cells slots Qf C hR E H locs ls2 hW (pv_st2 (v := .long x) hn hl2))
theorem PW_aload11 {a0 a1 a2 a3 a4 a5 a6 a7 a8 a9 a10 : Value} {x : Nat} (hd : decode V.2.1 pc = .ok (.aload 11, 2)) (hp : pc + 2 = pc') (k : PW Γ d V pc' (a0 :: a1 :: a2 :: a3 :: a4 :: a5 :: a6 :: a7 :: a8 :: a9 :: a10 :: .ref x :: L) (.ref x :: st) M Q) : PW Γ d V pc (a0 :: a1 :: a2 :: a3 :: a4 :: a5 :: a6 :: a7 :: a8 :: a9 :: a10 :: .ref x :: L) st M Q := by
  subst hp
  intro p e R s m args below meth c A cells slots Qf C hR E H locs ls hW hl
  exact lv_aload C.1 C.2.1 hd (pv_at hl (k := 11) (v := .ref x) rfl (by simp)) (k p e R s m args below meth c A cells slots Qf C hR E H locs ls hW hl)
theorem PW_astore11 {a0 a1 a2 a3 a4 a5 a6 a7 a8 a9 a10 : Value} {o : Value} {x : Nat} (hd : decode V.2.1 pc = .ok (.astore 11, 2)) (hp : pc + 2 = pc') (hm : Nat.blt 11 V.2.2.1 = true) (hn : pv_nl 11 (a0 :: a1 :: a2 :: a3 :: a4 :: a5 :: a6 :: a7 :: a8 :: a9 :: a10 :: o :: L) = true) (k : PW Γ d V pc' (a0 :: a1 :: a2 :: a3 :: a4 :: a5 :: a6 :: a7 :: a8 :: a9 :: a10 :: .ref x :: L) st M Q) : PW Γ d V pc (a0 :: a1 :: a2 :: a3 :: a4 :: a5 :: a6 :: a7 :: a8 :: a9 :: a10 :: o :: L) (.ref x :: st) M Q := by
  subst hp
  intro p e R s m args below meth c A cells slots Qf C hR E H locs ls hW hl
  exact lv_astore C.1 C.2.1 hd hl (Nat.le_of_ble_eq_true hm) rfl (fun ls2 hl2 => k p e R s m args below meth c A cells slots Qf C hR E H locs ls2 hW (pv_st1 (v := .ref x) hn hl2))
theorem PW_iinc11 {a0 a1 a2 a3 a4 a5 a6 a7 a8 a9 a10 : Value} {n : Int} {x v : Int32} (hd : decode V.2.1 pc = .ok (.iinc 11 n, 3)) (hp : pc + 3 = pc') (hm : Nat.blt 11 V.2.2.1 = true) (hn : pv_nl 11 (a0 :: a1 :: a2 :: a3 :: a4 :: a5 :: a6 :: a7 :: a8 :: a9 :: a10 :: .int x :: L) = true) (hv : x + Int32.ofInt n = v) (k : PW Γ d V pc' (a0 :: a1 :: a2 :: a3 :: a4 :: a5 :: a6 :: a7 :: a8 :: a9 :: a10 :: .int v :: L) st M Q) : PW Γ d V pc (a0 :: a1 :: a2 :: a3 :: a4 :: a5 :: a6 :: a7 :: a8 :: a9 :: a10 :: .int x :: L) st M Q := by
  subst hp
  intro p e R s m args below meth c A cells slots Qf C hR E H locs ls hW hl
  obtain ⟨j, hj⟩ := List.getElem?_of_mem ((pv_lv_mem Γ.2.2.2 (11, .int x) (a0 :: a1 :: a2 :: a3 :: a4 :: a5 :: a6 :: a7 :: a8 :: a9 :: a10 :: .int x :: L) 0).mpr ⟨11, .int x, rfl, by simp, rfl⟩)
  exact lv_iinc C.1 C.2.1 hd hl hj hv (Nat.le_of_ble_eq_true hm) rfl (fun ls2 hl2 => k p e R s m args below meth c A cells slots Qf C hR E H locs ls2 hW (pv_st1 (v := .int v) hn hl2))
theorem PW_iload12 {a0 a1 a2 a3 a4 a5 a6 a7 a8 a9 a10 a11 : Value} {x : Int32} (hd : decode V.2.1 pc = .ok (.iload 12, 2)) (hp : pc + 2 = pc') (k : PW Γ d V pc' (a0 :: a1 :: a2 :: a3 :: a4 :: a5 :: a6 :: a7 :: a8 :: a9 :: a10 :: a11 :: .int x :: L) (.int x :: st) M Q) : PW Γ d V pc (a0 :: a1 :: a2 :: a3 :: a4 :: a5 :: a6 :: a7 :: a8 :: a9 :: a10 :: a11 :: .int x :: L) st M Q := by
  subst hp
  intro p e R s m args below meth c A cells slots Qf C hR E H locs ls hW hl
  exact lv_iload C.1 C.2.1 hd (pv_at hl (k := 12) (v := .int x) rfl (by simp)) (k p e R s m args below meth c A cells slots Qf C hR E H locs ls hW hl)
theorem PW_istore12 {a0 a1 a2 a3 a4 a5 a6 a7 a8 a9 a10 a11 : Value} {o : Value} {x : Int32} (hd : decode V.2.1 pc = .ok (.istore 12, 2)) (hp : pc + 2 = pc') (hm : Nat.blt 12 V.2.2.1 = true) (hn : pv_nl 12 (a0 :: a1 :: a2 :: a3 :: a4 :: a5 :: a6 :: a7 :: a8 :: a9 :: a10 :: a11 :: o :: L) = true) (k : PW Γ d V pc' (a0 :: a1 :: a2 :: a3 :: a4 :: a5 :: a6 :: a7 :: a8 :: a9 :: a10 :: a11 :: .int x :: L) st M Q) : PW Γ d V pc (a0 :: a1 :: a2 :: a3 :: a4 :: a5 :: a6 :: a7 :: a8 :: a9 :: a10 :: a11 :: o :: L) (.int x :: st) M Q := by
  subst hp
  intro p e R s m args below meth c A cells slots Qf C hR E H locs ls hW hl
  exact lv_istore C.1 C.2.1 hd hl (Nat.le_of_ble_eq_true hm) rfl (fun ls2 hl2 => k p e R s m args below meth c A cells slots Qf C hR E H locs ls2 hW (pv_st1 (v := .int x) hn hl2))
theorem PW_lload12 {a0 a1 a2 a3 a4 a5 a6 a7 a8 a9 a10 a11 : Value} {x : Int64} (hd : decode V.2.1 pc = .ok (.lload 12, 2)) (hp : pc + 2 = pc') (k : PW Γ d V pc' (a0 :: a1 :: a2 :: a3 :: a4 :: a5 :: a6 :: a7 :: a8 :: a9 :: a10 :: a11 :: .long x :: L) (.long x :: st) M Q) : PW Γ d V pc (a0 :: a1 :: a2 :: a3 :: a4 :: a5 :: a6 :: a7 :: a8 :: a9 :: a10 :: a11 :: .long x :: L) st M Q := by
  subst hp
  intro p e R s m args below meth c A cells slots Qf C hR E H locs ls hW hl
  exact lv_lload C.1 C.2.1 hd (pv_at hl (k := 12) (v := .long x) rfl (by simp)) (k p e R s m args below meth c A cells slots Qf C hR E H locs ls hW hl)
theorem PW_lstore12 {a0 a1 a2 a3 a4 a5 a6 a7 a8 a9 a10 a11 : Value} {o o2 : Value} {x : Int64} (hd : decode V.2.1 pc = .ok (.lstore 12, 2)) (hp : pc + 2 = pc') (hm : Nat.blt 13 V.2.2.1 = true) (hn : pv_nl 12 (a0 :: a1 :: a2 :: a3 :: a4 :: a5 :: a6 :: a7 :: a8 :: a9 :: a10 :: a11 :: o :: o2 :: L) = true) (k : PW Γ d V pc' (a0 :: a1 :: a2 :: a3 :: a4 :: a5 :: a6 :: a7 :: a8 :: a9 :: a10 :: a11 :: .long x :: .null :: L) st M Q) : PW Γ d V pc (a0 :: a1 :: a2 :: a3 :: a4 :: a5 :: a6 :: a7 :: a8 :: a9 :: a10 :: a11 :: o :: o2 :: L) (.long x :: st) M Q := by
  subst hp
  intro p e R s m args below meth c A cells slots Qf C hR E H locs ls hW hl
  exact lv_lstore C.1 C.2.1 hd hl (Nat.le_of_ble_eq_true hm) rfl (fun ls2 hl2 => k p e R s m args below meth c A cells slots Qf C hR E H locs ls2 hW (pv_st2 (v := .long x) hn hl2))
theorem PW_aload12 {a0 a1 a2 a3 a4 a5 a6 a7 a8 a9 a10 a11 : Value} {x : Nat} (hd : decode V.2.1 pc = .ok (.aload 12, 2)) (hp : pc + 2 = pc') (k : PW Γ d V pc' (a0 :: a1 :: a2 :: a3 :: a4 :: a5 :: a6 :: a7 :: a8 :: a9 :: a10 :: a11 :: .ref x :: L) (.ref x :: st) M Q) : PW Γ d V pc (a0 :: a1 :: a2 :: a3 :: a4 :: a5 :: a6 :: a7 :: a8 :: a9 :: a10 :: a11 :: .ref x :: L) st M Q := by
  subst hp
  intro p e R s m args below meth c A cells slots Qf C hR E H locs ls hW hl
  exact lv_aload C.1 C.2.1 hd (pv_at hl (k := 12) (v := .ref x) rfl (by simp)) (k p e R s m args below meth c A cells slots Qf C hR E H locs ls hW hl)
theorem PW_astore12 {a0 a1 a2 a3 a4 a5 a6 a7 a8 a9 a10 a11 : Value} {o : Value} {x : Nat} (hd : decode V.2.1 pc = .ok (.astore 12, 2)) (hp : pc + 2 = pc') (hm : Nat.blt 12 V.2.2.1 = true) (hn : pv_nl 12 (a0 :: a1 :: a2 :: a3 :: a4 :: a5 :: a6 :: a7 :: a8 :: a9 :: a10 :: a11 :: o :: L) = true) (k : PW Γ d V pc' (a0 :: a1 :: a2 :: a3 :: a4 :: a5 :: a6 :: a7 :: a8 :: a9 :: a10 :: a11 :: .ref x :: L) st M Q) : PW Γ d V pc (a0 :: a1 :: a2 :: a3 :: a4 :: a5 :: a6 :: a7 :: a8 :: a9 :: a10 :: a11 :: o :: L) (.ref x :: st) M Q := by
  subst hp
  intro p e R s m args below meth c A cells slots Qf C hR E H locs ls hW hl
  exact lv_astore C.1 C.2.1 hd hl (Nat.le_of_ble_eq_true hm) rfl (fun ls2 hl2 => k p e R s m args below meth c A cells slots Qf C hR E H locs ls2 hW (pv_st1 (v := .ref x) hn hl2))
theorem PW_iinc12 {a0 a1 a2 a3 a4 a5 a6 a7 a8 a9 a10 a11 : Value} {n : Int} {x v : Int32} (hd : decode V.2.1 pc = .ok (.iinc 12 n, 3)) (hp : pc + 3 = pc') (hm : Nat.blt 12 V.2.2.1 = true) (hn : pv_nl 12 (a0 :: a1 :: a2 :: a3 :: a4 :: a5 :: a6 :: a7 :: a8 :: a9 :: a10 :: a11 :: .int x :: L) = true) (hv : x + Int32.ofInt n = v) (k : PW Γ d V pc' (a0 :: a1 :: a2 :: a3 :: a4 :: a5 :: a6 :: a7 :: a8 :: a9 :: a10 :: a11 :: .int v :: L) st M Q) : PW Γ d V pc (a0 :: a1 :: a2 :: a3 :: a4 :: a5 :: a6 :: a7 :: a8 :: a9 :: a10 :: a11 :: .int x :: L) st M Q := by
  subst hp
  intro p e R s m args below meth c A cells slots Qf C hR E H locs ls hW hl
  obtain ⟨j, hj⟩ := List.getElem?_of_mem ((pv_lv_mem Γ.2.2.2 (12, .int x) (a0 :: a1 :: a2 :: a3 :: a4 :: a5 :: a6 :: a7 :: a8 :: a9 :: a10 :: a11 :: .int x :: L) 0).mpr ⟨12, .int x, rfl, by simp, rfl⟩)
  exact lv_iinc C.1 C.2.1 hd hl hj hv (Nat.le_of_ble_eq_true hm) rfl (fun ls2 hl2 => k p e R s m args below meth c A cells slots Qf C hR E H locs ls2 hW (pv_st1 (v := .int v) hn hl2))
theorem PW_iload13 {a0 a1 a2 a3 a4 a5 a6 a7 a8 a9 a10 a11 a12 : Value} {x : Int32} (hd : decode V.2.1 pc = .ok (.iload 13, 2)) (hp : pc + 2 = pc') (k : PW Γ d V pc' (a0 :: a1 :: a2 :: a3 :: a4 :: a5 :: a6 :: a7 :: a8 :: a9 :: a10 :: a11 :: a12 :: .int x :: L) (.int x :: st) M Q) : PW Γ d V pc (a0 :: a1 :: a2 :: a3 :: a4 :: a5 :: a6 :: a7 :: a8 :: a9 :: a10 :: a11 :: a12 :: .int x :: L) st M Q := by
  subst hp
  intro p e R s m args below meth c A cells slots Qf C hR E H locs ls hW hl
  exact lv_iload C.1 C.2.1 hd (pv_at hl (k := 13) (v := .int x) rfl (by simp)) (k p e R s m args below meth c A cells slots Qf C hR E H locs ls hW hl)
theorem PW_istore13 {a0 a1 a2 a3 a4 a5 a6 a7 a8 a9 a10 a11 a12 : Value} {o : Value} {x : Int32} (hd : decode V.2.1 pc = .ok (.istore 13, 2)) (hp : pc + 2 = pc') (hm : Nat.blt 13 V.2.2.1 = true) (hn : pv_nl 13 (a0 :: a1 :: a2 :: a3 :: a4 :: a5 :: a6 :: a7 :: a8 :: a9 :: a10 :: a11 :: a12 :: o :: L) = true) (k : PW Γ d V pc' (a0 :: a1 :: a2 :: a3 :: a4 :: a5 :: a6 :: a7 :: a8 :: a9 :: a10 :: a11 :: a12 :: .int x :: L) st M Q) : PW Γ d V pc (a0 :: a1 :: a2 :: a3 :: a4 :: a5 :: a6 :: a7 :: a8 :: a9 :: a10 :: a11 :: a12 :: o :: L) (.int x :: st) M Q := by
  subst hp
  intro p e R s m args below meth c A cells slots Qf C hR E H locs ls hW hl
  exact lv_istore C.1 C.2.1 hd hl (Nat.le_of_ble_eq_true hm) rfl (fun ls2 hl2 => k p e R s m args below meth c A cells slots Qf C hR E H locs ls2 hW (pv_st1 (v := .int x) hn hl2))
theorem PW_lload13 {a0 a1 a2 a3 a4 a5 a6 a7 a8 a9 a10 a11 a12 : Value} {x : Int64} (hd : decode V.2.1 pc = .ok (.lload 13, 2)) (hp : pc + 2 = pc') (k : PW Γ d V pc' (a0 :: a1 :: a2 :: a3 :: a4 :: a5 :: a6 :: a7 :: a8 :: a9 :: a10 :: a11 :: a12 :: .long x :: L) (.long x :: st) M Q) : PW Γ d V pc (a0 :: a1 :: a2 :: a3 :: a4 :: a5 :: a6 :: a7 :: a8 :: a9 :: a10 :: a11 :: a12 :: .long x :: L) st M Q := by
  subst hp
  intro p e R s m args below meth c A cells slots Qf C hR E H locs ls hW hl
  exact lv_lload C.1 C.2.1 hd (pv_at hl (k := 13) (v := .long x) rfl (by simp)) (k p e R s m args below meth c A cells slots Qf C hR E H locs ls hW hl)
theorem PW_lstore13 {a0 a1 a2 a3 a4 a5 a6 a7 a8 a9 a10 a11 a12 : Value} {o o2 : Value} {x : Int64} (hd : decode V.2.1 pc = .ok (.lstore 13, 2)) (hp : pc + 2 = pc') (hm : Nat.blt 14 V.2.2.1 = true) (hn : pv_nl 13 (a0 :: a1 :: a2 :: a3 :: a4 :: a5 :: a6 :: a7 :: a8 :: a9 :: a10 :: a11 :: a12 :: o :: o2 :: L) = true) (k : PW Γ d V pc' (a0 :: a1 :: a2 :: a3 :: a4 :: a5 :: a6 :: a7 :: a8 :: a9 :: a10 :: a11 :: a12 :: .long x :: .null :: L) st M Q) : PW Γ d V pc (a0 :: a1 :: a2 :: a3 :: a4 :: a5 :: a6 :: a7 :: a8 :: a9 :: a10 :: a11 :: a12 :: o :: o2 :: L) (.long x :: st) M Q := by
  subst hp
  intro p e R s m args below meth c A cells slots Qf C hR E H locs ls hW hl
  exact lv_lstore C.1 C.2.1 hd hl (Nat.le_of_ble_eq_true hm) rfl (fun ls2 hl2 => k p e R s m args below meth c A cells slots Qf C hR E H locs ls2 hW (pv_st2 (v := .long x) hn hl2))
theorem PW_aload13 {a0 a1 a2 a3 a4 a5 a6 a7 a8 a9 a10 a11 a12 : Value} {x : Nat} (hd : decode V.2.1 pc = .ok (.aload 13, 2)) (hp : pc + 2 = pc') (k : PW Γ d V pc' (a0 :: a1 :: a2 :: a3 :: a4 :: a5 :: a6 :: a7 :: a8 :: a9 :: a10 :: a11 :: a12 :: .ref x :: L) (.ref x :: st) M Q) : PW Γ d V pc (a0 :: a1 :: a2 :: a3 :: a4 :: a5 :: a6 :: a7 :: a8 :: a9 :: a10 :: a11 :: a12 :: .ref x :: L) st M Q := by
  subst hp
  intro p e R s m args below meth c A cells slots Qf C hR E H locs ls hW hl
  exact lv_aload C.1 C.2.1 hd (pv_at hl (k := 13) (v := .ref x) rfl (by simp)) (k p e R s m args below meth c A cells slots Qf C hR E H locs ls hW hl)
theorem PW_astore13 {a0 a1 a2 a3 a4 a5 a6 a7 a8 a9 a10 a11 a12 : Value} {o : Value} {x : Nat} (hd : decode V.2.1 pc = .ok (.astore 13, 2)) (hp : pc + 2 = pc') (hm : Nat.blt 13 V.2.2.1 = true) (hn : pv_nl 13 (a0 :: a1 :: a2 :: a3 :: a4 :: a5 :: a6 :: a7 :: a8 :: a9 :: a10 :: a11 :: a12 :: o :: L) = true) (k : PW Γ d V pc' (a0 :: a1 :: a2 :: a3 :: a4 :: a5 :: a6 :: a7 :: a8 :: a9 :: a10 :: a11 :: a12 :: .ref x :: L) st M Q) : PW Γ d V pc (a0 :: a1 :: a2 :: a3 :: a4 :: a5 :: a6 :: a7 :: a8 :: a9 :: a10 :: a11 :: a12 :: o :: L) (.ref x :: st) M Q := by
  subst hp
  intro p e R s m args below meth c A cells slots Qf C hR E H locs ls hW hl
  exact lv_astore C.1 C.2.1 hd hl (Nat.le_of_ble_eq_true hm) rfl (fun ls2 hl2 => k p e R s m args below meth c A cells slots Qf C hR E H locs ls2 hW (pv_st1 (v := .ref x) hn hl2))
theorem PW_iinc13 {a0 a1 a2 a3 a4 a5 a6 a7 a8 a9 a10 a11 a12 : Value} {n : Int} {x v : Int32} (hd : decode V.2.1 pc = .ok (.iinc 13 n, 3)) (hp : pc + 3 = pc') (hm : Nat.blt 13 V.2.2.1 = true) (hn : pv_nl 13 (a0 :: a1 :: a2 :: a3 :: a4 :: a5 :: a6 :: a7 :: a8 :: a9 :: a10 :: a11 :: a12 :: .int x :: L) = true) (hv : x + Int32.ofInt n = v) (k : PW Γ d V pc' (a0 :: a1 :: a2 :: a3 :: a4 :: a5 :: a6 :: a7 :: a8 :: a9 :: a10 :: a11 :: a12 :: .int v :: L) st M Q) : PW Γ d V pc (a0 :: a1 :: a2 :: a3 :: a4 :: a5 :: a6 :: a7 :: a8 :: a9 :: a10 :: a11 :: a12 :: .int x :: L) st M Q := by
  subst hp
  intro p e R s m args below meth c A cells slots Qf C hR E H locs ls hW hl
  obtain ⟨j, hj⟩ := List.getElem?_of_mem ((pv_lv_mem Γ.2.2.2 (13, .int x) (a0 :: a1 :: a2 :: a3 :: a4 :: a5 :: a6 :: a7 :: a8 :: a9 :: a10 :: a11 :: a12 :: .int x :: L) 0).mpr ⟨13, .int x, rfl, by simp, rfl⟩)
  exact lv_iinc C.1 C.2.1 hd hl hj hv (Nat.le_of_ble_eq_true hm) rfl (fun ls2 hl2 => k p e R s m args below meth c A cells slots Qf C hR E H locs ls2 hW (pv_st1 (v := .int v) hn hl2))
theorem PW_if_eq {x : Int32} {off : Int} {tgt : Nat} (hd : decode V.2.1 pc = .ok (.ifCond .eq off, 3)) (ht : (pc : Int) + off = (tgt : Int)) (hp : pc + 3 = pc') (kt : (x = 0) → PW Γ d V tgt L st M Q) (kf : ¬ (x = 0) → PW Γ d V pc' L st M Q) : PW Γ d V pc L (.int x :: st) M Q := by
  subst hp
  intro p e R s m args below meth c A cells slots Qf C hR E H locs ls hW hl
  exact lv_if_eq C.1 C.2.1 hd ht (fun h => kt h p e R s m args below meth c A cells slots Qf C hR E H locs ls hW hl) (fun h => kf h p e R s m args below meth c A cells slots Qf C hR E H locs ls hW hl)
theorem PW_icmp_eq {x y : Int32} {off : Int} {tgt : Nat} (hd : decode V.2.1 pc = .ok (.if_icmp .eq off, 3)) (ht : (pc : Int) + off = (tgt : Int)) (hp : pc + 3 = pc') (kt : (x = y) → PW Γ d V tgt L st M Q) (kf : ¬ (x = y) → PW Γ d V pc' L st M Q) : PW Γ d V pc L (.int y :: .int x :: st) M Q := by
  subst hp
  intro p e R s m args below meth c A cells slots Qf C hR E H locs ls hW hl
  exact lv_icmp_eq C.1 C.2.1 hd ht (fun h => kt h p e R s m args below meth c A cells slots Qf C hR E H locs ls hW hl) (fun h => kf h p e R s m args below meth c A cells slots Qf C hR E H locs ls hW hl)
theorem PW_if_ne {x : Int32} {off : Int} {tgt : Nat} (hd : decode V.2.1 pc = .ok (.ifCond .ne off, 3)) (ht : (pc : Int) + off = (tgt : Int)) (hp : pc + 3 = pc') (kt : (¬ x = 0) → PW Γ d V tgt L st M Q) (kf : (x = 0) → PW Γ d V pc' L st M Q) : PW Γ d V pc L (.int x :: st) M Q := by
  subst hp
  intro p e R s m args below meth c A cells slots Qf C hR E H locs ls hW hl
  exact lv_if_ne C.1 C.2.1 hd ht (fun h => kt h p e R s m args below meth c A cells slots Qf C hR E H locs ls hW hl) (fun h => kf h p e R s m args below meth c A cells slots Qf C hR E H locs ls hW hl)
theorem PW_icmp_ne {x y : Int32} {off : Int} {tgt : Nat} (hd : decode V.2.1 pc = .ok (.if_icmp .ne off, 3)) (ht : (pc : Int) + off = (tgt : Int)) (hp : pc + 3 = pc') (kt : (¬ x = y) → PW Γ d V tgt L st M Q) (kf : (x = y) → PW Γ d V pc' L st M Q) : PW Γ d V pc L (.int y :: .int x :: st) M Q := by
  subst hp
  intro p e R s m args below meth c A cells slots Qf C hR E H locs ls hW hl
  exact lv_icmp_ne C.1 C.2.1 hd ht (fun h => kt h p e R s m args below meth c A cells slots Qf C hR E H locs ls hW hl) (fun h => kf h p e R s m args below meth c A cells slots Qf C hR E H locs ls hW hl)
theorem PW_if_lt {x : Int32} {off : Int} {tgt : Nat} (hd : decode V.2.1 pc = .ok (.ifCond .lt off, 3)) (ht : (pc : Int) + off = (tgt : Int)) (hp : pc + 3 = pc') (kt : (x < 0) → PW Γ d V tgt L st M Q) (kf : ¬ (x < 0) → PW Γ d V pc' L st M Q) : PW Γ d V pc L (.int x :: st) M Q := by
  subst hp
  intro p e R s m args below meth c A cells slots Qf C hR E H locs ls hW hl
  exact lv_if_lt C.1 C.2.1 hd ht (fun h => kt h p e R s m args below meth c A cells slots Qf C hR E H locs ls hW hl) (fun h => kf h p e R s m args below meth c A cells slots Qf C hR E H locs ls hW hl)
theorem PW_icmp_lt {x y : Int32} {off : Int} {tgt : Nat} (hd : decode V.2.1 pc = .ok (.if_icmp .lt off, 3)) (ht : (pc : Int) + off = (tgt : Int)) (hp : pc + 3 = pc') (kt : (x < y) → PW Γ d V tgt L st M Q) (kf : ¬ (x < y) → PW Γ d V pc' L st M Q) : PW Γ d V pc L (.int y :: .int x :: st) M Q := by
  subst hp
  intro p e R s m args below meth c A cells slots Qf C hR E H locs ls hW hl
  exact lv_icmp_lt C.1 C.2.1 hd ht (fun h => kt h p e R s m args below meth c A cells slots Qf C hR E H locs ls hW hl) (fun h => kf h p e R s m args below meth c A cells slots Qf C hR E H locs ls hW hl)
theorem PW_if_ge {x : Int32} {off : Int} {tgt : Nat} (hd : decode V.2.1 pc = .ok (.ifCond .ge off, 3)) (ht : (pc : Int) + off = (tgt : Int)) (hp : pc + 3 = pc') (kt : (0 ≤ x) → PW Γ d V tgt L st M Q) (kf : ¬ (0 ≤ x) → PW Γ d V pc' L st M Q) : PW Γ d V pc L (.int x :: st) M Q := by
  subst hp
  intro p e R s m args below meth c A cells slots Qf C hR E H locs ls hW hl
  exact lv_if_ge C.1 C.2.1 hd ht (fun h => kt h p e R s m args below meth c A cells slots Qf C hR E H locs ls hW hl) (fun h => kf h p e R s m args below meth c A cells slots Qf C hR E H locs ls hW hl)
theorem PW_icmp_ge {x y : Int32} {off : Int} {tgt : Nat} (hd : decode V.2.1 pc = .ok (.if_icmp .ge off, 3)) (ht : (pc : Int) + off = (tgt : Int)) (hp : pc + 3 = pc') (kt : (y ≤ x) → PW Γ d V tgt L st M Q) (kf : ¬ (y ≤ x) → PW Γ d V pc' L st M Q) : PW Γ d V pc L (.int y :: .int x :: st) M Q := by
  subst hp
  intro p e R s m args below meth c A cells slots Qf C hR E H locs ls hW hl
  exact lv_icmp_ge C.1 C.2.1 hd ht (fun h => kt h p e R s m args below meth c A cells slots Qf C hR E H locs ls hW hl) (fun h => kf h p e R s m args below meth c A cells slots Qf C hR E H locs ls hW hl)
theorem PW_if_gt {x : Int32} {off : Int} {tgt : Nat} (hd : decode V.2.1 pc = .ok (.ifCond .gt off, 3)) (ht : (pc : Int) + off = (tgt : Int)) (hp : pc + 3 = pc') (kt : (0 < x) → PW Γ d V tgt L st M Q) (kf : ¬ (0 < x) → PW Γ d V pc' L st M Q) : PW Γ d V pc L (.int x :: st) M Q := by
  subst hp
  intro p e R s m args below meth c A cells slots Qf C hR E H locs ls hW hl
  exact lv_if_gt C.1 C.2.1 hd ht (fun h => kt h p e R s m args below meth c A cells slots Qf C hR E H locs ls hW hl) (fun h => kf h p e R s m args below meth c A cells slots Qf C hR E H locs ls hW hl)
theorem PW_icmp_gt {x y : Int32} {off : Int} {tgt : Nat} (hd : decode V.2.1 pc = .ok (.if_icmp .gt off, 3)) (ht : (pc : Int) + off = (tgt : Int)) (hp : pc + 3 = pc') (kt : (y < x) → PW Γ d V tgt L st M Q) (kf : ¬ (y < x) → PW Γ d V pc' L st M Q) : PW Γ d V pc L (.int y :: .int x :: st) M Q := by
  subst hp
  intro p e R s m args below meth c A cells slots Qf C hR E H locs ls hW hl
  exact lv_icmp_gt C.1 C.2.1 hd ht (fun h => kt h p e R s m args below meth c A cells slots Qf C hR E H locs ls hW hl) (fun h => kf h p e R s m args below meth c A cells slots Qf C hR E H locs ls hW hl)
theorem PW_if_le {x : Int32} {off : Int} {tgt : Nat} (hd : decode V.2.1 pc = .ok (.ifCond .le off, 3)) (ht : (pc : Int) + off = (tgt : Int)) (hp : pc + 3 = pc') (kt : (x ≤ 0) → PW Γ d V tgt L st M Q) (kf : ¬ (x ≤ 0) → PW Γ d V pc' L st M Q) : PW Γ d V pc L (.int x :: st) M Q := by
  subst hp
  intro p e R s m args below meth c A cells slots Qf C hR E H locs ls hW hl
  exact lv_if_le C.1 C.2.1 hd ht (fun h => kt h p e R s m args below meth c A cells slots Qf C hR E H locs ls hW hl) (fun h => kf h p e R s m args below meth c A cells slots Qf C hR E H locs ls hW hl)
theorem PW_icmp_le {x y : Int32} {off : Int} {tgt : Nat} (hd : decode V.2.1 pc = .ok (.if_icmp .le off, 3)) (ht : (pc : Int) + off = (tgt : Int)) (hp : pc + 3 = pc') (kt : (x ≤ y) → PW Γ d V tgt L st M Q) (kf : ¬ (x ≤ y) → PW Γ d V pc' L st M Q) : PW Γ d V pc L (.int y :: .int x :: st) M Q := by
  subst hp
  intro p e R s m args below meth c A cells slots Qf C hR E H locs ls hW hl
  exact lv_icmp_le C.1 C.2.1 hd ht (fun h => kt h p e R s m args below meth c A cells slots Qf C hR E H locs ls hW hl) (fun h => kf h p e R s m args below meth c A cells slots Qf C hR E H locs ls hW hl)
theorem PW_goto {off : Int} {tgt : Nat} (hd : decode V.2.1 pc = .ok (.goto off, 3)) (ht : (pc : Int) + off = (tgt : Int)) (k : PW Γ d V tgt L st M Q) : PW Γ d V pc L st M Q := by
  intro p e R s m args below meth c A cells slots Qf C hR E H locs ls hW hl
  exact lv_goto C.1 C.2.1 hd ht (k p e R s m args below meth c A cells slots Qf C hR E H locs ls hW hl)
theorem PW_tin {dflt lo hi : Int} {offs : Array Int} {len : Nat} {x : Int32} {off : Int} {tgt : Nat} (hd : decode V.2.1 pc = .ok (.tableswitch dflt lo hi offs, len)) (h1 : ¬ x.toInt < lo) (h2 : ¬ hi < x.toInt) (ho : offs[(x.toInt - lo).toNat]? = some off) (ht : (pc : Int) + off = (tgt : Int)) (k : PW Γ d V tgt L st M Q) : PW Γ d V pc L (.int x :: st) M Q := by
  intro p e R s m args below meth c A cells slots Qf C hR E H locs ls hW hl
  exact lv_tableIn C.1 C.2.1 hd h1 h2 ho ht (k p e R s m args below meth c A cells slots Qf C hR E H locs ls hW hl)
theorem PW_tout {dflt lo hi : Int} {offs : Array Int} {len : Nat} {x : Int32} {tgt : Nat} (hd : decode V.2.1 pc = .ok (.tableswitch dflt lo hi offs, len)) (h : x.toInt < lo ∨ hi < x.toInt) (ht : (pc : Int) + dflt = (tgt : Int)) (k : PW Γ d V tgt L st M Q) : PW Γ d V pc L (.int x :: st) M Q := by
  intro p e R s m args below meth c A cells slots Qf C hR E H locs ls hW hl
  exact lv_tableOut C.1 C.2.1 hd h ht (k p e R s m args below meth c A cells slots Qf C hR E H locs ls hW hl)
theorem PW_ireturn {v : Int32} (ty : FieldType) (hd : decode V.2.1 pc = .ok (.ireturn, 1)) (hr : V.2.2.2.1 = some ty) (hn : narrow ty (.int v) = .int v) (hq : Q (some (.int v)) M) : PW Γ d V pc L [.int v] M Q := by
  intro p e R s m args below meth c A cells slots Qf C hR E H locs ls hW hl
  exact E (some (.int v)) M H locs ls pc hq ⟨⟨ty, hr, hn⟩, hd⟩ hW
theorem PW_lreturn {v : Int64} (hd : decode V.2.1 pc = .ok (.lreturn, 1)) (hr : V.2.2.2.1 = some .long) (hq : Q (some (.long v)) M) : PW Γ d V pc L [.long v] M Q := by
  intro p e R s m args below meth c A cells slots Qf C hR E H locs ls hW hl
  exact E (some (.long v)) M H locs ls pc hq ⟨hr, hd⟩ hW
theorem PW_return (hd : decode V.2.1 pc = .ok (.return_, 1)) (hr : V.2.2.2.1 = none) (hq : Q none M) : PW Γ d V pc L [] M Q := by
  intro p e R s m args below meth c A cells slots Qf C hR E H locs ls hW hl
  exact E none M H locs ls pc hq ⟨hr, hd⟩ hW
end PV
end
section
/-! the picture's rows for fields, arrays, calls; contracts (Ct) -/
theorem pv_T_sub : ∀ w ∈ pv_T, w ∈ lw_tbl := fun _ h => (List.mem_filter.mp h).1
theorem pv_good {w : Cond} (h : w ∈ pv_T) : (w.onTables && w.keeps) = true ∨ ∃ ty, w = .arrayClass ty := good_of_word (List.mem_filter.mp h).2
theorem pv_cl_in : ∀ q ∈ pv_cl, ∀ w ∈ u_ws q.1 q.2.1 q.2.2, w ∈ pv_T := by decide +kernel
theorem pv_cl_ty : ∀ q ∈ pv_cl, ∀ k, k < q.2.2 → (parseFieldDescriptor (q.2.1 k).2.2.1).isSome = true := by decide +kernel
theorem pv_cl_nm : ∀ q ∈ pv_cl, ∀ a, a < q.2.2 → ∀ b, b < q.2.2 → a ≠ b → (q.2.1 a).2.1 ≠ (q.2.1 b).2.1 := by decide +kernel
def pv_c (ci : Nat) : vw_C := pv_cl.getD ci ("", TX4, 0)
theorem pv_c_at {ci k : Nat} (h : k < (pv_c ci).2.2) : pv_cl[ci]? = some (pv_c ci) ∧ pv_c ci ∈ pv_cl := by
  have h2 : ci < pv_cl.length := by
    rcases Nat.lt_or_ge ci pv_cl.length with h2 | h2
    · exact h2
    · exfalso
      have e : pv_c ci = ("", TX4, 0) := by simp [pv_c, List.getD_eq_getElem?_getD, List.getElem?_eq_none h2]
      rw [e] at h
      exact absurd h (Nat.not_lt_zero k)
  have e : pv_c ci = pv_cl[ci] := by simp [pv_c, List.getD_eq_getElem?_getD, List.getElem?_eq_getElem h2]
  exact ⟨by rw [List.getElem?_eq_getElem h2, e], by rw [e]; exact List.getElem_mem h2⟩
/-- entry i of class own's pool names field k of class ci -/
def pv_fld (own : String) (i ci k : Nat) : Prop := k < (pv_c ci).2.2 ∧ Cond.fieldLink own i ((pv_c ci).2.1 k).1 ((pv_c ci).2.1 k).2.1 ((pv_c ci).2.1 k).2.2.1 ∈ pv_T
/-- it may be written: not final, of type ty -/
def pv_wr (ci k : Nat) (ty : FieldType) : Prop := ((pv_c ci).2.1 k).2.2.2 = false ∧ parseFieldDescriptor ((pv_c ci).2.1 k).2.2.1 = some ty
theorem pv_ce_o {cAt : Nat → ClassId} {ad : Nat → Nat} {M : pv_M} {pl ci : Nat} {fs : List (Option Nat)} (hl : pv_lay pl = .inl (ci, fs)) : pv_ce cAt ad M pl = .inr (ci, pv_fs ad (M pl) 0 fs) := by simp [pv_ce, hl]
theorem pv_ce_a {cAt : Nat → ClassId} {ad : Nat → Nat} {M : pv_M} {pl t n : Nat} (hl : pv_lay pl = .inr (.inl (t, n))) : pv_ce cAt ad M pl = .inl (cAt t, n, .inl (M pl)) := by simp [pv_ce, hl]
theorem pv_ce_r {cAt : Nat → ClassId} {ad : Nat → Nat} {M : pv_M} {pl t : Nat} {ps : List Nat} (hl : pv_lay pl = .inr (.inr (t, ps))) : pv_ce cAt ad M pl = .inl (cAt t, ps.length, .inr (.inr (.inr (.inr (fun j => (ps[j]?).map ad))))) := by simp [pv_ce, hl]
theorem pv_row_self (M : pv_M) (p : Nat) (f : Nat → Int32) : pv_row M p f p = f := by simp [pv_row]
theorem pv_lay_lt {pl : Nat} (h : pl < 50 ∨ pl ≥ 50) (hn : pv_lay pl ≠ .inr (.inr (9, []))) : pl < 50 := by
  rcases h with h | h
  · exact h
  · exact absurd (by
      unfold pv_lay
      split <;> first | rfl | (exfalso; omega)) hn
theorem pv_lt_o {pl ci : Nat} {fs : List (Option Nat)} (hl : pv_lay pl = .inl (ci, fs)) : pl < 50 := pv_lay_lt (Nat.lt_or_ge pl 50) (by rw [hl]; simp)
theorem pv_lt_a {pl t n : Nat} (hl : pv_lay pl = .inr (.inl (t, n))) : pl < 50 := pv_lay_lt (Nat.lt_or_ge pl 50) (by rw [hl]; simp)
theorem pv_lt_r {pl t p0 : Nat} {ps : List Nat} (hl : pv_lay pl = .inr (.inr (t, p0 :: ps))) : pl < 50 := pv_lay_lt (Nat.lt_or_ge pl 50) (by rw [hl]; simp)
section PV2
variable {Γ : pv_G} {d : Nat} {V : pv_V} {pc pc' : Nat} {L st : List Value} {M : pv_M} {Q : pv_Q}
theorem PW_getI {i pl ci k : Nat} {fs : List (Option Nat)} (hd : decode V.2.1 pc = .ok (.getfield i, 3)) (hp : pc + 3 = pc') (hf : pv_fld V.1.cls i ci k) (hl0 : pv_lay pl = .inl (ci, fs)) (hk : fs[k]? = some none) (k1 : PW Γ d V pc' L (.int (M pl k) :: st) M Q) : PW Γ d V pc L (.ref pl :: st) M Q := by
  subst hp
  intro p e R s m args below meth c A cells slots Qf C hR E H locs ls hW hl
  obtain ⟨hx, hb, hml, hown, hts, hK, hN, hRm, hA, hi, hX⟩ := id C
  obtain ⟨hc, hc2⟩ := pv_c_at hf.1
  exact va_get hx hb hts (pv_cl_in _ hc2) hown hK hW.1 pl ((pv_ws_get _ _ _ (pv_lt_o hl0)).trans (by rw [pv_ce_o hl0])) hc k hf.1 (hts _ hf.2) (fun _ h => h) (v := .int (M pl k)) (by rw [pv_fs_get, hk]; simp) hd (k1 p e R s m args below meth c A cells slots Qf C hR E H locs ls hW hl)
theorem PW_getR {i pl ci k q : Nat} {fs : List (Option Nat)} (hd : decode V.2.1 pc = .ok (.getfield i, 3)) (hp : pc + 3 = pc') (hf : pv_fld V.1.cls i ci k) (hl0 : pv_lay pl = .inl (ci, fs)) (hk : fs[k]? = some (some q)) (k1 : PW Γ d V pc' L (.ref q :: st) M Q) : PW Γ d V pc L (.ref pl :: st) M Q := by
  subst hp
  intro p e R s m args below meth c A cells slots Qf C hR E H locs ls hW hl
  obtain ⟨hx, hb, hml, hown, hts, hK, hN, hRm, hA, hi, hX⟩ := id C
  obtain ⟨hc, hc2⟩ := pv_c_at hf.1
  exact va_get hx hb hts (pv_cl_in _ hc2) hown hK hW.1 pl ((pv_ws_get _ _ _ (pv_lt_o hl0)).trans (by rw [pv_ce_o hl0])) hc k hf.1 (hts _ hf.2) (fun _ h => h) (v := .ref (Γ.2.2.2 q)) (by rw [pv_fs_get, hk]; simp) hd (k1 p e R s m args below meth c A cells slots Qf C hR E H locs ls hW hl)
theorem PW_putG {i pl ci k : Nat} {fs : List (Option Nat)} {x : Int32} (ty : FieldType) (hn : narrow ty (.int x) = .int x) (hft : fits ty (.int x) = true) (hd : decode V.2.1 pc = .ok (.putfield i, 3)) (hp : pc + 3 = pc') (hf : pv_fld V.1.cls i ci k) (hw : pv_wr ci k ty) (hl0 : pv_lay pl = .inl (ci, fs)) (hk : fs[k]? = some none) (k1 : PW Γ d V pc' L st (pv_up M pl k x) Q) : PW Γ d V pc L (.int x :: .ref pl :: st) M Q := by
  subst hp
  intro p e R s m args below meth c A cells slots Qf C hR E H locs ls hW hl
  obtain ⟨hx, hb, hml, hown, hts, hK, hN, hRm, hA, hi, hX⟩ := id C
  obtain ⟨hc, hc2⟩ := pv_c_at hf.1
  refine va_put hx hb hts (pv_cl_in _ hc2) (fun k => (parseFieldDescriptor ((pv_c ci).2.1 k).2.2.1).getD .int) (fun k hk => ?_) (pv_cl_nm _ hc2) hown hK hW.1 (pv_D hA hi) hW.2 pl ((pv_ws_get _ _ _ (pv_lt_o hl0)).trans (by rw [pv_ce_o hl0])) hc k hf.1 (hts _ hf.2) (fun _ h => h) hw.1 (v := .int x) hw.2 hn hft (by rw [pv_fs_len]; exact (List.getElem?_eq_some_iff.mp hk).1) hd (fun H1 locs1 hP1 hD1 hS1 => ?_)
  · have := pv_cl_ty _ hc2 k hk
    obtain ⟨t, ht⟩ := Option.isSome_iff_exists.mp this
    simp [ht]
  · rw [pv_fs_set _ _ _ _ _ hk, pv_ws_set _ _ _ _ (upd (M pl) k x) _ (by rw [pv_ce_o hl0, pv_row_self])] at hP1
    exact k1 p e R s m args below meth c A cells slots Qf C hR E H1 locs1 ls ⟨hP1, hS1⟩ hl
theorem PW_putI {i pl ci k : Nat} {fs : List (Option Nat)} {x : Int32} (hd : decode V.2.1 pc = .ok (.putfield i, 3)) (hp : pc + 3 = pc') (hf : pv_fld V.1.cls i ci k) (hw : pv_wr ci k .int) (hl0 : pv_lay pl = .inl (ci, fs)) (hk : fs[k]? = some none) (k1 : PW Γ d V pc' L st (pv_up M pl k x) Q) : PW Γ d V pc L (.int x :: .ref pl :: st) M Q :=
  PW_putG .int rfl rfl hd hp hf hw hl0 hk k1
theorem PW_iald {pl n : Nat} {i : Int32} (hd : decode V.2.1 pc = .ok (.iaload, 1)) (hp : pc + 1 = pc') (hl0 : pv_lay pl = .inr (.inl (0, n))) (hin : vp_in i n) (k1 : PW Γ d V pc' L (.int (M pl i.toNatClampNeg) :: st) M Q) : PW Γ d V pc L (.int i :: .ref pl :: st) M Q := by
  subst hp
  intro p e R s m args below meth c A cells slots Qf C hR E H locs ls hW hl
  obtain ⟨hx, hb, hml, hown, hts, hK, hN, hRm, hA, hi, hX⟩ := id C
  exact va_iald hx hb hK hW.1 pl 0 ((pv_ws_get _ _ _ (pv_lt_a hl0)).trans (by rw [pv_ce_a hl0])) rfl hin hd (k1 p e R s m args below meth c A cells slots Qf C hR E H locs ls hW hl)
theorem PW_zald {pl n : Nat} {i : Int32} (hd : decode V.2.1 pc = .ok (.baload, 1)) (hp : pc + 1 = pc') (hl0 : pv_lay pl = .inr (.inl (1, n))) (hin : vp_in i n) (k1 : PW Γ d V pc' L (.int (M pl i.toNatClampNeg) :: st) M Q) : PW Γ d V pc L (.int i :: .ref pl :: st) M Q := by
  subst hp
  intro p e R s m args below meth c A cells slots Qf C hR E H locs ls hW hl
  obtain ⟨hx, hb, hml, hown, hts, hK, hN, hRm, hA, hi, hX⟩ := id C
  exact va_zald hx hb hK hW.1 pl 1 ((pv_ws_get _ _ _ (pv_lt_a hl0)).trans (by rw [pv_ce_a hl0])) rfl hin hd (k1 p e R s m args below meth c A cells slots Qf C hR E H locs ls hW hl)
theorem PW_iast {pl n : Nat} {i x : Int32} (hd : decode V.2.1 pc = .ok (.iastore, 1)) (hp : pc + 1 = pc') (hl0 : pv_lay pl = .inr (.inl (0, n))) (hin : vp_in i n) (k1 : PW Γ d V pc' L st (pv_up M pl i.toNatClampNeg x) Q) : PW Γ d V pc L (.int x :: .int i :: .ref pl :: st) M Q := by
  subst hp
  intro p e R s m args below meth c A cells slots Qf C hR E H locs ls hW hl
  obtain ⟨hx, hb, hml, hown, hts, hK, hN, hRm, hA, hi, hX⟩ := id C
  refine va_iast hx hb hK hW.1 (pv_D hA hi) hW.2 pl 0 ((pv_ws_get _ _ _ (pv_lt_a hl0)).trans (by rw [pv_ce_a hl0])) rfl hin hd (fun H1 locs1 hP1 hD1 hS1 => ?_)
  rw [pv_ws_set _ _ _ _ (upd (M pl) i.toNatClampNeg x) _ (by rw [pv_ce_a hl0, pv_row_self])] at hP1
  exact k1 p e R s m args below meth c A cells slots Qf C hR E H1 locs1 ls ⟨hP1, hS1⟩ hl
theorem PW_zast {pl n : Nat} {i x : Int32} (hd : decode V.2.1 pc = .ok (.bastore, 1)) (hp : pc + 1 = pc') (hl0 : pv_lay pl = .inr (.inl (1, n))) (hin : vp_in i n) (hx1 : vp_nar .boolean x = x) (k1 : PW Γ d V pc' L st (pv_up M pl i.toNatClampNeg x) Q) : PW Γ d V pc L (.int x :: .int i :: .ref pl :: st) M Q := by
  subst hp
  intro p e R s m args below meth c A cells slots Qf C hR E H locs ls hW hl
  obtain ⟨hx, hb, hml, hown, hts, hK, hN, hRm, hA, hi, hX⟩ := id C
  refine va_zast hx hb hK hW.1 (pv_D hA hi) hW.2 pl 1 ((pv_ws_get _ _ _ (pv_lt_a hl0)).trans (by rw [pv_ce_a hl0])) rfl hin hd (fun H1 locs1 hP1 hD1 hS1 => ?_)
  rw [hx1, pv_ws_set _ _ _ _ (upd (M pl) i.toNatClampNeg x) _ (by rw [pv_ce_a hl0, pv_row_self])] at hP1
  exact k1 p e R s m args below meth c A cells slots Qf C hR E H1 locs1 ls ⟨hP1, hS1⟩ hl
theorem PW_aald {pl q t : Nat} {ps : List Nat} {i : Int32} (hd : decode V.2.1 pc = .ok (.aaload, 1)) (hp : pc + 1 = pc') (hl0 : pv_lay pl = .inr (.inr (t, ps))) (ht : t = 2 ∨ t = 3) (hin : vp_in i ps.length) (hq : ps[i.toNatClampNeg]? = some q) (k1 : PW Γ d V pc' L (.ref q :: st) M Q) : PW Γ d V pc L (.int i :: .ref pl :: st) M Q := by
  subst hp
  intro p e R s m args below meth c A cells slots Qf C hR E H locs ls hW hl
  obtain ⟨hx, hb, hml, hown, hts, hK, hN, hRm, hA, hi, hX⟩ := id C
  have hlt : pl < 50 := pv_lay_lt (Nat.lt_or_ge pl 50) (by rw [hl0]; rcases ht with rfl | rfl <;> simp)
  have kk := k1 p e R s m args below meth c A cells slots Qf C hR E H locs ls hW hl
  have e1 : va_rf ((fun j => (ps[j]?).map Γ.2.2.2) i.toNatClampNeg) = Value.ref (Γ.2.2.2 q) := by simp [hq, va_rf]
  rcases ht with rfl | rfl
  · exact va_aldq hx hb hK hW.1 pl 2 ((pv_ws_get _ _ _ hlt).trans (by rw [pv_ce_r hl0])) rfl hin hd (by rw [e1]; exact kk)
  · exact va_aldq hx hb hK hW.1 pl 3 ((pv_ws_get _ _ _ hlt).trans (by rw [pv_ce_r hl0])) rfl hin hd (by rw [e1]; exact kk)
theorem PW_copy {i a b na nb : Nat} {sp dp n : Int32} (hd : decode V.2.1 pc = .ok (.invokestatic i, 3)) (hp : pc + 3 = pc') (hlink : Cond.methodLink V.1.cls i arraycopyName ∈ pv_T) (hrest : (st.map fun v => v.category).sum ≤ 8) (hla : pv_lay a = .inr (.inl (0, na))) (hlb : pv_lay b = .inr (.inl (0, nb)))
    (h1 : ¬ sp < 0) (h2 : ¬ dp < 0) (h3 : ¬ n < 0) (h4 : sp.toNatClampNeg + n.toNatClampNeg ≤ na) (h5 : dp.toNatClampNeg + n.toNatClampNeg ≤ nb) (k1 : PW Γ d V pc' L st (pv_row M b (va_cpy (M a) (M b) sp.toNatClampNeg dp.toNatClampNeg n.toNatClampNeg)) Q) : PW Γ d V pc L (.int n :: .int dp :: .ref b :: .int sp :: .ref a :: st) M Q := by
  subst hp
  intro p e R s m args below meth c A cells slots Qf C hR E H locs ls hW hl
  obtain ⟨hx, hb, hml, hown, hts, hK, hN, hRm, hA, hi, hX⟩ := id C
  have hcat : ((st.map (pv_tr Γ.2.2.2)).map fun v => v.category).sum ≤ 8 := by
    rw [List.map_map, show ((fun v : Value => v.category) ∘ pv_tr Γ.2.2.2) = fun v => v.category from funext fun v => pv_tr_cat _ v]
    exact hrest
  have hnw : nativeFrameWords "java/lang/System" "arraycopy" 5 = 7 := by decide
  refine va_copyi hx hb (hml.trans hl.1.symm) hown (hts _ hlink) (hts _ (by decide +kernel)) (hts _ (by decide +kernel)) (hts _ (by decide +kernel)) hK hW.1 (pv_D hA hi) hW.2 a b 0 0 ((pv_ws_get _ _ _ (pv_lt_a hla)).trans (by rw [pv_ce_a hla])) ((pv_ws_get _ _ _ (pv_lt_a hlb)).trans (by rw [pv_ce_a hlb])) rfl rfl rfl h1 h2 h3 h4 h5 (fun _ _ => rfl) (by omega) (by rw [hnw]; omega) hd (fun H1 locs1 hP1 hD1 hS1 => ?_)
  rw [pv_ws_set _ _ _ _ (va_cpy (M a) (M b) sp.toNatClampNeg dp.toNatClampNeg n.toNatClampNeg) _ (by rw [pv_ce_a hlb, pv_row_self])] at hP1
  exact k1 p e R s m args below meth c A cells slots Qf C hR E H1 locs1 ls ⟨hP1, hS1⟩ hl
theorem PW_sld {n : Nat} {xs : Nat → Int32} {i : Int32} (hd : decode V.2.1 pc = .ok (.iaload, 1)) (hp : pc + 1 = pc') (hV : V.2.2.2.2 = some (n, xs)) (hin : vp_in i n) (k1 : PW Γ d V pc' L (.int (xs i.toNatClampNeg) :: st) M Q) : PW Γ d V pc L (.int i :: .ref 50 :: st) M Q := by
  subst hp
  intro p e R s m args below meth c A cells slots Qf C hR E H locs ls hW hl
  obtain ⟨hx, hb, hml, hown, hts, hK, hN, hRm, hA, hi, hX⟩ := id C
  obtain ⟨g1, g2, g3⟩ := hX _ _ hV
  exact va_sld hx hb g1 g2 g3 hW.2 hin hd (k1 p e R s m args below meth c A cells slots Qf C hR E H locs ls hW hl)
theorem PW_slen {n : Nat} {xs : Nat → Int32} (hd : decode V.2.1 pc = .ok (.arraylength, 1)) (hp : pc + 1 = pc') (hV : V.2.2.2.2 = some (n, xs)) (k1 : PW Γ d V pc' L (.int (Int32.ofNat n) :: st) M Q) : PW Γ d V pc L (.ref 50 :: st) M Q := by
  subst hp
  intro p e R s m args below meth c A cells slots Qf C hR E H locs ls hW hl
  obtain ⟨hx, hb, hml, hown, hts, hK, hN, hRm, hA, hi, hX⟩ := id C
  obtain ⟨g1, g2, g3⟩ := hX _ _ hV
  exact va_slen hx hb g1 g2 g3 hW.2 hd (k1 p e R s m args below meth c A cells slots Qf C hR E H locs ls hW hl)
/-! contracts -/
def pv_A (ad : Nat → Nat) : Nat → Prop := fun q => ∃ k, k < 50 ∧ ad k = q
def pv_rm (d : Nat) : Room := { frames := d + 2, cells := 0, slots := 0, locals := 64 * (d + 2) }
def pv_Qc (Γ : pv_G) (Q : pv_Q) : Array Value → State → Outcome → State → Prop := fun _ st oc t => (∃ (r : Option Value) (M' : pv_M), oc = .returned (r.map (pv_tr Γ.2.2.2)) ∧ Q r M' ∧ va_P Γ.2.1 pv_cl (pv_ws Γ.2.2.1 Γ.2.2.2 M') t.heap) ∧ va_F (pv_A Γ.2.2.2) st t
def pv_w (V : pv_V) : List Cond := Cond.code V.1 V.2.1 V.2.2.1 V.2.2.2.1 :: pv_T
def Ct (Γ : pv_G) (d : Nat) (V : pv_V) (as : List Value) (M : pv_M) (Q : pv_Q) : Prop :=
  Met Γ.1 V.1 (pv_w V) (pv_rm d) (va_Pc (as.map (pv_tr Γ.2.2.2)) (fun U => va_P Γ.2.1 pv_cl (pv_ws Γ.2.2.1 Γ.2.2.2 M) U.heap ∧ va_K Γ.2.1 pv_cl (pv_tys Γ.2.2.1) U ∧ pv_N U ∧ ∀ i j, i < 50 → j < 50 → Γ.2.2.2 i = Γ.2.2.2 j → i = j)) (pv_Qc Γ Q) 0 0 (pv_A Γ.2.2.2)
def pv_ent : List Value → List Value
  | [] => []
  | v :: r => match v with
    | .long x => .long x :: .null :: pv_ent r
    | v => v :: pv_ent r
theorem pv_ent_in (ad : Nat → Nat) (q : Nat × Value) (pad : Nat) : ∀ (as : List Value) (i : Nat), (∀ v ∈ as, v.category = 2 → ∃ x, v = .long x) → q ∈ pv_lv ad i (pv_ent as ++ List.replicate pad .null) → q ∈ lv_args i (as.map (pv_tr ad))
  | [], i, _, h => by
    exfalso
    obtain ⟨j, v, h1, h2, h3⟩ := (pv_lv_mem ad q _ i).mp h
    have := List.mem_of_getElem? h1
    simp [pv_ent] at this
    exact h2 this.2
  | v :: r, i, hc, h => by
    have ih := fun i => pv_ent_in ad q pad r i (fun w hw => hc w (List.mem_cons_of_mem _ hw))
    have hv := hc v List.mem_cons_self
    cases v with
    | long x =>
      simp only [pv_ent, List.cons_append, pv_lv, List.mem_cons] at h
      simp only [List.map_cons, lv_args, List.mem_cons, pv_tr_cat]
      rcases h with h | h
      · exact Or.inl h
      · exact Or.inr (by rw [if_pos (by rfl)]; exact ih _ h)
    | double x => obtain ⟨y, hy⟩ := hv rfl; cases hy
    | null =>
      simp only [pv_ent, List.cons_append, pv_lv] at h
      simp only [List.map_cons, lv_args, List.mem_cons, pv_tr_cat]
      exact Or.inr (by rw [if_neg (by simp [Value.category])]; exact ih _ h)
    | int x =>
      simp only [pv_ent, List.cons_append, pv_lv, List.mem_cons] at h
      simp only [List.map_cons, lv_args, List.mem_cons, pv_tr_cat]
      rcases h with h | h
      · exact Or.inl h
      · exact Or.inr (by rw [if_neg (by simp [Value.category])]; exact ih _ h)
    | float x =>
      simp only [pv_ent, List.cons_append, pv_lv, List.mem_cons] at h
      simp only [List.map_cons, lv_args, List.mem_cons, pv_tr_cat]
      rcases h with h | h
      · exact Or.inl h
      · exact Or.inr (by rw [if_neg (by simp [Value.category])]; exact ih _ h)
    | ref x =>
      simp only [pv_ent, List.cons_append, pv_lv, List.mem_cons] at h
      simp only [List.map_cons, lv_args, List.mem_cons, pv_tr_cat]
      rcases h with h | h
      · exact Or.inl h
      · exact Or.inr (by rw [if_neg (by simp [Value.category])]; exact ih _ h)
    | retAddr x =>
      simp only [pv_ent, List.cons_append, pv_lv, List.mem_cons] at h
      simp only [List.map_cons, lv_args, List.mem_cons, pv_tr_cat]
      rcases h with h | h
      · exact Or.inl h
      · exact Or.inr (by rw [if_neg (by simp [Value.category])]; exact ih _ h)
/-- a method that is called: its words are there, it has n arguments (the receiver aside) -/
def pv_ok (V : pv_V) (n : Nat) : Prop := Cond.code V.1 V.2.1 V.2.2.1 V.2.2.2.1 ∈ pv_T ∧ Cond.initialized V.1.cls ∈ pv_T ∧ (V.1.cls ≠ "java/lang/invoke/MethodHandle" ∧ V.1.cls ≠ "java/lang/invoke/VarHandle" ∧ (parseMethodDescriptor V.1.desc).map (fun d => d.parameters.length) = some n) ∧ V.2.2.1 ≤ 40 ∧ plainName V.1.cls = true ∧ V.2.2.2.2 = none
def pv_okV (V : pv_V) (n : Nat) : Prop := pv_ok V n ∧ Cond.instanceMethod V.1 ∈ pv_T ∧ Cond.selects V.1.cls V.1 V.1 ∈ pv_T
def pv_okS (V : pv_V) (n : Nat) : Prop := pv_ok V n ∧ Cond.static V.1 ∈ pv_T
theorem pv_slots : ∀ (as : List Value), (∀ v ∈ as, v.category = 2 → ∃ x, v = .long x) → (lg_sl as).length = (pv_ent as).length
  | [], _ => rfl
  | v :: r, h => by
    have ih := pv_slots r (fun w hw => h w (List.mem_cons_of_mem _ hw))
    have hv := h v List.mem_cons_self
    cases v with
    | long x => simp [lg_sl, pv_ent, Value.category] at ih ⊢; omega
    | double x => obtain ⟨y, hy⟩ := hv rfl; cases hy
    | _ => simp [lg_sl, pv_ent, Value.category] at ih ⊢; omega
/-- values that a call passes: ints, longs, references -/
def pv_plain (as : List Value) : Bool := as.all fun v => match v with
  | .int _ | .long _ | .ref _ => true
  | _ => false
theorem pv_plain_2 {as : List Value} (h : pv_plain as = true) : ∀ v ∈ as, v.category = 2 → ∃ x, v = .long x := by
  intro v hv hc
  have h1 := List.all_eq_true.mp h v hv
  cases v <;> first | exact ⟨_, rfl⟩ | (simp at h1; done) | (simp [Value.category] at hc; done)
theorem lg_sl_tr (ad : Nat → Nat) (as : List Value) : (lg_sl (as.map (pv_tr ad))).length = (lg_sl as).length := by
  induction as with
  | nil => rfl
  | cons v r ih =>
    have e : (lg_sl [pv_tr ad v]).length = (lg_sl [v]).length := by cases v <;> rfl
    simp only [lg_sl, List.flatMap_cons, List.flatMap_nil, List.append_nil, List.length_append, List.map_cons] at ih e ⊢
    omega
theorem Ct.of {n pad : Nat} {as : List Value} (hok : pv_ok V n) (hpl : pv_plain as = true) (hpad : (pv_ent as).length + pad = V.2.2.1) (k : PW Γ d V 0 (pv_ent as ++ List.replicate pad .null) [] M Q) : Ct Γ d V as M Q := by
  obtain ⟨hcode, hini, hnm, hml40, hplain, hnoX⟩ := hok
  refine Met.ofW (cc := V.2.1) (maxL := V.2.2.1) (ret := V.2.2.2.1) hplain rfl ?_
  intro p e s m args below meth c s₁ B hml hv
  obtain ⟨rfl, hP, hK, hN, hi⟩ := hv
  have hsl : (lg_sl (as.map (pv_tr Γ.2.2.2))).length ≤ V.2.2.1 := by
    rw [lg_sl_tr, pv_slots as (pv_plain_2 hpl)]
    omega
  have hl := lv_entry (as.map (pv_tr Γ.2.2.2)) (n := V.2.2.1) hsl
  rw [lg_entry_eq]
  generalize (lg_sl (as.map (pv_tr Γ.2.2.2)) ++ List.replicate (V.2.2.1 - (lg_sl (as.map (pv_tr Γ.2.2.2))).length) Slot.unset).toArray = ls at hl ⊢
  have hts := atoms_spec (ws := pv_w V) B.pre
  refine k p e _ s m _ below meth c (pv_A Γ.2.2.2) 0 0 _ ⟨B.exec, B.bytes, hml, findClass_of_methodNamed B.named, fun w hw => hts w (List.mem_cons_of_mem _ hw), hK, hN, ⟨Nat.le_refl _, Nat.le_refl _⟩, fun k hk => ⟨k, hk, rfl⟩, hi, fun n xs h => by rw [hnoX] at h; cases h⟩ ⟨Nat.le_refl _, Nat.le_refl _⟩ ?_ s.heap [] ls ⟨hP, va_S.rf⟩ ⟨hl.1, hl.2.1, fun q hq => hl.2.2 q (pv_ent_in _ q pad as 0 (pv_plain_2 hpl) hq)⟩
  intro r M' H' locs' ls' pc' hq hr hW
  have hlocks := B.notSynchronized
  have hF : ∀ t : State, t.heap = H' → pv_Qc Γ Q (as.map (pv_tr Γ.2.2.2)).toArray s (.returned (r.map (pv_tr Γ.2.2.2))) t := fun t ht => ⟨⟨r, M', rfl, hq, by rw [ht]; exact hW.1⟩, hW.2.F ht⟩
  cases r with
  | none =>
    obtain ⟨h1, h2⟩ := hr
    exact W.vret B.exec B.bytes (B.returns.trans h1) (fun t ht _ => hF t ht) hW.2.2.2 h2
  | some v =>
    cases v with
    | int v =>
      obtain ⟨⟨ty, h1, h3⟩, h2⟩ := hr
      exact W.zret B.exec B.bytes (B.returns.trans h1) h3 (fun t ht _ => hF t ht) hW.2.2.2 h2
    | long v =>
      obtain ⟨h1, h2⟩ := hr
      exact W.lret B.exec B.bytes (B.returns.trans h1) (fun t ht _ => hF t ht) hW.2.2.2 h2
    | _ => exact hr.elim
theorem pv_after {p : Program} {l : Launch} {e : Env} {R : Room} {s : State} {m : MethodId} {args : Array Value} {below : List Frame} {meth : Method} {c : Code} {H : Heap} {locs : List Loc} {cells slots : Nat} {Qf : State → Prop} {ls : Array Slot} {rest st0 : List Value} {a : Array Value} {A : Nat → Prop} {Q' : pv_Q} (hr : va_Run p l e R s m args below meth c H locs cells slots 0 0 (F0 m pc ls st0) rest (pv_Qc Γ Q' a) (pv_A Γ.2.2.2)) (hS : va_S A s.heap H locs) (hA : ∀ q, pv_A Γ.2.2.2 q → A q)
    (kk : ∀ (r : Option Value) (M' : pv_M) (H1 : Heap) (locs1 : List Loc), Q' r M' → va_P Γ.2.1 pv_cl (pv_ws Γ.2.2.1 Γ.2.2.2 M') H1 → va_S A s.heap H1 locs1 → W p l e R s m args below meth c H1 locs1 cells slots Qf (F0 m (pc + 3) ls ((r.map (pv_tr Γ.2.2.2)).toList ++ rest))) : W p l e R s m args below meth c H locs cells slots Qf (F0 m pc ls st0) := by
  intro T hT X
  obtain ⟨v, st₀, t, T', L1, h0, X', hL, e1, e2, ⟨⟨r, M', hv, hq, hP⟩, hz, hk⟩, st1⟩ := hr T hT X
  cases hv
  rw [h0] at hz hk
  obtain ⟨t2, a1, b1⟩ := kk r M' T'.heap (locs ++ L1) hq (by rw [e1]; exact hP)
    ⟨Nat.le_trans hS.1 (by rw [e1]; exact hz), fun q h1 h2 => by rw [e1, hk q (Nat.lt_of_lt_of_le h1 hS.1) (fun z => h2 (hA q z))]; exact hS.2.1 q h1 h2, fun q hq => by
      rcases List.mem_append.mp hq with h | h
      · exact hS.2.2 q h
      · exact hA _ (hL q h)⟩ T' rfl X'
  exact ⟨t2, st1 t2 a1, b1⟩
theorem pv_blind {d' : Nat} {V' : pv_V} {as : List Value} {M' : pv_M} : FrameBlind (va_Pc (as.map (pv_tr Γ.2.2.2)) (fun U => va_P Γ.2.1 pv_cl (pv_ws Γ.2.2.1 Γ.2.2.2 M') U.heap ∧ va_K Γ.2.1 pv_cl (pv_tys Γ.2.2.1) U ∧ pv_N U ∧ ∀ i j, i < 50 → j < 50 → Γ.2.2.2 i = Γ.2.2.2 j → i = j)) :=
  fun a U g mk q => by obtain ⟨q0, qP, qK, qN, qi⟩ := q; exact ⟨q0, qP, va_K.moved (u := U) (U := U.calling g mk a) (Vm.Alike.refl U.vm) qK, va_Nw.same (u := U) (U := U.calling g mk a) rfl rfl qN, qi⟩
theorem pv_goodIn {V' : pv_V} {n : Nat} (h : pv_ok V' n) : GoodIn pv_T (pv_w V') := by
  intro w hw
  rcases List.mem_cons.mp hw with rfl | hw
  · exact ⟨h.1, pv_good h.1⟩
  · exact ⟨hw, pv_good hw⟩
theorem pv_catsum {ad : Nat → Nat} {st : List Value} (hrest : (st.map fun v => v.category).sum ≤ 8) : ((st.map (pv_tr ad)).map fun v => v.category).sum ≤ 8 := by
  rw [List.map_map, show ((fun v : Value => v.category) ∘ pv_tr ad) = fun v => v.category from funext fun v => pv_tr_cat _ v]
  exact hrest
theorem PW_callS {V' : pv_V} {n i : Nat} {as : List Value} {Q' : pv_Q} {stk : List Value} (hd : decode V.2.1 pc = .ok (.invokestatic i, 3)) (hp : pc + 3 = pc') (hok : pv_okS V' n) (hlink : Cond.methodLink V.1.cls i V'.1 ∈ pv_T) (hn : as.length = n) (hrest : (st.map fun v => v.category).sum ≤ 8) (hst : stk = as.reverse ++ st) (hM : Ct Γ d V' as M Q')
    (k1 : ∀ (r : Option Value) (M' : pv_M), Q' r M' → PW Γ (d + 1) V pc' L (r.toList ++ st) M' Q) : PW Γ (d + 1) V pc L stk M Q := by
  subst hp
  subst hst
  intro p e R s m args below meth c A cells slots Qf C hR E H locs ls hW hl
  obtain ⟨hx, hb, hml, hown, hts, hK, hN, hRm, hA, hi, hX⟩ := id C
  refine pv_after (Γ := Γ) (Q' := Q') (va_runS (As := as.map (pv_tr Γ.2.2.2)) (rest := st.map (pv_tr Γ.2.2.2)) ⟨hx, hb, hml, hown, hts⟩ hM ⟨callB_of n hts (pv_goodIn hok.1) rfl rfl rfl (hts _ hok.1.2.1) (hts _ hlink) hok.1.2.2.1 ⟨by show d + 2 + 1 ≤ R.frames; omega, by show 8 + (V'.2.2.1 + 11) + 64 * (d + 2) ≤ R.locals; have := hok.1.2.2.2.1; omega⟩, hts _ hok.2⟩ ⟨pv_blind (d' := d) (V' := V'), fun U hU hWU => ⟨rfl, by rw [hU]; exact hW.1, va_K.moved hWU.alike hK, va_Nw.warmM hWU hN, hi⟩⟩ rfl (by rw [List.length_map]; exact hn) hl.1 (by simp [List.map_reverse]) (lv_room (pv_catsum hrest)) hd ⟨by omega, by omega⟩) hW.2 (fun q hq => by obtain ⟨k, hk, rfl⟩ := hq; exact hA k hk) (fun r M' H1 locs1 hq hP1 hS1 => ?_)
  have := k1 r M' hq p e R s m args below meth c A cells slots Qf C hR E H1 locs1 ls ⟨hP1, hS1⟩ hl
  cases r <;> exact this
theorem PW_callSN {V' : pv_V} {n : Nat} {as : List Value} {Q' : pv_Q} {stk : List Value} (hd : decode V.2.1 pc = .ok (.invokestatic 33, 3)) (hp : pc + 3 = pc') (hok : pv_okS V' n) (hlink : V.1.cls = RX0 ∧ V'.1 = yX6_isIn) (hn : as.length = n) (hrest : (st.map fun v => v.category).sum ≤ 8) (hst : stk = as.reverse ++ st) (hM : Ct Γ d V' as M Q')
    (k1 : ∀ (r : Option Value) (M' : pv_M), Q' r M' → PW Γ (d + 1) V pc' L (r.toList ++ st) M' Q) : PW Γ (d + 1) V pc L stk M Q := by
  subst hp
  subst hst
  intro p e R s m args below meth c A cells slots Qf C hR E H locs ls hW hl
  obtain ⟨hx, hb, hml, hown, hts, hK, hN, hRm, hA, hi, hX⟩ := id C
  refine pv_after (Γ := Γ) (Q' := Q') (va_runSN (As := as.map (pv_tr Γ.2.2.2)) (rest := st.map (pv_tr Γ.2.2.2)) (host := "UseMuseum") ⟨hx, hb, hml, hown, hts⟩ hM ⟨⟨⟨rfl, rfl, by show d + 2 + 1 ≤ R.frames; omega, by show 8 + (V'.2.2.1 + 11) + 64 * (d + 2) ≤ R.locals; have := hok.1.2.2.2.1; omega, pay_in hts (pv_goodIn hok.1), List.mem_cons_self⟩, hts _ hok.1.1, hts _ hok.1.2.1, ⟨hok.1.2.2.1.1, hok.1.2.2.1.2.1⟩, fun sig h => by
    have h2 := hok.1.2.2.1.2.2
    rw [h] at h2
    exact (Option.some.inj h2).symm, by rw [hlink.1, hlink.2]; exact va_Nw.use rfl hN⟩, hts _ hok.2, trivial⟩ ⟨pv_blind (d' := d) (V' := V'), fun U hU hWU => ⟨rfl, by rw [hU]; exact hW.1, va_K.moved hWU.alike hK, va_Nw.warmM hWU hN, hi⟩⟩ rfl (by rw [List.length_map]; exact hn) hl.1 (by simp [List.map_reverse]) (lv_room (pv_catsum hrest)) hd ⟨by omega, by omega⟩) hW.2 (fun q hq => by obtain ⟨k, hk, rfl⟩ := hq; exact hA k hk) (fun r M' H1 locs1 hq hP1 hS1 => ?_)
  have := k1 r M' hq p e R s m args below meth c A cells slots Qf C hR E H1 locs1 ls ⟨hP1, hS1⟩ hl
  cases r <;> exact this
theorem PW_callV {V' : pv_V} {n i pl ci : Nat} {fs : List (Option Nat)} {as : List Value} {Q' : pv_Q} {stk : List Value} (hd : decode V.2.1 pc = .ok (.invokevirtual i, 3)) (hp : pc + 3 = pc') (hok : pv_okV V' n) (hlink : Cond.methodLink V.1.cls i V'.1 ∈ pv_T) (hl0 : pv_lay pl = .inl (ci, fs)) (hci : pv_cl[ci]? = some (pv_c ci)) (hcn : (pv_c ci).1 = V'.1.cls) (hn : as.length = n) (hrest : (st.map fun v => v.category).sum ≤ 8) (hst : stk = as.reverse ++ .ref pl :: st) (hM : Ct Γ d V' (.ref pl :: as) M Q')
    (k1 : ∀ (r : Option Value) (M' : pv_M), Q' r M' → PW Γ (d + 1) V pc' L (r.toList ++ st) M' Q) : PW Γ (d + 1) V pc L stk M Q := by
  subst hp
  subst hst
  intro p e R s m args below meth c A cells slots Qf C hR E H locs ls hW hl
  obtain ⟨hx, hb, hml, hown, hts, hK, hN, hRm, hA, hi, hX⟩ := id C
  obtain ⟨⟨hcode, hini, hnm, hml40, hplain, hnoX⟩, hinst, hsel⟩ := id hok
  have hrv := va_recv hK hW.1 hci ((pv_ws_get _ _ _ (pv_lt_o hl0)).trans (by rw [pv_ce_o hl0]))
  rw [hcn] at hrv
  refine pv_after (Γ := Γ) (Q' := Q') (va_runV (C := V'.1.cls) (b := Γ.2.2.2 pl) (As := as.map (pv_tr Γ.2.2.2)) (rest := st.map (pv_tr Γ.2.2.2)) ⟨hx, hb, hml, hown, hts⟩ hM ⟨callB_of n hts (pv_goodIn hok.1) rfl rfl rfl (hts _ hini) (hts _ hlink) hnm ⟨by show d + 2 + 1 ≤ R.frames; omega, by show 8 + (V'.2.2.1 + 11) + 64 * (d + 2) ≤ R.locals; omega⟩, hts _ hinst, hts _ hsel⟩ ⟨pv_blind (as := .ref pl :: as) (d' := d) (V' := V'), hrv, fun U hU hWU => ⟨rfl, by rw [hU]; exact hW.1, va_K.moved hWU.alike hK, va_Nw.warmM hWU hN, hi⟩⟩ rfl (by rw [List.length_map]; exact hn) hl.1 (by simp [List.map_reverse, pv_tr]) (lv_room (pv_catsum hrest)) hd ⟨by omega, by omega⟩) hW.2 (fun q hq => by obtain ⟨k, hk, rfl⟩ := hq; exact hA k hk) (fun r M' H1 locs1 hq hP1 hS1 => ?_)
  have := k1 r M' hq p e R s m args below meth c A cells slots Qf C hR E H1 locs1 ls ⟨hP1, hS1⟩ hl
  cases r <;> exact this
end PV2
end
section
/-! methods, links, fields, constants: each by its place in the tables -/
theorem pv_memi {w : Cond} (i : Nat) (h : lw_tbl[i]? = some w) (g : goodWord w = true) : w ∈ pv_T := List.mem_filter.mpr ⟨List.mem_of_getElem? h, g⟩
abbrev vX0_init : pv_V := (yX0_init, cX0_init, 2, none, none)
abbrev vX0_stands : pv_V := (yX0_stands, cX0_stands, 1, (some .boolean), none)
set_option maxRecDepth 20000 in
theorem oX0_stands : pv_okV vX0_stands 0 := ⟨⟨pv_memi 286 rfl rfl, pv_memi 37 (by decide +kernel) (by decide +kernel), ⟨by decide +kernel, by decide +kernel, by decide +kernel⟩, by decide, by decide +kernel, rfl⟩, pv_memi 284 (by decide +kernel) (by decide +kernel), pv_memi 285 (by decide +kernel) (by decide +kernel)⟩
abbrev vX0_has : pv_V := (yX0_has, cX0_has, 2, (some .boolean), none)
set_option maxRecDepth 20000 in
theorem oX0_has : pv_okV vX0_has 1 := ⟨⟨pv_memi 274 rfl rfl, pv_memi 37 (by decide +kernel) (by decide +kernel), ⟨by decide +kernel, by decide +kernel, by decide +kernel⟩, by decide, by decide +kernel, rfl⟩, pv_memi 272 (by decide +kernel) (by decide +kernel), pv_memi 273 (by decide +kernel) (by decide +kernel)⟩
abbrev vX0_casesBy : pv_V := (yX0_casesBy, cX0_casesBy, 7, (some .int), none)
set_option maxRecDepth 20000 in
theorem oX0_casesBy : pv_okV vX0_casesBy 3 := ⟨⟨pv_memi 311 rfl rfl, pv_memi 37 (by decide +kernel) (by decide +kernel), ⟨by decide +kernel, by decide +kernel, by decide +kernel⟩, by decide, by decide +kernel, rfl⟩, pv_memi 309 (by decide +kernel) (by decide +kernel), pv_memi 310 (by decide +kernel) (by decide +kernel)⟩
abbrev vX0_firstWrong : pv_V := (yX0_firstWrong, cX0_firstWrong, 3, (some .int), none)
set_option maxRecDepth 20000 in
theorem oX0_firstWrong : pv_okV vX0_firstWrong 1 := ⟨⟨pv_memi 306 rfl rfl, pv_memi 37 (by decide +kernel) (by decide +kernel), ⟨by decide +kernel, by decide +kernel, by decide +kernel⟩, by decide, by decide +kernel, rfl⟩, pv_memi 304 (by decide +kernel) (by decide +kernel), pv_memi 305 (by decide +kernel) (by decide +kernel)⟩
abbrev vX0_takingsBy : pv_V := (yX0_takingsBy, cX0_takingsBy, 5, (some .int), none)
set_option maxRecDepth 20000 in
theorem oX0_takingsBy : pv_okV vX0_takingsBy 2 := ⟨⟨pv_memi 337 rfl rfl, pv_memi 37 (by decide +kernel) (by decide +kernel), ⟨by decide +kernel, by decide +kernel, by decide +kernel⟩, by decide, by decide +kernel, rfl⟩, pv_memi 335 (by decide +kernel) (by decide +kernel), pv_memi 336 (by decide +kernel) (by decide +kernel)⟩
abbrev vX0_missedBy : pv_V := (yX0_missedBy, cX0_missedBy, 4, (some .int), none)
set_option maxRecDepth 20000 in
theorem oX0_missedBy : pv_okV vX0_missedBy 1 := ⟨⟨pv_memi 319 rfl rfl, pv_memi 37 (by decide +kernel) (by decide +kernel), ⟨by decide +kernel, by decide +kernel, by decide +kernel⟩, by decide, by decide +kernel, rfl⟩, pv_memi 317 (by decide +kernel) (by decide +kernel), pv_memi 318 (by decide +kernel) (by decide +kernel)⟩
abbrev vX0_hoursInCase : pv_V := (yX0_hoursInCase, cX0_hoursInCase, 5, (some .int), none)
set_option maxRecDepth 20000 in
theorem oX0_hoursInCase : pv_okV vX0_hoursInCase 2 := ⟨⟨pv_memi 438 rfl rfl, pv_memi 37 (by decide +kernel) (by decide +kernel), ⟨by decide +kernel, by decide +kernel, by decide +kernel⟩, by decide, by decide +kernel, rfl⟩, pv_memi 436 (by decide +kernel) (by decide +kernel), pv_memi 437 (by decide +kernel) (by decide +kernel)⟩
abbrev vX0_gain : pv_V := (yX0_gain, cX0_gain, 7, (some .int), none)
set_option maxRecDepth 20000 in
theorem oX0_gain : pv_okV vX0_gain 4 := ⟨⟨pv_memi 341 rfl rfl, pv_memi 37 (by decide +kernel) (by decide +kernel), ⟨by decide +kernel, by decide +kernel, by decide +kernel⟩, by decide, by decide +kernel, rfl⟩, pv_memi 339 (by decide +kernel) (by decide +kernel), pv_memi 340 (by decide +kernel) (by decide +kernel)⟩
abbrev vX0_isLast : pv_V := (yX0_isLast, cX0_isLast, 4, (some .boolean), none)
set_option maxRecDepth 20000 in
theorem oX0_isLast : pv_okV vX0_isLast 2 := ⟨⟨pv_memi 346 rfl rfl, pv_memi 37 (by decide +kernel) (by decide +kernel), ⟨by decide +kernel, by decide +kernel, by decide +kernel⟩, by decide, by decide +kernel, rfl⟩, pv_memi 344 (by decide +kernel) (by decide +kernel), pv_memi 345 (by decide +kernel) (by decide +kernel)⟩
abbrev vX0_missedByTake : pv_V := (yX0_missedByTake, cX0_missedByTake, 3, (some .int), none)
set_option maxRecDepth 20000 in
theorem oX0_missedByTake : pv_okV vX0_missedByTake 2 := ⟨⟨pv_memi 323 rfl rfl, pv_memi 37 (by decide +kernel) (by decide +kernel), ⟨by decide +kernel, by decide +kernel, by decide +kernel⟩, by decide, by decide +kernel, rfl⟩, pv_memi 321 (by decide +kernel) (by decide +kernel), pv_memi 322 (by decide +kernel) (by decide +kernel)⟩
abbrev vX1_init : pv_V := (yX1_init, cX1_init, 1, none, none)
abbrev vX1_add : pv_V := (yX1_add, cX1_add, 4, (some .int), none)
set_option maxRecDepth 20000 in
theorem oX1_add : pv_okV vX1_add 3 := ⟨⟨pv_memi 406 rfl rfl, pv_memi 39 (by decide +kernel) (by decide +kernel), ⟨by decide +kernel, by decide +kernel, by decide +kernel⟩, by decide, by decide +kernel, rfl⟩, pv_memi 404 (by decide +kernel) (by decide +kernel), pv_memi 405 (by decide +kernel) (by decide +kernel)⟩
abbrev vX1_bind : pv_V := (yX1_bind, cX1_bind, 4, none, none)
set_option maxRecDepth 20000 in
theorem oX1_bind : pv_okV vX1_bind 1 := ⟨⟨pv_memi 422 rfl rfl, pv_memi 39 (by decide +kernel) (by decide +kernel), ⟨by decide +kernel, by decide +kernel, by decide +kernel⟩, by decide, by decide +kernel, rfl⟩, pv_memi 420 (by decide +kernel) (by decide +kernel), pv_memi 421 (by decide +kernel) (by decide +kernel)⟩
abbrev vX2_init : pv_V := (yX2_init, cX2_init, 1, none, none)
abbrev vX2_clear : pv_V := (yX2_clear, cX2_clear, 2, none, none)
set_option maxRecDepth 20000 in
theorem oX2_clear : pv_okV vX2_clear 0 := ⟨⟨pv_memi 358 rfl rfl, pv_memi 40 (by decide +kernel) (by decide +kernel), ⟨by decide +kernel, by decide +kernel, by decide +kernel⟩, by decide, by decide +kernel, rfl⟩, pv_memi 356 (by decide +kernel) (by decide +kernel), pv_memi 357 (by decide +kernel) (by decide +kernel)⟩
abbrev vX2_fits : pv_V := (yX2_fits, cX2_fits, 3, (some .boolean), none)
set_option maxRecDepth 20000 in
theorem oX2_fits : pv_okV vX2_fits 2 := ⟨⟨pv_memi 372 rfl rfl, pv_memi 40 (by decide +kernel) (by decide +kernel), ⟨by decide +kernel, by decide +kernel, by decide +kernel⟩, by decide, by decide +kernel, rfl⟩, pv_memi 370 (by decide +kernel) (by decide +kernel), pv_memi 371 (by decide +kernel) (by decide +kernel)⟩
abbrev vX2_arrive : pv_V := (yX2_arrive, cX2_arrive, 5, none, none)
set_option maxRecDepth 20000 in
theorem oX2_arrive : pv_okV vX2_arrive 3 := ⟨⟨pv_memi 365 rfl rfl, pv_memi 40 (by decide +kernel) (by decide +kernel), ⟨by decide +kernel, by decide +kernel, by decide +kernel⟩, by decide, by decide +kernel, rfl⟩, pv_memi 363 (by decide +kernel) (by decide +kernel), pv_memi 364 (by decide +kernel) (by decide +kernel)⟩
abbrev vX2_note : pv_V := (yX2_note, cX2_note, 4, none, none)
set_option maxRecDepth 20000 in
theorem oX2_note : pv_okV vX2_note 3 := ⟨⟨pv_memi 376 rfl rfl, pv_memi 40 (by decide +kernel) (by decide +kernel), ⟨by decide +kernel, by decide +kernel, by decide +kernel⟩, by decide, by decide +kernel, rfl⟩, pv_memi 374 (by decide +kernel) (by decide +kernel), pv_memi 375 (by decide +kernel) (by decide +kernel)⟩
abbrev vX3_init : pv_V := (yX3_init, cX3_init, 1, none, none)
abbrev vX3_begin : pv_V := (yX3_begin, cX3_begin, 4, none, none)
set_option maxRecDepth 20000 in
theorem oX3_begin : pv_okV vX3_begin 2 := ⟨⟨pv_memi 456 rfl rfl, pv_memi 36 (by decide +kernel) (by decide +kernel), ⟨by decide +kernel, by decide +kernel, by decide +kernel⟩, by decide, by decide +kernel, rfl⟩, pv_memi 454 (by decide +kernel) (by decide +kernel), pv_memi 455 (by decide +kernel) (by decide +kernel)⟩
abbrev vX3_holds : pv_V := (yX3_holds, cX3_holds, 3, (some .boolean), none)
set_option maxRecDepth 20000 in
theorem oX3_holds : pv_okV vX3_holds 2 := ⟨⟨pv_memi 247 rfl rfl, pv_memi 36 (by decide +kernel) (by decide +kernel), ⟨by decide +kernel, by decide +kernel, by decide +kernel⟩, by decide, by decide +kernel, rfl⟩, pv_memi 245 (by decide +kernel) (by decide +kernel), pv_memi 246 (by decide +kernel) (by decide +kernel)⟩
abbrev vX3_faultOfCells : pv_V := (yX3_faultOfCells, cX3_faultOfCells, 4, (some .int), none)
set_option maxRecDepth 20000 in
theorem oX3_faultOfCells : pv_okV vX3_faultOfCells 3 := ⟨⟨pv_memi 243 rfl rfl, pv_memi 36 (by decide +kernel) (by decide +kernel), ⟨by decide +kernel, by decide +kernel, by decide +kernel⟩, by decide, by decide +kernel, rfl⟩, pv_memi 241 (by decide +kernel) (by decide +kernel), pv_memi 242 (by decide +kernel) (by decide +kernel)⟩
abbrev vX3_cut : pv_V := (yX3_cut, cX3_cut, 2, (some .int), none)
set_option maxRecDepth 20000 in
theorem oX3_cut : pv_okV vX3_cut 1 := ⟨⟨pv_memi 468 rfl rfl, pv_memi 36 (by decide +kernel) (by decide +kernel), ⟨by decide +kernel, by decide +kernel, by decide +kernel⟩, by decide, by decide +kernel, rfl⟩, pv_memi 466 (by decide +kernel) (by decide +kernel), pv_memi 467 (by decide +kernel) (by decide +kernel)⟩
abbrev vX4_firstFault : pv_V := (yX4_firstFault, cX4_firstFault, 6, (some .int), none)
set_option maxRecDepth 20000 in
theorem oX4_firstFault : pv_okS vX4_firstFault 3 := ⟨⟨pv_memi 254 rfl rfl, pv_memi 42 (by decide +kernel) (by decide +kernel), ⟨by decide +kernel, by decide +kernel, by decide +kernel⟩, by decide, by decide +kernel, rfl⟩, pv_memi 253 (by decide +kernel) (by decide +kernel)⟩
abbrev vX4_goesOn : pv_V := (yX4_goesOn, cX4_goesOn, 3, (some .boolean), none)
set_option maxRecDepth 20000 in
theorem oX4_goesOn : pv_okS vX4_goesOn 3 := ⟨⟨pv_memi 257 rfl rfl, pv_memi 42 (by decide +kernel) (by decide +kernel), ⟨by decide +kernel, by decide +kernel, by decide +kernel⟩, by decide, by decide +kernel, rfl⟩, pv_memi 256 (by decide +kernel) (by decide +kernel)⟩
abbrev vX4_isDigit : pv_V := (yX4_isDigit, cX4_isDigit, 3, (some .boolean), none)
set_option maxRecDepth 20000 in
theorem oX4_isDigit : pv_okS vX4_isDigit 3 := ⟨⟨pv_memi 260 rfl rfl, pv_memi 42 (by decide +kernel) (by decide +kernel), ⟨by decide +kernel, by decide +kernel, by decide +kernel⟩, by decide, by decide +kernel, rfl⟩, pv_memi 259 (by decide +kernel) (by decide +kernel)⟩
abbrev vX4_fill : pv_V := (yX4_fill, cX4_fill, 7, none, none)
set_option maxRecDepth 20000 in
theorem oX4_fill : pv_okS vX4_fill 4 := ⟨⟨pv_memi 263 rfl rfl, pv_memi 42 (by decide +kernel) (by decide +kernel), ⟨by decide +kernel, by decide +kernel, by decide +kernel⟩, by decide, by decide +kernel, rfl⟩, pv_memi 262 (by decide +kernel) (by decide +kernel)⟩
abbrev vX4_kindOf : pv_V := (yX4_kindOf, cX4_kindOf, 1, (some .int), none)
set_option maxRecDepth 20000 in
theorem oX4_kindOf : pv_okS vX4_kindOf 1 := ⟨⟨pv_memi 266 rfl rfl, pv_memi 42 (by decide +kernel) (by decide +kernel), ⟨by decide +kernel, by decide +kernel, by decide +kernel⟩, by decide, by decide +kernel, rfl⟩, pv_memi 265 (by decide +kernel) (by decide +kernel)⟩
abbrev vX5_init : pv_V := (yX5_init, cX5_init, 1, none, none)
abbrev vX5_value : pv_V := (yX5_value, cX5_value, 1, (some .int), none)
set_option maxRecDepth 20000 in
theorem oX5_value : pv_okV vX5_value 0 := ⟨⟨pv_memi 278 rfl rfl, pv_memi 38 (by decide +kernel) (by decide +kernel), ⟨by decide +kernel, by decide +kernel, by decide +kernel⟩, by decide, by decide +kernel, rfl⟩, pv_memi 276 (by decide +kernel) (by decide +kernel), pv_memi 277 (by decide +kernel) (by decide +kernel)⟩
abbrev vX5_span : pv_V := (yX5_span, cX5_span, 2, (some .int), none)
set_option maxRecDepth 20000 in
theorem oX5_span : pv_okV vX5_span 1 := ⟨⟨pv_memi 327 rfl rfl, pv_memi 38 (by decide +kernel) (by decide +kernel), ⟨by decide +kernel, by decide +kernel, by decide +kernel⟩, by decide, by decide +kernel, rfl⟩, pv_memi 325 (by decide +kernel) (by decide +kernel), pv_memi 326 (by decide +kernel) (by decide +kernel)⟩
abbrev vX6_init : pv_V := (yX6_init, cX6_init, 2, none, none)
abbrev vX6_museum : pv_V := (yX6_museum, cX6_museum, 8, (some .int), none)
set_option maxRecDepth 20000 in
theorem oX6_museum : pv_okV vX6_museum 4 := ⟨⟨pv_memi 233 rfl rfl, pv_memi 35 (by decide +kernel) (by decide +kernel), ⟨by decide +kernel, by decide +kernel, by decide +kernel⟩, by decide, by decide +kernel, rfl⟩, pv_memi 231 (by decide +kernel) (by decide +kernel), pv_memi 232 (by decide +kernel) (by decide +kernel)⟩
abbrev vX6_ofThing : pv_V := (yX6_ofThing, cX6_ofThing, 4, (some .int), none)
set_option maxRecDepth 20000 in
theorem oX6_ofThing : pv_okV vX6_ofThing 2 := ⟨⟨pv_memi 270 rfl rfl, pv_memi 35 (by decide +kernel) (by decide +kernel), ⟨by decide +kernel, by decide +kernel, by decide +kernel⟩, by decide, by decide +kernel, rfl⟩, pv_memi 268 (by decide +kernel) (by decide +kernel), pv_memi 269 (by decide +kernel) (by decide +kernel)⟩
abbrev vX6_penalty : pv_V := (yX6_penalty, cX6_penalty, 3, (some .int), none)
set_option maxRecDepth 20000 in
theorem oX6_penalty : pv_okV vX6_penalty 1 := ⟨⟨pv_memi 282 rfl rfl, pv_memi 35 (by decide +kernel) (by decide +kernel), ⟨by decide +kernel, by decide +kernel, by decide +kernel⟩, by decide, by decide +kernel, rfl⟩, pv_memi 280 (by decide +kernel) (by decide +kernel), pv_memi 281 (by decide +kernel) (by decide +kernel)⟩
abbrev vX6_law : pv_V := (yX6_law, cX6_law, 3, (some .int), none)
set_option maxRecDepth 20000 in
theorem oX6_law : pv_okV vX6_law 1 := ⟨⟨pv_memi 290 rfl rfl, pv_memi 35 (by decide +kernel) (by decide +kernel), ⟨by decide +kernel, by decide +kernel, by decide +kernel⟩, by decide, by decide +kernel, rfl⟩, pv_memi 288 (by decide +kernel) (by decide +kernel), pv_memi 289 (by decide +kernel) (by decide +kernel)⟩
abbrev vX6_use : pv_V := (yX6_use, cX6_use, 4, (some .int), none)
set_option maxRecDepth 20000 in
theorem oX6_use : pv_okV vX6_use 2 := ⟨⟨pv_memi 294 rfl rfl, pv_memi 35 (by decide +kernel) (by decide +kernel), ⟨by decide +kernel, by decide +kernel, by decide +kernel⟩, by decide, by decide +kernel, rfl⟩, pv_memi 292 (by decide +kernel) (by decide +kernel), pv_memi 293 (by decide +kernel) (by decide +kernel)⟩
abbrev vX6_round : pv_V := (yX6_round, cX6_round, 10, (some .int), none)
set_option maxRecDepth 20000 in
theorem oX6_round : pv_okV vX6_round 4 := ⟨⟨pv_memi 298 rfl rfl, pv_memi 35 (by decide +kernel) (by decide +kernel), ⟨by decide +kernel, by decide +kernel, by decide +kernel⟩, by decide, by decide +kernel, rfl⟩, pv_memi 296 (by decide +kernel) (by decide +kernel), pv_memi 297 (by decide +kernel) (by decide +kernel)⟩
abbrev vX6_best : pv_V := (yX6_best, cX6_best, 2, (some .int), none)
set_option maxRecDepth 20000 in
theorem oX6_best : pv_okV vX6_best 1 := ⟨⟨pv_memi 350 rfl rfl, pv_memi 35 (by decide +kernel) (by decide +kernel), ⟨by decide +kernel, by decide +kernel, by decide +kernel⟩, by decide, by decide +kernel, rfl⟩, pv_memi 348 (by decide +kernel) (by decide +kernel), pv_memi 349 (by decide +kernel) (by decide +kernel)⟩
abbrev vX6_mild : pv_V := (yX6_mild, cX6_mild, 2, (some .int), none)
set_option maxRecDepth 20000 in
theorem oX6_mild : pv_okV vX6_mild 1 := ⟨⟨pv_memi 383 rfl rfl, pv_memi 35 (by decide +kernel) (by decide +kernel), ⟨by decide +kernel, by decide +kernel, by decide +kernel⟩, by decide, by decide +kernel, rfl⟩, pv_memi 381 (by decide +kernel) (by decide +kernel), pv_memi 382 (by decide +kernel) (by decide +kernel)⟩
abbrev vX6_worth : pv_V := (yX6_worth, cX6_worth, 3, (some .int), none)
set_option maxRecDepth 20000 in
theorem oX6_worth : pv_okV vX6_worth 1 := ⟨⟨pv_memi 387 rfl rfl, pv_memi 35 (by decide +kernel) (by decide +kernel), ⟨by decide +kernel, by decide +kernel, by decide +kernel⟩, by decide, by decide +kernel, rfl⟩, pv_memi 385 (by decide +kernel) (by decide +kernel), pv_memi 386 (by decide +kernel) (by decide +kernel)⟩
abbrev vX6_shift : pv_V := (yX6_shift, cX6_shift, 8, (some .int), none)
set_option maxRecDepth 20000 in
theorem oX6_shift : pv_okV vX6_shift 1 := ⟨⟨pv_memi 391 rfl rfl, pv_memi 35 (by decide +kernel) (by decide +kernel), ⟨by decide +kernel, by decide +kernel, by decide +kernel⟩, by decide, by decide +kernel, rfl⟩, pv_memi 389 (by decide +kernel) (by decide +kernel), pv_memi 390 (by decide +kernel) (by decide +kernel)⟩
abbrev vX6_reading : pv_V := (yX6_reading, cX6_reading, 4, (some .int), none)
set_option maxRecDepth 20000 in
theorem oX6_reading : pv_okV vX6_reading 3 := ⟨⟨pv_memi 399 rfl rfl, pv_memi 35 (by decide +kernel) (by decide +kernel), ⟨by decide +kernel, by decide +kernel, by decide +kernel⟩, by decide, by decide +kernel, rfl⟩, pv_memi 397 (by decide +kernel) (by decide +kernel), pv_memi 398 (by decide +kernel) (by decide +kernel)⟩
abbrev vX6_back : pv_V := (yX6_back, cX6_back, 2, (some .int), none)
set_option maxRecDepth 20000 in
theorem oX6_back : pv_okV vX6_back 1 := ⟨⟨pv_memi 410 rfl rfl, pv_memi 35 (by decide +kernel) (by decide +kernel), ⟨by decide +kernel, by decide +kernel, by decide +kernel⟩, by decide, by decide +kernel, rfl⟩, pv_memi 408 (by decide +kernel) (by decide +kernel), pv_memi 409 (by decide +kernel) (by decide +kernel)⟩
abbrev vX6_rounds : pv_V := (yX6_rounds, cX6_rounds, 2, (some .int), none)
set_option maxRecDepth 20000 in
theorem oX6_rounds : pv_okV vX6_rounds 1 := ⟨⟨pv_memi 414 rfl rfl, pv_memi 35 (by decide +kernel) (by decide +kernel), ⟨by decide +kernel, by decide +kernel, by decide +kernel⟩, by decide, by decide +kernel, rfl⟩, pv_memi 412 (by decide +kernel) (by decide +kernel), pv_memi 413 (by decide +kernel) (by decide +kernel)⟩
abbrev vX6_sure : pv_V := (yX6_sure, cX6_sure, 2, (some .int), none)
set_option maxRecDepth 20000 in
theorem oX6_sure : pv_okV vX6_sure 1 := ⟨⟨pv_memi 426 rfl rfl, pv_memi 35 (by decide +kernel) (by decide +kernel), ⟨by decide +kernel, by decide +kernel, by decide +kernel⟩, by decide, by decide +kernel, rfl⟩, pv_memi 424 (by decide +kernel) (by decide +kernel), pv_memi 425 (by decide +kernel) (by decide +kernel)⟩
abbrev vX6_laws : pv_V := (yX6_laws, cX6_laws, 9, (some .int), none)
set_option maxRecDepth 20000 in
theorem oX6_laws : pv_okV vX6_laws 4 := ⟨⟨pv_memi 430 rfl rfl, pv_memi 35 (by decide +kernel) (by decide +kernel), ⟨by decide +kernel, by decide +kernel, by decide +kernel⟩, by decide, by decide +kernel, rfl⟩, pv_memi 428 (by decide +kernel) (by decide +kernel), pv_memi 429 (by decide +kernel) (by decide +kernel)⟩
abbrev vX6_used : pv_V := (yX6_used, cX6_used, 12, (some .int), none)
set_option maxRecDepth 20000 in
theorem oX6_used : pv_okV vX6_used 5 := ⟨⟨pv_memi 434 rfl rfl, pv_memi 35 (by decide +kernel) (by decide +kernel), ⟨by decide +kernel, by decide +kernel, by decide +kernel⟩, by decide, by decide +kernel, rfl⟩, pv_memi 432 (by decide +kernel) (by decide +kernel), pv_memi 433 (by decide +kernel) (by decide +kernel)⟩
abbrev vX6_odds : pv_V := (yX6_odds, cX6_odds, 13, (some .long), none)
set_option maxRecDepth 20000 in
theorem oX6_odds : pv_okV vX6_odds 5 := ⟨⟨pv_memi 443 rfl rfl, pv_memi 35 (by decide +kernel) (by decide +kernel), ⟨by decide +kernel, by decide +kernel, by decide +kernel⟩, by decide, by decide +kernel, rfl⟩, pv_memi 441 (by decide +kernel) (by decide +kernel), pv_memi 442 (by decide +kernel) (by decide +kernel)⟩
abbrev vX6_sheet : pv_V := (yX6_sheet, cX6_sheet, 4, (some .int), none)
set_option maxRecDepth 20000 in
theorem oX6_sheet : pv_okV vX6_sheet 3 := ⟨⟨pv_memi 452 rfl rfl, pv_memi 35 (by decide +kernel) (by decide +kernel), ⟨by decide +kernel, by decide +kernel, by decide +kernel⟩, by decide, by decide +kernel, rfl⟩, pv_memi 450 (by decide +kernel) (by decide +kernel), pv_memi 451 (by decide +kernel) (by decide +kernel)⟩
abbrev vX6_lose : pv_V := (yX6_lose, cX6_lose, 3, (some .int), none)
set_option maxRecDepth 20000 in
theorem oX6_lose : pv_okV vX6_lose 1 := ⟨⟨pv_memi 460 rfl rfl, pv_memi 35 (by decide +kernel) (by decide +kernel), ⟨by decide +kernel, by decide +kernel, by decide +kernel⟩, by decide, by decide +kernel, rfl⟩, pv_memi 458 (by decide +kernel) (by decide +kernel), pv_memi 459 (by decide +kernel) (by decide +kernel)⟩
abbrev vX6_put : pv_V := (yX6_put, cX6_put, 6, (some .int), none)
set_option maxRecDepth 20000 in
theorem oX6_put : pv_okV vX6_put 3 := ⟨⟨pv_memi 464 rfl rfl, pv_memi 35 (by decide +kernel) (by decide +kernel), ⟨by decide +kernel, by decide +kernel, by decide +kernel⟩, by decide, by decide +kernel, rfl⟩, pv_memi 462 (by decide +kernel) (by decide +kernel), pv_memi 463 (by decide +kernel) (by decide +kernel)⟩
abbrev vX6_cell : pv_V := (yX6_cell, cX6_cell, 4, (some .long), none)
set_option maxRecDepth 20000 in
theorem oX6_cell : pv_okV vX6_cell 3 := ⟨⟨pv_memi 472 rfl rfl, pv_memi 35 (by decide +kernel) (by decide +kernel), ⟨by decide +kernel, by decide +kernel, by decide +kernel⟩, by decide, by decide +kernel, rfl⟩, pv_memi 470 (by decide +kernel) (by decide +kernel), pv_memi 471 (by decide +kernel) (by decide +kernel)⟩
abbrev vX6_copy : pv_V := (yX6_copy, cX6_copy, 8, (some .int), none)
set_option maxRecDepth 20000 in
theorem oX6_copy : pv_okV vX6_copy 5 := ⟨⟨pv_memi 476 rfl rfl, pv_memi 35 (by decide +kernel) (by decide +kernel), ⟨by decide +kernel, by decide +kernel, by decide +kernel⟩, by decide, by decide +kernel, rfl⟩, pv_memi 474 (by decide +kernel) (by decide +kernel), pv_memi 475 (by decide +kernel) (by decide +kernel)⟩
abbrev vX6_tell : pv_V := (yX6_tell, cX6_tell, 3, (some .int), none)
set_option maxRecDepth 20000 in
theorem oX6_tell : pv_okV vX6_tell 1 := ⟨⟨pv_memi 482 rfl rfl, pv_memi 35 (by decide +kernel) (by decide +kernel), ⟨by decide +kernel, by decide +kernel, by decide +kernel⟩, by decide, by decide +kernel, rfl⟩, pv_memi 480 (by decide +kernel) (by decide +kernel), pv_memi 481 (by decide +kernel) (by decide +kernel)⟩
abbrev vX6_label : pv_V := (yX6_label, cX6_label, 2, (some .int), none)
set_option maxRecDepth 20000 in
theorem oX6_label : pv_okV vX6_label 1 := ⟨⟨pv_memi 502 rfl rfl, pv_memi 35 (by decide +kernel) (by decide +kernel), ⟨by decide +kernel, by decide +kernel, by decide +kernel⟩, by decide, by decide +kernel, rfl⟩, pv_memi 500 (by decide +kernel) (by decide +kernel), pv_memi 501 (by decide +kernel) (by decide +kernel)⟩
abbrev vX6_as : pv_V := (yX6_as, cX6_as, 3, (some .int), none)
set_option maxRecDepth 20000 in
theorem oX6_as : pv_okV vX6_as 2 := ⟨⟨pv_memi 506 rfl rfl, pv_memi 35 (by decide +kernel) (by decide +kernel), ⟨by decide +kernel, by decide +kernel, by decide +kernel⟩, by decide, by decide +kernel, rfl⟩, pv_memi 504 (by decide +kernel) (by decide +kernel), pv_memi 505 (by decide +kernel) (by decide +kernel)⟩
abbrev vX6_trace : pv_V := (yX6_trace, cX6_trace, 1, (some .int), none)
set_option maxRecDepth 20000 in
theorem oX6_trace : pv_okV vX6_trace 0 := ⟨⟨pv_memi 510 rfl rfl, pv_memi 35 (by decide +kernel) (by decide +kernel), ⟨by decide +kernel, by decide +kernel, by decide +kernel⟩, by decide, by decide +kernel, rfl⟩, pv_memi 508 (by decide +kernel) (by decide +kernel), pv_memi 509 (by decide +kernel) (by decide +kernel)⟩
abbrev vX6_fault : pv_V := (yX6_fault, cX6_fault, 1, (some .int), none)
set_option maxRecDepth 20000 in
theorem oX6_fault : pv_okV vX6_fault 0 := ⟨⟨pv_memi 514 rfl rfl, pv_memi 35 (by decide +kernel) (by decide +kernel), ⟨by decide +kernel, by decide +kernel, by decide +kernel⟩, by decide, by decide +kernel, rfl⟩, pv_memi 512 (by decide +kernel) (by decide +kernel), pv_memi 513 (by decide +kernel) (by decide +kernel)⟩
abbrev vX6_many : pv_V := (yX6_many, cX6_many, 2, (some .int), none)
set_option maxRecDepth 20000 in
theorem oX6_many : pv_okV vX6_many 1 := ⟨⟨pv_memi 518 rfl rfl, pv_memi 35 (by decide +kernel) (by decide +kernel), ⟨by decide +kernel, by decide +kernel, by decide +kernel⟩, by decide, by decide +kernel, rfl⟩, pv_memi 516 (by decide +kernel) (by decide +kernel), pv_memi 517 (by decide +kernel) (by decide +kernel)⟩
abbrev vX6_isSheet : pv_V := (yX6_isSheet, cX6_isSheet, 1, (some .boolean), none)
set_option maxRecDepth 20000 in
theorem oX6_isSheet : pv_okS vX6_isSheet 1 := ⟨⟨pv_memi 236 rfl rfl, pv_memi 35 (by decide +kernel) (by decide +kernel), ⟨by decide +kernel, by decide +kernel, by decide +kernel⟩, by decide, by decide +kernel, rfl⟩, pv_memi 235 (by decide +kernel) (by decide +kernel)⟩
abbrev vX6_isLane : pv_V := (yX6_isLane, cX6_isLane, 1, (some .boolean), none)
set_option maxRecDepth 20000 in
theorem oX6_isLane : pv_okS vX6_isLane 1 := ⟨⟨pv_memi 239 rfl rfl, pv_memi 35 (by decide +kernel) (by decide +kernel), ⟨by decide +kernel, by decide +kernel, by decide +kernel⟩, by decide, by decide +kernel, rfl⟩, pv_memi 238 (by decide +kernel) (by decide +kernel)⟩
abbrev vX6_isHour : pv_V := (yX6_isHour, cX6_isHour, 1, (some .boolean), none)
set_option maxRecDepth 20000 in
theorem oX6_isHour : pv_okS vX6_isHour 1 := ⟨⟨pv_memi 402 rfl rfl, pv_memi 35 (by decide +kernel) (by decide +kernel), ⟨by decide +kernel, by decide +kernel, by decide +kernel⟩, by decide, by decide +kernel, rfl⟩, pv_memi 401 (by decide +kernel) (by decide +kernel)⟩
abbrev vX6_isIn : pv_V := (yX6_isIn, cX6_isIn, 2, (some .boolean), none)
set_option maxRecDepth 20000 in
theorem oX6_isIn : pv_okS vX6_isIn 2 := ⟨⟨pv_memi 314 rfl rfl, pv_memi 35 (by decide +kernel) (by decide +kernel), ⟨by decide +kernel, by decide +kernel, by decide +kernel⟩, by decide, by decide +kernel, rfl⟩, pv_memi 313 (by decide +kernel) (by decide +kernel)⟩
abbrev vX6_answerFault : pv_V := (yX6_answerFault, cX6_answerFault, 2, (some .int), none)
set_option maxRecDepth 20000 in
theorem oX6_answerFault : pv_okV vX6_answerFault 1 := ⟨⟨pv_memi 251 rfl rfl, pv_memi 35 (by decide +kernel) (by decide +kernel), ⟨by decide +kernel, by decide +kernel, by decide +kernel⟩, by decide, by decide +kernel, rfl⟩, pv_memi 250 (by decide +kernel) (by decide +kernel), pv_memi 0 (by decide +kernel) (by decide +kernel)⟩
abbrev vX6_hearRound : pv_V := (yX6_hearRound, cX6_hearRound, 8, (some .int), none)
set_option maxRecDepth 20000 in
theorem oX6_hearRound : pv_okV vX6_hearRound 4 := ⟨⟨pv_memi 302 rfl rfl, pv_memi 35 (by decide +kernel) (by decide +kernel), ⟨by decide +kernel, by decide +kernel, by decide +kernel⟩, by decide, by decide +kernel, rfl⟩, pv_memi 301 (by decide +kernel) (by decide +kernel), pv_memi 1 (by decide +kernel) (by decide +kernel)⟩
abbrev vX6_searchBest : pv_V := (yX6_searchBest, cX6_searchBest, 2, none, none)
set_option maxRecDepth 20000 in
theorem oX6_searchBest : pv_okV vX6_searchBest 1 := ⟨⟨pv_memi 354 rfl rfl, pv_memi 35 (by decide +kernel) (by decide +kernel), ⟨by decide +kernel, by decide +kernel, by decide +kernel⟩, by decide, by decide +kernel, rfl⟩, pv_memi 353 (by decide +kernel) (by decide +kernel), pv_memi 2 (by decide +kernel) (by decide +kernel)⟩
abbrev vX6_takesByBest : pv_V := (yX6_takesByBest, cX6_takesByBest, 4, (some .int), none)
set_option maxRecDepth 20000 in
theorem oX6_takesByBest : pv_okV vX6_takesByBest 1 := ⟨⟨pv_memi 395 rfl rfl, pv_memi 35 (by decide +kernel) (by decide +kernel), ⟨by decide +kernel, by decide +kernel, by decide +kernel⟩, by decide, by decide +kernel, rfl⟩, pv_memi 394 (by decide +kernel) (by decide +kernel), pv_memi 3 (by decide +kernel) (by decide +kernel)⟩
abbrev vX6_searchRead : pv_V := (yX6_searchRead, cX6_searchRead, 1, none, none)
set_option maxRecDepth 20000 in
theorem oX6_searchRead : pv_okV vX6_searchRead 0 := ⟨⟨pv_memi 418 rfl rfl, pv_memi 35 (by decide +kernel) (by decide +kernel), ⟨by decide +kernel, by decide +kernel, by decide +kernel⟩, by decide, by decide +kernel, rfl⟩, pv_memi 417 (by decide +kernel) (by decide +kernel), pv_memi 4 (by decide +kernel) (by decide +kernel)⟩
abbrev vX6_walk : pv_V := (yX6_walk, cX6_walk, 8, none, none)
set_option maxRecDepth 20000 in
theorem oX6_walk : pv_okS vX6_walk 5 := ⟨⟨pv_memi 361 rfl rfl, pv_memi 35 (by decide +kernel) (by decide +kernel), ⟨by decide +kernel, by decide +kernel, by decide +kernel⟩, by decide, by decide +kernel, rfl⟩, pv_memi 360 (by decide +kernel) (by decide +kernel)⟩
abbrev vX6_waysForAtMost : pv_V := (yX6_waysForAtMost, cX6_waysForAtMost, 7, (some .long), none)
set_option maxRecDepth 20000 in
theorem oX6_waysForAtMost : pv_okS vX6_waysForAtMost 2 := ⟨⟨pv_memi 447 rfl rfl, pv_memi 35 (by decide +kernel) (by decide +kernel), ⟨by decide +kernel, by decide +kernel, by decide +kernel⟩, by decide, by decide +kernel, rfl⟩, pv_memi 446 (by decide +kernel) (by decide +kernel)⟩
abbrev vX6_leave : pv_V := (yX6_leave, cX6_leave, 2, none, none)
set_option maxRecDepth 20000 in
theorem oX6_leave : pv_okV vX6_leave 1 := ⟨⟨pv_memi 490 rfl rfl, pv_memi 35 (by decide +kernel) (by decide +kernel), ⟨by decide +kernel, by decide +kernel, by decide +kernel⟩, by decide, by decide +kernel, rfl⟩, pv_memi 489 (by decide +kernel) (by decide +kernel), pv_memi 6 (by decide +kernel) (by decide +kernel)⟩
abbrev vX6_thingTells : pv_V := (yX6_thingTells, cX6_thingTells, 2, (some .int), none)
set_option maxRecDepth 20000 in
theorem oX6_thingTells : pv_okV vX6_thingTells 1 := ⟨⟨pv_memi 498 rfl rfl, pv_memi 35 (by decide +kernel) (by decide +kernel), ⟨by decide +kernel, by decide +kernel, by decide +kernel⟩, by decide, by decide +kernel, rfl⟩, pv_memi 497 (by decide +kernel) (by decide +kernel), pv_memi 8 (by decide +kernel) (by decide +kernel)⟩
abbrev vX6_heirloomTells : pv_V := (yX6_heirloomTells, cX6_heirloomTells, 2, (some .int), none)
set_option maxRecDepth 20000 in
theorem oX6_heirloomTells : pv_okV vX6_heirloomTells 1 := ⟨⟨pv_memi 494 rfl rfl, pv_memi 35 (by decide +kernel) (by decide +kernel), ⟨by decide +kernel, by decide +kernel, by decide +kernel⟩, by decide, by decide +kernel, rfl⟩, pv_memi 493 (by decide +kernel) (by decide +kernel), pv_memi 7 (by decide +kernel) (by decide +kernel)⟩
abbrev vX6_livingTells : pv_V := (yX6_livingTells, cX6_livingTells, 3, (some .int), none)
set_option maxRecDepth 20000 in
theorem oX6_livingTells : pv_okV vX6_livingTells 1 := ⟨⟨pv_memi 486 rfl rfl, pv_memi 35 (by decide +kernel) (by decide +kernel), ⟨by decide +kernel, by decide +kernel, by decide +kernel⟩, by decide, by decide +kernel, rfl⟩, pv_memi 485 (by decide +kernel) (by decide +kernel), pv_memi 5 (by decide +kernel) (by decide +kernel)⟩
abbrev vX7_init : pv_V := (yX7_init, cX7_init, 2, none, none)
abbrev vX7_in : pv_V := (yX7_in, cX7_in, 6, (some .boolean), none)
set_option maxRecDepth 20000 in
theorem oX7_in : pv_okS vX7_in 3 := ⟨⟨pv_memi 638 rfl rfl, pv_memi 41 (by decide +kernel) (by decide +kernel), ⟨by decide +kernel, by decide +kernel, by decide +kernel⟩, by decide, by decide +kernel, rfl⟩, pv_memi 637 (by decide +kernel) (by decide +kernel)⟩
abbrev vX7_lost : pv_V := (yX7_lost, cX7_lost, 0, (some .long), none)
set_option maxRecDepth 20000 in
theorem oX7_lost : pv_okS vX7_lost 0 := ⟨⟨pv_memi 809 rfl rfl, pv_memi 41 (by decide +kernel) (by decide +kernel), ⟨by decide +kernel, by decide +kernel, by decide +kernel⟩, by decide, by decide +kernel, rfl⟩, pv_memi 808 (by decide +kernel) (by decide +kernel)⟩
abbrev vX7_isIn : pv_V := (yX7_isIn, cX7_isIn, 2, (some .boolean), none)
set_option maxRecDepth 20000 in
theorem oX7_isIn : pv_okS vX7_isIn 2 := ⟨⟨pv_memi 722 rfl rfl, pv_memi 41 (by decide +kernel) (by decide +kernel), ⟨by decide +kernel, by decide +kernel, by decide +kernel⟩, by decide, by decide +kernel, rfl⟩, pv_memi 721 (by decide +kernel) (by decide +kernel)⟩
abbrev vX7_told : pv_V := (yX7_told, cX7_told, 11, (some .long), none)
set_option maxRecDepth 20000 in
theorem oX7_told : pv_okS vX7_told 3 := ⟨⟨pv_memi 813 rfl rfl, pv_memi 41 (by decide +kernel) (by decide +kernel), ⟨by decide +kernel, by decide +kernel, by decide +kernel⟩, by decide, by decide +kernel, rfl⟩, pv_memi 812 (by decide +kernel) (by decide +kernel)⟩
abbrev vX7_refused : pv_V := (yX7_refused, cX7_refused, 2, (some .int), none)
set_option maxRecDepth 20000 in
theorem oX7_refused : pv_okV vX7_refused 1 := ⟨⟨pv_memi 642 rfl rfl, pv_memi 41 (by decide +kernel) (by decide +kernel), ⟨by decide +kernel, by decide +kernel, by decide +kernel⟩, by decide, by decide +kernel, rfl⟩, pv_memi 641 (by decide +kernel) (by decide +kernel), pv_memi 9 (by decide +kernel) (by decide +kernel)⟩
abbrev vX7_failed : pv_V := (yX7_failed, cX7_failed, 2, (some .int), none)
set_option maxRecDepth 20000 in
theorem oX7_failed : pv_okV vX7_failed 1 := ⟨⟨pv_memi 651 rfl rfl, pv_memi 41 (by decide +kernel) (by decide +kernel), ⟨by decide +kernel, by decide +kernel, by decide +kernel⟩, by decide, by decide +kernel, rfl⟩, pv_memi 650 (by decide +kernel) (by decide +kernel), pv_memi 11 (by decide +kernel) (by decide +kernel)⟩
abbrev vX7_failedLong : pv_V := (yX7_failedLong, cX7_failedLong, 2, (some .long), none)
set_option maxRecDepth 20000 in
theorem oX7_failedLong : pv_okV vX7_failedLong 1 := ⟨⟨pv_memi 837 rfl rfl, pv_memi 41 (by decide +kernel) (by decide +kernel), ⟨by decide +kernel, by decide +kernel, by decide +kernel⟩, by decide, by decide +kernel, rfl⟩, pv_memi 836 (by decide +kernel) (by decide +kernel), pv_memi 32 (by decide +kernel) (by decide +kernel)⟩
abbrev vX7_noThing : pv_V := (yX7_noThing, cX7_noThing, 2, (some .boolean), none)
set_option maxRecDepth 20000 in
theorem oX7_noThing : pv_okV vX7_noThing 1 := ⟨⟨pv_memi 678 rfl rfl, pv_memi 41 (by decide +kernel) (by decide +kernel), ⟨by decide +kernel, by decide +kernel, by decide +kernel⟩, by decide, by decide +kernel, rfl⟩, pv_memi 677 (by decide +kernel) (by decide +kernel), pv_memi 16 (by decide +kernel) (by decide +kernel)⟩
abbrev vX7_codeAt : pv_V := (yX7_codeAt, cX7_codeAt, 3, (some .int), none)
set_option maxRecDepth 20000 in
theorem oX7_codeAt : pv_okV vX7_codeAt 2 := ⟨⟨pv_memi 662 rfl rfl, pv_memi 41 (by decide +kernel) (by decide +kernel), ⟨by decide +kernel, by decide +kernel, by decide +kernel⟩, by decide, by decide +kernel, rfl⟩, pv_memi 661 (by decide +kernel) (by decide +kernel), pv_memi 13 (by decide +kernel) (by decide +kernel)⟩
abbrev vX7_figure : pv_V := (yX7_figure, cX7_figure, 7, (some .int), none)
set_option maxRecDepth 20000 in
theorem oX7_figure : pv_okV vX7_figure 4 := ⟨⟨pv_memi 666 rfl rfl, pv_memi 41 (by decide +kernel) (by decide +kernel), ⟨by decide +kernel, by decide +kernel, by decide +kernel⟩, by decide, by decide +kernel, rfl⟩, pv_memi 665 (by decide +kernel) (by decide +kernel), pv_memi 14 (by decide +kernel) (by decide +kernel)⟩
abbrev vX7_readsThing : pv_V := (yX7_readsThing, cX7_readsThing, 9, (some .boolean), none)
set_option maxRecDepth 20000 in
theorem oX7_readsThing : pv_okV vX7_readsThing 2 := ⟨⟨pv_memi 670 rfl rfl, pv_memi 41 (by decide +kernel) (by decide +kernel), ⟨by decide +kernel, by decide +kernel, by decide +kernel⟩, by decide, by decide +kernel, rfl⟩, pv_memi 669 (by decide +kernel) (by decide +kernel), pv_memi 15 (by decide +kernel) (by decide +kernel)⟩
abbrev vX7_readsMuseum : pv_V := (yX7_readsMuseum, cX7_readsMuseum, 4, (some .boolean), none)
set_option maxRecDepth 20000 in
theorem oX7_readsMuseum : pv_okV vX7_readsMuseum 2 := ⟨⟨pv_memi 658 rfl rfl, pv_memi 41 (by decide +kernel) (by decide +kernel), ⟨by decide +kernel, by decide +kernel, by decide +kernel⟩, by decide, by decide +kernel, rfl⟩, pv_memi 657 (by decide +kernel) (by decide +kernel), pv_memi 12 (by decide +kernel) (by decide +kernel)⟩
abbrev vX7_cellsBarred : pv_V := (yX7_cellsBarred, cX7_cellsBarred, 6, (some .int), none)
set_option maxRecDepth 20000 in
theorem oX7_cellsBarred : pv_okV vX7_cellsBarred 4 := ⟨⟨pv_memi 647 rfl rfl, pv_memi 41 (by decide +kernel) (by decide +kernel), ⟨by decide +kernel, by decide +kernel, by decide +kernel⟩, by decide, by decide +kernel, rfl⟩, pv_memi 646 (by decide +kernel) (by decide +kernel), pv_memi 10 (by decide +kernel) (by decide +kernel)⟩
abbrev vX7_museum : pv_V := (yX7_museum, cX7_museum, 7, (some .int), none)
set_option maxRecDepth 20000 in
theorem oX7_museum : pv_okV vX7_museum 4 := ⟨⟨pv_memi 631 rfl rfl, pv_memi 41 (by decide +kernel) (by decide +kernel), ⟨by decide +kernel, by decide +kernel, by decide +kernel⟩, by decide, by decide +kernel, rfl⟩, pv_memi 629 (by decide +kernel) (by decide +kernel), pv_memi 630 (by decide +kernel) (by decide +kernel)⟩
abbrev vX7_valueOf : pv_V := (yX7_valueOf, cX7_valueOf, 3, (some .int), none)
set_option maxRecDepth 20000 in
theorem oX7_valueOf : pv_okV vX7_valueOf 1 := ⟨⟨pv_memi 682 rfl rfl, pv_memi 41 (by decide +kernel) (by decide +kernel), ⟨by decide +kernel, by decide +kernel, by decide +kernel⟩, by decide, by decide +kernel, rfl⟩, pv_memi 681 (by decide +kernel) (by decide +kernel), pv_memi 17 (by decide +kernel) (by decide +kernel)⟩
abbrev vX7_ofThing : pv_V := (yX7_ofThing, cX7_ofThing, 3, (some .int), none)
set_option maxRecDepth 20000 in
theorem oX7_ofThing : pv_okV vX7_ofThing 2 := ⟨⟨pv_memi 674 rfl rfl, pv_memi 41 (by decide +kernel) (by decide +kernel), ⟨by decide +kernel, by decide +kernel, by decide +kernel⟩, by decide, by decide +kernel, rfl⟩, pv_memi 672 (by decide +kernel) (by decide +kernel), pv_memi 673 (by decide +kernel) (by decide +kernel)⟩
abbrev vX7_penalty : pv_V := (yX7_penalty, cX7_penalty, 3, (some .int), none)
set_option maxRecDepth 20000 in
theorem oX7_penalty : pv_okV vX7_penalty 1 := ⟨⟨pv_memi 686 rfl rfl, pv_memi 41 (by decide +kernel) (by decide +kernel), ⟨by decide +kernel, by decide +kernel, by decide +kernel⟩, by decide, by decide +kernel, rfl⟩, pv_memi 684 (by decide +kernel) (by decide +kernel), pv_memi 685 (by decide +kernel) (by decide +kernel)⟩
abbrev vX7_law : pv_V := (yX7_law, cX7_law, 3, (some .int), none)
set_option maxRecDepth 20000 in
theorem oX7_law : pv_okV vX7_law 1 := ⟨⟨pv_memi 691 rfl rfl, pv_memi 41 (by decide +kernel) (by decide +kernel), ⟨by decide +kernel, by decide +kernel, by decide +kernel⟩, by decide, by decide +kernel, rfl⟩, pv_memi 689 (by decide +kernel) (by decide +kernel), pv_memi 690 (by decide +kernel) (by decide +kernel)⟩
abbrev vX7_use : pv_V := (yX7_use, cX7_use, 4, (some .int), none)
set_option maxRecDepth 20000 in
theorem oX7_use : pv_okV vX7_use 2 := ⟨⟨pv_memi 695 rfl rfl, pv_memi 41 (by decide +kernel) (by decide +kernel), ⟨by decide +kernel, by decide +kernel, by decide +kernel⟩, by decide, by decide +kernel, rfl⟩, pv_memi 693 (by decide +kernel) (by decide +kernel), pv_memi 694 (by decide +kernel) (by decide +kernel)⟩
abbrev vX7_casesOf : pv_V := (yX7_casesOf, cX7_casesOf, 4, (some .int), none)
set_option maxRecDepth 20000 in
theorem oX7_casesOf : pv_okV vX7_casesOf 1 := ⟨⟨pv_memi 715 rfl rfl, pv_memi 41 (by decide +kernel) (by decide +kernel), ⟨by decide +kernel, by decide +kernel, by decide +kernel⟩, by decide, by decide +kernel, rfl⟩, pv_memi 714 (by decide +kernel) (by decide +kernel), pv_memi 20 (by decide +kernel) (by decide +kernel)⟩
abbrev vX7_takingOf : pv_V := (yX7_takingOf, cX7_takingOf, 5, (some .int), none)
set_option maxRecDepth 20000 in
theorem oX7_takingOf : pv_okV vX7_takingOf 2 := ⟨⟨pv_memi 719 rfl rfl, pv_memi 41 (by decide +kernel) (by decide +kernel), ⟨by decide +kernel, by decide +kernel, by decide +kernel⟩, by decide, by decide +kernel, rfl⟩, pv_memi 718 (by decide +kernel) (by decide +kernel), pv_memi 21 (by decide +kernel) (by decide +kernel)⟩
abbrev vX7_missedIn : pv_V := (yX7_missedIn, cX7_missedIn, 4, (some .int), none)
set_option maxRecDepth 20000 in
theorem oX7_missedIn : pv_okV vX7_missedIn 1 := ⟨⟨pv_memi 726 rfl rfl, pv_memi 41 (by decide +kernel) (by decide +kernel), ⟨by decide +kernel, by decide +kernel, by decide +kernel⟩, by decide, by decide +kernel, rfl⟩, pv_memi 725 (by decide +kernel) (by decide +kernel), pv_memi 22 (by decide +kernel) (by decide +kernel)⟩
abbrev vX7_goRound : pv_V := (yX7_goRound, cX7_goRound, 4, (some .boolean), none)
set_option maxRecDepth 20000 in
theorem oX7_goRound : pv_okV vX7_goRound 0 := ⟨⟨pv_memi 711 rfl rfl, pv_memi 41 (by decide +kernel) (by decide +kernel), ⟨by decide +kernel, by decide +kernel, by decide +kernel⟩, by decide, by decide +kernel, rfl⟩, pv_memi 710 (by decide +kernel) (by decide +kernel), pv_memi 19 (by decide +kernel) (by decide +kernel)⟩
abbrev vX7_leftNow : pv_V := (yX7_leftNow, cX7_leftNow, 1, (some .int), none)
set_option maxRecDepth 20000 in
theorem oX7_leftNow : pv_okV vX7_leftNow 0 := ⟨⟨pv_memi 730 rfl rfl, pv_memi 41 (by decide +kernel) (by decide +kernel), ⟨by decide +kernel, by decide +kernel, by decide +kernel⟩, by decide, by decide +kernel, rfl⟩, pv_memi 729 (by decide +kernel) (by decide +kernel), pv_memi 23 (by decide +kernel) (by decide +kernel)⟩
abbrev vX7_roundBarred : pv_V := (yX7_roundBarred, cX7_roundBarred, 6, (some .int), none)
set_option maxRecDepth 20000 in
theorem oX7_roundBarred : pv_okV vX7_roundBarred 3 := ⟨⟨pv_memi 706 rfl rfl, pv_memi 41 (by decide +kernel) (by decide +kernel), ⟨by decide +kernel, by decide +kernel, by decide +kernel⟩, by decide, by decide +kernel, rfl⟩, pv_memi 705 (by decide +kernel) (by decide +kernel), pv_memi 18 (by decide +kernel) (by decide +kernel)⟩
abbrev vX7_round : pv_V := (yX7_round, cX7_round, 7, (some .int), none)
set_option maxRecDepth 20000 in
theorem oX7_round : pv_okV vX7_round 4 := ⟨⟨pv_memi 700 rfl rfl, pv_memi 41 (by decide +kernel) (by decide +kernel), ⟨by decide +kernel, by decide +kernel, by decide +kernel⟩, by decide, by decide +kernel, rfl⟩, pv_memi 698 (by decide +kernel) (by decide +kernel), pv_memi 699 (by decide +kernel) (by decide +kernel)⟩
abbrev vX7_rows : pv_V := (yX7_rows, cX7_rows, 3, (some .int), none)
set_option maxRecDepth 20000 in
theorem oX7_rows : pv_okV vX7_rows 0 := ⟨⟨pv_memi 744 rfl rfl, pv_memi 41 (by decide +kernel) (by decide +kernel), ⟨by decide +kernel, by decide +kernel, by decide +kernel⟩, by decide, by decide +kernel, rfl⟩, pv_memi 743 (by decide +kernel) (by decide +kernel), pv_memi 25 (by decide +kernel) (by decide +kernel)⟩
abbrev vX7_layRow : pv_V := (yX7_layRow, cX7_layRow, 5, none, none)
set_option maxRecDepth 20000 in
theorem oX7_layRow : pv_okV vX7_layRow 1 := ⟨⟨pv_memi 748 rfl rfl, pv_memi 41 (by decide +kernel) (by decide +kernel), ⟨by decide +kernel, by decide +kernel, by decide +kernel⟩, by decide, by decide +kernel, rfl⟩, pv_memi 747 (by decide +kernel) (by decide +kernel), pv_memi 26 (by decide +kernel) (by decide +kernel)⟩
abbrev vX7_bestRow : pv_V := (yX7_bestRow, cX7_bestRow, 3, (some .int), none)
set_option maxRecDepth 20000 in
theorem oX7_bestRow : pv_okV vX7_bestRow 0 := ⟨⟨pv_memi 740 rfl rfl, pv_memi 41 (by decide +kernel) (by decide +kernel), ⟨by decide +kernel, by decide +kernel, by decide +kernel⟩, by decide, by decide +kernel, rfl⟩, pv_memi 739 (by decide +kernel) (by decide +kernel), pv_memi 24 (by decide +kernel) (by decide +kernel)⟩
abbrev vX7_best : pv_V := (yX7_best, cX7_best, 3, (some .int), none)
set_option maxRecDepth 20000 in
theorem oX7_best : pv_okV vX7_best 1 := ⟨⟨pv_memi 734 rfl rfl, pv_memi 41 (by decide +kernel) (by decide +kernel), ⟨by decide +kernel, by decide +kernel, by decide +kernel⟩, by decide, by decide +kernel, rfl⟩, pv_memi 732 (by decide +kernel) (by decide +kernel), pv_memi 733 (by decide +kernel) (by decide +kernel)⟩
abbrev vX7_mild : pv_V := (yX7_mild, cX7_mild, 5, (some .int), none)
set_option maxRecDepth 20000 in
theorem oX7_mild : pv_okV vX7_mild 1 := ⟨⟨pv_memi 752 rfl rfl, pv_memi 41 (by decide +kernel) (by decide +kernel), ⟨by decide +kernel, by decide +kernel, by decide +kernel⟩, by decide, by decide +kernel, rfl⟩, pv_memi 750 (by decide +kernel) (by decide +kernel), pv_memi 751 (by decide +kernel) (by decide +kernel)⟩
abbrev vX7_worth : pv_V := (yX7_worth, cX7_worth, 3, (some .int), none)
set_option maxRecDepth 20000 in
theorem oX7_worth : pv_okV vX7_worth 1 := ⟨⟨pv_memi 757 rfl rfl, pv_memi 41 (by decide +kernel) (by decide +kernel), ⟨by decide +kernel, by decide +kernel, by decide +kernel⟩, by decide, by decide +kernel, rfl⟩, pv_memi 755 (by decide +kernel) (by decide +kernel), pv_memi 756 (by decide +kernel) (by decide +kernel)⟩
abbrev vX7_takesOf : pv_V := (yX7_takesOf, cX7_takesOf, 4, (some .int), none)
set_option maxRecDepth 20000 in
theorem oX7_takesOf : pv_okV vX7_takesOf 1 := ⟨⟨pv_memi 765 rfl rfl, pv_memi 41 (by decide +kernel) (by decide +kernel), ⟨by decide +kernel, by decide +kernel, by decide +kernel⟩, by decide, by decide +kernel, rfl⟩, pv_memi 764 (by decide +kernel) (by decide +kernel), pv_memi 27 (by decide +kernel) (by decide +kernel)⟩
abbrev vX7_shift : pv_V := (yX7_shift, cX7_shift, 7, (some .int), none)
set_option maxRecDepth 20000 in
theorem oX7_shift : pv_okV vX7_shift 1 := ⟨⟨pv_memi 761 rfl rfl, pv_memi 41 (by decide +kernel) (by decide +kernel), ⟨by decide +kernel, by decide +kernel, by decide +kernel⟩, by decide, by decide +kernel, rfl⟩, pv_memi 759 (by decide +kernel) (by decide +kernel), pv_memi 760 (by decide +kernel) (by decide +kernel)⟩
abbrev vX7_reading : pv_V := (yX7_reading, cX7_reading, 4, (some .int), none)
set_option maxRecDepth 20000 in
theorem oX7_reading : pv_okV vX7_reading 3 := ⟨⟨pv_memi 769 rfl rfl, pv_memi 41 (by decide +kernel) (by decide +kernel), ⟨by decide +kernel, by decide +kernel, by decide +kernel⟩, by decide, by decide +kernel, rfl⟩, pv_memi 767 (by decide +kernel) (by decide +kernel), pv_memi 768 (by decide +kernel) (by decide +kernel)⟩
abbrev vX7_back : pv_V := (yX7_back, cX7_back, 2, (some .int), none)
set_option maxRecDepth 20000 in
theorem oX7_back : pv_okV vX7_back 1 := ⟨⟨pv_memi 773 rfl rfl, pv_memi 41 (by decide +kernel) (by decide +kernel), ⟨by decide +kernel, by decide +kernel, by decide +kernel⟩, by decide, by decide +kernel, rfl⟩, pv_memi 771 (by decide +kernel) (by decide +kernel), pv_memi 772 (by decide +kernel) (by decide +kernel)⟩
abbrev vX7_isSo : pv_V := (yX7_isSo, cX7_isSo, 4, (some .boolean), none)
set_option maxRecDepth 20000 in
theorem oX7_isSo : pv_okV vX7_isSo 1 := ⟨⟨pv_memi 781 rfl rfl, pv_memi 41 (by decide +kernel) (by decide +kernel), ⟨by decide +kernel, by decide +kernel, by decide +kernel⟩, by decide, by decide +kernel, rfl⟩, pv_memi 780 (by decide +kernel) (by decide +kernel), pv_memi 28 (by decide +kernel) (by decide +kernel)⟩
abbrev vX7_rounds : pv_V := (yX7_rounds, cX7_rounds, 5, (some .int), none)
set_option maxRecDepth 20000 in
theorem oX7_rounds : pv_okV vX7_rounds 1 := ⟨⟨pv_memi 777 rfl rfl, pv_memi 41 (by decide +kernel) (by decide +kernel), ⟨by decide +kernel, by decide +kernel, by decide +kernel⟩, by decide, by decide +kernel, rfl⟩, pv_memi 775 (by decide +kernel) (by decide +kernel), pv_memi 776 (by decide +kernel) (by decide +kernel)⟩
abbrev vX7_sure : pv_V := (yX7_sure, cX7_sure, 4, (some .int), none)
set_option maxRecDepth 20000 in
theorem oX7_sure : pv_okV vX7_sure 1 := ⟨⟨pv_memi 785 rfl rfl, pv_memi 41 (by decide +kernel) (by decide +kernel), ⟨by decide +kernel, by decide +kernel, by decide +kernel⟩, by decide, by decide +kernel, rfl⟩, pv_memi 783 (by decide +kernel) (by decide +kernel), pv_memi 784 (by decide +kernel) (by decide +kernel)⟩
abbrev vX7_seenBarred : pv_V := (yX7_seenBarred, cX7_seenBarred, 6, (some .int), none)
set_option maxRecDepth 20000 in
theorem oX7_seenBarred : pv_okV vX7_seenBarred 4 := ⟨⟨pv_memi 793 rfl rfl, pv_memi 41 (by decide +kernel) (by decide +kernel), ⟨by decide +kernel, by decide +kernel, by decide +kernel⟩, by decide, by decide +kernel, rfl⟩, pv_memi 792 (by decide +kernel) (by decide +kernel), pv_memi 29 (by decide +kernel) (by decide +kernel)⟩
abbrev vX7_laws : pv_V := (yX7_laws, cX7_laws, 9, (some .int), none)
set_option maxRecDepth 20000 in
theorem oX7_laws : pv_okV vX7_laws 4 := ⟨⟨pv_memi 789 rfl rfl, pv_memi 41 (by decide +kernel) (by decide +kernel), ⟨by decide +kernel, by decide +kernel, by decide +kernel⟩, by decide, by decide +kernel, rfl⟩, pv_memi 787 (by decide +kernel) (by decide +kernel), pv_memi 788 (by decide +kernel) (by decide +kernel)⟩
abbrev vX7_used : pv_V := (yX7_used, cX7_used, 10, (some .int), none)
set_option maxRecDepth 20000 in
theorem oX7_used : pv_okV vX7_used 5 := ⟨⟨pv_memi 798 rfl rfl, pv_memi 41 (by decide +kernel) (by decide +kernel), ⟨by decide +kernel, by decide +kernel, by decide +kernel⟩, by decide, by decide +kernel, rfl⟩, pv_memi 796 (by decide +kernel) (by decide +kernel), pv_memi 797 (by decide +kernel) (by decide +kernel)⟩
abbrev vX7_refusedLong : pv_V := (yX7_refusedLong, cX7_refusedLong, 1, (some .long), none)
set_option maxRecDepth 20000 in
theorem oX7_refusedLong : pv_okV vX7_refusedLong 0 := ⟨⟨pv_memi 806 rfl rfl, pv_memi 41 (by decide +kernel) (by decide +kernel), ⟨by decide +kernel, by decide +kernel, by decide +kernel⟩, by decide, by decide +kernel, rfl⟩, pv_memi 805 (by decide +kernel) (by decide +kernel), pv_memi 30 (by decide +kernel) (by decide +kernel)⟩
abbrev vX7_odds : pv_V := (yX7_odds, cX7_odds, 11, (some .long), none)
set_option maxRecDepth 20000 in
theorem oX7_odds : pv_okV vX7_odds 5 := ⟨⟨pv_memi 802 rfl rfl, pv_memi 41 (by decide +kernel) (by decide +kernel), ⟨by decide +kernel, by decide +kernel, by decide +kernel⟩, by decide, by decide +kernel, rfl⟩, pv_memi 800 (by decide +kernel) (by decide +kernel), pv_memi 801 (by decide +kernel) (by decide +kernel)⟩
abbrev vX7_noSheet : pv_V := (yX7_noSheet, cX7_noSheet, 1, (some .boolean), none)
set_option maxRecDepth 20000 in
theorem oX7_noSheet : pv_okS vX7_noSheet 1 := ⟨⟨pv_memi 634 rfl rfl, pv_memi 41 (by decide +kernel) (by decide +kernel), ⟨by decide +kernel, by decide +kernel, by decide +kernel⟩, by decide, by decide +kernel, rfl⟩, pv_memi 633 (by decide +kernel) (by decide +kernel)⟩
abbrev vX7_sheet : pv_V := (yX7_sheet, cX7_sheet, 5, (some .int), none)
set_option maxRecDepth 20000 in
theorem oX7_sheet : pv_okV vX7_sheet 3 := ⟨⟨pv_memi 817 rfl rfl, pv_memi 41 (by decide +kernel) (by decide +kernel), ⟨by decide +kernel, by decide +kernel, by decide +kernel⟩, by decide, by decide +kernel, rfl⟩, pv_memi 815 (by decide +kernel) (by decide +kernel), pv_memi 816 (by decide +kernel) (by decide +kernel)⟩
abbrev vX7_lose : pv_V := (yX7_lose, cX7_lose, 3, (some .int), none)
set_option maxRecDepth 20000 in
theorem oX7_lose : pv_okV vX7_lose 1 := ⟨⟨pv_memi 821 rfl rfl, pv_memi 41 (by decide +kernel) (by decide +kernel), ⟨by decide +kernel, by decide +kernel, by decide +kernel⟩, by decide, by decide +kernel, rfl⟩, pv_memi 819 (by decide +kernel) (by decide +kernel), pv_memi 820 (by decide +kernel) (by decide +kernel)⟩
abbrev vX7_noCell : pv_V := (yX7_noCell, cX7_noCell, 3, (some .int), none)
set_option maxRecDepth 20000 in
theorem oX7_noCell : pv_okV vX7_noCell 2 := ⟨⟨pv_memi 829 rfl rfl, pv_memi 41 (by decide +kernel) (by decide +kernel), ⟨by decide +kernel, by decide +kernel, by decide +kernel⟩, by decide, by decide +kernel, rfl⟩, pv_memi 828 (by decide +kernel) (by decide +kernel), pv_memi 31 (by decide +kernel) (by decide +kernel)⟩
abbrev vX7_put : pv_V := (yX7_put, cX7_put, 4, (some .int), none)
set_option maxRecDepth 20000 in
theorem oX7_put : pv_okV vX7_put 3 := ⟨⟨pv_memi 825 rfl rfl, pv_memi 41 (by decide +kernel) (by decide +kernel), ⟨by decide +kernel, by decide +kernel, by decide +kernel⟩, by decide, by decide +kernel, rfl⟩, pv_memi 823 (by decide +kernel) (by decide +kernel), pv_memi 824 (by decide +kernel) (by decide +kernel)⟩
abbrev vX7_cell : pv_V := (yX7_cell, cX7_cell, 4, (some .long), none)
set_option maxRecDepth 20000 in
theorem oX7_cell : pv_okV vX7_cell 3 := ⟨⟨pv_memi 833 rfl rfl, pv_memi 41 (by decide +kernel) (by decide +kernel), ⟨by decide +kernel, by decide +kernel, by decide +kernel⟩, by decide, by decide +kernel, rfl⟩, pv_memi 831 (by decide +kernel) (by decide +kernel), pv_memi 832 (by decide +kernel) (by decide +kernel)⟩
abbrev vX7_isBeyond : pv_V := (yX7_isBeyond, cX7_isBeyond, 4, (some .boolean), none)
set_option maxRecDepth 20000 in
theorem oX7_isBeyond : pv_okS vX7_isBeyond 3 := ⟨⟨pv_memi 654 rfl rfl, pv_memi 41 (by decide +kernel) (by decide +kernel), ⟨by decide +kernel, by decide +kernel, by decide +kernel⟩, by decide, by decide +kernel, rfl⟩, pv_memi 653 (by decide +kernel) (by decide +kernel)⟩
abbrev vX7_copy : pv_V := (yX7_copy, cX7_copy, 7, (some .int), none)
set_option maxRecDepth 20000 in
theorem oX7_copy : pv_okV vX7_copy 5 := ⟨⟨pv_memi 841 rfl rfl, pv_memi 41 (by decide +kernel) (by decide +kernel), ⟨by decide +kernel, by decide +kernel, by decide +kernel⟩, by decide, by decide +kernel, rfl⟩, pv_memi 839 (by decide +kernel) (by decide +kernel), pv_memi 840 (by decide +kernel) (by decide +kernel)⟩
abbrev vX7_traced : pv_V := (yX7_traced, cX7_traced, 2, none, none)
set_option maxRecDepth 20000 in
theorem oX7_traced : pv_okV vX7_traced 1 := ⟨⟨pv_memi 849 rfl rfl, pv_memi 41 (by decide +kernel) (by decide +kernel), ⟨by decide +kernel, by decide +kernel, by decide +kernel⟩, by decide, by decide +kernel, rfl⟩, pv_memi 848 (by decide +kernel) (by decide +kernel), pv_memi 33 (by decide +kernel) (by decide +kernel)⟩
abbrev vX7_tell : pv_V := (yX7_tell, cX7_tell, 4, (some .int), none)
set_option maxRecDepth 20000 in
theorem oX7_tell : pv_okV vX7_tell 1 := ⟨⟨pv_memi 845 rfl rfl, pv_memi 41 (by decide +kernel) (by decide +kernel), ⟨by decide +kernel, by decide +kernel, by decide +kernel⟩, by decide, by decide +kernel, rfl⟩, pv_memi 843 (by decide +kernel) (by decide +kernel), pv_memi 844 (by decide +kernel) (by decide +kernel)⟩
abbrev vX7_label : pv_V := (yX7_label, cX7_label, 2, (some .int), none)
set_option maxRecDepth 20000 in
theorem oX7_label : pv_okV vX7_label 1 := ⟨⟨pv_memi 853 rfl rfl, pv_memi 41 (by decide +kernel) (by decide +kernel), ⟨by decide +kernel, by decide +kernel, by decide +kernel⟩, by decide, by decide +kernel, rfl⟩, pv_memi 851 (by decide +kernel) (by decide +kernel), pv_memi 852 (by decide +kernel) (by decide +kernel)⟩
abbrev vX7_as : pv_V := (yX7_as, cX7_as, 3, (some .int), none)
set_option maxRecDepth 20000 in
theorem oX7_as : pv_okV vX7_as 2 := ⟨⟨pv_memi 857 rfl rfl, pv_memi 41 (by decide +kernel) (by decide +kernel), ⟨by decide +kernel, by decide +kernel, by decide +kernel⟩, by decide, by decide +kernel, rfl⟩, pv_memi 855 (by decide +kernel) (by decide +kernel), pv_memi 856 (by decide +kernel) (by decide +kernel)⟩
abbrev vX7_trace : pv_V := (yX7_trace, cX7_trace, 1, (some .int), none)
set_option maxRecDepth 20000 in
theorem oX7_trace : pv_okV vX7_trace 0 := ⟨⟨pv_memi 861 rfl rfl, pv_memi 41 (by decide +kernel) (by decide +kernel), ⟨by decide +kernel, by decide +kernel, by decide +kernel⟩, by decide, by decide +kernel, rfl⟩, pv_memi 859 (by decide +kernel) (by decide +kernel), pv_memi 860 (by decide +kernel) (by decide +kernel)⟩
abbrev vX7_fault : pv_V := (yX7_fault, cX7_fault, 1, (some .int), none)
set_option maxRecDepth 20000 in
theorem oX7_fault : pv_okV vX7_fault 0 := ⟨⟨pv_memi 865 rfl rfl, pv_memi 41 (by decide +kernel) (by decide +kernel), ⟨by decide +kernel, by decide +kernel, by decide +kernel⟩, by decide, by decide +kernel, rfl⟩, pv_memi 863 (by decide +kernel) (by decide +kernel), pv_memi 864 (by decide +kernel) (by decide +kernel)⟩
abbrev vX7_many : pv_V := (yX7_many, cX7_many, 2, (some .int), none)
set_option maxRecDepth 20000 in
theorem oX7_many : pv_okV vX7_many 1 := ⟨⟨pv_memi 869 rfl rfl, pv_memi 41 (by decide +kernel) (by decide +kernel), ⟨by decide +kernel, by decide +kernel, by decide +kernel⟩, by decide, by decide +kernel, rfl⟩, pv_memi 867 (by decide +kernel) (by decide +kernel), pv_memi 868 (by decide +kernel) (by decide +kernel)⟩
abbrev vJ6_bitCount_0f7a4 : pv_V := (yJ6_bitCount_0f7a4, cJ6_bitCount_0f7a4, 1, (some .int), none)
set_option maxRecDepth 20000 in
theorem oJ6_bitCount_0f7a4 : pv_okS vJ6_bitCount_0f7a4 1 := ⟨⟨pv_memi 330 rfl rfl, pv_memi 43 (by decide +kernel) (by decide +kernel), ⟨by decide +kernel, by decide +kernel, by decide +kernel⟩, by decide, by decide +kernel, rfl⟩, pv_memi 329 (by decide +kernel) (by decide +kernel)⟩
theorem lL_9 : Cond.methodLink RL 9 yX6_init ∈ pv_T := pv_memi 47 (by decide +kernel) (by decide +kernel)
theorem lX6_20 : Cond.methodLink RX6 20 yX0_init ∈ pv_T := pv_memi 79 (by decide +kernel) (by decide +kernel)
theorem lL_13 : Cond.methodLink RL 13 yX6_museum ∈ pv_T := pv_memi 230 (by decide +kernel) (by decide +kernel)
theorem lX6_47 : Cond.methodLink RX6 47 yX6_isSheet ∈ pv_T := pv_memi 234 (by decide +kernel) (by decide +kernel)
theorem lX6_51 : Cond.methodLink RX6 51 yX6_isLane ∈ pv_T := pv_memi 237 (by decide +kernel) (by decide +kernel)
theorem lX6_54 : Cond.methodLink RX6 54 yX3_faultOfCells ∈ pv_T := pv_memi 240 (by decide +kernel) (by decide +kernel)
theorem lX3_26 : Cond.methodLink RX3 26 yX3_holds ∈ pv_T := pv_memi 244 (by decide +kernel) (by decide +kernel)
theorem lX6_58 : Cond.methodLink RX6 58 yX6_answerFault ∈ pv_T := pv_memi 248 (by decide +kernel) (by decide +kernel)
theorem lX6_65 : Cond.methodLink RX6 65 yX4_firstFault ∈ pv_T := pv_memi 252 (by decide +kernel) (by decide +kernel)
theorem lX4_11 : Cond.methodLink RX4 11 yX4_goesOn ∈ pv_T := pv_memi 255 (by decide +kernel) (by decide +kernel)
theorem lX4_15 : Cond.methodLink RX4 15 yX4_isDigit ∈ pv_T := pv_memi 258 (by decide +kernel) (by decide +kernel)
theorem lX6_71 : Cond.methodLink RX6 71 yX4_fill ∈ pv_T := pv_memi 261 (by decide +kernel) (by decide +kernel)
theorem lX4_34 : Cond.methodLink RX4 34 yX4_kindOf ∈ pv_T := pv_memi 264 (by decide +kernel) (by decide +kernel)
theorem lL_18 : Cond.methodLink RL 18 yX6_ofThing ∈ pv_T := pv_memi 267 (by decide +kernel) (by decide +kernel)
theorem lX6_79 : Cond.methodLink RX6 79 yX0_has ∈ pv_T := pv_memi 271 (by decide +kernel) (by decide +kernel)
theorem lX6_103 : Cond.methodLink RX6 103 yX5_value ∈ pv_T := pv_memi 275 (by decide +kernel) (by decide +kernel)
theorem lL_23 : Cond.methodLink RL 23 yX6_penalty ∈ pv_T := pv_memi 279 (by decide +kernel) (by decide +kernel)
theorem lX6_107 : Cond.methodLink RX6 107 yX0_stands ∈ pv_T := pv_memi 283 (by decide +kernel) (by decide +kernel)
theorem lL_28 : Cond.methodLink RL 28 yX6_law ∈ pv_T := pv_memi 287 (by decide +kernel) (by decide +kernel)
theorem lL_32 : Cond.methodLink RL 32 yX6_use ∈ pv_T := pv_memi 291 (by decide +kernel) (by decide +kernel)
theorem lL_36 : Cond.methodLink RL 36 yX6_round ∈ pv_T := pv_memi 295 (by decide +kernel) (by decide +kernel)
theorem lX6_117 : Cond.methodLink RX6 117 yX6_hearRound ∈ pv_T := pv_memi 299 (by decide +kernel) (by decide +kernel)
theorem lX6_121 : Cond.methodLink RX6 121 yX0_firstWrong ∈ pv_T := pv_memi 303 (by decide +kernel) (by decide +kernel)
theorem lX0_22 : Cond.methodLink RX0 22 yX0_has ∈ pv_T := pv_memi 307 (by decide +kernel) (by decide +kernel)
theorem lX0_29 : Cond.methodLink RX0 29 yX0_casesBy ∈ pv_T := pv_memi 308 (by decide +kernel) (by decide +kernel)
theorem lX6_125 : Cond.methodLink RX6 125 yX0_casesBy ∈ pv_T := pv_memi 315 (by decide +kernel) (by decide +kernel)
theorem lX6_128 : Cond.methodLink RX6 128 yX0_missedBy ∈ pv_T := pv_memi 316 (by decide +kernel) (by decide +kernel)
theorem lX0_41 : Cond.methodLink RX0 41 yX0_missedByTake ∈ pv_T := pv_memi 320 (by decide +kernel) (by decide +kernel)
theorem lX0_45 : Cond.methodLink RX0 45 yX5_span ∈ pv_T := pv_memi 324 (by decide +kernel) (by decide +kernel)
theorem lX0_62 : Cond.methodLink RX0 62 yJ6_bitCount_0f7a4 ∈ pv_T := pv_memi 328 (by decide +kernel) (by decide +kernel)
theorem lX6_131 : Cond.methodLink RX6 131 yX0_takingsBy ∈ pv_T := pv_memi 334 (by decide +kernel) (by decide +kernel)
theorem lX0_37 : Cond.methodLink RX0 37 yX0_gain ∈ pv_T := pv_memi 338 (by decide +kernel) (by decide +kernel)
theorem lX0_49 : Cond.methodLink RX0 49 yX5_value ∈ pv_T := pv_memi 342 (by decide +kernel) (by decide +kernel)
theorem lX0_56 : Cond.methodLink RX0 56 yX0_isLast ∈ pv_T := pv_memi 343 (by decide +kernel) (by decide +kernel)
theorem lL_40 : Cond.methodLink RL 40 yX6_best ∈ pv_T := pv_memi 347 (by decide +kernel) (by decide +kernel)
theorem lX6_135 : Cond.methodLink RX6 135 yX6_searchBest ∈ pv_T := pv_memi 351 (by decide +kernel) (by decide +kernel)
theorem lX6_145 : Cond.methodLink RX6 145 yX2_clear ∈ pv_T := pv_memi 355 (by decide +kernel) (by decide +kernel)
theorem lX6_151 : Cond.methodLink RX6 151 yX6_walk ∈ pv_T := pv_memi 359 (by decide +kernel) (by decide +kernel)
theorem lX6_244 : Cond.methodLink RX6 244 yX2_arrive ∈ pv_T := pv_memi 362 (by decide +kernel) (by decide +kernel)
theorem lX2_46 : Cond.methodLink RX2 46 arraycopyName ∈ pv_T := pv_memi 366 (by decide +kernel) (by decide +kernel)
theorem lX6_251 : Cond.methodLink RX6 251 yX2_fits ∈ pv_T := pv_memi 369 (by decide +kernel) (by decide +kernel)
theorem lX6_254 : Cond.methodLink RX6 254 yX2_note ∈ pv_T := pv_memi 373 (by decide +kernel) (by decide +kernel)
theorem lX6_161 : Cond.methodLink RX6 161 yX6_isIn ∈ pv_T := pv_memi 377 (by decide +kernel) (by decide +kernel)
theorem lX6_257 : Cond.methodLink RX6 257 yX0_gain ∈ pv_T := pv_memi 378 (by decide +kernel) (by decide +kernel)
theorem lX6_261 : Cond.methodLink RX6 261 yX0_missedByTake ∈ pv_T := pv_memi 379 (by decide +kernel) (by decide +kernel)
theorem lL_44 : Cond.methodLink RL 44 yX6_mild ∈ pv_T := pv_memi 380 (by decide +kernel) (by decide +kernel)
theorem lL_48 : Cond.methodLink RL 48 yX6_worth ∈ pv_T := pv_memi 384 (by decide +kernel) (by decide +kernel)
theorem lL_52 : Cond.methodLink RL 52 yX6_shift ∈ pv_T := pv_memi 388 (by decide +kernel) (by decide +kernel)
theorem lX6_158 : Cond.methodLink RX6 158 yX6_takesByBest ∈ pv_T := pv_memi 392 (by decide +kernel) (by decide +kernel)
theorem lL_56 : Cond.methodLink RL 56 yX6_reading ∈ pv_T := pv_memi 396 (by decide +kernel) (by decide +kernel)
theorem lX6_165 : Cond.methodLink RX6 165 yX6_isHour ∈ pv_T := pv_memi 400 (by decide +kernel) (by decide +kernel)
theorem lX6_168 : Cond.methodLink RX6 168 yX1_add ∈ pv_T := pv_memi 403 (by decide +kernel) (by decide +kernel)
theorem lL_61 : Cond.methodLink RL 61 yX6_back ∈ pv_T := pv_memi 407 (by decide +kernel) (by decide +kernel)
theorem lL_65 : Cond.methodLink RL 65 yX6_rounds ∈ pv_T := pv_memi 411 (by decide +kernel) (by decide +kernel)
theorem lX6_172 : Cond.methodLink RX6 172 yX6_searchRead ∈ pv_T := pv_memi 415 (by decide +kernel) (by decide +kernel)
theorem lX6_240 : Cond.methodLink RX6 240 yX1_bind ∈ pv_T := pv_memi 419 (by decide +kernel) (by decide +kernel)
theorem lL_69 : Cond.methodLink RL 69 yX6_sure ∈ pv_T := pv_memi 423 (by decide +kernel) (by decide +kernel)
theorem lL_73 : Cond.methodLink RL 73 yX6_laws ∈ pv_T := pv_memi 427 (by decide +kernel) (by decide +kernel)
theorem lL_77 : Cond.methodLink RL 77 yX6_used ∈ pv_T := pv_memi 431 (by decide +kernel) (by decide +kernel)
theorem lX6_182 : Cond.methodLink RX6 182 yX0_hoursInCase ∈ pv_T := pv_memi 435 (by decide +kernel) (by decide +kernel)
theorem lX6_185 : Cond.methodLink RX6 185 yJ6_bitCount_0f7a4 ∈ pv_T := pv_memi 439 (by decide +kernel) (by decide +kernel)
theorem lL_82 : Cond.methodLink RL 82 yX6_odds ∈ pv_T := pv_memi 440 (by decide +kernel) (by decide +kernel)
theorem lX6_192 : Cond.methodLink RX6 192 yX6_waysForAtMost ∈ pv_T := pv_memi 445 (by decide +kernel) (by decide +kernel)
theorem lL_87 : Cond.methodLink RL 87 yX6_sheet ∈ pv_T := pv_memi 449 (by decide +kernel) (by decide +kernel)
theorem lX6_198 : Cond.methodLink RX6 198 yX3_begin ∈ pv_T := pv_memi 453 (by decide +kernel) (by decide +kernel)
theorem lL_92 : Cond.methodLink RL 92 yX6_lose ∈ pv_T := pv_memi 457 (by decide +kernel) (by decide +kernel)
theorem lL_96 : Cond.methodLink RL 96 yX6_put ∈ pv_T := pv_memi 461 (by decide +kernel) (by decide +kernel)
theorem lX6_209 : Cond.methodLink RX6 209 yX3_cut ∈ pv_T := pv_memi 465 (by decide +kernel) (by decide +kernel)
theorem lL_100 : Cond.methodLink RL 100 yX6_cell ∈ pv_T := pv_memi 469 (by decide +kernel) (by decide +kernel)
theorem lL_105 : Cond.methodLink RL 105 yX6_copy ∈ pv_T := pv_memi 473 (by decide +kernel) (by decide +kernel)
theorem lX6_212 : Cond.methodLink RX6 212 yX3_holds ∈ pv_T := pv_memi 477 (by decide +kernel) (by decide +kernel)
theorem lX6_215 : Cond.methodLink RX6 215 arraycopyName ∈ pv_T := pv_memi 478 (by decide +kernel) (by decide +kernel)
theorem lL_109 : Cond.methodLink RL 109 yX6_tell ∈ pv_T := pv_memi 479 (by decide +kernel) (by decide +kernel)
theorem lX6_221 : Cond.methodLink RX6 221 yX6_livingTells ∈ pv_T := pv_memi 483 (by decide +kernel) (by decide +kernel)
theorem lX6_231 : Cond.methodLink RX6 231 yX6_leave ∈ pv_T := pv_memi 487 (by decide +kernel) (by decide +kernel)
theorem lX6_225 : Cond.methodLink RX6 225 yX6_heirloomTells ∈ pv_T := pv_memi 491 (by decide +kernel) (by decide +kernel)
theorem lX6_228 : Cond.methodLink RX6 228 yX6_thingTells ∈ pv_T := pv_memi 495 (by decide +kernel) (by decide +kernel)
theorem lL_113 : Cond.methodLink RL 113 yX6_label ∈ pv_T := pv_memi 499 (by decide +kernel) (by decide +kernel)
theorem lL_117 : Cond.methodLink RL 117 yX6_as ∈ pv_T := pv_memi 503 (by decide +kernel) (by decide +kernel)
theorem lL_121 : Cond.methodLink RL 121 yX6_trace ∈ pv_T := pv_memi 507 (by decide +kernel) (by decide +kernel)
theorem lL_126 : Cond.methodLink RL 126 yX6_fault ∈ pv_T := pv_memi 511 (by decide +kernel) (by decide +kernel)
theorem lL_130 : Cond.methodLink RL 130 yX6_many ∈ pv_T := pv_memi 515 (by decide +kernel) (by decide +kernel)
theorem lL_12 : Cond.methodLink RL 12 yX7_init ∈ pv_T := pv_memi 521 (by decide +kernel) (by decide +kernel)
theorem lL_17 : Cond.methodLink RL 17 yX7_museum ∈ pv_T := pv_memi 628 (by decide +kernel) (by decide +kernel)
theorem lX7_120 : Cond.methodLink RX7 120 yX7_noSheet ∈ pv_T := pv_memi 632 (by decide +kernel) (by decide +kernel)
theorem lX7_87 : Cond.methodLink RX7 87 yX7_in ∈ pv_T := pv_memi 636 (by decide +kernel) (by decide +kernel)
theorem lX7_124 : Cond.methodLink RX7 124 yX7_refused ∈ pv_T := pv_memi 639 (by decide +kernel) (by decide +kernel)
theorem lX7_129 : Cond.methodLink RX7 129 yX7_cellsBarred ∈ pv_T := pv_memi 644 (by decide +kernel) (by decide +kernel)
theorem lX7_112 : Cond.methodLink RX7 112 yX7_failed ∈ pv_T := pv_memi 648 (by decide +kernel) (by decide +kernel)
theorem lX7_116 : Cond.methodLink RX7 116 yX7_isBeyond ∈ pv_T := pv_memi 652 (by decide +kernel) (by decide +kernel)
theorem lX7_133 : Cond.methodLink RX7 133 yX7_readsMuseum ∈ pv_T := pv_memi 655 (by decide +kernel) (by decide +kernel)
theorem lX7_94 : Cond.methodLink RX7 94 yX7_codeAt ∈ pv_T := pv_memi 659 (by decide +kernel) (by decide +kernel)
theorem lX7_101 : Cond.methodLink RX7 101 yX7_figure ∈ pv_T := pv_memi 663 (by decide +kernel) (by decide +kernel)
theorem lX7_108 : Cond.methodLink RX7 108 yX7_readsThing ∈ pv_T := pv_memi 667 (by decide +kernel) (by decide +kernel)
theorem lL_22 : Cond.methodLink RL 22 yX7_ofThing ∈ pv_T := pv_memi 671 (by decide +kernel) (by decide +kernel)
theorem lX7_145 : Cond.methodLink RX7 145 yX7_noThing ∈ pv_T := pv_memi 675 (by decide +kernel) (by decide +kernel)
theorem lX7_148 : Cond.methodLink RX7 148 yX7_valueOf ∈ pv_T := pv_memi 679 (by decide +kernel) (by decide +kernel)
theorem lL_27 : Cond.methodLink RL 27 yX7_penalty ∈ pv_T := pv_memi 683 (by decide +kernel) (by decide +kernel)
theorem lL_31 : Cond.methodLink RL 31 yX7_law ∈ pv_T := pv_memi 688 (by decide +kernel) (by decide +kernel)
theorem lL_35 : Cond.methodLink RL 35 yX7_use ∈ pv_T := pv_memi 692 (by decide +kernel) (by decide +kernel)
theorem lL_39 : Cond.methodLink RL 39 yX7_round ∈ pv_T := pv_memi 697 (by decide +kernel) (by decide +kernel)
theorem lX7_184 : Cond.methodLink RX7 184 yX7_roundBarred ∈ pv_T := pv_memi 703 (by decide +kernel) (by decide +kernel)
theorem lX7_188 : Cond.methodLink RX7 188 yX7_goRound ∈ pv_T := pv_memi 708 (by decide +kernel) (by decide +kernel)
theorem lX7_169 : Cond.methodLink RX7 169 yX7_casesOf ∈ pv_T := pv_memi 712 (by decide +kernel) (by decide +kernel)
theorem lX7_172 : Cond.methodLink RX7 172 yX7_takingOf ∈ pv_T := pv_memi 716 (by decide +kernel) (by decide +kernel)
theorem lX7_157 : Cond.methodLink RX7 157 yX7_isIn ∈ pv_T := pv_memi 720 (by decide +kernel) (by decide +kernel)
theorem lX7_175 : Cond.methodLink RX7 175 yX7_missedIn ∈ pv_T := pv_memi 723 (by decide +kernel) (by decide +kernel)
theorem lX7_192 : Cond.methodLink RX7 192 yX7_leftNow ∈ pv_T := pv_memi 727 (by decide +kernel) (by decide +kernel)
theorem lL_43 : Cond.methodLink RL 43 yX7_best ∈ pv_T := pv_memi 731 (by decide +kernel) (by decide +kernel)
theorem lX7_210 : Cond.methodLink RX7 210 yX7_bestRow ∈ pv_T := pv_memi 737 (by decide +kernel) (by decide +kernel)
theorem lX7_196 : Cond.methodLink RX7 196 yX7_rows ∈ pv_T := pv_memi 741 (by decide +kernel) (by decide +kernel)
theorem lX7_199 : Cond.methodLink RX7 199 yX7_layRow ∈ pv_T := pv_memi 745 (by decide +kernel) (by decide +kernel)
theorem lL_47 : Cond.methodLink RL 47 yX7_mild ∈ pv_T := pv_memi 749 (by decide +kernel) (by decide +kernel)
theorem lL_51 : Cond.methodLink RL 51 yX7_worth ∈ pv_T := pv_memi 754 (by decide +kernel) (by decide +kernel)
theorem lL_55 : Cond.methodLink RL 55 yX7_shift ∈ pv_T := pv_memi 758 (by decide +kernel) (by decide +kernel)
theorem lX7_215 : Cond.methodLink RX7 215 yX7_takesOf ∈ pv_T := pv_memi 762 (by decide +kernel) (by decide +kernel)
theorem lL_60 : Cond.methodLink RL 60 yX7_reading ∈ pv_T := pv_memi 766 (by decide +kernel) (by decide +kernel)
theorem lL_64 : Cond.methodLink RL 64 yX7_back ∈ pv_T := pv_memi 770 (by decide +kernel) (by decide +kernel)
theorem lL_68 : Cond.methodLink RL 68 yX7_rounds ∈ pv_T := pv_memi 774 (by decide +kernel) (by decide +kernel)
theorem lX7_218 : Cond.methodLink RX7 218 yX7_isSo ∈ pv_T := pv_memi 778 (by decide +kernel) (by decide +kernel)
theorem lL_72 : Cond.methodLink RL 72 yX7_sure ∈ pv_T := pv_memi 782 (by decide +kernel) (by decide +kernel)
theorem lL_76 : Cond.methodLink RL 76 yX7_laws ∈ pv_T := pv_memi 786 (by decide +kernel) (by decide +kernel)
theorem lX7_223 : Cond.methodLink RX7 223 yX7_seenBarred ∈ pv_T := pv_memi 790 (by decide +kernel) (by decide +kernel)
theorem lL_81 : Cond.methodLink RL 81 yX7_used ∈ pv_T := pv_memi 795 (by decide +kernel) (by decide +kernel)
theorem lL_86 : Cond.methodLink RL 86 yX7_odds ∈ pv_T := pv_memi 799 (by decide +kernel) (by decide +kernel)
theorem lX7_226 : Cond.methodLink RX7 226 yX7_refusedLong ∈ pv_T := pv_memi 803 (by decide +kernel) (by decide +kernel)
theorem lX7_80 : Cond.methodLink RX7 80 yX7_lost ∈ pv_T := pv_memi 807 (by decide +kernel) (by decide +kernel)
theorem lX7_229 : Cond.methodLink RX7 229 yX7_told ∈ pv_T := pv_memi 811 (by decide +kernel) (by decide +kernel)
theorem lL_91 : Cond.methodLink RL 91 yX7_sheet ∈ pv_T := pv_memi 814 (by decide +kernel) (by decide +kernel)
theorem lL_95 : Cond.methodLink RL 95 yX7_lose ∈ pv_T := pv_memi 818 (by decide +kernel) (by decide +kernel)
theorem lL_99 : Cond.methodLink RL 99 yX7_put ∈ pv_T := pv_memi 822 (by decide +kernel) (by decide +kernel)
theorem lX7_233 : Cond.methodLink RX7 233 yX7_noCell ∈ pv_T := pv_memi 826 (by decide +kernel) (by decide +kernel)
theorem lL_104 : Cond.methodLink RL 104 yX7_cell ∈ pv_T := pv_memi 830 (by decide +kernel) (by decide +kernel)
theorem lX7_236 : Cond.methodLink RX7 236 yX7_failedLong ∈ pv_T := pv_memi 834 (by decide +kernel) (by decide +kernel)
theorem lL_108 : Cond.methodLink RL 108 yX7_copy ∈ pv_T := pv_memi 838 (by decide +kernel) (by decide +kernel)
theorem lL_112 : Cond.methodLink RL 112 yX7_tell ∈ pv_T := pv_memi 842 (by decide +kernel) (by decide +kernel)
theorem lX7_243 : Cond.methodLink RX7 243 yX7_traced ∈ pv_T := pv_memi 846 (by decide +kernel) (by decide +kernel)
theorem lL_116 : Cond.methodLink RL 116 yX7_label ∈ pv_T := pv_memi 850 (by decide +kernel) (by decide +kernel)
theorem lL_120 : Cond.methodLink RL 120 yX7_as ∈ pv_T := pv_memi 854 (by decide +kernel) (by decide +kernel)
theorem lL_125 : Cond.methodLink RL 125 yX7_trace ∈ pv_T := pv_memi 858 (by decide +kernel) (by decide +kernel)
theorem lL_129 : Cond.methodLink RL 129 yX7_fault ∈ pv_T := pv_memi 862 (by decide +kernel) (by decide +kernel)
theorem lL_133 : Cond.methodLink RL 133 yX7_many ∈ pv_T := pv_memi 866 (by decide +kernel) (by decide +kernel)
theorem fX3_9 : pv_fld RX3 9 3 0 := ⟨by decide, pv_memi 60 (by decide +kernel) (by decide +kernel)⟩
theorem fX6_62 : pv_fld RX6 62 3 0 := ⟨by decide, pv_memi 61 (by decide +kernel) (by decide +kernel)⟩
theorem fX3_15 : pv_fld RX3 15 3 1 := ⟨by decide, pv_memi 62 (by decide +kernel) (by decide +kernel)⟩
theorem w3_1 : pv_wr 3 1 .boolean := ⟨by decide +kernel, by decide +kernel⟩
theorem fX6_202 : pv_fld RX6 202 3 1 := ⟨by decide, pv_memi 63 (by decide +kernel) (by decide +kernel)⟩
theorem fX3_19 : pv_fld RX3 19 3 2 := ⟨by decide, pv_memi 64 (by decide +kernel) (by decide +kernel)⟩
theorem w3_2 : pv_wr 3 2 .int := ⟨by decide +kernel, by decide +kernel⟩
theorem fX6_206 : pv_fld RX6 206 3 2 := ⟨by decide, pv_memi 65 (by decide +kernel) (by decide +kernel)⟩
theorem fX3_23 : pv_fld RX3 23 3 3 := ⟨by decide, pv_memi 66 (by decide +kernel) (by decide +kernel)⟩
theorem w3_3 : pv_wr 3 3 .int := ⟨by decide +kernel, by decide +kernel⟩
theorem fX5_9 : pv_fld RX5 9 4 0 := ⟨by decide, pv_memi 90 (by decide +kernel) (by decide +kernel)⟩
theorem w4_0 : pv_wr 4 0 .int := ⟨by decide +kernel, by decide +kernel⟩
theorem fX6_86 : pv_fld RX6 86 4 0 := ⟨by decide, pv_memi 91 (by decide +kernel) (by decide +kernel)⟩
theorem fX4_38 : pv_fld RX4 38 4 0 := ⟨by decide, pv_memi 92 (by decide +kernel) (by decide +kernel)⟩
theorem fX6_91 : pv_fld RX6 91 4 1 := ⟨by decide, pv_memi 93 (by decide +kernel) (by decide +kernel)⟩
theorem w4_1 : pv_wr 4 1 .int := ⟨by decide +kernel, by decide +kernel⟩
theorem fX4_43 : pv_fld RX4 43 4 1 := ⟨by decide, pv_memi 94 (by decide +kernel) (by decide +kernel)⟩
theorem fX0_59 : pv_fld RX0 59 4 1 := ⟨by decide, pv_memi 95 (by decide +kernel) (by decide +kernel)⟩
theorem fX5_15 : pv_fld RX5 15 4 2 := ⟨by decide, pv_memi 96 (by decide +kernel) (by decide +kernel)⟩
theorem w4_2 : pv_wr 4 2 .int := ⟨by decide +kernel, by decide +kernel⟩
theorem fX6_94 : pv_fld RX6 94 4 2 := ⟨by decide, pv_memi 97 (by decide +kernel) (by decide +kernel)⟩
theorem fX4_46 : pv_fld RX4 46 4 2 := ⟨by decide, pv_memi 98 (by decide +kernel) (by decide +kernel)⟩
theorem fX5_18 : pv_fld RX5 18 4 3 := ⟨by decide, pv_memi 99 (by decide +kernel) (by decide +kernel)⟩
theorem w4_3 : pv_wr 4 3 .int := ⟨by decide +kernel, by decide +kernel⟩
theorem fX6_97 : pv_fld RX6 97 4 3 := ⟨by decide, pv_memi 100 (by decide +kernel) (by decide +kernel)⟩
theorem fX0_26 : pv_fld RX0 26 4 3 := ⟨by decide, pv_memi 101 (by decide +kernel) (by decide +kernel)⟩
theorem fX4_49 : pv_fld RX4 49 4 3 := ⟨by decide, pv_memi 102 (by decide +kernel) (by decide +kernel)⟩
theorem fX6_100 : pv_fld RX6 100 4 4 := ⟨by decide, pv_memi 103 (by decide +kernel) (by decide +kernel)⟩
theorem w4_4 : pv_wr 4 4 .int := ⟨by decide +kernel, by decide +kernel⟩
theorem fX4_52 : pv_fld RX4 52 4 4 := ⟨by decide, pv_memi 104 (by decide +kernel) (by decide +kernel)⟩
theorem fX0_53 : pv_fld RX0 53 4 4 := ⟨by decide, pv_memi 105 (by decide +kernel) (by decide +kernel)⟩
theorem fX0_11 : pv_fld RX0 11 0 0 := ⟨by decide, pv_memi 117 (by decide +kernel) (by decide +kernel)⟩
theorem fX6_82 : pv_fld RX6 82 0 0 := ⟨by decide, pv_memi 118 (by decide +kernel) (by decide +kernel)⟩
theorem fX4_30 : pv_fld RX4 30 0 0 := ⟨by decide, pv_memi 119 (by decide +kernel) (by decide +kernel)⟩
theorem fX0_18 : pv_fld RX0 18 0 1 := ⟨by decide, pv_memi 120 (by decide +kernel) (by decide +kernel)⟩
theorem w0_1 : pv_wr 0 1 .int := ⟨by decide +kernel, by decide +kernel⟩
theorem fX6_78 : pv_fld RX6 78 0 1 := ⟨by decide, pv_memi 121 (by decide +kernel) (by decide +kernel)⟩
theorem fX4_18 : pv_fld RX4 18 0 1 := ⟨by decide, pv_memi 122 (by decide +kernel) (by decide +kernel)⟩
theorem fX6_111 : pv_fld RX6 111 0 2 := ⟨by decide, pv_memi 123 (by decide +kernel) (by decide +kernel)⟩
theorem w0_2 : pv_wr 0 2 .int := ⟨by decide +kernel, by decide +kernel⟩
theorem fX4_24 : pv_fld RX4 24 0 2 := ⟨by decide, pv_memi 124 (by decide +kernel) (by decide +kernel)⟩
theorem fX4_27 : pv_fld RX4 27 0 3 := ⟨by decide, pv_memi 125 (by decide +kernel) (by decide +kernel)⟩
theorem w0_3 : pv_wr 0 3 .int := ⟨by decide +kernel, by decide +kernel⟩
theorem fX6_114 : pv_fld RX6 114 0 3 := ⟨by decide, pv_memi 126 (by decide +kernel) (by decide +kernel)⟩
theorem fX1_9 : pv_fld RX1 9 1 0 := ⟨by decide, pv_memi 142 (by decide +kernel) (by decide +kernel)⟩
theorem fX1_15 : pv_fld RX1 15 1 1 := ⟨by decide, pv_memi 143 (by decide +kernel) (by decide +kernel)⟩
theorem fX1_18 : pv_fld RX1 18 1 2 := ⟨by decide, pv_memi 144 (by decide +kernel) (by decide +kernel)⟩
theorem fX1_22 : pv_fld RX1 22 1 3 := ⟨by decide, pv_memi 145 (by decide +kernel) (by decide +kernel)⟩
theorem w1_3 : pv_wr 1 3 .int := ⟨by decide +kernel, by decide +kernel⟩
theorem fX6_75 : pv_fld RX6 75 1 3 := ⟨by decide, pv_memi 146 (by decide +kernel) (by decide +kernel)⟩
theorem fX2_9 : pv_fld RX2 9 2 0 := ⟨by decide, pv_memi 163 (by decide +kernel) (by decide +kernel)⟩
theorem fX6_248 : pv_fld RX6 248 2 0 := ⟨by decide, pv_memi 164 (by decide +kernel) (by decide +kernel)⟩
theorem fX2_15 : pv_fld RX2 15 2 1 := ⟨by decide, pv_memi 165 (by decide +kernel) (by decide +kernel)⟩
theorem fX6_176 : pv_fld RX6 176 2 1 := ⟨by decide, pv_memi 166 (by decide +kernel) (by decide +kernel)⟩
theorem fX2_18 : pv_fld RX2 18 2 2 := ⟨by decide, pv_memi 167 (by decide +kernel) (by decide +kernel)⟩
theorem fX6_142 : pv_fld RX6 142 2 2 := ⟨by decide, pv_memi 168 (by decide +kernel) (by decide +kernel)⟩
theorem fX2_21 : pv_fld RX2 21 2 3 := ⟨by decide, pv_memi 169 (by decide +kernel) (by decide +kernel)⟩
theorem fX6_179 : pv_fld RX6 179 2 3 := ⟨by decide, pv_memi 170 (by decide +kernel) (by decide +kernel)⟩
theorem fX2_24 : pv_fld RX2 24 2 4 := ⟨by decide, pv_memi 171 (by decide +kernel) (by decide +kernel)⟩
theorem fX1_26 : pv_fld RX1 26 2 4 := ⟨by decide, pv_memi 172 (by decide +kernel) (by decide +kernel)⟩
theorem fX2_27 : pv_fld RX2 27 2 5 := ⟨by decide, pv_memi 173 (by decide +kernel) (by decide +kernel)⟩
theorem fX1_31 : pv_fld RX1 31 2 5 := ⟨by decide, pv_memi 174 (by decide +kernel) (by decide +kernel)⟩
theorem fX2_30 : pv_fld RX2 30 2 6 := ⟨by decide, pv_memi 175 (by decide +kernel) (by decide +kernel)⟩
theorem w2_6 : pv_wr 2 6 .int := ⟨by decide +kernel, by decide +kernel⟩
theorem fX6_237 : pv_fld RX6 237 2 6 := ⟨by decide, pv_memi 176 (by decide +kernel) (by decide +kernel)⟩
theorem fX2_34 : pv_fld RX2 34 2 7 := ⟨by decide, pv_memi 177 (by decide +kernel) (by decide +kernel)⟩
theorem w2_7 : pv_wr 2 7 .int := ⟨by decide +kernel, by decide +kernel⟩
theorem fX6_148 : pv_fld RX6 148 2 7 := ⟨by decide, pv_memi 178 (by decide +kernel) (by decide +kernel)⟩
theorem fX2_37 : pv_fld RX2 37 2 8 := ⟨by decide, pv_memi 179 (by decide +kernel) (by decide +kernel)⟩
theorem w2_8 : pv_wr 2 8 .int := ⟨by decide +kernel, by decide +kernel⟩
theorem fX6_175 : pv_fld RX6 175 2 8 := ⟨by decide, pv_memi 180 (by decide +kernel) (by decide +kernel)⟩
theorem fX2_40 : pv_fld RX2 40 2 9 := ⟨by decide, pv_memi 181 (by decide +kernel) (by decide +kernel)⟩
theorem w2_9 : pv_wr 2 9 .int := ⟨by decide +kernel, by decide +kernel⟩
theorem fX6_139 : pv_fld RX6 139 2 9 := ⟨by decide, pv_memi 182 (by decide +kernel) (by decide +kernel)⟩
theorem fX2_43 : pv_fld RX2 43 2 10 := ⟨by decide, pv_memi 183 (by decide +kernel) (by decide +kernel)⟩
theorem w2_10 : pv_wr 2 10 .int := ⟨by decide +kernel, by decide +kernel⟩
theorem fX6_155 : pv_fld RX6 155 2 10 := ⟨by decide, pv_memi 184 (by decide +kernel) (by decide +kernel)⟩
theorem fX6_13 : pv_fld RX6 13 5 0 := ⟨by decide, pv_memi 208 (by decide +kernel) (by decide +kernel)⟩
theorem fX6_21 : pv_fld RX6 21 5 1 := ⟨by decide, pv_memi 209 (by decide +kernel) (by decide +kernel)⟩
theorem fX6_28 : pv_fld RX6 28 5 2 := ⟨by decide, pv_memi 210 (by decide +kernel) (by decide +kernel)⟩
theorem fX6_35 : pv_fld RX6 35 5 3 := ⟨by decide, pv_memi 211 (by decide +kernel) (by decide +kernel)⟩
theorem fX6_39 : pv_fld RX6 39 5 4 := ⟨by decide, pv_memi 212 (by decide +kernel) (by decide +kernel)⟩
theorem fX6_43 : pv_fld RX6 43 5 5 := ⟨by decide, pv_memi 213 (by decide +kernel) (by decide +kernel)⟩
theorem w5_5 : pv_wr 5 5 .int := ⟨by decide +kernel, by decide +kernel⟩
theorem fX6_234 : pv_fld RX6 234 5 6 := ⟨by decide, pv_memi 214 (by decide +kernel) (by decide +kernel)⟩
theorem w5_6 : pv_wr 5 6 .int := ⟨by decide +kernel, by decide +kernel⟩
theorem fX7_77 : pv_fld RX7 77 6 0 := ⟨by decide, pv_memi 525 (by decide +kernel) (by decide +kernel)⟩
theorem w6_0 : pv_wr 6 0 .int := ⟨by decide +kernel, by decide +kernel⟩
theorem fX7_136 : pv_fld RX7 136 6 1 := ⟨by decide, pv_memi 526 (by decide +kernel) (by decide +kernel)⟩
theorem w6_1 : pv_wr 6 1 .int := ⟨by decide +kernel, by decide +kernel⟩
theorem fX7_139 : pv_fld RX7 139 6 2 := ⟨by decide, pv_memi 527 (by decide +kernel) (by decide +kernel)⟩
theorem w6_2 : pv_wr 6 2 .int := ⟨by decide +kernel, by decide +kernel⟩
theorem fX7_84 : pv_fld RX7 84 6 3 := ⟨by decide, pv_memi 528 (by decide +kernel) (by decide +kernel)⟩
theorem w6_3 : pv_wr 6 3 .int := ⟨by decide +kernel, by decide +kernel⟩
theorem fX7_7 : pv_fld RX7 7 6 4 := ⟨by decide, pv_memi 529 (by decide +kernel) (by decide +kernel)⟩
theorem fX7_13 : pv_fld RX7 13 6 5 := ⟨by decide, pv_memi 530 (by decide +kernel) (by decide +kernel)⟩
theorem fX7_16 : pv_fld RX7 16 6 6 := ⟨by decide, pv_memi 531 (by decide +kernel) (by decide +kernel)⟩
theorem fX7_19 : pv_fld RX7 19 6 7 := ⟨by decide, pv_memi 532 (by decide +kernel) (by decide +kernel)⟩
theorem fX7_22 : pv_fld RX7 22 6 8 := ⟨by decide, pv_memi 533 (by decide +kernel) (by decide +kernel)⟩
theorem fX7_71 : pv_fld RX7 71 6 9 := ⟨by decide, pv_memi 534 (by decide +kernel) (by decide +kernel)⟩
theorem w6_9 : pv_wr 6 9 .int := ⟨by decide +kernel, by decide +kernel⟩
theorem fX7_91 : pv_fld RX7 91 6 10 := ⟨by decide, pv_memi 535 (by decide +kernel) (by decide +kernel)⟩
theorem w6_10 : pv_wr 6 10 .int := ⟨by decide +kernel, by decide +kernel⟩
theorem fX7_105 : pv_fld RX7 105 6 11 := ⟨by decide, pv_memi 536 (by decide +kernel) (by decide +kernel)⟩
theorem w6_11 : pv_wr 6 11 .int := ⟨by decide +kernel, by decide +kernel⟩
theorem fX7_98 : pv_fld RX7 98 6 12 := ⟨by decide, pv_memi 537 (by decide +kernel) (by decide +kernel)⟩
theorem w6_12 : pv_wr 6 12 .int := ⟨by decide +kernel, by decide +kernel⟩
theorem fX7_25 : pv_fld RX7 25 6 13 := ⟨by decide, pv_memi 538 (by decide +kernel) (by decide +kernel)⟩
theorem fX7_28 : pv_fld RX7 28 6 14 := ⟨by decide, pv_memi 539 (by decide +kernel) (by decide +kernel)⟩
theorem fX7_31 : pv_fld RX7 31 6 15 := ⟨by decide, pv_memi 540 (by decide +kernel) (by decide +kernel)⟩
theorem fX7_34 : pv_fld RX7 34 6 16 := ⟨by decide, pv_memi 541 (by decide +kernel) (by decide +kernel)⟩
theorem fX7_37 : pv_fld RX7 37 6 17 := ⟨by decide, pv_memi 542 (by decide +kernel) (by decide +kernel)⟩
theorem fX7_40 : pv_fld RX7 40 6 18 := ⟨by decide, pv_memi 543 (by decide +kernel) (by decide +kernel)⟩
theorem fX7_43 : pv_fld RX7 43 6 19 := ⟨by decide, pv_memi 544 (by decide +kernel) (by decide +kernel)⟩
theorem fX7_46 : pv_fld RX7 46 6 20 := ⟨by decide, pv_memi 545 (by decide +kernel) (by decide +kernel)⟩
theorem fX7_160 : pv_fld RX7 160 6 21 := ⟨by decide, pv_memi 546 (by decide +kernel) (by decide +kernel)⟩
theorem w6_21 : pv_wr 6 21 .int := ⟨by decide +kernel, by decide +kernel⟩
theorem fX7_163 : pv_fld RX7 163 6 22 := ⟨by decide, pv_memi 547 (by decide +kernel) (by decide +kernel)⟩
theorem w6_22 : pv_wr 6 22 .int := ⟨by decide +kernel, by decide +kernel⟩
theorem fX7_166 : pv_fld RX7 166 6 23 := ⟨by decide, pv_memi 548 (by decide +kernel) (by decide +kernel)⟩
theorem w6_23 : pv_wr 6 23 .int := ⟨by decide +kernel, by decide +kernel⟩
theorem fX7_203 : pv_fld RX7 203 6 24 := ⟨by decide, pv_memi 549 (by decide +kernel) (by decide +kernel)⟩
theorem w6_24 : pv_wr 6 24 .int := ⟨by decide +kernel, by decide +kernel⟩
theorem fX7_142 : pv_fld RX7 142 6 25 := ⟨by decide, pv_memi 550 (by decide +kernel) (by decide +kernel)⟩
theorem w6_25 : pv_wr 6 25 .int := ⟨by decide +kernel, by decide +kernel⟩
theorem fX7_49 : pv_fld RX7 49 6 26 := ⟨by decide, pv_memi 551 (by decide +kernel) (by decide +kernel)⟩
theorem fX7_52 : pv_fld RX7 52 6 27 := ⟨by decide, pv_memi 552 (by decide +kernel) (by decide +kernel)⟩
theorem fX7_55 : pv_fld RX7 55 6 28 := ⟨by decide, pv_memi 553 (by decide +kernel) (by decide +kernel)⟩
theorem fX7_59 : pv_fld RX7 59 6 29 := ⟨by decide, pv_memi 554 (by decide +kernel) (by decide +kernel)⟩
theorem fX7_62 : pv_fld RX7 62 6 30 := ⟨by decide, pv_memi 555 (by decide +kernel) (by decide +kernel)⟩
theorem fX7_65 : pv_fld RX7 65 6 31 := ⟨by decide, pv_memi 556 (by decide +kernel) (by decide +kernel)⟩
theorem fX7_68 : pv_fld RX7 68 6 32 := ⟨by decide, pv_memi 557 (by decide +kernel) (by decide +kernel)⟩
theorem fX7_240 : pv_fld RX7 240 6 33 := ⟨by decide, pv_memi 558 (by decide +kernel) (by decide +kernel)⟩
theorem w6_33 : pv_wr 6 33 .int := ⟨by decide +kernel, by decide +kernel⟩
theorem qJ6_265 : Cond.constant RJ6 265 (1431655765) ∈ pv_T := pv_memi 331 (by decide +kernel) (by decide +kernel)
theorem qJ6_266 : Cond.constant RJ6 266 (858993459) ∈ pv_T := pv_memi 332 (by decide +kernel) (by decide +kernel)
theorem qJ6_267 : Cond.constant RJ6 267 (252645135) ∈ pv_T := pv_memi 333 (by decide +kernel) (by decide +kernel)
theorem qX6_190 : Cond.constantLong RX6 190 (-9223372036854775808) ∈ pv_T := pv_memi 444 (by decide +kernel) (by decide +kernel)
theorem qX6_196 : Cond.constantLong RX6 196 (2) ∈ pv_T := pv_memi 448 (by decide +kernel) (by decide +kernel)
theorem qX7_153 : Cond.constantLong RX7 153 (3) ∈ pv_T := pv_memi 635 (by decide +kernel) (by decide +kernel)
theorem qX7_127 : Cond.constantLong RX7 127 (2) ∈ pv_T := pv_memi 643 (by decide +kernel) (by decide +kernel)
theorem qX7_151 : Cond.constantLong RX7 151 (9) ∈ pv_T := pv_memi 687 (by decide +kernel) (by decide +kernel)
theorem qX7_155 : Cond.constantLong RX7 155 (63) ∈ pv_T := pv_memi 696 (by decide +kernel) (by decide +kernel)
theorem qX7_180 : Cond.constantLong RX7 180 (10) ∈ pv_T := pv_memi 701 (by decide +kernel) (by decide +kernel)
theorem qX7_182 : Cond.constantLong RX7 182 (15) ∈ pv_T := pv_memi 702 (by decide +kernel) (by decide +kernel)
theorem qX7_178 : Cond.constantLong RX7 178 (6) ∈ pv_T := pv_memi 707 (by decide +kernel) (by decide +kernel)
theorem qX7_206 : Cond.constantLong RX7 206 (-1) ∈ pv_T := pv_memi 735 (by decide +kernel) (by decide +kernel)
theorem qX7_208 : Cond.constantLong RX7 208 (5) ∈ pv_T := pv_memi 736 (by decide +kernel) (by decide +kernel)
theorem qX7_213 : Cond.constantLong RX7 213 (30) ∈ pv_T := pv_memi 753 (by decide +kernel) (by decide +kernel)
theorem qX7_221 : Cond.constantLong RX7 221 (999) ∈ pv_T := pv_memi 794 (by decide +kernel) (by decide +kernel)
theorem qX7_75 : Cond.constantLong RX7 75 (-9223372036854775808) ∈ pv_T := pv_memi 810 (by decide +kernel) (by decide +kernel)
end
section
/-! rows by arity, values of truth, indices that are numbers -/
def pv_fn (v : Option Value) (M' : pv_M) : pv_Q := fun r M => r = v ∧ M = M'
def bi (b : Bool) : Int32 := if b then 1 else 0
theorem bi_eq {b : Bool} : bi b = 0 ↔ b = false := by cases b <;> decide
theorem bi_ne {b : Bool} : (¬ bi b = 0) ↔ b = true := by cases b <;> decide
theorem bi_nn {b : Bool} : (¬ ¬ bi b = 0) ↔ b = false := by cases b <;> decide
theorem bi_t {b : Bool} (h : ¬ bi b = 0) : b = true := bi_ne.mp h
theorem bi_f {b : Bool} (h : bi b = 0) : b = false := bi_eq.mp h
theorem bi_one {b : Bool} (h : b = true) : (1 : Int32) = bi b := by rw [h]; rfl
theorem bi_zero {b : Bool} (h : b = false) : (0 : Int32) = bi b := by rw [h]; rfl
theorem bi_nar (b : Bool) : narrow .boolean (.int (bi b)) = .int (bi b) := by cases b <;> rfl
theorem nI_inc {h : Nat} : nI h + Int32.ofInt 1 = nI (h + 1) := by
  have e : Int32.ofInt 1 = 1 := by decide
  rw [e, nI_1]
section PV3
variable {Γ : pv_G} {d : Nat} {V : pv_V} {pc pc' : Nat} {L st : List Value} {M : pv_M} {Q : pv_Q}
theorem PW_ialdn {pl n j : Nat} (hd : decode V.2.1 pc = .ok (.iaload, 1)) (hp : pc + 1 = pc') (hl0 : pv_lay pl = .inr (.inl (0, n))) (hn : Nat.ble n 240 = true) (hj : j < n) (k1 : PW Γ d V pc' L (.int (M pl j) :: st) M Q) : PW Γ d V pc L (.int (nI j) :: .ref pl :: st) M Q := by
  have h2 : n < 2 ^ 31 := Nat.lt_of_le_of_lt (Nat.le_of_ble_eq_true hn) (by decide)
  refine PW_iald hd hp hl0 (vp_in_nI hj h2) ?_
  rw [nI_clamp (Nat.lt_trans hj h2)]
  exact k1
theorem PW_zaldn {pl n j : Nat} (hd : decode V.2.1 pc = .ok (.baload, 1)) (hp : pc + 1 = pc') (hl0 : pv_lay pl = .inr (.inl (1, n))) (hn : Nat.ble n 240 = true) (hj : j < n) (k1 : PW Γ d V pc' L (.int (M pl j) :: st) M Q) : PW Γ d V pc L (.int (nI j) :: .ref pl :: st) M Q := by
  have h2 : n < 2 ^ 31 := Nat.lt_of_le_of_lt (Nat.le_of_ble_eq_true hn) (by decide)
  refine PW_zald hd hp hl0 (vp_in_nI hj h2) ?_
  rw [nI_clamp (Nat.lt_trans hj h2)]
  exact k1
theorem PW_iastn {pl n j : Nat} {x : Int32} (hd : decode V.2.1 pc = .ok (.iastore, 1)) (hp : pc + 1 = pc') (hl0 : pv_lay pl = .inr (.inl (0, n))) (hn : Nat.ble n 240 = true) (hj : j < n) (k1 : PW Γ d V pc' L st (pv_up M pl j x) Q) : PW Γ d V pc L (.int x :: .int (nI j) :: .ref pl :: st) M Q := by
  have h2 : n < 2 ^ 31 := Nat.lt_of_le_of_lt (Nat.le_of_ble_eq_true hn) (by decide)
  refine PW_iast hd hp hl0 (vp_in_nI hj h2) ?_
  rw [nI_clamp (Nat.lt_trans hj h2)]
  exact k1
theorem PW_zastn {pl n j : Nat} {x : Int32} (hd : decode V.2.1 pc = .ok (.bastore, 1)) (hp : pc + 1 = pc') (hl0 : pv_lay pl = .inr (.inl (1, n))) (hn : Nat.ble n 240 = true) (hj : j < n) (hx1 : vp_nar .boolean x = x) (k1 : PW Γ d V pc' L st (pv_up M pl j x) Q) : PW Γ d V pc L (.int x :: .int (nI j) :: .ref pl :: st) M Q := by
  have h2 : n < 2 ^ 31 := Nat.lt_of_le_of_lt (Nat.le_of_ble_eq_true hn) (by decide)
  refine PW_zast hd hp hl0 (vp_in_nI hj h2) hx1 ?_
  rw [nI_clamp (Nat.lt_trans hj h2)]
  exact k1
/-- sheets[k] and things[k] -/
theorem PW_aald2 {j : Nat} (hd : decode V.2.1 pc = .ok (.aaload, 1)) (hp : pc + 1 = pc') (hj : j < 4) (k1 : PW Γ d V pc' L (.ref (2 + j) :: st) M Q) : PW Γ d V pc L (.int (nI j) :: .ref 1 :: st) M Q := by
  have h2 : j < 2 ^ 31 := Nat.lt_trans hj (by decide)
  refine PW_aald hd hp (t := 2) (ps := [2, 3, 4, 5]) rfl (Or.inl rfl) (vp_in_nI hj (by decide)) (q := 2 + j) ?_ k1
  rw [nI_clamp h2]
  match j, hj with
  | 0, _ => rfl
  | 1, _ => rfl
  | 2, _ => rfl
  | 3, _ => rfl
theorem PW_aald3 {j : Nat} (hd : decode V.2.1 pc = .ok (.aaload, 1)) (hp : pc + 1 = pc') (hj : j < 5) (k1 : PW Γ d V pc' L (.ref (12 + j) :: st) M Q) : PW Γ d V pc L (.int (nI j) :: .ref 11 :: st) M Q := by
  have h2 : j < 2 ^ 31 := Nat.lt_trans hj (by decide)
  refine PW_aald hd hp (t := 3) (ps := [12, 13, 14, 15, 16]) rfl (Or.inr rfl) (vp_in_nI hj (by decide)) (q := 12 + j) ?_ k1
  rw [nI_clamp h2]
  match j, hj with
  | 0, _ => rfl
  | 1, _ => rfl
  | 2, _ => rfl
  | 3, _ => rfl
  | 4, _ => rfl
theorem pv_lay_thing {j : Nat} (hj : j < 5) : pv_lay (12 + j) = .inl (4, [none, none, none, none, none]) := by
  match j, hj with
  | 0, _ => rfl
  | 1, _ => rfl
  | 2, _ => rfl
  | 3, _ => rfl
  | 4, _ => rfl
theorem pv_lay_sheet {j : Nat} (hj : j < 4) : pv_lay (2 + j) = .inl (3, [some (6 + j), none, none, none]) := by
  match j, hj with
  | 0, _ => rfl
  | 1, _ => rfl
  | 2, _ => rfl
  | 3, _ => rfl
theorem pv_lay_cells {j : Nat} (hj : j < 4) : pv_lay (6 + j) = .inr (.inl (0, 60)) := by
  match j, hj with
  | 0, _ => rfl
  | 1, _ => rfl
  | 2, _ => rfl
  | 3, _ => rfl
theorem PW_callV0g {V' : pv_V} {i pl ci : Nat} {fs : List (Option Nat)} {Q' : pv_Q} (hd : decode V.2.1 pc = .ok (.invokevirtual i, 3)) (hp : pc + 3 = pc') (hok : pv_okV V' 0) (hlink : Cond.methodLink V.1.cls i V'.1 ∈ pv_T) (hl0 : pv_lay pl = .inl (ci, fs)) (hci : pv_cl[ci]? = some (pv_c ci)) (hcn : (pv_c ci).1 = V'.1.cls) (hrest : (st.map fun v => v.category).sum ≤ 8) (hM : Ct Γ d V' [.ref pl] M Q') (k1 : ∀ (r : Option Value) (M' : pv_M), Q' r M' → PW Γ (d + 1) V pc' L (r.toList ++ st) M' Q) : PW Γ (d + 1) V pc L (.ref pl :: st) M Q := PW_callV (as := []) (st := st) hd hp hok hlink hl0 hci hcn rfl hrest rfl hM k1
theorem PW_callV0f {V' : pv_V} {i pl ci : Nat} {fs : List (Option Nat)} {M2 : pv_M} {y : Value} (hd : decode V.2.1 pc = .ok (.invokevirtual i, 3)) (hp : pc + 3 = pc') (hok : pv_okV V' 0) (hlink : Cond.methodLink V.1.cls i V'.1 ∈ pv_T) (hl0 : pv_lay pl = .inl (ci, fs)) (hci : pv_cl[ci]? = some (pv_c ci)) (hcn : (pv_c ci).1 = V'.1.cls) (hrest : (st.map fun v => v.category).sum ≤ 8) (hM : Ct Γ d V' [.ref pl] M (pv_fn (some y) M2)) (k1 : PW Γ (d + 1) V pc' L (y :: st) M2 Q) : PW Γ (d + 1) V pc L (.ref pl :: st) M Q := PW_callV (as := []) (st := st) hd hp hok hlink hl0 hci hcn rfl hrest rfl hM (fun r M' h => by obtain ⟨rfl, rfl⟩ := h; exact k1)
theorem PW_callV0v {V' : pv_V} {i pl ci : Nat} {fs : List (Option Nat)} {M2 : pv_M} (hd : decode V.2.1 pc = .ok (.invokevirtual i, 3)) (hp : pc + 3 = pc') (hok : pv_okV V' 0) (hlink : Cond.methodLink V.1.cls i V'.1 ∈ pv_T) (hl0 : pv_lay pl = .inl (ci, fs)) (hci : pv_cl[ci]? = some (pv_c ci)) (hcn : (pv_c ci).1 = V'.1.cls) (hrest : (st.map fun v => v.category).sum ≤ 8) (hM : Ct Γ d V' [.ref pl] M (pv_fn none M2)) (k1 : PW Γ (d + 1) V pc' L st M2 Q) : PW Γ (d + 1) V pc L (.ref pl :: st) M Q := PW_callV (as := []) (st := st) hd hp hok hlink hl0 hci hcn rfl hrest rfl hM (fun r M' h => by obtain ⟨rfl, rfl⟩ := h; exact k1)
theorem PW_callV0w {V' : pv_V} {i pl ci : Nat} {fs : List (Option Nat)} {P' : pv_M → Prop} (hd : decode V.2.1 pc = .ok (.invokevirtual i, 3)) (hp : pc + 3 = pc') (hok : pv_okV V' 0) (hlink : Cond.methodLink V.1.cls i V'.1 ∈ pv_T) (hl0 : pv_lay pl = .inl (ci, fs)) (hci : pv_cl[ci]? = some (pv_c ci)) (hcn : (pv_c ci).1 = V'.1.cls) (hrest : (st.map fun v => v.category).sum ≤ 8) (hM : Ct Γ d V' [.ref pl] M (fun r M' => r = none ∧ P' M')) (k1 : ∀ M' : pv_M, P' M' → PW Γ (d + 1) V pc' L st M' Q) : PW Γ (d + 1) V pc L (.ref pl :: st) M Q := PW_callV (as := []) (st := st) hd hp hok hlink hl0 hci hcn rfl hrest rfl hM (fun r M' h => by obtain ⟨rfl, h⟩ := h; exact k1 M' h)
theorem PW_callV0r {V' : pv_V} {i pl ci : Nat} {fs : List (Option Nat)} {P' : pv_M → Prop} {y : Value} (hd : decode V.2.1 pc = .ok (.invokevirtual i, 3)) (hp : pc + 3 = pc') (hok : pv_okV V' 0) (hlink : Cond.methodLink V.1.cls i V'.1 ∈ pv_T) (hl0 : pv_lay pl = .inl (ci, fs)) (hci : pv_cl[ci]? = some (pv_c ci)) (hcn : (pv_c ci).1 = V'.1.cls) (hrest : (st.map fun v => v.category).sum ≤ 8) (hM : Ct Γ d V' [.ref pl] M (fun r M' => r = some y ∧ P' M')) (k1 : ∀ M' : pv_M, P' M' → PW Γ (d + 1) V pc' L (y :: st) M' Q) : PW Γ (d + 1) V pc L (.ref pl :: st) M Q := PW_callV (as := []) (st := st) hd hp hok hlink hl0 hci hcn rfl hrest rfl hM (fun r M' h => by obtain ⟨rfl, h⟩ := h; exact k1 M' h)
theorem PW_callS0g {V' : pv_V} {i : Nat} {Q' : pv_Q} (hd : decode V.2.1 pc = .ok (.invokestatic i, 3)) (hp : pc + 3 = pc') (hok : pv_okS V' 0) (hlink : Cond.methodLink V.1.cls i V'.1 ∈ pv_T) (hrest : (st.map fun v => v.category).sum ≤ 8) (hM : Ct Γ d V' [] M Q') (k1 : ∀ (r : Option Value) (M' : pv_M), Q' r M' → PW Γ (d + 1) V pc' L (r.toList ++ st) M' Q) : PW Γ (d + 1) V pc L (st) M Q := PW_callS (as := []) (st := st) hd hp hok hlink rfl hrest rfl hM k1
theorem PW_callS0f {V' : pv_V} {i : Nat} {M2 : pv_M} {y : Value} (hd : decode V.2.1 pc = .ok (.invokestatic i, 3)) (hp : pc + 3 = pc') (hok : pv_okS V' 0) (hlink : Cond.methodLink V.1.cls i V'.1 ∈ pv_T) (hrest : (st.map fun v => v.category).sum ≤ 8) (hM : Ct Γ d V' [] M (pv_fn (some y) M2)) (k1 : PW Γ (d + 1) V pc' L (y :: st) M2 Q) : PW Γ (d + 1) V pc L (st) M Q := PW_callS (as := []) (st := st) hd hp hok hlink rfl hrest rfl hM (fun r M' h => by obtain ⟨rfl, rfl⟩ := h; exact k1)
theorem PW_callS0v {V' : pv_V} {i : Nat} {M2 : pv_M} (hd : decode V.2.1 pc = .ok (.invokestatic i, 3)) (hp : pc + 3 = pc') (hok : pv_okS V' 0) (hlink : Cond.methodLink V.1.cls i V'.1 ∈ pv_T) (hrest : (st.map fun v => v.category).sum ≤ 8) (hM : Ct Γ d V' [] M (pv_fn none M2)) (k1 : PW Γ (d + 1) V pc' L st M2 Q) : PW Γ (d + 1) V pc L (st) M Q := PW_callS (as := []) (st := st) hd hp hok hlink rfl hrest rfl hM (fun r M' h => by obtain ⟨rfl, rfl⟩ := h; exact k1)
theorem PW_callS0w {V' : pv_V} {i : Nat} {P' : pv_M → Prop} (hd : decode V.2.1 pc = .ok (.invokestatic i, 3)) (hp : pc + 3 = pc') (hok : pv_okS V' 0) (hlink : Cond.methodLink V.1.cls i V'.1 ∈ pv_T) (hrest : (st.map fun v => v.category).sum ≤ 8) (hM : Ct Γ d V' [] M (fun r M' => r = none ∧ P' M')) (k1 : ∀ M' : pv_M, P' M' → PW Γ (d + 1) V pc' L st M' Q) : PW Γ (d + 1) V pc L (st) M Q := PW_callS (as := []) (st := st) hd hp hok hlink rfl hrest rfl hM (fun r M' h => by obtain ⟨rfl, h⟩ := h; exact k1 M' h)
theorem PW_callS0r {V' : pv_V} {i : Nat} {P' : pv_M → Prop} {y : Value} (hd : decode V.2.1 pc = .ok (.invokestatic i, 3)) (hp : pc + 3 = pc') (hok : pv_okS V' 0) (hlink : Cond.methodLink V.1.cls i V'.1 ∈ pv_T) (hrest : (st.map fun v => v.category).sum ≤ 8) (hM : Ct Γ d V' [] M (fun r M' => r = some y ∧ P' M')) (k1 : ∀ M' : pv_M, P' M' → PW Γ (d + 1) V pc' L (y :: st) M' Q) : PW Γ (d + 1) V pc L (st) M Q := PW_callS (as := []) (st := st) hd hp hok hlink rfl hrest rfl hM (fun r M' h => by obtain ⟨rfl, h⟩ := h; exact k1 M' h)
theorem PW_callV1g {V' : pv_V} {i pl ci : Nat} {fs : List (Option Nat)} {x1 : Value} {Q' : pv_Q} (hd : decode V.2.1 pc = .ok (.invokevirtual i, 3)) (hp : pc + 3 = pc') (hok : pv_okV V' 1) (hlink : Cond.methodLink V.1.cls i V'.1 ∈ pv_T) (hl0 : pv_lay pl = .inl (ci, fs)) (hci : pv_cl[ci]? = some (pv_c ci)) (hcn : (pv_c ci).1 = V'.1.cls) (hrest : (st.map fun v => v.category).sum ≤ 8) (hM : Ct Γ d V' [.ref pl, x1] M Q') (k1 : ∀ (r : Option Value) (M' : pv_M), Q' r M' → PW Γ (d + 1) V pc' L (r.toList ++ st) M' Q) : PW Γ (d + 1) V pc L (x1 :: .ref pl :: st) M Q := PW_callV (as := [x1]) (st := st) hd hp hok hlink hl0 hci hcn rfl hrest rfl hM k1
theorem PW_callV1f {V' : pv_V} {i pl ci : Nat} {fs : List (Option Nat)} {x1 : Value} {M2 : pv_M} {y : Value} (hd : decode V.2.1 pc = .ok (.invokevirtual i, 3)) (hp : pc + 3 = pc') (hok : pv_okV V' 1) (hlink : Cond.methodLink V.1.cls i V'.1 ∈ pv_T) (hl0 : pv_lay pl = .inl (ci, fs)) (hci : pv_cl[ci]? = some (pv_c ci)) (hcn : (pv_c ci).1 = V'.1.cls) (hrest : (st.map fun v => v.category).sum ≤ 8) (hM : Ct Γ d V' [.ref pl, x1] M (pv_fn (some y) M2)) (k1 : PW Γ (d + 1) V pc' L (y :: st) M2 Q) : PW Γ (d + 1) V pc L (x1 :: .ref pl :: st) M Q := PW_callV (as := [x1]) (st := st) hd hp hok hlink hl0 hci hcn rfl hrest rfl hM (fun r M' h => by obtain ⟨rfl, rfl⟩ := h; exact k1)
theorem PW_callV1v {V' : pv_V} {i pl ci : Nat} {fs : List (Option Nat)} {x1 : Value} {M2 : pv_M} (hd : decode V.2.1 pc = .ok (.invokevirtual i, 3)) (hp : pc + 3 = pc') (hok : pv_okV V' 1) (hlink : Cond.methodLink V.1.cls i V'.1 ∈ pv_T) (hl0 : pv_lay pl = .inl (ci, fs)) (hci : pv_cl[ci]? = some (pv_c ci)) (hcn : (pv_c ci).1 = V'.1.cls) (hrest : (st.map fun v => v.category).sum ≤ 8) (hM : Ct Γ d V' [.ref pl, x1] M (pv_fn none M2)) (k1 : PW Γ (d + 1) V pc' L st M2 Q) : PW Γ (d + 1) V pc L (x1 :: .ref pl :: st) M Q := PW_callV (as := [x1]) (st := st) hd hp hok hlink hl0 hci hcn rfl hrest rfl hM (fun r M' h => by obtain ⟨rfl, rfl⟩ := h; exact k1)
theorem PW_callV1w {V' : pv_V} {i pl ci : Nat} {fs : List (Option Nat)} {x1 : Value} {P' : pv_M → Prop} (hd : decode V.2.1 pc = .ok (.invokevirtual i, 3)) (hp : pc + 3 = pc') (hok : pv_okV V' 1) (hlink : Cond.methodLink V.1.cls i V'.1 ∈ pv_T) (hl0 : pv_lay pl = .inl (ci, fs)) (hci : pv_cl[ci]? = some (pv_c ci)) (hcn : (pv_c ci).1 = V'.1.cls) (hrest : (st.map fun v => v.category).sum ≤ 8) (hM : Ct Γ d V' [.ref pl, x1] M (fun r M' => r = none ∧ P' M')) (k1 : ∀ M' : pv_M, P' M' → PW Γ (d + 1) V pc' L st M' Q) : PW Γ (d + 1) V pc L (x1 :: .ref pl :: st) M Q := PW_callV (as := [x1]) (st := st) hd hp hok hlink hl0 hci hcn rfl hrest rfl hM (fun r M' h => by obtain ⟨rfl, h⟩ := h; exact k1 M' h)
theorem PW_callV1r {V' : pv_V} {i pl ci : Nat} {fs : List (Option Nat)} {x1 : Value} {P' : pv_M → Prop} {y : Value} (hd : decode V.2.1 pc = .ok (.invokevirtual i, 3)) (hp : pc + 3 = pc') (hok : pv_okV V' 1) (hlink : Cond.methodLink V.1.cls i V'.1 ∈ pv_T) (hl0 : pv_lay pl = .inl (ci, fs)) (hci : pv_cl[ci]? = some (pv_c ci)) (hcn : (pv_c ci).1 = V'.1.cls) (hrest : (st.map fun v => v.category).sum ≤ 8) (hM : Ct Γ d V' [.ref pl, x1] M (fun r M' => r = some y ∧ P' M')) (k1 : ∀ M' : pv_M, P' M' → PW Γ (d + 1) V pc' L (y :: st) M' Q) : PW Γ (d + 1) V pc L (x1 :: .ref pl :: st) M Q := PW_callV (as := [x1]) (st := st) hd hp hok hlink hl0 hci hcn rfl hrest rfl hM (fun r M' h => by obtain ⟨rfl, h⟩ := h; exact k1 M' h)
theorem PW_callS1g {V' : pv_V} {i : Nat} {x1 : Value} {Q' : pv_Q} (hd : decode V.2.1 pc = .ok (.invokestatic i, 3)) (hp : pc + 3 = pc') (hok : pv_okS V' 1) (hlink : Cond.methodLink V.1.cls i V'.1 ∈ pv_T) (hrest : (st.map fun v => v.category).sum ≤ 8) (hM : Ct Γ d V' [x1] M Q') (k1 : ∀ (r : Option Value) (M' : pv_M), Q' r M' → PW Γ (d + 1) V pc' L (r.toList ++ st) M' Q) : PW Γ (d + 1) V pc L (x1 :: st) M Q := PW_callS (as := [x1]) (st := st) hd hp hok hlink rfl hrest rfl hM k1
theorem PW_callS1f {V' : pv_V} {i : Nat} {x1 : Value} {M2 : pv_M} {y : Value} (hd : decode V.2.1 pc = .ok (.invokestatic i, 3)) (hp : pc + 3 = pc') (hok : pv_okS V' 1) (hlink : Cond.methodLink V.1.cls i V'.1 ∈ pv_T) (hrest : (st.map fun v => v.category).sum ≤ 8) (hM : Ct Γ d V' [x1] M (pv_fn (some y) M2)) (k1 : PW Γ (d + 1) V pc' L (y :: st) M2 Q) : PW Γ (d + 1) V pc L (x1 :: st) M Q := PW_callS (as := [x1]) (st := st) hd hp hok hlink rfl hrest rfl hM (fun r M' h => by obtain ⟨rfl, rfl⟩ := h; exact k1)
theorem PW_callS1v {V' : pv_V} {i : Nat} {x1 : Value} {M2 : pv_M} (hd : decode V.2.1 pc = .ok (.invokestatic i, 3)) (hp : pc + 3 = pc') (hok : pv_okS V' 1) (hlink : Cond.methodLink V.1.cls i V'.1 ∈ pv_T) (hrest : (st.map fun v => v.category).sum ≤ 8) (hM : Ct Γ d V' [x1] M (pv_fn none M2)) (k1 : PW Γ (d + 1) V pc' L st M2 Q) : PW Γ (d + 1) V pc L (x1 :: st) M Q := PW_callS (as := [x1]) (st := st) hd hp hok hlink rfl hrest rfl hM (fun r M' h => by obtain ⟨rfl, rfl⟩ := h; exact k1)
theorem PW_callS1w {V' : pv_V} {i : Nat} {x1 : Value} {P' : pv_M → Prop} (hd : decode V.2.1 pc = .ok (.invokestatic i, 3)) (hp : pc + 3 = pc') (hok : pv_okS V' 1) (hlink : Cond.methodLink V.1.cls i V'.1 ∈ pv_T) (hrest : (st.map fun v => v.category).sum ≤ 8) (hM : Ct Γ d V' [x1] M (fun r M' => r = none ∧ P' M')) (k1 : ∀ M' : pv_M, P' M' → PW Γ (d + 1) V pc' L st M' Q) : PW Γ (d + 1) V pc L (x1 :: st) M Q := PW_callS (as := [x1]) (st := st) hd hp hok hlink rfl hrest rfl hM (fun r M' h => by obtain ⟨rfl, h⟩ := h; exact k1 M' h)
theorem PW_callS1r {V' : pv_V} {i : Nat} {x1 : Value} {P' : pv_M → Prop} {y : Value} (hd : decode V.2.1 pc = .ok (.invokestatic i, 3)) (hp : pc + 3 = pc') (hok : pv_okS V' 1) (hlink : Cond.methodLink V.1.cls i V'.1 ∈ pv_T) (hrest : (st.map fun v => v.category).sum ≤ 8) (hM : Ct Γ d V' [x1] M (fun r M' => r = some y ∧ P' M')) (k1 : ∀ M' : pv_M, P' M' → PW Γ (d + 1) V pc' L (y :: st) M' Q) : PW Γ (d + 1) V pc L (x1 :: st) M Q := PW_callS (as := [x1]) (st := st) hd hp hok hlink rfl hrest rfl hM (fun r M' h => by obtain ⟨rfl, h⟩ := h; exact k1 M' h)
theorem PW_callV2g {V' : pv_V} {i pl ci : Nat} {fs : List (Option Nat)} {x1 x2 : Value} {Q' : pv_Q} (hd : decode V.2.1 pc = .ok (.invokevirtual i, 3)) (hp : pc + 3 = pc') (hok : pv_okV V' 2) (hlink : Cond.methodLink V.1.cls i V'.1 ∈ pv_T) (hl0 : pv_lay pl = .inl (ci, fs)) (hci : pv_cl[ci]? = some (pv_c ci)) (hcn : (pv_c ci).1 = V'.1.cls) (hrest : (st.map fun v => v.category).sum ≤ 8) (hM : Ct Γ d V' [.ref pl, x1, x2] M Q') (k1 : ∀ (r : Option Value) (M' : pv_M), Q' r M' → PW Γ (d + 1) V pc' L (r.toList ++ st) M' Q) : PW Γ (d + 1) V pc L (x2 :: x1 :: .ref pl :: st) M Q := PW_callV (as := [x1, x2]) (st := st) hd hp hok hlink hl0 hci hcn rfl hrest rfl hM k1
theorem PW_callV2f {V' : pv_V} {i pl ci : Nat} {fs : List (Option Nat)} {x1 x2 : Value} {M2 : pv_M} {y : Value} (hd : decode V.2.1 pc = .ok (.invokevirtual i, 3)) (hp : pc + 3 = pc') (hok : pv_okV V' 2) (hlink : Cond.methodLink V.1.cls i V'.1 ∈ pv_T) (hl0 : pv_lay pl = .inl (ci, fs)) (hci : pv_cl[ci]? = some (pv_c ci)) (hcn : (pv_c ci).1 = V'.1.cls) (hrest : (st.map fun v => v.category).sum ≤ 8) (hM : Ct Γ d V' [.ref pl, x1, x2] M (pv_fn (some y) M2)) (k1 : PW Γ (d + 1) V pc' L (y :: st) M2 Q) : PW Γ (d + 1) V pc L (x2 :: x1 :: .ref pl :: st) M Q := PW_callV (as := [x1, x2]) (st := st) hd hp hok hlink hl0 hci hcn rfl hrest rfl hM (fun r M' h => by obtain ⟨rfl, rfl⟩ := h; exact k1)
theorem PW_callV2v {V' : pv_V} {i pl ci : Nat} {fs : List (Option Nat)} {x1 x2 : Value} {M2 : pv_M} (hd : decode V.2.1 pc = .ok (.invokevirtual i, 3)) (hp : pc + 3 = pc') (hok : pv_okV V' 2) (hlink : Cond.methodLink V.1.cls i V'.1 ∈ pv_T) (hl0 : pv_lay pl = .inl (ci, fs)) (hci : pv_cl[ci]? = some (pv_c ci)) (hcn : (pv_c ci).1 = V'.1.cls) (hrest : (st.map fun v => v.category).sum ≤ 8) (hM : Ct Γ d V' [.ref pl, x1, x2] M (pv_fn none M2)) (k1 : PW Γ (d + 1) V pc' L st M2 Q) : PW Γ (d + 1) V pc L (x2 :: x1 :: .ref pl :: st) M Q := PW_callV (as := [x1, x2]) (st := st) hd hp hok hlink hl0 hci hcn rfl hrest rfl hM (fun r M' h => by obtain ⟨rfl, rfl⟩ := h; exact k1)
theorem PW_callV2w {V' : pv_V} {i pl ci : Nat} {fs : List (Option Nat)} {x1 x2 : Value} {P' : pv_M → Prop} (hd : decode V.2.1 pc = .ok (.invokevirtual i, 3)) (hp : pc + 3 = pc') (hok : pv_okV V' 2) (hlink : Cond.methodLink V.1.cls i V'.1 ∈ pv_T) (hl0 : pv_lay pl = .inl (ci, fs)) (hci : pv_cl[ci]? = some (pv_c ci)) (hcn : (pv_c ci).1 = V'.1.cls) (hrest : (st.map fun v => v.category).sum ≤ 8) (hM : Ct Γ d V' [.ref pl, x1, x2] M (fun r M' => r = none ∧ P' M')) (k1 : ∀ M' : pv_M, P' M' → PW Γ (d + 1) V pc' L st M' Q) : PW Γ (d + 1) V pc L (x2 :: x1 :: .ref pl :: st) M Q := PW_callV (as := [x1, x2]) (st := st) hd hp hok hlink hl0 hci hcn rfl hrest rfl hM (fun r M' h => by obtain ⟨rfl, h⟩ := h; exact k1 M' h)
theorem PW_callV2r {V' : pv_V} {i pl ci : Nat} {fs : List (Option Nat)} {x1 x2 : Value} {P' : pv_M → Prop} {y : Value} (hd : decode V.2.1 pc = .ok (.invokevirtual i, 3)) (hp : pc + 3 = pc') (hok : pv_okV V' 2) (hlink : Cond.methodLink V.1.cls i V'.1 ∈ pv_T) (hl0 : pv_lay pl = .inl (ci, fs)) (hci : pv_cl[ci]? = some (pv_c ci)) (hcn : (pv_c ci).1 = V'.1.cls) (hrest : (st.map fun v => v.category).sum ≤ 8) (hM : Ct Γ d V' [.ref pl, x1, x2] M (fun r M' => r = some y ∧ P' M')) (k1 : ∀ M' : pv_M, P' M' → PW Γ (d + 1) V pc' L (y :: st) M' Q) : PW Γ (d + 1) V pc L (x2 :: x1 :: .ref pl :: st) M Q := PW_callV (as := [x1, x2]) (st := st) hd hp hok hlink hl0 hci hcn rfl hrest rfl hM (fun r M' h => by obtain ⟨rfl, h⟩ := h; exact k1 M' h)
theorem PW_callS2g {V' : pv_V} {i : Nat} {x1 x2 : Value} {Q' : pv_Q} (hd : decode V.2.1 pc = .ok (.invokestatic i, 3)) (hp : pc + 3 = pc') (hok : pv_okS V' 2) (hlink : Cond.methodLink V.1.cls i V'.1 ∈ pv_T) (hrest : (st.map fun v => v.category).sum ≤ 8) (hM : Ct Γ d V' [x1, x2] M Q') (k1 : ∀ (r : Option Value) (M' : pv_M), Q' r M' → PW Γ (d + 1) V pc' L (r.toList ++ st) M' Q) : PW Γ (d + 1) V pc L (x2 :: x1 :: st) M Q := PW_callS (as := [x1, x2]) (st := st) hd hp hok hlink rfl hrest rfl hM k1
theorem PW_callS2f {V' : pv_V} {i : Nat} {x1 x2 : Value} {M2 : pv_M} {y : Value} (hd : decode V.2.1 pc = .ok (.invokestatic i, 3)) (hp : pc + 3 = pc') (hok : pv_okS V' 2) (hlink : Cond.methodLink V.1.cls i V'.1 ∈ pv_T) (hrest : (st.map fun v => v.category).sum ≤ 8) (hM : Ct Γ d V' [x1, x2] M (pv_fn (some y) M2)) (k1 : PW Γ (d + 1) V pc' L (y :: st) M2 Q) : PW Γ (d + 1) V pc L (x2 :: x1 :: st) M Q := PW_callS (as := [x1, x2]) (st := st) hd hp hok hlink rfl hrest rfl hM (fun r M' h => by obtain ⟨rfl, rfl⟩ := h; exact k1)
theorem PW_callS2v {V' : pv_V} {i : Nat} {x1 x2 : Value} {M2 : pv_M} (hd : decode V.2.1 pc = .ok (.invokestatic i, 3)) (hp : pc + 3 = pc') (hok : pv_okS V' 2) (hlink : Cond.methodLink V.1.cls i V'.1 ∈ pv_T) (hrest : (st.map fun v => v.category).sum ≤ 8) (hM : Ct Γ d V' [x1, x2] M (pv_fn none M2)) (k1 : PW Γ (d + 1) V pc' L st M2 Q) : PW Γ (d + 1) V pc L (x2 :: x1 :: st) M Q := PW_callS (as := [x1, x2]) (st := st) hd hp hok hlink rfl hrest rfl hM (fun r M' h => by obtain ⟨rfl, rfl⟩ := h; exact k1)
theorem PW_callS2w {V' : pv_V} {i : Nat} {x1 x2 : Value} {P' : pv_M → Prop} (hd : decode V.2.1 pc = .ok (.invokestatic i, 3)) (hp : pc + 3 = pc') (hok : pv_okS V' 2) (hlink : Cond.methodLink V.1.cls i V'.1 ∈ pv_T) (hrest : (st.map fun v => v.category).sum ≤ 8) (hM : Ct Γ d V' [x1, x2] M (fun r M' => r = none ∧ P' M')) (k1 : ∀ M' : pv_M, P' M' → PW Γ (d + 1) V pc' L st M' Q) : PW Γ (d + 1) V pc L (x2 :: x1 :: st) M Q := PW_callS (as := [x1, x2]) (st := st) hd hp hok hlink rfl hrest rfl hM (fun r M' h => by obtain ⟨rfl, h⟩ := h; exact k1 M' h)
theorem PW_callS2r {V' : pv_V} {i : Nat} {x1 x2 : Value} {P' : pv_M → Prop} {y : Value} (hd : decode V.2.1 pc = .ok (.invokestatic i, 3)) (hp : pc + 3 = pc') (hok : pv_okS V' 2) (hlink : Cond.methodLink V.1.cls i V'.1 ∈ pv_T) (hrest : (st.map fun v => v.category).sum ≤ 8) (hM : Ct Γ d V' [x1, x2] M (fun r M' => r = some y ∧ P' M')) (k1 : ∀ M' : pv_M, P' M' → PW Γ (d + 1) V pc' L (y :: st) M' Q) : PW Γ (d + 1) V pc L (x2 :: x1 :: st) M Q := PW_callS (as := [x1, x2]) (st := st) hd hp hok hlink rfl hrest rfl hM (fun r M' h => by obtain ⟨rfl, h⟩ := h; exact k1 M' h)
theorem PW_callN2g {V' : pv_V} {x1 x2 : Value} {Q' : pv_Q} (hd : decode V.2.1 pc = .ok (.invokestatic 33, 3)) (hp : pc + 3 = pc') (hok : pv_okS V' 2) (hlink : V.1.cls = RX0 ∧ V'.1 = yX6_isIn) (hrest : (st.map fun v => v.category).sum ≤ 8) (hM : Ct Γ d V' [x1, x2] M Q') (k1 : ∀ (r : Option Value) (M' : pv_M), Q' r M' → PW Γ (d + 1) V pc' L (r.toList ++ st) M' Q) : PW Γ (d + 1) V pc L (x2 :: x1 :: st) M Q := PW_callSN (as := [x1, x2]) (st := st) hd hp hok hlink rfl hrest rfl hM k1
theorem PW_callN2f {V' : pv_V} {x1 x2 : Value} {M2 : pv_M} {y : Value} (hd : decode V.2.1 pc = .ok (.invokestatic 33, 3)) (hp : pc + 3 = pc') (hok : pv_okS V' 2) (hlink : V.1.cls = RX0 ∧ V'.1 = yX6_isIn) (hrest : (st.map fun v => v.category).sum ≤ 8) (hM : Ct Γ d V' [x1, x2] M (pv_fn (some y) M2)) (k1 : PW Γ (d + 1) V pc' L (y :: st) M2 Q) : PW Γ (d + 1) V pc L (x2 :: x1 :: st) M Q := PW_callSN (as := [x1, x2]) (st := st) hd hp hok hlink rfl hrest rfl hM (fun r M' h => by obtain ⟨rfl, rfl⟩ := h; exact k1)
theorem PW_callN2v {V' : pv_V} {x1 x2 : Value} {M2 : pv_M} (hd : decode V.2.1 pc = .ok (.invokestatic 33, 3)) (hp : pc + 3 = pc') (hok : pv_okS V' 2) (hlink : V.1.cls = RX0 ∧ V'.1 = yX6_isIn) (hrest : (st.map fun v => v.category).sum ≤ 8) (hM : Ct Γ d V' [x1, x2] M (pv_fn none M2)) (k1 : PW Γ (d + 1) V pc' L st M2 Q) : PW Γ (d + 1) V pc L (x2 :: x1 :: st) M Q := PW_callSN (as := [x1, x2]) (st := st) hd hp hok hlink rfl hrest rfl hM (fun r M' h => by obtain ⟨rfl, rfl⟩ := h; exact k1)
theorem PW_callN2w {V' : pv_V} {x1 x2 : Value} {P' : pv_M → Prop} (hd : decode V.2.1 pc = .ok (.invokestatic 33, 3)) (hp : pc + 3 = pc') (hok : pv_okS V' 2) (hlink : V.1.cls = RX0 ∧ V'.1 = yX6_isIn) (hrest : (st.map fun v => v.category).sum ≤ 8) (hM : Ct Γ d V' [x1, x2] M (fun r M' => r = none ∧ P' M')) (k1 : ∀ M' : pv_M, P' M' → PW Γ (d + 1) V pc' L st M' Q) : PW Γ (d + 1) V pc L (x2 :: x1 :: st) M Q := PW_callSN (as := [x1, x2]) (st := st) hd hp hok hlink rfl hrest rfl hM (fun r M' h => by obtain ⟨rfl, h⟩ := h; exact k1 M' h)
theorem PW_callN2r {V' : pv_V} {x1 x2 : Value} {P' : pv_M → Prop} {y : Value} (hd : decode V.2.1 pc = .ok (.invokestatic 33, 3)) (hp : pc + 3 = pc') (hok : pv_okS V' 2) (hlink : V.1.cls = RX0 ∧ V'.1 = yX6_isIn) (hrest : (st.map fun v => v.category).sum ≤ 8) (hM : Ct Γ d V' [x1, x2] M (fun r M' => r = some y ∧ P' M')) (k1 : ∀ M' : pv_M, P' M' → PW Γ (d + 1) V pc' L (y :: st) M' Q) : PW Γ (d + 1) V pc L (x2 :: x1 :: st) M Q := PW_callSN (as := [x1, x2]) (st := st) hd hp hok hlink rfl hrest rfl hM (fun r M' h => by obtain ⟨rfl, h⟩ := h; exact k1 M' h)
theorem PW_callV3g {V' : pv_V} {i pl ci : Nat} {fs : List (Option Nat)} {x1 x2 x3 : Value} {Q' : pv_Q} (hd : decode V.2.1 pc = .ok (.invokevirtual i, 3)) (hp : pc + 3 = pc') (hok : pv_okV V' 3) (hlink : Cond.methodLink V.1.cls i V'.1 ∈ pv_T) (hl0 : pv_lay pl = .inl (ci, fs)) (hci : pv_cl[ci]? = some (pv_c ci)) (hcn : (pv_c ci).1 = V'.1.cls) (hrest : (st.map fun v => v.category).sum ≤ 8) (hM : Ct Γ d V' [.ref pl, x1, x2, x3] M Q') (k1 : ∀ (r : Option Value) (M' : pv_M), Q' r M' → PW Γ (d + 1) V pc' L (r.toList ++ st) M' Q) : PW Γ (d + 1) V pc L (x3 :: x2 :: x1 :: .ref pl :: st) M Q := PW_callV (as := [x1, x2, x3]) (st := st) hd hp hok hlink hl0 hci hcn rfl hrest rfl hM k1
theorem PW_callV3f {V' : pv_V} {i pl ci : Nat} {fs : List (Option Nat)} {x1 x2 x3 : Value} {M2 : pv_M} {y : Value} (hd : decode V.2.1 pc = .ok (.invokevirtual i, 3)) (hp : pc + 3 = pc') (hok : pv_okV V' 3) (hlink : Cond.methodLink V.1.cls i V'.1 ∈ pv_T) (hl0 : pv_lay pl = .inl (ci, fs)) (hci : pv_cl[ci]? = some (pv_c ci)) (hcn : (pv_c ci).1 = V'.1.cls) (hrest : (st.map fun v => v.category).sum ≤ 8) (hM : Ct Γ d V' [.ref pl, x1, x2, x3] M (pv_fn (some y) M2)) (k1 : PW Γ (d + 1) V pc' L (y :: st) M2 Q) : PW Γ (d + 1) V pc L (x3 :: x2 :: x1 :: .ref pl :: st) M Q := PW_callV (as := [x1, x2, x3]) (st := st) hd hp hok hlink hl0 hci hcn rfl hrest rfl hM (fun r M' h => by obtain ⟨rfl, rfl⟩ := h; exact k1)
theorem PW_callV3v {V' : pv_V} {i pl ci : Nat} {fs : List (Option Nat)} {x1 x2 x3 : Value} {M2 : pv_M} (hd : decode V.2.1 pc = .ok (.invokevirtual i, 3)) (hp : pc + 3 = pc') (hok : pv_okV V' 3) (hlink : Cond.methodLink V.1.cls i V'.1 ∈ pv_T) (hl0 : pv_lay pl = .inl (ci, fs)) (hci : pv_cl[ci]? = some (pv_c ci)) (hcn : (pv_c ci).1 = V'.1.cls) (hrest : (st.map fun v => v.category).sum ≤ 8) (hM : Ct Γ d V' [.ref pl, x1, x2, x3] M (pv_fn none M2)) (k1 : PW Γ (d + 1) V pc' L st M2 Q) : PW Γ (d + 1) V pc L (x3 :: x2 :: x1 :: .ref pl :: st) M Q := PW_callV (as := [x1, x2, x3]) (st := st) hd hp hok hlink hl0 hci hcn rfl hrest rfl hM (fun r M' h => by obtain ⟨rfl, rfl⟩ := h; exact k1)
theorem PW_callV3w {V' : pv_V} {i pl ci : Nat} {fs : List (Option Nat)} {x1 x2 x3 : Value} {P' : pv_M → Prop} (hd : decode V.2.1 pc = .ok (.invokevirtual i, 3)) (hp : pc + 3 = pc') (hok : pv_okV V' 3) (hlink : Cond.methodLink V.1.cls i V'.1 ∈ pv_T) (hl0 : pv_lay pl = .inl (ci, fs)) (hci : pv_cl[ci]? = some (pv_c ci)) (hcn : (pv_c ci).1 = V'.1.cls) (hrest : (st.map fun v => v.category).sum ≤ 8) (hM : Ct Γ d V' [.ref pl, x1, x2, x3] M (fun r M' => r = none ∧ P' M')) (k1 : ∀ M' : pv_M, P' M' → PW Γ (d + 1) V pc' L st M' Q) : PW Γ (d + 1) V pc L (x3 :: x2 :: x1 :: .ref pl :: st) M Q := PW_callV (as := [x1, x2, x3]) (st := st) hd hp hok hlink hl0 hci hcn rfl hrest rfl hM (fun r M' h => by obtain ⟨rfl, h⟩ := h; exact k1 M' h)
theorem PW_callV3r {V' : pv_V} {i pl ci : Nat} {fs : List (Option Nat)} {x1 x2 x3 : Value} {P' : pv_M → Prop} {y : Value} (hd : decode V.2.1 pc = .ok (.invokevirtual i, 3)) (hp : pc + 3 = pc') (hok : pv_okV V' 3) (hlink : Cond.methodLink V.1.cls i V'.1 ∈ pv_T) (hl0 : pv_lay pl = .inl (ci, fs)) (hci : pv_cl[ci]? = some (pv_c ci)) (hcn : (pv_c ci).1 = V'.1.cls) (hrest : (st.map fun v => v.category).sum ≤ 8) (hM : Ct Γ d V' [.ref pl, x1, x2, x3] M (fun r M' => r = some y ∧ P' M')) (k1 : ∀ M' : pv_M, P' M' → PW Γ (d + 1) V pc' L (y :: st) M' Q) : PW Γ (d + 1) V pc L (x3 :: x2 :: x1 :: .ref pl :: st) M Q := PW_callV (as := [x1, x2, x3]) (st := st) hd hp hok hlink hl0 hci hcn rfl hrest rfl hM (fun r M' h => by obtain ⟨rfl, h⟩ := h; exact k1 M' h)
theorem PW_callS3g {V' : pv_V} {i : Nat} {x1 x2 x3 : Value} {Q' : pv_Q} (hd : decode V.2.1 pc = .ok (.invokestatic i, 3)) (hp : pc + 3 = pc') (hok : pv_okS V' 3) (hlink : Cond.methodLink V.1.cls i V'.1 ∈ pv_T) (hrest : (st.map fun v => v.category).sum ≤ 8) (hM : Ct Γ d V' [x1, x2, x3] M Q') (k1 : ∀ (r : Option Value) (M' : pv_M), Q' r M' → PW Γ (d + 1) V pc' L (r.toList ++ st) M' Q) : PW Γ (d + 1) V pc L (x3 :: x2 :: x1 :: st) M Q := PW_callS (as := [x1, x2, x3]) (st := st) hd hp hok hlink rfl hrest rfl hM k1
theorem PW_callS3f {V' : pv_V} {i : Nat} {x1 x2 x3 : Value} {M2 : pv_M} {y : Value} (hd : decode V.2.1 pc = .ok (.invokestatic i, 3)) (hp : pc + 3 = pc') (hok : pv_okS V' 3) (hlink : Cond.methodLink V.1.cls i V'.1 ∈ pv_T) (hrest : (st.map fun v => v.category).sum ≤ 8) (hM : Ct Γ d V' [x1, x2, x3] M (pv_fn (some y) M2)) (k1 : PW Γ (d + 1) V pc' L (y :: st) M2 Q) : PW Γ (d + 1) V pc L (x3 :: x2 :: x1 :: st) M Q := PW_callS (as := [x1, x2, x3]) (st := st) hd hp hok hlink rfl hrest rfl hM (fun r M' h => by obtain ⟨rfl, rfl⟩ := h; exact k1)
theorem PW_callS3v {V' : pv_V} {i : Nat} {x1 x2 x3 : Value} {M2 : pv_M} (hd : decode V.2.1 pc = .ok (.invokestatic i, 3)) (hp : pc + 3 = pc') (hok : pv_okS V' 3) (hlink : Cond.methodLink V.1.cls i V'.1 ∈ pv_T) (hrest : (st.map fun v => v.category).sum ≤ 8) (hM : Ct Γ d V' [x1, x2, x3] M (pv_fn none M2)) (k1 : PW Γ (d + 1) V pc' L st M2 Q) : PW Γ (d + 1) V pc L (x3 :: x2 :: x1 :: st) M Q := PW_callS (as := [x1, x2, x3]) (st := st) hd hp hok hlink rfl hrest rfl hM (fun r M' h => by obtain ⟨rfl, rfl⟩ := h; exact k1)
theorem PW_callS3w {V' : pv_V} {i : Nat} {x1 x2 x3 : Value} {P' : pv_M → Prop} (hd : decode V.2.1 pc = .ok (.invokestatic i, 3)) (hp : pc + 3 = pc') (hok : pv_okS V' 3) (hlink : Cond.methodLink V.1.cls i V'.1 ∈ pv_T) (hrest : (st.map fun v => v.category).sum ≤ 8) (hM : Ct Γ d V' [x1, x2, x3] M (fun r M' => r = none ∧ P' M')) (k1 : ∀ M' : pv_M, P' M' → PW Γ (d + 1) V pc' L st M' Q) : PW Γ (d + 1) V pc L (x3 :: x2 :: x1 :: st) M Q := PW_callS (as := [x1, x2, x3]) (st := st) hd hp hok hlink rfl hrest rfl hM (fun r M' h => by obtain ⟨rfl, h⟩ := h; exact k1 M' h)
theorem PW_callS3r {V' : pv_V} {i : Nat} {x1 x2 x3 : Value} {P' : pv_M → Prop} {y : Value} (hd : decode V.2.1 pc = .ok (.invokestatic i, 3)) (hp : pc + 3 = pc') (hok : pv_okS V' 3) (hlink : Cond.methodLink V.1.cls i V'.1 ∈ pv_T) (hrest : (st.map fun v => v.category).sum ≤ 8) (hM : Ct Γ d V' [x1, x2, x3] M (fun r M' => r = some y ∧ P' M')) (k1 : ∀ M' : pv_M, P' M' → PW Γ (d + 1) V pc' L (y :: st) M' Q) : PW Γ (d + 1) V pc L (x3 :: x2 :: x1 :: st) M Q := PW_callS (as := [x1, x2, x3]) (st := st) hd hp hok hlink rfl hrest rfl hM (fun r M' h => by obtain ⟨rfl, h⟩ := h; exact k1 M' h)
theorem PW_callV4g {V' : pv_V} {i pl ci : Nat} {fs : List (Option Nat)} {x1 x2 x3 x4 : Value} {Q' : pv_Q} (hd : decode V.2.1 pc = .ok (.invokevirtual i, 3)) (hp : pc + 3 = pc') (hok : pv_okV V' 4) (hlink : Cond.methodLink V.1.cls i V'.1 ∈ pv_T) (hl0 : pv_lay pl = .inl (ci, fs)) (hci : pv_cl[ci]? = some (pv_c ci)) (hcn : (pv_c ci).1 = V'.1.cls) (hrest : (st.map fun v => v.category).sum ≤ 8) (hM : Ct Γ d V' [.ref pl, x1, x2, x3, x4] M Q') (k1 : ∀ (r : Option Value) (M' : pv_M), Q' r M' → PW Γ (d + 1) V pc' L (r.toList ++ st) M' Q) : PW Γ (d + 1) V pc L (x4 :: x3 :: x2 :: x1 :: .ref pl :: st) M Q := PW_callV (as := [x1, x2, x3, x4]) (st := st) hd hp hok hlink hl0 hci hcn rfl hrest rfl hM k1
theorem PW_callV4f {V' : pv_V} {i pl ci : Nat} {fs : List (Option Nat)} {x1 x2 x3 x4 : Value} {M2 : pv_M} {y : Value} (hd : decode V.2.1 pc = .ok (.invokevirtual i, 3)) (hp : pc + 3 = pc') (hok : pv_okV V' 4) (hlink : Cond.methodLink V.1.cls i V'.1 ∈ pv_T) (hl0 : pv_lay pl = .inl (ci, fs)) (hci : pv_cl[ci]? = some (pv_c ci)) (hcn : (pv_c ci).1 = V'.1.cls) (hrest : (st.map fun v => v.category).sum ≤ 8) (hM : Ct Γ d V' [.ref pl, x1, x2, x3, x4] M (pv_fn (some y) M2)) (k1 : PW Γ (d + 1) V pc' L (y :: st) M2 Q) : PW Γ (d + 1) V pc L (x4 :: x3 :: x2 :: x1 :: .ref pl :: st) M Q := PW_callV (as := [x1, x2, x3, x4]) (st := st) hd hp hok hlink hl0 hci hcn rfl hrest rfl hM (fun r M' h => by obtain ⟨rfl, rfl⟩ := h; exact k1)
theorem PW_callV4v {V' : pv_V} {i pl ci : Nat} {fs : List (Option Nat)} {x1 x2 x3 x4 : Value} {M2 : pv_M} (hd : decode V.2.1 pc = .ok (.invokevirtual i, 3)) (hp : pc + 3 = pc') (hok : pv_okV V' 4) (hlink : Cond.methodLink V.1.cls i V'.1 ∈ pv_T) (hl0 : pv_lay pl = .inl (ci, fs)) (hci : pv_cl[ci]? = some (pv_c ci)) (hcn : (pv_c ci).1 = V'.1.cls) (hrest : (st.map fun v => v.category).sum ≤ 8) (hM : Ct Γ d V' [.ref pl, x1, x2, x3, x4] M (pv_fn none M2)) (k1 : PW Γ (d + 1) V pc' L st M2 Q) : PW Γ (d + 1) V pc L (x4 :: x3 :: x2 :: x1 :: .ref pl :: st) M Q := PW_callV (as := [x1, x2, x3, x4]) (st := st) hd hp hok hlink hl0 hci hcn rfl hrest rfl hM (fun r M' h => by obtain ⟨rfl, rfl⟩ := h; exact k1)
theorem PW_callV4w {V' : pv_V} {i pl ci : Nat} {fs : List (Option Nat)} {x1 x2 x3 x4 : Value} {P' : pv_M → Prop} (hd : decode V.2.1 pc = .ok (.invokevirtual i, 3)) (hp : pc + 3 = pc') (hok : pv_okV V' 4) (hlink : Cond.methodLink V.1.cls i V'.1 ∈ pv_T) (hl0 : pv_lay pl = .inl (ci, fs)) (hci : pv_cl[ci]? = some (pv_c ci)) (hcn : (pv_c ci).1 = V'.1.cls) (hrest : (st.map fun v => v.category).sum ≤ 8) (hM : Ct Γ d V' [.ref pl, x1, x2, x3, x4] M (fun r M' => r = none ∧ P' M')) (k1 : ∀ M' : pv_M, P' M' → PW Γ (d + 1) V pc' L st M' Q) : PW Γ (d + 1) V pc L (x4 :: x3 :: x2 :: x1 :: .ref pl :: st) M Q := PW_callV (as := [x1, x2, x3, x4]) (st := st) hd hp hok hlink hl0 hci hcn rfl hrest rfl hM (fun r M' h => by obtain ⟨rfl, h⟩ := h; exact k1 M' h)
theorem PW_callV4r {V' : pv_V} {i pl ci : Nat} {fs : List (Option Nat)} {x1 x2 x3 x4 : Value} {P' : pv_M → Prop} {y : Value} (hd : decode V.2.1 pc = .ok (.invokevirtual i, 3)) (hp : pc + 3 = pc') (hok : pv_okV V' 4) (hlink : Cond.methodLink V.1.cls i V'.1 ∈ pv_T) (hl0 : pv_lay pl = .inl (ci, fs)) (hci : pv_cl[ci]? = some (pv_c ci)) (hcn : (pv_c ci).1 = V'.1.cls) (hrest : (st.map fun v => v.category).sum ≤ 8) (hM : Ct Γ d V' [.ref pl, x1, x2, x3, x4] M (fun r M' => r = some y ∧ P' M')) (k1 : ∀ M' : pv_M, P' M' → PW Γ (d + 1) V pc' L (y :: st) M' Q) : PW Γ (d + 1) V pc L (x4 :: x3 :: x2 :: x1 :: .ref pl :: st) M Q := PW_callV (as := [x1, x2, x3, x4]) (st := st) hd hp hok hlink hl0 hci hcn rfl hrest rfl hM (fun r M' h => by obtain ⟨rfl, h⟩ := h; exact k1 M' h)
theorem PW_callS4g {V' : pv_V} {i : Nat} {x1 x2 x3 x4 : Value} {Q' : pv_Q} (hd : decode V.2.1 pc = .ok (.invokestatic i, 3)) (hp : pc + 3 = pc') (hok : pv_okS V' 4) (hlink : Cond.methodLink V.1.cls i V'.1 ∈ pv_T) (hrest : (st.map fun v => v.category).sum ≤ 8) (hM : Ct Γ d V' [x1, x2, x3, x4] M Q') (k1 : ∀ (r : Option Value) (M' : pv_M), Q' r M' → PW Γ (d + 1) V pc' L (r.toList ++ st) M' Q) : PW Γ (d + 1) V pc L (x4 :: x3 :: x2 :: x1 :: st) M Q := PW_callS (as := [x1, x2, x3, x4]) (st := st) hd hp hok hlink rfl hrest rfl hM k1
theorem PW_callS4f {V' : pv_V} {i : Nat} {x1 x2 x3 x4 : Value} {M2 : pv_M} {y : Value} (hd : decode V.2.1 pc = .ok (.invokestatic i, 3)) (hp : pc + 3 = pc') (hok : pv_okS V' 4) (hlink : Cond.methodLink V.1.cls i V'.1 ∈ pv_T) (hrest : (st.map fun v => v.category).sum ≤ 8) (hM : Ct Γ d V' [x1, x2, x3, x4] M (pv_fn (some y) M2)) (k1 : PW Γ (d + 1) V pc' L (y :: st) M2 Q) : PW Γ (d + 1) V pc L (x4 :: x3 :: x2 :: x1 :: st) M Q := PW_callS (as := [x1, x2, x3, x4]) (st := st) hd hp hok hlink rfl hrest rfl hM (fun r M' h => by obtain ⟨rfl, rfl⟩ := h; exact k1)
theorem PW_callS4v {V' : pv_V} {i : Nat} {x1 x2 x3 x4 : Value} {M2 : pv_M} (hd : decode V.2.1 pc = .ok (.invokestatic i, 3)) (hp : pc + 3 = pc') (hok : pv_okS V' 4) (hlink : Cond.methodLink V.1.cls i V'.1 ∈ pv_T) (hrest : (st.map fun v => v.category).sum ≤ 8) (hM : Ct Γ d V' [x1, x2, x3, x4] M (pv_fn none M2)) (k1 : PW Γ (d + 1) V pc' L st M2 Q) : PW Γ (d + 1) V pc L (x4 :: x3 :: x2 :: x1 :: st) M Q := PW_callS (as := [x1, x2, x3, x4]) (st := st) hd hp hok hlink rfl hrest rfl hM (fun r M' h => by obtain ⟨rfl, rfl⟩ := h; exact k1)
theorem PW_callS4w {V' : pv_V} {i : Nat} {x1 x2 x3 x4 : Value} {P' : pv_M → Prop} (hd : decode V.2.1 pc = .ok (.invokestatic i, 3)) (hp : pc + 3 = pc') (hok : pv_okS V' 4) (hlink : Cond.methodLink V.1.cls i V'.1 ∈ pv_T) (hrest : (st.map fun v => v.category).sum ≤ 8) (hM : Ct Γ d V' [x1, x2, x3, x4] M (fun r M' => r = none ∧ P' M')) (k1 : ∀ M' : pv_M, P' M' → PW Γ (d + 1) V pc' L st M' Q) : PW Γ (d + 1) V pc L (x4 :: x3 :: x2 :: x1 :: st) M Q := PW_callS (as := [x1, x2, x3, x4]) (st := st) hd hp hok hlink rfl hrest rfl hM (fun r M' h => by obtain ⟨rfl, h⟩ := h; exact k1 M' h)
theorem PW_callS4r {V' : pv_V} {i : Nat} {x1 x2 x3 x4 : Value} {P' : pv_M → Prop} {y : Value} (hd : decode V.2.1 pc = .ok (.invokestatic i, 3)) (hp : pc + 3 = pc') (hok : pv_okS V' 4) (hlink : Cond.methodLink V.1.cls i V'.1 ∈ pv_T) (hrest : (st.map fun v => v.category).sum ≤ 8) (hM : Ct Γ d V' [x1, x2, x3, x4] M (fun r M' => r = some y ∧ P' M')) (k1 : ∀ M' : pv_M, P' M' → PW Γ (d + 1) V pc' L (y :: st) M' Q) : PW Γ (d + 1) V pc L (x4 :: x3 :: x2 :: x1 :: st) M Q := PW_callS (as := [x1, x2, x3, x4]) (st := st) hd hp hok hlink rfl hrest rfl hM (fun r M' h => by obtain ⟨rfl, h⟩ := h; exact k1 M' h)
theorem PW_callV5g {V' : pv_V} {i pl ci : Nat} {fs : List (Option Nat)} {x1 x2 x3 x4 x5 : Value} {Q' : pv_Q} (hd : decode V.2.1 pc = .ok (.invokevirtual i, 3)) (hp : pc + 3 = pc') (hok : pv_okV V' 5) (hlink : Cond.methodLink V.1.cls i V'.1 ∈ pv_T) (hl0 : pv_lay pl = .inl (ci, fs)) (hci : pv_cl[ci]? = some (pv_c ci)) (hcn : (pv_c ci).1 = V'.1.cls) (hrest : (st.map fun v => v.category).sum ≤ 8) (hM : Ct Γ d V' [.ref pl, x1, x2, x3, x4, x5] M Q') (k1 : ∀ (r : Option Value) (M' : pv_M), Q' r M' → PW Γ (d + 1) V pc' L (r.toList ++ st) M' Q) : PW Γ (d + 1) V pc L (x5 :: x4 :: x3 :: x2 :: x1 :: .ref pl :: st) M Q := PW_callV (as := [x1, x2, x3, x4, x5]) (st := st) hd hp hok hlink hl0 hci hcn rfl hrest rfl hM k1
theorem PW_callV5f {V' : pv_V} {i pl ci : Nat} {fs : List (Option Nat)} {x1 x2 x3 x4 x5 : Value} {M2 : pv_M} {y : Value} (hd : decode V.2.1 pc = .ok (.invokevirtual i, 3)) (hp : pc + 3 = pc') (hok : pv_okV V' 5) (hlink : Cond.methodLink V.1.cls i V'.1 ∈ pv_T) (hl0 : pv_lay pl = .inl (ci, fs)) (hci : pv_cl[ci]? = some (pv_c ci)) (hcn : (pv_c ci).1 = V'.1.cls) (hrest : (st.map fun v => v.category).sum ≤ 8) (hM : Ct Γ d V' [.ref pl, x1, x2, x3, x4, x5] M (pv_fn (some y) M2)) (k1 : PW Γ (d + 1) V pc' L (y :: st) M2 Q) : PW Γ (d + 1) V pc L (x5 :: x4 :: x3 :: x2 :: x1 :: .ref pl :: st) M Q := PW_callV (as := [x1, x2, x3, x4, x5]) (st := st) hd hp hok hlink hl0 hci hcn rfl hrest rfl hM (fun r M' h => by obtain ⟨rfl, rfl⟩ := h; exact k1)
theorem PW_callV5v {V' : pv_V} {i pl ci : Nat} {fs : List (Option Nat)} {x1 x2 x3 x4 x5 : Value} {M2 : pv_M} (hd : decode V.2.1 pc = .ok (.invokevirtual i, 3)) (hp : pc + 3 = pc') (hok : pv_okV V' 5) (hlink : Cond.methodLink V.1.cls i V'.1 ∈ pv_T) (hl0 : pv_lay pl = .inl (ci, fs)) (hci : pv_cl[ci]? = some (pv_c ci)) (hcn : (pv_c ci).1 = V'.1.cls) (hrest : (st.map fun v => v.category).sum ≤ 8) (hM : Ct Γ d V' [.ref pl, x1, x2, x3, x4, x5] M (pv_fn none M2)) (k1 : PW Γ (d + 1) V pc' L st M2 Q) : PW Γ (d + 1) V pc L (x5 :: x4 :: x3 :: x2 :: x1 :: .ref pl :: st) M Q := PW_callV (as := [x1, x2, x3, x4, x5]) (st := st) hd hp hok hlink hl0 hci hcn rfl hrest rfl hM (fun r M' h => by obtain ⟨rfl, rfl⟩ := h; exact k1)
theorem PW_callV5w {V' : pv_V} {i pl ci : Nat} {fs : List (Option Nat)} {x1 x2 x3 x4 x5 : Value} {P' : pv_M → Prop} (hd : decode V.2.1 pc = .ok (.invokevirtual i, 3)) (hp : pc + 3 = pc') (hok : pv_okV V' 5) (hlink : Cond.methodLink V.1.cls i V'.1 ∈ pv_T) (hl0 : pv_lay pl = .inl (ci, fs)) (hci : pv_cl[ci]? = some (pv_c ci)) (hcn : (pv_c ci).1 = V'.1.cls) (hrest : (st.map fun v => v.category).sum ≤ 8) (hM : Ct Γ d V' [.ref pl, x1, x2, x3, x4, x5] M (fun r M' => r = none ∧ P' M')) (k1 : ∀ M' : pv_M, P' M' → PW Γ (d + 1) V pc' L st M' Q) : PW Γ (d + 1) V pc L (x5 :: x4 :: x3 :: x2 :: x1 :: .ref pl :: st) M Q := PW_callV (as := [x1, x2, x3, x4, x5]) (st := st) hd hp hok hlink hl0 hci hcn rfl hrest rfl hM (fun r M' h => by obtain ⟨rfl, h⟩ := h; exact k1 M' h)
theorem PW_callV5r {V' : pv_V} {i pl ci : Nat} {fs : List (Option Nat)} {x1 x2 x3 x4 x5 : Value} {P' : pv_M → Prop} {y : Value} (hd : decode V.2.1 pc = .ok (.invokevirtual i, 3)) (hp : pc + 3 = pc') (hok : pv_okV V' 5) (hlink : Cond.methodLink V.1.cls i V'.1 ∈ pv_T) (hl0 : pv_lay pl = .inl (ci, fs)) (hci : pv_cl[ci]? = some (pv_c ci)) (hcn : (pv_c ci).1 = V'.1.cls) (hrest : (st.map fun v => v.category).sum ≤ 8) (hM : Ct Γ d V' [.ref pl, x1, x2, x3, x4, x5] M (fun r M' => r = some y ∧ P' M')) (k1 : ∀ M' : pv_M, P' M' → PW Γ (d + 1) V pc' L (y :: st) M' Q) : PW Γ (d + 1) V pc L (x5 :: x4 :: x3 :: x2 :: x1 :: .ref pl :: st) M Q := PW_callV (as := [x1, x2, x3, x4, x5]) (st := st) hd hp hok hlink hl0 hci hcn rfl hrest rfl hM (fun r M' h => by obtain ⟨rfl, h⟩ := h; exact k1 M' h)
theorem PW_callS5g {V' : pv_V} {i : Nat} {x1 x2 x3 x4 x5 : Value} {Q' : pv_Q} (hd : decode V.2.1 pc = .ok (.invokestatic i, 3)) (hp : pc + 3 = pc') (hok : pv_okS V' 5) (hlink : Cond.methodLink V.1.cls i V'.1 ∈ pv_T) (hrest : (st.map fun v => v.category).sum ≤ 8) (hM : Ct Γ d V' [x1, x2, x3, x4, x5] M Q') (k1 : ∀ (r : Option Value) (M' : pv_M), Q' r M' → PW Γ (d + 1) V pc' L (r.toList ++ st) M' Q) : PW Γ (d + 1) V pc L (x5 :: x4 :: x3 :: x2 :: x1 :: st) M Q := PW_callS (as := [x1, x2, x3, x4, x5]) (st := st) hd hp hok hlink rfl hrest rfl hM k1
theorem PW_callS5f {V' : pv_V} {i : Nat} {x1 x2 x3 x4 x5 : Value} {M2 : pv_M} {y : Value} (hd : decode V.2.1 pc = .ok (.invokestatic i, 3)) (hp : pc + 3 = pc') (hok : pv_okS V' 5) (hlink : Cond.methodLink V.1.cls i V'.1 ∈ pv_T) (hrest : (st.map fun v => v.category).sum ≤ 8) (hM : Ct Γ d V' [x1, x2, x3, x4, x5] M (pv_fn (some y) M2)) (k1 : PW Γ (d + 1) V pc' L (y :: st) M2 Q) : PW Γ (d + 1) V pc L (x5 :: x4 :: x3 :: x2 :: x1 :: st) M Q := PW_callS (as := [x1, x2, x3, x4, x5]) (st := st) hd hp hok hlink rfl hrest rfl hM (fun r M' h => by obtain ⟨rfl, rfl⟩ := h; exact k1)
theorem PW_callS5v {V' : pv_V} {i : Nat} {x1 x2 x3 x4 x5 : Value} {M2 : pv_M} (hd : decode V.2.1 pc = .ok (.invokestatic i, 3)) (hp : pc + 3 = pc') (hok : pv_okS V' 5) (hlink : Cond.methodLink V.1.cls i V'.1 ∈ pv_T) (hrest : (st.map fun v => v.category).sum ≤ 8) (hM : Ct Γ d V' [x1, x2, x3, x4, x5] M (pv_fn none M2)) (k1 : PW Γ (d + 1) V pc' L st M2 Q) : PW Γ (d + 1) V pc L (x5 :: x4 :: x3 :: x2 :: x1 :: st) M Q := PW_callS (as := [x1, x2, x3, x4, x5]) (st := st) hd hp hok hlink rfl hrest rfl hM (fun r M' h => by obtain ⟨rfl, rfl⟩ := h; exact k1)
theorem PW_callS5w {V' : pv_V} {i : Nat} {x1 x2 x3 x4 x5 : Value} {P' : pv_M → Prop} (hd : decode V.2.1 pc = .ok (.invokestatic i, 3)) (hp : pc + 3 = pc') (hok : pv_okS V' 5) (hlink : Cond.methodLink V.1.cls i V'.1 ∈ pv_T) (hrest : (st.map fun v => v.category).sum ≤ 8) (hM : Ct Γ d V' [x1, x2, x3, x4, x5] M (fun r M' => r = none ∧ P' M')) (k1 : ∀ M' : pv_M, P' M' → PW Γ (d + 1) V pc' L st M' Q) : PW Γ (d + 1) V pc L (x5 :: x4 :: x3 :: x2 :: x1 :: st) M Q := PW_callS (as := [x1, x2, x3, x4, x5]) (st := st) hd hp hok hlink rfl hrest rfl hM (fun r M' h => by obtain ⟨rfl, h⟩ := h; exact k1 M' h)
theorem PW_callS5r {V' : pv_V} {i : Nat} {x1 x2 x3 x4 x5 : Value} {P' : pv_M → Prop} {y : Value} (hd : decode V.2.1 pc = .ok (.invokestatic i, 3)) (hp : pc + 3 = pc') (hok : pv_okS V' 5) (hlink : Cond.methodLink V.1.cls i V'.1 ∈ pv_T) (hrest : (st.map fun v => v.category).sum ≤ 8) (hM : Ct Γ d V' [x1, x2, x3, x4, x5] M (fun r M' => r = some y ∧ P' M')) (k1 : ∀ M' : pv_M, P' M' → PW Γ (d + 1) V pc' L (y :: st) M' Q) : PW Γ (d + 1) V pc L (x5 :: x4 :: x3 :: x2 :: x1 :: st) M Q := PW_callS (as := [x1, x2, x3, x4, x5]) (st := st) hd hp hok hlink rfl hrest rfl hM (fun r M' h => by obtain ⟨rfl, h⟩ := h; exact k1 M' h)
theorem PW_callV6g {V' : pv_V} {i pl ci : Nat} {fs : List (Option Nat)} {x1 x2 x3 x4 x5 x6 : Value} {Q' : pv_Q} (hd : decode V.2.1 pc = .ok (.invokevirtual i, 3)) (hp : pc + 3 = pc') (hok : pv_okV V' 6) (hlink : Cond.methodLink V.1.cls i V'.1 ∈ pv_T) (hl0 : pv_lay pl = .inl (ci, fs)) (hci : pv_cl[ci]? = some (pv_c ci)) (hcn : (pv_c ci).1 = V'.1.cls) (hrest : (st.map fun v => v.category).sum ≤ 8) (hM : Ct Γ d V' [.ref pl, x1, x2, x3, x4, x5, x6] M Q') (k1 : ∀ (r : Option Value) (M' : pv_M), Q' r M' → PW Γ (d + 1) V pc' L (r.toList ++ st) M' Q) : PW Γ (d + 1) V pc L (x6 :: x5 :: x4 :: x3 :: x2 :: x1 :: .ref pl :: st) M Q := PW_callV (as := [x1, x2, x3, x4, x5, x6]) (st := st) hd hp hok hlink hl0 hci hcn rfl hrest rfl hM k1
theorem PW_callV6f {V' : pv_V} {i pl ci : Nat} {fs : List (Option Nat)} {x1 x2 x3 x4 x5 x6 : Value} {M2 : pv_M} {y : Value} (hd : decode V.2.1 pc = .ok (.invokevirtual i, 3)) (hp : pc + 3 = pc') (hok : pv_okV V' 6) (hlink : Cond.methodLink V.1.cls i V'.1 ∈ pv_T) (hl0 : pv_lay pl = .inl (ci, fs)) (hci : pv_cl[ci]? = some (pv_c ci)) (hcn : (pv_c ci).1 = V'.1.cls) (hrest : (st.map fun v => v.category).sum ≤ 8) (hM : Ct Γ d V' [.ref pl, x1, x2, x3, x4, x5, x6] M (pv_fn (some y) M2)) (k1 : PW Γ (d + 1) V pc' L (y :: st) M2 Q) : PW Γ (d + 1) V pc L (x6 :: x5 :: x4 :: x3 :: x2 :: x1 :: .ref pl :: st) M Q := PW_callV (as := [x1, x2, x3, x4, x5, x6]) (st := st) hd hp hok hlink hl0 hci hcn rfl hrest rfl hM (fun r M' h => by obtain ⟨rfl, rfl⟩ := h; exact k1)
theorem PW_callV6v {V' : pv_V} {i pl ci : Nat} {fs : List (Option Nat)} {x1 x2 x3 x4 x5 x6 : Value} {M2 : pv_M} (hd : decode V.2.1 pc = .ok (.invokevirtual i, 3)) (hp : pc + 3 = pc') (hok : pv_okV V' 6) (hlink : Cond.methodLink V.1.cls i V'.1 ∈ pv_T) (hl0 : pv_lay pl = .inl (ci, fs)) (hci : pv_cl[ci]? = some (pv_c ci)) (hcn : (pv_c ci).1 = V'.1.cls) (hrest : (st.map fun v => v.category).sum ≤ 8) (hM : Ct Γ d V' [.ref pl, x1, x2, x3, x4, x5, x6] M (pv_fn none M2)) (k1 : PW Γ (d + 1) V pc' L st M2 Q) : PW Γ (d + 1) V pc L (x6 :: x5 :: x4 :: x3 :: x2 :: x1 :: .ref pl :: st) M Q := PW_callV (as := [x1, x2, x3, x4, x5, x6]) (st := st) hd hp hok hlink hl0 hci hcn rfl hrest rfl hM (fun r M' h => by obtain ⟨rfl, rfl⟩ := h; exact k1)
theorem PW_callV6w {V' : pv_V} {i pl ci : Nat} {fs : List (Option Nat)} {x1 x2 x3 x4 x5 x6 : Value} {P' : pv_M → Prop} (hd : decode V.2.1 pc = .ok (.invokevirtual i, 3)) (hp : pc + 3 = pc') (hok : pv_okV V' 6) (hlink : Cond.methodLink V.1.cls i V'.1 ∈ pv_T) (hl0 : pv_lay pl = .inl (ci, fs)) (hci : pv_cl[ci]? = some (pv_c ci)) (hcn : (pv_c ci).1 = V'.1.cls) (hrest : (st.map fun v => v.category).sum ≤ 8) (hM : Ct Γ d V' [.ref pl, x1, x2, x3, x4, x5, x6] M (fun r M' => r = none ∧ P' M')) (k1 : ∀ M' : pv_M, P' M' → PW Γ (d + 1) V pc' L st M' Q) : PW Γ (d + 1) V pc L (x6 :: x5 :: x4 :: x3 :: x2 :: x1 :: .ref pl :: st) M Q := PW_callV (as := [x1, x2, x3, x4, x5, x6]) (st := st) hd hp hok hlink hl0 hci hcn rfl hrest rfl hM (fun r M' h => by obtain ⟨rfl, h⟩ := h; exact k1 M' h)
theorem PW_callV6r {V' : pv_V} {i pl ci : Nat} {fs : List (Option Nat)} {x1 x2 x3 x4 x5 x6 : Value} {P' : pv_M → Prop} {y : Value} (hd : decode V.2.1 pc = .ok (.invokevirtual i, 3)) (hp : pc + 3 = pc') (hok : pv_okV V' 6) (hlink : Cond.methodLink V.1.cls i V'.1 ∈ pv_T) (hl0 : pv_lay pl = .inl (ci, fs)) (hci : pv_cl[ci]? = some (pv_c ci)) (hcn : (pv_c ci).1 = V'.1.cls) (hrest : (st.map fun v => v.category).sum ≤ 8) (hM : Ct Γ d V' [.ref pl, x1, x2, x3, x4, x5, x6] M (fun r M' => r = some y ∧ P' M')) (k1 : ∀ M' : pv_M, P' M' → PW Γ (d + 1) V pc' L (y :: st) M' Q) : PW Γ (d + 1) V pc L (x6 :: x5 :: x4 :: x3 :: x2 :: x1 :: .ref pl :: st) M Q := PW_callV (as := [x1, x2, x3, x4, x5, x6]) (st := st) hd hp hok hlink hl0 hci hcn rfl hrest rfl hM (fun r M' h => by obtain ⟨rfl, h⟩ := h; exact k1 M' h)
theorem PW_callS6g {V' : pv_V} {i : Nat} {x1 x2 x3 x4 x5 x6 : Value} {Q' : pv_Q} (hd : decode V.2.1 pc = .ok (.invokestatic i, 3)) (hp : pc + 3 = pc') (hok : pv_okS V' 6) (hlink : Cond.methodLink V.1.cls i V'.1 ∈ pv_T) (hrest : (st.map fun v => v.category).sum ≤ 8) (hM : Ct Γ d V' [x1, x2, x3, x4, x5, x6] M Q') (k1 : ∀ (r : Option Value) (M' : pv_M), Q' r M' → PW Γ (d + 1) V pc' L (r.toList ++ st) M' Q) : PW Γ (d + 1) V pc L (x6 :: x5 :: x4 :: x3 :: x2 :: x1 :: st) M Q := PW_callS (as := [x1, x2, x3, x4, x5, x6]) (st := st) hd hp hok hlink rfl hrest rfl hM k1
theorem PW_callS6f {V' : pv_V} {i : Nat} {x1 x2 x3 x4 x5 x6 : Value} {M2 : pv_M} {y : Value} (hd : decode V.2.1 pc = .ok (.invokestatic i, 3)) (hp : pc + 3 = pc') (hok : pv_okS V' 6) (hlink : Cond.methodLink V.1.cls i V'.1 ∈ pv_T) (hrest : (st.map fun v => v.category).sum ≤ 8) (hM : Ct Γ d V' [x1, x2, x3, x4, x5, x6] M (pv_fn (some y) M2)) (k1 : PW Γ (d + 1) V pc' L (y :: st) M2 Q) : PW Γ (d + 1) V pc L (x6 :: x5 :: x4 :: x3 :: x2 :: x1 :: st) M Q := PW_callS (as := [x1, x2, x3, x4, x5, x6]) (st := st) hd hp hok hlink rfl hrest rfl hM (fun r M' h => by obtain ⟨rfl, rfl⟩ := h; exact k1)
theorem PW_callS6v {V' : pv_V} {i : Nat} {x1 x2 x3 x4 x5 x6 : Value} {M2 : pv_M} (hd : decode V.2.1 pc = .ok (.invokestatic i, 3)) (hp : pc + 3 = pc') (hok : pv_okS V' 6) (hlink : Cond.methodLink V.1.cls i V'.1 ∈ pv_T) (hrest : (st.map fun v => v.category).sum ≤ 8) (hM : Ct Γ d V' [x1, x2, x3, x4, x5, x6] M (pv_fn none M2)) (k1 : PW Γ (d + 1) V pc' L st M2 Q) : PW Γ (d + 1) V pc L (x6 :: x5 :: x4 :: x3 :: x2 :: x1 :: st) M Q := PW_callS (as := [x1, x2, x3, x4, x5, x6]) (st := st) hd hp hok hlink rfl hrest rfl hM (fun r M' h => by obtain ⟨rfl, rfl⟩ := h; exact k1)
theorem PW_callS6w {V' : pv_V} {i : Nat} {x1 x2 x3 x4 x5 x6 : Value} {P' : pv_M → Prop} (hd : decode V.2.1 pc = .ok (.invokestatic i, 3)) (hp : pc + 3 = pc') (hok : pv_okS V' 6) (hlink : Cond.methodLink V.1.cls i V'.1 ∈ pv_T) (hrest : (st.map fun v => v.category).sum ≤ 8) (hM : Ct Γ d V' [x1, x2, x3, x4, x5, x6] M (fun r M' => r = none ∧ P' M')) (k1 : ∀ M' : pv_M, P' M' → PW Γ (d + 1) V pc' L st M' Q) : PW Γ (d + 1) V pc L (x6 :: x5 :: x4 :: x3 :: x2 :: x1 :: st) M Q := PW_callS (as := [x1, x2, x3, x4, x5, x6]) (st := st) hd hp hok hlink rfl hrest rfl hM (fun r M' h => by obtain ⟨rfl, h⟩ := h; exact k1 M' h)
theorem PW_callS6r {V' : pv_V} {i : Nat} {x1 x2 x3 x4 x5 x6 : Value} {P' : pv_M → Prop} {y : Value} (hd : decode V.2.1 pc = .ok (.invokestatic i, 3)) (hp : pc + 3 = pc') (hok : pv_okS V' 6) (hlink : Cond.methodLink V.1.cls i V'.1 ∈ pv_T) (hrest : (st.map fun v => v.category).sum ≤ 8) (hM : Ct Γ d V' [x1, x2, x3, x4, x5, x6] M (fun r M' => r = some y ∧ P' M')) (k1 : ∀ M' : pv_M, P' M' → PW Γ (d + 1) V pc' L (y :: st) M' Q) : PW Γ (d + 1) V pc L (x6 :: x5 :: x4 :: x3 :: x2 :: x1 :: st) M Q := PW_callS (as := [x1, x2, x3, x4, x5, x6]) (st := st) hd hp hok hlink rfl hrest rfl hM (fun r M' h => by obtain ⟨rfl, h⟩ := h; exact k1 M' h)
end PV3
end
section
/-! numbers, sets, a house of things, a round: what both sides answer, as plain numbers -/
theorem nI_mul (a b : Nat) : nI a * nI b = nI (a * b) := by
  simp only [nI]
  exact (Int32.ofNat_mul a b).symm
theorem nI_inj {a b : Nat} (ha : a < 2 ^ 31) (hb : b < 2 ^ 31) (h : nI a = nI b) : a = b := (nI_eq ha hb).mp h
theorem ts_out {x : Int32} {n : Nat} (hn : n < 2 ^ 31) (h : ∀ k, k ≤ n → ¬ x = nI k) : x.toInt < (0 : Int) ∨ ((n : Nat) : Int) < x.toInt := by
  rcases Int.lt_or_le x.toInt 0 with h0 | h0
  · exact Or.inl h0
  · rcases Int.lt_or_le ((n : Nat) : Int) x.toInt with h1 | h1
    · exact Or.inr h1
    · exfalso
      refine h x.toInt.toNat (by omega) (Int32.toInt_inj.mp ?_)
      rw [nI_toInt (by omega)]
      omega
theorem ts_out3 {x : Int32} (h0 : ¬ x = 0) (h1 : ¬ x = 1) (h2 : ¬ x = 2) (h3 : ¬ x = 3) : x.toInt < (0 : Int) ∨ (3 : Int) < x.toInt :=
  ts_out (n := 3) (by decide) (fun k hk => by
    match k, hk with
    | 0, _ => exact h0
    | 1, _ => exact h1
    | 2, _ => exact h2
    | 3, _ => exact h3)
theorem ts_out5 {x : Int32} (h0 : ¬ x = 0) (h1 : ¬ x = 1) (h2 : ¬ x = 2) (h3 : ¬ x = 3) (h4 : ¬ x = 4) (h5 : ¬ x = 5) : x.toInt < (0 : Int) ∨ (5 : Int) < x.toInt :=
  ts_out (n := 5) (by decide) (fun k hk => by
    match k, hk with
    | 0, _ => exact h0
    | 1, _ => exact h1
    | 2, _ => exact h2
    | 3, _ => exact h3
    | 4, _ => exact h4
    | 5, _ => exact h5)
/-! sets of at most six numbers -/
theorem bt_or : ∀ a, a < 64 → ∀ t, t < 6 → nI a ||| ((1 : Int32) <<< (nI t &&& 31)) = nI (a ||| 2 ^ t) ∧ a ||| 2 ^ t < 64 := by decide +kernel
theorem bt_in : ∀ a, a < 64 → ∀ t, t < 6 → ((nI a >>> (nI t &&& 31)) &&& 1) = bi (a.testBit t) := by decide +kernel
theorem bt_set : ∀ a, a < 64 → ∀ t, t < 6 → ∀ x, x < 6 → (a ||| 2 ^ t).testBit x = (a.testBit x || decide (x = t)) := by decide +kernel
theorem bt_one : ∀ t, t < 6 → (1 : Int32) <<< (nI t &&& 31) = nI (2 ^ t) := by decide +kernel
/-- which numbers below six: how many -/
def s_pop (a : Nat) : Nat := ((List.range 6).filter (fun k => a.testBit k)).length
/-- hours from h on, n of them, that are hours -/
def s_span (n h : Nat) : Nat := (((2 ^ n - 1) * 2 ^ h)) % 64
theorem s_span_lt (n h : Nat) : s_span n h < 64 := Nat.mod_lt _ (by decide)
theorem s_span_bit : ∀ n, n < 7 → ∀ h, h < 6 → ∀ x, x < 6 → (s_span n h).testBit x = (decide (h ≤ x) && decide (x < h + n)) := by decide +kernel
theorem s_and_lt {a b : Nat} (h : a < 64) : a &&& b < 64 := Nat.lt_of_le_of_lt Nat.and_le_left h
theorem bt_and : ∀ a, a < 64 → ∀ b, b < 64 → nI a &&& nI b = nI (a &&& b) := by decide +kernel
theorem bt_sp : ∀ n, n < 7 → ∀ h, h < 6 → (((((1 : Int32) <<< (nI n &&& 31)) - 1) <<< (nI h &&& 31)) &&& 63) = nI (s_span n h) := by decide +kernel
/-! a house: how many things, penalty, law, and of each thing kind, sort, worth, stay, uses (0 .. 4) -/
abbrev s_H : Type := Nat × Nat × Nat × (Nat → Nat → Nat)
def s_ok (H : s_H) : Prop := H.1 ≤ 5 ∧ H.2.1 ≤ 9 ∧ H.2.2.1 ≤ 3 ∧ ∀ t, t < H.1 → H.2.2.2 0 t ≤ 2 ∧ H.2.2.2 1 t ≤ 3 ∧ (1 ≤ H.2.2.2 2 t ∧ H.2.2.2 2 t ≤ 9) ∧ (1 ≤ H.2.2.2 3 t ∧ H.2.2.2 3 t ≤ 6) ∧ H.2.2.2 4 t < 64
def HX (M : pv_M) (H : s_H) : Prop := s_ok H ∧ M 10 1 = nI H.1 ∧ M 10 2 = nI H.2.1 ∧ M 10 3 = nI H.2.2.1 ∧ ∀ t, t < H.1 → ∀ f, f < 5 → M (12 + t) f = nI (H.2.2.2 f t)
def HM (M : pv_M) (H : s_H) : Prop := s_ok H ∧ M 29 3 = nI H.1 ∧ M 29 1 = nI H.2.1 ∧ M 29 2 = nI H.2.2.1 ∧ ∀ t, t < H.1 → ∀ f, f < 5 → M (30 + f) t = nI (H.2.2.2 f t)
def s_val (H : s_H) (t : Nat) : Nat := if H.2.2.2 0 t = 0 then H.2.2.2 2 t else if H.2.2.2 0 t = 1 then H.2.2.2 2 t + 1 else 2 * (H.2.2.2 2 t + 1)
/-- a round: in each hour a thing, or none -/
def s_rI (r : Option Nat) : Int32 := match r with
  | none => -9
  | some t => nI t
def s_row (M : pv_M) (pl k n : Nat) (r : Nat → Option Nat) : Prop := ∀ h, h < k → M pl h = s_rI (r h) ∧ ∀ t, r h = some t → t < n
/-- which things are in their cases in hour 'at', by the takes of the first k hours -/
def s_cs (H : s_H) (r : Nat → Option Nat) (at_ : Nat) : Nat → Nat
  | 0 => 0
  | k + 1 => match r k with
    | none => s_cs H r at_ k
    | some t => if at_ < k + H.2.2.2 3 t then s_cs H r at_ k ||| 2 ^ t else s_cs H r at_ k
def s_last (H : s_H) (t cs : Nat) : Bool := (List.range H.1).all fun x => decide (x = t) || (decide (H.2.2.2 1 x ≠ H.2.2.2 1 t) || cs.testBit x)
def s_gain (H : s_H) (lw t h cs : Nat) : Nat := s_val H t * (if lw.testBit 0 && (H.2.2.2 4 t).testBit h then 2 else 1) + (if lw.testBit 1 && s_last H t cs then 5 else 0)
def s_take (H : s_H) (lw : Nat) (r : Nat → Option Nat) : Nat → Nat
  | 0 => 0
  | k + 1 => s_take H lw r k + (match r k with
    | none => 0
    | some t => s_gain H lw t k (s_cs H r k k))
def s_miss1 (H : s_H) (t h : Nat) : Nat := s_pop (H.2.2.2 4 t &&& s_span (H.2.2.2 3 t) h)
def s_miss (H : s_H) (r : Nat → Option Nat) : Nat → Nat
  | 0 => 0
  | k + 1 => s_miss H r k + (match r k with
    | none => 0
    | some t => s_miss1 H t k)
/-- the first hour below k in which one is taken that is in its case -/
def s_wrong (H : s_H) (r : Nat → Option Nat) : Nat → Option Nat
  | 0 => none
  | k + 1 => match s_wrong H r k with
    | some h => some h
    | none => match r k with
      | none => none
      | some t => if (s_cs H r k k).testBit t then some k else none
theorem s_cs_lt {H : s_H} {r : Nat → Option Nat} {at_ : Nat} {n : Nat} (hn : n ≤ 5) : ∀ k, (∀ h, h < k → ∀ t, r h = some t → t < n) → s_cs H r at_ k < 64
  | 0, _ => by simp [s_cs]
  | k + 1, hr => by
    have ih := s_cs_lt (H := H) (at_ := at_) hn k (fun h hh => hr h (by omega))
    cases hk : r k with
    | none => simpa [s_cs, hk] using ih
    | some t =>
      have ht := hr k (by omega) t hk
      simp only [s_cs, hk]
      split
      · exact (bt_or _ ih t (by omega)).2
      · exact ih
theorem s_val_le {H : s_H} (hH : s_ok H) {t : Nat} (ht : t < H.1) : s_val H t ≤ 20 := by
  have h := hH.2.2.2 t ht
  unfold s_val
  split
  · omega
  · split <;> omega
theorem s_gain_le {H : s_H} (hH : s_ok H) {lw t h cs : Nat} (ht : t < H.1) : s_gain H lw t h cs ≤ 45 := by
  have h := s_val_le hH ht
  unfold s_gain
  split <;> split <;> omega
theorem s_pop_le (a : Nat) : s_pop a ≤ 6 := by
  unfold s_pop
  exact Nat.le_trans (List.length_filter_le _ _) (by simp)
theorem s_take_le {H : s_H} (hH : s_ok H) {lw : Nat} {r : Nat → Option Nat} : ∀ k, (∀ h, h < k → ∀ t, r h = some t → t < H.1) → s_take H lw r k ≤ 45 * k
  | 0, _ => Nat.le_refl _
  | k + 1, hr => by
    have ih := s_take_le hH (lw := lw) k (fun h hh => hr h (by omega))
    cases hk : r k with
    | none => simp only [s_take, hk]; omega
    | some t =>
      have := s_gain_le hH (lw := lw) (h := k) (cs := s_cs H r k k) (hr k (by omega) t hk)
      simp only [s_take, hk]
      omega
theorem s_miss_le {H : s_H} {r : Nat → Option Nat} : ∀ k, s_miss H r k ≤ 6 * k
  | 0 => Nat.le_refl _
  | k + 1 => by
    have ih := s_miss_le (H := H) (r := r) k
    cases hk : r k with
    | none => simp only [s_miss, hk]; omega
    | some t =>
      have := s_pop_le (H.2.2.2 4 t &&& s_span (H.2.2.2 3 t) k)
      simp only [s_miss, hk, s_miss1]
      omega
def s_hasB (c t : Int32) : Bool := !decide (t < 0) && !decide (t ≥ c)
theorem s_has_of {n : Nat} (hn : n ≤ 5) {t : Int32} (h : s_hasB (nI n) t = true) : ∃ j, j < n ∧ t = nI j := by
  simp only [s_hasB, Bool.and_eq_true, Bool.not_eq_true', decide_eq_false_iff_not] at h
  obtain ⟨j, hj, rfl⟩ := nI_of h.1
  refine ⟨j, ?_, rfl⟩
  rcases Nat.lt_or_ge j n with h1 | h1
  · exact h1
  · exact absurd (nI_le h1 hj) h.2
theorem s_has_nI {n j : Nat} (hn : n ≤ 5) (hj : j < n) : s_hasB (nI n) (nI j) = true := by
  simp only [s_hasB, Bool.and_eq_true, Bool.not_eq_true', decide_eq_false_iff_not]
  exact ⟨nI_pos (by omega), fun h => nI_ge hj (by omega) h⟩
theorem s_has_none {n : Nat} : s_hasB (nI n) (-9) = false := by
  have h : (-9 : Int32) < 0 := by decide
  simp [s_hasB, h]
theorem s_has_rI {n : Nat} (hn : n ≤ 5) {r : Option Nat} (hr : ∀ t, r = some t → t < n) : s_hasB (nI n) (s_rI r) = r.isSome := by
  cases r with
  | none => exact s_has_none
  | some t => exact s_has_nI hn (hr t rfl)
end
section
/-! the class: its house of things -/
set_option maxHeartbeats 4000000 in
theorem c_X6_isIn {Γ : pv_G} {d : Nat} {M : pv_M} {a t : Nat} (ha : a < 64) (ht : t < 6) : Ct Γ d vX6_isIn [.int (nI a), .int (nI t)] M (pv_fn (some (.int (bi (a.testBit t)))) M) := by
  refine Ct.of oX6_isIn.1 rfl (pad := 0) rfl ?_
  show PW Γ d vX6_isIn 0 [.int (nI a), .int (nI t)] [] M _
  refine PW_iload0 (pc' := 1) dX6_isIn_0 rfl ?_
  refine PW_iload1 (pc' := 2) dX6_isIn_1 rfl ?_
  refine PW_ishr (pc' := 3) dX6_isIn_2 rfl ?_
  refine PW_iconst (pc' := 4) dX6_isIn_3 rfl (v := 1) (by first | rfl | decide) ?_
  refine PW_iand (pc' := 5) dX6_isIn_4 rfl ?_
  refine PW_if_eq (tgt := 12) (pc' := 8) dX6_isIn_5 rfl rfl (fun h5 => ?_) (fun h5 => ?_)
  · refine PW_iconst (pc' := 13) dX6_isIn_12 rfl (v := 0) (by first | rfl | decide) ?_
    refine PW_ireturn .boolean dX6_isIn_13 rfl (by first | rfl | exact bi_nar _) ?_
    refine ⟨?_, rfl⟩
    rw [bt_in a ha t ht] at h5
    first | rw [bi_one (bi_t h5)] | rw [bi_zero (bi_f h5)]
  · refine PW_iconst (pc' := 9) dX6_isIn_8 rfl (v := 1) (by first | rfl | decide) ?_
    refine PW_goto (tgt := 13) dX6_isIn_9 rfl ?_
    refine PW_ireturn .boolean dX6_isIn_13 rfl (by first | rfl | exact bi_nar _) ?_
    refine ⟨?_, rfl⟩
    rw [bt_in a ha t ht] at h5
    first | rw [bi_one (bi_t h5)] | rw [bi_zero (bi_f h5)]
set_option maxHeartbeats 4000000 in
theorem c_X0_has {Γ : pv_G} {d : Nat} {M : pv_M} {n : Nat} {t : Int32} (hc : M 10 1 = nI n) : Ct Γ d vX0_has [.ref 10, .int t] M (pv_fn (some (.int (bi (s_hasB (nI n) t)))) M) := by
  refine Ct.of oX0_has.1 rfl (pad := 0) rfl ?_
  show PW Γ d vX0_has 0 [.ref 10, .int t] [] M _
  refine PW_iload1 (pc' := 1) dX0_has_0 rfl ?_
  refine PW_if_lt (tgt := 16) (pc' := 4) dX0_has_1 rfl rfl (fun h1 => ?_) (fun h1 => ?_)
  · refine PW_iconst (pc' := 17) dX0_has_16 rfl (v := 0) (by first | rfl | decide) ?_
    refine PW_ireturn .boolean dX0_has_17 rfl (by first | rfl | exact bi_nar _) ?_
    refine ⟨?_, rfl⟩
    first | rw [bi_zero (show s_hasB (nI n) t = false by simp_all [s_hasB])] | rw [bi_one (show s_hasB (nI n) t = true by simp_all [s_hasB])]
  · refine PW_iload1 (pc' := 5) dX0_has_4 rfl ?_
    refine PW_aload0 (pc' := 6) dX0_has_5 rfl ?_
    refine PW_getI (pc' := 9) dX0_has_6 rfl fX0_18 rfl rfl ?_
    refine PW_icmp_ge (tgt := 16) (pc' := 12) dX0_has_9 rfl rfl (fun h9 => ?_) (fun h9 => ?_)
    · refine PW_iconst (pc' := 17) dX0_has_16 rfl (v := 0) (by first | rfl | decide) ?_
      refine PW_ireturn .boolean dX0_has_17 rfl (by first | rfl | exact bi_nar _) ?_
      refine ⟨?_, rfl⟩
      first | rw [bi_zero (show s_hasB (nI n) t = false by simp_all [s_hasB])] | rw [bi_one (show s_hasB (nI n) t = true by simp_all [s_hasB])]
    · refine PW_iconst (pc' := 13) dX0_has_12 rfl (v := 1) (by first | rfl | decide) ?_
      refine PW_goto (tgt := 17) dX0_has_13 rfl ?_
      refine PW_ireturn .boolean dX0_has_17 rfl (by first | rfl | exact bi_nar _) ?_
      refine ⟨?_, rfl⟩
      first | rw [bi_zero (show s_hasB (nI n) t = false by simp_all [s_hasB])] | rw [bi_one (show s_hasB (nI n) t = true by simp_all [s_hasB])]
theorem s_pos_t {n : Nat} (hn : n ≤ 5) (h : ¬ nI n ≤ 0) : decide (0 < n) = true := by
  rcases Nat.eq_zero_or_pos n with rfl | h1
  · exact absurd (by decide) h
  · simp [h1]
theorem s_pos_f {n : Nat} (hn : n ≤ 5) (h : nI n ≤ 0) : decide (0 < n) = false := by
  rcases Nat.eq_zero_or_pos n with rfl | h1
  · rfl
  · exact absurd h (nI_nle h1 (by omega))
set_option maxHeartbeats 4000000 in
theorem c_X0_stands {Γ : pv_G} {d : Nat} {M : pv_M} {n : Nat} (hn : n ≤ 5) (hc : M 10 1 = nI n) : Ct Γ d vX0_stands [.ref 10] M (pv_fn (some (.int (bi (decide (0 < n))))) M) := by
  refine Ct.of oX0_stands.1 rfl (pad := 0) rfl ?_
  show PW Γ d vX0_stands 0 [.ref 10] [] M _
  refine PW_aload0 (pc' := 1) dX0_stands_0 rfl ?_
  refine PW_getI (pc' := 4) dX0_stands_1 rfl fX0_18 rfl rfl ?_
  refine PW_if_le (tgt := 11) (pc' := 7) dX0_stands_4 rfl rfl (fun h4 => ?_) (fun h4 => ?_)
  · refine PW_iconst (pc' := 12) dX0_stands_11 rfl (v := 0) (by first | rfl | decide) ?_
    refine PW_ireturn .boolean dX0_stands_12 rfl (by first | rfl | exact bi_nar _) ?_
    refine ⟨?_, rfl⟩
    rw [hc] at h4
    first | rw [s_pos_f hn h4]; rfl | rw [s_pos_t hn h4]; rfl
  · refine PW_iconst (pc' := 8) dX0_stands_7 rfl (v := 1) (by first | rfl | decide) ?_
    refine PW_goto (tgt := 12) dX0_stands_8 rfl ?_
    refine PW_ireturn .boolean dX0_stands_12 rfl (by first | rfl | exact bi_nar _) ?_
    refine ⟨?_, rfl⟩
    rw [hc] at h4
    first | rw [s_pos_f hn h4]; rfl | rw [s_pos_t hn h4]; rfl
def v_val (k w : Int32) : Int32 := if k = 2 then 2 * (w + 1) else if k = 1 then w + 1 else w
theorem v_val_eq {H : s_H} (hok : s_ok H) {t : Nat} (ht : t < H.1) : v_val (nI (H.2.2.2 0 t)) (nI (H.2.2.2 2 t)) = nI (s_val H t) := by
  have hk := (hok.2.2.2 t ht).1
  rcases (show H.2.2.2 0 t = 0 ∨ H.2.2.2 0 t = 1 ∨ H.2.2.2 0 t = 2 by omega) with h | h | h
  · simp only [s_val, h, v_val]
    rfl
  · simp only [s_val, h, v_val]
    exact nI_1 _
  · simp only [s_val, h, v_val]
    rw [if_pos (by decide), nI_1]
    exact nI_mul 2 _
set_option maxHeartbeats 4000000 in
theorem c_X5_value {Γ : pv_G} {d : Nat} {M : pv_M} {t : Nat} {H : s_H} (ht : t < H.1) (hH : HX M H) : Ct Γ d vX5_value [.ref (12 + t)] M (pv_fn (some (.int (nI (s_val H t)))) M) := by
  obtain ⟨hok, hc1, hc2, hc3, hf⟩ := hH
  have h5 : t < 5 := Nat.lt_of_lt_of_le ht hok.1
  have hv := v_val_eq hok ht
  rw [← hf t ht 0 (by decide), ← hf t ht 2 (by decide)] at hv
  refine Ct.of oX5_value.1 rfl (pad := 0) rfl ?_
  show PW Γ d vX5_value 0 [.ref (12 + t)] [] M _
  refine PW_aload0 (pc' := 1) dX5_value_0 rfl ?_
  refine PW_getI (pc' := 4) dX5_value_1 rfl fX5_9 (pv_lay_thing (by omega)) rfl ?_
  refine PW_iconst (pc' := 5) dX5_value_4 rfl (v := 2) (by first | rfl | decide) ?_
  refine PW_icmp_ne (tgt := 17) (pc' := 8) dX5_value_5 rfl rfl (fun h5 => ?_) (fun h5 => ?_)
  · refine PW_aload0 (pc' := 18) dX5_value_17 rfl ?_
    refine PW_getI (pc' := 21) dX5_value_18 rfl fX5_9 (pv_lay_thing (by omega)) rfl ?_
    refine PW_iconst (pc' := 22) dX5_value_21 rfl (v := 1) (by first | rfl | decide) ?_
    refine PW_icmp_ne (tgt := 34) (pc' := 25) dX5_value_22 rfl rfl (fun h22 => ?_) (fun h22 => ?_)
    · refine PW_aload0 (pc' := 35) dX5_value_34 rfl ?_
      refine PW_getI (pc' := 38) dX5_value_35 rfl fX5_15 (pv_lay_thing (by omega)) rfl ?_
      refine PW_ireturn .int dX5_value_38 rfl rfl ?_
      refine ⟨?_, rfl⟩
      rw [← hv]
      simp_all [v_val]
    · refine PW_aload0 (pc' := 26) dX5_value_25 rfl ?_
      refine PW_getI (pc' := 29) dX5_value_26 rfl fX5_15 (pv_lay_thing (by omega)) rfl ?_
      refine PW_iconst (pc' := 30) dX5_value_29 rfl (v := 1) (by first | rfl | decide) ?_
      refine PW_iadd (pc' := 31) dX5_value_30 rfl ?_
      refine PW_goto (tgt := 38) dX5_value_31 rfl ?_
      refine PW_ireturn .int dX5_value_38 rfl rfl ?_
      refine ⟨?_, rfl⟩
      rw [← hv]
      simp_all [v_val]
  · refine PW_iconst (pc' := 9) dX5_value_8 rfl (v := 2) (by first | rfl | decide) ?_
    refine PW_aload0 (pc' := 10) dX5_value_9 rfl ?_
    refine PW_getI (pc' := 13) dX5_value_10 rfl fX5_15 (pv_lay_thing (by omega)) rfl ?_
    refine PW_iconst (pc' := 14) dX5_value_13 rfl (v := 1) (by first | rfl | decide) ?_
    refine PW_iadd (pc' := 15) dX5_value_14 rfl ?_
    refine PW_imul (pc' := 16) dX5_value_15 rfl ?_
    refine PW_ireturn .int dX5_value_16 rfl rfl ?_
    refine ⟨?_, rfl⟩
    rw [← hv]
    simp_all [v_val]
set_option maxHeartbeats 4000000 in
theorem c_X5_span {Γ : pv_G} {d : Nat} {M : pv_M} {t h : Nat} {H : s_H} (ht : t < H.1) (hh : h < 6) (hH : HX M H) : Ct Γ d vX5_span [.ref (12 + t), .int (nI h)] M (pv_fn (some (.int (nI (s_span (H.2.2.2 3 t) h)))) M) := by
  obtain ⟨hok, hc1, hc2, hc3, hf⟩ := hH
  have h5 : t < 5 := Nat.lt_of_lt_of_le ht hok.1
  have hs := (hok.2.2.2 t ht).2.2.2.1
  refine Ct.of oX5_span.1 rfl (pad := 0) rfl ?_
  show PW Γ d vX5_span 0 [.ref (12 + t), .int (nI h)] [] M _
  refine PW_iconst (pc' := 1) dX5_span_0 rfl (v := 1) (by first | rfl | decide) ?_
  refine PW_aload0 (pc' := 2) dX5_span_1 rfl ?_
  refine PW_getI (pc' := 5) dX5_span_2 rfl fX5_18 (pv_lay_thing (by omega)) rfl ?_
  refine PW_ishl (pc' := 6) dX5_span_5 rfl ?_
  refine PW_iconst (pc' := 7) dX5_span_6 rfl (v := 1) (by first | rfl | decide) ?_
  refine PW_isub (pc' := 8) dX5_span_7 rfl ?_
  refine PW_iload1 (pc' := 9) dX5_span_8 rfl ?_
  refine PW_ishl (pc' := 10) dX5_span_9 rfl ?_
  refine PW_bipush (pc' := 12) dX5_span_10 rfl (v := 63) (by first | rfl | decide) ?_
  refine PW_iand (pc' := 13) dX5_span_12 rfl ?_
  refine PW_ireturn .int dX5_span_13 rfl rfl ?_
  refine ⟨?_, rfl⟩
  rw [hf t ht 3 (by decide), bt_sp _ (by omega) h hh]
end
section
/-! the class: its house of things, with loops -/
theorem s_rI_some (t : Nat) : s_rI (some t) = nI t := rfl
theorem s_bnd {a b : Nat} (ha : a < 2 ^ 31) (hb : b < 2 ^ 31) (h : ¬ nI a ≥ nI b) : a < b := by
  rcases Nat.lt_or_ge a b with h1 | h1
  · exact h1
  · exact absurd (nI_le h1 ha) h
theorem s_bge {a b : Nat} (ha : a < 2 ^ 31) (hb : b < 2 ^ 31) (h : nI a ≥ nI b) : b ≤ a := (nI_leI hb ha).mp h
theorem s_rI_eq {r : Option Nat} {t n : Nat} (hn : n ≤ 5) (ht : t < n) (hr : ∀ x, r = some x → x < n) : s_rI r = nI t ↔ r = some t := by
  cases r with
  | none =>
    constructor
    · intro h
      exfalso
      have h2 : ∀ t, t < 5 → ¬ (-9 : Int32) = nI t := by decide +kernel
      exact h2 t (by omega) h
    · intro h
      cases h
  | some x =>
    constructor
    · intro h
      have := hr x rfl
      rw [nI_inj (by omega) (by omega) h]
    · intro h
      cases h
      rfl
theorem s_isSome {r : Option Nat} (h : r.isSome = true) : ∃ t, r = some t := Option.isSome_iff_exists.mp h
theorem s_isNone {r : Option Nat} (h : r.isSome = false) : r = none := by cases r <;> simp_all
theorem bt_orn : ∀ a, a < 64 → ∀ b, b < 64 → nI a ||| nI b = nI (a ||| b) ∧ a ||| b < 64 := by decide +kernel
theorem bt_and1 : ∀ a, a < 4 → nI a &&& 1 = bi (a.testBit 0) := by decide +kernel
theorem bt_and2 : ∀ a, a < 4 → (nI a &&& 2 = 0 ↔ a.testBit 1 = false) := by decide +kernel
set_option maxHeartbeats 4000000 in
theorem l_X0_casesBy {Γ : pv_G} {d : Nat} {M : pv_M} {pl k hr : Nat} {H : s_H} {r : Nat → Option Nat} (hpl : pv_lay pl = .inr (.inl (0, 6))) (hk : k ≤ 6) (hh : hr < 6) (hH : HX M H) (hrow : s_row M pl k H.1 r) :
    ∀ (m j : Nat) (x : Value), j + m = k → PW Γ (d + 1) vX0_casesBy 6 [.ref 10, .ref pl, .int (nI k), .int (nI hr), .int (nI (s_cs H r hr j)), .int (nI j), x] [] M (pv_fn (some (.int (nI (s_cs H r hr k)))) M) := by
  obtain ⟨hok, hc1, hc2, hc3, hf⟩ := id hH
  intro m
  induction m using Nat.strongRecOn with
  | ind m ih =>
    intro j x hjm
    refine PW_iload5 (pc' := 8) dX0_casesBy_6 rfl ?_
    refine PW_iload2 (pc' := 9) dX0_casesBy_8 rfl ?_
    refine PW_icmp_ge (tgt := 59) (pc' := 12) dX0_casesBy_9 rfl rfl (fun h9 => ?_) (fun h9 => ?_)
    · have hjk : k = j := by have := s_bge (by omega) (by omega) h9; omega
      subst hjk
      refine PW_iload4 (pc' := 61) dX0_casesBy_59 rfl ?_
      exact PW_ireturn .int dX0_casesBy_61 rfl rfl ⟨rfl, rfl⟩
    · have hjk : j < k := s_bnd (by omega) (by omega) h9
      refine PW_aload1 (pc' := 13) dX0_casesBy_12 rfl ?_
      refine PW_iload5 (pc' := 15) dX0_casesBy_13 rfl ?_
      refine PW_ialdn (pc' := 16) dX0_casesBy_15 rfl hpl rfl (by omega) ?_
      refine PW_istore6 (pc' := 18) dX0_casesBy_16 rfl rfl rfl ?_
      rw [(hrow j hjk).1]
      refine PW_aload0 (pc' := 19) dX0_casesBy_18 rfl ?_
      refine PW_iload6 (pc' := 21) dX0_casesBy_19 rfl ?_
      refine PW_callV1f (pc' := 24) dX0_casesBy_21 rfl oX0_has lX0_22 rfl rfl rfl (Nat.le_of_ble_eq_true rfl) (c_X0_has hc1) ?_
      refine PW_if_eq (tgt := 53) (pc' := 27) dX0_casesBy_24 rfl rfl (fun h24 => ?_) (fun h24 => ?_)
      · rw [s_has_rI hok.1 (hrow j hjk).2] at h24
        have hz := s_isNone (bi_f h24)
        refine PW_iinc5 (pc' := 56) dX0_casesBy_53 rfl rfl rfl nI_inc ?_
        refine PW_goto (tgt := 6) dX0_casesBy_56 rfl ?_
        have e : s_cs H r hr (j + 1) = s_cs H r hr j := by simp [s_cs, hz]
        rw [← e]
        exact ih (m - 1) (by omega) (j + 1) _ (by omega)
      · rw [s_has_rI hok.1 (hrow j hjk).2] at h24
        obtain ⟨t, ht⟩ := s_isSome (bi_t h24)
        have htn := (hrow j hjk).2 t ht
        have hn5 := hok.1
        have hst := (hok.2.2.2 t htn).2.2.2.1
        rw [ht, s_rI_some]
        refine PW_iload5 (pc' := 29) dX0_casesBy_27 rfl ?_
        refine PW_aload0 (pc' := 30) dX0_casesBy_29 rfl ?_
        refine PW_getR (pc' := 33) dX0_casesBy_30 rfl fX0_11 rfl rfl ?_
        refine PW_iload6 (pc' := 35) dX0_casesBy_33 rfl ?_
        refine PW_aald3 (pc' := 36) dX0_casesBy_35 rfl (by omega) ?_
        refine PW_getI (pc' := 39) dX0_casesBy_36 rfl fX0_26 (pv_lay_thing (by omega)) rfl ?_
        rw [hf t htn 3 (by decide)]
        refine PW_iadd (pc' := 40) dX0_casesBy_39 rfl ?_
        rw [nI_add]
        refine PW_iload3 (pc' := 41) dX0_casesBy_40 rfl ?_
        refine PW_icmp_le (tgt := 53) (pc' := 44) dX0_casesBy_41 rfl rfl (fun h41 => ?_) (fun h41 => ?_)
        · have h41' := (nI_leI (by omega) (by omega)).mp h41
          refine PW_iinc5 (pc' := 56) dX0_casesBy_53 rfl rfl rfl nI_inc ?_
          refine PW_goto (tgt := 6) dX0_casesBy_56 rfl ?_
          have e : s_cs H r hr (j + 1) = s_cs H r hr j := by simp [s_cs, ht, Nat.not_lt.mpr h41']
          rw [← e]
          exact ih (m - 1) (by omega) (j + 1) _ (by omega)
        · have h41' : hr < j + H.2.2.2 3 t := by
            rcases Nat.lt_or_ge hr (j + H.2.2.2 3 t) with q | q
            · exact q
            · exact absurd (nI_le q (by omega)) h41
          refine PW_iload4 (pc' := 46) dX0_casesBy_44 rfl ?_
          refine PW_iconst (pc' := 47) dX0_casesBy_46 rfl (v := 1) (by first | rfl | decide) ?_
          refine PW_iload6 (pc' := 49) dX0_casesBy_47 rfl ?_
          refine PW_ishl (pc' := 50) dX0_casesBy_49 rfl ?_
          refine PW_ior (pc' := 51) dX0_casesBy_50 rfl ?_
          rw [(bt_or _ (s_cs_lt hok.1 j (fun h hh => (hrow h (by omega)).2)) t (by omega)).1]
          refine PW_istore4 (pc' := 53) dX0_casesBy_51 rfl rfl rfl ?_
          refine PW_iinc5 (pc' := 56) dX0_casesBy_53 rfl rfl rfl nI_inc ?_
          refine PW_goto (tgt := 6) dX0_casesBy_56 rfl ?_
          have e : s_cs H r hr (j + 1) = s_cs H r hr j ||| 2 ^ t := by simp [s_cs, ht, h41']
          rw [← e]
          exact ih (m - 1) (by omega) (j + 1) _ (by omega)
set_option maxHeartbeats 4000000 in
theorem c_X0_casesBy {Γ : pv_G} {d : Nat} {M : pv_M} {pl k hr : Nat} {H : s_H} {r : Nat → Option Nat} (hpl : pv_lay pl = .inr (.inl (0, 6))) (hk : k ≤ 6) (hh : hr < 6) (hH : HX M H) (hrow : s_row M pl k H.1 r) : Ct Γ (d + 1) vX0_casesBy [.ref 10, .ref pl, .int (nI k), .int (nI hr)] M (pv_fn (some (.int (nI (s_cs H r hr k)))) M) := by
  refine Ct.of oX0_casesBy.1 rfl (pad := 3) rfl ?_
  show PW Γ (d + 1) vX0_casesBy 0 [.ref 10, .ref pl, .int (nI k), .int (nI hr), .null, .null, .null] [] M _
  refine PW_iconst (pc' := 1) dX0_casesBy_0 rfl (v := nI (s_cs H r hr 0)) (by first | rfl | decide) ?_
  refine PW_istore4 (pc' := 3) dX0_casesBy_1 rfl rfl rfl ?_
  refine PW_iconst (pc' := 4) dX0_casesBy_3 rfl (v := nI 0) (by first | rfl | decide) ?_
  refine PW_istore5 (pc' := 6) dX0_casesBy_4 rfl rfl rfl ?_
  exact l_X0_casesBy hpl hk hh hH hrow k 0 _ (by omega)
theorem s_last_of {H : s_H} {t cs : Nat} (h : ∀ x, x < H.1 → x = t ∨ H.2.2.2 1 x ≠ H.2.2.2 1 t ∨ cs.testBit x = true) : s_last H t cs = true := by
  simp only [s_last, List.all_eq_true, List.mem_range, Bool.or_eq_true, decide_eq_true_eq]
  exact h
theorem s_last_no {H : s_H} {t cs x : Nat} (hx : x < H.1) (h1 : x ≠ t) (h2 : H.2.2.2 1 x = H.2.2.2 1 t) (h3 : cs.testBit x = false) : s_last H t cs = false := by
  rcases Bool.eq_false_or_eq_true (s_last H t cs) with h | h
  · simp only [s_last, List.all_eq_true, List.mem_range, Bool.or_eq_true, decide_eq_true_eq] at h
    rcases h x hx with q | q | q
    · exact absurd q h1
    · exact absurd h2 q
    · rw [h3] at q; cases q
  · exact h
set_option maxHeartbeats 4000000 in
theorem l_X0_isLast {Γ : pv_G} {d : Nat} {M : pv_M} {t cs : Nat} {H : s_H} (ht : t < H.1) (hcs : cs < 64) (hH : HX M H) :
    ∀ (m j : Nat), j + m = H.1 → (∀ x, x < j → x = t ∨ H.2.2.2 1 x ≠ H.2.2.2 1 t ∨ cs.testBit x = true) → PW Γ (d + 1) vX0_isLast 2 [.ref 10, .int (nI t), .int (nI cs), .int (nI j)] [] M (pv_fn (some (.int (bi (s_last H t cs)))) M) := by
  obtain ⟨hok, hc1, hc2, hc3, hf⟩ := id hH
  have hn5 := hok.1
  intro m
  induction m using Nat.strongRecOn with
  | ind m ih =>
    intro j hjm hall
    refine PW_iload3 (pc' := 3) dX0_isLast_2 rfl ?_
    refine PW_aload0 (pc' := 4) dX0_isLast_3 rfl ?_
    refine PW_getI (pc' := 7) dX0_isLast_4 rfl fX0_18 rfl rfl ?_
    rw [hc1]
    refine PW_icmp_ge (tgt := 52) (pc' := 10) dX0_isLast_7 rfl rfl (fun h7 => ?_) (fun h7 => ?_)
    · have hjn : j = H.1 := by have := s_bge (by omega) (by omega) h7; omega
      refine PW_iconst (pc' := 53) dX0_isLast_52 rfl (v := 1) (by first | rfl | decide) ?_
      exact PW_ireturn .boolean dX0_isLast_53 rfl rfl ⟨by rw [s_last_of (fun x hx => hall x (by omega))]; rfl, rfl⟩
    · have hjn : j < H.1 := s_bnd (by omega) (by omega) h7
      refine PW_iload3 (pc' := 11) dX0_isLast_10 rfl ?_
      refine PW_iload1 (pc' := 12) dX0_isLast_11 rfl ?_
      refine PW_icmp_eq (tgt := 46) (pc' := 15) dX0_isLast_12 rfl rfl (fun h12 => ?_) (fun h12 => ?_)
      · refine PW_iinc3 (pc' := 49) dX0_isLast_46 rfl rfl rfl nI_inc ?_
        refine PW_goto (tgt := 2) dX0_isLast_49 rfl ?_
        refine ih (m - 1) (by omega) (j + 1) (by omega) (fun x hx => ?_)
        rcases Nat.lt_succ_iff_lt_or_eq.mp hx with q | q
        · exact hall x q
        · rw [q]; exact Or.inl (nI_inj (by omega) (by omega) h12)
      · have hjt : j ≠ t := fun q => h12 (by rw [q])
        refine PW_aload0 (pc' := 16) dX0_isLast_15 rfl ?_
        refine PW_getR (pc' := 19) dX0_isLast_16 rfl fX0_11 rfl rfl ?_
        refine PW_iload3 (pc' := 20) dX0_isLast_19 rfl ?_
        refine PW_aald3 (pc' := 21) dX0_isLast_20 rfl (by omega) ?_
        refine PW_getI (pc' := 24) dX0_isLast_21 rfl fX0_59 (pv_lay_thing (by omega)) rfl ?_
        rw [hf j hjn 1 (by decide)]
        refine PW_aload0 (pc' := 25) dX0_isLast_24 rfl ?_
        refine PW_getR (pc' := 28) dX0_isLast_25 rfl fX0_11 rfl rfl ?_
        refine PW_iload1 (pc' := 29) dX0_isLast_28 rfl ?_
        refine PW_aald3 (pc' := 30) dX0_isLast_29 rfl (by omega) ?_
        refine PW_getI (pc' := 33) dX0_isLast_30 rfl fX0_59 (pv_lay_thing (by omega)) rfl ?_
        rw [hf t ht 1 (by decide)]
        refine PW_icmp_ne (tgt := 46) (pc' := 36) dX0_isLast_33 rfl rfl (fun h33 => ?_) (fun h33 => ?_)
        · refine PW_iinc3 (pc' := 49) dX0_isLast_46 rfl rfl rfl nI_inc ?_
          refine PW_goto (tgt := 2) dX0_isLast_49 rfl ?_
          refine ih (m - 1) (by omega) (j + 1) (by omega) (fun x hx => ?_)
          rcases Nat.lt_succ_iff_lt_or_eq.mp hx with q | q
          · exact hall x q
          · rw [q]; exact Or.inr (Or.inl (fun z => h33 (by rw [z])))
        · have hso : H.2.2.2 1 j = H.2.2.2 1 t := nI_inj (by have := (hok.2.2.2 j hjn).2.1; omega) (by have := (hok.2.2.2 t ht).2.1; omega) h33
          refine PW_iload2 (pc' := 37) dX0_isLast_36 rfl ?_
          refine PW_iload3 (pc' := 38) dX0_isLast_37 rfl ?_
          refine PW_callN2f (pc' := 41) dX0_isLast_38 rfl oX6_isIn ⟨rfl, rfl⟩ (Nat.le_of_ble_eq_true rfl) (c_X6_isIn hcs (by omega)) ?_
          refine PW_if_ne (tgt := 46) (pc' := 44) dX0_isLast_41 rfl rfl (fun h41 => ?_) (fun h41 => ?_)
          · refine PW_iinc3 (pc' := 49) dX0_isLast_46 rfl rfl rfl nI_inc ?_
            refine PW_goto (tgt := 2) dX0_isLast_49 rfl ?_
            refine ih (m - 1) (by omega) (j + 1) (by omega) (fun x hx => ?_)
            rcases Nat.lt_succ_iff_lt_or_eq.mp hx with q | q
            · exact hall x q
            · rw [q]; exact Or.inr (Or.inr (bi_t h41))
          · have hbt := bi_f h41
            refine PW_iconst (pc' := 45) dX0_isLast_44 rfl (v := 0) (by first | rfl | decide) ?_
            refine PW_ireturn .boolean dX0_isLast_45 rfl (by first | rfl | exact bi_nar _) ?_
            exact ⟨by rw [s_last_no hjn hjt hso hbt]; rfl, rfl⟩
set_option maxHeartbeats 4000000 in
theorem c_X0_isLast {Γ : pv_G} {d : Nat} {M : pv_M} {t cs : Nat} {H : s_H} (ht : t < H.1) (hcs : cs < 64) (hH : HX M H) : Ct Γ (d + 1) vX0_isLast [.ref 10, .int (nI t), .int (nI cs)] M (pv_fn (some (.int (bi (s_last H t cs)))) M) := by
  refine Ct.of oX0_isLast.1 rfl (pad := 1) rfl ?_
  show PW Γ (d + 1) vX0_isLast 0 [.ref 10, .int (nI t), .int (nI cs), .null] [] M _
  refine PW_iconst (pc' := 1) dX0_isLast_0 rfl (v := nI 0) (by first | rfl | decide) ?_
  refine PW_istore3 (pc' := 2) dX0_isLast_1 rfl rfl rfl ?_
  exact l_X0_isLast ht hcs hH H.1 0 (by omega) (fun x hx => absurd hx (Nat.not_lt_zero x))
set_option maxHeartbeats 4000000 in
theorem c_X0_gain {Γ : pv_G} {d : Nat} {M : pv_M} {t h cs lw : Nat} {H : s_H} (ht : t < H.1) (hh : h < 6) (hcs : cs < 64) (hlw : lw ≤ 3) (hH : HX M H) : Ct Γ (d + 2) vX0_gain [.ref 10, .int (nI t), .int (nI h), .int (nI cs), .int (nI lw)] M (pv_fn (some (.int (nI (s_gain H lw t h cs)))) M) := by
  obtain ⟨hok, hc1, hc2, hc3, hf⟩ := id hH
  have hn5 := hok.1
  have hu := (hok.2.2.2 t ht).2.2.2.2
  have hval := s_val_le hok ht
  refine Ct.of oX0_gain.1 rfl (pad := 2) rfl ?_
  show PW Γ (d + 2) vX0_gain 0 [.ref 10, .int (nI t), .int (nI h), .int (nI cs), .int (nI lw), .null, .null] [] M _
  refine PW_aload0 (pc' := 1) dX0_gain_0 rfl ?_
  refine PW_getR (pc' := 4) dX0_gain_1 rfl fX0_11 rfl rfl ?_
  refine PW_iload1 (pc' := 5) dX0_gain_4 rfl ?_
  refine PW_aald3 (pc' := 6) dX0_gain_5 rfl (by omega) ?_
  refine PW_astore5 (pc' := 8) dX0_gain_6 rfl rfl rfl ?_
  refine PW_aload5 (pc' := 10) dX0_gain_8 rfl ?_
  refine PW_callV0f (pc' := 13) dX0_gain_10 rfl oX5_value lX0_49 (pv_lay_thing (by omega)) rfl rfl (Nat.le_of_ble_eq_true rfl) (c_X5_value ht hH) ?_
  refine PW_istore6 (pc' := 15) dX0_gain_13 rfl rfl rfl ?_
  refine PW_iload4 (pc' := 17) dX0_gain_15 rfl ?_
  refine PW_iconst (pc' := 18) dX0_gain_17 rfl (v := 1) (by first | rfl | decide) ?_
  refine PW_iand (pc' := 19) dX0_gain_18 rfl ?_
  refine PW_if_eq (tgt := 44) (pc' := 22) dX0_gain_19 rfl rfl (fun h19 => ?_) (fun h19 => ?_)
  · rw [bt_and1 lw (by omega)] at h19
    have q0 := bi_f h19
    refine PW_iload4 (pc' := 46) dX0_gain_44 rfl ?_
    refine PW_iconst (pc' := 47) dX0_gain_46 rfl (v := 2) (by first | rfl | decide) ?_
    refine PW_iand (pc' := 48) dX0_gain_47 rfl ?_
    refine PW_if_eq (tgt := 63) (pc' := 51) dX0_gain_48 rfl rfl (fun h48 => ?_) (fun h48 => ?_)
    · have q2 := (bt_and2 lw (by omega)).mp h48
      refine PW_iload6 (pc' := 65) dX0_gain_63 rfl ?_
      refine PW_ireturn .int dX0_gain_65 rfl rfl ?_
      refine ⟨?_, rfl⟩
      have e5 : Int32.ofInt 5 = nI 5 := by decide
      first | rw [e5] | skip
      simp only [nI_add, s_gain]
      simp only [*, Bool.and_true, Bool.and_false, Bool.true_and, Bool.false_and, if_true, if_false, Nat.mul_one, Nat.add_zero, Nat.mul_two, Bool.false_eq_true]
    · have q2 : lw.testBit 1 = true := by
        rcases Bool.eq_false_or_eq_true (lw.testBit 1) with z | z
        · exact z
        · exact absurd ((bt_and2 lw (by omega)).mpr z) h48
      refine PW_aload0 (pc' := 52) dX0_gain_51 rfl ?_
      refine PW_iload1 (pc' := 53) dX0_gain_52 rfl ?_
      refine PW_iload3 (pc' := 54) dX0_gain_53 rfl ?_
      refine PW_callV2f (pc' := 57) dX0_gain_54 rfl oX0_isLast lX0_56 rfl rfl rfl (Nat.le_of_ble_eq_true rfl) (c_X0_isLast ht hcs hH) ?_
      refine PW_if_eq (tgt := 63) (pc' := 60) dX0_gain_57 rfl rfl (fun h57 => ?_) (fun h57 => ?_)
      · have q3 := bi_f h57
        refine PW_iload6 (pc' := 65) dX0_gain_63 rfl ?_
        refine PW_ireturn .int dX0_gain_65 rfl rfl ?_
        refine ⟨?_, rfl⟩
        have e5 : Int32.ofInt 5 = nI 5 := by decide
        first | rw [e5] | skip
        simp only [nI_add, s_gain]
        simp only [*, Bool.and_true, Bool.and_false, Bool.true_and, Bool.false_and, if_true, if_false, Nat.mul_one, Nat.add_zero, Nat.mul_two, Bool.false_eq_true]
      · have q3 := bi_t h57
        refine PW_iinc6 (pc' := 63) dX0_gain_60 rfl rfl rfl rfl ?_
        refine PW_iload6 (pc' := 65) dX0_gain_63 rfl ?_
        refine PW_ireturn .int dX0_gain_65 rfl rfl ?_
        refine ⟨?_, rfl⟩
        have e5 : Int32.ofInt 5 = nI 5 := by decide
        first | rw [e5] | skip
        simp only [nI_add, s_gain]
        simp only [*, Bool.and_true, Bool.and_false, Bool.true_and, Bool.false_and, if_true, if_false, Nat.mul_one, Nat.add_zero, Nat.mul_two, Bool.false_eq_true]
  · rw [bt_and1 lw (by omega)] at h19
    have q0 := bi_t h19
    refine PW_aload5 (pc' := 24) dX0_gain_22 rfl ?_
    refine PW_getI (pc' := 27) dX0_gain_24 rfl fX0_53 (pv_lay_thing (by omega)) rfl ?_
    rw [hf t ht 4 (by decide)]
    refine PW_iload2 (pc' := 28) dX0_gain_27 rfl ?_
    refine PW_callN2f (pc' := 31) dX0_gain_28 rfl oX6_isIn ⟨rfl, rfl⟩ (Nat.le_of_ble_eq_true rfl) (c_X6_isIn hu hh) ?_
    refine PW_if_eq (tgt := 44) (pc' := 34) dX0_gain_31 rfl rfl (fun h31 => ?_) (fun h31 => ?_)
    · have q1 := bi_f h31
      refine PW_iload4 (pc' := 46) dX0_gain_44 rfl ?_
      refine PW_iconst (pc' := 47) dX0_gain_46 rfl (v := 2) (by first | rfl | decide) ?_
      refine PW_iand (pc' := 48) dX0_gain_47 rfl ?_
      refine PW_if_eq (tgt := 63) (pc' := 51) dX0_gain_48 rfl rfl (fun h48 => ?_) (fun h48 => ?_)
      · have q2 := (bt_and2 lw (by omega)).mp h48
        refine PW_iload6 (pc' := 65) dX0_gain_63 rfl ?_
        refine PW_ireturn .int dX0_gain_65 rfl rfl ?_
        refine ⟨?_, rfl⟩
        have e5 : Int32.ofInt 5 = nI 5 := by decide
        first | rw [e5] | skip
        simp only [nI_add, s_gain]
        simp only [*, Bool.and_true, Bool.and_false, Bool.true_and, Bool.false_and, if_true, if_false, Nat.mul_one, Nat.add_zero, Nat.mul_two, Bool.false_eq_true]
      · have q2 : lw.testBit 1 = true := by
          rcases Bool.eq_false_or_eq_true (lw.testBit 1) with z | z
          · exact z
          · exact absurd ((bt_and2 lw (by omega)).mpr z) h48
        refine PW_aload0 (pc' := 52) dX0_gain_51 rfl ?_
        refine PW_iload1 (pc' := 53) dX0_gain_52 rfl ?_
        refine PW_iload3 (pc' := 54) dX0_gain_53 rfl ?_
        refine PW_callV2f (pc' := 57) dX0_gain_54 rfl oX0_isLast lX0_56 rfl rfl rfl (Nat.le_of_ble_eq_true rfl) (c_X0_isLast ht hcs hH) ?_
        refine PW_if_eq (tgt := 63) (pc' := 60) dX0_gain_57 rfl rfl (fun h57 => ?_) (fun h57 => ?_)
        · have q3 := bi_f h57
          refine PW_iload6 (pc' := 65) dX0_gain_63 rfl ?_
          refine PW_ireturn .int dX0_gain_65 rfl rfl ?_
          refine ⟨?_, rfl⟩
          have e5 : Int32.ofInt 5 = nI 5 := by decide
          first | rw [e5] | skip
          simp only [nI_add, s_gain]
          simp only [*, Bool.and_true, Bool.and_false, Bool.true_and, Bool.false_and, if_true, if_false, Nat.mul_one, Nat.add_zero, Nat.mul_two, Bool.false_eq_true]
        · have q3 := bi_t h57
          refine PW_iinc6 (pc' := 63) dX0_gain_60 rfl rfl rfl rfl ?_
          refine PW_iload6 (pc' := 65) dX0_gain_63 rfl ?_
          refine PW_ireturn .int dX0_gain_65 rfl rfl ?_
          refine ⟨?_, rfl⟩
          have e5 : Int32.ofInt 5 = nI 5 := by decide
          first | rw [e5] | skip
          simp only [nI_add, s_gain]
          simp only [*, Bool.and_true, Bool.and_false, Bool.true_and, Bool.false_and, if_true, if_false, Nat.mul_one, Nat.add_zero, Nat.mul_two, Bool.false_eq_true]
    · have q1 := bi_t h31
      refine PW_iload6 (pc' := 36) dX0_gain_34 rfl ?_
      refine PW_aload5 (pc' := 38) dX0_gain_36 rfl ?_
      refine PW_callV0f (pc' := 41) dX0_gain_38 rfl oX5_value lX0_49 (pv_lay_thing (by omega)) rfl rfl (Nat.le_of_ble_eq_true rfl) (c_X5_value ht hH) ?_
      refine PW_iadd (pc' := 42) dX0_gain_41 rfl ?_
      refine PW_istore6 (pc' := 44) dX0_gain_42 rfl rfl rfl ?_
      refine PW_iload4 (pc' := 46) dX0_gain_44 rfl ?_
      refine PW_iconst (pc' := 47) dX0_gain_46 rfl (v := 2) (by first | rfl | decide) ?_
      refine PW_iand (pc' := 48) dX0_gain_47 rfl ?_
      refine PW_if_eq (tgt := 63) (pc' := 51) dX0_gain_48 rfl rfl (fun h48 => ?_) (fun h48 => ?_)
      · have q2 := (bt_and2 lw (by omega)).mp h48
        refine PW_iload6 (pc' := 65) dX0_gain_63 rfl ?_
        refine PW_ireturn .int dX0_gain_65 rfl rfl ?_
        refine ⟨?_, rfl⟩
        have e5 : Int32.ofInt 5 = nI 5 := by decide
        first | rw [e5] | skip
        simp only [nI_add, s_gain]
        simp only [*, Bool.and_true, Bool.and_false, Bool.true_and, Bool.false_and, if_true, if_false, Nat.mul_one, Nat.add_zero, Nat.mul_two, Bool.false_eq_true]
      · have q2 : lw.testBit 1 = true := by
          rcases Bool.eq_false_or_eq_true (lw.testBit 1) with z | z
          · exact z
          · exact absurd ((bt_and2 lw (by omega)).mpr z) h48
        refine PW_aload0 (pc' := 52) dX0_gain_51 rfl ?_
        refine PW_iload1 (pc' := 53) dX0_gain_52 rfl ?_
        refine PW_iload3 (pc' := 54) dX0_gain_53 rfl ?_
        refine PW_callV2f (pc' := 57) dX0_gain_54 rfl oX0_isLast lX0_56 rfl rfl rfl (Nat.le_of_ble_eq_true rfl) (c_X0_isLast ht hcs hH) ?_
        refine PW_if_eq (tgt := 63) (pc' := 60) dX0_gain_57 rfl rfl (fun h57 => ?_) (fun h57 => ?_)
        · have q3 := bi_f h57
          refine PW_iload6 (pc' := 65) dX0_gain_63 rfl ?_
          refine PW_ireturn .int dX0_gain_65 rfl rfl ?_
          refine ⟨?_, rfl⟩
          have e5 : Int32.ofInt 5 = nI 5 := by decide
          first | rw [e5] | skip
          simp only [nI_add, s_gain]
          simp only [*, Bool.and_true, Bool.and_false, Bool.true_and, Bool.false_and, if_true, if_false, Nat.mul_one, Nat.add_zero, Nat.mul_two, Bool.false_eq_true]
        · have q3 := bi_t h57
          refine PW_iinc6 (pc' := 63) dX0_gain_60 rfl rfl rfl rfl ?_
          refine PW_iload6 (pc' := 65) dX0_gain_63 rfl ?_
          refine PW_ireturn .int dX0_gain_65 rfl rfl ?_
          refine ⟨?_, rfl⟩
          have e5 : Int32.ofInt 5 = nI 5 := by decide
          first | rw [e5] | skip
          simp only [nI_add, s_gain]
          simp only [*, Bool.and_true, Bool.and_false, Bool.true_and, Bool.false_and, if_true, if_false, Nat.mul_one, Nat.add_zero, Nat.mul_two, Bool.false_eq_true]
end
section
/-! the class: a round by its house: first wrong, takings, missed -/
def v_bc1 (i : Int32) : Int32 := i - ((i.toUInt32 >>> ((1 : Int32).toUInt32 &&& Int32.toUInt32 31)).toInt32 &&& 1431655765)
def v_bc2 (i : Int32) : Int32 := (i &&& 858993459) + ((i.toUInt32 >>> ((2 : Int32).toUInt32 &&& Int32.toUInt32 31)).toInt32 &&& 858993459)
def v_bc3 (i : Int32) : Int32 := (i + (i.toUInt32 >>> ((4 : Int32).toUInt32 &&& Int32.toUInt32 31)).toInt32) &&& 252645135
def v_bc4 (i : Int32) : Int32 := i + (i.toUInt32 >>> ((8 : Int32).toUInt32 &&& Int32.toUInt32 31)).toInt32
def v_bc5 (i : Int32) : Int32 := i + (i.toUInt32 >>> ((16 : Int32).toUInt32 &&& Int32.toUInt32 31)).toInt32
theorem v_bc_eq : ∀ a, a < 64 → (v_bc5 (v_bc4 (v_bc3 (v_bc2 (v_bc1 (nI a)))))) &&& 63 = nI (s_pop a) := by decide +kernel
set_option maxHeartbeats 4000000 in
theorem c_J6_bitCount_0f7a4 {Γ : pv_G} {d : Nat} {M : pv_M} {a : Nat} (ha : a < 64) : Ct Γ d vJ6_bitCount_0f7a4 [.int (nI a)] M (pv_fn (some (.int (nI (s_pop a)))) M) := by
  refine Ct.of oJ6_bitCount_0f7a4.1 rfl (pad := 0) rfl ?_
  show PW Γ d vJ6_bitCount_0f7a4 0 [.int (nI a)] [] M _
  refine PW_iload0 (pc' := 1) dJ6_bitCount_0f7a4_0 rfl ?_
  refine PW_iload0 (pc' := 2) dJ6_bitCount_0f7a4_1 rfl ?_
  refine PW_iconst (pc' := 3) dJ6_bitCount_0f7a4_2 rfl (v := 1) (by first | rfl | decide) ?_
  refine PW_iushr (pc' := 4) dJ6_bitCount_0f7a4_3 rfl rfl ?_
  refine PW_ldcw (pc' := 7) dJ6_bitCount_0f7a4_4 rfl qJ6_265 ?_
  refine PW_iand (pc' := 8) dJ6_bitCount_0f7a4_7 rfl ?_
  refine PW_isub (pc' := 9) dJ6_bitCount_0f7a4_8 rfl ?_
  refine PW_istore0 (pc' := 10) dJ6_bitCount_0f7a4_9 rfl rfl rfl ?_
  refine PW_iload0 (pc' := 11) dJ6_bitCount_0f7a4_10 rfl ?_
  refine PW_ldcw (pc' := 14) dJ6_bitCount_0f7a4_11 rfl qJ6_266 ?_
  refine PW_iand (pc' := 15) dJ6_bitCount_0f7a4_14 rfl ?_
  refine PW_iload0 (pc' := 16) dJ6_bitCount_0f7a4_15 rfl ?_
  refine PW_iconst (pc' := 17) dJ6_bitCount_0f7a4_16 rfl (v := 2) (by first | rfl | decide) ?_
  refine PW_iushr (pc' := 18) dJ6_bitCount_0f7a4_17 rfl rfl ?_
  refine PW_ldcw (pc' := 21) dJ6_bitCount_0f7a4_18 rfl qJ6_266 ?_
  refine PW_iand (pc' := 22) dJ6_bitCount_0f7a4_21 rfl ?_
  refine PW_iadd (pc' := 23) dJ6_bitCount_0f7a4_22 rfl ?_
  refine PW_istore0 (pc' := 24) dJ6_bitCount_0f7a4_23 rfl rfl rfl ?_
  refine PW_iload0 (pc' := 25) dJ6_bitCount_0f7a4_24 rfl ?_
  refine PW_iload0 (pc' := 26) dJ6_bitCount_0f7a4_25 rfl ?_
  refine PW_iconst (pc' := 27) dJ6_bitCount_0f7a4_26 rfl (v := 4) (by first | rfl | decide) ?_
  refine PW_iushr (pc' := 28) dJ6_bitCount_0f7a4_27 rfl rfl ?_
  refine PW_iadd (pc' := 29) dJ6_bitCount_0f7a4_28 rfl ?_
  refine PW_ldcw (pc' := 32) dJ6_bitCount_0f7a4_29 rfl qJ6_267 ?_
  refine PW_iand (pc' := 33) dJ6_bitCount_0f7a4_32 rfl ?_
  refine PW_istore0 (pc' := 34) dJ6_bitCount_0f7a4_33 rfl rfl rfl ?_
  refine PW_iload0 (pc' := 35) dJ6_bitCount_0f7a4_34 rfl ?_
  refine PW_iload0 (pc' := 36) dJ6_bitCount_0f7a4_35 rfl ?_
  refine PW_bipush (pc' := 38) dJ6_bitCount_0f7a4_36 rfl (v := 8) (by first | rfl | decide) ?_
  refine PW_iushr (pc' := 39) dJ6_bitCount_0f7a4_38 rfl rfl ?_
  refine PW_iadd (pc' := 40) dJ6_bitCount_0f7a4_39 rfl ?_
  refine PW_istore0 (pc' := 41) dJ6_bitCount_0f7a4_40 rfl rfl rfl ?_
  refine PW_iload0 (pc' := 42) dJ6_bitCount_0f7a4_41 rfl ?_
  refine PW_iload0 (pc' := 43) dJ6_bitCount_0f7a4_42 rfl ?_
  refine PW_bipush (pc' := 45) dJ6_bitCount_0f7a4_43 rfl (v := 16) (by first | rfl | decide) ?_
  refine PW_iushr (pc' := 46) dJ6_bitCount_0f7a4_45 rfl rfl ?_
  refine PW_iadd (pc' := 47) dJ6_bitCount_0f7a4_46 rfl ?_
  refine PW_istore0 (pc' := 48) dJ6_bitCount_0f7a4_47 rfl rfl rfl ?_
  refine PW_iload0 (pc' := 49) dJ6_bitCount_0f7a4_48 rfl ?_
  refine PW_bipush (pc' := 51) dJ6_bitCount_0f7a4_49 rfl (v := 63) (by first | rfl | decide) ?_
  refine PW_iand (pc' := 52) dJ6_bitCount_0f7a4_51 rfl ?_
  refine PW_ireturn .int dJ6_bitCount_0f7a4_52 rfl rfl ?_
  exact ⟨congrArg (fun z => some (Value.int z)) (v_bc_eq a ha), rfl⟩
set_option maxHeartbeats 4000000 in
theorem c_X0_missedByTake {Γ : pv_G} {d : Nat} {M : pv_M} {t h : Nat} {H : s_H} (ht : t < H.1) (hh : h < 6) (hH : HX M H) : Ct Γ (d + 1) vX0_missedByTake [.ref 10, .int (nI t), .int (nI h)] M (pv_fn (some (.int (nI (s_miss1 H t h)))) M) := by
  obtain ⟨hok, hc1, hc2, hc3, hf⟩ := id hH
  have hn5 := hok.1
  have hu := (hok.2.2.2 t ht).2.2.2.2
  refine Ct.of oX0_missedByTake.1 rfl (pad := 0) rfl ?_
  show PW Γ (d + 1) vX0_missedByTake 0 [.ref 10, .int (nI t), .int (nI h)] [] M _
  refine PW_aload0 (pc' := 1) dX0_missedByTake_0 rfl ?_
  refine PW_getR (pc' := 4) dX0_missedByTake_1 rfl fX0_11 rfl rfl ?_
  refine PW_iload1 (pc' := 5) dX0_missedByTake_4 rfl ?_
  refine PW_aald3 (pc' := 6) dX0_missedByTake_5 rfl (by omega) ?_
  refine PW_getI (pc' := 9) dX0_missedByTake_6 rfl fX0_53 (pv_lay_thing (by omega)) rfl ?_
  refine PW_aload0 (pc' := 10) dX0_missedByTake_9 rfl ?_
  refine PW_getR (pc' := 13) dX0_missedByTake_10 rfl fX0_11 rfl rfl ?_
  refine PW_iload1 (pc' := 14) dX0_missedByTake_13 rfl ?_
  refine PW_aald3 (pc' := 15) dX0_missedByTake_14 rfl (by omega) ?_
  refine PW_iload2 (pc' := 16) dX0_missedByTake_15 rfl ?_
  refine PW_callV1f (pc' := 19) dX0_missedByTake_16 rfl oX5_span lX0_45 (pv_lay_thing (by omega)) rfl rfl (Nat.le_of_ble_eq_true rfl) (c_X5_span ht hh hH) ?_
  refine PW_iand (pc' := 20) dX0_missedByTake_19 rfl ?_
  rw [hf t ht 4 (by decide), bt_and _ hu _ (s_span_lt _ _)]
  refine PW_callS1f (pc' := 23) dX0_missedByTake_20 rfl oJ6_bitCount_0f7a4 lX0_62 (Nat.le_of_ble_eq_true rfl) (c_J6_bitCount_0f7a4 (s_and_lt hu)) ?_
  refine PW_ireturn .int dX0_missedByTake_23 rfl rfl ?_
  exact ⟨by first | rfl | (simp_all; done), rfl⟩
def s_oI (o : Option Nat) : Int32 := match o with
  | none => -9
  | some h => nI h
theorem s_wrong_mono {H : s_H} {r : Nat → Option Nat} {h : Nat} : ∀ (k j : Nat), s_wrong H r j = some h → s_wrong H r (j + k) = some h
  | 0, _, hj => hj
  | k + 1, j, hj => by
    rw [show j + (k + 1) = (j + k) + 1 from rfl, s_wrong, s_wrong_mono k j hj]
set_option maxHeartbeats 4000000 in
theorem l_X0_firstWrong {Γ : pv_G} {d : Nat} {M : pv_M} {pl : Nat} {H : s_H} {r : Nat → Option Nat} (hpl : pv_lay pl = .inr (.inl (0, 6))) (hH : HX M H) (hrow : s_row M pl 6 H.1 r) :
    ∀ (m j : Nat), j + m = 6 → s_wrong H r j = none → PW Γ (d + 2) vX0_firstWrong 2 [.ref 10, .ref pl, .int (nI j)] [] M (pv_fn (some (.int (s_oI (s_wrong H r 6)))) M) := by
  obtain ⟨hok, hc1, hc2, hc3, hf⟩ := id hH
  have hn5 := hok.1
  have hr2 : ∀ h, h < 6 → ∀ t, r h = some t → t < H.1 := fun h hh => (hrow h hh).2
  intro m
  induction m using Nat.strongRecOn with
  | ind m ih =>
    intro j hjm hw
    refine PW_iload2 (pc' := 3) dX0_firstWrong_2 rfl ?_
    refine PW_bipush (pc' := 5) dX0_firstWrong_3 rfl (v := nI 6) (by first | rfl | decide) ?_
    refine PW_icmp_ge (tgt := 42) (pc' := 8) dX0_firstWrong_5 rfl rfl (fun h5 => ?_) (fun h5 => ?_)
    · have hj6 : j = 6 := by have := s_bge (by omega) (by omega) h5; omega
      subst hj6
      refine PW_bipush (pc' := 44) dX0_firstWrong_42 rfl (v := -9) (by first | rfl | decide) ?_
      exact PW_ireturn .int dX0_firstWrong_44 rfl rfl ⟨by rw [hw]; rfl, rfl⟩
    · have hj6 : j < 6 := s_bnd (by omega) (by omega) h5
      refine PW_aload0 (pc' := 9) dX0_firstWrong_8 rfl ?_
      refine PW_aload1 (pc' := 10) dX0_firstWrong_9 rfl ?_
      refine PW_iload2 (pc' := 11) dX0_firstWrong_10 rfl ?_
      refine PW_ialdn (pc' := 12) dX0_firstWrong_11 rfl hpl rfl (by omega) ?_
      rw [(hrow j hj6).1]
      refine PW_callV1f (pc' := 15) dX0_firstWrong_12 rfl oX0_has lX0_22 rfl rfl rfl (Nat.le_of_ble_eq_true rfl) (c_X0_has hc1) ?_
      refine PW_if_eq (tgt := 36) (pc' := 18) dX0_firstWrong_15 rfl rfl (fun h15 => ?_) (fun h15 => ?_)
      · rw [s_has_rI hn5 (hr2 j hj6)] at h15
        have hz := s_isNone (bi_f h15)
        refine PW_iinc2 (pc' := 39) dX0_firstWrong_36 rfl rfl rfl nI_inc ?_
        refine PW_goto (tgt := 2) dX0_firstWrong_39 rfl ?_
        refine ih (m - 1) (by omega) (j + 1) (by omega) ?_
        simp [s_wrong, hw, hz]
      · rw [s_has_rI hn5 (hr2 j hj6)] at h15
        obtain ⟨t, ht⟩ := s_isSome (bi_t h15)
        have htn := hr2 j hj6 t ht
        refine PW_aload0 (pc' := 19) dX0_firstWrong_18 rfl ?_
        refine PW_aload1 (pc' := 20) dX0_firstWrong_19 rfl ?_
        refine PW_iload2 (pc' := 21) dX0_firstWrong_20 rfl ?_
        refine PW_iload2 (pc' := 22) dX0_firstWrong_21 rfl ?_
        refine PW_callV3f (pc' := 25) dX0_firstWrong_22 rfl oX0_casesBy lX0_29 rfl rfl rfl (Nat.le_of_ble_eq_true rfl) (c_X0_casesBy hpl (by omega) (by omega) hH (fun h hh => hrow h (by omega))) ?_
        refine PW_aload1 (pc' := 26) dX0_firstWrong_25 rfl ?_
        refine PW_iload2 (pc' := 27) dX0_firstWrong_26 rfl ?_
        refine PW_ialdn (pc' := 28) dX0_firstWrong_27 rfl hpl rfl (by omega) ?_
        rw [(hrow j hj6).1, ht, s_rI_some]
        refine PW_callN2f (pc' := 31) dX0_firstWrong_28 rfl oX6_isIn ⟨rfl, rfl⟩ (Nat.le_of_ble_eq_true rfl) (c_X6_isIn (s_cs_lt hn5 j (fun h hh => hr2 h (by omega))) (by omega)) ?_
        refine PW_if_eq (tgt := 36) (pc' := 34) dX0_firstWrong_31 rfl rfl (fun h31 => ?_) (fun h31 => ?_)
        · have hb := bi_f h31
          refine PW_iinc2 (pc' := 39) dX0_firstWrong_36 rfl rfl rfl nI_inc ?_
          refine PW_goto (tgt := 2) dX0_firstWrong_39 rfl ?_
          refine ih (m - 1) (by omega) (j + 1) (by omega) ?_
          simp [s_wrong, hw, ht, hb]
        · have hb := bi_t h31
          refine PW_iload2 (pc' := 35) dX0_firstWrong_34 rfl ?_
          refine PW_ireturn .int dX0_firstWrong_35 rfl rfl ?_
          have e : s_wrong H r (j + 1) = some j := by simp [s_wrong, hw, ht, hb]
          have e6 := s_wrong_mono (m - 1) (j + 1) e
          rw [show j + 1 + (m - 1) = 6 by omega] at e6
          exact ⟨by rw [e6]; rfl, rfl⟩
set_option maxHeartbeats 4000000 in
theorem c_X0_firstWrong {Γ : pv_G} {d : Nat} {M : pv_M} {pl : Nat} {H : s_H} {r : Nat → Option Nat} (hpl : pv_lay pl = .inr (.inl (0, 6))) (hH : HX M H) (hrow : s_row M pl 6 H.1 r) : Ct Γ (d + 2) vX0_firstWrong [.ref 10, .ref pl] M (pv_fn (some (.int (s_oI (s_wrong H r 6)))) M) := by
  refine Ct.of oX0_firstWrong.1 rfl (pad := 1) rfl ?_
  show PW Γ (d + 2) vX0_firstWrong 0 [.ref 10, .ref pl, .null] [] M _
  refine PW_iconst (pc' := 1) dX0_firstWrong_0 rfl (v := nI 0) (by first | rfl | decide) ?_
  refine PW_istore2 (pc' := 2) dX0_firstWrong_1 rfl rfl rfl ?_
  exact l_X0_firstWrong hpl hH hrow 6 0 (by omega) rfl
set_option maxHeartbeats 4000000 in
theorem l_X0_takingsBy {Γ : pv_G} {d : Nat} {M : pv_M} {pl lw : Nat} {H : s_H} {r : Nat → Option Nat} (hpl : pv_lay pl = .inr (.inl (0, 6))) (hlw : lw ≤ 3) (hH : HX M H) (hrow : s_row M pl 6 H.1 r) :
    ∀ (m j : Nat), j + m = 6 → PW Γ (d + 3) vX0_takingsBy 5 [.ref 10, .ref pl, .int (nI lw), .int (nI (s_take H lw r j)), .int (nI j)] [] M (pv_fn (some (.int (nI (s_take H lw r 6)))) M) := by
  obtain ⟨hok, hc1, hc2, hc3, hf⟩ := id hH
  have hn5 := hok.1
  have hr2 : ∀ h, h < 6 → ∀ t, r h = some t → t < H.1 := fun h hh => (hrow h hh).2
  intro m
  induction m using Nat.strongRecOn with
  | ind m ih =>
    intro j hjm
    refine PW_iload4 (pc' := 7) dX0_takingsBy_5 rfl ?_
    refine PW_bipush (pc' := 9) dX0_takingsBy_7 rfl (v := nI 6) (by first | rfl | decide) ?_
    refine PW_icmp_ge (tgt := 52) (pc' := 12) dX0_takingsBy_9 rfl rfl (fun h9 => ?_) (fun h9 => ?_)
    · have hj6 : j = 6 := by have := s_bge (by omega) (by omega) h9; omega
      subst hj6
      refine PW_iload3 (pc' := 53) dX0_takingsBy_52 rfl ?_
      exact PW_ireturn .int dX0_takingsBy_53 rfl rfl ⟨rfl, rfl⟩
    · have hj6 : j < 6 := s_bnd (by omega) (by omega) h9
      refine PW_aload0 (pc' := 13) dX0_takingsBy_12 rfl ?_
      refine PW_aload1 (pc' := 14) dX0_takingsBy_13 rfl ?_
      refine PW_iload4 (pc' := 16) dX0_takingsBy_14 rfl ?_
      refine PW_ialdn (pc' := 17) dX0_takingsBy_16 rfl hpl rfl (by omega) ?_
      rw [(hrow j hj6).1]
      refine PW_callV1f (pc' := 20) dX0_takingsBy_17 rfl oX0_has lX0_22 rfl rfl rfl (Nat.le_of_ble_eq_true rfl) (c_X0_has hc1) ?_
      refine PW_if_eq (tgt := 46) (pc' := 23) dX0_takingsBy_20 rfl rfl (fun h20 => ?_) (fun h20 => ?_)
      · rw [s_has_rI hn5 (hr2 j hj6)] at h20
        have hz := s_isNone (bi_f h20)
        refine PW_iinc4 (pc' := 49) dX0_takingsBy_46 rfl rfl rfl nI_inc ?_
        refine PW_goto (tgt := 5) dX0_takingsBy_49 rfl ?_
        have e : s_take H lw r (j + 1) = s_take H lw r j := by simp [s_take, hz]
        rw [← e]
        exact ih (m - 1) (by omega) (j + 1) (by omega)
      · rw [s_has_rI hn5 (hr2 j hj6)] at h20
        obtain ⟨t, ht⟩ := s_isSome (bi_t h20)
        have htn := hr2 j hj6 t ht
        refine PW_iload3 (pc' := 24) dX0_takingsBy_23 rfl ?_
        refine PW_aload0 (pc' := 25) dX0_takingsBy_24 rfl ?_
        refine PW_aload1 (pc' := 26) dX0_takingsBy_25 rfl ?_
        refine PW_iload4 (pc' := 28) dX0_takingsBy_26 rfl ?_
        refine PW_ialdn (pc' := 29) dX0_takingsBy_28 rfl hpl rfl (by omega) ?_
        rw [(hrow j hj6).1, ht, s_rI_some]
        refine PW_iload4 (pc' := 31) dX0_takingsBy_29 rfl ?_
        refine PW_aload0 (pc' := 32) dX0_takingsBy_31 rfl ?_
        refine PW_aload1 (pc' := 33) dX0_takingsBy_32 rfl ?_
        refine PW_iload4 (pc' := 35) dX0_takingsBy_33 rfl ?_
        refine PW_iload4 (pc' := 37) dX0_takingsBy_35 rfl ?_
        refine PW_callV3f (pc' := 40) dX0_takingsBy_37 rfl oX0_casesBy lX0_29 rfl rfl rfl (Nat.le_of_ble_eq_true rfl) (c_X0_casesBy hpl (by omega) (by omega) hH (fun h hh => hrow h (by omega))) ?_
        refine PW_iload2 (pc' := 41) dX0_takingsBy_40 rfl ?_
        refine PW_callV4f (pc' := 44) dX0_takingsBy_41 rfl oX0_gain lX0_37 rfl rfl rfl (Nat.le_of_ble_eq_true rfl) (c_X0_gain htn hj6 (s_cs_lt hn5 j (fun h hh => hr2 h (by omega))) hlw hH) ?_
        refine PW_iadd (pc' := 45) dX0_takingsBy_44 rfl ?_
        rw [nI_add]
        refine PW_istore3 (pc' := 46) dX0_takingsBy_45 rfl rfl rfl ?_
        refine PW_iinc4 (pc' := 49) dX0_takingsBy_46 rfl rfl rfl nI_inc ?_
        refine PW_goto (tgt := 5) dX0_takingsBy_49 rfl ?_
        have e : s_take H lw r (j + 1) = s_take H lw r j + s_gain H lw t j (s_cs H r j j) := by simp [s_take, ht]
        rw [← e]
        exact ih (m - 1) (by omega) (j + 1) (by omega)
set_option maxHeartbeats 4000000 in
theorem c_X0_takingsBy {Γ : pv_G} {d : Nat} {M : pv_M} {pl lw : Nat} {H : s_H} {r : Nat → Option Nat} (hpl : pv_lay pl = .inr (.inl (0, 6))) (hlw : lw ≤ 3) (hH : HX M H) (hrow : s_row M pl 6 H.1 r) : Ct Γ (d + 3) vX0_takingsBy [.ref 10, .ref pl, .int (nI lw)] M (pv_fn (some (.int (nI (s_take H lw r 6)))) M) := by
  refine Ct.of oX0_takingsBy.1 rfl (pad := 2) rfl ?_
  show PW Γ (d + 3) vX0_takingsBy 0 [.ref 10, .ref pl, .int (nI lw), .null, .null] [] M _
  refine PW_iconst (pc' := 1) dX0_takingsBy_0 rfl (v := nI (s_take H lw r 0)) (by first | rfl | decide) ?_
  refine PW_istore3 (pc' := 2) dX0_takingsBy_1 rfl rfl rfl ?_
  refine PW_iconst (pc' := 3) dX0_takingsBy_2 rfl (v := nI 0) (by first | rfl | decide) ?_
  refine PW_istore4 (pc' := 5) dX0_takingsBy_3 rfl rfl rfl ?_
  exact l_X0_takingsBy hpl hlw hH hrow 6 0 (by omega)
set_option maxHeartbeats 4000000 in
theorem l_X0_missedBy {Γ : pv_G} {d : Nat} {M : pv_M} {pl : Nat} {H : s_H} {r : Nat → Option Nat} (hpl : pv_lay pl = .inr (.inl (0, 6))) (hH : HX M H) (hrow : s_row M pl 6 H.1 r) :
    ∀ (m j : Nat), j + m = 6 → PW Γ (d + 2) vX0_missedBy 4 [.ref 10, .ref pl, .int (nI (s_miss H r j)), .int (nI j)] [] M (pv_fn (some (.int (nI (s_miss H r 6)))) M) := by
  obtain ⟨hok, hc1, hc2, hc3, hf⟩ := id hH
  have hn5 := hok.1
  have hr2 : ∀ h, h < 6 → ∀ t, r h = some t → t < H.1 := fun h hh => (hrow h hh).2
  intro m
  induction m using Nat.strongRecOn with
  | ind m ih =>
    intro j hjm
    refine PW_iload3 (pc' := 5) dX0_missedBy_4 rfl ?_
    refine PW_bipush (pc' := 7) dX0_missedBy_5 rfl (v := nI 6) (by first | rfl | decide) ?_
    refine PW_icmp_ge (tgt := 37) (pc' := 10) dX0_missedBy_7 rfl rfl (fun h7 => ?_) (fun h7 => ?_)
    · have hj6 : j = 6 := by have := s_bge (by omega) (by omega) h7; omega
      subst hj6
      refine PW_iload2 (pc' := 38) dX0_missedBy_37 rfl ?_
      exact PW_ireturn .int dX0_missedBy_38 rfl rfl ⟨rfl, rfl⟩
    · have hj6 : j < 6 := s_bnd (by omega) (by omega) h7
      refine PW_aload0 (pc' := 11) dX0_missedBy_10 rfl ?_
      refine PW_aload1 (pc' := 12) dX0_missedBy_11 rfl ?_
      refine PW_iload3 (pc' := 13) dX0_missedBy_12 rfl ?_
      refine PW_ialdn (pc' := 14) dX0_missedBy_13 rfl hpl rfl (by omega) ?_
      rw [(hrow j hj6).1]
      refine PW_callV1f (pc' := 17) dX0_missedBy_14 rfl oX0_has lX0_22 rfl rfl rfl (Nat.le_of_ble_eq_true rfl) (c_X0_has hc1) ?_
      refine PW_if_eq (tgt := 31) (pc' := 20) dX0_missedBy_17 rfl rfl (fun h17 => ?_) (fun h17 => ?_)
      · rw [s_has_rI hn5 (hr2 j hj6)] at h17
        have hz := s_isNone (bi_f h17)
        refine PW_iinc3 (pc' := 34) dX0_missedBy_31 rfl rfl rfl nI_inc ?_
        refine PW_goto (tgt := 4) dX0_missedBy_34 rfl ?_
        have e : s_miss H r (j + 1) = s_miss H r j := by simp [s_miss, hz]
        rw [← e]
        exact ih (m - 1) (by omega) (j + 1) (by omega)
      · rw [s_has_rI hn5 (hr2 j hj6)] at h17
        obtain ⟨t, ht⟩ := s_isSome (bi_t h17)
        have htn := hr2 j hj6 t ht
        refine PW_iload2 (pc' := 21) dX0_missedBy_20 rfl ?_
        refine PW_aload0 (pc' := 22) dX0_missedBy_21 rfl ?_
        refine PW_aload1 (pc' := 23) dX0_missedBy_22 rfl ?_
        refine PW_iload3 (pc' := 24) dX0_missedBy_23 rfl ?_
        refine PW_ialdn (pc' := 25) dX0_missedBy_24 rfl hpl rfl (by omega) ?_
        rw [(hrow j hj6).1, ht, s_rI_some]
        refine PW_iload3 (pc' := 26) dX0_missedBy_25 rfl ?_
        refine PW_callV2f (pc' := 29) dX0_missedBy_26 rfl oX0_missedByTake lX0_41 rfl rfl rfl (Nat.le_of_ble_eq_true rfl) (c_X0_missedByTake htn hj6 hH) ?_
        refine PW_iadd (pc' := 30) dX0_missedBy_29 rfl ?_
        rw [nI_add]
        refine PW_istore2 (pc' := 31) dX0_missedBy_30 rfl rfl rfl ?_
        refine PW_iinc3 (pc' := 34) dX0_missedBy_31 rfl rfl rfl nI_inc ?_
        refine PW_goto (tgt := 4) dX0_missedBy_34 rfl ?_
        have e : s_miss H r (j + 1) = s_miss H r j + s_miss1 H t j := by simp [s_miss, ht]
        rw [← e]
        exact ih (m - 1) (by omega) (j + 1) (by omega)
set_option maxHeartbeats 4000000 in
theorem c_X0_missedBy {Γ : pv_G} {d : Nat} {M : pv_M} {pl : Nat} {H : s_H} {r : Nat → Option Nat} (hpl : pv_lay pl = .inr (.inl (0, 6))) (hH : HX M H) (hrow : s_row M pl 6 H.1 r) : Ct Γ (d + 2) vX0_missedBy [.ref 10, .ref pl] M (pv_fn (some (.int (nI (s_miss H r 6)))) M) := by
  refine Ct.of oX0_missedBy.1 rfl (pad := 2) rfl ?_
  show PW Γ (d + 2) vX0_missedBy 0 [.ref 10, .ref pl, .null, .null] [] M _
  refine PW_iconst (pc' := 1) dX0_missedBy_0 rfl (v := nI (s_miss H r 0)) (by first | rfl | decide) ?_
  refine PW_istore2 (pc' := 2) dX0_missedBy_1 rfl rfl rfl ?_
  refine PW_iconst (pc' := 3) dX0_missedBy_2 rfl (v := nI 0) (by first | rfl | decide) ?_
  refine PW_istore3 (pc' := 4) dX0_missedBy_3 rfl rfl rfl ?_
  exact l_X0_missedBy hpl hH hrow 6 0 (by omega)
/-- in which of the first k hours' takes thing t is in its case -/
def s_hic (H : s_H) (r : Nat → Option Nat) (t : Nat) : Nat → Nat
  | 0 => 0
  | k + 1 => if r k = some t then s_hic H r t k ||| s_span (H.2.2.2 3 t) k else s_hic H r t k
theorem s_hic_lt {H : s_H} {r : Nat → Option Nat} {t : Nat} : ∀ k, s_hic H r t k < 64
  | 0 => by simp [s_hic]
  | k + 1 => by
    have ih := s_hic_lt (H := H) (r := r) (t := t) k
    simp only [s_hic]
    split
    · exact (bt_orn _ ih _ (s_span_lt _ _)).2
    · exact ih
set_option maxHeartbeats 4000000 in
theorem l_X0_hoursInCase {Γ : pv_G} {d : Nat} {M : pv_M} {pl t : Nat} {H : s_H} {r : Nat → Option Nat} (hpl : pv_lay pl = .inr (.inl (0, 6))) (htn : t < H.1) (hH : HX M H) (hrow : s_row M pl 6 H.1 r) :
    ∀ (m j : Nat), j + m = 6 → PW Γ (d + 1) vX0_hoursInCase 5 [.ref 10, .ref pl, .int (nI t), .int (nI (s_hic H r t j)), .int (nI j)] [] M (pv_fn (some (.int (nI (s_hic H r t 6)))) M) := by
  obtain ⟨hok, hc1, hc2, hc3, hf⟩ := id hH
  have hn5 := hok.1
  have hr2 : ∀ h, h < 6 → ∀ t, r h = some t → t < H.1 := fun h hh => (hrow h hh).2
  intro m
  induction m using Nat.strongRecOn with
  | ind m ih =>
    intro j hjm
    refine PW_iload4 (pc' := 7) dX0_hoursInCase_5 rfl ?_
    refine PW_bipush (pc' := 9) dX0_hoursInCase_7 rfl (v := nI 6) (by first | rfl | decide) ?_
    refine PW_icmp_ge (tgt := 48) (pc' := 12) dX0_hoursInCase_9 rfl rfl (fun h9 => ?_) (fun h9 => ?_)
    · have hj6 : j = 6 := by have := s_bge (by omega) (by omega) h9; omega
      subst hj6
      refine PW_iload3 (pc' := 49) dX0_hoursInCase_48 rfl ?_
      exact PW_ireturn .int dX0_hoursInCase_49 rfl rfl ⟨rfl, rfl⟩
    · have hj6 : j < 6 := s_bnd (by omega) (by omega) h9
      refine PW_aload1 (pc' := 13) dX0_hoursInCase_12 rfl ?_
      refine PW_iload4 (pc' := 15) dX0_hoursInCase_13 rfl ?_
      refine PW_ialdn (pc' := 16) dX0_hoursInCase_15 rfl hpl rfl (by omega) ?_
      rw [(hrow j hj6).1]
      refine PW_iload2 (pc' := 17) dX0_hoursInCase_16 rfl ?_
      refine PW_icmp_ne (tgt := 42) (pc' := 20) dX0_hoursInCase_17 rfl rfl (fun h17 => ?_) (fun h17 => ?_)
      · have hz : ¬ r j = some t := fun q => h17 ((s_rI_eq hn5 htn (hr2 j hj6)).mpr q)
        refine PW_iinc4 (pc' := 45) dX0_hoursInCase_42 rfl rfl rfl nI_inc ?_
        refine PW_goto (tgt := 5) dX0_hoursInCase_45 rfl ?_
        have e : s_hic H r t (j + 1) = s_hic H r t j := by simp [s_hic, hz]
        rw [← e]
        exact ih (m - 1) (by omega) (j + 1) (by omega)
      · have hz : r j = some t := (s_rI_eq hn5 htn (hr2 j hj6)).mp h17
        refine PW_aload0 (pc' := 21) dX0_hoursInCase_20 rfl ?_
        refine PW_iload2 (pc' := 22) dX0_hoursInCase_21 rfl ?_
        refine PW_callV1f (pc' := 25) dX0_hoursInCase_22 rfl oX0_has lX0_22 rfl rfl rfl (Nat.le_of_ble_eq_true rfl) (c_X0_has hc1) ?_
        refine PW_if_eq (tgt := 42) (pc' := 28) dX0_hoursInCase_25 rfl rfl (fun h25 => ?_) (fun h25 => ?_)
        · rw [s_has_nI hn5 htn] at h25
          exact absurd h25 (by decide)
        · refine PW_iload3 (pc' := 29) dX0_hoursInCase_28 rfl ?_
          refine PW_aload0 (pc' := 30) dX0_hoursInCase_29 rfl ?_
          refine PW_getR (pc' := 33) dX0_hoursInCase_30 rfl fX0_11 rfl rfl ?_
          refine PW_iload2 (pc' := 34) dX0_hoursInCase_33 rfl ?_
          refine PW_aald3 (pc' := 35) dX0_hoursInCase_34 rfl (by omega) ?_
          refine PW_iload4 (pc' := 37) dX0_hoursInCase_35 rfl ?_
          refine PW_callV1f (pc' := 40) dX0_hoursInCase_37 rfl oX5_span lX0_45 (pv_lay_thing (by omega)) rfl rfl (Nat.le_of_ble_eq_true rfl) (c_X5_span htn hj6 hH) ?_
          refine PW_ior (pc' := 41) dX0_hoursInCase_40 rfl ?_
          rw [(bt_orn _ (s_hic_lt _) _ (s_span_lt _ _)).1]
          refine PW_istore3 (pc' := 42) dX0_hoursInCase_41 rfl rfl rfl ?_
          refine PW_iinc4 (pc' := 45) dX0_hoursInCase_42 rfl rfl rfl nI_inc ?_
          refine PW_goto (tgt := 5) dX0_hoursInCase_45 rfl ?_
          have e : s_hic H r t (j + 1) = s_hic H r t j ||| s_span (H.2.2.2 3 t) j := by simp [s_hic, hz]
          rw [← e]
          exact ih (m - 1) (by omega) (j + 1) (by omega)
set_option maxHeartbeats 4000000 in
theorem c_X0_hoursInCase {Γ : pv_G} {d : Nat} {M : pv_M} {pl t : Nat} {H : s_H} {r : Nat → Option Nat} (hpl : pv_lay pl = .inr (.inl (0, 6))) (htn : t < H.1) (hH : HX M H) (hrow : s_row M pl 6 H.1 r) : Ct Γ (d + 1) vX0_hoursInCase [.ref 10, .ref pl, .int (nI t)] M (pv_fn (some (.int (nI (s_hic H r t 6)))) M) := by
  refine Ct.of oX0_hoursInCase.1 rfl (pad := 2) rfl ?_
  show PW Γ (d + 1) vX0_hoursInCase 0 [.ref 10, .ref pl, .int (nI t), .null, .null] [] M _
  refine PW_iconst (pc' := 1) dX0_hoursInCase_0 rfl (v := nI (s_hic H r t 0)) (by first | rfl | decide) ?_
  refine PW_istore3 (pc' := 2) dX0_hoursInCase_1 rfl rfl rfl ?_
  refine PW_iconst (pc' := 3) dX0_hoursInCase_2 rfl (v := nI 0) (by first | rfl | decide) ?_
  refine PW_istore4 (pc' := 5) dX0_hoursInCase_3 rfl rfl rfl ?_
  exact l_X0_hoursInCase hpl htn hH hrow 6 0 (by omega)
end
section
/-! the class: its search -/
def fr (S : List Nat) (M M' : pv_M) : Prop := ∀ p, p ∉ S → M' p = M p
theorem fr.rf {S : List Nat} {M : pv_M} : fr S M M := fun _ _ => rfl
theorem fr.tr {S : List Nat} {M M1 M2 : pv_M} (h1 : fr S M M1) (h2 : fr S M1 M2) : fr S M M2 := fun p hp => (h2 p hp).trans (h1 p hp)
theorem fr.up {S : List Nat} {M M1 : pv_M} {p k : Nat} {v : Int32} (h : fr S M M1) (hp : p ∈ S) : fr S M (pv_up M1 p k v) := fun q hq => by
  have : q ≠ p := fun z => hq (z ▸ hp)
  rw [← h q hq]
  simp only [pv_up, pv_row, if_neg this]
theorem fr.row {S : List Nat} {M M1 : pv_M} {p : Nat} {f : Nat → Int32} (h : fr S M M1) (hp : p ∈ S) : fr S M (pv_row M1 p f) := fun q hq => by
  have : q ≠ p := fun z => hq (z ▸ hp)
  rw [← h q hq]
  simp only [pv_row, if_neg this]
theorem fr.sub {S T : List Nat} {M M' : pv_M} (h : fr S M M') (hs : ∀ p, p ∈ S → p ∈ T) : fr T M M' := fun p hp => h p (fun z => hp (hs p z))
theorem pv_up_at (M : pv_M) (p k : Nat) (v : Int32) (q j : Nat) : pv_up M p k v q j = if q = p ∧ j = k then v else M q j := by
  by_cases h1 : q = p
  · subst h1
    by_cases h2 : j = k
    · simp [pv_up, pv_row, upd, h2]
    · simp [pv_up, pv_row, upd, h2]
  · simp [pv_up, pv_row, h1]
theorem pv_row_at (M : pv_M) (p : Nat) (f : Nat → Int32) (q j : Nat) : pv_row M p f q j = if q = p then f j else M q j := by
  by_cases h1 : q = p <;> simp [pv_row, h1]
theorem HX.of {M M' : pv_M} {H : s_H} (h : HX M H) (h1 : M' 10 = M 10) (h2 : ∀ t, t < 5 → M' (12 + t) = M (12 + t)) : HX M' H := by
  obtain ⟨hok, a, b, c, e⟩ := h
  exact ⟨hok, by rw [h1]; exact a, by rw [h1]; exact b, by rw [h1]; exact c, fun t ht f hf => by rw [h2 t (Nat.lt_of_lt_of_le ht hok.1)]; exact e t ht f hf⟩
theorem HX.fr {S : List Nat} {M M' : pv_M} {H : s_H} (h : HX M H) (hf : fr S M M') (h1 : 10 ∉ S) (h2 : 12 ∉ S ∧ 13 ∉ S ∧ 14 ∉ S ∧ 15 ∉ S ∧ 16 ∉ S) : HX M' H :=
  h.of (hf 10 h1) (fun t ht => by
    match t, ht with
    | 0, _ => exact hf 12 h2.1
    | 1, _ => exact hf 13 h2.2.1
    | 2, _ => exact hf 14 h2.2.2.1
    | 3, _ => exact hf 15 h2.2.2.2.1
    | 4, _ => exact hf 16 h2.2.2.2.2)
/-! whole numbers as ints -/
def iI (z : Int) : Int32 := Int32.ofInt z
theorem iI_toInt {z : Int} (h1 : -2147483648 ≤ z) (h2 : z < 2147483648) : (iI z).toInt = z := Int32.toInt_ofInt_of_le h1 h2
theorem iI_nat {n : Nat} (h : n < 2 ^ 31) : nI n = iI (n : Int) := Int32.toInt_inj.mp (by rw [nI_toInt h, iI_toInt (by omega) (by omega)])
theorem iI_sub (a b : Int) : iI a - iI b = iI (a - b) := (Int32.ofInt_sub a b).symm
theorem iI_add (a b : Int) : iI a + iI b = iI (a + b) := (Int32.ofInt_add a b).symm
theorem iI_mul (a b : Int) : iI a * iI b = iI (a * b) := (Int32.ofInt_mul a b).symm
theorem iI_le {a b : Int} (ha : -2147483648 ≤ a ∧ a < 2147483648) (hb : -2147483648 ≤ b ∧ b < 2147483648) : iI a ≤ iI b ↔ a ≤ b := by
  rw [Int32.le_iff_toInt_le, iI_toInt ha.1 ha.2, iI_toInt hb.1 hb.2]
theorem iI_eq {a b : Int} (ha : -2147483648 ≤ a ∧ a < 2147483648) (hb : -2147483648 ≤ b ∧ b < 2147483648) : iI a = iI b ↔ a = b := by
  rw [← Int32.toInt_inj, iI_toInt ha.1 ha.2, iI_toInt hb.1 hb.2]
/-! the search's state: how many rounds, the first, the best, what it leaves, the most takings, what was seen; what it keeps to: without, most missed, must be in, must be out -/
abbrev s_S : Type := Nat × (Nat → Option Nat) × (Nat → Option Nat) × Int × Nat × (Nat → Nat)
abbrev s_K : Type := Option Nat × Nat × (Nat → Nat) × (Nat → Nat)
def SX (M : pv_M) (σ : s_S) : Prop := M 21 8 = nI σ.1 ∧ M 21 9 = iI σ.2.2.2.1 ∧ M 21 10 = nI σ.2.2.2.2.1 ∧ (σ.1 ≤ 1000000 ∧ -1000 ≤ σ.2.2.2.1 ∧ σ.2.2.2.1 ≤ 1000 ∧ σ.2.2.2.2.1 ≤ 1000) ∧ ∀ h, h < 6 → M 23 h = s_rI (σ.2.1 h) ∧ M 24 h = s_rI (σ.2.2.1 h) ∧ M 25 h = nI (σ.2.2.2.2.2 h) ∧ σ.2.2.2.2.2 h < 64
def KX (M : pv_M) (κ : s_K) : Prop := M 21 6 = s_rI κ.1 ∧ M 21 7 = nI κ.2.1 ∧ κ.2.1 ≤ 30 ∧ ∀ h, h < 6 → M 26 h = nI (κ.2.2.1 h) ∧ κ.2.2.1 h < 64 ∧ M 27 h = nI (κ.2.2.2 h) ∧ κ.2.2.2 h < 64
def s_arr (κ : s_K) (pen : Nat) (r : Nat → Option Nat) (tk ms : Nat) (σ : s_S) : s_S :=
  (σ.1 + 1, if σ.1 = 0 then r else σ.2.1, if σ.1 = 0 ∨ σ.2.2.2.1 < (tk : Int) - pen * ms then r else σ.2.2.1, if σ.1 = 0 ∨ σ.2.2.2.1 < (tk : Int) - pen * ms then (tk : Int) - pen * ms else σ.2.2.2.1, if ms ≤ κ.2.1 ∧ σ.2.2.2.2.1 < tk then tk else σ.2.2.2.2.1, σ.2.2.2.2.2)
def s_fit (κ : s_K) (h cs : Nat) : Bool := (List.range 6).all fun t => (!(κ.2.2.1 h).testBit t || cs.testBit t) && !((κ.2.2.2 h).testBit t && cs.testBit t)
theorem bt_fin : ∀ a, a < 64 → ∀ b, b < 64 → (nI a &&& (nI b ^^^ (-1)) = 0 ↔ ((List.range 6).all fun t => (!a.testBit t || b.testBit t)) = true) := by decide +kernel
theorem bt_fout : ∀ a, a < 64 → ∀ b, b < 64 → (nI a &&& nI b = 0 ↔ ((List.range 6).all fun t => !(a.testBit t && b.testBit t)) = true) := by decide +kernel
theorem s_fit_and (κ : s_K) (h cs : Nat) : s_fit κ h cs = (((List.range 6).all fun t => (!(κ.2.2.1 h).testBit t || cs.testBit t)) && ((List.range 6).all fun t => !((κ.2.2.2 h).testBit t && cs.testBit t))) := by
  rw [Bool.eq_iff_iff]
  simp only [s_fit, List.all_eq_true, Bool.and_eq_true]
  exact ⟨fun q => ⟨fun t ht => (q t ht).1, fun t ht => (q t ht).2⟩, fun q t ht => ⟨q.1 t ht, q.2 t ht⟩⟩
set_option maxHeartbeats 4000000 in
theorem c_X2_fits {Γ : pv_G} {d : Nat} {M : pv_M} {h cs : Nat} {κ : s_K} (hh : h < 6) (hcs : cs < 64) (hK : KX M κ) : Ct Γ d vX2_fits [.ref 21, .int (nI h), .int (nI cs)] M (pv_fn (some (.int (bi (s_fit κ h cs)))) M) := by
  obtain ⟨hk1, hk2, hk3, hk4⟩ := id hK
  obtain ⟨hi1, hi2, ho1, ho2⟩ := hk4 h hh
  refine Ct.of oX2_fits.1 rfl (pad := 0) rfl ?_
  show PW Γ d vX2_fits 0 [.ref 21, .int (nI h), .int (nI cs)] [] M _
  refine PW_aload0 (pc' := 1) dX2_fits_0 rfl ?_
  refine PW_getR (pc' := 4) dX2_fits_1 rfl fX2_24 rfl rfl ?_
  refine PW_iload1 (pc' := 5) dX2_fits_4 rfl ?_
  refine PW_ialdn (pc' := 6) dX2_fits_5 rfl rfl rfl (by omega) ?_
  rw [hi1]
  refine PW_iload2 (pc' := 7) dX2_fits_6 rfl ?_
  refine PW_iconst (pc' := 8) dX2_fits_7 rfl (v := -1) (by first | rfl | decide) ?_
  refine PW_ixor (pc' := 9) dX2_fits_8 rfl ?_
  refine PW_iand (pc' := 10) dX2_fits_9 rfl ?_
  refine PW_if_ne (tgt := 28) (pc' := 13) dX2_fits_10 rfl rfl (fun h10 => ?_) (fun h10 => ?_)
  · refine PW_iconst (pc' := 29) dX2_fits_28 rfl (v := 0) (by first | rfl | decide) ?_
    refine PW_ireturn .boolean dX2_fits_29 rfl (by first | rfl | exact bi_nar _) ?_
    refine ⟨?_, rfl⟩
    have q1 := bt_fin _ hi2 _ hcs
    have q2 := bt_fout _ ho2 _ hcs
    first
      | rw [bi_zero (show s_fit κ h cs = false from by rw [s_fit_and, Bool.and_eq_false_iff]; exact Or.inl (Bool.eq_false_iff.mpr (fun z => h10 (q1.mpr z))))]
      | rw [bi_zero (show s_fit κ h cs = false from by rw [s_fit_and, Bool.and_eq_false_iff]; exact Or.inr (Bool.eq_false_iff.mpr (fun z => h21 (q2.mpr z))))]
      | rw [bi_one (show s_fit κ h cs = true from by rw [s_fit_and, Bool.and_eq_true]; exact ⟨q1.mp h10, q2.mp h21⟩)]
  · refine PW_aload0 (pc' := 14) dX2_fits_13 rfl ?_
    refine PW_getR (pc' := 17) dX2_fits_14 rfl fX2_27 rfl rfl ?_
    refine PW_iload1 (pc' := 18) dX2_fits_17 rfl ?_
    refine PW_ialdn (pc' := 19) dX2_fits_18 rfl rfl rfl (by omega) ?_
    rw [ho1]
    refine PW_iload2 (pc' := 20) dX2_fits_19 rfl ?_
    refine PW_iand (pc' := 21) dX2_fits_20 rfl ?_
    refine PW_if_ne (tgt := 28) (pc' := 24) dX2_fits_21 rfl rfl (fun h21 => ?_) (fun h21 => ?_)
    · refine PW_iconst (pc' := 29) dX2_fits_28 rfl (v := 0) (by first | rfl | decide) ?_
      refine PW_ireturn .boolean dX2_fits_29 rfl (by first | rfl | exact bi_nar _) ?_
      refine ⟨?_, rfl⟩
      have q1 := bt_fin _ hi2 _ hcs
      have q2 := bt_fout _ ho2 _ hcs
      first
        | rw [bi_zero (show s_fit κ h cs = false from by rw [s_fit_and, Bool.and_eq_false_iff]; exact Or.inl (Bool.eq_false_iff.mpr (fun z => h10 (q1.mpr z))))]
        | rw [bi_zero (show s_fit κ h cs = false from by rw [s_fit_and, Bool.and_eq_false_iff]; exact Or.inr (Bool.eq_false_iff.mpr (fun z => h21 (q2.mpr z))))]
        | rw [bi_one (show s_fit κ h cs = true from by rw [s_fit_and, Bool.and_eq_true]; exact ⟨q1.mp h10, q2.mp h21⟩)]
    · refine PW_iconst (pc' := 25) dX2_fits_24 rfl (v := 1) (by first | rfl | decide) ?_
      refine PW_goto (tgt := 29) dX2_fits_25 rfl ?_
      refine PW_ireturn .boolean dX2_fits_29 rfl (by first | rfl | exact bi_nar _) ?_
      refine ⟨?_, rfl⟩
      have q1 := bt_fin _ hi2 _ hcs
      have q2 := bt_fout _ ho2 _ hcs
      first
        | rw [bi_zero (show s_fit κ h cs = false from by rw [s_fit_and, Bool.and_eq_false_iff]; exact Or.inl (Bool.eq_false_iff.mpr (fun z => h10 (q1.mpr z))))]
        | rw [bi_zero (show s_fit κ h cs = false from by rw [s_fit_and, Bool.and_eq_false_iff]; exact Or.inr (Bool.eq_false_iff.mpr (fun z => h21 (q2.mpr z))))]
        | rw [bi_one (show s_fit κ h cs = true from by rw [s_fit_and, Bool.and_eq_true]; exact ⟨q1.mp h10, q2.mp h21⟩)]
def m_a1 (M : pv_M) : pv_M := if M 21 8 = 0 then pv_row M 23 (va_cpy (M 22) (M 23) 0 0 6) else M
def m_a2 (left : Int32) (M : pv_M) : pv_M := if M 21 8 = 0 ∨ ¬ left ≤ M 21 9 then pv_row (pv_up M 21 9 left) 24 (va_cpy (M 22) (M 24) 0 0 6) else M
def m_a3 (tk ms : Int32) (M : pv_M) : pv_M := if ¬ ms > M 21 7 ∧ ¬ tk ≤ M 21 10 then pv_up M 21 10 tk else M
def m_a4 (M : pv_M) : pv_M := pv_up M 21 8 (M 21 8 + 1)
def m_arr (tk ms pen : Int32) (M : pv_M) : pv_M := m_a4 (m_a3 tk ms (m_a2 (tk - pen * ms) (m_a1 M)))
section ARR
variable {Γ : pv_G} {d : Nat} {M : pv_M} {Q : pv_Q} {tk ms pen left : Int32}
set_option maxHeartbeats 4000000 in
theorem l_X2_arrive_87 (hq : Q none (m_a4 M)) : PW Γ d vX2_arrive 87 [.ref 21, .int tk, .int ms, .int pen, .int left] [] M Q := by
  refine PW_aload0 (pc' := 88) dX2_arrive_87 rfl ?_
  refine PW_dupR (pc' := 89) dX2_arrive_88 rfl ?_
  refine PW_getI (pc' := 92) dX2_arrive_89 rfl fX2_37 rfl rfl ?_
  refine PW_iconst (pc' := 93) dX2_arrive_92 rfl (v := 1) (by first | rfl | decide) ?_
  refine PW_iadd (pc' := 94) dX2_arrive_93 rfl ?_
  refine PW_putI (pc' := 97) dX2_arrive_94 rfl fX2_37 w2_8 rfl rfl ?_
  refine PW_return dX2_arrive_97 rfl ?_
  exact hq
set_option maxHeartbeats 4000000 in
theorem l_X2_arrive_66 (hq : Q none (m_a4 (m_a3 tk ms M))) : PW Γ d vX2_arrive 66 [.ref 21, .int tk, .int ms, .int pen, .int left] [] M Q := by
  refine PW_iload2 (pc' := 67) dX2_arrive_66 rfl ?_
  refine PW_aload0 (pc' := 68) dX2_arrive_67 rfl ?_
  refine PW_getI (pc' := 71) dX2_arrive_68 rfl fX2_34 rfl rfl ?_
  refine PW_icmp_gt (tgt := 87) (pc' := 74) dX2_arrive_71 rfl rfl (fun h71 => ?_) (fun h71 => ?_)
  · have e : m_a3 tk ms M = M := if_neg (fun z => z.1 h71)
    rw [e] at hq
    exact l_X2_arrive_87 hq
  · refine PW_iload1 (pc' := 75) dX2_arrive_74 rfl ?_
    refine PW_aload0 (pc' := 76) dX2_arrive_75 rfl ?_
    refine PW_getI (pc' := 79) dX2_arrive_76 rfl fX2_43 rfl rfl ?_
    refine PW_icmp_le (tgt := 87) (pc' := 82) dX2_arrive_79 rfl rfl (fun h79 => ?_) (fun h79 => ?_)
    · have e : m_a3 tk ms M = M := if_neg (fun z => z.2 h79)
      rw [e] at hq
      exact l_X2_arrive_87 hq
    · have e : m_a3 tk ms M = pv_up M 21 10 tk := if_pos ⟨h71, h79⟩
      refine PW_aload0 (pc' := 83) dX2_arrive_82 rfl ?_
      refine PW_iload1 (pc' := 84) dX2_arrive_83 rfl ?_
      refine PW_putI (pc' := 87) dX2_arrive_84 rfl fX2_43 w2_10 rfl rfl ?_
      rw [e] at hq
      exact l_X2_arrive_87 hq
set_option maxHeartbeats 4000000 in
theorem l_X2_arrive_29 (hq : Q none (m_a4 (m_a3 tk ms (m_a2 left M)))) : PW Γ d vX2_arrive 29 [.ref 21, .int tk, .int ms, .int pen, .int left] [] M Q := by
  refine PW_aload0 (pc' := 30) dX2_arrive_29 rfl ?_
  refine PW_getI (pc' := 33) dX2_arrive_30 rfl fX2_37 rfl rfl ?_
  refine PW_if_eq (tgt := 45) (pc' := 36) dX2_arrive_33 rfl rfl (fun h33 => ?_) (fun h33 => ?_)
  · have e : m_a2 left M = pv_row (pv_up M 21 9 left) 24 (va_cpy (M 22) (M 24) 0 0 6) := if_pos (Or.inl h33)
    refine PW_aload0 (pc' := 46) dX2_arrive_45 rfl ?_
    refine PW_iload4 (pc' := 48) dX2_arrive_46 rfl ?_
    refine PW_putI (pc' := 51) dX2_arrive_48 rfl fX2_40 w2_9 rfl rfl ?_
    refine PW_aload0 (pc' := 52) dX2_arrive_51 rfl ?_
    refine PW_getR (pc' := 55) dX2_arrive_52 rfl fX2_9 rfl rfl ?_
    refine PW_iconst (pc' := 56) dX2_arrive_55 rfl (v := 0) (by first | rfl | decide) ?_
    refine PW_aload0 (pc' := 57) dX2_arrive_56 rfl ?_
    refine PW_getR (pc' := 60) dX2_arrive_57 rfl fX2_18 rfl rfl ?_
    refine PW_iconst (pc' := 61) dX2_arrive_60 rfl (v := 0) (by first | rfl | decide) ?_
    refine PW_bipush (pc' := 63) dX2_arrive_61 rfl (v := 6) (by first | rfl | decide) ?_
    refine PW_copy (pc' := 66) dX2_arrive_63 rfl lX2_46 (Nat.le_of_ble_eq_true rfl) rfl rfl (by decide) (by decide) (by decide) (by decide) (by decide) ?_
    rw [e] at hq
    exact l_X2_arrive_66 hq
  · refine PW_iload4 (pc' := 38) dX2_arrive_36 rfl ?_
    refine PW_aload0 (pc' := 39) dX2_arrive_38 rfl ?_
    refine PW_getI (pc' := 42) dX2_arrive_39 rfl fX2_40 rfl rfl ?_
    refine PW_icmp_le (tgt := 66) (pc' := 45) dX2_arrive_42 rfl rfl (fun h42 => ?_) (fun h42 => ?_)
    · have e : m_a2 left M = M := if_neg (fun z => z.elim h33 (fun y => y h42))
      rw [e] at hq
      exact l_X2_arrive_66 hq
    · have e : m_a2 left M = pv_row (pv_up M 21 9 left) 24 (va_cpy (M 22) (M 24) 0 0 6) := if_pos (Or.inr h42)
      refine PW_aload0 (pc' := 46) dX2_arrive_45 rfl ?_
      refine PW_iload4 (pc' := 48) dX2_arrive_46 rfl ?_
      refine PW_putI (pc' := 51) dX2_arrive_48 rfl fX2_40 w2_9 rfl rfl ?_
      refine PW_aload0 (pc' := 52) dX2_arrive_51 rfl ?_
      refine PW_getR (pc' := 55) dX2_arrive_52 rfl fX2_9 rfl rfl ?_
      refine PW_iconst (pc' := 56) dX2_arrive_55 rfl (v := 0) (by first | rfl | decide) ?_
      refine PW_aload0 (pc' := 57) dX2_arrive_56 rfl ?_
      refine PW_getR (pc' := 60) dX2_arrive_57 rfl fX2_18 rfl rfl ?_
      refine PW_iconst (pc' := 61) dX2_arrive_60 rfl (v := 0) (by first | rfl | decide) ?_
      refine PW_bipush (pc' := 63) dX2_arrive_61 rfl (v := 6) (by first | rfl | decide) ?_
      refine PW_copy (pc' := 66) dX2_arrive_63 rfl lX2_46 (Nat.le_of_ble_eq_true rfl) rfl rfl (by decide) (by decide) (by decide) (by decide) (by decide) ?_
      rw [e] at hq
      exact l_X2_arrive_66 hq
end ARR
set_option maxHeartbeats 4000000 in
theorem c_X2_arrive {Γ : pv_G} {d : Nat} {M : pv_M} {tk ms pen : Int32} : Ct Γ d vX2_arrive [.ref 21, .int tk, .int ms, .int pen] M (pv_fn none (m_arr tk ms pen M)) := by
  refine Ct.of oX2_arrive.1 rfl (pad := 1) rfl ?_
  show PW Γ d vX2_arrive 0 [.ref 21, .int tk, .int ms, .int pen, .null] [] M _
  refine PW_iload1 (pc' := 1) dX2_arrive_0 rfl ?_
  refine PW_iload3 (pc' := 2) dX2_arrive_1 rfl ?_
  refine PW_iload2 (pc' := 3) dX2_arrive_2 rfl ?_
  refine PW_imul (pc' := 4) dX2_arrive_3 rfl ?_
  refine PW_isub (pc' := 5) dX2_arrive_4 rfl ?_
  refine PW_istore4 (pc' := 7) dX2_arrive_5 rfl rfl rfl ?_
  refine PW_aload0 (pc' := 8) dX2_arrive_7 rfl ?_
  refine PW_getI (pc' := 11) dX2_arrive_8 rfl fX2_37 rfl rfl ?_
  refine PW_if_ne (tgt := 29) (pc' := 14) dX2_arrive_11 rfl rfl (fun h11 => ?_) (fun h11 => ?_)
  · have e : m_a1 M = M := if_neg h11
    exact l_X2_arrive_29 ⟨rfl, by rw [m_arr, e] <;> rfl⟩
  · have e : m_a1 M = pv_row M 23 (va_cpy (M 22) (M 23) 0 0 6) := if_pos h11
    refine PW_aload0 (pc' := 15) dX2_arrive_14 rfl ?_
    refine PW_getR (pc' := 18) dX2_arrive_15 rfl fX2_9 rfl rfl ?_
    refine PW_iconst (pc' := 19) dX2_arrive_18 rfl (v := 0) (by first | rfl | decide) ?_
    refine PW_aload0 (pc' := 20) dX2_arrive_19 rfl ?_
    refine PW_getR (pc' := 23) dX2_arrive_20 rfl fX2_15 rfl rfl ?_
    refine PW_iconst (pc' := 24) dX2_arrive_23 rfl (v := 0) (by first | rfl | decide) ?_
    refine PW_bipush (pc' := 26) dX2_arrive_24 rfl (v := 6) (by first | rfl | decide) ?_
    refine PW_copy (pc' := 29) dX2_arrive_26 rfl lX2_46 (Nat.le_of_ble_eq_true rfl) rfl rfl (by decide) (by decide) (by decide) (by decide) (by decide) ?_
    exact l_X2_arrive_29 ⟨rfl, by rw [m_arr, e] <;> rfl⟩
theorem va_cpy06 (f g : Nat → Int32) {h : Nat} (hh : h < 6) : va_cpy f g 0 0 6 h = f h := by simp [va_cpy, hh]
theorem m_arr_at {M : pv_M} {σ : s_S} {κ : s_K} {r : Nat → Option Nat} {tk ms pen : Nat} (htk : tk ≤ 300) (hms : ms ≤ 36) (hpen : pen ≤ 9) (hS : SX M σ) (hK : KX M κ) (hc : σ.1 < 1000000) (hr : ∀ h, h < 6 → M 22 h = s_rI (r h)) :
    SX (m_arr (nI tk) (nI ms) (nI pen) M) (s_arr κ pen r tk ms σ) ∧ KX (m_arr (nI tk) (nI ms) (nI pen) M) κ ∧ fr [21, 23, 24] M (m_arr (nI tk) (nI ms) (nI pen) M) := by
  obtain ⟨s1, s2, s3, ⟨b1, b2, b3, b4⟩, s4⟩ := id hS
  obtain ⟨k1, k2, k3, k4⟩ := id hK
  have hpm : pen * ms ≤ 9 * 36 := Nat.mul_le_mul hpen hms
  have hl : nI tk - nI pen * nI ms = iI ((tk : Int) - pen * ms) := by
    rw [iI_nat (by omega), iI_nat (n := pen) (by omega), iI_nat (n := ms) (by omega), iI_mul, iI_sub]
  have hpmz : ((pen : Int) * ms) ≤ 324 ∧ 0 ≤ (pen : Int) * ms := by
    have e : (pen : Int) * ms = ((pen * ms : Nat) : Int) := by simp
    rw [e]
    omega
  generalize hz : (tk : Int) - pen * ms = z at hl
  have hzb : -1000 ≤ z ∧ z ≤ 1000 := by omega
  simp only [m_arr]
  rw [hl]
  have c0 : (M 21 8 = 0) ↔ σ.1 = 0 := by
    rw [s1]
    exact nI_eq (b := 0) (by omega) (by omega)
  have cl : (¬ iI z ≤ iI σ.2.2.2.1) ↔ σ.2.2.2.1 < z := by
    rw [iI_le (by omega) (by omega)]
    omega
  have cm : (¬ nI ms > nI κ.2.1) ↔ ms ≤ κ.2.1 := by
    rw [gt_iff_lt, nI_ltI (by omega) (by omega)]
    omega
  have ct : (¬ nI tk ≤ nI σ.2.2.2.2.1) ↔ σ.2.2.2.2.1 < tk := by
    rw [nI_leI (by omega) (by omega)]
    omega
  -- stage 1
  have a1 : (m_a1 M) 21 = M 21 ∧ (m_a1 M) 22 = M 22 ∧ (m_a1 M) 24 = M 24 ∧ (m_a1 M) 25 = M 25 ∧ (m_a1 M) 26 = M 26 ∧ (m_a1 M) 27 = M 27 ∧ fr [21, 23, 24] M (m_a1 M) ∧ ∀ h, h < 6 → (m_a1 M) 23 h = s_rI ((if σ.1 = 0 then r else σ.2.1) h) := by
    unfold m_a1
    by_cases q : σ.1 = 0
    · rw [if_pos (c0.mpr q), if_pos q]
      refine ⟨rfl, rfl, rfl, rfl, rfl, rfl, fr.rf.row (by decide), fun h hh => ?_⟩
      rw [pv_row_at, if_pos rfl, va_cpy06 _ _ hh, hr h hh]
    · rw [if_neg (fun y => q (c0.mp y)), if_neg q]
      exact ⟨rfl, rfl, rfl, rfl, rfl, rfl, fr.rf, fun h hh => (s4 h hh).1⟩
  obtain ⟨a21, a22, a24, a25, a26, a27, afr, a23⟩ := a1
  generalize m_a1 M = M1 at a21 a22 a24 a25 a26 a27 afr a23 ⊢
  have a2 : (∀ k, k ≠ 9 → (m_a2 (iI z) M1) 21 k = M 21 k) ∧ (m_a2 (iI z) M1) 21 9 = iI (if σ.1 = 0 ∨ σ.2.2.2.1 < z then z else σ.2.2.2.1) ∧ (m_a2 (iI z) M1) 23 = M1 23 ∧ (m_a2 (iI z) M1) 25 = M 25 ∧ (m_a2 (iI z) M1) 26 = M 26 ∧ (m_a2 (iI z) M1) 27 = M 27 ∧ fr [21, 23, 24] M (m_a2 (iI z) M1) ∧ ∀ h, h < 6 → (m_a2 (iI z) M1) 24 h = s_rI ((if σ.1 = 0 ∨ σ.2.2.2.1 < z then r else σ.2.2.1) h) := by
    unfold m_a2
    rw [a21, a22, a24, s2]
    by_cases q : σ.1 = 0 ∨ σ.2.2.2.1 < z
    · rw [if_pos (q.imp c0.mpr cl.mpr), if_pos q, if_pos q]
      refine ⟨fun k hk => ?_, ?_, rfl, a25, a26, a27, (afr.up (by decide)).row (by decide), fun h hh => ?_⟩
      · rw [pv_row_at, if_neg (by decide), pv_up_at, if_neg (fun y => hk y.2), a21]
      · rw [pv_row_at, if_neg (by decide), pv_up_at, if_pos ⟨rfl, rfl⟩]
      · rw [pv_row_at, if_pos rfl, va_cpy06 _ _ hh, hr h hh]
    · rw [if_neg (fun y => q (y.imp c0.mp cl.mp)), if_neg q, if_neg q]
      exact ⟨fun k _ => by rw [a21], by rw [a21, s2], rfl, a25, a26, a27, afr, fun h hh => by rw [a24]; exact (s4 h hh).2.1⟩
  obtain ⟨d21, d9, d23, d25, d26, d27, dfr, d24⟩ := a2
  generalize m_a2 (iI z) M1 = M2 at d21 d9 d23 d25 d26 d27 dfr d24 ⊢
  have a3 : (∀ k, k ≠ 10 → (m_a3 (nI tk) (nI ms) M2) 21 k = M2 21 k) ∧ (m_a3 (nI tk) (nI ms) M2) 21 10 = nI (if ms ≤ κ.2.1 ∧ σ.2.2.2.2.1 < tk then tk else σ.2.2.2.2.1) ∧ (∀ p, p ≠ 21 → (m_a3 (nI tk) (nI ms) M2) p = M2 p) := by
    unfold m_a3
    rw [d21 7 (by decide), d21 10 (by decide), k2, s3]
    by_cases q : ms ≤ κ.2.1 ∧ σ.2.2.2.2.1 < tk
    · rw [if_pos ⟨cm.mpr q.1, ct.mpr q.2⟩, if_pos q]
      refine ⟨fun k hk => ?_, ?_, fun p hp => ?_⟩
      · rw [pv_up_at, if_neg (fun y => hk y.2)]
      · rw [pv_up_at, if_pos ⟨rfl, rfl⟩]
      · simp only [pv_up, pv_row, if_neg hp]
    · rw [if_neg (fun y => q ⟨cm.mp y.1, ct.mp y.2⟩), if_neg q]
      exact ⟨fun k _ => rfl, by rw [d21 10 (by decide), s3], fun p _ => rfl⟩
  obtain ⟨e21, e10, ep⟩ := a3
  generalize m_a3 (nI tk) (nI ms) M2 = M3 at e21 e10 ep ⊢
  have f21 : ∀ k, k ≠ 8 → (m_a4 M3) 21 k = M3 21 k := fun k hk => by rw [m_a4, pv_up_at, if_neg (fun y => hk y.2)]
  have f8 : (m_a4 M3) 21 8 = nI (σ.1 + 1) := by
    rw [m_a4, pv_up_at, if_pos ⟨rfl, rfl⟩, e21 8 (by decide), d21 8 (by decide), s1]
    exact nI_1 _
  have fp : ∀ p, p ≠ 21 → (m_a4 M3) p = M3 p := fun p hp => by simp only [m_a4, pv_up, pv_row, if_neg hp]
  have g : ∀ p, p ≠ 21 → (m_a4 M3) p = M2 p := fun p hp => (fp p hp).trans (ep p hp)
  refine ⟨⟨f8, ?_, ?_, ⟨?_, ?_, ?_, ?_⟩, fun h hh => ⟨?_, ?_, ?_, ?_⟩⟩, ⟨?_, ?_, k3, fun h hh => ⟨?_, (k4 h hh).2.1, ?_, (k4 h hh).2.2.2⟩⟩, fun p hp => ?_⟩
  · rw [f21 9 (by decide), e21 9 (by decide), d9]
    simp only [s_arr, hz]
  · rw [f21 10 (by decide), e10]
    simp only [s_arr]
  · show σ.1 + 1 ≤ 1000000
    omega
  · simp only [s_arr, hz]
    split <;> omega
  · simp only [s_arr, hz]
    split <;> omega
  · simp only [s_arr]
    split <;> omega
  · rw [g 23 (by decide), d23, a23 h hh]
    simp only [s_arr]
  · rw [g 24 (by decide), d24 h hh]
    simp only [s_arr, hz]
  · rw [g 25 (by decide), d25]
    exact (s4 h hh).2.2.1
  · exact (s4 h hh).2.2.2
  · rw [f21 6 (by decide), e21 6 (by decide), d21 6 (by decide), k1]
  · rw [f21 7 (by decide), e21 7 (by decide), d21 7 (by decide), k2]
  · rw [g 26 (by decide), d26]
    exact (k4 h hh).1
  · rw [g 27 (by decide), d27]
    exact (k4 h hh).2.2.1
  · have hp21 : p ≠ 21 := fun z => hp (by rw [z]; decide)
    rw [g p hp21]
    exact dfr p hp
def m_note (b : Nat) (σ : s_S) (M : pv_M) (h t : Nat) : pv_M := if b < σ.1 then pv_up M 25 h (nI (σ.2.2.2.2.2 h ||| 2 ^ t)) else M
set_option maxHeartbeats 4000000 in
theorem c_X2_note {Γ : pv_G} {d : Nat} {M : pv_M} {h t b : Nat} {σ : s_S} (hh : h < 6) (ht : t < 6) (hb : b ≤ 1000000) (hS : SX M σ) : Ct Γ d vX2_note [.ref 21, .int (nI h), .int (nI t), .int (nI b)] M (pv_fn none (m_note b σ M h t)) := by
  obtain ⟨s1, s2, s3, ⟨b1, b2, b3, b4⟩, s4⟩ := id hS
  obtain ⟨-, -, s5, s6⟩ := s4 h hh
  refine Ct.of oX2_note.1 rfl (pad := 0) rfl ?_
  show PW Γ d vX2_note 0 [.ref 21, .int (nI h), .int (nI t), .int (nI b)] [] M _
  refine PW_aload0 (pc' := 1) dX2_note_0 rfl ?_
  refine PW_getI (pc' := 4) dX2_note_1 rfl fX2_37 rfl rfl ?_
  rw [s1]
  refine PW_iload3 (pc' := 5) dX2_note_4 rfl ?_
  refine PW_icmp_le (tgt := 20) (pc' := 8) dX2_note_5 rfl rfl (fun h5 => ?_) (fun h5 => ?_)
  · refine PW_return dX2_note_20 rfl ?_
    first
      | (rw [nI_leI (by omega) (by omega)] at h5; exact ⟨rfl, by rw [m_note, if_neg (by omega)]⟩)
      | (rw [nI_leI (by omega) (by omega)] at h5; exact ⟨rfl, by rw [m_note, if_pos (by omega)]⟩)
  · refine PW_aload0 (pc' := 9) dX2_note_8 rfl ?_
    refine PW_getR (pc' := 12) dX2_note_9 rfl fX2_21 rfl rfl ?_
    refine PW_iload1 (pc' := 13) dX2_note_12 rfl ?_
    refine PW_dup2IR (pc' := 14) dX2_note_13 rfl ?_
    refine PW_ialdn (pc' := 15) dX2_note_14 rfl rfl rfl (by omega) ?_
    rw [s5]
    refine PW_iconst (pc' := 16) dX2_note_15 rfl (v := 1) (by first | rfl | decide) ?_
    refine PW_iload2 (pc' := 17) dX2_note_16 rfl ?_
    refine PW_ishl (pc' := 18) dX2_note_17 rfl ?_
    refine PW_ior (pc' := 19) dX2_note_18 rfl ?_
    rw [(bt_or _ s6 t ht).1]
    refine PW_iastn (pc' := 20) dX2_note_19 rfl rfl rfl (by omega) ?_
    refine PW_return dX2_note_20 rfl ?_
    first
      | (rw [nI_leI (by omega) (by omega)] at h5; exact ⟨rfl, by rw [m_note, if_neg (by omega)]⟩)
      | (rw [nI_leI (by omega) (by omega)] at h5; exact ⟨rfl, by rw [m_note, if_pos (by omega)]⟩)
def s_S0 : s_S := (0, fun _ => none, fun _ => none, 0, 0, fun _ => 0)
def s_K0 : s_K := (none, 30, fun _ => 0, fun _ => 0)
set_option maxHeartbeats 4000000 in
theorem l_X2_clear {Γ : pv_G} {d : Nat} {M0 : pv_M} : ∀ (m j : Nat) (M : pv_M), j + m = 6 → fr [21, 22, 23, 24, 25, 26, 27] M0 M → (∀ h, h < j → M 23 h = -9 ∧ M 24 h = -9 ∧ M 25 h = 0 ∧ M 26 h = 0 ∧ M 27 h = 0) →
    PW Γ d vX2_clear 2 [.ref 21, .int (nI j)] [] M (fun r M' => r = none ∧ (SX M' s_S0 ∧ KX M' s_K0 ∧ fr [21, 22, 23, 24, 25, 26, 27] M0 M')) := by
  intro m
  induction m using Nat.strongRecOn with
  | ind m ih =>
    intro j M hjm hfr hall
    refine PW_iload1 (pc' := 3) dX2_clear_2 rfl ?_
    refine PW_bipush (pc' := 5) dX2_clear_3 rfl (v := nI 6) (by first | rfl | decide) ?_
    refine PW_icmp_ge (tgt := 59) (pc' := 8) dX2_clear_5 rfl rfl (fun h5 => ?_) (fun h5 => ?_)
    · have hj6 : j = 6 := by have := s_bge (by omega) (by omega) h5; omega
      subst hj6
      refine PW_aload0 (pc' := 60) dX2_clear_59 rfl ?_
      refine PW_bipush (pc' := 62) dX2_clear_60 rfl (v := -9) (by first | rfl | decide) ?_
      refine PW_putI (pc' := 65) dX2_clear_62 rfl fX2_30 w2_6 rfl rfl ?_
      refine PW_aload0 (pc' := 66) dX2_clear_65 rfl ?_
      refine PW_bipush (pc' := 68) dX2_clear_66 rfl (v := 30) (by first | rfl | decide) ?_
      refine PW_putI (pc' := 71) dX2_clear_68 rfl fX2_34 w2_7 rfl rfl ?_
      refine PW_aload0 (pc' := 72) dX2_clear_71 rfl ?_
      refine PW_iconst (pc' := 73) dX2_clear_72 rfl (v := 0) (by first | rfl | decide) ?_
      refine PW_putI (pc' := 76) dX2_clear_73 rfl fX2_37 w2_8 rfl rfl ?_
      refine PW_aload0 (pc' := 77) dX2_clear_76 rfl ?_
      refine PW_iconst (pc' := 78) dX2_clear_77 rfl (v := 0) (by first | rfl | decide) ?_
      refine PW_putI (pc' := 81) dX2_clear_78 rfl fX2_40 w2_9 rfl rfl ?_
      refine PW_aload0 (pc' := 82) dX2_clear_81 rfl ?_
      refine PW_iconst (pc' := 83) dX2_clear_82 rfl (v := 0) (by first | rfl | decide) ?_
      refine PW_putI (pc' := 86) dX2_clear_83 rfl fX2_43 w2_10 rfl rfl ?_
      refine PW_return dX2_clear_86 rfl ?_
      refine ⟨rfl, ⟨?_, ?_, ?_, by decide, fun h hh => ⟨?_, ?_, ?_, by show (0 : Nat) < 64; decide⟩⟩, ⟨?_, ?_, by decide, fun h hh => ⟨?_, by show (0 : Nat) < 64; decide, ?_, by show (0 : Nat) < 64; decide⟩⟩, ?_⟩
      · simp [pv_up_at]; rfl
      · simp [pv_up_at]; rfl
      · simp [pv_up_at]; rfl
      · simp [pv_up_at, (hall h hh).1]; rfl
      · simp [pv_up_at, (hall h hh).2.1]; rfl
      · simp [pv_up_at, (hall h hh).2.2.1]; rfl
      · simp [pv_up_at]; rfl
      · simp [pv_up_at]; rfl
      · simp [pv_up_at, (hall h hh).2.2.2.1]; rfl
      · simp [pv_up_at, (hall h hh).2.2.2.2]; rfl
      · exact ((((hfr.up (by decide)).up (by decide)).up (by decide)).up (by decide)).up (by decide)
    · have hj6 : j < 6 := s_bnd (by omega) (by omega) h5
      refine PW_aload0 (pc' := 9) dX2_clear_8 rfl ?_
      refine PW_getR (pc' := 12) dX2_clear_9 rfl fX2_9 rfl rfl ?_
      refine PW_iload1 (pc' := 13) dX2_clear_12 rfl ?_
      refine PW_bipush (pc' := 15) dX2_clear_13 rfl (v := -9) (by first | rfl | decide) ?_
      refine PW_iastn (pc' := 16) dX2_clear_15 rfl rfl rfl (by omega) ?_
      refine PW_aload0 (pc' := 17) dX2_clear_16 rfl ?_
      refine PW_getR (pc' := 20) dX2_clear_17 rfl fX2_15 rfl rfl ?_
      refine PW_iload1 (pc' := 21) dX2_clear_20 rfl ?_
      refine PW_bipush (pc' := 23) dX2_clear_21 rfl (v := -9) (by first | rfl | decide) ?_
      refine PW_iastn (pc' := 24) dX2_clear_23 rfl rfl rfl (by omega) ?_
      refine PW_aload0 (pc' := 25) dX2_clear_24 rfl ?_
      refine PW_getR (pc' := 28) dX2_clear_25 rfl fX2_18 rfl rfl ?_
      refine PW_iload1 (pc' := 29) dX2_clear_28 rfl ?_
      refine PW_bipush (pc' := 31) dX2_clear_29 rfl (v := -9) (by first | rfl | decide) ?_
      refine PW_iastn (pc' := 32) dX2_clear_31 rfl rfl rfl (by omega) ?_
      refine PW_aload0 (pc' := 33) dX2_clear_32 rfl ?_
      refine PW_getR (pc' := 36) dX2_clear_33 rfl fX2_21 rfl rfl ?_
      refine PW_iload1 (pc' := 37) dX2_clear_36 rfl ?_
      refine PW_iconst (pc' := 38) dX2_clear_37 rfl (v := 0) (by first | rfl | decide) ?_
      refine PW_iastn (pc' := 39) dX2_clear_38 rfl rfl rfl (by omega) ?_
      refine PW_aload0 (pc' := 40) dX2_clear_39 rfl ?_
      refine PW_getR (pc' := 43) dX2_clear_40 rfl fX2_24 rfl rfl ?_
      refine PW_iload1 (pc' := 44) dX2_clear_43 rfl ?_
      refine PW_iconst (pc' := 45) dX2_clear_44 rfl (v := 0) (by first | rfl | decide) ?_
      refine PW_iastn (pc' := 46) dX2_clear_45 rfl rfl rfl (by omega) ?_
      refine PW_aload0 (pc' := 47) dX2_clear_46 rfl ?_
      refine PW_getR (pc' := 50) dX2_clear_47 rfl fX2_27 rfl rfl ?_
      refine PW_iload1 (pc' := 51) dX2_clear_50 rfl ?_
      refine PW_iconst (pc' := 52) dX2_clear_51 rfl (v := 0) (by first | rfl | decide) ?_
      refine PW_iastn (pc' := 53) dX2_clear_52 rfl rfl rfl (by omega) ?_
      refine PW_iinc1 (pc' := 56) dX2_clear_53 rfl rfl rfl nI_inc ?_
      refine PW_goto (tgt := 2) dX2_clear_56 rfl ?_
      refine ih (m - 1) (by omega) (j + 1) _ (by omega) ?_ (fun h hh => ?_)
      · exact (((((hfr.up (by decide)).up (by decide)).up (by decide)).up (by decide)).up (by decide)).up (by decide)
      · by_cases hq : h = j
        · subst hq
          simp [pv_up_at]
        · have := hall h (by omega)
          simp [pv_up_at, hq, this]
set_option maxHeartbeats 4000000 in
theorem c_X2_clear {Γ : pv_G} {d : Nat} {M : pv_M}  : Ct Γ d vX2_clear [.ref 21] M (fun r M' => r = none ∧ (SX M' s_S0 ∧ KX M' s_K0 ∧ fr [21, 22, 23, 24, 25, 26, 27] M M')) := by
  refine Ct.of oX2_clear.1 rfl (pad := 1) rfl ?_
  show PW Γ d vX2_clear 0 [.ref 21, .null] [] M _
  refine PW_iconst (pc' := 1) dX2_clear_0 rfl (v := nI 0) (by first | rfl | decide) ?_
  refine PW_istore1 (pc' := 2) dX2_clear_1 rfl rfl rfl ?_
  exact l_X2_clear 6 0 M (by omega) fr.rf (fun h hh => absurd hh (Nat.not_lt_zero h))
end
section
/-! the class: its walk through all rounds -/
def s_ext (p : Nat → Option Nat) (h : Nat) (o : Option Nat) : Nat → Option Nat := fun x => if x = h then o else p x
def s_note (h t b : Nat) (σ : s_S) : s_S := if b < σ.1 then (σ.1, σ.2.1, σ.2.2.1, σ.2.2.2.1, σ.2.2.2.2.1, fun x => if x = h then σ.2.2.2.2.2 h ||| 2 ^ t else σ.2.2.2.2.2 x) else σ
/-- one thing more in hour h, where it can be -/
def s_one (W : (Nat → Option Nat) → Nat → Nat → s_S → s_S) (H : s_H) (κ : s_K) (p : Nat → Option Nat) (h tk ms cs t : Nat) (σ : s_S) : s_S :=
  if κ.1 ≠ some t ∧ cs.testBit t = false ∧ s_fit κ h (cs ||| 2 ^ t) = true then s_note h t σ.1 (W (s_ext p h (some t)) (tk + s_gain H H.2.2.1 t h cs) (ms + s_miss1 H t h) σ) else σ
def s_non (W : (Nat → Option Nat) → Nat → Nat → s_S → s_S) (κ : s_K) (p : Nat → Option Nat) (h tk ms cs : Nat) (σ : s_S) : s_S :=
  if s_fit κ h cs = true then s_note h 5 σ.1 (W (s_ext p h none) tk ms σ) else σ
def s_all (W : (Nat → Option Nat) → Nat → Nat → s_S → s_S) (H : s_H) (κ : s_K) (p : Nat → Option Nat) (h tk ms : Nat) (σ : s_S) (j : Nat) : s_S :=
  (List.range j).foldl (fun σ t => s_one W H κ p h tk ms (s_cs H p h h) t σ) (s_non W κ p h tk ms (s_cs H p h h) σ)
def s_walk (H : s_H) (κ : s_K) : Nat → (Nat → Option Nat) → Nat → Nat → s_S → s_S
  | 0 => fun p tk ms σ => s_arr κ H.2.1 p tk ms σ
  | m + 1 => fun p tk ms σ => s_all (s_walk H κ m) H κ p (5 - m) tk ms σ H.1
theorem s_all_succ (W : (Nat → Option Nat) → Nat → Nat → s_S → s_S) (H : s_H) (κ : s_K) (p : Nat → Option Nat) (h tk ms : Nat) (σ : s_S) (j : Nat) : s_all W H κ p h tk ms σ (j + 1) = s_one W H κ p h tk ms (s_cs H p h h) j (s_all W H κ p h tk ms σ j) := by
  simp [s_all, List.range_succ, List.foldl_append]
theorem s_note_1 (h t b : Nat) (σ : s_S) : (s_note h t b σ).1 = σ.1 := by
  unfold s_note
  split <;> rfl
theorem s_all_cnt {W : (Nat → Option Nat) → Nat → Nat → s_S → s_S} {c : Nat} (hW : ∀ p tk ms σ, (W p tk ms σ).1 ≤ σ.1 + c) (H : s_H) (κ : s_K) (p : Nat → Option Nat) (h tk ms : Nat) (σ : s_S) : ∀ j, (s_all W H κ p h tk ms σ j).1 ≤ σ.1 + (j + 1) * c
  | 0 => by
    have := hW (s_ext p h none) tk ms σ
    simp only [s_all, List.range_zero, List.foldl_nil, s_non]
    split
    · rw [s_note_1]; omega
    · omega
  | j + 1 => by
    have ih := s_all_cnt hW H κ p h tk ms σ j
    rw [s_all_succ]
    generalize s_all W H κ p h tk ms σ j = σ1 at ih
    have e : (j + 1 + 1) * c = (j + 1) * c + c := by rw [Nat.add_mul (j + 1) 1 c, Nat.one_mul]
    unfold s_one
    split
    · rw [s_note_1]
      have := hW (s_ext p h (some j)) (tk + s_gain H H.2.2.1 j h (s_cs H p h h)) (ms + s_miss1 H j h) σ1
      omega
    · omega
theorem s_walk_cnt {H : s_H} (hn : H.1 ≤ 5) (κ : s_K) : ∀ m p tk ms σ, (s_walk H κ m p tk ms σ).1 ≤ σ.1 + 6 ^ m
  | 0, p, tk, ms, σ => by simp [s_walk, s_arr]
  | m + 1, p, tk, ms, σ => by
    have h := s_all_cnt (s_walk_cnt hn κ m) H κ p (5 - m) tk ms σ H.1
    simp only [s_walk]
    have e : (H.1 + 1) * 6 ^ m ≤ 6 * 6 ^ m := Nat.mul_le_mul_right _ (by omega)
    have e2 : 6 ^ (m + 1) = 6 * 6 ^ m := by rw [Nat.pow_succ, Nat.mul_comm]
    omega
theorem SX.fr {S : List Nat} {M M' : pv_M} {σ : s_S} (h : SX M σ) (hf : fr S M M') (h1 : 21 ∉ S ∧ 23 ∉ S ∧ 24 ∉ S ∧ 25 ∉ S) : SX M' σ := by
  obtain ⟨a, b, c, e, g⟩ := h
  refine ⟨by rw [hf 21 h1.1]; exact a, by rw [hf 21 h1.1]; exact b, by rw [hf 21 h1.1]; exact c, e, fun x hx => ?_⟩
  rw [hf 23 h1.2.1, hf 24 h1.2.2.1, hf 25 h1.2.2.2]
  exact g x hx
theorem KX.fr {S : List Nat} {M M' : pv_M} {κ : s_K} (h : KX M κ) (hf : fr S M M') (h1 : 21 ∉ S ∧ 26 ∉ S ∧ 27 ∉ S) : KX M' κ := by
  obtain ⟨a, b, c, e⟩ := h
  refine ⟨by rw [hf 21 h1.1]; exact a, by rw [hf 21 h1.1]; exact b, c, fun x hx => ?_⟩
  rw [hf 26 h1.2.1, hf 27 h1.2.2]
  exact e x hx
theorem m_note_fr {b : Nat} {σ : s_S} {M : pv_M} {h t : Nat} : fr [25] M (m_note b σ M h t) := by
  unfold m_note
  split
  · exact fr.rf.up (by decide)
  · exact fr.rf
theorem SX.note {M : pv_M} {σ : s_S} {h t b : Nat} (hS : SX M σ) (hh : h < 6) (ht : t < 6) : SX (m_note b σ M h t) (s_note h t b σ) := by
  unfold m_note s_note
  split
  · obtain ⟨a, b, c, e, g⟩ := hS
    refine ⟨by simpa [pv_up_at] using a, by simpa [pv_up_at] using b, by simpa [pv_up_at] using c, e, fun x hx => ?_⟩
    obtain ⟨g1, g2, g3, g4⟩ := g x hx
    refine ⟨by simpa [pv_up_at] using g1, by simpa [pv_up_at] using g2, ?_, ?_⟩
    · by_cases hxh : x = h
      · subst hxh
        simp [pv_up_at]
      · simpa [pv_up_at, hxh] using g3
    · by_cases hxh : x = h
      · subst hxh
        simpa using (bt_or _ g4 t ht).2
      · simpa [hxh] using g4
  · exact hS
/-- what a walk from hour h on leaves -/
def s_post (H : s_H) (κ : s_K) (M : pv_M) (h : Nat) (σ : s_S) : pv_M → Prop := fun M' => SX M' σ ∧ KX M' κ ∧ fr [21, 22, 23, 24, 25] M M' ∧ ∀ x, x < h → M' 22 x = M 22 x
set_option maxHeartbeats 4000000 in
/-- the walk from hour h on (h + m = 6), given that of one hour less -/
theorem l_X6_walk {Γ : pv_G} {H : s_H} {κ : s_K} (hok : s_ok H) (hwo : ∀ x, κ.1 = some x → x < H.1) {m d h tk ms : Nat} {p : Nat → Option Nat} {σ : s_S} {M : pv_M} (hm : h + (m + 1) = 6) (htk : tk ≤ 45 * h) (hms : ms ≤ 6 * h) (hcnt : σ.1 + 6 ^ (m + 1) ≤ 1000000)
    (IH : ∀ (M : pv_M) (p : Nat → Option Nat) (tk ms : Nat) (σ : s_S), HX M H → KX M κ → SX M σ → s_row M 22 (h + 1) H.1 p → σ.1 + 6 ^ m ≤ 1000000 → tk ≤ 45 * (h + 1) → ms ≤ 6 * (h + 1) →
      Ct Γ (d + m + 3) vX6_walk [.ref 21, .ref 10, .int (nI (h + 1)), .int (nI tk), .int (nI ms)] M (fun r M' => r = none ∧ s_post H κ M (h + 1) (s_walk H κ m p tk ms σ) M')) (hp : ∀ x, x < h → ∀ t, p x = some t → t < H.1) (hrow0 : ∀ x, x < h → M 22 x = s_rI (p x)) :
    ∀ (q j : Nat) (M1 : pv_M) (x7 : Value), j + q = H.1 → HX M1 H → s_post H κ M h (s_all (s_walk H κ m) H κ p h tk ms σ j) M1 →
    PW Γ (d + m + 3 + 1) vX6_walk 76 [.ref 21, .ref 10, .int (nI h), .int (nI tk), .int (nI ms), .int (nI (s_cs H p h h)), .int (nI j), x7] [] M1 (fun r M' => r = none ∧ s_post H κ M h (s_all (s_walk H κ m) H κ p h tk ms σ H.1) M') := by
  have hn5 := hok.1
  have hcs : s_cs H p h h < 64 := s_cs_lt hn5 h hp
  intro q
  induction q using Nat.strongRecOn with
  | ind q ih =>
    intro j M1 x7 hjq hH hpost
    obtain ⟨hS, hK, hF, hR⟩ := id hpost
    obtain ⟨-, hc1, hc2, hc3, hf⟩ := id hH
    obtain ⟨s1, -, -, ⟨s0, -⟩, -⟩ := id hS
    obtain ⟨k1, -⟩ := id hK
    have hcj := s_all_cnt (s_walk_cnt hn5 κ m) H κ p h tk ms σ j
    have e6 : 6 ^ (m + 1) = 6 * 6 ^ m := by rw [Nat.pow_succ, Nat.mul_comm]
    generalize hσj : s_all (s_walk H κ m) H κ p h tk ms σ j = σj at *
    refine PW_iload6 (pc' := 78) dX6_walk_76 rfl ?_
    refine PW_aload1 (pc' := 79) dX6_walk_78 rfl ?_
    refine PW_getI (pc' := 82) dX6_walk_79 rfl fX6_78 rfl rfl ?_
    rw [hc1]
    refine PW_icmp_ge (tgt := 181) (pc' := 85) dX6_walk_82 rfl rfl (fun h82 => ?_) (fun h82 => ?_)
    · have hj : j = H.1 := by have := s_bge (by omega) (by omega) h82; omega
      subst hj
      refine PW_return dX6_walk_181 rfl ⟨rfl, ?_⟩
      rw [hσj]
      exact hpost
    · have hj : j < H.1 := s_bnd (by omega) (by omega) h82
      refine PW_iload6 (pc' := 87) dX6_walk_85 rfl ?_
      refine PW_aload0 (pc' := 88) dX6_walk_87 rfl ?_
      refine PW_getI (pc' := 91) dX6_walk_88 rfl fX6_237 rfl rfl ?_
      rw [k1]
      refine PW_icmp_eq (tgt := 175) (pc' := 94) dX6_walk_91 rfl rfl (fun h91 => ?_) (fun h91 => ?_)
      · refine PW_iinc6 (pc' := 178) dX6_walk_175 rfl rfl rfl nI_inc ?_
        refine PW_goto (tgt := 76) dX6_walk_178 rfl ?_
        refine ih (q - 1) (by omega) (j + 1) M1 _ (by omega) hH ?_
        rw [s_all_succ, hσj, s_one, if_neg (fun z => z.1 ((s_rI_eq hn5 hj hwo).mp h91.symm))]
        exact hpost
      · have q1 : κ.1 ≠ some j := fun z => h91 ((s_rI_eq hn5 hj hwo).mpr z).symm
        refine PW_iload5 (pc' := 96) dX6_walk_94 rfl ?_
        refine PW_iload6 (pc' := 98) dX6_walk_96 rfl ?_
        refine PW_callS2f (pc' := 101) dX6_walk_98 rfl oX6_isIn lX6_161 (Nat.le_of_ble_eq_true rfl) (c_X6_isIn hcs (by omega)) ?_
        refine PW_if_ne (tgt := 175) (pc' := 104) dX6_walk_101 rfl rfl (fun h101 => ?_) (fun h101 => ?_)
        · refine PW_iinc6 (pc' := 178) dX6_walk_175 rfl rfl rfl nI_inc ?_
          refine PW_goto (tgt := 76) dX6_walk_178 rfl ?_
          refine ih (q - 1) (by omega) (j + 1) M1 _ (by omega) hH ?_
          rw [s_all_succ, hσj, s_one, if_neg (fun z => by have := bi_t h101; rw [z.2.1] at this; cases this)]
          exact hpost
        · have q2 := bi_f h101
          refine PW_aload0 (pc' := 105) dX6_walk_104 rfl ?_
          refine PW_iload2 (pc' := 106) dX6_walk_105 rfl ?_
          refine PW_iload5 (pc' := 108) dX6_walk_106 rfl ?_
          refine PW_iconst (pc' := 109) dX6_walk_108 rfl (v := 1) (by first | rfl | decide) ?_
          refine PW_iload6 (pc' := 111) dX6_walk_109 rfl ?_
          refine PW_ishl (pc' := 112) dX6_walk_111 rfl ?_
          rw [bt_one j (by omega)]
          refine PW_ior (pc' := 113) dX6_walk_112 rfl ?_
          rw [(bt_orn _ hcs _ (Nat.pow_lt_pow_right (by decide) (show j < 6 by omega))).1]
          refine PW_callV2f (pc' := 116) dX6_walk_113 rfl oX2_fits lX6_251 rfl rfl rfl (Nat.le_of_ble_eq_true rfl) (c_X2_fits (by omega) ((bt_or _ hcs j (by omega)).2) hK) ?_
          refine PW_if_eq (tgt := 175) (pc' := 119) dX6_walk_116 rfl rfl (fun h116 => ?_) (fun h116 => ?_)
          · refine PW_iinc6 (pc' := 178) dX6_walk_175 rfl rfl rfl nI_inc ?_
            refine PW_goto (tgt := 76) dX6_walk_178 rfl ?_
            refine ih (q - 1) (by omega) (j + 1) M1 _ (by omega) hH ?_
            rw [s_all_succ, hσj, s_one, if_neg (fun z => by have := bi_f h116; rw [z.2.2] at this; cases this)]
            exact hpost
          · have q3 := bi_t h116
            refine PW_aload0 (pc' := 120) dX6_walk_119 rfl ?_
            refine PW_getI (pc' := 123) dX6_walk_120 rfl fX6_175 rfl rfl ?_
            rw [s1]
            refine PW_istore7 (pc' := 125) dX6_walk_123 rfl rfl rfl ?_
            refine PW_aload0 (pc' := 126) dX6_walk_125 rfl ?_
            refine PW_getR (pc' := 129) dX6_walk_126 rfl fX6_248 rfl rfl ?_
            refine PW_iload2 (pc' := 130) dX6_walk_129 rfl ?_
            refine PW_iload6 (pc' := 132) dX6_walk_130 rfl ?_
            refine PW_iastn (pc' := 133) dX6_walk_132 rfl rfl rfl (by omega) ?_
            have hrw : s_row (pv_up M1 22 h (nI j)) 22 (h + 1) H.1 (s_ext p h (some j)) := by
              intro x hx
              by_cases hxh : x = h
              · subst hxh
                exact ⟨by simp [pv_up_at, s_ext, s_rI], fun t ht => by simp [s_ext] at ht; omega⟩
              · refine ⟨?_, fun t ht => hp x (by omega) t (by simpa [s_ext, hxh] using ht)⟩
                rw [pv_up_at, if_neg (by omega), hR x (by omega), hrow0 x (by omega)]
                simp [s_ext, hxh]
            refine PW_aload0 (pc' := 134) dX6_walk_133 rfl ?_
            refine PW_aload1 (pc' := 135) dX6_walk_134 rfl ?_
            refine PW_iload2 (pc' := 136) dX6_walk_135 rfl ?_
            refine PW_iconst (pc' := 137) dX6_walk_136 rfl (v := 1) (by first | rfl | decide) ?_
            refine PW_iadd (pc' := 138) dX6_walk_137 rfl ?_
            rw [nI_1]
            refine PW_iload3 (pc' := 139) dX6_walk_138 rfl ?_
            refine PW_aload1 (pc' := 140) dX6_walk_139 rfl ?_
            refine PW_iload6 (pc' := 142) dX6_walk_140 rfl ?_
            refine PW_iload2 (pc' := 143) dX6_walk_142 rfl ?_
            refine PW_iload5 (pc' := 145) dX6_walk_143 rfl ?_
            refine PW_aload1 (pc' := 146) dX6_walk_145 rfl ?_
            refine PW_getI (pc' := 149) dX6_walk_146 rfl fX6_114 rfl rfl ?_
            rw [show (pv_up M1 22 h (nI j)) 10 3 = nI H.2.2.1 from hc3]
            refine PW_callV4f (pc' := 152) dX6_walk_149 rfl oX0_gain lX6_257 rfl rfl rfl (Nat.le_of_ble_eq_true rfl) (c_X0_gain hj (by omega) hcs hok.2.2.1 (hH.fr (S := [22]) (fr.rf.up (by decide)) (by decide) (by decide))) ?_
            refine PW_iadd (pc' := 153) dX6_walk_152 rfl ?_
            rw [nI_add]
            refine PW_iload4 (pc' := 155) dX6_walk_153 rfl ?_
            refine PW_aload1 (pc' := 156) dX6_walk_155 rfl ?_
            refine PW_iload6 (pc' := 158) dX6_walk_156 rfl ?_
            refine PW_iload2 (pc' := 159) dX6_walk_158 rfl ?_
            refine PW_callV2f (pc' := 162) dX6_walk_159 rfl oX0_missedByTake lX6_261 rfl rfl rfl (Nat.le_of_ble_eq_true rfl) (c_X0_missedByTake hj (by omega) (hH.fr (S := [22]) (fr.rf.up (by decide)) (by decide) (by decide))) ?_
            refine PW_iadd (pc' := 163) dX6_walk_162 rfl ?_
            rw [nI_add]
            refine PW_callS5w (pc' := 166) dX6_walk_163 rfl oX6_walk lX6_151 (Nat.le_of_ble_eq_true rfl) (IH _ (s_ext p h (some j)) _ _ σj (hH.fr (S := [22]) (fr.rf.up (by decide)) (by decide) (by decide)) (hK.fr (S := [22]) (fr.rf.up (by decide)) (by decide)) (hS.fr (S := [22]) (fr.rf.up (by decide)) (by decide)) hrw (by have := Nat.mul_le_mul_right (6 ^ m) (show j + 1 ≤ 5 by omega); omega) (by have := s_gain_le hok (lw := H.2.2.1) (h := h) (cs := s_cs H p h h) hj; omega) (by have := s_pop_le (H.2.2.2 4 j &&& s_span (H.2.2.2 3 j) h); simp only [s_miss1]; omega)) (fun M2 hM2 => ?_)
            obtain ⟨hS2, hK2, hF2, hR2⟩ := hM2
            have hH2 : HX M2 H := HX.fr (S := [21, 22, 23, 24, 25]) (hH.fr (S := [22]) (fr.rf.up (by decide)) (by decide) (by decide)) hF2 (by decide) (by decide)
            refine PW_aload0 (pc' := 167) dX6_walk_166 rfl ?_
            refine PW_iload2 (pc' := 168) dX6_walk_167 rfl ?_
            refine PW_iload6 (pc' := 170) dX6_walk_168 rfl ?_
            refine PW_iload7 (pc' := 172) dX6_walk_170 rfl ?_
            refine PW_callV3v (pc' := 175) dX6_walk_172 rfl oX2_note lX6_254 rfl rfl rfl (Nat.le_of_ble_eq_true rfl) (c_X2_note (by omega) (by omega) (by omega) hS2) ?_
            refine PW_iinc6 (pc' := 178) dX6_walk_175 rfl rfl rfl nI_inc ?_
            refine PW_goto (tgt := 76) dX6_walk_178 rfl ?_
            refine ih (q - 1) (by omega) (j + 1) _ _ (by omega) (hH2.fr m_note_fr (by decide) (by decide)) ?_
            rw [s_all_succ, hσj, s_one, if_pos ⟨q1, q2, q3⟩]
            refine ⟨hS2.note (by omega) (by omega), hK2.fr m_note_fr (by decide), ?_, fun x hx => ?_⟩
            · exact ((hF.tr (fr.up fr.rf (by decide))).tr hF2).tr (m_note_fr.sub (by decide))
            · rw [m_note_fr 22 (by decide), hR2 x (by omega), pv_up_at, if_neg (by omega), hR x hx]
set_option maxHeartbeats 4000000 in
theorem c_X6_walk {Γ : pv_G} {H : s_H} {κ : s_K} (hok : s_ok H) (hwo : ∀ x, κ.1 = some x → x < H.1) : ∀ (m d h : Nat) (M : pv_M) (p : Nat → Option Nat) (tk ms : Nat) (σ : s_S), h + m = 6 → HX M H → KX M κ → SX M σ → s_row M 22 h H.1 p → σ.1 + 6 ^ m ≤ 1000000 → tk ≤ 45 * h → ms ≤ 6 * h →
    Ct Γ (d + m + 3) vX6_walk [.ref 21, .ref 10, .int (nI h), .int (nI tk), .int (nI ms)] M (fun r M' => r = none ∧ s_post H κ M h (s_walk H κ m p tk ms σ) M') := by
  have hn5 := hok.1
  intro m
  induction m with
  | zero =>
    intro d h M p tk ms σ hm hH hK hS hrow hcnt htk hms
    obtain ⟨-, hc1, hc2, hc3, hf⟩ := id hH
    have hh : h = 6 := by omega
    subst hh
    refine Ct.of oX6_walk.1 rfl (pad := 3) rfl ?_
    show PW Γ (d + 3) vX6_walk 0 [.ref 21, .ref 10, .int (nI 6), .int (nI tk), .int (nI ms), .null, .null, .null] [] M _
    refine PW_iload2 (pc' := 1) dX6_walk_0 rfl ?_
    refine PW_bipush (pc' := 3) dX6_walk_1 rfl (v := 6) (by first | rfl | decide) ?_
    refine PW_icmp_lt (tgt := 18) (pc' := 6) dX6_walk_3 rfl rfl (fun h3 => ?_) (fun h3 => ?_)
    · exact absurd h3 (by decide)
    · refine PW_aload0 (pc' := 7) dX6_walk_6 rfl ?_
      refine PW_iload3 (pc' := 8) dX6_walk_7 rfl ?_
      refine PW_iload4 (pc' := 10) dX6_walk_8 rfl ?_
      refine PW_aload1 (pc' := 11) dX6_walk_10 rfl ?_
      refine PW_getI (pc' := 14) dX6_walk_11 rfl fX6_111 rfl rfl ?_
      rw [hc2]
      refine PW_callV3v (pc' := 17) dX6_walk_14 rfl oX2_arrive lX6_244 rfl rfl rfl (Nat.le_of_ble_eq_true rfl) (c_X2_arrive) ?_
      refine PW_return dX6_walk_17 rfl ?_
      have hA := m_arr_at (tk := tk) (ms := ms) (pen := H.2.1) (by omega) (by omega) hok.2.1 hS hK (by simp at hcnt; omega) (fun x hx => (hrow x hx).1)
      exact ⟨rfl, hA.1, hA.2.1, hA.2.2.sub (T := [21, 22, 23, 24, 25]) (by decide), fun x hx => by rw [hA.2.2 22 (by decide)]⟩
  | succ m IH =>
    intro d h M p tk ms σ hm hH hK hS hrow hcnt htk hms
    obtain ⟨-, hc1, hc2, hc3, hf⟩ := id hH
    obtain ⟨s1, -⟩ := id hS
    have hp : ∀ x, x < h → ∀ t, p x = some t → t < H.1 := fun x hx => (hrow x hx).2
    have hcs : s_cs H p h h < 64 := s_cs_lt hn5 h hp
    have e6 : 6 ^ (m + 1) = 6 * 6 ^ m := by rw [Nat.pow_succ, Nat.mul_comm]
    have h5m : 5 - m = h := by omega
    have IH2 := fun M p tk ms σ => IH d (h + 1) M p tk ms σ (by omega)
    have hloop := l_X6_walk (Γ := Γ) (d := d) (tk := tk) (ms := ms) (σ := σ) (M := M) hok hwo hm htk hms hcnt IH2 hp (fun x hx => (hrow x hx).1) H.1 0
    simp only [s_walk]
    rw [h5m]
    have hM1 : fr [22] M (pv_up M 22 h (-9)) := fr.rf.up (by decide)
    have hrw : s_row (pv_up M 22 h (-9)) 22 (h + 1) H.1 (s_ext p h none) := by
      intro x hx
      by_cases hxh : x = h
      · subst hxh
        exact ⟨by simp [pv_up_at, s_ext, s_rI], fun t ht => by simp [s_ext] at ht⟩
      · refine ⟨?_, fun t ht => hp x (by omega) t (by simpa [s_ext, hxh] using ht)⟩
        rw [pv_up_at, if_neg (by omega), (hrow x (by omega)).1]
        simp [s_ext, hxh]
    have hg1 : s_fit κ h (s_cs H p h h) = false → s_post H κ M h (s_all (s_walk H κ m) H κ p h tk ms σ 0) (pv_up M 22 h (-9)) := by
      intro q0
      have e : s_all (s_walk H κ m) H κ p h tk ms σ 0 = σ := by simp [s_all, s_non, q0]
      rw [e]
      exact ⟨hS.fr hM1 (by decide), hK.fr hM1 (by decide), hM1.sub (by decide), fun x hx => by rw [pv_up_at, if_neg (by omega)]⟩
    have hg2 : s_fit κ h (s_cs H p h h) = true → ∀ M2, SX M2 (s_walk H κ m (s_ext p h none) tk ms σ) → KX M2 κ → fr [21, 22, 23, 24, 25] (pv_up M 22 h (-9)) M2 → (∀ x, x < h + 1 → M2 22 x = (pv_up M 22 h (-9)) 22 x) → s_post H κ M h (s_all (s_walk H κ m) H κ p h tk ms σ 0) (m_note σ.1 (s_walk H κ m (s_ext p h none) tk ms σ) M2 h 5) := by
      intro q0 M2 hS2 hK2 hF2 hR2
      have e : s_all (s_walk H κ m) H κ p h tk ms σ 0 = s_note h 5 σ.1 (s_walk H κ m (s_ext p h none) tk ms σ) := by simp [s_all, s_non, q0]
      rw [e]
      refine ⟨hS2.note (by omega) (by decide), hK2.fr m_note_fr (by decide), ?_, fun x hx => ?_⟩
      · exact ((hM1.sub (by decide)).tr hF2).tr (m_note_fr.sub (by decide))
      · rw [m_note_fr 22 (by decide), hR2 x (by omega), pv_up_at, if_neg (by omega)]
    rw [show d + (m + 1) + 3 = d + m + 3 + 1 by omega]
    refine Ct.of oX6_walk.1 rfl (pad := 3) rfl ?_
    show PW Γ (d + m + 3 + 1) vX6_walk 0 [.ref 21, .ref 10, .int (nI h), .int (nI tk), .int (nI ms), .null, .null, .null] [] M _
    refine PW_iload2 (pc' := 1) dX6_walk_0 rfl ?_
    refine PW_bipush (pc' := 3) dX6_walk_1 rfl (v := 6) (by first | rfl | decide) ?_
    refine PW_icmp_lt (tgt := 18) (pc' := 6) dX6_walk_3 rfl rfl (fun h3 => ?_) (fun h3 => ?_)
    · refine PW_aload1 (pc' := 19) dX6_walk_18 rfl ?_
      refine PW_aload0 (pc' := 20) dX6_walk_19 rfl ?_
      refine PW_getR (pc' := 23) dX6_walk_20 rfl fX6_248 rfl rfl ?_
      refine PW_iload2 (pc' := 24) dX6_walk_23 rfl ?_
      refine PW_iload2 (pc' := 25) dX6_walk_24 rfl ?_
      refine PW_callV3f (pc' := 28) dX6_walk_25 rfl oX0_casesBy lX6_125 rfl rfl rfl (Nat.le_of_ble_eq_true rfl) (c_X0_casesBy (H := H) (r := p) rfl (by omega) (by omega) hH hrow) ?_
      refine PW_istore5 (pc' := 30) dX6_walk_28 rfl rfl rfl ?_
      refine PW_aload0 (pc' := 31) dX6_walk_30 rfl ?_
      refine PW_getR (pc' := 34) dX6_walk_31 rfl fX6_248 rfl rfl ?_
      refine PW_iload2 (pc' := 35) dX6_walk_34 rfl ?_
      refine PW_bipush (pc' := 37) dX6_walk_35 rfl (v := -9) (by first | rfl | decide) ?_
      refine PW_iastn (pc' := 38) dX6_walk_37 rfl rfl rfl (by omega) ?_
      refine PW_aload0 (pc' := 39) dX6_walk_38 rfl ?_
      refine PW_iload2 (pc' := 40) dX6_walk_39 rfl ?_
      refine PW_iload5 (pc' := 42) dX6_walk_40 rfl ?_
      refine PW_callV2f (pc' := 45) dX6_walk_42 rfl oX2_fits lX6_251 rfl rfl rfl (Nat.le_of_ble_eq_true rfl) (c_X2_fits (by omega) hcs (hK.fr hM1 (by decide))) ?_
      refine PW_if_eq (tgt := 73) (pc' := 48) dX6_walk_45 rfl rfl (fun h45 => ?_) (fun h45 => ?_)
      · have q0 := bi_f h45
        refine PW_iconst (pc' := 74) dX6_walk_73 rfl (v := nI 0) (by first | rfl | decide) ?_
        refine PW_istore6 (pc' := 76) dX6_walk_74 rfl rfl rfl ?_
        first
          | exact hloop _ _ (by omega) (hH.fr hM1 (by decide) (by decide)) (hg1 q0)
          | exact hloop _ _ (by omega) (hH2.fr m_note_fr (by decide) (by decide)) (hg2 q0 M2 hS2 hK2 hF2 hR2)
      · have q0 := bi_t h45
        refine PW_aload0 (pc' := 49) dX6_walk_48 rfl ?_
        refine PW_getI (pc' := 52) dX6_walk_49 rfl fX6_175 rfl rfl ?_
        refine PW_istore6 (pc' := 54) dX6_walk_52 rfl rfl rfl ?_
        rw [show (pv_up M 22 h (-9)) 21 8 = nI σ.1 from s1]
        refine PW_aload0 (pc' := 55) dX6_walk_54 rfl ?_
        refine PW_aload1 (pc' := 56) dX6_walk_55 rfl ?_
        refine PW_iload2 (pc' := 57) dX6_walk_56 rfl ?_
        refine PW_iconst (pc' := 58) dX6_walk_57 rfl (v := 1) (by first | rfl | decide) ?_
        refine PW_iadd (pc' := 59) dX6_walk_58 rfl ?_
        rw [nI_1]
        refine PW_iload3 (pc' := 60) dX6_walk_59 rfl ?_
        refine PW_iload4 (pc' := 62) dX6_walk_60 rfl ?_
        refine PW_callS5w (pc' := 65) dX6_walk_62 rfl oX6_walk lX6_151 (Nat.le_of_ble_eq_true rfl) (IH2 _ (s_ext p h none) _ _ σ (hH.fr hM1 (by decide) (by decide)) (hK.fr hM1 (by decide)) (hS.fr hM1 (by decide)) hrw (by omega) (by omega) (by omega)) (fun M2 hM2 => ?_)
        obtain ⟨hS2, hK2, hF2, hR2⟩ := hM2
        have hH2 : HX M2 H := HX.fr (S := [21, 22, 23, 24, 25]) (hH.fr hM1 (by decide) (by decide)) hF2 (by decide) (by decide)
        refine PW_aload0 (pc' := 66) dX6_walk_65 rfl ?_
        refine PW_iload2 (pc' := 67) dX6_walk_66 rfl ?_
        refine PW_iconst (pc' := 68) dX6_walk_67 rfl (v := nI 5) (by first | rfl | decide) ?_
        refine PW_iload6 (pc' := 70) dX6_walk_68 rfl ?_
        refine PW_callV3v (pc' := 73) dX6_walk_70 rfl oX2_note lX6_254 rfl rfl rfl (Nat.le_of_ble_eq_true rfl) (c_X2_note (by omega) (by decide) (by omega) hS2) ?_
        refine PW_iconst (pc' := 74) dX6_walk_73 rfl (v := nI 0) (by first | rfl | decide) ?_
        refine PW_istore6 (pc' := 76) dX6_walk_74 rfl rfl rfl ?_
        first
          | exact hloop _ _ (by omega) (hH.fr hM1 (by decide) (by decide)) (hg1 q0)
          | exact hloop _ _ (by omega) (hH2.fr m_note_fr (by decide) (by decide)) (hg2 q0 M2 hS2 hK2 hF2 hR2)
    · exact absurd (show nI h < 6 from nI_lt (a := h) (b := 6) (by omega) (by decide)) h3
end
section
/-! the class: readings, searches of all rounds, sheets -/
theorem p2_lt : ∀ t, t < 6 → 2 ^ t < 64 := by decide
abbrev s_R : Type := Nat × (Nat → Nat) × (Nat → Nat) × (Nat → Bool)
def RX (M : pv_M) (n : Nat) (rd : s_R) : Prop := M 17 3 = nI rd.1 ∧ rd.1 ≤ 8 ∧ ∀ i, i < rd.1 → (M 18 i = nI (rd.2.1 i) ∧ rd.2.1 i < n) ∧ (M 19 i = nI (rd.2.2.1 i) ∧ rd.2.2.1 i < 6) ∧ M 20 i = bi (rd.2.2.2 i)
theorem RX.fr {S : List Nat} {M M' : pv_M} {n : Nat} {rd : s_R} (h : RX M n rd) (hf : fr S M M') (h1 : 17 ∉ S ∧ 18 ∉ S ∧ 19 ∉ S ∧ 20 ∉ S) : RX M' n rd := by
  obtain ⟨a, b, c⟩ := h
  refine ⟨by rw [hf 17 h1.1]; exact a, b, fun i hi => ?_⟩
  rw [hf 18 h1.2.1, hf 19 h1.2.2.1, hf 20 h1.2.2.2]
  exact c i hi
/-- of the first k readings those of hour h that say b: their things -/
def s_mask (rd : s_R) (b : Bool) (h : Nat) : Nat → Nat
  | 0 => 0
  | k + 1 => if rd.2.2.2 k = b ∧ rd.2.2.1 k = h then s_mask rd b h k ||| 2 ^ rd.2.1 k else s_mask rd b h k
theorem s_mask_lt {rd : s_R} {b : Bool} {h n : Nat} (hn : n ≤ 5) : ∀ k, (∀ i, i < k → rd.2.1 i < n) → s_mask rd b h k < 64
  | 0, _ => by simp [s_mask]
  | k + 1, hr => by
    have ih := s_mask_lt (b := b) (h := h) hn k (fun i hi => hr i (by omega))
    have := hr k (by omega)
    simp only [s_mask]
    split
    · exact (bt_or _ ih _ (by omega)).2
    · exact ih
theorem vp_nar_bool (b : Bool) : vp_nar .boolean (bi b) = bi b := by cases b <;> rfl
set_option maxHeartbeats 4000000 in
theorem l_X1_bind {Γ : pv_G} {d n : Nat} {rd : s_R} (hn : n ≤ 5) : ∀ (m j : Nat) (M0 M : pv_M) (x3 : Value), j + m = rd.1 → RX M n rd → fr [26, 27] M0 M → (∀ h, h < 6 → M 26 h = nI (s_mask rd true h j) ∧ M 27 h = nI (s_mask rd false h j)) →
    PW Γ d vX1_bind 2 [.ref 17, .ref 21, .int (nI j), x3] [] M (fun r M' => r = none ∧ (fr [26, 27] M0 M' ∧ ∀ h, h < 6 → M' 26 h = nI (s_mask rd true h rd.1) ∧ M' 27 h = nI (s_mask rd false h rd.1))) := by
  intro m
  induction m using Nat.strongRecOn with
  | ind m ih =>
    intro j M0 M x3 hjm hR hfr hall
    obtain ⟨r1, r2, r3⟩ := id hR
    refine PW_iload2 (pc' := 3) dX1_bind_2 rfl ?_
    refine PW_aload0 (pc' := 4) dX1_bind_3 rfl ?_
    refine PW_getI (pc' := 7) dX1_bind_4 rfl fX1_22 rfl rfl ?_
    rw [r1]
    refine PW_icmp_ge (tgt := 56) (pc' := 10) dX1_bind_7 rfl rfl (fun h7 => ?_) (fun h7 => ?_)
    · have hj : j = rd.1 := by have := s_bge (by omega) (by omega) h7; omega
      subst hj
      exact PW_return dX1_bind_56 rfl ⟨rfl, hfr, hall⟩
    · have hj : j < rd.1 := s_bnd (by omega) (by omega) h7
      obtain ⟨⟨r4, r4b⟩, ⟨r5, r5b⟩, r3⟩ := r3 j hj
      have hth : ∀ i, i < j → rd.2.1 i < n := fun i hi => (hR.2.2 i (by omega)).1.2
      refine PW_aload0 (pc' := 11) dX1_bind_10 rfl ?_
      refine PW_getR (pc' := 14) dX1_bind_11 rfl fX1_18 rfl rfl ?_
      refine PW_iload2 (pc' := 15) dX1_bind_14 rfl ?_
      refine PW_zaldn (pc' := 16) dX1_bind_15 rfl rfl rfl (by omega) ?_
      rw [r3]
      refine PW_if_eq (tgt := 26) (pc' := 19) dX1_bind_16 rfl rfl (fun h16 => ?_) (fun h16 => ?_)
      · have hb := bi_f h16
        refine PW_aload1 (pc' := 27) dX1_bind_26 rfl ?_
        refine PW_getR (pc' := 30) dX1_bind_27 rfl fX1_31 rfl rfl ?_
        refine PW_astore3 (pc' := 31) dX1_bind_30 rfl rfl rfl ?_
        refine PW_aload3 (pc' := 32) dX1_bind_31 rfl ?_
        refine PW_aload0 (pc' := 33) dX1_bind_32 rfl ?_
        refine PW_getR (pc' := 36) dX1_bind_33 rfl fX1_15 rfl rfl ?_
        refine PW_iload2 (pc' := 37) dX1_bind_36 rfl ?_
        rw [show (nI j) = nI j from rfl]
        refine PW_ialdn (pc' := 38) dX1_bind_37 rfl rfl rfl (by omega) ?_
        rw [r5]
        refine PW_dup2IR (pc' := 39) dX1_bind_38 rfl ?_
        refine PW_ialdn (pc' := 40) dX1_bind_39 rfl rfl rfl r5b ?_
        refine PW_iconst (pc' := 41) dX1_bind_40 rfl (v := 1) (by first | rfl | decide) ?_
        refine PW_aload0 (pc' := 42) dX1_bind_41 rfl ?_
        refine PW_getR (pc' := 45) dX1_bind_42 rfl fX1_9 rfl rfl ?_
        refine PW_iload2 (pc' := 46) dX1_bind_45 rfl ?_
        refine PW_ialdn (pc' := 47) dX1_bind_46 rfl rfl rfl (by omega) ?_
        rw [r4]
        refine PW_ishl (pc' := 48) dX1_bind_47 rfl ?_
        rw [bt_one _ (by omega)]
        refine PW_ior (pc' := 49) dX1_bind_48 rfl ?_
        refine PW_iastn (pc' := 50) dX1_bind_49 rfl rfl rfl r5b ?_
        refine PW_iinc2 (pc' := 53) dX1_bind_50 rfl rfl rfl nI_inc ?_
        refine PW_goto (tgt := 2) dX1_bind_53 rfl ?_
        refine ih (m - 1) (by omega) (j + 1) M0 _ _ (by omega) (hR.fr (S := [26, 27]) (fr.up fr.rf (by decide)) (by decide)) (hfr.up (by decide)) (fun h hh => ?_)
        obtain ⟨a1, a2⟩ := hall h hh
        have e1 := (hall _ r5b).1
        have e2 := (hall _ r5b).2
        have b1 := (bt_orn _ (s_mask_lt (rd := rd) (b := true) (h := rd.2.2.1 j) hn j hth) _ (p2_lt (rd.2.1 j) (by omega))).1
        have b2 := (bt_orn _ (s_mask_lt (rd := rd) (b := false) (h := rd.2.2.1 j) hn j hth) _ (p2_lt (rd.2.1 j) (by omega))).1
        by_cases hq : rd.2.2.1 j = h
        · subst hq
          simp [pv_up_at, s_mask, hb, a1, a2, b1, b2]
        · simp [pv_up_at, s_mask, hq, Ne.symm hq, a1, a2]
      · have hb := bi_t h16
        refine PW_aload1 (pc' := 20) dX1_bind_19 rfl ?_
        refine PW_getR (pc' := 23) dX1_bind_20 rfl fX1_26 rfl rfl ?_
        refine PW_goto (tgt := 30) dX1_bind_23 rfl ?_
        refine PW_astore3 (pc' := 31) dX1_bind_30 rfl rfl rfl ?_
        refine PW_aload3 (pc' := 32) dX1_bind_31 rfl ?_
        refine PW_aload0 (pc' := 33) dX1_bind_32 rfl ?_
        refine PW_getR (pc' := 36) dX1_bind_33 rfl fX1_15 rfl rfl ?_
        refine PW_iload2 (pc' := 37) dX1_bind_36 rfl ?_
        rw [show (nI j) = nI j from rfl]
        refine PW_ialdn (pc' := 38) dX1_bind_37 rfl rfl rfl (by omega) ?_
        rw [r5]
        refine PW_dup2IR (pc' := 39) dX1_bind_38 rfl ?_
        refine PW_ialdn (pc' := 40) dX1_bind_39 rfl rfl rfl r5b ?_
        refine PW_iconst (pc' := 41) dX1_bind_40 rfl (v := 1) (by first | rfl | decide) ?_
        refine PW_aload0 (pc' := 42) dX1_bind_41 rfl ?_
        refine PW_getR (pc' := 45) dX1_bind_42 rfl fX1_9 rfl rfl ?_
        refine PW_iload2 (pc' := 46) dX1_bind_45 rfl ?_
        refine PW_ialdn (pc' := 47) dX1_bind_46 rfl rfl rfl (by omega) ?_
        rw [r4]
        refine PW_ishl (pc' := 48) dX1_bind_47 rfl ?_
        rw [bt_one _ (by omega)]
        refine PW_ior (pc' := 49) dX1_bind_48 rfl ?_
        refine PW_iastn (pc' := 50) dX1_bind_49 rfl rfl rfl r5b ?_
        refine PW_iinc2 (pc' := 53) dX1_bind_50 rfl rfl rfl nI_inc ?_
        refine PW_goto (tgt := 2) dX1_bind_53 rfl ?_
        refine ih (m - 1) (by omega) (j + 1) M0 _ _ (by omega) (hR.fr (S := [26, 27]) (fr.up fr.rf (by decide)) (by decide)) (hfr.up (by decide)) (fun h hh => ?_)
        obtain ⟨a1, a2⟩ := hall h hh
        have e1 := (hall _ r5b).1
        have e2 := (hall _ r5b).2
        have b1 := (bt_orn _ (s_mask_lt (rd := rd) (b := true) (h := rd.2.2.1 j) hn j hth) _ (p2_lt (rd.2.1 j) (by omega))).1
        have b2 := (bt_orn _ (s_mask_lt (rd := rd) (b := false) (h := rd.2.2.1 j) hn j hth) _ (p2_lt (rd.2.1 j) (by omega))).1
        by_cases hq : rd.2.2.1 j = h
        · subst hq
          simp [pv_up_at, s_mask, hb, a1, a2, b1, b2]
        · simp [pv_up_at, s_mask, hq, Ne.symm hq, a1, a2]
set_option maxHeartbeats 4000000 in
theorem c_X1_bind {Γ : pv_G} {d : Nat} {M : pv_M} {n : Nat} {rd : s_R} (hn : n ≤ 5) (hR : RX M n rd) (h0 : ∀ h, h < 6 → M 26 h = 0 ∧ M 27 h = 0) : Ct Γ d vX1_bind [.ref 17, .ref 21] M (fun r M' => r = none ∧ (fr [26, 27] M M' ∧ ∀ h, h < 6 → M' 26 h = nI (s_mask rd true h rd.1) ∧ M' 27 h = nI (s_mask rd false h rd.1))) := by
  refine Ct.of oX1_bind.1 rfl (pad := 2) rfl ?_
  show PW Γ d vX1_bind 0 [.ref 17, .ref 21, .null, .null] [] M _
  refine PW_iconst (pc' := 1) dX1_bind_0 rfl (v := nI 0) (by first | rfl | decide) ?_
  refine PW_istore2 (pc' := 2) dX1_bind_1 rfl rfl rfl ?_
  exact l_X1_bind hn rd.1 0 M M _ (by omega) hR fr.rf (fun h hh => h0 h hh)
set_option maxHeartbeats 4000000 in
theorem c_X1_add {Γ : pv_G} {d : Nat} {M : pv_M} {c : Nat} {t h w : Int32} (hc : M 17 3 = nI c) (hc8 : c ≤ 8) (hw : vp_nar .boolean w = w) : Ct Γ d vX1_add [.ref 17, .int t, .int h, .int w] M (pv_fn (some (.int (if c < 8 then nI c else -4))) (if c < 8 then pv_up (pv_up (pv_up (pv_up M 18 c t) 19 c h) 20 c w) 17 3 (nI (c + 1)) else M)) := by
  refine Ct.of oX1_add.1 rfl (pad := 0) rfl ?_
  show PW Γ d vX1_add 0 [.ref 17, .int t, .int h, .int w] [] M _
  refine PW_aload0 (pc' := 1) dX1_add_0 rfl ?_
  refine PW_getI (pc' := 4) dX1_add_1 rfl fX1_22 rfl rfl ?_
  rw [hc]
  refine PW_bipush (pc' := 6) dX1_add_4 rfl (v := 8) (by first | rfl | decide) ?_
  refine PW_icmp_lt (tgt := 12) (pc' := 9) dX1_add_6 rfl rfl (fun h6 => ?_) (fun h6 => ?_)
  · have hlt : c < 8 := (nI_ltI (b := 8) (by omega) (by decide)).mp h6
    refine PW_aload0 (pc' := 13) dX1_add_12 rfl ?_
    refine PW_getR (pc' := 16) dX1_add_13 rfl fX1_9 rfl rfl ?_
    refine PW_aload0 (pc' := 17) dX1_add_16 rfl ?_
    refine PW_getI (pc' := 20) dX1_add_17 rfl fX1_22 rfl rfl ?_
    rw [hc]
    refine PW_iload1 (pc' := 21) dX1_add_20 rfl ?_
    refine PW_iastn (pc' := 22) dX1_add_21 rfl rfl rfl (by omega) ?_
    refine PW_aload0 (pc' := 23) dX1_add_22 rfl ?_
    refine PW_getR (pc' := 26) dX1_add_23 rfl fX1_15 rfl rfl ?_
    refine PW_aload0 (pc' := 27) dX1_add_26 rfl ?_
    refine PW_getI (pc' := 30) dX1_add_27 rfl fX1_22 rfl rfl ?_
    rw [show (pv_up M 18 c t) 17 3 = nI c from hc]
    refine PW_iload2 (pc' := 31) dX1_add_30 rfl ?_
    refine PW_iastn (pc' := 32) dX1_add_31 rfl rfl rfl (by omega) ?_
    refine PW_aload0 (pc' := 33) dX1_add_32 rfl ?_
    refine PW_getR (pc' := 36) dX1_add_33 rfl fX1_18 rfl rfl ?_
    refine PW_aload0 (pc' := 37) dX1_add_36 rfl ?_
    refine PW_getI (pc' := 40) dX1_add_37 rfl fX1_22 rfl rfl ?_
    rw [show (pv_up (pv_up M 18 c t) 19 c h) 17 3 = nI c from hc]
    refine PW_iload3 (pc' := 41) dX1_add_40 rfl ?_
    refine PW_zastn (pc' := 42) dX1_add_41 rfl rfl rfl (by omega) hw ?_
    refine PW_aload0 (pc' := 43) dX1_add_42 rfl ?_
    refine PW_dupR (pc' := 44) dX1_add_43 rfl ?_
    refine PW_getI (pc' := 47) dX1_add_44 rfl fX1_22 rfl rfl ?_
    rw [show (pv_up (pv_up (pv_up M 18 c t) 19 c h) 20 c w) 17 3 = nI c from hc]
    refine PW_dup_x1R (pc' := 48) dX1_add_47 rfl ?_
    refine PW_iconst (pc' := 49) dX1_add_48 rfl (v := 1) (by first | rfl | decide) ?_
    refine PW_iadd (pc' := 50) dX1_add_49 rfl ?_
    rw [nI_1]
    refine PW_putI (pc' := 53) dX1_add_50 rfl fX1_22 w1_3 rfl rfl ?_
    refine PW_ireturn .int dX1_add_53 rfl rfl ?_
    exact ⟨by rw [if_pos hlt], by rw [if_pos hlt]⟩
  · have hlt : ¬ c < 8 := fun z => h6 ((nI_ltI (b := 8) (by omega) (by decide)).mpr z)
    refine PW_bipush (pc' := 11) dX1_add_9 rfl (v := -4) (by first | rfl | decide) ?_
    refine PW_ireturn .int dX1_add_11 rfl rfl ?_
    exact ⟨by rw [if_neg hlt], by rw [if_neg hlt]⟩
def v_holds (len i n : Int32) : Bool := !decide (i < 0) && (!decide (i > len) && (!decide (n < 0) && !decide (n > len - i)))
def v_foc (there lane len asL i n : Int32) : Int32 := if there = 0 then 1 else if ¬ lane = asL then 2 else if n < 0 then 4 else if v_holds len i n = true then 0 else 3
def v_cut (lane v : Int32) : Int32 := if lane = 0 then v.toInt8.toInt32 else if lane = 1 then v.toInt16.toInt32 else v
set_option maxHeartbeats 4000000 in
theorem c_X3_holds {Γ : pv_G} {d : Nat} {M : pv_M} {k : Nat} {i n : Int32} (hk : k < 4) : Ct Γ d vX3_holds [.ref (2 + k), .int i, .int n] M (pv_fn (some (.int (bi (v_holds (M (2 + k) 3) i n)))) M) := by
  refine Ct.of oX3_holds.1 rfl (pad := 0) rfl ?_
  show PW Γ d vX3_holds 0 [.ref (2 + k), .int i, .int n] [] M _
  refine PW_iload1 (pc' := 1) dX3_holds_0 rfl ?_
  refine PW_if_lt (tgt := 30) (pc' := 4) dX3_holds_1 rfl rfl (fun h1 => ?_) (fun h1 => ?_)
  · refine PW_iconst (pc' := 31) dX3_holds_30 rfl (v := 0) (by first | rfl | decide) ?_
    refine PW_ireturn .boolean dX3_holds_31 rfl (by first | rfl | exact bi_nar _) ?_
    refine ⟨?_, rfl⟩
    first | rw [bi_zero (show v_holds (M (2 + k) 3) i n = false by simp_all [v_holds])] | rw [bi_one (show v_holds (M (2 + k) 3) i n = true by simp_all [v_holds])]
  · refine PW_iload1 (pc' := 5) dX3_holds_4 rfl ?_
    refine PW_aload0 (pc' := 6) dX3_holds_5 rfl ?_
    refine PW_getI (pc' := 9) dX3_holds_6 rfl fX3_23 (pv_lay_sheet (by omega)) rfl ?_
    refine PW_icmp_gt (tgt := 30) (pc' := 12) dX3_holds_9 rfl rfl (fun h9 => ?_) (fun h9 => ?_)
    · refine PW_iconst (pc' := 31) dX3_holds_30 rfl (v := 0) (by first | rfl | decide) ?_
      refine PW_ireturn .boolean dX3_holds_31 rfl (by first | rfl | exact bi_nar _) ?_
      refine ⟨?_, rfl⟩
      first | rw [bi_zero (show v_holds (M (2 + k) 3) i n = false by simp_all [v_holds])] | rw [bi_one (show v_holds (M (2 + k) 3) i n = true by simp_all [v_holds])]
    · refine PW_iload2 (pc' := 13) dX3_holds_12 rfl ?_
      refine PW_if_lt (tgt := 30) (pc' := 16) dX3_holds_13 rfl rfl (fun h13 => ?_) (fun h13 => ?_)
      · refine PW_iconst (pc' := 31) dX3_holds_30 rfl (v := 0) (by first | rfl | decide) ?_
        refine PW_ireturn .boolean dX3_holds_31 rfl (by first | rfl | exact bi_nar _) ?_
        refine ⟨?_, rfl⟩
        first | rw [bi_zero (show v_holds (M (2 + k) 3) i n = false by simp_all [v_holds])] | rw [bi_one (show v_holds (M (2 + k) 3) i n = true by simp_all [v_holds])]
      · refine PW_iload2 (pc' := 17) dX3_holds_16 rfl ?_
        refine PW_aload0 (pc' := 18) dX3_holds_17 rfl ?_
        refine PW_getI (pc' := 21) dX3_holds_18 rfl fX3_23 (pv_lay_sheet (by omega)) rfl ?_
        refine PW_iload1 (pc' := 22) dX3_holds_21 rfl ?_
        refine PW_isub (pc' := 23) dX3_holds_22 rfl ?_
        refine PW_icmp_gt (tgt := 30) (pc' := 26) dX3_holds_23 rfl rfl (fun h23 => ?_) (fun h23 => ?_)
        · refine PW_iconst (pc' := 31) dX3_holds_30 rfl (v := 0) (by first | rfl | decide) ?_
          refine PW_ireturn .boolean dX3_holds_31 rfl (by first | rfl | exact bi_nar _) ?_
          refine ⟨?_, rfl⟩
          first | rw [bi_zero (show v_holds (M (2 + k) 3) i n = false by simp_all [v_holds])] | rw [bi_one (show v_holds (M (2 + k) 3) i n = true by simp_all [v_holds])]
        · refine PW_iconst (pc' := 27) dX3_holds_26 rfl (v := 1) (by first | rfl | decide) ?_
          refine PW_goto (tgt := 31) dX3_holds_27 rfl ?_
          refine PW_ireturn .boolean dX3_holds_31 rfl (by first | rfl | exact bi_nar _) ?_
          refine ⟨?_, rfl⟩
          first | rw [bi_zero (show v_holds (M (2 + k) 3) i n = false by simp_all [v_holds])] | rw [bi_one (show v_holds (M (2 + k) 3) i n = true by simp_all [v_holds])]
set_option maxHeartbeats 4000000 in
theorem c_X3_faultOfCells {Γ : pv_G} {d : Nat} {M : pv_M} {k : Nat} {l i n : Int32} (hk : k < 4) : Ct Γ (d + 1) vX3_faultOfCells [.ref (2 + k), .int l, .int i, .int n] M (pv_fn (some (.int (v_foc (M (2 + k) 1) (M (2 + k) 2) (M (2 + k) 3) l i n))) M) := by
  refine Ct.of oX3_faultOfCells.1 rfl (pad := 0) rfl ?_
  show PW Γ (d + 1) vX3_faultOfCells 0 [.ref (2 + k), .int l, .int i, .int n] [] M _
  refine PW_aload0 (pc' := 1) dX3_faultOfCells_0 rfl ?_
  refine PW_getI (pc' := 4) dX3_faultOfCells_1 rfl fX3_15 (pv_lay_sheet (by omega)) rfl ?_
  refine PW_if_ne (tgt := 9) (pc' := 7) dX3_faultOfCells_4 rfl rfl (fun h4 => ?_) (fun h4 => ?_)
  · refine PW_aload0 (pc' := 10) dX3_faultOfCells_9 rfl ?_
    refine PW_getI (pc' := 13) dX3_faultOfCells_10 rfl fX3_19 (pv_lay_sheet (by omega)) rfl ?_
    refine PW_iload1 (pc' := 14) dX3_faultOfCells_13 rfl ?_
    refine PW_icmp_eq (tgt := 19) (pc' := 17) dX3_faultOfCells_14 rfl rfl (fun h14 => ?_) (fun h14 => ?_)
    · refine PW_iload3 (pc' := 20) dX3_faultOfCells_19 rfl ?_
      refine PW_if_ge (tgt := 25) (pc' := 23) dX3_faultOfCells_20 rfl rfl (fun h20 => ?_) (fun h20 => ?_)
      · refine PW_aload0 (pc' := 26) dX3_faultOfCells_25 rfl ?_
        refine PW_iload2 (pc' := 27) dX3_faultOfCells_26 rfl ?_
        refine PW_iload3 (pc' := 28) dX3_faultOfCells_27 rfl ?_
        refine PW_callV2f (pc' := 31) dX3_faultOfCells_28 rfl oX3_holds lX3_26 (pv_lay_sheet (by omega)) rfl rfl (Nat.le_of_ble_eq_true rfl) (c_X3_holds hk) ?_
        refine PW_if_eq (tgt := 38) (pc' := 34) dX3_faultOfCells_31 rfl rfl (fun h31 => ?_) (fun h31 => ?_)
        · have q := bi_f h31
          refine PW_iconst (pc' := 39) dX3_faultOfCells_38 rfl (v := 3) (by first | rfl | decide) ?_
          refine PW_ireturn .int dX3_faultOfCells_39 rfl rfl ?_
          refine ⟨?_, rfl⟩
          simp_all [v_foc]
        · have q := bi_t h31
          refine PW_iconst (pc' := 35) dX3_faultOfCells_34 rfl (v := 0) (by first | rfl | decide) ?_
          refine PW_goto (tgt := 39) dX3_faultOfCells_35 rfl ?_
          refine PW_ireturn .int dX3_faultOfCells_39 rfl rfl ?_
          refine ⟨?_, rfl⟩
          simp_all [v_foc]
      · refine PW_iconst (pc' := 24) dX3_faultOfCells_23 rfl (v := 4) (by first | rfl | decide) ?_
        refine PW_ireturn .int dX3_faultOfCells_24 rfl rfl ?_
        refine ⟨?_, rfl⟩
        simp_all [v_foc]
    · refine PW_iconst (pc' := 18) dX3_faultOfCells_17 rfl (v := 2) (by first | rfl | decide) ?_
      refine PW_ireturn .int dX3_faultOfCells_18 rfl rfl ?_
      refine ⟨?_, rfl⟩
      simp_all [v_foc]
  · refine PW_iconst (pc' := 8) dX3_faultOfCells_7 rfl (v := 1) (by first | rfl | decide) ?_
    refine PW_ireturn .int dX3_faultOfCells_8 rfl rfl ?_
    refine ⟨?_, rfl⟩
    simp_all [v_foc]
set_option maxHeartbeats 4000000 in
theorem c_X3_cut {Γ : pv_G} {d : Nat} {M : pv_M} {k : Nat} {v : Int32} (hk : k < 4) : Ct Γ d vX3_cut [.ref (2 + k), .int v] M (pv_fn (some (.int (v_cut (M (2 + k) 2) v))) M) := by
  refine Ct.of oX3_cut.1 rfl (pad := 0) rfl ?_
  show PW Γ d vX3_cut 0 [.ref (2 + k), .int v] [] M _
  refine PW_aload0 (pc' := 1) dX3_cut_0 rfl ?_
  refine PW_getI (pc' := 4) dX3_cut_1 rfl fX3_19 (pv_lay_sheet (by omega)) rfl ?_
  refine PW_if_ne (tgt := 10) (pc' := 7) dX3_cut_4 rfl rfl (fun h4 => ?_) (fun h4 => ?_)
  · refine PW_aload0 (pc' := 11) dX3_cut_10 rfl ?_
    refine PW_getI (pc' := 14) dX3_cut_11 rfl fX3_19 (pv_lay_sheet (by omega)) rfl ?_
    refine PW_iconst (pc' := 15) dX3_cut_14 rfl (v := 1) (by first | rfl | decide) ?_
    refine PW_icmp_ne (tgt := 23) (pc' := 18) dX3_cut_15 rfl rfl (fun h15 => ?_) (fun h15 => ?_)
    · refine PW_iload1 (pc' := 24) dX3_cut_23 rfl ?_
      refine PW_ireturn .int dX3_cut_24 rfl rfl ?_
      refine ⟨?_, rfl⟩
      simp_all [v_cut]
    · refine PW_iload1 (pc' := 19) dX3_cut_18 rfl ?_
      refine PW_i2s (pc' := 20) dX3_cut_19 rfl ?_
      refine PW_goto (tgt := 24) dX3_cut_20 rfl ?_
      refine PW_ireturn .int dX3_cut_24 rfl rfl ?_
      refine ⟨?_, rfl⟩
      simp_all [v_cut]
  · refine PW_iload1 (pc' := 8) dX3_cut_7 rfl ?_
    refine PW_i2b (pc' := 9) dX3_cut_8 rfl ?_
    refine PW_ireturn .int dX3_cut_9 rfl rfl ?_
    refine ⟨?_, rfl⟩
    simp_all [v_cut]
/-- a new row: its sheet's three fields, then all cells 0 -/
def s_new (k : Nat) (l n : Int32) (M M' : pv_M) : Prop := M' (2 + k) 1 = 1 ∧ M' (2 + k) 2 = l ∧ M' (2 + k) 3 = n ∧ (∀ i, i < 60 → M' (6 + k) i = 0) ∧ fr [2 + k, 6 + k] M M'
set_option maxHeartbeats 4000000 in
theorem l_X3_begin {Γ : pv_G} {d k : Nat} {l n : Int32} (hk : k < 4) : ∀ (m j : Nat) (M0 M : pv_M), j + m = 60 → M (2 + k) 1 = 1 → M (2 + k) 2 = l → M (2 + k) 3 = n → (∀ i, i < j → M (6 + k) i = 0) → fr [2 + k, 6 + k] M0 M →
    PW Γ d vX3_begin 17 [.ref (2 + k), .int l, .int n, .int (nI j)] [] M (fun r M' => r = none ∧ s_new k l n M0 M') := by
  intro m
  induction m using Nat.strongRecOn with
  | ind m ih =>
    intro j M0 M hjm a1 a2 a3 a4 hfr
    refine PW_iload3 (pc' := 18) dX3_begin_17 rfl ?_
    refine PW_bipush (pc' := 20) dX3_begin_18 rfl (v := nI 60) (by first | rfl | decide) ?_
    refine PW_icmp_ge (tgt := 36) (pc' := 23) dX3_begin_20 rfl rfl (fun h20 => ?_) (fun h20 => ?_)
    · have hj : j = 60 := by have := s_bge (by omega) (by omega) h20; omega
      subst hj
      exact PW_return dX3_begin_36 rfl ⟨rfl, a1, a2, a3, a4, hfr⟩
    · have hj : j < 60 := s_bnd (by omega) (by omega) h20
      refine PW_aload0 (pc' := 24) dX3_begin_23 rfl ?_
      refine PW_getR (pc' := 27) dX3_begin_24 rfl fX3_9 (pv_lay_sheet (by omega)) rfl ?_
      refine PW_iload3 (pc' := 28) dX3_begin_27 rfl ?_
      refine PW_iconst (pc' := 29) dX3_begin_28 rfl (v := 0) (by first | rfl | decide) ?_
      refine PW_iastn (pc' := 30) dX3_begin_29 rfl (pv_lay_cells (by omega)) rfl (by omega) ?_
      refine PW_iinc3 (pc' := 33) dX3_begin_30 rfl rfl rfl nI_inc ?_
      refine PW_goto (tgt := 17) dX3_begin_33 rfl ?_
      have hne : 2 + k ≠ 6 + k := by omega
      refine ih (m - 1) (by omega) (j + 1) M0 _ (by omega) ?_ ?_ ?_ (fun i hi => ?_) (hfr.up (by simp))
      · rw [pv_up_at, if_neg (fun z => hne z.1)]; exact a1
      · rw [pv_up_at, if_neg (fun z => hne z.1)]; exact a2
      · rw [pv_up_at, if_neg (fun z => hne z.1)]; exact a3
      · rw [pv_up_at]
        split
        · rfl
        · exact a4 i (by omega)
set_option maxHeartbeats 4000000 in
theorem c_X3_begin {Γ : pv_G} {d : Nat} {M : pv_M} {k : Nat} {l n : Int32} (hk : k < 4) : Ct Γ d vX3_begin [.ref (2 + k), .int l, .int n] M (fun r M' => r = none ∧ s_new k l n M M') := by
  refine Ct.of oX3_begin.1 rfl (pad := 1) rfl ?_
  show PW Γ d vX3_begin 0 [.ref (2 + k), .int l, .int n, .null] [] M _
  refine PW_aload0 (pc' := 1) dX3_begin_0 rfl ?_
  refine PW_iconst (pc' := 2) dX3_begin_1 rfl (v := 1) (by first | rfl | decide) ?_
  refine PW_putG .boolean (by first | rfl | exact bi_nar _) (by first | rfl | simp [fits]) (pc' := 5) dX3_begin_2 rfl fX3_15 w3_1 (pv_lay_sheet (by omega)) rfl ?_
  refine PW_aload0 (pc' := 6) dX3_begin_5 rfl ?_
  refine PW_iload1 (pc' := 7) dX3_begin_6 rfl ?_
  refine PW_putI (pc' := 10) dX3_begin_7 rfl fX3_19 w3_2 (pv_lay_sheet (by omega)) rfl ?_
  refine PW_aload0 (pc' := 11) dX3_begin_10 rfl ?_
  refine PW_iload2 (pc' := 12) dX3_begin_11 rfl ?_
  refine PW_putI (pc' := 15) dX3_begin_12 rfl fX3_23 w3_3 (pv_lay_sheet (by omega)) rfl ?_
  refine PW_iconst (pc' := 16) dX3_begin_15 rfl (v := nI 0) (by first | rfl | decide) ?_
  refine PW_istore3 (pc' := 17) dX3_begin_16 rfl rfl rfl ?_
  refine l_X3_begin hk 60 0 M _ (by omega) ?_ ?_ ?_ (fun i hi => absurd hi (Nat.not_lt_zero i)) (((fr.up fr.rf (by simp)).up (by simp)).up (by simp))
  · simp [pv_up_at]
  · simp [pv_up_at]
  · simp [pv_up_at]
end
section
/-! the class: best rounds, rounds as read; small calls -/
def s_N : Nat → Option Nat := fun _ => none
/-- the search without a thing (or with all), as the class walks it -/
def s_best (H : s_H) (w : Option Nat) : s_S := s_walk H (w, 30, fun _ => 0, fun _ => 0) 6 s_N 0 0 s_S0
def s_mild (H : s_H) (v : Nat) : s_S := s_walk H (none, v, fun _ => 0, fun _ => 0) 6 s_N 0 0 s_S0
def s_read (H : s_H) (rd : s_R) : s_S := s_walk H (none, 30, fun h => s_mask rd true h rd.1, fun h => s_mask rd false h rd.1) 6 s_N 0 0 s_S0
abbrev s_22 : List Nat := [21, 22, 23, 24, 25, 26, 27]
theorem s_row0 (M : pv_M) (pl n : Nat) (r : Nat → Option Nat) : s_row M pl 0 n r := fun h hh => absurd hh (Nat.not_lt_zero h)
set_option maxHeartbeats 4000000 in
theorem c_X6_searchBest {Γ : pv_G} {d : Nat} {M : pv_M} {H : s_H} {w : Option Nat} (hw : ∀ x, w = some x → x < H.1) (hH : HX M H) : Ct Γ (d + 10) vX6_searchBest [.ref 0, .int (s_rI w)] M (fun r M' => r = none ∧ (SX M' (s_best H w) ∧ fr s_22 M M')) := by
  have hok := hH.1
  refine Ct.of oX6_searchBest.1 rfl (pad := 0) rfl ?_
  show PW Γ (d + 10) vX6_searchBest 0 [.ref 0, .int (s_rI w)] [] M _
  refine PW_aload0 (pc' := 1) dX6_searchBest_0 rfl ?_
  refine PW_getR (pc' := 4) dX6_searchBest_1 rfl fX6_35 rfl rfl ?_
  refine PW_callV0w (pc' := 7) dX6_searchBest_4 rfl oX2_clear lX6_145 rfl rfl rfl (Nat.le_of_ble_eq_true rfl) (c_X2_clear) (fun M1 hM1 => ?_)
  obtain ⟨hS1, hK1, hF1⟩ := hM1
  have hF1 : fr s_22 M (pv_up M1 21 6 (s_rI w)) := hF1.up (by decide)
  refine PW_aload0 (pc' := 8) dX6_searchBest_7 rfl ?_
  refine PW_getR (pc' := 11) dX6_searchBest_8 rfl fX6_35 rfl rfl ?_
  refine PW_iload1 (pc' := 12) dX6_searchBest_11 rfl ?_
  refine PW_putI (pc' := 15) dX6_searchBest_12 rfl fX6_237 w2_6 rfl rfl ?_
  have hS2 : SX (pv_up M1 21 6 (s_rI w)) s_S0 := by
    obtain ⟨a, b, c, e, g⟩ := hS1
    exact ⟨by simpa [pv_up_at] using a, by simpa [pv_up_at] using b, by simpa [pv_up_at] using c, e, fun x hx => by simpa [pv_up_at] using g x hx⟩
  have hK2 : KX (pv_up M1 21 6 (s_rI w)) (w, 30, fun _ => 0, fun _ => 0) := by
    obtain ⟨a, b, c, e⟩ := hK1
    exact ⟨by simp [pv_up_at], by simpa [pv_up_at, s_K0] using b, c, fun x hx => by simpa [pv_up_at, s_K0] using e x hx⟩
  refine PW_aload0 (pc' := 16) dX6_searchBest_15 rfl ?_
  refine PW_getR (pc' := 19) dX6_searchBest_16 rfl fX6_35 rfl rfl ?_
  refine PW_aload0 (pc' := 20) dX6_searchBest_19 rfl ?_
  refine PW_getR (pc' := 23) dX6_searchBest_20 rfl fX6_21 rfl rfl ?_
  refine PW_iconst (pc' := 24) dX6_searchBest_23 rfl (v := nI 0) (by first | rfl | decide) ?_
  refine PW_iconst (pc' := 25) dX6_searchBest_24 rfl (v := nI 0) (by first | rfl | decide) ?_
  refine PW_iconst (pc' := 26) dX6_searchBest_25 rfl (v := nI 0) (by first | rfl | decide) ?_
  refine PW_callS5w (pc' := 29) dX6_searchBest_26 rfl oX6_walk lX6_151 (Nat.le_of_ble_eq_true rfl) (c_X6_walk (κ := (w, 30, fun _ => 0, fun _ => 0)) hok hw 6 d 0 _ s_N 0 0 s_S0 (by decide) (hH.fr hF1 (by decide) (by decide)) hK2 hS2 (s_row0 _ _ _ _) (by decide) (by decide) (by decide)) (fun M2 hM2 => ?_)
  obtain ⟨hS3, hK3, hF3, hR3⟩ := hM2
  refine PW_return dX6_searchBest_29 rfl ?_
  exact ⟨rfl, hS3, hF1.tr (hF3.sub (by decide))⟩
set_option maxHeartbeats 4000000 in
theorem c_X6_searchRead {Γ : pv_G} {d : Nat} {M : pv_M} {H : s_H} {rd : s_R} (hH : HX M H) (hR : RX M H.1 rd) : Ct Γ (d + 10) vX6_searchRead [.ref 0] M (fun r M' => r = none ∧ (SX M' (s_read H rd) ∧ fr s_22 M M')) := by
  have hok := hH.1
  refine Ct.of oX6_searchRead.1 rfl (pad := 0) rfl ?_
  show PW Γ (d + 10) vX6_searchRead 0 [.ref 0] [] M _
  refine PW_aload0 (pc' := 1) dX6_searchRead_0 rfl ?_
  refine PW_getR (pc' := 4) dX6_searchRead_1 rfl fX6_35 rfl rfl ?_
  refine PW_callV0w (pc' := 7) dX6_searchRead_4 rfl oX2_clear lX6_145 rfl rfl rfl (Nat.le_of_ble_eq_true rfl) (c_X2_clear) (fun M1 hM1 => ?_)
  obtain ⟨hS1, hK1, hF1⟩ := hM1
  refine PW_aload0 (pc' := 8) dX6_searchRead_7 rfl ?_
  refine PW_getR (pc' := 11) dX6_searchRead_8 rfl fX6_28 rfl rfl ?_
  refine PW_aload0 (pc' := 12) dX6_searchRead_11 rfl ?_
  refine PW_getR (pc' := 15) dX6_searchRead_12 rfl fX6_35 rfl rfl ?_
  refine PW_callV1w (pc' := 18) dX6_searchRead_15 rfl oX1_bind lX6_240 rfl rfl rfl (Nat.le_of_ble_eq_true rfl) (c_X1_bind hok.1 (hR.fr hF1 (by decide)) (fun h hh => ⟨(hK1.2.2.2 h hh).1, (hK1.2.2.2 h hh).2.2.1⟩)) (fun M2 hM2 => ?_)
  obtain ⟨hF2, hB⟩ := hM2
  have hF12 : fr s_22 M M2 := hF1.tr (hF2.sub (by decide))
  have hS2 : SX M2 s_S0 := hS1.fr hF2 (by decide)
  have hK2 : KX M2 (none, 30, fun h => s_mask rd true h rd.1, fun h => s_mask rd false h rd.1) := by
    obtain ⟨a, b, c, e⟩ := hK1
    exact ⟨by rw [hF2 21 (by decide)]; exact a, by rw [hF2 21 (by decide)]; exact b, c, fun x hx => ⟨(hB x hx).1, s_mask_lt hok.1 _ (fun i hi => (hR.2.2 i hi).1.2), (hB x hx).2, s_mask_lt hok.1 _ (fun i hi => (hR.2.2 i hi).1.2)⟩⟩
  refine PW_aload0 (pc' := 19) dX6_searchRead_18 rfl ?_
  refine PW_getR (pc' := 22) dX6_searchRead_19 rfl fX6_35 rfl rfl ?_
  refine PW_aload0 (pc' := 23) dX6_searchRead_22 rfl ?_
  refine PW_getR (pc' := 26) dX6_searchRead_23 rfl fX6_21 rfl rfl ?_
  refine PW_iconst (pc' := 27) dX6_searchRead_26 rfl (v := nI 0) (by first | rfl | decide) ?_
  refine PW_iconst (pc' := 28) dX6_searchRead_27 rfl (v := nI 0) (by first | rfl | decide) ?_
  refine PW_iconst (pc' := 29) dX6_searchRead_28 rfl (v := nI 0) (by first | rfl | decide) ?_
  refine PW_callS5w (pc' := 32) dX6_searchRead_29 rfl oX6_walk lX6_151 (Nat.le_of_ble_eq_true rfl) (c_X6_walk (κ := (none, 30, fun h => s_mask rd true h rd.1, fun h => s_mask rd false h rd.1)) hok (fun x hx => by cases hx) 6 d 0 _ s_N 0 0 s_S0 (by decide) (hH.fr hF12 (by decide) (by decide)) hK2 hS2 (s_row0 _ _ _ _) (by decide) (by decide) (by decide)) (fun M3 hM3 => ?_)
  obtain ⟨hS3, hK3, hF3, hR3⟩ := hM3
  refine PW_return dX6_searchRead_32 rfl ?_
  exact ⟨rfl, hS3, hF12.tr (hF3.sub (by decide))⟩
/-- in how many of the first k hours thing t is taken -/
def s_tk (b : Nat → Option Nat) (t : Nat) : Nat → Nat
  | 0 => 0
  | k + 1 => if b k = some t then s_tk b t k + 1 else s_tk b t k
theorem s_tk_le (b : Nat → Option Nat) (t : Nat) : ∀ k, s_tk b t k ≤ k
  | 0 => Nat.le_refl _
  | k + 1 => by
    have := s_tk_le b t k
    simp only [s_tk]
    split <;> omega
/-- the rows that a search keeps hold things of the house -/
def s_in (n : Nat) (σ : s_S) : Prop := ∀ h t, (σ.2.1 h = some t → t < n) ∧ (σ.2.2.1 h = some t → t < n)
theorem s_ext_in {p : Nat → Option Nat} {n h : Nat} {o : Option Nat} (hp : ∀ x t, p x = some t → t < n) (ho : ∀ t, o = some t → t < n) : ∀ x t, s_ext p h o x = some t → t < n := by
  intro x t hx
  unfold s_ext at hx
  split at hx
  · exact ho t hx
  · exact hp x t hx
theorem s_note_in {n h t b : Nat} {σ : s_S} (hσ : s_in n σ) : s_in n (s_note h t b σ) := by
  unfold s_note
  split
  · exact hσ
  · exact hσ
theorem s_arr_in {n pen tk ms : Nat} {κ : s_K} {p : Nat → Option Nat} {σ : s_S} (hp : ∀ x t, p x = some t → t < n) (hσ : s_in n σ) : s_in n (s_arr κ pen p tk ms σ) := by
  intro h t
  simp only [s_arr]
  refine ⟨fun q => ?_, fun q => ?_⟩
  · split at q
    · exact hp h t q
    · exact (hσ h t).1 q
  · split at q
    · exact hp h t q
    · exact (hσ h t).2 q
theorem s_all_in {W : (Nat → Option Nat) → Nat → Nat → s_S → s_S} {H : s_H} {κ : s_K} {p : Nat → Option Nat} {h tk ms : Nat} {σ : s_S} (hW : ∀ p tk ms σ, (∀ x t, p x = some t → t < H.1) → s_in H.1 σ → s_in H.1 (W p tk ms σ)) (hp : ∀ x t, p x = some t → t < H.1) (hσ : s_in H.1 σ) : ∀ j, j ≤ H.1 → s_in H.1 (s_all W H κ p h tk ms σ j)
  | 0, _ => by
    simp only [s_all, List.range_zero, List.foldl_nil, s_non]
    split
    · exact s_note_in (hW _ _ _ _ (s_ext_in hp (fun t ht => by cases ht)) hσ)
    · exact hσ
  | j + 1, hj => by
    have ih := s_all_in (κ := κ) (h := h) (tk := tk) (ms := ms) hW hp hσ j (by omega)
    rw [s_all_succ]
    unfold s_one
    split
    · exact s_note_in (hW _ _ _ _ (s_ext_in hp (fun t ht => by cases ht; omega)) ih)
    · exact ih
theorem s_walk_in {H : s_H} {κ : s_K} : ∀ m p tk ms σ, (∀ x t, p x = some t → t < H.1) → s_in H.1 σ → s_in H.1 (s_walk H κ m p tk ms σ)
  | 0, p, tk, ms, σ, hp, hσ => s_arr_in hp hσ
  | m + 1, p, tk, ms, σ, hp, hσ => s_all_in (fun p tk ms σ => s_walk_in m p tk ms σ) hp hσ H.1 (Nat.le_refl _)
theorem s_S0_in (n : Nat) : s_in n s_S0 := fun h t => ⟨fun q => (by cases q), fun q => (by cases q)⟩
theorem s_best_in (H : s_H) (w : Option Nat) : s_in H.1 (s_best H w) := s_walk_in 6 _ _ _ _ (fun x t q => by cases q) (s_S0_in _)
theorem s_read_in (H : s_H) (rd : s_R) : s_in H.1 (s_read H rd) := s_walk_in 6 _ _ _ _ (fun x t q => by cases q) (s_S0_in _)
def s_takes (H : s_H) (t : Nat) : Nat := s_tk (s_best H none).2.2.1 t 6
set_option maxHeartbeats 4000000 in
theorem l_X6_takesByBest {Γ : pv_G} {d t : Nat} {M0 M : pv_M} {H : s_H} (hn5 : H.1 ≤ 5) (ht : t < H.1) (hS : SX M (s_best H none)) (hF : fr s_22 M0 M) : ∀ (m j : Nat), j + m = 6 →
    PW Γ (d + 11) vX6_takesByBest 10 [.ref 0, .int (nI t), .int (nI (s_tk (s_best H none).2.2.1 t j)), .int (nI j)] [] M (fun r M' => r = some (.int (nI (s_takes H t))) ∧ fr s_22 M0 M') := by
  obtain ⟨-, -, -, -, hb⟩ := id hS
  intro m
  induction m using Nat.strongRecOn with
  | ind m ih =>
    intro j hjm
    refine PW_iload3 (pc' := 11) dX6_takesByBest_10 rfl ?_
    refine PW_bipush (pc' := 13) dX6_takesByBest_11 rfl (v := nI 6) (by first | rfl | decide) ?_
    refine PW_icmp_ge (tgt := 38) (pc' := 16) dX6_takesByBest_13 rfl rfl (fun h13 => ?_) (fun h13 => ?_)
    · have hj : j = 6 := by have := s_bge (by omega) (by omega) h13; omega
      subst hj
      refine PW_iload2 (pc' := 39) dX6_takesByBest_38 rfl ?_
      exact PW_ireturn .int dX6_takesByBest_39 rfl rfl ⟨rfl, hF⟩
    · have hj : j < 6 := s_bnd (by omega) (by omega) h13
      have hin := s_best_in H none j
      refine PW_aload0 (pc' := 17) dX6_takesByBest_16 rfl ?_
      refine PW_getR (pc' := 20) dX6_takesByBest_17 rfl fX6_35 rfl rfl ?_
      refine PW_getR (pc' := 23) dX6_takesByBest_20 rfl fX6_142 rfl rfl ?_
      refine PW_iload3 (pc' := 24) dX6_takesByBest_23 rfl ?_
      refine PW_ialdn (pc' := 25) dX6_takesByBest_24 rfl rfl rfl (by omega) ?_
      rw [(hb j hj).2.1]
      refine PW_iload1 (pc' := 26) dX6_takesByBest_25 rfl ?_
      refine PW_icmp_ne (tgt := 32) (pc' := 29) dX6_takesByBest_26 rfl rfl (fun h26 => ?_) (fun h26 => ?_)
      · have e : s_tk (s_best H none).2.2.1 t (j + 1) = s_tk (s_best H none).2.2.1 t j := by simp only [s_tk]; rw [if_neg (fun z => h26 ((s_rI_eq hn5 ht (fun x => (hin x).2)).mpr z))]
        refine PW_iinc3 (pc' := 35) dX6_takesByBest_32 rfl rfl rfl nI_inc ?_
        refine PW_goto (tgt := 10) dX6_takesByBest_35 rfl ?_
        rw [← e]
        exact ih (m - 1) (by omega) (j + 1) (by omega)
      · have e : s_tk (s_best H none).2.2.1 t (j + 1) = s_tk (s_best H none).2.2.1 t j + 1 := by simp only [s_tk]; rw [if_pos ((s_rI_eq hn5 ht (fun x => (hin x).2)).mp h26)]
        refine PW_iinc2 (pc' := 32) dX6_takesByBest_29 rfl rfl rfl nI_inc ?_
        refine PW_iinc3 (pc' := 35) dX6_takesByBest_32 rfl rfl rfl nI_inc ?_
        refine PW_goto (tgt := 10) dX6_takesByBest_35 rfl ?_
        rw [← e]
        exact ih (m - 1) (by omega) (j + 1) (by omega)
set_option maxHeartbeats 4000000 in
theorem c_X6_takesByBest {Γ : pv_G} {d : Nat} {M : pv_M} {t : Nat} {H : s_H} (ht : t < H.1) (hH : HX M H) : Ct Γ (d + 11) vX6_takesByBest [.ref 0, .int (nI t)] M (fun r M' => r = some (.int (nI (s_takes H t))) ∧ fr s_22 M M') := by
  have hok := hH.1
  refine Ct.of oX6_takesByBest.1 rfl (pad := 2) rfl ?_
  show PW Γ (d + 11) vX6_takesByBest 0 [.ref 0, .int (nI t), .null, .null] [] M _
  refine PW_aload0 (pc' := 1) dX6_takesByBest_0 rfl ?_
  refine PW_bipush (pc' := 3) dX6_takesByBest_1 rfl (v := s_rI none) (by first | rfl | decide) ?_
  refine PW_callV1w (pc' := 6) dX6_takesByBest_3 rfl oX6_searchBest lX6_135 rfl rfl rfl (Nat.le_of_ble_eq_true rfl) (c_X6_searchBest (w := none) (fun x hx => by cases hx) hH) (fun M1 hM1 => ?_)
  obtain ⟨hS1, hF1⟩ := hM1
  refine PW_iconst (pc' := 7) dX6_takesByBest_6 rfl (v := nI (s_tk (s_best H none).2.2.1 t 0)) (by first | rfl | decide) ?_
  refine PW_istore2 (pc' := 8) dX6_takesByBest_7 rfl rfl rfl ?_
  refine PW_iconst (pc' := 9) dX6_takesByBest_8 rfl (v := nI 0) (by first | rfl | decide) ?_
  refine PW_istore3 (pc' := 10) dX6_takesByBest_9 rfl rfl rfl ?_
  exact l_X6_takesByBest hok.1 ht hS1 hF1 6 0 (by omega)
def s_rng (x : Int32) (lo hi : Int) : Bool := decide (lo ≤ x.toInt) && decide (x.toInt ≤ hi)
theorem s_rng_of {x : Int32} {n : Nat} (h : s_rng x 0 n = true) : ∃ j, j ≤ n ∧ x = nI j := by
  simp only [s_rng, Bool.and_eq_true, decide_eq_true_eq] at h
  have hb := x.toInt_lt
  refine ⟨x.toInt.toNat, by omega, Int32.toInt_inj.mp ?_⟩
  rw [nI_toInt (by omega)]
  omega
theorem s_rng_nI {n j : Nat} (hj : j ≤ n) (hn : n < 2 ^ 31) : s_rng (nI j) 0 n = true := by
  simp only [s_rng, Bool.and_eq_true, decide_eq_true_eq]
  rw [nI_toInt (by omega)]
  omega
theorem z_lt {x : Int32} : x < 0 ↔ x.toInt < 0 := by
  rw [Int32.lt_iff_toInt_lt]
  rfl
theorem z_ge {x : Int32} {n : Nat} (hn : n < 2 ^ 31) : nI n ≤ x ↔ (n : Int) ≤ x.toInt := by
  rw [Int32.le_iff_toInt_le, nI_toInt hn]
theorem z_gt {x : Int32} {n : Nat} (hn : n < 2 ^ 31) : nI n < x ↔ (n : Int) < x.toInt := by
  rw [Int32.lt_iff_toInt_lt, nI_toInt hn]
set_option maxHeartbeats 4000000 in
theorem c_X6_isSheet {Γ : pv_G} {d : Nat} {M : pv_M} {x : Int32} : Ct Γ d vX6_isSheet [.int x] M (pv_fn (some (.int (bi (s_rng x 0 3)))) M) := by
  refine Ct.of oX6_isSheet.1 rfl (pad := 0) rfl ?_
  show PW Γ d vX6_isSheet 0 [.int x] [] M _
  refine PW_iload0 (pc' := 1) dX6_isSheet_0 rfl ?_
  refine PW_if_lt (tgt := 13) (pc' := 4) dX6_isSheet_1 rfl rfl (fun h1 => ?_) (fun h1 => ?_)
  · refine PW_iconst (pc' := 14) dX6_isSheet_13 rfl (v := 0) (by first | rfl | decide) ?_
    refine PW_ireturn .boolean dX6_isSheet_14 rfl (by first | rfl | exact bi_nar _) ?_
    refine ⟨?_, rfl⟩
    first
      | rw [bi_zero (show s_rng x 0 3 = false by rw [z_lt] at h1; simp only [s_rng, Bool.and_eq_false_iff, decide_eq_false_iff_not]; omega)]
      | rw [bi_zero (show s_rng x 0 3 = false by rw [z_ge (by decide)] at h6; simp only [s_rng, Bool.and_eq_false_iff, decide_eq_false_iff_not]; omega)]
      | rw [bi_one (show s_rng x 0 3 = true by rw [z_lt] at h1; rw [z_ge (by decide)] at h6; simp only [s_rng, Bool.and_eq_true, decide_eq_true_eq]; omega)]
  · refine PW_iload0 (pc' := 5) dX6_isSheet_4 rfl ?_
    refine PW_iconst (pc' := 6) dX6_isSheet_5 rfl (v := nI 4) (by first | rfl | decide) ?_
    refine PW_icmp_ge (tgt := 13) (pc' := 9) dX6_isSheet_6 rfl rfl (fun h6 => ?_) (fun h6 => ?_)
    · refine PW_iconst (pc' := 14) dX6_isSheet_13 rfl (v := 0) (by first | rfl | decide) ?_
      refine PW_ireturn .boolean dX6_isSheet_14 rfl (by first | rfl | exact bi_nar _) ?_
      refine ⟨?_, rfl⟩
      first
        | rw [bi_zero (show s_rng x 0 3 = false by rw [z_lt] at h1; simp only [s_rng, Bool.and_eq_false_iff, decide_eq_false_iff_not]; omega)]
        | rw [bi_zero (show s_rng x 0 3 = false by rw [z_ge (by decide)] at h6; simp only [s_rng, Bool.and_eq_false_iff, decide_eq_false_iff_not]; omega)]
        | rw [bi_one (show s_rng x 0 3 = true by rw [z_lt] at h1; rw [z_ge (by decide)] at h6; simp only [s_rng, Bool.and_eq_true, decide_eq_true_eq]; omega)]
    · refine PW_iconst (pc' := 10) dX6_isSheet_9 rfl (v := 1) (by first | rfl | decide) ?_
      refine PW_goto (tgt := 14) dX6_isSheet_10 rfl ?_
      refine PW_ireturn .boolean dX6_isSheet_14 rfl (by first | rfl | exact bi_nar _) ?_
      refine ⟨?_, rfl⟩
      first
        | rw [bi_zero (show s_rng x 0 3 = false by rw [z_lt] at h1; simp only [s_rng, Bool.and_eq_false_iff, decide_eq_false_iff_not]; omega)]
        | rw [bi_zero (show s_rng x 0 3 = false by rw [z_ge (by decide)] at h6; simp only [s_rng, Bool.and_eq_false_iff, decide_eq_false_iff_not]; omega)]
        | rw [bi_one (show s_rng x 0 3 = true by rw [z_lt] at h1; rw [z_ge (by decide)] at h6; simp only [s_rng, Bool.and_eq_true, decide_eq_true_eq]; omega)]
set_option maxHeartbeats 4000000 in
theorem c_X6_isLane {Γ : pv_G} {d : Nat} {M : pv_M} {x : Int32} : Ct Γ d vX6_isLane [.int x] M (pv_fn (some (.int (bi (s_rng x 0 2)))) M) := by
  refine Ct.of oX6_isLane.1 rfl (pad := 0) rfl ?_
  show PW Γ d vX6_isLane 0 [.int x] [] M _
  refine PW_iload0 (pc' := 1) dX6_isLane_0 rfl ?_
  refine PW_if_lt (tgt := 13) (pc' := 4) dX6_isLane_1 rfl rfl (fun h1 => ?_) (fun h1 => ?_)
  · refine PW_iconst (pc' := 14) dX6_isLane_13 rfl (v := 0) (by first | rfl | decide) ?_
    refine PW_ireturn .boolean dX6_isLane_14 rfl (by first | rfl | exact bi_nar _) ?_
    refine ⟨?_, rfl⟩
    first
      | rw [bi_zero (show s_rng x 0 2 = false by rw [z_lt] at h1; simp only [s_rng, Bool.and_eq_false_iff, decide_eq_false_iff_not]; omega)]
      | rw [bi_zero (show s_rng x 0 2 = false by rw [z_ge (by decide)] at h6; simp only [s_rng, Bool.and_eq_false_iff, decide_eq_false_iff_not]; omega)]
      | rw [bi_one (show s_rng x 0 2 = true by rw [z_lt] at h1; rw [z_ge (by decide)] at h6; simp only [s_rng, Bool.and_eq_true, decide_eq_true_eq]; omega)]
  · refine PW_iload0 (pc' := 5) dX6_isLane_4 rfl ?_
    refine PW_iconst (pc' := 6) dX6_isLane_5 rfl (v := nI 3) (by first | rfl | decide) ?_
    refine PW_icmp_ge (tgt := 13) (pc' := 9) dX6_isLane_6 rfl rfl (fun h6 => ?_) (fun h6 => ?_)
    · refine PW_iconst (pc' := 14) dX6_isLane_13 rfl (v := 0) (by first | rfl | decide) ?_
      refine PW_ireturn .boolean dX6_isLane_14 rfl (by first | rfl | exact bi_nar _) ?_
      refine ⟨?_, rfl⟩
      first
        | rw [bi_zero (show s_rng x 0 2 = false by rw [z_lt] at h1; simp only [s_rng, Bool.and_eq_false_iff, decide_eq_false_iff_not]; omega)]
        | rw [bi_zero (show s_rng x 0 2 = false by rw [z_ge (by decide)] at h6; simp only [s_rng, Bool.and_eq_false_iff, decide_eq_false_iff_not]; omega)]
        | rw [bi_one (show s_rng x 0 2 = true by rw [z_lt] at h1; rw [z_ge (by decide)] at h6; simp only [s_rng, Bool.and_eq_true, decide_eq_true_eq]; omega)]
    · refine PW_iconst (pc' := 10) dX6_isLane_9 rfl (v := 1) (by first | rfl | decide) ?_
      refine PW_goto (tgt := 14) dX6_isLane_10 rfl ?_
      refine PW_ireturn .boolean dX6_isLane_14 rfl (by first | rfl | exact bi_nar _) ?_
      refine ⟨?_, rfl⟩
      first
        | rw [bi_zero (show s_rng x 0 2 = false by rw [z_lt] at h1; simp only [s_rng, Bool.and_eq_false_iff, decide_eq_false_iff_not]; omega)]
        | rw [bi_zero (show s_rng x 0 2 = false by rw [z_ge (by decide)] at h6; simp only [s_rng, Bool.and_eq_false_iff, decide_eq_false_iff_not]; omega)]
        | rw [bi_one (show s_rng x 0 2 = true by rw [z_lt] at h1; rw [z_ge (by decide)] at h6; simp only [s_rng, Bool.and_eq_true, decide_eq_true_eq]; omega)]
set_option maxHeartbeats 4000000 in
theorem c_X6_isHour {Γ : pv_G} {d : Nat} {M : pv_M} {x : Int32} : Ct Γ d vX6_isHour [.int x] M (pv_fn (some (.int (bi (s_rng x 0 5)))) M) := by
  refine Ct.of oX6_isHour.1 rfl (pad := 0) rfl ?_
  show PW Γ d vX6_isHour 0 [.int x] [] M _
  refine PW_iload0 (pc' := 1) dX6_isHour_0 rfl ?_
  refine PW_if_lt (tgt := 14) (pc' := 4) dX6_isHour_1 rfl rfl (fun h1 => ?_) (fun h1 => ?_)
  · refine PW_iconst (pc' := 15) dX6_isHour_14 rfl (v := 0) (by first | rfl | decide) ?_
    refine PW_ireturn .boolean dX6_isHour_15 rfl (by first | rfl | exact bi_nar _) ?_
    refine ⟨?_, rfl⟩
    first
      | rw [bi_zero (show s_rng x 0 5 = false by rw [z_lt] at h1; simp only [s_rng, Bool.and_eq_false_iff, decide_eq_false_iff_not]; omega)]
      | rw [bi_zero (show s_rng x 0 5 = false by rw [z_ge (by decide)] at h7; simp only [s_rng, Bool.and_eq_false_iff, decide_eq_false_iff_not]; omega)]
      | rw [bi_one (show s_rng x 0 5 = true by rw [z_lt] at h1; rw [z_ge (by decide)] at h7; simp only [s_rng, Bool.and_eq_true, decide_eq_true_eq]; omega)]
  · refine PW_iload0 (pc' := 5) dX6_isHour_4 rfl ?_
    refine PW_bipush (pc' := 7) dX6_isHour_5 rfl (v := nI 6) (by first | rfl | decide) ?_
    refine PW_icmp_ge (tgt := 14) (pc' := 10) dX6_isHour_7 rfl rfl (fun h7 => ?_) (fun h7 => ?_)
    · refine PW_iconst (pc' := 15) dX6_isHour_14 rfl (v := 0) (by first | rfl | decide) ?_
      refine PW_ireturn .boolean dX6_isHour_15 rfl (by first | rfl | exact bi_nar _) ?_
      refine ⟨?_, rfl⟩
      first
        | rw [bi_zero (show s_rng x 0 5 = false by rw [z_lt] at h1; simp only [s_rng, Bool.and_eq_false_iff, decide_eq_false_iff_not]; omega)]
        | rw [bi_zero (show s_rng x 0 5 = false by rw [z_ge (by decide)] at h7; simp only [s_rng, Bool.and_eq_false_iff, decide_eq_false_iff_not]; omega)]
        | rw [bi_one (show s_rng x 0 5 = true by rw [z_lt] at h1; rw [z_ge (by decide)] at h7; simp only [s_rng, Bool.and_eq_true, decide_eq_true_eq]; omega)]
    · refine PW_iconst (pc' := 11) dX6_isHour_10 rfl (v := 1) (by first | rfl | decide) ?_
      refine PW_goto (tgt := 15) dX6_isHour_11 rfl ?_
      refine PW_ireturn .boolean dX6_isHour_15 rfl (by first | rfl | exact bi_nar _) ?_
      refine ⟨?_, rfl⟩
      first
        | rw [bi_zero (show s_rng x 0 5 = false by rw [z_lt] at h1; simp only [s_rng, Bool.and_eq_false_iff, decide_eq_false_iff_not]; omega)]
        | rw [bi_zero (show s_rng x 0 5 = false by rw [z_ge (by decide)] at h7; simp only [s_rng, Bool.and_eq_false_iff, decide_eq_false_iff_not]; omega)]
        | rw [bi_one (show s_rng x 0 5 = true by rw [z_lt] at h1; rw [z_ge (by decide)] at h7; simp only [s_rng, Bool.and_eq_true, decide_eq_true_eq]; omega)]
set_option maxHeartbeats 4000000 in
theorem c_X6_answerFault {Γ : pv_G} {d : Nat} {M : pv_M} {x : Int32} : Ct Γ d vX6_answerFault [.ref 0, .int x] M (pv_fn (some (.int (-10 - x))) (pv_up M 0 5 x)) := by
  refine Ct.of oX6_answerFault.1 rfl (pad := 0) rfl ?_
  show PW Γ d vX6_answerFault 0 [.ref 0, .int x] [] M _
  refine PW_aload0 (pc' := 1) dX6_answerFault_0 rfl ?_
  refine PW_iload1 (pc' := 2) dX6_answerFault_1 rfl ?_
  refine PW_putI (pc' := 5) dX6_answerFault_2 rfl fX6_43 w5_5 rfl rfl ?_
  refine PW_bipush (pc' := 7) dX6_answerFault_5 rfl (v := -10) (by first | rfl | decide) ?_
  refine PW_iload1 (pc' := 8) dX6_answerFault_7 rfl ?_
  refine PW_isub (pc' := 9) dX6_answerFault_8 rfl ?_
  refine PW_ireturn .int dX6_answerFault_9 rfl rfl ?_
  exact ⟨rfl, rfl⟩
set_option maxHeartbeats 4000000 in
theorem c_X6_leave {Γ : pv_G} {d : Nat} {M : pv_M} {x : Int32} : Ct Γ d vX6_leave [.ref 0, .int x] M (pv_fn none (pv_up M 0 6 (31 * M 0 6 + x))) := by
  refine Ct.of oX6_leave.1 rfl (pad := 0) rfl ?_
  show PW Γ d vX6_leave 0 [.ref 0, .int x] [] M _
  refine PW_aload0 (pc' := 1) dX6_leave_0 rfl ?_
  refine PW_bipush (pc' := 3) dX6_leave_1 rfl (v := 31) (by first | rfl | decide) ?_
  refine PW_aload0 (pc' := 4) dX6_leave_3 rfl ?_
  refine PW_getI (pc' := 7) dX6_leave_4 rfl fX6_234 rfl rfl ?_
  refine PW_imul (pc' := 8) dX6_leave_7 rfl ?_
  refine PW_iload1 (pc' := 9) dX6_leave_8 rfl ?_
  refine PW_iadd (pc' := 10) dX6_leave_9 rfl ?_
  refine PW_putI (pc' := 13) dX6_leave_10 rfl fX6_234 w5_6 rfl rfl ?_
  refine PW_return dX6_leave_13 rfl ?_
  exact ⟨rfl, rfl⟩
end
section
/-! the class: a text, told code by code -/
def v_dig (c lo hi : Int32) : Bool := !decide (c < 48 + lo) && !decide (48 + hi < c)
def s_goes (p : Nat) (bf c : Int32) : Bool :=
  if p = 0 then decide (c = 117) else if p = 1 then v_dig c 0 9 else if 37 ≤ p then false else
  if (p - 2) % 7 = 0 then decide (c = 59) else if (p - 2) % 7 = 1 then (decide (c = 116) || (decide (c = 104) || decide (c = 108))) else if (p - 2) % 7 = 2 then v_dig c 0 3 else
  if (p - 2) % 7 = 3 then v_dig c 1 9 else if (p - 2) % 7 = 4 then v_dig c 1 6 else if (p - 2) % 7 = 5 then v_dig c 0 6 else v_dig c 0 (if bf = 54 then 3 else 9)
def s_ffl (c : Nat → Int32) : Nat → Option Nat
  | 0 => none
  | k + 1 => match s_ffl c k with
    | some p => some p
    | none => if s_goes k (if k = 0 then 0 else c (k - 1)) (c k) = true then none else some k
def s_ff (c : Nat → Int32) (n : Nat) : Option Nat := match s_ffl c n with
  | some p => some p
  | none => if 2 < n ∧ (n - 2) % 7 = 0 then none else some n
theorem v_rem7 : ∀ a, a < 64 → nI a - nI a / 7 * 7 = nI (a % 7) := by decide +kernel
theorem v_div7 : ∀ a, a < 64 → nI a / 7 = nI (a / 7) := by decide +kernel
theorem v_sub2 : ∀ a, a < 64 → 2 ≤ a → nI a - 2 = nI (a - 2) := by decide +kernel
set_option maxHeartbeats 4000000 in
theorem c_X4_isDigit {Γ : pv_G} {d : Nat} {M : pv_M} {c lo hi : Int32} : Ct Γ d vX4_isDigit [.int c, .int lo, .int hi] M (pv_fn (some (.int (bi (v_dig c lo hi)))) M) := by
  refine Ct.of oX4_isDigit.1 rfl (pad := 0) rfl ?_
  show PW Γ d vX4_isDigit 0 [.int c, .int lo, .int hi] [] M _
  refine PW_iload0 (pc' := 1) dX4_isDigit_0 rfl ?_
  refine PW_bipush (pc' := 3) dX4_isDigit_1 rfl (v := 48) (by first | rfl | decide) ?_
  refine PW_iload1 (pc' := 4) dX4_isDigit_3 rfl ?_
  refine PW_iadd (pc' := 5) dX4_isDigit_4 rfl ?_
  refine PW_icmp_lt (tgt := 20) (pc' := 8) dX4_isDigit_5 rfl rfl (fun h5 => ?_) (fun h5 => ?_)
  · refine PW_iconst (pc' := 21) dX4_isDigit_20 rfl (v := 0) (by first | rfl | decide) ?_
    refine PW_ireturn .boolean dX4_isDigit_21 rfl (by first | rfl | exact bi_nar _) ?_
    refine ⟨?_, rfl⟩
    first | rw [bi_zero (show v_dig c lo hi = false by simp_all [v_dig])] | rw [bi_one (show v_dig c lo hi = true by simp_all [v_dig])]
  · refine PW_iload0 (pc' := 9) dX4_isDigit_8 rfl ?_
    refine PW_bipush (pc' := 11) dX4_isDigit_9 rfl (v := 48) (by first | rfl | decide) ?_
    refine PW_iload2 (pc' := 12) dX4_isDigit_11 rfl ?_
    refine PW_iadd (pc' := 13) dX4_isDigit_12 rfl ?_
    refine PW_icmp_gt (tgt := 20) (pc' := 16) dX4_isDigit_13 rfl rfl (fun h13 => ?_) (fun h13 => ?_)
    · refine PW_iconst (pc' := 21) dX4_isDigit_20 rfl (v := 0) (by first | rfl | decide) ?_
      refine PW_ireturn .boolean dX4_isDigit_21 rfl (by first | rfl | exact bi_nar _) ?_
      refine ⟨?_, rfl⟩
      first | rw [bi_zero (show v_dig c lo hi = false by simp_all [v_dig])] | rw [bi_one (show v_dig c lo hi = true by simp_all [v_dig])]
    · refine PW_iconst (pc' := 17) dX4_isDigit_16 rfl (v := 1) (by first | rfl | decide) ?_
      refine PW_goto (tgt := 21) dX4_isDigit_17 rfl ?_
      refine PW_ireturn .boolean dX4_isDigit_21 rfl (by first | rfl | exact bi_nar _) ?_
      refine ⟨?_, rfl⟩
      first | rw [bi_zero (show v_dig c lo hi = false by simp_all [v_dig])] | rw [bi_one (show v_dig c lo hi = true by simp_all [v_dig])]
set_option maxHeartbeats 4000000 in
theorem c_X4_goesOn {Γ : pv_G} {d : Nat} {M : pv_M} {p : Nat} {bf c : Int32} (hp : p < 64) : Ct Γ (d + 1) vX4_goesOn [.int (nI p), .int bf, .int c] M (pv_fn (some (.int (bi (s_goes p bf c)))) M) := by
  refine Ct.of oX4_goesOn.1 rfl (pad := 0) rfl ?_
  show PW Γ (d + 1) vX4_goesOn 0 [.int (nI p), .int bf, .int c] [] M _
  refine PW_iload0 (pc' := 1) dX4_goesOn_0 rfl ?_
  refine PW_if_ne (tgt := 16) (pc' := 4) dX4_goesOn_1 rfl rfl (fun h1 => ?_) (fun h1 => ?_)
  · have hp1 : p ≠ 0 := fun z => h1 (by rw [z]; rfl)
    refine PW_iload0 (pc' := 17) dX4_goesOn_16 rfl ?_
    refine PW_iconst (pc' := 18) dX4_goesOn_17 rfl (v := 1) (by first | rfl | decide) ?_
    refine PW_icmp_ne (tgt := 29) (pc' := 21) dX4_goesOn_18 rfl rfl (fun h18 => ?_) (fun h18 => ?_)
    · have hp2 : p ≠ 1 := fun z => h18 (by rw [z]; rfl)
      refine PW_iload0 (pc' := 30) dX4_goesOn_29 rfl ?_
      refine PW_bipush (pc' := 32) dX4_goesOn_30 rfl (v := 37) (by first | rfl | decide) ?_
      refine PW_icmp_lt (tgt := 37) (pc' := 35) dX4_goesOn_32 rfl rfl (fun h32 => ?_) (fun h32 => ?_)
      · have hp3 : p < 37 := (nI_ltI (b := 37) (by omega) (by decide)).mp h32
        refine PW_iload0 (pc' := 38) dX4_goesOn_37 rfl ?_
        refine PW_iconst (pc' := 39) dX4_goesOn_38 rfl (v := 2) (by first | rfl | decide) ?_
        refine PW_isub (pc' := 40) dX4_goesOn_39 rfl ?_
        rw [v_sub2 p hp (by omega)]
        refine PW_bipush (pc' := 42) dX4_goesOn_40 rfl (v := 7) (by first | rfl | decide) ?_
        refine PW_irem (pc' := 43) dX4_goesOn_42 rfl (by decide) ?_
        rw [v_rem7 _ (by omega)]
        by_cases e43_0 : nI ((p - 2) % 7) = 0
        · rw [e43_0]
          refine PW_tin (tgt := 80) dX4_goesOn_43 (by decide) (by decide) (by rfl) rfl ?_
          refine PW_iload2 (pc' := 81) dX4_goesOn_80 rfl ?_
          refine PW_bipush (pc' := 83) dX4_goesOn_81 rfl (v := 59) (by first | rfl | decide) ?_
          refine PW_icmp_ne (tgt := 90) (pc' := 86) dX4_goesOn_83 rfl rfl (fun h83 => ?_) (fun h83 => ?_)
          · refine PW_iconst (pc' := 91) dX4_goesOn_90 rfl (v := 0) (by first | rfl | decide) ?_
            refine PW_ireturn .boolean dX4_goesOn_91 rfl (by first | rfl | exact bi_nar _) ?_
            have hq : (p - 2) % 7 = 0 := nI_inj (by omega) (by decide) (e43_0.trans rfl)
            refine ⟨?_, rfl⟩
            first
              | rw [bi_zero (show s_goes p bf c = false by simp_all [s_goes, show ¬ 37 ≤ p by omega])]
              | rw [bi_one (show s_goes p bf c = true by simp_all [s_goes, show ¬ 37 ≤ p by omega])]
          · refine PW_iconst (pc' := 87) dX4_goesOn_86 rfl (v := 1) (by first | rfl | decide) ?_
            refine PW_goto (tgt := 91) dX4_goesOn_87 rfl ?_
            refine PW_ireturn .boolean dX4_goesOn_91 rfl (by first | rfl | exact bi_nar _) ?_
            have hq : (p - 2) % 7 = 0 := nI_inj (by omega) (by decide) (e43_0.trans rfl)
            refine ⟨?_, rfl⟩
            first
              | rw [bi_zero (show s_goes p bf c = false by simp_all [s_goes, show ¬ 37 ≤ p by omega])]
              | rw [bi_one (show s_goes p bf c = true by simp_all [s_goes, show ¬ 37 ≤ p by omega])]
        by_cases e43_1 : nI ((p - 2) % 7) = 1
        · rw [e43_1]
          refine PW_tin (tgt := 92) dX4_goesOn_43 (by decide) (by decide) (by rfl) rfl ?_
          refine PW_iload2 (pc' := 93) dX4_goesOn_92 rfl ?_
          refine PW_bipush (pc' := 95) dX4_goesOn_93 rfl (v := 116) (by first | rfl | decide) ?_
          refine PW_icmp_eq (tgt := 110) (pc' := 98) dX4_goesOn_95 rfl rfl (fun h95 => ?_) (fun h95 => ?_)
          · refine PW_iconst (pc' := 111) dX4_goesOn_110 rfl (v := 1) (by first | rfl | decide) ?_
            refine PW_goto (tgt := 115) dX4_goesOn_111 rfl ?_
            refine PW_ireturn .boolean dX4_goesOn_115 rfl (by first | rfl | exact bi_nar _) ?_
            have hq : (p - 2) % 7 = 1 := nI_inj (by omega) (by decide) (e43_1.trans rfl)
            refine ⟨?_, rfl⟩
            first
              | rw [bi_zero (show s_goes p bf c = false by simp_all [s_goes, show ¬ 37 ≤ p by omega])]
              | rw [bi_one (show s_goes p bf c = true by simp_all [s_goes, show ¬ 37 ≤ p by omega])]
          · refine PW_iload2 (pc' := 99) dX4_goesOn_98 rfl ?_
            refine PW_bipush (pc' := 101) dX4_goesOn_99 rfl (v := 104) (by first | rfl | decide) ?_
            refine PW_icmp_eq (tgt := 110) (pc' := 104) dX4_goesOn_101 rfl rfl (fun h101 => ?_) (fun h101 => ?_)
            · refine PW_iconst (pc' := 111) dX4_goesOn_110 rfl (v := 1) (by first | rfl | decide) ?_
              refine PW_goto (tgt := 115) dX4_goesOn_111 rfl ?_
              refine PW_ireturn .boolean dX4_goesOn_115 rfl (by first | rfl | exact bi_nar _) ?_
              have hq : (p - 2) % 7 = 1 := nI_inj (by omega) (by decide) (e43_1.trans rfl)
              refine ⟨?_, rfl⟩
              first
                | rw [bi_zero (show s_goes p bf c = false by simp_all [s_goes, show ¬ 37 ≤ p by omega])]
                | rw [bi_one (show s_goes p bf c = true by simp_all [s_goes, show ¬ 37 ≤ p by omega])]
            · refine PW_iload2 (pc' := 105) dX4_goesOn_104 rfl ?_
              refine PW_bipush (pc' := 107) dX4_goesOn_105 rfl (v := 108) (by first | rfl | decide) ?_
              refine PW_icmp_ne (tgt := 114) (pc' := 110) dX4_goesOn_107 rfl rfl (fun h107 => ?_) (fun h107 => ?_)
              · refine PW_iconst (pc' := 115) dX4_goesOn_114 rfl (v := 0) (by first | rfl | decide) ?_
                refine PW_ireturn .boolean dX4_goesOn_115 rfl (by first | rfl | exact bi_nar _) ?_
                have hq : (p - 2) % 7 = 1 := nI_inj (by omega) (by decide) (e43_1.trans rfl)
                refine ⟨?_, rfl⟩
                first
                  | rw [bi_zero (show s_goes p bf c = false by simp_all [s_goes, show ¬ 37 ≤ p by omega])]
                  | rw [bi_one (show s_goes p bf c = true by simp_all [s_goes, show ¬ 37 ≤ p by omega])]
              · refine PW_iconst (pc' := 111) dX4_goesOn_110 rfl (v := 1) (by first | rfl | decide) ?_
                refine PW_goto (tgt := 115) dX4_goesOn_111 rfl ?_
                refine PW_ireturn .boolean dX4_goesOn_115 rfl (by first | rfl | exact bi_nar _) ?_
                have hq : (p - 2) % 7 = 1 := nI_inj (by omega) (by decide) (e43_1.trans rfl)
                refine ⟨?_, rfl⟩
                first
                  | rw [bi_zero (show s_goes p bf c = false by simp_all [s_goes, show ¬ 37 ≤ p by omega])]
                  | rw [bi_one (show s_goes p bf c = true by simp_all [s_goes, show ¬ 37 ≤ p by omega])]
        by_cases e43_2 : nI ((p - 2) % 7) = 2
        · rw [e43_2]
          refine PW_tin (tgt := 116) dX4_goesOn_43 (by decide) (by decide) (by rfl) rfl ?_
          refine PW_iload2 (pc' := 117) dX4_goesOn_116 rfl ?_
          refine PW_iconst (pc' := 118) dX4_goesOn_117 rfl (v := 0) (by first | rfl | decide) ?_
          refine PW_iconst (pc' := 119) dX4_goesOn_118 rfl (v := 3) (by first | rfl | decide) ?_
          refine PW_callS3f (pc' := 122) dX4_goesOn_119 rfl oX4_isDigit lX4_15 (Nat.le_of_ble_eq_true rfl) (c_X4_isDigit) ?_
          refine PW_ireturn .boolean dX4_goesOn_122 rfl (by first | rfl | exact bi_nar _) ?_
          have hq : (p - 2) % 7 = 2 := nI_inj (by omega) (by decide) (e43_2.trans rfl)
          exact ⟨by rw [show s_goes p bf c = v_dig c 0 3 by simp [s_goes, hp1, hp2, show ¬ 37 ≤ p by omega, hq]], rfl⟩
        by_cases e43_3 : nI ((p - 2) % 7) = 3
        · rw [e43_3]
          refine PW_tin (tgt := 123) dX4_goesOn_43 (by decide) (by decide) (by rfl) rfl ?_
          refine PW_iload2 (pc' := 124) dX4_goesOn_123 rfl ?_
          refine PW_iconst (pc' := 125) dX4_goesOn_124 rfl (v := 1) (by first | rfl | decide) ?_
          refine PW_bipush (pc' := 127) dX4_goesOn_125 rfl (v := 9) (by first | rfl | decide) ?_
          refine PW_callS3f (pc' := 130) dX4_goesOn_127 rfl oX4_isDigit lX4_15 (Nat.le_of_ble_eq_true rfl) (c_X4_isDigit) ?_
          refine PW_ireturn .boolean dX4_goesOn_130 rfl (by first | rfl | exact bi_nar _) ?_
          have hq : (p - 2) % 7 = 3 := nI_inj (by omega) (by decide) (e43_3.trans rfl)
          exact ⟨by rw [show s_goes p bf c = v_dig c 1 9 by simp [s_goes, hp1, hp2, show ¬ 37 ≤ p by omega, hq]], rfl⟩
        by_cases e43_4 : nI ((p - 2) % 7) = 4
        · rw [e43_4]
          refine PW_tin (tgt := 131) dX4_goesOn_43 (by decide) (by decide) (by rfl) rfl ?_
          refine PW_iload2 (pc' := 132) dX4_goesOn_131 rfl ?_
          refine PW_iconst (pc' := 133) dX4_goesOn_132 rfl (v := 1) (by first | rfl | decide) ?_
          refine PW_bipush (pc' := 135) dX4_goesOn_133 rfl (v := 6) (by first | rfl | decide) ?_
          refine PW_callS3f (pc' := 138) dX4_goesOn_135 rfl oX4_isDigit lX4_15 (Nat.le_of_ble_eq_true rfl) (c_X4_isDigit) ?_
          refine PW_ireturn .boolean dX4_goesOn_138 rfl (by first | rfl | exact bi_nar _) ?_
          have hq : (p - 2) % 7 = 4 := nI_inj (by omega) (by decide) (e43_4.trans rfl)
          exact ⟨by rw [show s_goes p bf c = v_dig c 1 6 by simp [s_goes, hp1, hp2, show ¬ 37 ≤ p by omega, hq]], rfl⟩
        by_cases e43_5 : nI ((p - 2) % 7) = 5
        · rw [e43_5]
          refine PW_tin (tgt := 139) dX4_goesOn_43 (by decide) (by decide) (by rfl) rfl ?_
          refine PW_iload2 (pc' := 140) dX4_goesOn_139 rfl ?_
          refine PW_iconst (pc' := 141) dX4_goesOn_140 rfl (v := 0) (by first | rfl | decide) ?_
          refine PW_bipush (pc' := 143) dX4_goesOn_141 rfl (v := 6) (by first | rfl | decide) ?_
          refine PW_callS3f (pc' := 146) dX4_goesOn_143 rfl oX4_isDigit lX4_15 (Nat.le_of_ble_eq_true rfl) (c_X4_isDigit) ?_
          refine PW_ireturn .boolean dX4_goesOn_146 rfl (by first | rfl | exact bi_nar _) ?_
          have hq : (p - 2) % 7 = 5 := nI_inj (by omega) (by decide) (e43_5.trans rfl)
          exact ⟨by rw [show s_goes p bf c = v_dig c 0 6 by simp [s_goes, hp1, hp2, show ¬ 37 ≤ p by omega, hq]], rfl⟩
        refine PW_tout (tgt := 147) dX4_goesOn_43 (ts_out5 e43_0 e43_1 e43_2 e43_3 e43_4 e43_5) rfl ?_
        refine PW_iload2 (pc' := 148) dX4_goesOn_147 rfl ?_
        refine PW_iconst (pc' := 149) dX4_goesOn_148 rfl (v := 0) (by first | rfl | decide) ?_
        refine PW_iload1 (pc' := 150) dX4_goesOn_149 rfl ?_
        refine PW_bipush (pc' := 152) dX4_goesOn_150 rfl (v := 54) (by first | rfl | decide) ?_
        refine PW_icmp_ne (tgt := 159) (pc' := 155) dX4_goesOn_152 rfl rfl (fun h152 => ?_) (fun h152 => ?_)
        · refine PW_bipush (pc' := 161) dX4_goesOn_159 rfl (v := 9) (by first | rfl | decide) ?_
          refine PW_callS3f (pc' := 164) dX4_goesOn_161 rfl oX4_isDigit lX4_15 (Nat.le_of_ble_eq_true rfl) (c_X4_isDigit) ?_
          refine PW_ireturn .boolean dX4_goesOn_164 rfl (by first | rfl | exact bi_nar _) ?_
          have hq : (p - 2) % 7 = 6 := by
            have h7 : (p - 2) % 7 < 7 := Nat.mod_lt _ (by decide)
            have n0 : (p - 2) % 7 ≠ 0 := fun z => e43_0 (by rw [z]; rfl)
            have n1 : (p - 2) % 7 ≠ 1 := fun z => e43_1 (by rw [z]; rfl)
            have n2 : (p - 2) % 7 ≠ 2 := fun z => e43_2 (by rw [z]; rfl)
            have n3 : (p - 2) % 7 ≠ 3 := fun z => e43_3 (by rw [z]; rfl)
            have n4 : (p - 2) % 7 ≠ 4 := fun z => e43_4 (by rw [z]; rfl)
            have n5 : (p - 2) % 7 ≠ 5 := fun z => e43_5 (by rw [z]; rfl)
            omega
          exact ⟨by rw [show s_goes p bf c = v_dig c 0 (if bf = 54 then 3 else 9) by simp [s_goes, hp1, hp2, show ¬ 37 ≤ p by omega, hq]]; simp [h152], rfl⟩
        · refine PW_iconst (pc' := 156) dX4_goesOn_155 rfl (v := 3) (by first | rfl | decide) ?_
          refine PW_goto (tgt := 161) dX4_goesOn_156 rfl ?_
          refine PW_callS3f (pc' := 164) dX4_goesOn_161 rfl oX4_isDigit lX4_15 (Nat.le_of_ble_eq_true rfl) (c_X4_isDigit) ?_
          refine PW_ireturn .boolean dX4_goesOn_164 rfl (by first | rfl | exact bi_nar _) ?_
          have hq : (p - 2) % 7 = 6 := by
            have h7 : (p - 2) % 7 < 7 := Nat.mod_lt _ (by decide)
            have n0 : (p - 2) % 7 ≠ 0 := fun z => e43_0 (by rw [z]; rfl)
            have n1 : (p - 2) % 7 ≠ 1 := fun z => e43_1 (by rw [z]; rfl)
            have n2 : (p - 2) % 7 ≠ 2 := fun z => e43_2 (by rw [z]; rfl)
            have n3 : (p - 2) % 7 ≠ 3 := fun z => e43_3 (by rw [z]; rfl)
            have n4 : (p - 2) % 7 ≠ 4 := fun z => e43_4 (by rw [z]; rfl)
            have n5 : (p - 2) % 7 ≠ 5 := fun z => e43_5 (by rw [z]; rfl)
            omega
          exact ⟨by rw [show s_goes p bf c = v_dig c 0 (if bf = 54 then 3 else 9) by simp [s_goes, hp1, hp2, show ¬ 37 ≤ p by omega, hq]]; simp [h152], rfl⟩
      · have hp3 : ¬ p < 37 := fun z => h32 ((nI_ltI (b := 37) (by omega) (by decide)).mpr z)
        refine PW_iconst (pc' := 36) dX4_goesOn_35 rfl (v := 0) (by first | rfl | decide) ?_
        refine PW_ireturn .boolean dX4_goesOn_36 rfl (by first | rfl | exact bi_nar _) ?_
        exact ⟨by rw [show s_goes p bf c = false by simp [s_goes, hp1, hp2, show 37 ≤ p by omega]]; rfl, rfl⟩
    · have hp11 : p = 1 := nI_inj (by omega) (by decide) h18
      refine PW_iload2 (pc' := 22) dX4_goesOn_21 rfl ?_
      refine PW_iconst (pc' := 23) dX4_goesOn_22 rfl (v := 0) (by first | rfl | decide) ?_
      refine PW_bipush (pc' := 25) dX4_goesOn_23 rfl (v := 9) (by first | rfl | decide) ?_
      refine PW_callS3f (pc' := 28) dX4_goesOn_25 rfl oX4_isDigit lX4_15 (Nat.le_of_ble_eq_true rfl) (c_X4_isDigit) ?_
      refine PW_ireturn .boolean dX4_goesOn_28 rfl (by first | rfl | exact bi_nar _) ?_
      exact ⟨by rw [show s_goes p bf c = v_dig c 0 9 by simp [s_goes, hp11]], rfl⟩
  · have hp0 : p = 0 := nI_inj (by omega) (by decide) h1
    refine PW_iload2 (pc' := 5) dX4_goesOn_4 rfl ?_
    refine PW_bipush (pc' := 7) dX4_goesOn_5 rfl (v := 117) (by first | rfl | decide) ?_
    refine PW_icmp_ne (tgt := 14) (pc' := 10) dX4_goesOn_7 rfl rfl (fun h7 => ?_) (fun h7 => ?_)
    · refine PW_iconst (pc' := 15) dX4_goesOn_14 rfl (v := 0) (by first | rfl | decide) ?_
      refine PW_ireturn .boolean dX4_goesOn_15 rfl (by first | rfl | exact bi_nar _) ?_
      refine ⟨?_, rfl⟩
      first
        | rw [bi_zero (show s_goes p bf c = false by simp_all [s_goes])]
        | rw [bi_one (show s_goes p bf c = true by simp_all [s_goes])]
    · refine PW_iconst (pc' := 11) dX4_goesOn_10 rfl (v := 1) (by first | rfl | decide) ?_
      refine PW_goto (tgt := 15) dX4_goesOn_11 rfl ?_
      refine PW_ireturn .boolean dX4_goesOn_15 rfl (by first | rfl | exact bi_nar _) ?_
      refine ⟨?_, rfl⟩
      first
        | rw [bi_zero (show s_goes p bf c = false by simp_all [s_goes])]
        | rw [bi_one (show s_goes p bf c = true by simp_all [s_goes])]
theorem s_ffl_mono {c : Nat → Int32} {x : Nat} : ∀ (k j : Nat), s_ffl c j = some x → s_ffl c (j + k) = some x
  | 0, _, hj => hj
  | k + 1, j, hj => by
    rw [show j + (k + 1) = (j + k) + 1 from rfl, s_ffl, s_ffl_mono k j hj]
set_option maxHeartbeats 4000000 in
theorem l_X4_firstFault {Γ : pv_G} {d k i n : Nat} {M : pv_M} (hk : k < 4) (hin : i + n ≤ 60) : ∀ (m j : Nat) (x5 : Value), j + m = n → s_ffl (fun x => M (6 + k) (i + x)) j = none →
    PW Γ (d + 2) vX4_firstFault 5 [.ref (6 + k), .int (nI i), .int (nI n), .int (if j = 0 then 0 else M (6 + k) (i + (j - 1))), .int (nI j), x5] [] M (pv_fn (some (.int (s_oI (s_ff (fun x => M (6 + k) (i + x)) n)))) M) := by
  intro m
  induction m using Nat.strongRecOn with
  | ind m ih =>
    intro j x5 hjm hff
    refine PW_iload4 (pc' := 7) dX4_firstFault_5 rfl ?_
    refine PW_iload2 (pc' := 8) dX4_firstFault_7 rfl ?_
    refine PW_icmp_ge (tgt := 42) (pc' := 11) dX4_firstFault_8 rfl rfl (fun h8 => ?_) (fun h8 => ?_)
    · have hj : j = n := by have := s_bge (by omega) (by omega) h8; omega
      subst hj
      refine PW_iload2 (pc' := 43) dX4_firstFault_42 rfl ?_
      refine PW_iconst (pc' := 44) dX4_firstFault_43 rfl (v := 2) (by first | rfl | decide) ?_
      refine PW_icmp_le (tgt := 61) (pc' := 47) dX4_firstFault_44 rfl rfl (fun h44 => ?_) (fun h44 => ?_)
      · have h2 : ¬ 2 < j := fun z => nI_ge (a := 2) z (by omega) h44
        refine PW_iload2 (pc' := 62) dX4_firstFault_61 rfl ?_
        refine PW_ireturn .int dX4_firstFault_62 rfl rfl ?_
        first
          | exact ⟨by rw [s_ff, hff, if_pos ⟨h2, h3⟩]; rfl, rfl⟩
          | exact ⟨by rw [s_ff, hff, if_neg (fun z => h2 z.1)]; rfl, rfl⟩
          | exact ⟨by rw [s_ff, hff, if_neg (fun z => h3 z.2)]; rfl, rfl⟩
      · have h2 : 2 < j := by
          rcases Nat.lt_or_ge 2 j with z | z
          · exact z
          · exact absurd (nI_le (b := 2) z (by decide)) h44
        have q1 := v_sub2 j (by omega) (by omega)
        have q2 := v_rem7 (j - 2) (by omega)
        refine PW_iload2 (pc' := 48) dX4_firstFault_47 rfl ?_
        refine PW_iconst (pc' := 49) dX4_firstFault_48 rfl (v := 2) (by first | rfl | decide) ?_
        refine PW_isub (pc' := 50) dX4_firstFault_49 rfl ?_
        refine PW_bipush (pc' := 52) dX4_firstFault_50 rfl (v := 7) (by first | rfl | decide) ?_
        refine PW_irem (pc' := 53) dX4_firstFault_52 rfl (by decide) ?_
        refine PW_if_ne (tgt := 61) (pc' := 56) dX4_firstFault_53 rfl rfl (fun h53 => ?_) (fun h53 => ?_)
        · rw [q1, q2] at h53
          have h3 : ¬ (j - 2) % 7 = 0 := fun z => h53 (by rw [z]; rfl)
          refine PW_iload2 (pc' := 62) dX4_firstFault_61 rfl ?_
          refine PW_ireturn .int dX4_firstFault_62 rfl rfl ?_
          first
            | exact ⟨by rw [s_ff, hff, if_pos ⟨h2, h3⟩]; rfl, rfl⟩
            | exact ⟨by rw [s_ff, hff, if_neg (fun z => h2 z.1)]; rfl, rfl⟩
            | exact ⟨by rw [s_ff, hff, if_neg (fun z => h3 z.2)]; rfl, rfl⟩
        · rw [q1, q2] at h53
          have h3 : (j - 2) % 7 = 0 := nI_inj (by omega) (by decide) h53
          refine PW_bipush (pc' := 58) dX4_firstFault_56 rfl (v := -9) (by first | rfl | decide) ?_
          refine PW_goto (tgt := 62) dX4_firstFault_58 rfl ?_
          refine PW_ireturn .int dX4_firstFault_62 rfl rfl ?_
          first
            | exact ⟨by rw [s_ff, hff, if_pos ⟨h2, h3⟩]; rfl, rfl⟩
            | exact ⟨by rw [s_ff, hff, if_neg (fun z => h2 z.1)]; rfl, rfl⟩
            | exact ⟨by rw [s_ff, hff, if_neg (fun z => h3 z.2)]; rfl, rfl⟩
    · have hj : j < n := s_bnd (by omega) (by omega) h8
      refine PW_aload0 (pc' := 12) dX4_firstFault_11 rfl ?_
      refine PW_iload1 (pc' := 13) dX4_firstFault_12 rfl ?_
      refine PW_iload4 (pc' := 15) dX4_firstFault_13 rfl ?_
      refine PW_iadd (pc' := 16) dX4_firstFault_15 rfl ?_
      rw [nI_add]
      refine PW_ialdn (pc' := 17) dX4_firstFault_16 rfl (pv_lay_cells (by omega)) rfl (by omega) ?_
      refine PW_istore5 (pc' := 19) dX4_firstFault_17 rfl rfl rfl ?_
      refine PW_iload4 (pc' := 21) dX4_firstFault_19 rfl ?_
      refine PW_iload3 (pc' := 22) dX4_firstFault_21 rfl ?_
      refine PW_iload5 (pc' := 24) dX4_firstFault_22 rfl ?_
      refine PW_callS3f (pc' := 27) dX4_firstFault_24 rfl oX4_goesOn lX4_11 (Nat.le_of_ble_eq_true rfl) (c_X4_goesOn (by omega)) ?_
      refine PW_if_ne (tgt := 33) (pc' := 30) dX4_firstFault_27 rfl rfl (fun h27 => ?_) (fun h27 => ?_)
      · have hg := bi_t h27
        have e : s_ffl (fun x => M (6 + k) (i + x)) (j + 1) = none := by simp [s_ffl, hff, hg]
        refine PW_iload5 (pc' := 35) dX4_firstFault_33 rfl ?_
        refine PW_istore3 (pc' := 36) dX4_firstFault_35 rfl rfl rfl ?_
        refine PW_iinc4 (pc' := 39) dX4_firstFault_36 rfl rfl rfl nI_inc ?_
        refine PW_goto (tgt := 5) dX4_firstFault_39 rfl ?_
        have hgo := ih (m - 1) (by omega) (j + 1) (.int (M (6 + k) (i + j))) (by omega) e
        rw [if_neg (by omega), show j + 1 - 1 = j by omega] at hgo
        exact hgo
      · have hg := bi_f h27
        have e : s_ffl (fun x => M (6 + k) (i + x)) (j + 1) = some j := by simp [s_ffl, hff, hg]
        refine PW_iload4 (pc' := 32) dX4_firstFault_30 rfl ?_
        refine PW_ireturn .int dX4_firstFault_32 rfl rfl ?_
        have e2 := s_ffl_mono (m - 1) (j + 1) e
        rw [show j + 1 + (m - 1) = n by omega] at e2
        exact ⟨by rw [s_ff, e2]; rfl, rfl⟩
set_option maxHeartbeats 4000000 in
theorem c_X4_firstFault {Γ : pv_G} {d : Nat} {M : pv_M} {k i n : Nat} (hk : k < 4) (hin : i + n ≤ 60) : Ct Γ (d + 2) vX4_firstFault [.ref (6 + k), .int (nI i), .int (nI n)] M (pv_fn (some (.int (s_oI (s_ff (fun x => M (6 + k) (i + x)) n)))) M) := by
  refine Ct.of oX4_firstFault.1 rfl (pad := 3) rfl ?_
  show PW Γ (d + 2) vX4_firstFault 0 [.ref (6 + k), .int (nI i), .int (nI n), .null, .null, .null] [] M _
  refine PW_iconst (pc' := 1) dX4_firstFault_0 rfl (v := 0) (by first | rfl | decide) ?_
  refine PW_istore3 (pc' := 2) dX4_firstFault_1 rfl rfl rfl ?_
  refine PW_iconst (pc' := 3) dX4_firstFault_2 rfl (v := nI 0) (by first | rfl | decide) ?_
  refine PW_istore4 (pc' := 5) dX4_firstFault_3 rfl rfl rfl ?_
  exact l_X4_firstFault hk hin n 0 _ (by omega) rfl
end
