section
-- ===== PART A: goes FIRST, ahead of the names: the tables' words, and 'selects' of the private methods out of them =====
/-- a private method of a class that the tables say can be made, by its rows of tables_1 -/
def lw_okq (q : MethodName × Nat) : Prop := (q.1.cls ≠ "java/lang/invoke/MethodHandle" ∧ q.1.cls ≠ "java/lang/invoke/VarHandle") ∧ Cond.instantiable q.1.cls q.2 ∈ tables_1 ∧ Cond.privateMethod q.1 ∈ tables_1 ∧ Cond.instanceMethod q.1 ∈ tables_1
theorem lw_p0 : lw_okq (⟨"StickWays$Page", "lettersOfLastStick", "()I"⟩, 2) := ⟨⟨by decide +kernel, by decide +kernel⟩, List.mem_of_getElem? (i := 23) (by decide +kernel), List.mem_of_getElem? (i := 254) (by decide +kernel), List.mem_of_getElem? (i := 255) (by decide +kernel)⟩
theorem lw_p1 : lw_okq (⟨"StickWays$Stick", "retrace", "()V"⟩, 6) := ⟨⟨by decide +kernel, by decide +kernel⟩, List.mem_of_getElem? (i := 46) (by decide +kernel), List.mem_of_getElem? (i := 271) (by decide +kernel), List.mem_of_getElem? (i := 272) (by decide +kernel)⟩
theorem lw_p2 : lw_okq (⟨"StickWays$Stick", "stepsOfWalk", "()I"⟩, 6) := ⟨⟨by decide +kernel, by decide +kernel⟩, List.mem_of_getElem? (i := 46) (by decide +kernel), List.mem_of_getElem? (i := 279) (by decide +kernel), List.mem_of_getElem? (i := 280) (by decide +kernel)⟩
theorem lw_p3 : lw_okq (⟨"StickWays$Stick", "hoursPerStep", "()I"⟩, 6) := ⟨⟨by decide +kernel, by decide +kernel⟩, List.mem_of_getElem? (i := 46) (by decide +kernel), List.mem_of_getElem? (i := 283) (by decide +kernel), List.mem_of_getElem? (i := 284) (by decide +kernel)⟩
theorem lw_p4 : lw_okq (⟨"StickWays$Stick", "directionOf", "(I)I"⟩, 6) := ⟨⟨by decide +kernel, by decide +kernel⟩, List.mem_of_getElem? (i := 46) (by decide +kernel), List.mem_of_getElem? (i := 287) (by decide +kernel), List.mem_of_getElem? (i := 288) (by decide +kernel)⟩
theorem lw_p5 : lw_okq (⟨"StickWays$Hills", "placesSeenBy", "(I)I"⟩, 7) := ⟨⟨by decide +kernel, by decide +kernel⟩, List.mem_of_getElem? (i := 39) (by decide +kernel), List.mem_of_getElem? (i := 398) (by decide +kernel), List.mem_of_getElem? (i := 399) (by decide +kernel)⟩
theorem lw_p6 : lw_okq (⟨"StickWays$Hills", "wasWhereSeen", "(I)Z"⟩, 7) := ⟨⟨by decide +kernel, by decide +kernel⟩, List.mem_of_getElem? (i := 39) (by decide +kernel), List.mem_of_getElem? (i := 438) (by decide +kernel), List.mem_of_getElem? (i := 439) (by decide +kernel)⟩
theorem lw_p7 : lw_okq (⟨"StickWays$Hills", "mostLeft", "(II)I"⟩, 7) := ⟨⟨by decide +kernel, by decide +kernel⟩, List.mem_of_getElem? (i := 39) (by decide +kernel), List.mem_of_getElem? (i := 451) (by decide +kernel), List.mem_of_getElem? (i := 452) (by decide +kernel)⟩
theorem lw_p8 : lw_okq (⟨"StickWays$Hills", "togetherWith", "(III)I"⟩, 7) := ⟨⟨by decide +kernel, by decide +kernel⟩, List.mem_of_getElem? (i := 39) (by decide +kernel), List.mem_of_getElem? (i := 455) (by decide +kernel), List.mem_of_getElem? (i := 456) (by decide +kernel)⟩
theorem lw_p9 : lw_okq (⟨"StickWays", "drawLateness", "(I)I"⟩, 6) := ⟨⟨by decide +kernel, by decide +kernel⟩, List.mem_of_getElem? (i := 15) (by decide +kernel), List.mem_of_getElem? (i := 464) (by decide +kernel), List.mem_of_getElem? (i := 465) (by decide +kernel)⟩
theorem lw_p10 : lw_okq (⟨"StickWays", "withStick", "(JI)J"⟩, 6) := ⟨⟨by decide +kernel, by decide +kernel⟩, List.mem_of_getElem? (i := 15) (by decide +kernel), List.mem_of_getElem? (i := 513) (by decide +kernel), List.mem_of_getElem? (i := 514) (by decide +kernel)⟩
theorem lw_p11 : lw_okq (⟨"StickWaysModel", "faultOf", "()I"⟩, 22) := ⟨⟨by decide +kernel, by decide +kernel⟩, List.mem_of_getElem? (i := 528) (by decide +kernel), List.mem_of_getElem? (i := 617) (by decide +kernel), List.mem_of_getElem? (i := 618) (by decide +kernel)⟩
theorem lw_p12 : lw_okq (⟨"StickWaysModel", "go", "(I)Z"⟩, 22) := ⟨⟨by decide +kernel, by decide +kernel⟩, List.mem_of_getElem? (i := 528) (by decide +kernel), List.mem_of_getElem? (i := 621) (by decide +kernel), List.mem_of_getElem? (i := 622) (by decide +kernel)⟩
theorem lw_p13 : lw_okq (⟨"StickWaysModel", "isStick", "(I)Z"⟩, 22) := ⟨⟨by decide +kernel, by decide +kernel⟩, List.mem_of_getElem? (i := 528) (by decide +kernel), List.mem_of_getElem? (i := 641) (by decide +kernel), List.mem_of_getElem? (i := 642) (by decide +kernel)⟩
theorem lw_p14 : lw_okq (⟨"StickWaysModel", "tell", "(II)I"⟩, 22) := ⟨⟨by decide +kernel, by decide +kernel⟩, List.mem_of_getElem? (i := 528) (by decide +kernel), List.mem_of_getElem? (i := 645) (by decide +kernel), List.mem_of_getElem? (i := 646) (by decide +kernel)⟩
theorem lw_p15 : lw_okq (⟨"StickWaysModel", "endOf", "(I)I"⟩, 22) := ⟨⟨by decide +kernel, by decide +kernel⟩, List.mem_of_getElem? (i := 528) (by decide +kernel), List.mem_of_getElem? (i := 651) (by decide +kernel), List.mem_of_getElem? (i := 652) (by decide +kernel)⟩
def lw_privs_1 : List (MethodName × Nat) := [(⟨"StickWays$Page", "lettersOfLastStick", "()I"⟩, 2), (⟨"StickWays$Stick", "retrace", "()V"⟩, 6), (⟨"StickWays$Stick", "stepsOfWalk", "()I"⟩, 6), (⟨"StickWays$Stick", "hoursPerStep", "()I"⟩, 6), (⟨"StickWays$Stick", "directionOf", "(I)I"⟩, 6), (⟨"StickWays$Hills", "placesSeenBy", "(I)I"⟩, 7), (⟨"StickWays$Hills", "wasWhereSeen", "(I)Z"⟩, 7), (⟨"StickWays$Hills", "mostLeft", "(II)I"⟩, 7), (⟨"StickWays$Hills", "togetherWith", "(III)I"⟩, 7), (⟨"StickWays", "drawLateness", "(I)I"⟩, 6), (⟨"StickWays", "withStick", "(JI)J"⟩, 6), (⟨"StickWaysModel", "faultOf", "()I"⟩, 22), (⟨"StickWaysModel", "go", "(I)Z"⟩, 22), (⟨"StickWaysModel", "isStick", "(I)Z"⟩, 22), (⟨"StickWaysModel", "tell", "(II)I"⟩, 22), (⟨"StickWaysModel", "endOf", "(I)I"⟩, 22)]
theorem lw_r1 : ∀ q ∈ lw_privs_1, lw_okq q := List.forall_mem_cons.mpr ⟨lw_p0, List.forall_mem_cons.mpr ⟨lw_p1, List.forall_mem_cons.mpr ⟨lw_p2, List.forall_mem_cons.mpr ⟨lw_p3, List.forall_mem_cons.mpr ⟨lw_p4, List.forall_mem_cons.mpr ⟨lw_p5, List.forall_mem_cons.mpr ⟨lw_p6, List.forall_mem_cons.mpr ⟨lw_p7, List.forall_mem_cons.mpr ⟨lw_p8, List.forall_mem_cons.mpr ⟨lw_p9, List.forall_mem_cons.mpr ⟨lw_p10, List.forall_mem_cons.mpr ⟨lw_p11, List.forall_mem_cons.mpr ⟨lw_p12, List.forall_mem_cons.mpr ⟨lw_p13, List.forall_mem_cons.mpr ⟨lw_p14, List.forall_mem_cons.mpr ⟨lw_p15, fun _ h => absurd h List.not_mem_nil⟩⟩⟩⟩⟩⟩⟩⟩⟩⟩⟩⟩⟩⟩⟩⟩
theorem lw_p16 : lw_okq (⟨"StickWaysModel", "hoursOf", "(I)I"⟩, 22) := ⟨⟨by decide +kernel, by decide +kernel⟩, List.mem_of_getElem? (i := 528) (by decide +kernel), List.mem_of_getElem? (i := 655) (by decide +kernel), List.mem_of_getElem? (i := 656) (by decide +kernel)⟩
theorem lw_p17 : lw_okq (⟨"StickWaysModel", "atOf", "(II)I"⟩, 22) := ⟨⟨by decide +kernel, by decide +kernel⟩, List.mem_of_getElem? (i := 528) (by decide +kernel), List.mem_of_getElem? (i := 659) (by decide +kernel), List.mem_of_getElem? (i := 660) (by decide +kernel)⟩
theorem lw_p18 : lw_okq (⟨"StickWaysModel", "stepIn", "(II)I"⟩, 22) := ⟨⟨by decide +kernel, by decide +kernel⟩, List.mem_of_getElem? (i := 528) (by decide +kernel), List.mem_of_getElem? (i := 663) (by decide +kernel), List.mem_of_getElem? (i := 664) (by decide +kernel)⟩
theorem lw_p19 : lw_okq (⟨"StickWaysModel", "placesOf", "(I)I"⟩, 22) := ⟨⟨by decide +kernel, by decide +kernel⟩, List.mem_of_getElem? (i := 528) (by decide +kernel), List.mem_of_getElem? (i := 671) (by decide +kernel), List.mem_of_getElem? (i := 672) (by decide +kernel)⟩
theorem lw_p20 : lw_okq (⟨"StickWaysModel", "areTwo", "(II)Z"⟩, 22) := ⟨⟨by decide +kernel, by decide +kernel⟩, List.mem_of_getElem? (i := 528) (by decide +kernel), List.mem_of_getElem? (i := 692) (by decide +kernel), List.mem_of_getElem? (i := 693) (by decide +kernel)⟩
theorem lw_p21 : lw_okq (⟨"StickWaysModel", "meetOf", "(II)I"⟩, 22) := ⟨⟨by decide +kernel, by decide +kernel⟩, List.mem_of_getElem? (i := 528) (by decide +kernel), List.mem_of_getElem? (i := 696) (by decide +kernel), List.mem_of_getElem? (i := 697) (by decide +kernel)⟩
theorem lw_p22 : lw_okq (⟨"StickWaysModel", "laterOf", "(II)I"⟩, 22) := ⟨⟨by decide +kernel, by decide +kernel⟩, List.mem_of_getElem? (i := 528) (by decide +kernel), List.mem_of_getElem? (i := 717) (by decide +kernel), List.mem_of_getElem? (i := 718) (by decide +kernel)⟩
theorem lw_p23 : lw_okq (⟨"StickWaysModel", "lacks", "()Z"⟩, 22) := ⟨⟨by decide +kernel, by decide +kernel⟩, List.mem_of_getElem? (i := 528) (by decide +kernel), List.mem_of_getElem? (i := 726) (by decide +kernel), List.mem_of_getElem? (i := 727) (by decide +kernel)⟩
theorem lw_p24 : lw_okq (⟨"StickWaysModel", "coverOf", "(II)I"⟩, 22) := ⟨⟨by decide +kernel, by decide +kernel⟩, List.mem_of_getElem? (i := 528) (by decide +kernel), List.mem_of_getElem? (i := 730) (by decide +kernel), List.mem_of_getElem? (i := 731) (by decide +kernel)⟩
theorem lw_p25 : lw_okq (⟨"StickWaysModel", "coverSet", "(I)I"⟩, 22) := ⟨⟨by decide +kernel, by decide +kernel⟩, List.mem_of_getElem? (i := 528) (by decide +kernel), List.mem_of_getElem? (i := 734) (by decide +kernel), List.mem_of_getElem? (i := 735) (by decide +kernel)⟩
theorem lw_p26 : lw_okq (⟨"StickWaysModel", "catchOf", "(II)I"⟩, 22) := ⟨⟨by decide +kernel, by decide +kernel⟩, List.mem_of_getElem? (i := 528) (by decide +kernel), List.mem_of_getElem? (i := 743) (by decide +kernel), List.mem_of_getElem? (i := 744) (by decide +kernel)⟩
theorem lw_p27 : lw_okq (⟨"StickWaysModel", "whoseOf", "()I"⟩, 22) := ⟨⟨by decide +kernel, by decide +kernel⟩, List.mem_of_getElem? (i := 528) (by decide +kernel), List.mem_of_getElem? (i := 762) (by decide +kernel), List.mem_of_getElem? (i := 763) (by decide +kernel)⟩
theorem lw_p28 : lw_okq (⟨"StickWaysModel", "lookOf", "()I"⟩, 22) := ⟨⟨by decide +kernel, by decide +kernel⟩, List.mem_of_getElem? (i := 528) (by decide +kernel), List.mem_of_getElem? (i := 770) (by decide +kernel), List.mem_of_getElem? (i := 771) (by decide +kernel)⟩
theorem lw_p29 : lw_okq (⟨"StickWaysModel", "draw", "(I)I"⟩, 22) := ⟨⟨by decide +kernel, by decide +kernel⟩, List.mem_of_getElem? (i := 528) (by decide +kernel), List.mem_of_getElem? (i := 783) (by decide +kernel), List.mem_of_getElem? (i := 784) (by decide +kernel)⟩
theorem lw_p30 : lw_okq (⟨"StickWaysModel", "meetAll", "()I"⟩, 22) := ⟨⟨by decide +kernel, by decide +kernel⟩, List.mem_of_getElem? (i := 528) (by decide +kernel), List.mem_of_getElem? (i := 791) (by decide +kernel), List.mem_of_getElem? (i := 792) (by decide +kernel)⟩
theorem lw_p31 : lw_okq (⟨"StickWaysModel", "placesAll", "()I"⟩, 22) := ⟨⟨by decide +kernel, by decide +kernel⟩, List.mem_of_getElem? (i := 528) (by decide +kernel), List.mem_of_getElem? (i := 795) (by decide +kernel), List.mem_of_getElem? (i := 796) (by decide +kernel)⟩
def lw_privs_2 : List (MethodName × Nat) := [(⟨"StickWaysModel", "hoursOf", "(I)I"⟩, 22), (⟨"StickWaysModel", "atOf", "(II)I"⟩, 22), (⟨"StickWaysModel", "stepIn", "(II)I"⟩, 22), (⟨"StickWaysModel", "placesOf", "(I)I"⟩, 22), (⟨"StickWaysModel", "areTwo", "(II)Z"⟩, 22), (⟨"StickWaysModel", "meetOf", "(II)I"⟩, 22), (⟨"StickWaysModel", "laterOf", "(II)I"⟩, 22), (⟨"StickWaysModel", "lacks", "()Z"⟩, 22), (⟨"StickWaysModel", "coverOf", "(II)I"⟩, 22), (⟨"StickWaysModel", "coverSet", "(I)I"⟩, 22), (⟨"StickWaysModel", "catchOf", "(II)I"⟩, 22), (⟨"StickWaysModel", "whoseOf", "()I"⟩, 22), (⟨"StickWaysModel", "lookOf", "()I"⟩, 22), (⟨"StickWaysModel", "draw", "(I)I"⟩, 22), (⟨"StickWaysModel", "meetAll", "()I"⟩, 22), (⟨"StickWaysModel", "placesAll", "()I"⟩, 22)]
theorem lw_r2 : ∀ q ∈ lw_privs_2, lw_okq q := List.forall_mem_cons.mpr ⟨lw_p16, List.forall_mem_cons.mpr ⟨lw_p17, List.forall_mem_cons.mpr ⟨lw_p18, List.forall_mem_cons.mpr ⟨lw_p19, List.forall_mem_cons.mpr ⟨lw_p20, List.forall_mem_cons.mpr ⟨lw_p21, List.forall_mem_cons.mpr ⟨lw_p22, List.forall_mem_cons.mpr ⟨lw_p23, List.forall_mem_cons.mpr ⟨lw_p24, List.forall_mem_cons.mpr ⟨lw_p25, List.forall_mem_cons.mpr ⟨lw_p26, List.forall_mem_cons.mpr ⟨lw_p27, List.forall_mem_cons.mpr ⟨lw_p28, List.forall_mem_cons.mpr ⟨lw_p29, List.forall_mem_cons.mpr ⟨lw_p30, List.forall_mem_cons.mpr ⟨lw_p31, fun _ h => absurd h List.not_mem_nil⟩⟩⟩⟩⟩⟩⟩⟩⟩⟩⟩⟩⟩⟩⟩⟩
theorem lw_p32 : lw_okq (⟨"StickWaysModel", "countOf", "(I)I"⟩, 22) := ⟨⟨by decide +kernel, by decide +kernel⟩, List.mem_of_getElem? (i := 528) (by decide +kernel), List.mem_of_getElem? (i := 811) (by decide +kernel), List.mem_of_getElem? (i := 812) (by decide +kernel)⟩
theorem lw_p33 : lw_okq (⟨"StickWaysModel", "stepsAll", "()I"⟩, 22) := ⟨⟨by decide +kernel, by decide +kernel⟩, List.mem_of_getElem? (i := 528) (by decide +kernel), List.mem_of_getElem? (i := 815) (by decide +kernel), List.mem_of_getElem? (i := 816) (by decide +kernel)⟩
theorem lw_p34 : lw_okq (⟨"StickWaysModel", "sayStick", "(I)V"⟩, 22) := ⟨⟨by decide +kernel, by decide +kernel⟩, List.mem_of_getElem? (i := 528) (by decide +kernel), List.mem_of_getElem? (i := 824) (by decide +kernel), List.mem_of_getElem? (i := 825) (by decide +kernel)⟩
theorem lw_p35 : lw_okq (⟨"StickWaysModel", "say", "(J)V"⟩, 22) := ⟨⟨by decide +kernel, by decide +kernel⟩, List.mem_of_getElem? (i := 528) (by decide +kernel), List.mem_of_getElem? (i := 828) (by decide +kernel), List.mem_of_getElem? (i := 829) (by decide +kernel)⟩
def lw_privs_3 : List (MethodName × Nat) := [(⟨"StickWaysModel", "countOf", "(I)I"⟩, 22), (⟨"StickWaysModel", "stepsAll", "()I"⟩, 22), (⟨"StickWaysModel", "sayStick", "(I)V"⟩, 22), (⟨"StickWaysModel", "say", "(J)V"⟩, 22)]
theorem lw_r3 : ∀ q ∈ lw_privs_3, lw_okq q := List.forall_mem_cons.mpr ⟨lw_p32, List.forall_mem_cons.mpr ⟨lw_p33, List.forall_mem_cons.mpr ⟨lw_p34, List.forall_mem_cons.mpr ⟨lw_p35, fun _ h => absurd h List.not_mem_nil⟩⟩⟩⟩
def lw_privs : List (MethodName × Nat) := lw_privs_1 ++ (lw_privs_2 ++ (lw_privs_3))
def lw_tbl : List Cond := k2_sels lw_privs ++ tables_1
theorem lw_privs_ok : ∀ q ∈ lw_privs, lw_okq q := by
  show ∀ q ∈ lw_privs_1 ++ (lw_privs_2 ++ (lw_privs_3)), lw_okq q
  exact List.forall_mem_append.mpr ⟨lw_r1, List.forall_mem_append.mpr ⟨lw_r2, lw_r3⟩⟩
end
section
def RX0 : String := "StickWays$Hills"
def TX0 : u_T := fun k => match k with
  | 0 => ("StickWays$Hills", "sticks", "[LStickWays$Stick;", true)
  | 1 => ("StickWays$Hills", "lateBy", "[I", true)
  | 2 => ("StickWays$Hills", "seenPlaces", "[I", true)
  | 3 => ("StickWays$Hills", "seenHours", "[I", true)
  | 4 => ("StickWays$Hills", "stickCount", "I", false)
  | 5 => ("StickWays$Hills", "changes", "I", false)
  | _ => ("StickWays$Hills", "seenCount", "I", false)
def tyX0 : Nat → FieldType := fun k => match k with
  | 0 => .array (.object "StickWays$Stick")
  | 1 => .array .int
  | 2 => .array .int
  | 3 => .array .int
  | 4 => .int
  | 5 => .int
  | _ => .int
theorem nmX0 : ∀ a, a < 7 → ∀ b, b < 7 → a ≠ b → (TX0 a).2.1 ≠ (TX0 b).2.1 := by decide +kernel
theorem tyX0_ok : ∀ k, k < 7 → parseFieldDescriptor (TX0 k).2.2.1 = some (tyX0 k) := by decide +kernel
abbrev cX0_init : ByteArray := prog_2_method_1_code
def yX0_init : MethodName := ⟨RX0, "<init>", "()V"⟩
abbrev cX0_clear : ByteArray := prog_2_method_2_code
def yX0_clear : MethodName := ⟨RX0, "clear", "()V"⟩
abbrev cX0_copyFrom : ByteArray := prog_2_method_3_code
def yX0_copyFrom : MethodName := ⟨RX0, "copyFrom", "(LStickWays$Hills;)V"⟩
abbrev cX0_has : ByteArray := prog_2_method_4_code
def yX0_has : MethodName := ⟨RX0, "has", "(I)Z"⟩
abbrev cX0_hasBoth : ByteArray := prog_2_method_5_code
def yX0_hasBoth : MethodName := ⟨RX0, "hasBoth", "(II)Z"⟩
abbrev cX0_add : ByteArray := prog_2_method_6_code
def yX0_add : MethodName := ⟨RX0, "add", "(II)LStickWays$Stick;"⟩
abbrev cX0_divide : ByteArray := prog_2_method_7_code
def yX0_divide : MethodName := ⟨RX0, "divide", "(II)V"⟩
abbrev cX0_placeAt : ByteArray := prog_2_method_8_code
def yX0_placeAt : MethodName := ⟨RX0, "placeAt", "(II)I"⟩
abbrev cX0_hoursTogether : ByteArray := prog_2_method_9_code
def yX0_hoursTogether : MethodName := ⟨RX0, "hoursTogether", "(IIII)I"⟩
abbrev cX0_meetings : ByteArray := prog_2_method_10_code
def yX0_meetings : MethodName := ⟨RX0, "meetings", "([I)I"⟩
abbrev cX0_stepsOfAll : ByteArray := prog_2_method_11_code
def yX0_stepsOfAll : MethodName := ⟨RX0, "stepsOfAll", "()I"⟩
abbrev cX0_placesSeen : ByteArray := prog_2_method_12_code
def yX0_placesSeen : MethodName := ⟨RX0, "placesSeen", "()I"⟩
abbrev cX0_placesSeenBy : ByteArray := prog_2_method_13_code
def yX0_placesSeenBy : MethodName := ⟨RX0, "placesSeenBy", "(I)I"⟩
abbrev cX0_fewestSeeing : ByteArray := prog_2_method_14_code
def yX0_fewestSeeing : MethodName := ⟨RX0, "fewestSeeing", "(I)I"⟩
abbrev cX0_firstCatch : ByteArray := prog_2_method_15_code
def yX0_firstCatch : MethodName := ⟨RX0, "firstCatch", "(II)I"⟩
abbrev cX0_noteSeen : ByteArray := prog_2_method_16_code
def yX0_noteSeen : MethodName := ⟨RX0, "noteSeen", "(II)Z"⟩
abbrev cX0_possible : ByteArray := prog_2_method_17_code
def yX0_possible : MethodName := ⟨RX0, "possible", "()I"⟩
abbrev cX0_wasWhereSeen : ByteArray := prog_2_method_18_code
def yX0_wasWhereSeen : MethodName := ⟨RX0, "wasWhereSeen", "(I)Z"⟩
abbrev cX0_bestHourToLook : ByteArray := prog_2_method_19_code
def yX0_bestHourToLook : MethodName := ⟨RX0, "bestHourToLook", "()I"⟩
abbrev cX0_mostLeft : ByteArray := prog_2_method_20_code
def yX0_mostLeft : MethodName := ⟨RX0, "mostLeft", "(II)I"⟩
abbrev cX0_togetherWith : ByteArray := prog_2_method_21_code
def yX0_togetherWith : MethodName := ⟨RX0, "togetherWith", "(III)I"⟩
def RX1 : String := "StickWays$Page"
def TX1 : u_T := fun k => match k with
  | 0 => ("StickWays$Page", "letters", "[C", true)
  | _ => ("StickWays$Page", "length", "I", false)
def tyX1 : Nat → FieldType := fun k => match k with
  | 0 => .array .char
  | _ => .int
theorem nmX1 : ∀ a, a < 2 → ∀ b, b < 2 → a ≠ b → (TX1 a).2.1 ≠ (TX1 b).2.1 := by decide +kernel
theorem tyX1_ok : ∀ k, k < 2 → parseFieldDescriptor (TX1 k).2.2.1 = some (tyX1 k) := by decide +kernel
abbrev cX1_init : ByteArray := prog_3_method_1_code
def yX1_init : MethodName := ⟨RX1, "<init>", "()V"⟩
abbrev cX1_append : ByteArray := prog_3_method_2_code
def yX1_append : MethodName := ⟨RX1, "append", "(C)Z"⟩
abbrev cX1_firstFault : ByteArray := prog_3_method_3_code
def yX1_firstFault : MethodName := ⟨RX1, "firstFault", "()I"⟩
abbrev cX1_fits : ByteArray := prog_3_method_4_code
def yX1_fits : MethodName := ⟨RX1, "fits", "(CII)Z"⟩
abbrev cX1_tellsHills : ByteArray := prog_3_method_5_code
def yX1_tellsHills : MethodName := ⟨RX1, "tellsHills", "()Z"⟩
abbrev cX1_lettersOfLastStick : ByteArray := prog_3_method_6_code
def yX1_lettersOfLastStick : MethodName := ⟨RX1, "lettersOfLastStick", "()I"⟩
abbrev cX1_readInto : ByteArray := prog_3_method_7_code
def yX1_readInto : MethodName := ⟨RX1, "readInto", "(LStickWays$Hills;)V"⟩
def RX2 : String := "StickWays$Stick"
def TX2 : u_T := fun k => match k with
  | 0 => ("StickWays$Stick", "kind", "I", false)
  | 1 => ("StickWays$Stick", "begin", "I", false)
  | 2 => ("StickWays$Stick", "stepCount", "I", false)
  | 3 => ("StickWays$Stick", "way", "[I", true)
  | 4 => ("StickWays$Stick", "trail", "[I", true)
  | _ => ("StickWays$Stick", "places", "I", false)
def tyX2 : Nat → FieldType := fun k => match k with
  | 0 => .int
  | 1 => .int
  | 2 => .int
  | 3 => .array .int
  | 4 => .array .int
  | _ => .int
theorem nmX2 : ∀ a, a < 6 → ∀ b, b < 6 → a ≠ b → (TX2 a).2.1 ≠ (TX2 b).2.1 := by decide +kernel
theorem tyX2_ok : ∀ k, k < 6 → parseFieldDescriptor (TX2 k).2.2.1 = some (tyX2 k) := by decide +kernel
abbrev cX2_init : ByteArray := prog_4_method_1_code
def yX2_init : MethodName := ⟨RX2, "<init>", "()V"⟩
abbrev cX2_startAnew : ByteArray := prog_4_method_2_code
def yX2_startAnew : MethodName := ⟨RX2, "startAnew", "(II)V"⟩
abbrev cX2_addStep : ByteArray := prog_4_method_3_code
def yX2_addStep : MethodName := ⟨RX2, "addStep", "(I)V"⟩
abbrev cX2_shortenTo : ByteArray := prog_4_method_4_code
def yX2_shortenTo : MethodName := ⟨RX2, "shortenTo", "(I)V"⟩
abbrev cX2_copyFrom : ByteArray := prog_4_method_5_code
def yX2_copyFrom : MethodName := ⟨RX2, "copyFrom", "(LStickWays$Stick;)V"⟩
abbrev cX2_stepOrNone : ByteArray := prog_4_method_6_code
def yX2_stepOrNone : MethodName := ⟨RX2, "stepOrNone", "(I)I"⟩
abbrev cX2_isOfKind : ByteArray := prog_4_method_7_code
def yX2_isOfKind : MethodName := ⟨RX2, "isOfKind", "(I)Z"⟩
abbrev cX2_placeAt : ByteArray := prog_4_method_8_code
def yX2_placeAt : MethodName := ⟨RX2, "placeAt", "(II)I"⟩
abbrev cX2_placeBehind : ByteArray := prog_4_method_9_code
def yX2_placeBehind : MethodName := ⟨RX2, "placeBehind", "(I)I"⟩
abbrev cX2_hoursOfWalk : ByteArray := prog_4_method_10_code
def yX2_hoursOfWalk : MethodName := ⟨RX2, "hoursOfWalk", "()I"⟩
abbrev cX2_stepsOfWalk : ByteArray := prog_4_method_11_code
def yX2_stepsOfWalk : MethodName := ⟨RX2, "stepsOfWalk", "()I"⟩
abbrev cX2_hoursPerStep : ByteArray := prog_4_method_12_code
def yX2_hoursPerStep : MethodName := ⟨RX2, "hoursPerStep", "()I"⟩
abbrev cX2_retrace : ByteArray := prog_4_method_13_code
def yX2_retrace : MethodName := ⟨RX2, "retrace", "()V"⟩
abbrev cX2_directionOf : ByteArray := prog_4_method_14_code
def yX2_directionOf : MethodName := ⟨RX2, "directionOf", "(I)I"⟩
def RX3 : String := "StickWays"
def TX3 : u_T := fun k => match k with
  | 0 => ("StickWays", "page", "LStickWays$Page;", true)
  | 1 => ("StickWays", "now", "LStickWays$Hills;", true)
  | 2 => ("StickWays", "kept", "LStickWays$Hills;", true)
  | 3 => ("StickWays", "drawn", "[I", true)
  | 4 => ("StickWays", "imageKept", "Z", false)
  | _ => ("StickWays", "timesRead", "I", false)
def tyX3 : Nat → FieldType := fun k => match k with
  | 0 => .object "StickWays$Page"
  | 1 => .object "StickWays$Hills"
  | 2 => .object "StickWays$Hills"
  | 3 => .array .int
  | 4 => .boolean
  | _ => .int
theorem nmX3 : ∀ a, a < 6 → ∀ b, b < 6 → a ≠ b → (TX3 a).2.1 ≠ (TX3 b).2.1 := by decide +kernel
theorem tyX3_ok : ∀ k, k < 6 → parseFieldDescriptor (TX3 k).2.2.1 = some (tyX3 k) := by decide +kernel
abbrev cX3_init : ByteArray := prog_1_method_1_code
def yX3_init : MethodName := ⟨RX3, "<init>", "()V"⟩
abbrev cX3_letter : ByteArray := prog_1_method_2_code
def yX3_letter : MethodName := ⟨RX3, "letter", "(I)I"⟩
abbrev cX3_blank : ByteArray := prog_1_method_3_code
def yX3_blank : MethodName := ⟨RX3, "blank", "()I"⟩
abbrev cX3_fault : ByteArray := prog_1_method_4_code
def yX3_fault : MethodName := ⟨RX3, "fault", "()I"⟩
abbrev cX3_hills : ByteArray := prog_1_method_5_code
def yX3_hills : MethodName := ⟨RX3, "hills", "()I"⟩
abbrev cX3_stick : ByteArray := prog_1_method_6_code
def yX3_stick : MethodName := ⟨RX3, "stick", "(II)I"⟩
abbrev cX3_as : ByteArray := prog_1_method_7_code
def yX3_as : MethodName := ⟨RX3, "as", "(II)I"⟩
abbrev cX3_at : ByteArray := prog_1_method_8_code
def yX3_at : MethodName := ⟨RX3, "at", "(II)I"⟩
abbrev cX3_meet : ByteArray := prog_1_method_9_code
def yX3_meet : MethodName := ⟨RX3, "meet", "(II)I"⟩
abbrev cX3_late : ByteArray := prog_1_method_10_code
def yX3_late : MethodName := ⟨RX3, "late", "(II)I"⟩
abbrev cX3_cut : ByteArray := prog_1_method_11_code
def yX3_cut : MethodName := ⟨RX3, "cut", "(II)I"⟩
abbrev cX3_saw : ByteArray := prog_1_method_12_code
def yX3_saw : MethodName := ⟨RX3, "saw", "(II)I"⟩
abbrev cX3_later : ByteArray := prog_1_method_13_code
def yX3_later : MethodName := ⟨RX3, "later", "(II)I"⟩
abbrev cX3_cover : ByteArray := prog_1_method_14_code
def yX3_cover : MethodName := ⟨RX3, "cover", "(II)I"⟩
abbrev cX3_catches : ByteArray := prog_1_method_15_code
def yX3_catches : MethodName := ⟨RX3, "catches", "(II)I"⟩
abbrev cX3_see : ByteArray := prog_1_method_16_code
def yX3_see : MethodName := ⟨RX3, "see", "(II)I"⟩
abbrev cX3_forget : ByteArray := prog_1_method_17_code
def yX3_forget : MethodName := ⟨RX3, "forget", "()I"⟩
abbrev cX3_whose : ByteArray := prog_1_method_18_code
def yX3_whose : MethodName := ⟨RX3, "whose", "()I"⟩
abbrev cX3_look : ByteArray := prog_1_method_19_code
def yX3_look : MethodName := ⟨RX3, "look", "()I"⟩
abbrev cX3_mornings : ByteArray := prog_1_method_20_code
def yX3_mornings : MethodName := ⟨RX3, "mornings", "(III)I"⟩
abbrev cX3_image : ByteArray := prog_1_method_21_code
def yX3_image : MethodName := ⟨RX3, "image", "()I"⟩
abbrev cX3_restore : ByteArray := prog_1_method_22_code
def yX3_restore : MethodName := ⟨RX3, "restore", "()I"⟩
abbrev cX3_count : ByteArray := prog_1_method_23_code
def yX3_count : MethodName := ⟨RX3, "count", "(I)I"⟩
abbrev cX3_digest : ByteArray := prog_1_method_24_code
def yX3_digest : MethodName := ⟨RX3, "digest", "()J"⟩
abbrev cX3_isPlace : ByteArray := prog_1_method_25_code
def yX3_isPlace : MethodName := ⟨RX3, "isPlace", "(I)Z"⟩
abbrev cX3_isHour : ByteArray := prog_1_method_26_code
def yX3_isHour : MethodName := ⟨RX3, "isHour", "(I)Z"⟩
abbrev cX3_with : ByteArray := prog_1_method_27_code
def yX3_with : MethodName := ⟨RX3, "with", "(JJ)J"⟩
abbrev cX3_withStick : ByteArray := prog_1_method_28_code
def yX3_withStick : MethodName := ⟨RX3, "withStick", "(JI)J"⟩
abbrev cX3_drawLateness : ByteArray := prog_1_method_29_code
def yX3_drawLateness : MethodName := ⟨RX3, "drawLateness", "(I)I"⟩
abbrev cX3_stepFrom : ByteArray := prog_1_method_30_code
def yX3_stepFrom : MethodName := ⟨RX3, "stepFrom", "(II)I"⟩
abbrev cX3_stepsBetween : ByteArray := prog_1_method_31_code
def yX3_stepsBetween : MethodName := ⟨RX3, "stepsBetween", "(II)I"⟩
def RX4 : String := "StickWaysModel"
def TX4 : u_T := fun k => match k with
  | 0 => ("StickWaysModel", "page", "[I", true)
  | 1 => ("StickWaysModel", "pageMany", "I", false)
  | 2 => ("StickWaysModel", "read", "[I", true)
  | 3 => ("StickWaysModel", "readMany", "I", false)
  | 4 => ("StickWaysModel", "state", "I", false)
  | 5 => ("StickWaysModel", "sticks", "I", false)
  | 6 => ("StickWaysModel", "changes", "I", false)
  | 7 => ("StickWaysModel", "hillsRead", "I", false)
  | 8 => ("StickWaysModel", "rows", "[I", true)
  | 9 => ("StickWaysModel", "seenBy", "[I", true)
  | 10 => ("StickWaysModel", "seenMany", "I", false)
  | 11 => ("StickWaysModel", "sights", "[I", true)
  | 12 => ("StickWaysModel", "parts", "[I", true)
  | 13 => ("StickWaysModel", "seedNow", "I", false)
  | 14 => ("StickWaysModel", "savedRows", "[I", true)
  | 15 => ("StickWaysModel", "keptHills", "I", false)
  | 16 => ("StickWaysModel", "keptSticks", "I", false)
  | 17 => ("StickWaysModel", "keptChanges", "I", false)
  | 18 => ("StickWaysModel", "keptSeen", "I", false)
  | 19 => ("StickWaysModel", "keptRows", "[I", true)
  | 20 => ("StickWaysModel", "keptSights", "[I", true)
  | _ => ("StickWaysModel", "hash", "J", false)
def tyX4 : Nat → FieldType := fun k => match k with
  | 0 => .array .int
  | 1 => .int
  | 2 => .array .int
  | 3 => .int
  | 4 => .int
  | 5 => .int
  | 6 => .int
  | 7 => .int
  | 8 => .array .int
  | 9 => .array .int
  | 10 => .int
  | 11 => .array .int
  | 12 => .array .int
  | 13 => .int
  | 14 => .array .int
  | 15 => .int
  | 16 => .int
  | 17 => .int
  | 18 => .int
  | 19 => .array .int
  | 20 => .array .int
  | _ => .long
theorem nmX4 : ∀ a, a < 22 → ∀ b, b < 22 → a ≠ b → (TX4 a).2.1 ≠ (TX4 b).2.1 := by decide +kernel
theorem tyX4_ok : ∀ k, k < 22 → parseFieldDescriptor (TX4 k).2.2.1 = some (tyX4 k) := by decide +kernel
abbrev cX4_init : ByteArray := prog_6_method_1_code
def yX4_init : MethodName := ⟨RX4, "<init>", "()V"⟩
abbrev cX4_in : ByteArray := prog_6_method_2_code
def yX4_in : MethodName := ⟨RX4, "in", "(JJJ)Z"⟩
abbrev cX4_copy : ByteArray := prog_6_method_3_code
def yX4_copy : MethodName := ⟨RX4, "copy", "([I[I)V"⟩
abbrev cX4_ones : ByteArray := prog_6_method_4_code
def yX4_ones : MethodName := ⟨RX4, "ones", "(I)I"⟩
abbrev cX4_letter : ByteArray := prog_6_method_5_code
def yX4_letter : MethodName := ⟨RX4, "letter", "(I)I"⟩
abbrev cX4_blank : ByteArray := prog_6_method_6_code
def yX4_blank : MethodName := ⟨RX4, "blank", "()I"⟩
abbrev cX4_kindBy : ByteArray := prog_6_method_7_code
def yX4_kindBy : MethodName := ⟨RX4, "kindBy", "(I)I"⟩
abbrev cX4_stepBy : ByteArray := prog_6_method_8_code
def yX4_stepBy : MethodName := ⟨RX4, "stepBy", "(I)I"⟩
abbrev cX4_go : ByteArray := prog_6_method_9_code
def yX4_go : MethodName := ⟨RX4, "go", "(I)Z"⟩
abbrev cX4_faultOf : ByteArray := prog_6_method_10_code
def yX4_faultOf : MethodName := ⟨RX4, "faultOf", "()I"⟩
abbrev cX4_fault : ByteArray := prog_6_method_11_code
def yX4_fault : MethodName := ⟨RX4, "fault", "()I"⟩
abbrev cX4_hills : ByteArray := prog_6_method_12_code
def yX4_hills : MethodName := ⟨RX4, "hills", "()I"⟩
abbrev cX4_lacks : ByteArray := prog_6_method_13_code
def yX4_lacks : MethodName := ⟨RX4, "lacks", "()Z"⟩
abbrev cX4_isStick : ByteArray := prog_6_method_14_code
def yX4_isStick : MethodName := ⟨RX4, "isStick", "(I)Z"⟩
abbrev cX4_areTwo : ByteArray := prog_6_method_15_code
def yX4_areTwo : MethodName := ⟨RX4, "areTwo", "(II)Z"⟩
abbrev cX4_stepped : ByteArray := prog_6_method_16_code
def yX4_stepped : MethodName := ⟨RX4, "stepped", "(II)I"⟩
abbrev cX4_hoursOf : ByteArray := prog_6_method_17_code
def yX4_hoursOf : MethodName := ⟨RX4, "hoursOf", "(I)I"⟩
abbrev cX4_stepIn : ByteArray := prog_6_method_18_code
def yX4_stepIn : MethodName := ⟨RX4, "stepIn", "(II)I"⟩
abbrev cX4_atOf : ByteArray := prog_6_method_19_code
def yX4_atOf : MethodName := ⟨RX4, "atOf", "(II)I"⟩
abbrev cX4_placesOf : ByteArray := prog_6_method_20_code
def yX4_placesOf : MethodName := ⟨RX4, "placesOf", "(I)I"⟩
abbrev cX4_endOf : ByteArray := prog_6_method_21_code
def yX4_endOf : MethodName := ⟨RX4, "endOf", "(I)I"⟩
abbrev cX4_tell : ByteArray := prog_6_method_22_code
def yX4_tell : MethodName := ⟨RX4, "tell", "(II)I"⟩
abbrev cX4_stick : ByteArray := prog_6_method_23_code
def yX4_stick : MethodName := ⟨RX4, "stick", "(II)I"⟩
abbrev cX4_as : ByteArray := prog_6_method_24_code
def yX4_as : MethodName := ⟨RX4, "as", "(II)I"⟩
abbrev cX4_at : ByteArray := prog_6_method_25_code
def yX4_at : MethodName := ⟨RX4, "at", "(II)I"⟩
abbrev cX4_meetOf : ByteArray := prog_6_method_26_code
def yX4_meetOf : MethodName := ⟨RX4, "meetOf", "(II)I"⟩
abbrev cX4_meet : ByteArray := prog_6_method_27_code
def yX4_meet : MethodName := ⟨RX4, "meet", "(II)I"⟩
abbrev cX4_late : ByteArray := prog_6_method_28_code
def yX4_late : MethodName := ⟨RX4, "late", "(II)I"⟩
abbrev cX4_cut : ByteArray := prog_6_method_29_code
def yX4_cut : MethodName := ⟨RX4, "cut", "(II)I"⟩
abbrev cX4_saw : ByteArray := prog_6_method_30_code
def yX4_saw : MethodName := ⟨RX4, "saw", "(II)I"⟩
abbrev cX4_laterOf : ByteArray := prog_6_method_31_code
def yX4_laterOf : MethodName := ⟨RX4, "laterOf", "(II)I"⟩
abbrev cX4_later : ByteArray := prog_6_method_32_code
def yX4_later : MethodName := ⟨RX4, "later", "(II)I"⟩
abbrev cX4_coverSet : ByteArray := prog_6_method_33_code
def yX4_coverSet : MethodName := ⟨RX4, "coverSet", "(I)I"⟩
abbrev cX4_coverOf : ByteArray := prog_6_method_34_code
def yX4_coverOf : MethodName := ⟨RX4, "coverOf", "(II)I"⟩
abbrev cX4_cover : ByteArray := prog_6_method_35_code
def yX4_cover : MethodName := ⟨RX4, "cover", "(II)I"⟩
abbrev cX4_far : ByteArray := prog_6_method_36_code
def yX4_far : MethodName := ⟨RX4, "far", "(II)I"⟩
abbrev cX4_catchOf : ByteArray := prog_6_method_37_code
def yX4_catchOf : MethodName := ⟨RX4, "catchOf", "(II)I"⟩
abbrev cX4_catches : ByteArray := prog_6_method_38_code
def yX4_catches : MethodName := ⟨RX4, "catches", "(II)I"⟩
abbrev cX4_see : ByteArray := prog_6_method_39_code
def yX4_see : MethodName := ⟨RX4, "see", "(II)I"⟩
abbrev cX4_forget : ByteArray := prog_6_method_40_code
def yX4_forget : MethodName := ⟨RX4, "forget", "()I"⟩
abbrev cX4_whoseOf : ByteArray := prog_6_method_41_code
def yX4_whoseOf : MethodName := ⟨RX4, "whoseOf", "()I"⟩
abbrev cX4_whose : ByteArray := prog_6_method_42_code
def yX4_whose : MethodName := ⟨RX4, "whose", "()I"⟩
abbrev cX4_lookOf : ByteArray := prog_6_method_43_code
def yX4_lookOf : MethodName := ⟨RX4, "lookOf", "()I"⟩
abbrev cX4_look : ByteArray := prog_6_method_44_code
def yX4_look : MethodName := ⟨RX4, "look", "()I"⟩
abbrev cX4_draw : ByteArray := prog_6_method_45_code
def yX4_draw : MethodName := ⟨RX4, "draw", "(I)I"⟩
abbrev cX4_meetAll : ByteArray := prog_6_method_46_code
def yX4_meetAll : MethodName := ⟨RX4, "meetAll", "()I"⟩
abbrev cX4_placesAll : ByteArray := prog_6_method_47_code
def yX4_placesAll : MethodName := ⟨RX4, "placesAll", "()I"⟩
abbrev cX4_mornings : ByteArray := prog_6_method_48_code
def yX4_mornings : MethodName := ⟨RX4, "mornings", "(III)I"⟩
abbrev cX4_image : ByteArray := prog_6_method_49_code
def yX4_image : MethodName := ⟨RX4, "image", "()I"⟩
abbrev cX4_restore : ByteArray := prog_6_method_50_code
def yX4_restore : MethodName := ⟨RX4, "restore", "()I"⟩
abbrev cX4_stepsAll : ByteArray := prog_6_method_51_code
def yX4_stepsAll : MethodName := ⟨RX4, "stepsAll", "()I"⟩
abbrev cX4_countOf : ByteArray := prog_6_method_52_code
def yX4_countOf : MethodName := ⟨RX4, "countOf", "(I)I"⟩
abbrev cX4_count : ByteArray := prog_6_method_53_code
def yX4_count : MethodName := ⟨RX4, "count", "(I)I"⟩
abbrev cX4_say : ByteArray := prog_6_method_54_code
def yX4_say : MethodName := ⟨RX4, "say", "(J)V"⟩
abbrev cX4_sayStick : ByteArray := prog_6_method_55_code
def yX4_sayStick : MethodName := ⟨RX4, "sayStick", "(I)V"⟩
abbrev cX4_digest : ByteArray := prog_6_method_56_code
def yX4_digest : MethodName := ⟨RX4, "digest", "()J"⟩
def RJ11 : String := "java/lang/Character"
def TJ11 : u_T := fun k => match k with
  | _ => ("", "", "", false)
def tyJ11 : Nat → FieldType := fun k => match k with
  | _ => .int
theorem nmJ11 : ∀ a, a < 0 → ∀ b, b < 0 → a ≠ b → (TJ11 a).2.1 ≠ (TJ11 b).2.1 := by decide +kernel
theorem tyJ11_ok : ∀ k, k < 0 → parseFieldDescriptor (TJ11 k).2.2.1 = some (tyJ11 k) := by decide +kernel
abbrev cJ11_isValidCodePoint_9a6ad : ByteArray := prog_7_method_11_code
def yJ11_isValidCodePoint_9a6ad : MethodName := ⟨RJ11, "isValidCodePoint", "(I)Z"⟩
abbrev cJ11_highSurrogate_5068e : ByteArray := prog_7_method_28_code
def yJ11_highSurrogate_5068e : MethodName := ⟨RJ11, "highSurrogate", "(I)C"⟩
abbrev cJ11_lowSurrogate_5068e : ByteArray := prog_7_method_29_code
def yJ11_lowSurrogate_5068e : MethodName := ⟨RJ11, "lowSurrogate", "(I)C"⟩
def RJ6 : String := "java/lang/Integer"
def TJ6 : u_T := fun k => match k with
  | _ => ("", "", "", false)
def tyJ6 : Nat → FieldType := fun k => match k with
  | _ => .int
theorem nmJ6 : ∀ a, a < 0 → ∀ b, b < 0 → a ≠ b → (TJ6 a).2.1 ≠ (TJ6 b).2.1 := by decide +kernel
theorem tyJ6_ok : ∀ k, k < 0 → parseFieldDescriptor (TJ6 k).2.2.1 = some (tyJ6 k) := by decide +kernel
abbrev cJ6_bitCount_0f7a4 : ByteArray := prog_8_method_49_code
def yJ6_bitCount_0f7a4 : MethodName := ⟨RJ6, "bitCount", "(I)I"⟩
def RJ9 : String := "java/lang/Math"
def TJ9 : u_T := fun k => match k with
  | _ => ("", "", "", false)
def tyJ9 : Nat → FieldType := fun k => match k with
  | _ => .int
theorem nmJ9 : ∀ a, a < 0 → ∀ b, b < 0 → a ≠ b → (TJ9 a).2.1 ≠ (TJ9 b).2.1 := by decide +kernel
theorem tyJ9_ok : ∀ k, k < 0 → parseFieldDescriptor (TJ9 k).2.2.1 = some (tyJ9 k) := by decide +kernel
abbrev cJ9_abs_0f7a4 : ByteArray := prog_9_method_59_code
def yJ9_abs_0f7a4 : MethodName := ⟨RJ9, "abs", "(I)I"⟩
abbrev cJ9_max_7cf53 : ByteArray := prog_9_method_65_code
def yJ9_max_7cf53 : MethodName := ⟨RJ9, "max", "(II)I"⟩
abbrev cJ9_min_7cf53 : ByteArray := prog_9_method_69_code
def yJ9_min_7cf53 : MethodName := ⟨RJ9, "min", "(II)I"⟩
def RJ0 : String := "java/lang/String"
def TJ0 : u_T := fun k => match k with
  | _ => ("", "", "", false)
def tyJ0 : Nat → FieldType := fun k => match k with
  | _ => .int
theorem nmJ0 : ∀ a, a < 0 → ∀ b, b < 0 → a ≠ b → (TJ0 a).2.1 ≠ (TJ0 b).2.1 := by decide +kernel
theorem tyJ0_ok : ∀ k, k < 0 → parseFieldDescriptor (TJ0 k).2.2.1 = some (tyJ0 k) := by decide +kernel
abbrev cJ0_length_8abf5 : ByteArray := prog_10_method_54_code
def yJ0_length_8abf5 : MethodName := ⟨RJ0, "length", "()I"⟩
abbrev cJ0_indexOf_0f7a4 : ByteArray := prog_10_method_79_code
def yJ0_indexOf_0f7a4 : MethodName := ⟨RJ0, "indexOf", "(I)I"⟩
abbrev cJ0_indexOf_7cf53 : ByteArray := prog_10_method_80_code
def yJ0_indexOf_7cf53 : MethodName := ⟨RJ0, "indexOf", "(II)I"⟩
abbrev cJ0_coder_7d493 : ByteArray := prog_10_method_152_code
def yJ0_coder_7d493 : MethodName := ⟨RJ0, "coder", "()B"⟩
abbrev cJ0_isLatin1_aae02 : ByteArray := prog_10_method_154_code
def yJ0_isLatin1_aae02 : MethodName := ⟨RJ0, "isLatin1", "()Z"⟩
abbrev cJ0_checkBoundsBeginEnd_23922 : ByteArray := prog_10_method_158_code
def yJ0_checkBoundsBeginEnd_23922 : MethodName := ⟨RJ0, "checkBoundsBeginEnd", "(III)V"⟩
def RJ1 : String := "java/lang/StringLatin1"
def TJ1 : u_T := fun k => match k with
  | _ => ("", "", "", false)
def tyJ1 : Nat → FieldType := fun k => match k with
  | _ => .int
theorem nmJ1 : ∀ a, a < 0 → ∀ b, b < 0 → a ≠ b → (TJ1 a).2.1 ≠ (TJ1 b).2.1 := by decide +kernel
theorem tyJ1_ok : ∀ k, k < 0 → parseFieldDescriptor (TJ1 k).2.2.1 = some (tyJ1 k) := by decide +kernel
abbrev cJ1_canEncode_9a6ad : ByteArray := prog_11_method_4_code
def yJ1_canEncode_9a6ad : MethodName := ⟨RJ1, "canEncode", "(I)Z"⟩
abbrev cJ1_indexOf_4cfef : ByteArray := prog_11_method_22_code
def yJ1_indexOf_4cfef : MethodName := ⟨RJ1, "indexOf", "([BIII)I"⟩
abbrev cJ1_indexOfChar_4cfef : ByteArray := prog_11_method_23_code
def yJ1_indexOfChar_4cfef : MethodName := ⟨RJ1, "indexOfChar", "([BIII)I"⟩
def RJ2 : String := "java/lang/StringUTF16"
def TJ2 : u_T := fun k => match k with
  | _ => ("", "", "", false)
def tyJ2 : Nat → FieldType := fun k => match k with
  | _ => .int
theorem nmJ2 : ∀ a, a < 0 → ∀ b, b < 0 → a ≠ b → (TJ2 a).2.1 ≠ (TJ2 b).2.1 := by decide +kernel
theorem tyJ2_ok : ∀ k, k < 0 → parseFieldDescriptor (TJ2 k).2.2.1 = some (tyJ2 k) := by decide +kernel
abbrev cJ2_getChar_3b067 : ByteArray := prog_12_method_5_code
def yJ2_getChar_3b067 : MethodName := ⟨RJ2, "getChar", "([BI)C"⟩
abbrev cJ2_length_9d52b : ByteArray := prog_12_method_6_code
def yJ2_length_9d52b : MethodName := ⟨RJ2, "length", "([B)I"⟩
abbrev cJ2_indexOf_4cfef : ByteArray := prog_12_method_40_code
def yJ2_indexOf_4cfef : MethodName := ⟨RJ2, "indexOf", "([BIII)I"⟩
abbrev cJ2_indexOfChar_4cfef : ByteArray := prog_12_method_47_code
def yJ2_indexOfChar_4cfef : MethodName := ⟨RJ2, "indexOfChar", "([BIII)I"⟩
abbrev cJ2_indexOfCharUnsafe_4cfef : ByteArray := prog_12_method_48_code
def yJ2_indexOfCharUnsafe_4cfef : MethodName := ⟨RJ2, "indexOfCharUnsafe", "([BIII)I"⟩
abbrev cJ2_indexOfSupplementary_4cfef : ByteArray := prog_12_method_49_code
def yJ2_indexOfSupplementary_4cfef : MethodName := ⟨RJ2, "indexOfSupplementary", "([BIII)I"⟩
abbrev cJ2_checkBoundsBeginEnd_d044e : ByteArray := prog_12_method_93_code
def yJ2_checkBoundsBeginEnd_d044e : MethodName := ⟨RJ2, "checkBoundsBeginEnd", "(II[B)V"⟩
def RJ10 : String := "java/lang/System"
def TJ10 : u_T := fun k => match k with
  | _ => ("", "", "", false)
def tyJ10 : Nat → FieldType := fun k => match k with
  | _ => .int
theorem nmJ10 : ∀ a, a < 0 → ∀ b, b < 0 → a ≠ b → (TJ10 a).2.1 ≠ (TJ10 b).2.1 := by decide +kernel
theorem tyJ10_ok : ∀ k, k < 0 → parseFieldDescriptor (TJ10 k).2.2.1 = some (tyJ10 k) := by decide +kernel
def RJ3 : String := "jdk/internal/util/Preconditions"
def TJ3 : u_T := fun k => match k with
  | _ => ("", "", "", false)
def tyJ3 : Nat → FieldType := fun k => match k with
  | _ => .int
theorem nmJ3 : ∀ a, a < 0 → ∀ b, b < 0 → a ≠ b → (TJ3 a).2.1 ≠ (TJ3 b).2.1 := by decide +kernel
theorem tyJ3_ok : ∀ k, k < 0 → parseFieldDescriptor (TJ3 k).2.2.1 = some (tyJ3 k) := by decide +kernel
abbrev cJ3_checkFromToIndex_8c36e : ByteArray := prog_14_method_12_code
def yJ3_checkFromToIndex_8c36e : MethodName := ⟨RJ3, "checkFromToIndex", "(IIILjava/util/function/BiFunction;)I"⟩
def RL : String := "StickWaysLaw"
abbrev cL_law : ByteArray := code
def yL_law : MethodName := ⟨RL, "law", "([I)Z"⟩
abbrev vwCl : List vw_C := [(RX0, TX0, 7), (RX1, TX1, 2), (RX2, TX2, 6), (RX3, TX3, 6), (RX4, TX4, 22)]
end
section
theorem dX0_init_0 : decode cX0_init 0 = .ok (.aload_n 0, 1) := by decide +kernel
theorem dX0_init_1 : decode cX0_init 1 = .ok (.invokespecial 3, 3) := by decide +kernel
theorem dX0_init_4 : decode cX0_init 4 = .ok (.aload_n 0, 1) := by decide +kernel
theorem dX0_init_5 : decode cX0_init 5 = .ok (.bipush 6, 2) := by decide +kernel
theorem dX0_init_7 : decode cX0_init 7 = .ok (.anewarray 9, 3) := by decide +kernel
theorem dX0_init_10 : decode cX0_init 10 = .ok (.putfield 11, 3) := by decide +kernel
theorem dX0_init_13 : decode cX0_init 13 = .ok (.iconst 0, 1) := by decide +kernel
theorem dX0_init_14 : decode cX0_init 14 = .ok (.istore_n 1, 1) := by decide +kernel
theorem dX0_init_15 : decode cX0_init 15 = .ok (.iload_n 1, 1) := by decide +kernel
theorem dX0_init_16 : decode cX0_init 16 = .ok (.bipush 6, 2) := by decide +kernel
theorem dX0_init_18 : decode cX0_init 18 = .ok (.if_icmp .ge 22, 3) := by decide +kernel
theorem dX0_init_21 : decode cX0_init 21 = .ok (.aload_n 0, 1) := by decide +kernel
theorem dX0_init_22 : decode cX0_init 22 = .ok (.getfield 11, 3) := by decide +kernel
theorem dX0_init_25 : decode cX0_init 25 = .ok (.iload_n 1, 1) := by decide +kernel
theorem dX0_init_26 : decode cX0_init 26 = .ok (.new 9, 3) := by decide +kernel
theorem dX0_init_29 : decode cX0_init 29 = .ok (.dup, 1) := by decide +kernel
theorem dX0_init_30 : decode cX0_init 30 = .ok (.invokespecial 17, 3) := by decide +kernel
theorem dX0_init_33 : decode cX0_init 33 = .ok (.aastore, 1) := by decide +kernel
theorem dX0_init_34 : decode cX0_init 34 = .ok (.iinc 1 1, 3) := by decide +kernel
theorem dX0_init_37 : decode cX0_init 37 = .ok (.goto (-22), 3) := by decide +kernel
theorem dX0_init_40 : decode cX0_init 40 = .ok (.aload_n 0, 1) := by decide +kernel
theorem dX0_init_41 : decode cX0_init 41 = .ok (.bipush 6, 2) := by decide +kernel
theorem dX0_init_43 : decode cX0_init 43 = .ok (.newarray .int, 2) := by decide +kernel
theorem dX0_init_45 : decode cX0_init 45 = .ok (.putfield 18, 3) := by decide +kernel
theorem dX0_init_48 : decode cX0_init 48 = .ok (.aload_n 0, 1) := by decide +kernel
theorem dX0_init_49 : decode cX0_init 49 = .ok (.bipush 8, 2) := by decide +kernel
theorem dX0_init_51 : decode cX0_init 51 = .ok (.newarray .int, 2) := by decide +kernel
theorem dX0_init_53 : decode cX0_init 53 = .ok (.putfield 22, 3) := by decide +kernel
theorem dX0_init_56 : decode cX0_init 56 = .ok (.aload_n 0, 1) := by decide +kernel
theorem dX0_init_57 : decode cX0_init 57 = .ok (.bipush 8, 2) := by decide +kernel
theorem dX0_init_59 : decode cX0_init 59 = .ok (.newarray .int, 2) := by decide +kernel
theorem dX0_init_61 : decode cX0_init 61 = .ok (.putfield 25, 3) := by decide +kernel
theorem dX0_init_64 : decode cX0_init 64 = .ok (.aload_n 0, 1) := by decide +kernel
theorem dX0_init_65 : decode cX0_init 65 = .ok (.invokevirtual 28, 3) := by decide +kernel
theorem dX0_init_68 : decode cX0_init 68 = .ok (.return_, 1) := by decide +kernel
theorem dX0_clear_0 : decode cX0_clear 0 = .ok (.aload_n 0, 1) := by decide +kernel
theorem dX0_clear_1 : decode cX0_clear 1 = .ok (.iconst 0, 1) := by decide +kernel
theorem dX0_clear_2 : decode cX0_clear 2 = .ok (.putfield 31, 3) := by decide +kernel
theorem dX0_clear_5 : decode cX0_clear 5 = .ok (.aload_n 0, 1) := by decide +kernel
theorem dX0_clear_6 : decode cX0_clear 6 = .ok (.iconst 0, 1) := by decide +kernel
theorem dX0_clear_7 : decode cX0_clear 7 = .ok (.putfield 35, 3) := by decide +kernel
theorem dX0_clear_10 : decode cX0_clear 10 = .ok (.aload_n 0, 1) := by decide +kernel
theorem dX0_clear_11 : decode cX0_clear 11 = .ok (.iconst 0, 1) := by decide +kernel
theorem dX0_clear_12 : decode cX0_clear 12 = .ok (.putfield 38, 3) := by decide +kernel
theorem dX0_clear_15 : decode cX0_clear 15 = .ok (.return_, 1) := by decide +kernel
theorem dX0_copyFrom_0 : decode cX0_copyFrom 0 = .ok (.aload_n 0, 1) := by decide +kernel
theorem dX0_copyFrom_1 : decode cX0_copyFrom 1 = .ok (.aload_n 1, 1) := by decide +kernel
theorem dX0_copyFrom_2 : decode cX0_copyFrom 2 = .ok (.getfield 31, 3) := by decide +kernel
theorem dX0_copyFrom_5 : decode cX0_copyFrom 5 = .ok (.putfield 31, 3) := by decide +kernel
theorem dX0_copyFrom_8 : decode cX0_copyFrom 8 = .ok (.iconst 0, 1) := by decide +kernel
theorem dX0_copyFrom_9 : decode cX0_copyFrom 9 = .ok (.istore_n 2, 1) := by decide +kernel
theorem dX0_copyFrom_10 : decode cX0_copyFrom 10 = .ok (.iload_n 2, 1) := by decide +kernel
theorem dX0_copyFrom_11 : decode cX0_copyFrom 11 = .ok (.bipush 6, 2) := by decide +kernel
theorem dX0_copyFrom_13 : decode cX0_copyFrom 13 = .ok (.if_icmp .ge 24, 3) := by decide +kernel
theorem dX0_copyFrom_16 : decode cX0_copyFrom 16 = .ok (.aload_n 0, 1) := by decide +kernel
theorem dX0_copyFrom_17 : decode cX0_copyFrom 17 = .ok (.getfield 11, 3) := by decide +kernel
theorem dX0_copyFrom_20 : decode cX0_copyFrom 20 = .ok (.iload_n 2, 1) := by decide +kernel
theorem dX0_copyFrom_21 : decode cX0_copyFrom 21 = .ok (.aaload, 1) := by decide +kernel
theorem dX0_copyFrom_22 : decode cX0_copyFrom 22 = .ok (.aload_n 1, 1) := by decide +kernel
theorem dX0_copyFrom_23 : decode cX0_copyFrom 23 = .ok (.getfield 11, 3) := by decide +kernel
theorem dX0_copyFrom_26 : decode cX0_copyFrom 26 = .ok (.iload_n 2, 1) := by decide +kernel
theorem dX0_copyFrom_27 : decode cX0_copyFrom 27 = .ok (.aaload, 1) := by decide +kernel
theorem dX0_copyFrom_28 : decode cX0_copyFrom 28 = .ok (.invokevirtual 41, 3) := by decide +kernel
theorem dX0_copyFrom_31 : decode cX0_copyFrom 31 = .ok (.iinc 2 1, 3) := by decide +kernel
theorem dX0_copyFrom_34 : decode cX0_copyFrom 34 = .ok (.goto (-24), 3) := by decide +kernel
theorem dX0_copyFrom_37 : decode cX0_copyFrom 37 = .ok (.aload_n 1, 1) := by decide +kernel
theorem dX0_copyFrom_38 : decode cX0_copyFrom 38 = .ok (.getfield 18, 3) := by decide +kernel
theorem dX0_copyFrom_41 : decode cX0_copyFrom 41 = .ok (.iconst 0, 1) := by decide +kernel
theorem dX0_copyFrom_42 : decode cX0_copyFrom 42 = .ok (.aload_n 0, 1) := by decide +kernel
theorem dX0_copyFrom_43 : decode cX0_copyFrom 43 = .ok (.getfield 18, 3) := by decide +kernel
theorem dX0_copyFrom_46 : decode cX0_copyFrom 46 = .ok (.iconst 0, 1) := by decide +kernel
theorem dX0_copyFrom_47 : decode cX0_copyFrom 47 = .ok (.bipush 6, 2) := by decide +kernel
theorem dX0_copyFrom_49 : decode cX0_copyFrom 49 = .ok (.invokestatic 45, 3) := by decide +kernel
theorem dX0_copyFrom_52 : decode cX0_copyFrom 52 = .ok (.aload_n 0, 1) := by decide +kernel
theorem dX0_copyFrom_53 : decode cX0_copyFrom 53 = .ok (.aload_n 1, 1) := by decide +kernel
theorem dX0_copyFrom_54 : decode cX0_copyFrom 54 = .ok (.getfield 35, 3) := by decide +kernel
theorem dX0_copyFrom_57 : decode cX0_copyFrom 57 = .ok (.putfield 35, 3) := by decide +kernel
theorem dX0_copyFrom_60 : decode cX0_copyFrom 60 = .ok (.aload_n 0, 1) := by decide +kernel
theorem dX0_copyFrom_61 : decode cX0_copyFrom 61 = .ok (.aload_n 1, 1) := by decide +kernel
theorem dX0_copyFrom_62 : decode cX0_copyFrom 62 = .ok (.getfield 38, 3) := by decide +kernel
theorem dX0_copyFrom_65 : decode cX0_copyFrom 65 = .ok (.putfield 38, 3) := by decide +kernel
theorem dX0_copyFrom_68 : decode cX0_copyFrom 68 = .ok (.aload_n 1, 1) := by decide +kernel
theorem dX0_copyFrom_69 : decode cX0_copyFrom 69 = .ok (.getfield 22, 3) := by decide +kernel
theorem dX0_copyFrom_72 : decode cX0_copyFrom 72 = .ok (.iconst 0, 1) := by decide +kernel
theorem dX0_copyFrom_73 : decode cX0_copyFrom 73 = .ok (.aload_n 0, 1) := by decide +kernel
theorem dX0_copyFrom_74 : decode cX0_copyFrom 74 = .ok (.getfield 22, 3) := by decide +kernel
theorem dX0_copyFrom_77 : decode cX0_copyFrom 77 = .ok (.iconst 0, 1) := by decide +kernel
theorem dX0_copyFrom_78 : decode cX0_copyFrom 78 = .ok (.bipush 8, 2) := by decide +kernel
theorem dX0_copyFrom_80 : decode cX0_copyFrom 80 = .ok (.invokestatic 45, 3) := by decide +kernel
theorem dX0_copyFrom_83 : decode cX0_copyFrom 83 = .ok (.aload_n 1, 1) := by decide +kernel
theorem dX0_copyFrom_84 : decode cX0_copyFrom 84 = .ok (.getfield 25, 3) := by decide +kernel
theorem dX0_copyFrom_87 : decode cX0_copyFrom 87 = .ok (.iconst 0, 1) := by decide +kernel
theorem dX0_copyFrom_88 : decode cX0_copyFrom 88 = .ok (.aload_n 0, 1) := by decide +kernel
theorem dX0_copyFrom_89 : decode cX0_copyFrom 89 = .ok (.getfield 25, 3) := by decide +kernel
theorem dX0_copyFrom_92 : decode cX0_copyFrom 92 = .ok (.iconst 0, 1) := by decide +kernel
theorem dX0_copyFrom_93 : decode cX0_copyFrom 93 = .ok (.bipush 8, 2) := by decide +kernel
theorem dX0_copyFrom_95 : decode cX0_copyFrom 95 = .ok (.invokestatic 45, 3) := by decide +kernel
theorem dX0_copyFrom_98 : decode cX0_copyFrom 98 = .ok (.return_, 1) := by decide +kernel
theorem dX0_has_0 : decode cX0_has 0 = .ok (.iload_n 1, 1) := by decide +kernel
theorem dX0_has_1 : decode cX0_has 1 = .ok (.ifCond .lt 15, 3) := by decide +kernel
theorem dX0_has_4 : decode cX0_has 4 = .ok (.iload_n 1, 1) := by decide +kernel
theorem dX0_has_5 : decode cX0_has 5 = .ok (.aload_n 0, 1) := by decide +kernel
theorem dX0_has_6 : decode cX0_has 6 = .ok (.getfield 31, 3) := by decide +kernel
theorem dX0_has_9 : decode cX0_has 9 = .ok (.if_icmp .ge 7, 3) := by decide +kernel
theorem dX0_has_12 : decode cX0_has 12 = .ok (.iconst 1, 1) := by decide +kernel
theorem dX0_has_13 : decode cX0_has 13 = .ok (.goto 4, 3) := by decide +kernel
theorem dX0_has_16 : decode cX0_has 16 = .ok (.iconst 0, 1) := by decide +kernel
theorem dX0_has_17 : decode cX0_has 17 = .ok (.ireturn, 1) := by decide +kernel
theorem dX0_hasBoth_0 : decode cX0_hasBoth 0 = .ok (.aload_n 0, 1) := by decide +kernel
theorem dX0_hasBoth_1 : decode cX0_hasBoth 1 = .ok (.iload_n 1, 1) := by decide +kernel
theorem dX0_hasBoth_2 : decode cX0_hasBoth 2 = .ok (.invokevirtual 51, 3) := by decide +kernel
theorem dX0_hasBoth_5 : decode cX0_hasBoth 5 = .ok (.ifCond .eq 20, 3) := by decide +kernel
theorem dX0_hasBoth_8 : decode cX0_hasBoth 8 = .ok (.aload_n 0, 1) := by decide +kernel
theorem dX0_hasBoth_9 : decode cX0_hasBoth 9 = .ok (.iload_n 2, 1) := by decide +kernel
theorem dX0_hasBoth_10 : decode cX0_hasBoth 10 = .ok (.invokevirtual 51, 3) := by decide +kernel
theorem dX0_hasBoth_13 : decode cX0_hasBoth 13 = .ok (.ifCond .eq 12, 3) := by decide +kernel
theorem dX0_hasBoth_16 : decode cX0_hasBoth 16 = .ok (.iload_n 1, 1) := by decide +kernel
theorem dX0_hasBoth_17 : decode cX0_hasBoth 17 = .ok (.iload_n 2, 1) := by decide +kernel
theorem dX0_hasBoth_18 : decode cX0_hasBoth 18 = .ok (.if_icmp .eq 7, 3) := by decide +kernel
theorem dX0_hasBoth_21 : decode cX0_hasBoth 21 = .ok (.iconst 1, 1) := by decide +kernel
theorem dX0_hasBoth_22 : decode cX0_hasBoth 22 = .ok (.goto 4, 3) := by decide +kernel
theorem dX0_hasBoth_25 : decode cX0_hasBoth 25 = .ok (.iconst 0, 1) := by decide +kernel
theorem dX0_hasBoth_26 : decode cX0_hasBoth 26 = .ok (.ireturn, 1) := by decide +kernel
theorem dX0_add_0 : decode cX0_add 0 = .ok (.aload_n 0, 1) := by decide +kernel
theorem dX0_add_1 : decode cX0_add 1 = .ok (.getfield 31, 3) := by decide +kernel
theorem dX0_add_4 : decode cX0_add 4 = .ok (.bipush 6, 2) := by decide +kernel
theorem dX0_add_6 : decode cX0_add 6 = .ok (.if_icmp .lt 5, 3) := by decide +kernel
theorem dX0_add_9 : decode cX0_add 9 = .ok (.aconst_null, 1) := by decide +kernel
theorem dX0_add_10 : decode cX0_add 10 = .ok (.areturn, 1) := by decide +kernel
theorem dX0_add_11 : decode cX0_add 11 = .ok (.aload_n 0, 1) := by decide +kernel
theorem dX0_add_12 : decode cX0_add 12 = .ok (.getfield 11, 3) := by decide +kernel
theorem dX0_add_15 : decode cX0_add 15 = .ok (.aload_n 0, 1) := by decide +kernel
theorem dX0_add_16 : decode cX0_add 16 = .ok (.getfield 31, 3) := by decide +kernel
theorem dX0_add_19 : decode cX0_add 19 = .ok (.aaload, 1) := by decide +kernel
theorem dX0_add_20 : decode cX0_add 20 = .ok (.astore_n 3, 1) := by decide +kernel
theorem dX0_add_21 : decode cX0_add 21 = .ok (.aload_n 3, 1) := by decide +kernel
theorem dX0_add_22 : decode cX0_add 22 = .ok (.iload_n 1, 1) := by decide +kernel
theorem dX0_add_23 : decode cX0_add 23 = .ok (.iload_n 2, 1) := by decide +kernel
theorem dX0_add_24 : decode cX0_add 24 = .ok (.invokevirtual 55, 3) := by decide +kernel
theorem dX0_add_27 : decode cX0_add 27 = .ok (.aload_n 0, 1) := by decide +kernel
theorem dX0_add_28 : decode cX0_add 28 = .ok (.getfield 18, 3) := by decide +kernel
theorem dX0_add_31 : decode cX0_add 31 = .ok (.aload_n 0, 1) := by decide +kernel
theorem dX0_add_32 : decode cX0_add 32 = .ok (.getfield 31, 3) := by decide +kernel
theorem dX0_add_35 : decode cX0_add 35 = .ok (.iconst 0, 1) := by decide +kernel
theorem dX0_add_36 : decode cX0_add 36 = .ok (.iastore, 1) := by decide +kernel
theorem dX0_add_37 : decode cX0_add 37 = .ok (.aload_n 0, 1) := by decide +kernel
theorem dX0_add_38 : decode cX0_add 38 = .ok (.dup, 1) := by decide +kernel
theorem dX0_add_39 : decode cX0_add 39 = .ok (.getfield 31, 3) := by decide +kernel
theorem dX0_add_42 : decode cX0_add 42 = .ok (.iconst 1, 1) := by decide +kernel
theorem dX0_add_43 : decode cX0_add 43 = .ok (.iadd, 1) := by decide +kernel
theorem dX0_add_44 : decode cX0_add 44 = .ok (.putfield 31, 3) := by decide +kernel
theorem dX0_add_47 : decode cX0_add 47 = .ok (.aload_n 3, 1) := by decide +kernel
theorem dX0_add_48 : decode cX0_add 48 = .ok (.areturn, 1) := by decide +kernel
theorem dX0_divide_0 : decode cX0_divide 0 = .ok (.aload_n 0, 1) := by decide +kernel
theorem dX0_divide_1 : decode cX0_divide 1 = .ok (.getfield 11, 3) := by decide +kernel
theorem dX0_divide_4 : decode cX0_divide 4 = .ok (.iload_n 1, 1) := by decide +kernel
theorem dX0_divide_5 : decode cX0_divide 5 = .ok (.aaload, 1) := by decide +kernel
theorem dX0_divide_6 : decode cX0_divide 6 = .ok (.astore_n 3, 1) := by decide +kernel
theorem dX0_divide_7 : decode cX0_divide 7 = .ok (.aload_n 0, 1) := by decide +kernel
theorem dX0_divide_8 : decode cX0_divide 8 = .ok (.aload_n 3, 1) := by decide +kernel
theorem dX0_divide_9 : decode cX0_divide 9 = .ok (.getfield 59, 3) := by decide +kernel
theorem dX0_divide_12 : decode cX0_divide 12 = .ok (.aload_n 3, 1) := by decide +kernel
theorem dX0_divide_13 : decode cX0_divide 13 = .ok (.iload_n 2, 1) := by decide +kernel
theorem dX0_divide_14 : decode cX0_divide 14 = .ok (.invokevirtual 62, 3) := by decide +kernel
theorem dX0_divide_17 : decode cX0_divide 17 = .ok (.invokevirtual 66, 3) := by decide +kernel
theorem dX0_divide_20 : decode cX0_divide 20 = .ok (.astore 4, 2) := by decide +kernel
theorem dX0_divide_22 : decode cX0_divide 22 = .ok (.aload 4, 2) := by decide +kernel
theorem dX0_divide_24 : decode cX0_divide 24 = .ok (.ifnonnull 4, 3) := by decide +kernel
theorem dX0_divide_27 : decode cX0_divide 27 = .ok (.return_, 1) := by decide +kernel
theorem dX0_divide_28 : decode cX0_divide 28 = .ok (.iload_n 2, 1) := by decide +kernel
theorem dX0_divide_29 : decode cX0_divide 29 = .ok (.istore 5, 2) := by decide +kernel
theorem dX0_divide_31 : decode cX0_divide 31 = .ok (.iload 5, 2) := by decide +kernel
theorem dX0_divide_33 : decode cX0_divide 33 = .ok (.aload_n 3, 1) := by decide +kernel
theorem dX0_divide_34 : decode cX0_divide 34 = .ok (.getfield 70, 3) := by decide +kernel
theorem dX0_divide_37 : decode cX0_divide 37 = .ok (.if_icmp .ge 20, 3) := by decide +kernel
theorem dX0_divide_40 : decode cX0_divide 40 = .ok (.aload 4, 2) := by decide +kernel
theorem dX0_divide_42 : decode cX0_divide 42 = .ok (.aload_n 3, 1) := by decide +kernel
theorem dX0_divide_43 : decode cX0_divide 43 = .ok (.iload 5, 2) := by decide +kernel
theorem dX0_divide_45 : decode cX0_divide 45 = .ok (.invokevirtual 73, 3) := by decide +kernel
theorem dX0_divide_48 : decode cX0_divide 48 = .ok (.invokevirtual 76, 3) := by decide +kernel
theorem dX0_divide_51 : decode cX0_divide 51 = .ok (.iinc 5 1, 3) := by decide +kernel
theorem dX0_divide_54 : decode cX0_divide 54 = .ok (.goto (-23), 3) := by decide +kernel
theorem dX0_divide_57 : decode cX0_divide 57 = .ok (.aload_n 3, 1) := by decide +kernel
theorem dX0_divide_58 : decode cX0_divide 58 = .ok (.iload_n 2, 1) := by decide +kernel
theorem dX0_divide_59 : decode cX0_divide 59 = .ok (.invokevirtual 80, 3) := by decide +kernel
theorem dX0_divide_62 : decode cX0_divide 62 = .ok (.return_, 1) := by decide +kernel
theorem dX0_placeAt_0 : decode cX0_placeAt 0 = .ok (.aload_n 0, 1) := by decide +kernel
theorem dX0_placeAt_1 : decode cX0_placeAt 1 = .ok (.getfield 11, 3) := by decide +kernel
theorem dX0_placeAt_4 : decode cX0_placeAt 4 = .ok (.iload_n 1, 1) := by decide +kernel
theorem dX0_placeAt_5 : decode cX0_placeAt 5 = .ok (.aaload, 1) := by decide +kernel
theorem dX0_placeAt_6 : decode cX0_placeAt 6 = .ok (.iload_n 2, 1) := by decide +kernel
theorem dX0_placeAt_7 : decode cX0_placeAt 7 = .ok (.aload_n 0, 1) := by decide +kernel
theorem dX0_placeAt_8 : decode cX0_placeAt 8 = .ok (.getfield 18, 3) := by decide +kernel
theorem dX0_placeAt_11 : decode cX0_placeAt 11 = .ok (.iload_n 1, 1) := by decide +kernel
theorem dX0_placeAt_12 : decode cX0_placeAt 12 = .ok (.iaload, 1) := by decide +kernel
theorem dX0_placeAt_13 : decode cX0_placeAt 13 = .ok (.invokevirtual 83, 3) := by decide +kernel
theorem dX0_placeAt_16 : decode cX0_placeAt 16 = .ok (.ireturn, 1) := by decide +kernel
theorem dX0_hoursTogether_0 : decode cX0_hoursTogether 0 = .ok (.iconst 0, 1) := by decide +kernel
theorem dX0_hoursTogether_1 : decode cX0_hoursTogether 1 = .ok (.istore 5, 2) := by decide +kernel
theorem dX0_hoursTogether_3 : decode cX0_hoursTogether 3 = .ok (.iconst 0, 1) := by decide +kernel
theorem dX0_hoursTogether_4 : decode cX0_hoursTogether 4 = .ok (.istore 6, 2) := by decide +kernel
theorem dX0_hoursTogether_6 : decode cX0_hoursTogether 6 = .ok (.iload 6, 2) := by decide +kernel
theorem dX0_hoursTogether_8 : decode cX0_hoursTogether 8 = .ok (.bipush 30, 2) := by decide +kernel
theorem dX0_hoursTogether_10 : decode cX0_hoursTogether 10 = .ok (.if_icmp .gt 40, 3) := by decide +kernel
theorem dX0_hoursTogether_13 : decode cX0_hoursTogether 13 = .ok (.aload_n 0, 1) := by decide +kernel
theorem dX0_hoursTogether_14 : decode cX0_hoursTogether 14 = .ok (.getfield 11, 3) := by decide +kernel
theorem dX0_hoursTogether_17 : decode cX0_hoursTogether 17 = .ok (.iload_n 1, 1) := by decide +kernel
theorem dX0_hoursTogether_18 : decode cX0_hoursTogether 18 = .ok (.aaload, 1) := by decide +kernel
theorem dX0_hoursTogether_19 : decode cX0_hoursTogether 19 = .ok (.iload 6, 2) := by decide +kernel
theorem dX0_hoursTogether_21 : decode cX0_hoursTogether 21 = .ok (.iload_n 2, 1) := by decide +kernel
theorem dX0_hoursTogether_22 : decode cX0_hoursTogether 22 = .ok (.invokevirtual 83, 3) := by decide +kernel
theorem dX0_hoursTogether_25 : decode cX0_hoursTogether 25 = .ok (.aload_n 0, 1) := by decide +kernel
theorem dX0_hoursTogether_26 : decode cX0_hoursTogether 26 = .ok (.getfield 11, 3) := by decide +kernel
theorem dX0_hoursTogether_29 : decode cX0_hoursTogether 29 = .ok (.iload_n 3, 1) := by decide +kernel
theorem dX0_hoursTogether_30 : decode cX0_hoursTogether 30 = .ok (.aaload, 1) := by decide +kernel
theorem dX0_hoursTogether_31 : decode cX0_hoursTogether 31 = .ok (.iload 6, 2) := by decide +kernel
theorem dX0_hoursTogether_33 : decode cX0_hoursTogether 33 = .ok (.iload 4, 2) := by decide +kernel
theorem dX0_hoursTogether_35 : decode cX0_hoursTogether 35 = .ok (.invokevirtual 83, 3) := by decide +kernel
theorem dX0_hoursTogether_38 : decode cX0_hoursTogether 38 = .ok (.if_icmp .ne 6, 3) := by decide +kernel
theorem dX0_hoursTogether_41 : decode cX0_hoursTogether 41 = .ok (.iinc 5 1, 3) := by decide +kernel
theorem dX0_hoursTogether_44 : decode cX0_hoursTogether 44 = .ok (.iinc 6 1, 3) := by decide +kernel
theorem dX0_hoursTogether_47 : decode cX0_hoursTogether 47 = .ok (.goto (-41), 3) := by decide +kernel
theorem dX0_hoursTogether_50 : decode cX0_hoursTogether 50 = .ok (.iload 5, 2) := by decide +kernel
theorem dX0_hoursTogether_52 : decode cX0_hoursTogether 52 = .ok (.ireturn, 1) := by decide +kernel
theorem dX0_meetings_0 : decode cX0_meetings 0 = .ok (.iconst 0, 1) := by decide +kernel
theorem dX0_meetings_1 : decode cX0_meetings 1 = .ok (.istore_n 2, 1) := by decide +kernel
theorem dX0_meetings_2 : decode cX0_meetings 2 = .ok (.iconst 0, 1) := by decide +kernel
theorem dX0_meetings_3 : decode cX0_meetings 3 = .ok (.istore_n 3, 1) := by decide +kernel
theorem dX0_meetings_4 : decode cX0_meetings 4 = .ok (.iload_n 3, 1) := by decide +kernel
theorem dX0_meetings_5 : decode cX0_meetings 5 = .ok (.aload_n 0, 1) := by decide +kernel
theorem dX0_meetings_6 : decode cX0_meetings 6 = .ok (.getfield 31, 3) := by decide +kernel
theorem dX0_meetings_9 : decode cX0_meetings 9 = .ok (.if_icmp .ge 46, 3) := by decide +kernel
theorem dX0_meetings_12 : decode cX0_meetings 12 = .ok (.iload_n 3, 1) := by decide +kernel
theorem dX0_meetings_13 : decode cX0_meetings 13 = .ok (.iconst 1, 1) := by decide +kernel
theorem dX0_meetings_14 : decode cX0_meetings 14 = .ok (.iadd, 1) := by decide +kernel
theorem dX0_meetings_15 : decode cX0_meetings 15 = .ok (.istore 4, 2) := by decide +kernel
theorem dX0_meetings_17 : decode cX0_meetings 17 = .ok (.iload 4, 2) := by decide +kernel
theorem dX0_meetings_19 : decode cX0_meetings 19 = .ok (.aload_n 0, 1) := by decide +kernel
theorem dX0_meetings_20 : decode cX0_meetings 20 = .ok (.getfield 31, 3) := by decide +kernel
theorem dX0_meetings_23 : decode cX0_meetings 23 = .ok (.if_icmp .ge 26, 3) := by decide +kernel
theorem dX0_meetings_26 : decode cX0_meetings 26 = .ok (.iload_n 2, 1) := by decide +kernel
theorem dX0_meetings_27 : decode cX0_meetings 27 = .ok (.aload_n 0, 1) := by decide +kernel
theorem dX0_meetings_28 : decode cX0_meetings 28 = .ok (.iload_n 3, 1) := by decide +kernel
theorem dX0_meetings_29 : decode cX0_meetings 29 = .ok (.aload_n 1, 1) := by decide +kernel
theorem dX0_meetings_30 : decode cX0_meetings 30 = .ok (.iload_n 3, 1) := by decide +kernel
theorem dX0_meetings_31 : decode cX0_meetings 31 = .ok (.iaload, 1) := by decide +kernel
theorem dX0_meetings_32 : decode cX0_meetings 32 = .ok (.iload 4, 2) := by decide +kernel
theorem dX0_meetings_34 : decode cX0_meetings 34 = .ok (.aload_n 1, 1) := by decide +kernel
theorem dX0_meetings_35 : decode cX0_meetings 35 = .ok (.iload 4, 2) := by decide +kernel
theorem dX0_meetings_37 : decode cX0_meetings 37 = .ok (.iaload, 1) := by decide +kernel
theorem dX0_meetings_38 : decode cX0_meetings 38 = .ok (.invokevirtual 87, 3) := by decide +kernel
theorem dX0_meetings_41 : decode cX0_meetings 41 = .ok (.iadd, 1) := by decide +kernel
theorem dX0_meetings_42 : decode cX0_meetings 42 = .ok (.istore_n 2, 1) := by decide +kernel
theorem dX0_meetings_43 : decode cX0_meetings 43 = .ok (.iinc 4 1, 3) := by decide +kernel
theorem dX0_meetings_46 : decode cX0_meetings 46 = .ok (.goto (-29), 3) := by decide +kernel
theorem dX0_meetings_49 : decode cX0_meetings 49 = .ok (.iinc 3 1, 3) := by decide +kernel
theorem dX0_meetings_52 : decode cX0_meetings 52 = .ok (.goto (-48), 3) := by decide +kernel
theorem dX0_meetings_55 : decode cX0_meetings 55 = .ok (.iload_n 2, 1) := by decide +kernel
theorem dX0_meetings_56 : decode cX0_meetings 56 = .ok (.ireturn, 1) := by decide +kernel
theorem dX0_stepsOfAll_0 : decode cX0_stepsOfAll 0 = .ok (.iconst 0, 1) := by decide +kernel
theorem dX0_stepsOfAll_1 : decode cX0_stepsOfAll 1 = .ok (.istore_n 1, 1) := by decide +kernel
theorem dX0_stepsOfAll_2 : decode cX0_stepsOfAll 2 = .ok (.iconst 0, 1) := by decide +kernel
theorem dX0_stepsOfAll_3 : decode cX0_stepsOfAll 3 = .ok (.istore_n 2, 1) := by decide +kernel
theorem dX0_stepsOfAll_4 : decode cX0_stepsOfAll 4 = .ok (.iload_n 2, 1) := by decide +kernel
theorem dX0_stepsOfAll_5 : decode cX0_stepsOfAll 5 = .ok (.aload_n 0, 1) := by decide +kernel
theorem dX0_stepsOfAll_6 : decode cX0_stepsOfAll 6 = .ok (.getfield 31, 3) := by decide +kernel
theorem dX0_stepsOfAll_9 : decode cX0_stepsOfAll 9 = .ok (.if_icmp .ge 21, 3) := by decide +kernel
theorem dX0_stepsOfAll_12 : decode cX0_stepsOfAll 12 = .ok (.iload_n 1, 1) := by decide +kernel
theorem dX0_stepsOfAll_13 : decode cX0_stepsOfAll 13 = .ok (.aload_n 0, 1) := by decide +kernel
theorem dX0_stepsOfAll_14 : decode cX0_stepsOfAll 14 = .ok (.getfield 11, 3) := by decide +kernel
theorem dX0_stepsOfAll_17 : decode cX0_stepsOfAll 17 = .ok (.iload_n 2, 1) := by decide +kernel
theorem dX0_stepsOfAll_18 : decode cX0_stepsOfAll 18 = .ok (.aaload, 1) := by decide +kernel
theorem dX0_stepsOfAll_19 : decode cX0_stepsOfAll 19 = .ok (.getfield 70, 3) := by decide +kernel
theorem dX0_stepsOfAll_22 : decode cX0_stepsOfAll 22 = .ok (.iadd, 1) := by decide +kernel
theorem dX0_stepsOfAll_23 : decode cX0_stepsOfAll 23 = .ok (.istore_n 1, 1) := by decide +kernel
theorem dX0_stepsOfAll_24 : decode cX0_stepsOfAll 24 = .ok (.iinc 2 1, 3) := by decide +kernel
theorem dX0_stepsOfAll_27 : decode cX0_stepsOfAll 27 = .ok (.goto (-23), 3) := by decide +kernel
theorem dX0_stepsOfAll_30 : decode cX0_stepsOfAll 30 = .ok (.iload_n 1, 1) := by decide +kernel
theorem dX0_stepsOfAll_31 : decode cX0_stepsOfAll 31 = .ok (.ireturn, 1) := by decide +kernel
theorem dX0_placesSeen_0 : decode cX0_placesSeen 0 = .ok (.aload_n 0, 1) := by decide +kernel
theorem dX0_placesSeen_1 : decode cX0_placesSeen 1 = .ok (.iconst 1, 1) := by decide +kernel
theorem dX0_placesSeen_2 : decode cX0_placesSeen 2 = .ok (.aload_n 0, 1) := by decide +kernel
theorem dX0_placesSeen_3 : decode cX0_placesSeen 3 = .ok (.getfield 31, 3) := by decide +kernel
theorem dX0_placesSeen_6 : decode cX0_placesSeen 6 = .ok (.ishl, 1) := by decide +kernel
theorem dX0_placesSeen_7 : decode cX0_placesSeen 7 = .ok (.iconst 1, 1) := by decide +kernel
theorem dX0_placesSeen_8 : decode cX0_placesSeen 8 = .ok (.isub, 1) := by decide +kernel
theorem dX0_placesSeen_9 : decode cX0_placesSeen 9 = .ok (.invokevirtual 91, 3) := by decide +kernel
theorem dX0_placesSeen_12 : decode cX0_placesSeen 12 = .ok (.ireturn, 1) := by decide +kernel
theorem dX0_placesSeenBy_0 : decode cX0_placesSeenBy 0 = .ok (.iconst 0, 1) := by decide +kernel
theorem dX0_placesSeenBy_1 : decode cX0_placesSeenBy 1 = .ok (.istore_n 2, 1) := by decide +kernel
theorem dX0_placesSeenBy_2 : decode cX0_placesSeenBy 2 = .ok (.iconst 0, 1) := by decide +kernel
theorem dX0_placesSeenBy_3 : decode cX0_placesSeenBy 3 = .ok (.istore_n 3, 1) := by decide +kernel
theorem dX0_placesSeenBy_4 : decode cX0_placesSeenBy 4 = .ok (.iload_n 3, 1) := by decide +kernel
theorem dX0_placesSeenBy_5 : decode cX0_placesSeenBy 5 = .ok (.aload_n 0, 1) := by decide +kernel
theorem dX0_placesSeenBy_6 : decode cX0_placesSeenBy 6 = .ok (.getfield 31, 3) := by decide +kernel
theorem dX0_placesSeenBy_9 : decode cX0_placesSeenBy 9 = .ok (.if_icmp .ge 30, 3) := by decide +kernel
theorem dX0_placesSeenBy_12 : decode cX0_placesSeenBy 12 = .ok (.iload_n 1, 1) := by decide +kernel
theorem dX0_placesSeenBy_13 : decode cX0_placesSeenBy 13 = .ok (.iload_n 3, 1) := by decide +kernel
theorem dX0_placesSeenBy_14 : decode cX0_placesSeenBy 14 = .ok (.ishr, 1) := by decide +kernel
theorem dX0_placesSeenBy_15 : decode cX0_placesSeenBy 15 = .ok (.iconst 1, 1) := by decide +kernel
theorem dX0_placesSeenBy_16 : decode cX0_placesSeenBy 16 = .ok (.iand, 1) := by decide +kernel
theorem dX0_placesSeenBy_17 : decode cX0_placesSeenBy 17 = .ok (.iconst 1, 1) := by decide +kernel
theorem dX0_placesSeenBy_18 : decode cX0_placesSeenBy 18 = .ok (.if_icmp .ne 15, 3) := by decide +kernel
theorem dX0_placesSeenBy_21 : decode cX0_placesSeenBy 21 = .ok (.iload_n 2, 1) := by decide +kernel
theorem dX0_placesSeenBy_22 : decode cX0_placesSeenBy 22 = .ok (.aload_n 0, 1) := by decide +kernel
theorem dX0_placesSeenBy_23 : decode cX0_placesSeenBy 23 = .ok (.getfield 11, 3) := by decide +kernel
theorem dX0_placesSeenBy_26 : decode cX0_placesSeenBy 26 = .ok (.iload_n 3, 1) := by decide +kernel
theorem dX0_placesSeenBy_27 : decode cX0_placesSeenBy 27 = .ok (.aaload, 1) := by decide +kernel
theorem dX0_placesSeenBy_28 : decode cX0_placesSeenBy 28 = .ok (.getfield 94, 3) := by decide +kernel
theorem dX0_placesSeenBy_31 : decode cX0_placesSeenBy 31 = .ok (.ior, 1) := by decide +kernel
theorem dX0_placesSeenBy_32 : decode cX0_placesSeenBy 32 = .ok (.istore_n 2, 1) := by decide +kernel
theorem dX0_placesSeenBy_33 : decode cX0_placesSeenBy 33 = .ok (.iinc 3 1, 3) := by decide +kernel
theorem dX0_placesSeenBy_36 : decode cX0_placesSeenBy 36 = .ok (.goto (-32), 3) := by decide +kernel
theorem dX0_placesSeenBy_39 : decode cX0_placesSeenBy 39 = .ok (.iload_n 2, 1) := by decide +kernel
theorem dX0_placesSeenBy_40 : decode cX0_placesSeenBy 40 = .ok (.ireturn, 1) := by decide +kernel
theorem dX0_fewestSeeing_0 : decode cX0_fewestSeeing 0 = .ok (.iconst (-1), 1) := by decide +kernel
theorem dX0_fewestSeeing_1 : decode cX0_fewestSeeing 1 = .ok (.istore_n 2, 1) := by decide +kernel
theorem dX0_fewestSeeing_2 : decode cX0_fewestSeeing 2 = .ok (.iconst 0, 1) := by decide +kernel
theorem dX0_fewestSeeing_3 : decode cX0_fewestSeeing 3 = .ok (.istore_n 3, 1) := by decide +kernel
theorem dX0_fewestSeeing_4 : decode cX0_fewestSeeing 4 = .ok (.iload_n 3, 1) := by decide +kernel
theorem dX0_fewestSeeing_5 : decode cX0_fewestSeeing 5 = .ok (.iconst 1, 1) := by decide +kernel
theorem dX0_fewestSeeing_6 : decode cX0_fewestSeeing 6 = .ok (.aload_n 0, 1) := by decide +kernel
theorem dX0_fewestSeeing_7 : decode cX0_fewestSeeing 7 = .ok (.getfield 31, 3) := by decide +kernel
theorem dX0_fewestSeeing_10 : decode cX0_fewestSeeing 10 = .ok (.ishl, 1) := by decide +kernel
theorem dX0_fewestSeeing_11 : decode cX0_fewestSeeing 11 = .ok (.if_icmp .ge 51, 3) := by decide +kernel
theorem dX0_fewestSeeing_14 : decode cX0_fewestSeeing 14 = .ok (.iload_n 2, 1) := by decide +kernel
theorem dX0_fewestSeeing_15 : decode cX0_fewestSeeing 15 = .ok (.iconst (-1), 1) := by decide +kernel
theorem dX0_fewestSeeing_16 : decode cX0_fewestSeeing 16 = .ok (.if_icmp .eq 14, 3) := by decide +kernel
theorem dX0_fewestSeeing_19 : decode cX0_fewestSeeing 19 = .ok (.iload_n 3, 1) := by decide +kernel
theorem dX0_fewestSeeing_20 : decode cX0_fewestSeeing 20 = .ok (.invokestatic 97, 3) := by decide +kernel
theorem dX0_fewestSeeing_23 : decode cX0_fewestSeeing 23 = .ok (.iload_n 2, 1) := by decide +kernel
theorem dX0_fewestSeeing_24 : decode cX0_fewestSeeing 24 = .ok (.invokestatic 97, 3) := by decide +kernel
theorem dX0_fewestSeeing_27 : decode cX0_fewestSeeing 27 = .ok (.if_icmp .ge 7, 3) := by decide +kernel
theorem dX0_fewestSeeing_30 : decode cX0_fewestSeeing 30 = .ok (.iconst 1, 1) := by decide +kernel
theorem dX0_fewestSeeing_31 : decode cX0_fewestSeeing 31 = .ok (.goto 4, 3) := by decide +kernel
theorem dX0_fewestSeeing_34 : decode cX0_fewestSeeing 34 = .ok (.iconst 0, 1) := by decide +kernel
theorem dX0_fewestSeeing_35 : decode cX0_fewestSeeing 35 = .ok (.istore 4, 2) := by decide +kernel
theorem dX0_fewestSeeing_37 : decode cX0_fewestSeeing 37 = .ok (.iload 4, 2) := by decide +kernel
theorem dX0_fewestSeeing_39 : decode cX0_fewestSeeing 39 = .ok (.ifCond .eq 17, 3) := by decide +kernel
theorem dX0_fewestSeeing_42 : decode cX0_fewestSeeing 42 = .ok (.iload_n 1, 1) := by decide +kernel
theorem dX0_fewestSeeing_43 : decode cX0_fewestSeeing 43 = .ok (.aload_n 0, 1) := by decide +kernel
theorem dX0_fewestSeeing_44 : decode cX0_fewestSeeing 44 = .ok (.iload_n 3, 1) := by decide +kernel
theorem dX0_fewestSeeing_45 : decode cX0_fewestSeeing 45 = .ok (.invokevirtual 91, 3) := by decide +kernel
theorem dX0_fewestSeeing_48 : decode cX0_fewestSeeing 48 = .ok (.iconst (-1), 1) := by decide +kernel
theorem dX0_fewestSeeing_49 : decode cX0_fewestSeeing 49 = .ok (.ixor, 1) := by decide +kernel
theorem dX0_fewestSeeing_50 : decode cX0_fewestSeeing 50 = .ok (.iand, 1) := by decide +kernel
theorem dX0_fewestSeeing_51 : decode cX0_fewestSeeing 51 = .ok (.ifCond .ne 5, 3) := by decide +kernel
theorem dX0_fewestSeeing_54 : decode cX0_fewestSeeing 54 = .ok (.iload_n 3, 1) := by decide +kernel
theorem dX0_fewestSeeing_55 : decode cX0_fewestSeeing 55 = .ok (.istore_n 2, 1) := by decide +kernel
theorem dX0_fewestSeeing_56 : decode cX0_fewestSeeing 56 = .ok (.iinc 3 1, 3) := by decide +kernel
theorem dX0_fewestSeeing_59 : decode cX0_fewestSeeing 59 = .ok (.goto (-55), 3) := by decide +kernel
theorem dX0_fewestSeeing_62 : decode cX0_fewestSeeing 62 = .ok (.iload_n 2, 1) := by decide +kernel
theorem dX0_fewestSeeing_63 : decode cX0_fewestSeeing 63 = .ok (.ireturn, 1) := by decide +kernel
theorem dX0_firstCatch_0 : decode cX0_firstCatch 0 = .ok (.iconst 0, 1) := by decide +kernel
theorem dX0_firstCatch_1 : decode cX0_firstCatch 1 = .ok (.istore_n 3, 1) := by decide +kernel
theorem dX0_firstCatch_2 : decode cX0_firstCatch 2 = .ok (.iload_n 3, 1) := by decide +kernel
theorem dX0_firstCatch_3 : decode cX0_firstCatch 3 = .ok (.bipush 30, 2) := by decide +kernel
theorem dX0_firstCatch_5 : decode cX0_firstCatch 5 = .ok (.if_icmp .gt 25, 3) := by decide +kernel
theorem dX0_firstCatch_8 : decode cX0_firstCatch 8 = .ok (.iload_n 1, 1) := by decide +kernel
theorem dX0_firstCatch_9 : decode cX0_firstCatch 9 = .ok (.aload_n 0, 1) := by decide +kernel
theorem dX0_firstCatch_10 : decode cX0_firstCatch 10 = .ok (.iload_n 2, 1) := by decide +kernel
theorem dX0_firstCatch_11 : decode cX0_firstCatch 11 = .ok (.iload_n 3, 1) := by decide +kernel
theorem dX0_firstCatch_12 : decode cX0_firstCatch 12 = .ok (.invokevirtual 102, 3) := by decide +kernel
theorem dX0_firstCatch_15 : decode cX0_firstCatch 15 = .ok (.invokestatic 103, 3) := by decide +kernel
theorem dX0_firstCatch_18 : decode cX0_firstCatch 18 = .ok (.iload_n 3, 1) := by decide +kernel
theorem dX0_firstCatch_19 : decode cX0_firstCatch 19 = .ok (.if_icmp .gt 5, 3) := by decide +kernel
theorem dX0_firstCatch_22 : decode cX0_firstCatch 22 = .ok (.iload_n 3, 1) := by decide +kernel
theorem dX0_firstCatch_23 : decode cX0_firstCatch 23 = .ok (.ireturn, 1) := by decide +kernel
theorem dX0_firstCatch_24 : decode cX0_firstCatch 24 = .ok (.iinc 3 1, 3) := by decide +kernel
theorem dX0_firstCatch_27 : decode cX0_firstCatch 27 = .ok (.goto (-25), 3) := by decide +kernel
theorem dX0_firstCatch_30 : decode cX0_firstCatch 30 = .ok (.iconst (-1), 1) := by decide +kernel
theorem dX0_firstCatch_31 : decode cX0_firstCatch 31 = .ok (.ireturn, 1) := by decide +kernel
theorem dX0_noteSeen_0 : decode cX0_noteSeen 0 = .ok (.aload_n 0, 1) := by decide +kernel
theorem dX0_noteSeen_1 : decode cX0_noteSeen 1 = .ok (.getfield 38, 3) := by decide +kernel
theorem dX0_noteSeen_4 : decode cX0_noteSeen 4 = .ok (.bipush 8, 2) := by decide +kernel
theorem dX0_noteSeen_6 : decode cX0_noteSeen 6 = .ok (.if_icmp .lt 5, 3) := by decide +kernel
theorem dX0_noteSeen_9 : decode cX0_noteSeen 9 = .ok (.iconst 0, 1) := by decide +kernel
theorem dX0_noteSeen_10 : decode cX0_noteSeen 10 = .ok (.ireturn, 1) := by decide +kernel
theorem dX0_noteSeen_11 : decode cX0_noteSeen 11 = .ok (.aload_n 0, 1) := by decide +kernel
theorem dX0_noteSeen_12 : decode cX0_noteSeen 12 = .ok (.getfield 22, 3) := by decide +kernel
theorem dX0_noteSeen_15 : decode cX0_noteSeen 15 = .ok (.aload_n 0, 1) := by decide +kernel
theorem dX0_noteSeen_16 : decode cX0_noteSeen 16 = .ok (.getfield 38, 3) := by decide +kernel
theorem dX0_noteSeen_19 : decode cX0_noteSeen 19 = .ok (.iload_n 1, 1) := by decide +kernel
theorem dX0_noteSeen_20 : decode cX0_noteSeen 20 = .ok (.iastore, 1) := by decide +kernel
theorem dX0_noteSeen_21 : decode cX0_noteSeen 21 = .ok (.aload_n 0, 1) := by decide +kernel
theorem dX0_noteSeen_22 : decode cX0_noteSeen 22 = .ok (.getfield 25, 3) := by decide +kernel
theorem dX0_noteSeen_25 : decode cX0_noteSeen 25 = .ok (.aload_n 0, 1) := by decide +kernel
theorem dX0_noteSeen_26 : decode cX0_noteSeen 26 = .ok (.getfield 38, 3) := by decide +kernel
theorem dX0_noteSeen_29 : decode cX0_noteSeen 29 = .ok (.iload_n 2, 1) := by decide +kernel
theorem dX0_noteSeen_30 : decode cX0_noteSeen 30 = .ok (.iastore, 1) := by decide +kernel
theorem dX0_noteSeen_31 : decode cX0_noteSeen 31 = .ok (.aload_n 0, 1) := by decide +kernel
theorem dX0_noteSeen_32 : decode cX0_noteSeen 32 = .ok (.dup, 1) := by decide +kernel
theorem dX0_noteSeen_33 : decode cX0_noteSeen 33 = .ok (.getfield 38, 3) := by decide +kernel
theorem dX0_noteSeen_36 : decode cX0_noteSeen 36 = .ok (.iconst 1, 1) := by decide +kernel
theorem dX0_noteSeen_37 : decode cX0_noteSeen 37 = .ok (.iadd, 1) := by decide +kernel
theorem dX0_noteSeen_38 : decode cX0_noteSeen 38 = .ok (.putfield 38, 3) := by decide +kernel
theorem dX0_noteSeen_41 : decode cX0_noteSeen 41 = .ok (.iconst 1, 1) := by decide +kernel
theorem dX0_noteSeen_42 : decode cX0_noteSeen 42 = .ok (.ireturn, 1) := by decide +kernel
theorem dX0_possible_0 : decode cX0_possible 0 = .ok (.iconst 0, 1) := by decide +kernel
theorem dX0_possible_1 : decode cX0_possible 1 = .ok (.istore_n 1, 1) := by decide +kernel
theorem dX0_possible_2 : decode cX0_possible 2 = .ok (.iconst 0, 1) := by decide +kernel
theorem dX0_possible_3 : decode cX0_possible 3 = .ok (.istore_n 2, 1) := by decide +kernel
theorem dX0_possible_4 : decode cX0_possible 4 = .ok (.iload_n 2, 1) := by decide +kernel
theorem dX0_possible_5 : decode cX0_possible 5 = .ok (.aload_n 0, 1) := by decide +kernel
theorem dX0_possible_6 : decode cX0_possible 6 = .ok (.getfield 31, 3) := by decide +kernel
theorem dX0_possible_9 : decode cX0_possible 9 = .ok (.if_icmp .ge 23, 3) := by decide +kernel
theorem dX0_possible_12 : decode cX0_possible 12 = .ok (.aload_n 0, 1) := by decide +kernel
theorem dX0_possible_13 : decode cX0_possible 13 = .ok (.iload_n 2, 1) := by decide +kernel
theorem dX0_possible_14 : decode cX0_possible 14 = .ok (.invokevirtual 106, 3) := by decide +kernel
theorem dX0_possible_17 : decode cX0_possible 17 = .ok (.ifCond .eq 9, 3) := by decide +kernel
theorem dX0_possible_20 : decode cX0_possible 20 = .ok (.iload_n 1, 1) := by decide +kernel
theorem dX0_possible_21 : decode cX0_possible 21 = .ok (.iconst 1, 1) := by decide +kernel
theorem dX0_possible_22 : decode cX0_possible 22 = .ok (.iload_n 2, 1) := by decide +kernel
theorem dX0_possible_23 : decode cX0_possible 23 = .ok (.ishl, 1) := by decide +kernel
theorem dX0_possible_24 : decode cX0_possible 24 = .ok (.ior, 1) := by decide +kernel
theorem dX0_possible_25 : decode cX0_possible 25 = .ok (.istore_n 1, 1) := by decide +kernel
theorem dX0_possible_26 : decode cX0_possible 26 = .ok (.iinc 2 1, 3) := by decide +kernel
theorem dX0_possible_29 : decode cX0_possible 29 = .ok (.goto (-25), 3) := by decide +kernel
theorem dX0_possible_32 : decode cX0_possible 32 = .ok (.iload_n 1, 1) := by decide +kernel
theorem dX0_possible_33 : decode cX0_possible 33 = .ok (.ireturn, 1) := by decide +kernel
theorem dX0_wasWhereSeen_0 : decode cX0_wasWhereSeen 0 = .ok (.iconst 0, 1) := by decide +kernel
theorem dX0_wasWhereSeen_1 : decode cX0_wasWhereSeen 1 = .ok (.istore_n 2, 1) := by decide +kernel
theorem dX0_wasWhereSeen_2 : decode cX0_wasWhereSeen 2 = .ok (.iload_n 2, 1) := by decide +kernel
theorem dX0_wasWhereSeen_3 : decode cX0_wasWhereSeen 3 = .ok (.aload_n 0, 1) := by decide +kernel
theorem dX0_wasWhereSeen_4 : decode cX0_wasWhereSeen 4 = .ok (.getfield 38, 3) := by decide +kernel
theorem dX0_wasWhereSeen_7 : decode cX0_wasWhereSeen 7 = .ok (.if_icmp .ge 31, 3) := by decide +kernel
theorem dX0_wasWhereSeen_10 : decode cX0_wasWhereSeen 10 = .ok (.aload_n 0, 1) := by decide +kernel
theorem dX0_wasWhereSeen_11 : decode cX0_wasWhereSeen 11 = .ok (.iload_n 1, 1) := by decide +kernel
theorem dX0_wasWhereSeen_12 : decode cX0_wasWhereSeen 12 = .ok (.aload_n 0, 1) := by decide +kernel
theorem dX0_wasWhereSeen_13 : decode cX0_wasWhereSeen 13 = .ok (.getfield 25, 3) := by decide +kernel
theorem dX0_wasWhereSeen_16 : decode cX0_wasWhereSeen 16 = .ok (.iload_n 2, 1) := by decide +kernel
theorem dX0_wasWhereSeen_17 : decode cX0_wasWhereSeen 17 = .ok (.iaload, 1) := by decide +kernel
theorem dX0_wasWhereSeen_18 : decode cX0_wasWhereSeen 18 = .ok (.invokevirtual 102, 3) := by decide +kernel
theorem dX0_wasWhereSeen_21 : decode cX0_wasWhereSeen 21 = .ok (.aload_n 0, 1) := by decide +kernel
theorem dX0_wasWhereSeen_22 : decode cX0_wasWhereSeen 22 = .ok (.getfield 22, 3) := by decide +kernel
theorem dX0_wasWhereSeen_25 : decode cX0_wasWhereSeen 25 = .ok (.iload_n 2, 1) := by decide +kernel
theorem dX0_wasWhereSeen_26 : decode cX0_wasWhereSeen 26 = .ok (.iaload, 1) := by decide +kernel
theorem dX0_wasWhereSeen_27 : decode cX0_wasWhereSeen 27 = .ok (.if_icmp .eq 5, 3) := by decide +kernel
theorem dX0_wasWhereSeen_30 : decode cX0_wasWhereSeen 30 = .ok (.iconst 0, 1) := by decide +kernel
theorem dX0_wasWhereSeen_31 : decode cX0_wasWhereSeen 31 = .ok (.ireturn, 1) := by decide +kernel
theorem dX0_wasWhereSeen_32 : decode cX0_wasWhereSeen 32 = .ok (.iinc 2 1, 3) := by decide +kernel
theorem dX0_wasWhereSeen_35 : decode cX0_wasWhereSeen 35 = .ok (.goto (-33), 3) := by decide +kernel
theorem dX0_wasWhereSeen_38 : decode cX0_wasWhereSeen 38 = .ok (.iconst 1, 1) := by decide +kernel
theorem dX0_wasWhereSeen_39 : decode cX0_wasWhereSeen 39 = .ok (.ireturn, 1) := by decide +kernel
theorem dX0_bestHourToLook_0 : decode cX0_bestHourToLook 0 = .ok (.aload_n 0, 1) := by decide +kernel
theorem dX0_bestHourToLook_1 : decode cX0_bestHourToLook 1 = .ok (.invokevirtual 109, 3) := by decide +kernel
theorem dX0_bestHourToLook_4 : decode cX0_bestHourToLook 4 = .ok (.istore_n 1, 1) := by decide +kernel
theorem dX0_bestHourToLook_5 : decode cX0_bestHourToLook 5 = .ok (.iload_n 1, 1) := by decide +kernel
theorem dX0_bestHourToLook_6 : decode cX0_bestHourToLook 6 = .ok (.ifCond .ne 5, 3) := by decide +kernel
theorem dX0_bestHourToLook_9 : decode cX0_bestHourToLook 9 = .ok (.iconst (-1), 1) := by decide +kernel
theorem dX0_bestHourToLook_10 : decode cX0_bestHourToLook 10 = .ok (.ireturn, 1) := by decide +kernel
theorem dX0_bestHourToLook_11 : decode cX0_bestHourToLook 11 = .ok (.iconst 0, 1) := by decide +kernel
theorem dX0_bestHourToLook_12 : decode cX0_bestHourToLook 12 = .ok (.istore_n 2, 1) := by decide +kernel
theorem dX0_bestHourToLook_13 : decode cX0_bestHourToLook 13 = .ok (.aload_n 0, 1) := by decide +kernel
theorem dX0_bestHourToLook_14 : decode cX0_bestHourToLook 14 = .ok (.iload_n 1, 1) := by decide +kernel
theorem dX0_bestHourToLook_15 : decode cX0_bestHourToLook 15 = .ok (.iconst 0, 1) := by decide +kernel
theorem dX0_bestHourToLook_16 : decode cX0_bestHourToLook 16 = .ok (.invokevirtual 113, 3) := by decide +kernel
theorem dX0_bestHourToLook_19 : decode cX0_bestHourToLook 19 = .ok (.istore_n 3, 1) := by decide +kernel
theorem dX0_bestHourToLook_20 : decode cX0_bestHourToLook 20 = .ok (.iconst 1, 1) := by decide +kernel
theorem dX0_bestHourToLook_21 : decode cX0_bestHourToLook 21 = .ok (.istore 4, 2) := by decide +kernel
theorem dX0_bestHourToLook_23 : decode cX0_bestHourToLook 23 = .ok (.iload 4, 2) := by decide +kernel
theorem dX0_bestHourToLook_25 : decode cX0_bestHourToLook 25 = .ok (.bipush 30, 2) := by decide +kernel
theorem dX0_bestHourToLook_27 : decode cX0_bestHourToLook 27 = .ok (.if_icmp .gt 30, 3) := by decide +kernel
theorem dX0_bestHourToLook_30 : decode cX0_bestHourToLook 30 = .ok (.aload_n 0, 1) := by decide +kernel
theorem dX0_bestHourToLook_31 : decode cX0_bestHourToLook 31 = .ok (.iload_n 1, 1) := by decide +kernel
theorem dX0_bestHourToLook_32 : decode cX0_bestHourToLook 32 = .ok (.iload 4, 2) := by decide +kernel
theorem dX0_bestHourToLook_34 : decode cX0_bestHourToLook 34 = .ok (.invokevirtual 113, 3) := by decide +kernel
theorem dX0_bestHourToLook_37 : decode cX0_bestHourToLook 37 = .ok (.istore 5, 2) := by decide +kernel
theorem dX0_bestHourToLook_39 : decode cX0_bestHourToLook 39 = .ok (.iload 5, 2) := by decide +kernel
theorem dX0_bestHourToLook_41 : decode cX0_bestHourToLook 41 = .ok (.iload_n 3, 1) := by decide +kernel
theorem dX0_bestHourToLook_42 : decode cX0_bestHourToLook 42 = .ok (.if_icmp .ge 9, 3) := by decide +kernel
theorem dX0_bestHourToLook_45 : decode cX0_bestHourToLook 45 = .ok (.iload 4, 2) := by decide +kernel
theorem dX0_bestHourToLook_47 : decode cX0_bestHourToLook 47 = .ok (.istore_n 2, 1) := by decide +kernel
theorem dX0_bestHourToLook_48 : decode cX0_bestHourToLook 48 = .ok (.iload 5, 2) := by decide +kernel
theorem dX0_bestHourToLook_50 : decode cX0_bestHourToLook 50 = .ok (.istore_n 3, 1) := by decide +kernel
theorem dX0_bestHourToLook_51 : decode cX0_bestHourToLook 51 = .ok (.iinc 4 1, 3) := by decide +kernel
theorem dX0_bestHourToLook_54 : decode cX0_bestHourToLook 54 = .ok (.goto (-31), 3) := by decide +kernel
theorem dX0_bestHourToLook_57 : decode cX0_bestHourToLook 57 = .ok (.iload_n 2, 1) := by decide +kernel
theorem dX0_bestHourToLook_58 : decode cX0_bestHourToLook 58 = .ok (.ireturn, 1) := by decide +kernel
theorem dX0_mostLeft_0 : decode cX0_mostLeft 0 = .ok (.iconst 0, 1) := by decide +kernel
theorem dX0_mostLeft_1 : decode cX0_mostLeft 1 = .ok (.istore_n 3, 1) := by decide +kernel
theorem dX0_mostLeft_2 : decode cX0_mostLeft 2 = .ok (.iconst 0, 1) := by decide +kernel
theorem dX0_mostLeft_3 : decode cX0_mostLeft 3 = .ok (.istore 4, 2) := by decide +kernel
theorem dX0_mostLeft_5 : decode cX0_mostLeft 5 = .ok (.iload 4, 2) := by decide +kernel
theorem dX0_mostLeft_7 : decode cX0_mostLeft 7 = .ok (.aload_n 0, 1) := by decide +kernel
theorem dX0_mostLeft_8 : decode cX0_mostLeft 8 = .ok (.getfield 31, 3) := by decide +kernel
theorem dX0_mostLeft_11 : decode cX0_mostLeft 11 = .ok (.if_icmp .ge 32, 3) := by decide +kernel
theorem dX0_mostLeft_14 : decode cX0_mostLeft 14 = .ok (.iload_n 1, 1) := by decide +kernel
theorem dX0_mostLeft_15 : decode cX0_mostLeft 15 = .ok (.iload 4, 2) := by decide +kernel
theorem dX0_mostLeft_17 : decode cX0_mostLeft 17 = .ok (.ishr, 1) := by decide +kernel
theorem dX0_mostLeft_18 : decode cX0_mostLeft 18 = .ok (.iconst 1, 1) := by decide +kernel
theorem dX0_mostLeft_19 : decode cX0_mostLeft 19 = .ok (.iand, 1) := by decide +kernel
theorem dX0_mostLeft_20 : decode cX0_mostLeft 20 = .ok (.iconst 1, 1) := by decide +kernel
theorem dX0_mostLeft_21 : decode cX0_mostLeft 21 = .ok (.if_icmp .ne 16, 3) := by decide +kernel
theorem dX0_mostLeft_24 : decode cX0_mostLeft 24 = .ok (.iload_n 3, 1) := by decide +kernel
theorem dX0_mostLeft_25 : decode cX0_mostLeft 25 = .ok (.aload_n 0, 1) := by decide +kernel
theorem dX0_mostLeft_26 : decode cX0_mostLeft 26 = .ok (.iload 4, 2) := by decide +kernel
theorem dX0_mostLeft_28 : decode cX0_mostLeft 28 = .ok (.iload_n 1, 1) := by decide +kernel
theorem dX0_mostLeft_29 : decode cX0_mostLeft 29 = .ok (.iload_n 2, 1) := by decide +kernel
theorem dX0_mostLeft_30 : decode cX0_mostLeft 30 = .ok (.invokevirtual 116, 3) := by decide +kernel
theorem dX0_mostLeft_33 : decode cX0_mostLeft 33 = .ok (.invokestatic 120, 3) := by decide +kernel
theorem dX0_mostLeft_36 : decode cX0_mostLeft 36 = .ok (.istore_n 3, 1) := by decide +kernel
theorem dX0_mostLeft_37 : decode cX0_mostLeft 37 = .ok (.iinc 4 1, 3) := by decide +kernel
theorem dX0_mostLeft_40 : decode cX0_mostLeft 40 = .ok (.goto (-35), 3) := by decide +kernel
theorem dX0_mostLeft_43 : decode cX0_mostLeft 43 = .ok (.iload_n 3, 1) := by decide +kernel
theorem dX0_mostLeft_44 : decode cX0_mostLeft 44 = .ok (.ireturn, 1) := by decide +kernel
theorem dX0_togetherWith_0 : decode cX0_togetherWith 0 = .ok (.iconst 0, 1) := by decide +kernel
theorem dX0_togetherWith_1 : decode cX0_togetherWith 1 = .ok (.istore 4, 2) := by decide +kernel
theorem dX0_togetherWith_3 : decode cX0_togetherWith 3 = .ok (.iconst 0, 1) := by decide +kernel
theorem dX0_togetherWith_4 : decode cX0_togetherWith 4 = .ok (.istore 5, 2) := by decide +kernel
theorem dX0_togetherWith_6 : decode cX0_togetherWith 6 = .ok (.iload 5, 2) := by decide +kernel
theorem dX0_togetherWith_8 : decode cX0_togetherWith 8 = .ok (.aload_n 0, 1) := by decide +kernel
theorem dX0_togetherWith_9 : decode cX0_togetherWith 9 = .ok (.getfield 31, 3) := by decide +kernel
theorem dX0_togetherWith_12 : decode cX0_togetherWith 12 = .ok (.if_icmp .ge 50, 3) := by decide +kernel
theorem dX0_togetherWith_15 : decode cX0_togetherWith 15 = .ok (.iload_n 2, 1) := by decide +kernel
theorem dX0_togetherWith_16 : decode cX0_togetherWith 16 = .ok (.iload 5, 2) := by decide +kernel
theorem dX0_togetherWith_18 : decode cX0_togetherWith 18 = .ok (.ishr, 1) := by decide +kernel
theorem dX0_togetherWith_19 : decode cX0_togetherWith 19 = .ok (.iconst 1, 1) := by decide +kernel
theorem dX0_togetherWith_20 : decode cX0_togetherWith 20 = .ok (.iand, 1) := by decide +kernel
theorem dX0_togetherWith_21 : decode cX0_togetherWith 21 = .ok (.iconst 1, 1) := by decide +kernel
theorem dX0_togetherWith_22 : decode cX0_togetherWith 22 = .ok (.if_icmp .ne 7, 3) := by decide +kernel
theorem dX0_togetherWith_25 : decode cX0_togetherWith 25 = .ok (.iconst 1, 1) := by decide +kernel
theorem dX0_togetherWith_26 : decode cX0_togetherWith 26 = .ok (.goto 4, 3) := by decide +kernel
theorem dX0_togetherWith_29 : decode cX0_togetherWith 29 = .ok (.iconst 0, 1) := by decide +kernel
theorem dX0_togetherWith_30 : decode cX0_togetherWith 30 = .ok (.istore 6, 2) := by decide +kernel
theorem dX0_togetherWith_32 : decode cX0_togetherWith 32 = .ok (.iload 6, 2) := by decide +kernel
theorem dX0_togetherWith_34 : decode cX0_togetherWith 34 = .ok (.ifCond .eq 22, 3) := by decide +kernel
theorem dX0_togetherWith_37 : decode cX0_togetherWith 37 = .ok (.aload_n 0, 1) := by decide +kernel
theorem dX0_togetherWith_38 : decode cX0_togetherWith 38 = .ok (.iload 5, 2) := by decide +kernel
theorem dX0_togetherWith_40 : decode cX0_togetherWith 40 = .ok (.iload_n 3, 1) := by decide +kernel
theorem dX0_togetherWith_41 : decode cX0_togetherWith 41 = .ok (.invokevirtual 102, 3) := by decide +kernel
theorem dX0_togetherWith_44 : decode cX0_togetherWith 44 = .ok (.aload_n 0, 1) := by decide +kernel
theorem dX0_togetherWith_45 : decode cX0_togetherWith 45 = .ok (.iload_n 1, 1) := by decide +kernel
theorem dX0_togetherWith_46 : decode cX0_togetherWith 46 = .ok (.iload_n 3, 1) := by decide +kernel
theorem dX0_togetherWith_47 : decode cX0_togetherWith 47 = .ok (.invokevirtual 102, 3) := by decide +kernel
theorem dX0_togetherWith_50 : decode cX0_togetherWith 50 = .ok (.if_icmp .ne 6, 3) := by decide +kernel
theorem dX0_togetherWith_53 : decode cX0_togetherWith 53 = .ok (.iinc 4 1, 3) := by decide +kernel
theorem dX0_togetherWith_56 : decode cX0_togetherWith 56 = .ok (.iinc 5 1, 3) := by decide +kernel
theorem dX0_togetherWith_59 : decode cX0_togetherWith 59 = .ok (.goto (-53), 3) := by decide +kernel
theorem dX0_togetherWith_62 : decode cX0_togetherWith 62 = .ok (.iload 4, 2) := by decide +kernel
theorem dX0_togetherWith_64 : decode cX0_togetherWith 64 = .ok (.ireturn, 1) := by decide +kernel
theorem dX1_init_0 : decode cX1_init 0 = .ok (.aload_n 0, 1) := by decide +kernel
theorem dX1_init_1 : decode cX1_init 1 = .ok (.invokespecial 3, 3) := by decide +kernel
theorem dX1_init_4 : decode cX1_init 4 = .ok (.aload_n 0, 1) := by decide +kernel
theorem dX1_init_5 : decode cX1_init 5 = .ok (.bipush 32, 2) := by decide +kernel
theorem dX1_init_7 : decode cX1_init 7 = .ok (.newarray .char, 2) := by decide +kernel
theorem dX1_init_9 : decode cX1_init 9 = .ok (.putfield 9, 3) := by decide +kernel
theorem dX1_init_12 : decode cX1_init 12 = .ok (.aload_n 0, 1) := by decide +kernel
theorem dX1_init_13 : decode cX1_init 13 = .ok (.iconst 0, 1) := by decide +kernel
theorem dX1_init_14 : decode cX1_init 14 = .ok (.putfield 15, 3) := by decide +kernel
theorem dX1_init_17 : decode cX1_init 17 = .ok (.return_, 1) := by decide +kernel
theorem dX1_append_0 : decode cX1_append 0 = .ok (.aload_n 0, 1) := by decide +kernel
theorem dX1_append_1 : decode cX1_append 1 = .ok (.getfield 15, 3) := by decide +kernel
theorem dX1_append_4 : decode cX1_append 4 = .ok (.bipush 32, 2) := by decide +kernel
theorem dX1_append_6 : decode cX1_append 6 = .ok (.if_icmp .lt 5, 3) := by decide +kernel
theorem dX1_append_9 : decode cX1_append 9 = .ok (.iconst 0, 1) := by decide +kernel
theorem dX1_append_10 : decode cX1_append 10 = .ok (.ireturn, 1) := by decide +kernel
theorem dX1_append_11 : decode cX1_append 11 = .ok (.aload_n 0, 1) := by decide +kernel
theorem dX1_append_12 : decode cX1_append 12 = .ok (.getfield 9, 3) := by decide +kernel
theorem dX1_append_15 : decode cX1_append 15 = .ok (.aload_n 0, 1) := by decide +kernel
theorem dX1_append_16 : decode cX1_append 16 = .ok (.getfield 15, 3) := by decide +kernel
theorem dX1_append_19 : decode cX1_append 19 = .ok (.iload_n 1, 1) := by decide +kernel
theorem dX1_append_20 : decode cX1_append 20 = .ok (.castore, 1) := by decide +kernel
theorem dX1_append_21 : decode cX1_append 21 = .ok (.aload_n 0, 1) := by decide +kernel
theorem dX1_append_22 : decode cX1_append 22 = .ok (.dup, 1) := by decide +kernel
theorem dX1_append_23 : decode cX1_append 23 = .ok (.getfield 15, 3) := by decide +kernel
theorem dX1_append_26 : decode cX1_append 26 = .ok (.iconst 1, 1) := by decide +kernel
theorem dX1_append_27 : decode cX1_append 27 = .ok (.iadd, 1) := by decide +kernel
theorem dX1_append_28 : decode cX1_append 28 = .ok (.putfield 15, 3) := by decide +kernel
theorem dX1_append_31 : decode cX1_append 31 = .ok (.iconst 1, 1) := by decide +kernel
theorem dX1_append_32 : decode cX1_append 32 = .ok (.ireturn, 1) := by decide +kernel
theorem dX1_firstFault_0 : decode cX1_firstFault 0 = .ok (.iconst 0, 1) := by decide +kernel
theorem dX1_firstFault_1 : decode cX1_firstFault 1 = .ok (.istore_n 1, 1) := by decide +kernel
theorem dX1_firstFault_2 : decode cX1_firstFault 2 = .ok (.iconst 0, 1) := by decide +kernel
theorem dX1_firstFault_3 : decode cX1_firstFault 3 = .ok (.istore_n 2, 1) := by decide +kernel
theorem dX1_firstFault_4 : decode cX1_firstFault 4 = .ok (.iconst 0, 1) := by decide +kernel
theorem dX1_firstFault_5 : decode cX1_firstFault 5 = .ok (.istore_n 3, 1) := by decide +kernel
theorem dX1_firstFault_6 : decode cX1_firstFault 6 = .ok (.iload_n 3, 1) := by decide +kernel
theorem dX1_firstFault_7 : decode cX1_firstFault 7 = .ok (.aload_n 0, 1) := by decide +kernel
theorem dX1_firstFault_8 : decode cX1_firstFault 8 = .ok (.getfield 15, 3) := by decide +kernel
theorem dX1_firstFault_11 : decode cX1_firstFault 11 = .ok (.if_icmp .ge 44, 3) := by decide +kernel
theorem dX1_firstFault_14 : decode cX1_firstFault 14 = .ok (.aload_n 0, 1) := by decide +kernel
theorem dX1_firstFault_15 : decode cX1_firstFault 15 = .ok (.getfield 9, 3) := by decide +kernel
theorem dX1_firstFault_18 : decode cX1_firstFault 18 = .ok (.iload_n 3, 1) := by decide +kernel
theorem dX1_firstFault_19 : decode cX1_firstFault 19 = .ok (.caload, 1) := by decide +kernel
theorem dX1_firstFault_20 : decode cX1_firstFault 20 = .ok (.iload_n 1, 1) := by decide +kernel
theorem dX1_firstFault_21 : decode cX1_firstFault 21 = .ok (.iload_n 2, 1) := by decide +kernel
theorem dX1_firstFault_22 : decode cX1_firstFault 22 = .ok (.invokestatic 19, 3) := by decide +kernel
theorem dX1_firstFault_25 : decode cX1_firstFault 25 = .ok (.ifCond .ne 5, 3) := by decide +kernel
theorem dX1_firstFault_28 : decode cX1_firstFault 28 = .ok (.iload_n 3, 1) := by decide +kernel
theorem dX1_firstFault_29 : decode cX1_firstFault 29 = .ok (.ireturn, 1) := by decide +kernel
theorem dX1_firstFault_30 : decode cX1_firstFault 30 = .ok (.iinc 1 1, 3) := by decide +kernel
theorem dX1_firstFault_33 : decode cX1_firstFault 33 = .ok (.aload_n 0, 1) := by decide +kernel
theorem dX1_firstFault_34 : decode cX1_firstFault 34 = .ok (.getfield 9, 3) := by decide +kernel
theorem dX1_firstFault_37 : decode cX1_firstFault 37 = .ok (.iload_n 3, 1) := by decide +kernel
theorem dX1_firstFault_38 : decode cX1_firstFault 38 = .ok (.caload, 1) := by decide +kernel
theorem dX1_firstFault_39 : decode cX1_firstFault 39 = .ok (.bipush 44, 2) := by decide +kernel
theorem dX1_firstFault_41 : decode cX1_firstFault 41 = .ok (.if_icmp .ne 8, 3) := by decide +kernel
theorem dX1_firstFault_44 : decode cX1_firstFault 44 = .ok (.iconst 0, 1) := by decide +kernel
theorem dX1_firstFault_45 : decode cX1_firstFault 45 = .ok (.istore_n 1, 1) := by decide +kernel
theorem dX1_firstFault_46 : decode cX1_firstFault 46 = .ok (.iinc 2 1, 3) := by decide +kernel
theorem dX1_firstFault_49 : decode cX1_firstFault 49 = .ok (.iinc 3 1, 3) := by decide +kernel
theorem dX1_firstFault_52 : decode cX1_firstFault 52 = .ok (.goto (-46), 3) := by decide +kernel
theorem dX1_firstFault_55 : decode cX1_firstFault 55 = .ok (.aload_n 0, 1) := by decide +kernel
theorem dX1_firstFault_56 : decode cX1_firstFault 56 = .ok (.getfield 15, 3) := by decide +kernel
theorem dX1_firstFault_59 : decode cX1_firstFault 59 = .ok (.ireturn, 1) := by decide +kernel
theorem dX1_fits_0 : decode cX1_fits 0 = .ok (.iload_n 1, 1) := by decide +kernel
theorem dX1_fits_1 : decode cX1_fits 1 = .ok (.ifCond .ne 18, 3) := by decide +kernel
theorem dX1_fits_4 : decode cX1_fits 4 = .ok (.ldc 23, 2) := by decide +kernel
theorem dX1_fits_6 : decode cX1_fits 6 = .ok (.iload_n 0, 1) := by decide +kernel
theorem dX1_fits_7 : decode cX1_fits 7 = .ok (.invokevirtual 25, 3) := by decide +kernel
theorem dX1_fits_10 : decode cX1_fits 10 = .ok (.ifCond .lt 7, 3) := by decide +kernel
theorem dX1_fits_13 : decode cX1_fits 13 = .ok (.iconst 1, 1) := by decide +kernel
theorem dX1_fits_14 : decode cX1_fits 14 = .ok (.goto 4, 3) := by decide +kernel
theorem dX1_fits_17 : decode cX1_fits 17 = .ok (.iconst 0, 1) := by decide +kernel
theorem dX1_fits_18 : decode cX1_fits 18 = .ok (.ireturn, 1) := by decide +kernel
theorem dX1_fits_19 : decode cX1_fits 19 = .ok (.iload_n 1, 1) := by decide +kernel
theorem dX1_fits_20 : decode cX1_fits 20 = .ok (.iconst 1, 1) := by decide +kernel
theorem dX1_fits_21 : decode cX1_fits 21 = .ok (.if_icmp .ne 11, 3) := by decide +kernel
theorem dX1_fits_24 : decode cX1_fits 24 = .ok (.iload_n 0, 1) := by decide +kernel
theorem dX1_fits_25 : decode cX1_fits 25 = .ok (.bipush 97, 2) := by decide +kernel
theorem dX1_fits_27 : decode cX1_fits 27 = .ok (.isub, 1) := by decide +kernel
theorem dX1_fits_28 : decode cX1_fits 28 = .ok (.invokestatic 31, 3) := by decide +kernel
theorem dX1_fits_31 : decode cX1_fits 31 = .ok (.ireturn, 1) := by decide +kernel
theorem dX1_fits_32 : decode cX1_fits 32 = .ok (.iload_n 0, 1) := by decide +kernel
theorem dX1_fits_33 : decode cX1_fits 33 = .ok (.bipush 44, 2) := by decide +kernel
theorem dX1_fits_35 : decode cX1_fits 35 = .ok (.if_icmp .ne 19, 3) := by decide +kernel
theorem dX1_fits_38 : decode cX1_fits 38 = .ok (.iload_n 1, 1) := by decide +kernel
theorem dX1_fits_39 : decode cX1_fits 39 = .ok (.iconst 2, 1) := by decide +kernel
theorem dX1_fits_40 : decode cX1_fits 40 = .ok (.if_icmp .le 12, 3) := by decide +kernel
theorem dX1_fits_43 : decode cX1_fits 43 = .ok (.iload_n 2, 1) := by decide +kernel
theorem dX1_fits_44 : decode cX1_fits 44 = .ok (.iconst 3, 1) := by decide +kernel
theorem dX1_fits_45 : decode cX1_fits 45 = .ok (.if_icmp .ge 7, 3) := by decide +kernel
theorem dX1_fits_48 : decode cX1_fits 48 = .ok (.iconst 1, 1) := by decide +kernel
theorem dX1_fits_49 : decode cX1_fits 49 = .ok (.goto 4, 3) := by decide +kernel
theorem dX1_fits_52 : decode cX1_fits 52 = .ok (.iconst 0, 1) := by decide +kernel
theorem dX1_fits_53 : decode cX1_fits 53 = .ok (.ireturn, 1) := by decide +kernel
theorem dX1_fits_54 : decode cX1_fits 54 = .ok (.iload_n 1, 1) := by decide +kernel
theorem dX1_fits_55 : decode cX1_fits 55 = .ok (.bipush 7, 2) := by decide +kernel
theorem dX1_fits_57 : decode cX1_fits 57 = .ok (.if_icmp .ge 16, 3) := by decide +kernel
theorem dX1_fits_60 : decode cX1_fits 60 = .ok (.ldc 35, 2) := by decide +kernel
theorem dX1_fits_62 : decode cX1_fits 62 = .ok (.iload_n 0, 1) := by decide +kernel
theorem dX1_fits_63 : decode cX1_fits 63 = .ok (.invokevirtual 25, 3) := by decide +kernel
theorem dX1_fits_66 : decode cX1_fits 66 = .ok (.ifCond .lt 7, 3) := by decide +kernel
theorem dX1_fits_69 : decode cX1_fits 69 = .ok (.iconst 1, 1) := by decide +kernel
theorem dX1_fits_70 : decode cX1_fits 70 = .ok (.goto 4, 3) := by decide +kernel
theorem dX1_fits_73 : decode cX1_fits 73 = .ok (.iconst 0, 1) := by decide +kernel
theorem dX1_fits_74 : decode cX1_fits 74 = .ok (.ireturn, 1) := by decide +kernel
theorem dX1_tellsHills_0 : decode cX1_tellsHills 0 = .ok (.aload_n 0, 1) := by decide +kernel
theorem dX1_tellsHills_1 : decode cX1_tellsHills 1 = .ok (.invokevirtual 37, 3) := by decide +kernel
theorem dX1_tellsHills_4 : decode cX1_tellsHills 4 = .ok (.aload_n 0, 1) := by decide +kernel
theorem dX1_tellsHills_5 : decode cX1_tellsHills 5 = .ok (.getfield 15, 3) := by decide +kernel
theorem dX1_tellsHills_8 : decode cX1_tellsHills 8 = .ok (.if_icmp .ne 15, 3) := by decide +kernel
theorem dX1_tellsHills_11 : decode cX1_tellsHills 11 = .ok (.aload_n 0, 1) := by decide +kernel
theorem dX1_tellsHills_12 : decode cX1_tellsHills 12 = .ok (.invokevirtual 41, 3) := by decide +kernel
theorem dX1_tellsHills_15 : decode cX1_tellsHills 15 = .ok (.iconst 2, 1) := by decide +kernel
theorem dX1_tellsHills_16 : decode cX1_tellsHills 16 = .ok (.if_icmp .le 7, 3) := by decide +kernel
theorem dX1_tellsHills_19 : decode cX1_tellsHills 19 = .ok (.iconst 1, 1) := by decide +kernel
theorem dX1_tellsHills_20 : decode cX1_tellsHills 20 = .ok (.goto 4, 3) := by decide +kernel
theorem dX1_tellsHills_23 : decode cX1_tellsHills 23 = .ok (.iconst 0, 1) := by decide +kernel
theorem dX1_tellsHills_24 : decode cX1_tellsHills 24 = .ok (.ireturn, 1) := by decide +kernel
theorem dX1_lettersOfLastStick_0 : decode cX1_lettersOfLastStick 0 = .ok (.iconst 0, 1) := by decide +kernel
theorem dX1_lettersOfLastStick_1 : decode cX1_lettersOfLastStick 1 = .ok (.istore_n 1, 1) := by decide +kernel
theorem dX1_lettersOfLastStick_2 : decode cX1_lettersOfLastStick 2 = .ok (.iconst 0, 1) := by decide +kernel
theorem dX1_lettersOfLastStick_3 : decode cX1_lettersOfLastStick 3 = .ok (.istore_n 2, 1) := by decide +kernel
theorem dX1_lettersOfLastStick_4 : decode cX1_lettersOfLastStick 4 = .ok (.iload_n 2, 1) := by decide +kernel
theorem dX1_lettersOfLastStick_5 : decode cX1_lettersOfLastStick 5 = .ok (.aload_n 0, 1) := by decide +kernel
theorem dX1_lettersOfLastStick_6 : decode cX1_lettersOfLastStick 6 = .ok (.getfield 15, 3) := by decide +kernel
theorem dX1_lettersOfLastStick_9 : decode cX1_lettersOfLastStick 9 = .ok (.if_icmp .ge 28, 3) := by decide +kernel
theorem dX1_lettersOfLastStick_12 : decode cX1_lettersOfLastStick 12 = .ok (.aload_n 0, 1) := by decide +kernel
theorem dX1_lettersOfLastStick_13 : decode cX1_lettersOfLastStick 13 = .ok (.getfield 9, 3) := by decide +kernel
theorem dX1_lettersOfLastStick_16 : decode cX1_lettersOfLastStick 16 = .ok (.iload_n 2, 1) := by decide +kernel
theorem dX1_lettersOfLastStick_17 : decode cX1_lettersOfLastStick 17 = .ok (.caload, 1) := by decide +kernel
theorem dX1_lettersOfLastStick_18 : decode cX1_lettersOfLastStick 18 = .ok (.bipush 44, 2) := by decide +kernel
theorem dX1_lettersOfLastStick_20 : decode cX1_lettersOfLastStick 20 = .ok (.if_icmp .ne 7, 3) := by decide +kernel
theorem dX1_lettersOfLastStick_23 : decode cX1_lettersOfLastStick 23 = .ok (.iconst 0, 1) := by decide +kernel
theorem dX1_lettersOfLastStick_24 : decode cX1_lettersOfLastStick 24 = .ok (.goto 6, 3) := by decide +kernel
theorem dX1_lettersOfLastStick_27 : decode cX1_lettersOfLastStick 27 = .ok (.iload_n 1, 1) := by decide +kernel
theorem dX1_lettersOfLastStick_28 : decode cX1_lettersOfLastStick 28 = .ok (.iconst 1, 1) := by decide +kernel
theorem dX1_lettersOfLastStick_29 : decode cX1_lettersOfLastStick 29 = .ok (.iadd, 1) := by decide +kernel
theorem dX1_lettersOfLastStick_30 : decode cX1_lettersOfLastStick 30 = .ok (.istore_n 1, 1) := by decide +kernel
theorem dX1_lettersOfLastStick_31 : decode cX1_lettersOfLastStick 31 = .ok (.iinc 2 1, 3) := by decide +kernel
theorem dX1_lettersOfLastStick_34 : decode cX1_lettersOfLastStick 34 = .ok (.goto (-30), 3) := by decide +kernel
theorem dX1_lettersOfLastStick_37 : decode cX1_lettersOfLastStick 37 = .ok (.iload_n 1, 1) := by decide +kernel
theorem dX1_lettersOfLastStick_38 : decode cX1_lettersOfLastStick 38 = .ok (.ireturn, 1) := by decide +kernel
theorem dX1_readInto_0 : decode cX1_readInto 0 = .ok (.aload_n 1, 1) := by decide +kernel
theorem dX1_readInto_1 : decode cX1_readInto 1 = .ok (.invokevirtual 44, 3) := by decide +kernel
theorem dX1_readInto_4 : decode cX1_readInto 4 = .ok (.iconst 0, 1) := by decide +kernel
theorem dX1_readInto_5 : decode cX1_readInto 5 = .ok (.istore_n 2, 1) := by decide +kernel
theorem dX1_readInto_6 : decode cX1_readInto 6 = .ok (.iconst 0, 1) := by decide +kernel
theorem dX1_readInto_7 : decode cX1_readInto 7 = .ok (.istore_n 3, 1) := by decide +kernel
theorem dX1_readInto_8 : decode cX1_readInto 8 = .ok (.aconst_null, 1) := by decide +kernel
theorem dX1_readInto_9 : decode cX1_readInto 9 = .ok (.astore 4, 2) := by decide +kernel
theorem dX1_readInto_11 : decode cX1_readInto 11 = .ok (.iconst 0, 1) := by decide +kernel
theorem dX1_readInto_12 : decode cX1_readInto 12 = .ok (.istore 5, 2) := by decide +kernel
theorem dX1_readInto_14 : decode cX1_readInto 14 = .ok (.iload 5, 2) := by decide +kernel
theorem dX1_readInto_16 : decode cX1_readInto 16 = .ok (.aload_n 0, 1) := by decide +kernel
theorem dX1_readInto_17 : decode cX1_readInto 17 = .ok (.getfield 15, 3) := by decide +kernel
theorem dX1_readInto_20 : decode cX1_readInto 20 = .ok (.if_icmp .ge 85, 3) := by decide +kernel
theorem dX1_readInto_23 : decode cX1_readInto 23 = .ok (.aload_n 0, 1) := by decide +kernel
theorem dX1_readInto_24 : decode cX1_readInto 24 = .ok (.getfield 9, 3) := by decide +kernel
theorem dX1_readInto_27 : decode cX1_readInto 27 = .ok (.iload 5, 2) := by decide +kernel
theorem dX1_readInto_29 : decode cX1_readInto 29 = .ok (.caload, 1) := by decide +kernel
theorem dX1_readInto_30 : decode cX1_readInto 30 = .ok (.istore 6, 2) := by decide +kernel
theorem dX1_readInto_32 : decode cX1_readInto 32 = .ok (.iload 6, 2) := by decide +kernel
theorem dX1_readInto_34 : decode cX1_readInto 34 = .ok (.bipush 44, 2) := by decide +kernel
theorem dX1_readInto_36 : decode cX1_readInto 36 = .ok (.if_icmp .ne 8, 3) := by decide +kernel
theorem dX1_readInto_39 : decode cX1_readInto 39 = .ok (.iconst 0, 1) := by decide +kernel
theorem dX1_readInto_40 : decode cX1_readInto 40 = .ok (.istore_n 2, 1) := by decide +kernel
theorem dX1_readInto_41 : decode cX1_readInto 41 = .ok (.goto 58, 3) := by decide +kernel
theorem dX1_readInto_44 : decode cX1_readInto 44 = .ok (.iload_n 2, 1) := by decide +kernel
theorem dX1_readInto_45 : decode cX1_readInto 45 = .ok (.ifCond .ne 14, 3) := by decide +kernel
theorem dX1_readInto_48 : decode cX1_readInto 48 = .ok (.ldc 23, 2) := by decide +kernel
theorem dX1_readInto_50 : decode cX1_readInto 50 = .ok (.iload 6, 2) := by decide +kernel
theorem dX1_readInto_52 : decode cX1_readInto 52 = .ok (.invokevirtual 25, 3) := by decide +kernel
theorem dX1_readInto_55 : decode cX1_readInto 55 = .ok (.istore_n 3, 1) := by decide +kernel
theorem dX1_readInto_56 : decode cX1_readInto 56 = .ok (.goto 40, 3) := by decide +kernel
theorem dX1_readInto_59 : decode cX1_readInto 59 = .ok (.iload_n 2, 1) := by decide +kernel
theorem dX1_readInto_60 : decode cX1_readInto 60 = .ok (.iconst 1, 1) := by decide +kernel
theorem dX1_readInto_61 : decode cX1_readInto 61 = .ok (.if_icmp .ne 18, 3) := by decide +kernel
theorem dX1_readInto_64 : decode cX1_readInto 64 = .ok (.aload_n 1, 1) := by decide +kernel
theorem dX1_readInto_65 : decode cX1_readInto 65 = .ok (.iload_n 3, 1) := by decide +kernel
theorem dX1_readInto_66 : decode cX1_readInto 66 = .ok (.iload 6, 2) := by decide +kernel
theorem dX1_readInto_68 : decode cX1_readInto 68 = .ok (.bipush 97, 2) := by decide +kernel
theorem dX1_readInto_70 : decode cX1_readInto 70 = .ok (.isub, 1) := by decide +kernel
theorem dX1_readInto_71 : decode cX1_readInto 71 = .ok (.invokevirtual 49, 3) := by decide +kernel
theorem dX1_readInto_74 : decode cX1_readInto 74 = .ok (.astore 4, 2) := by decide +kernel
theorem dX1_readInto_76 : decode cX1_readInto 76 = .ok (.goto 20, 3) := by decide +kernel
theorem dX1_readInto_79 : decode cX1_readInto 79 = .ok (.aload 4, 2) := by decide +kernel
theorem dX1_readInto_81 : decode cX1_readInto 81 = .ok (.ifnull 15, 3) := by decide +kernel
theorem dX1_readInto_84 : decode cX1_readInto 84 = .ok (.aload 4, 2) := by decide +kernel
theorem dX1_readInto_86 : decode cX1_readInto 86 = .ok (.ldc 35, 2) := by decide +kernel
theorem dX1_readInto_88 : decode cX1_readInto 88 = .ok (.iload 6, 2) := by decide +kernel
theorem dX1_readInto_90 : decode cX1_readInto 90 = .ok (.invokevirtual 25, 3) := by decide +kernel
theorem dX1_readInto_93 : decode cX1_readInto 93 = .ok (.invokevirtual 53, 3) := by decide +kernel
theorem dX1_readInto_96 : decode cX1_readInto 96 = .ok (.iinc 2 1, 3) := by decide +kernel
theorem dX1_readInto_99 : decode cX1_readInto 99 = .ok (.iinc 5 1, 3) := by decide +kernel
theorem dX1_readInto_102 : decode cX1_readInto 102 = .ok (.goto (-88), 3) := by decide +kernel
theorem dX1_readInto_105 : decode cX1_readInto 105 = .ok (.return_, 1) := by decide +kernel
theorem dX2_init_0 : decode cX2_init 0 = .ok (.aload_n 0, 1) := by decide +kernel
theorem dX2_init_1 : decode cX2_init 1 = .ok (.invokespecial 3, 3) := by decide +kernel
theorem dX2_init_4 : decode cX2_init 4 = .ok (.aload_n 0, 1) := by decide +kernel
theorem dX2_init_5 : decode cX2_init 5 = .ok (.iconst 0, 1) := by decide +kernel
theorem dX2_init_6 : decode cX2_init 6 = .ok (.putfield 9, 3) := by decide +kernel
theorem dX2_init_9 : decode cX2_init 9 = .ok (.aload_n 0, 1) := by decide +kernel
theorem dX2_init_10 : decode cX2_init 10 = .ok (.iconst 0, 1) := by decide +kernel
theorem dX2_init_11 : decode cX2_init 11 = .ok (.putfield 15, 3) := by decide +kernel
theorem dX2_init_14 : decode cX2_init 14 = .ok (.aload_n 0, 1) := by decide +kernel
theorem dX2_init_15 : decode cX2_init 15 = .ok (.iconst 0, 1) := by decide +kernel
theorem dX2_init_16 : decode cX2_init 16 = .ok (.putfield 18, 3) := by decide +kernel
theorem dX2_init_19 : decode cX2_init 19 = .ok (.aload_n 0, 1) := by decide +kernel
theorem dX2_init_20 : decode cX2_init 20 = .ok (.iconst 5, 1) := by decide +kernel
theorem dX2_init_21 : decode cX2_init 21 = .ok (.newarray .int, 2) := by decide +kernel
theorem dX2_init_23 : decode cX2_init 23 = .ok (.putfield 21, 3) := by decide +kernel
theorem dX2_init_26 : decode cX2_init 26 = .ok (.aload_n 0, 1) := by decide +kernel
theorem dX2_init_27 : decode cX2_init 27 = .ok (.bipush 31, 2) := by decide +kernel
theorem dX2_init_29 : decode cX2_init 29 = .ok (.newarray .int, 2) := by decide +kernel
theorem dX2_init_31 : decode cX2_init 31 = .ok (.putfield 25, 3) := by decide +kernel
theorem dX2_init_34 : decode cX2_init 34 = .ok (.aload_n 0, 1) := by decide +kernel
theorem dX2_init_35 : decode cX2_init 35 = .ok (.iconst 0, 1) := by decide +kernel
theorem dX2_init_36 : decode cX2_init 36 = .ok (.putfield 28, 3) := by decide +kernel
theorem dX2_init_39 : decode cX2_init 39 = .ok (.return_, 1) := by decide +kernel
theorem dX2_startAnew_0 : decode cX2_startAnew 0 = .ok (.aload_n 0, 1) := by decide +kernel
theorem dX2_startAnew_1 : decode cX2_startAnew 1 = .ok (.iload_n 1, 1) := by decide +kernel
theorem dX2_startAnew_2 : decode cX2_startAnew 2 = .ok (.putfield 9, 3) := by decide +kernel
theorem dX2_startAnew_5 : decode cX2_startAnew 5 = .ok (.aload_n 0, 1) := by decide +kernel
theorem dX2_startAnew_6 : decode cX2_startAnew 6 = .ok (.iload_n 2, 1) := by decide +kernel
theorem dX2_startAnew_7 : decode cX2_startAnew 7 = .ok (.putfield 15, 3) := by decide +kernel
theorem dX2_startAnew_10 : decode cX2_startAnew 10 = .ok (.aload_n 0, 1) := by decide +kernel
theorem dX2_startAnew_11 : decode cX2_startAnew 11 = .ok (.iconst 0, 1) := by decide +kernel
theorem dX2_startAnew_12 : decode cX2_startAnew 12 = .ok (.putfield 18, 3) := by decide +kernel
theorem dX2_startAnew_15 : decode cX2_startAnew 15 = .ok (.aload_n 0, 1) := by decide +kernel
theorem dX2_startAnew_16 : decode cX2_startAnew 16 = .ok (.invokevirtual 31, 3) := by decide +kernel
theorem dX2_startAnew_19 : decode cX2_startAnew 19 = .ok (.return_, 1) := by decide +kernel
theorem dX2_addStep_0 : decode cX2_addStep 0 = .ok (.aload_n 0, 1) := by decide +kernel
theorem dX2_addStep_1 : decode cX2_addStep 1 = .ok (.getfield 18, 3) := by decide +kernel
theorem dX2_addStep_4 : decode cX2_addStep 4 = .ok (.iconst 5, 1) := by decide +kernel
theorem dX2_addStep_5 : decode cX2_addStep 5 = .ok (.if_icmp .ge 27, 3) := by decide +kernel
theorem dX2_addStep_8 : decode cX2_addStep 8 = .ok (.aload_n 0, 1) := by decide +kernel
theorem dX2_addStep_9 : decode cX2_addStep 9 = .ok (.getfield 21, 3) := by decide +kernel
theorem dX2_addStep_12 : decode cX2_addStep 12 = .ok (.aload_n 0, 1) := by decide +kernel
theorem dX2_addStep_13 : decode cX2_addStep 13 = .ok (.getfield 18, 3) := by decide +kernel
theorem dX2_addStep_16 : decode cX2_addStep 16 = .ok (.iload_n 1, 1) := by decide +kernel
theorem dX2_addStep_17 : decode cX2_addStep 17 = .ok (.iastore, 1) := by decide +kernel
theorem dX2_addStep_18 : decode cX2_addStep 18 = .ok (.aload_n 0, 1) := by decide +kernel
theorem dX2_addStep_19 : decode cX2_addStep 19 = .ok (.dup, 1) := by decide +kernel
theorem dX2_addStep_20 : decode cX2_addStep 20 = .ok (.getfield 18, 3) := by decide +kernel
theorem dX2_addStep_23 : decode cX2_addStep 23 = .ok (.iconst 1, 1) := by decide +kernel
theorem dX2_addStep_24 : decode cX2_addStep 24 = .ok (.iadd, 1) := by decide +kernel
theorem dX2_addStep_25 : decode cX2_addStep 25 = .ok (.putfield 18, 3) := by decide +kernel
theorem dX2_addStep_28 : decode cX2_addStep 28 = .ok (.aload_n 0, 1) := by decide +kernel
theorem dX2_addStep_29 : decode cX2_addStep 29 = .ok (.invokevirtual 31, 3) := by decide +kernel
theorem dX2_addStep_32 : decode cX2_addStep 32 = .ok (.return_, 1) := by decide +kernel
theorem dX2_shortenTo_0 : decode cX2_shortenTo 0 = .ok (.aload_n 0, 1) := by decide +kernel
theorem dX2_shortenTo_1 : decode cX2_shortenTo 1 = .ok (.aload_n 0, 1) := by decide +kernel
theorem dX2_shortenTo_2 : decode cX2_shortenTo 2 = .ok (.getfield 18, 3) := by decide +kernel
theorem dX2_shortenTo_5 : decode cX2_shortenTo 5 = .ok (.iload_n 1, 1) := by decide +kernel
theorem dX2_shortenTo_6 : decode cX2_shortenTo 6 = .ok (.invokestatic 34, 3) := by decide +kernel
theorem dX2_shortenTo_9 : decode cX2_shortenTo 9 = .ok (.putfield 18, 3) := by decide +kernel
theorem dX2_shortenTo_12 : decode cX2_shortenTo 12 = .ok (.aload_n 0, 1) := by decide +kernel
theorem dX2_shortenTo_13 : decode cX2_shortenTo 13 = .ok (.invokevirtual 31, 3) := by decide +kernel
theorem dX2_shortenTo_16 : decode cX2_shortenTo 16 = .ok (.return_, 1) := by decide +kernel
theorem dX2_copyFrom_0 : decode cX2_copyFrom 0 = .ok (.aload_n 0, 1) := by decide +kernel
theorem dX2_copyFrom_1 : decode cX2_copyFrom 1 = .ok (.aload_n 1, 1) := by decide +kernel
theorem dX2_copyFrom_2 : decode cX2_copyFrom 2 = .ok (.getfield 9, 3) := by decide +kernel
theorem dX2_copyFrom_5 : decode cX2_copyFrom 5 = .ok (.putfield 9, 3) := by decide +kernel
theorem dX2_copyFrom_8 : decode cX2_copyFrom 8 = .ok (.aload_n 0, 1) := by decide +kernel
theorem dX2_copyFrom_9 : decode cX2_copyFrom 9 = .ok (.aload_n 1, 1) := by decide +kernel
theorem dX2_copyFrom_10 : decode cX2_copyFrom 10 = .ok (.getfield 15, 3) := by decide +kernel
theorem dX2_copyFrom_13 : decode cX2_copyFrom 13 = .ok (.putfield 15, 3) := by decide +kernel
theorem dX2_copyFrom_16 : decode cX2_copyFrom 16 = .ok (.aload_n 0, 1) := by decide +kernel
theorem dX2_copyFrom_17 : decode cX2_copyFrom 17 = .ok (.aload_n 1, 1) := by decide +kernel
theorem dX2_copyFrom_18 : decode cX2_copyFrom 18 = .ok (.getfield 18, 3) := by decide +kernel
theorem dX2_copyFrom_21 : decode cX2_copyFrom 21 = .ok (.putfield 18, 3) := by decide +kernel
theorem dX2_copyFrom_24 : decode cX2_copyFrom 24 = .ok (.aload_n 1, 1) := by decide +kernel
theorem dX2_copyFrom_25 : decode cX2_copyFrom 25 = .ok (.getfield 21, 3) := by decide +kernel
theorem dX2_copyFrom_28 : decode cX2_copyFrom 28 = .ok (.iconst 0, 1) := by decide +kernel
theorem dX2_copyFrom_29 : decode cX2_copyFrom 29 = .ok (.aload_n 0, 1) := by decide +kernel
theorem dX2_copyFrom_30 : decode cX2_copyFrom 30 = .ok (.getfield 21, 3) := by decide +kernel
theorem dX2_copyFrom_33 : decode cX2_copyFrom 33 = .ok (.iconst 0, 1) := by decide +kernel
theorem dX2_copyFrom_34 : decode cX2_copyFrom 34 = .ok (.iconst 5, 1) := by decide +kernel
theorem dX2_copyFrom_35 : decode cX2_copyFrom 35 = .ok (.invokestatic 40, 3) := by decide +kernel
theorem dX2_copyFrom_38 : decode cX2_copyFrom 38 = .ok (.aload_n 0, 1) := by decide +kernel
theorem dX2_copyFrom_39 : decode cX2_copyFrom 39 = .ok (.invokevirtual 31, 3) := by decide +kernel
theorem dX2_copyFrom_42 : decode cX2_copyFrom 42 = .ok (.return_, 1) := by decide +kernel
theorem dX2_stepOrNone_0 : decode cX2_stepOrNone 0 = .ok (.iload_n 1, 1) := by decide +kernel
theorem dX2_stepOrNone_1 : decode cX2_stepOrNone 1 = .ok (.ifCond .lt 20, 3) := by decide +kernel
theorem dX2_stepOrNone_4 : decode cX2_stepOrNone 4 = .ok (.iload_n 1, 1) := by decide +kernel
theorem dX2_stepOrNone_5 : decode cX2_stepOrNone 5 = .ok (.aload_n 0, 1) := by decide +kernel
theorem dX2_stepOrNone_6 : decode cX2_stepOrNone 6 = .ok (.getfield 18, 3) := by decide +kernel
theorem dX2_stepOrNone_9 : decode cX2_stepOrNone 9 = .ok (.if_icmp .ge 12, 3) := by decide +kernel
theorem dX2_stepOrNone_12 : decode cX2_stepOrNone 12 = .ok (.aload_n 0, 1) := by decide +kernel
theorem dX2_stepOrNone_13 : decode cX2_stepOrNone 13 = .ok (.getfield 21, 3) := by decide +kernel
theorem dX2_stepOrNone_16 : decode cX2_stepOrNone 16 = .ok (.iload_n 1, 1) := by decide +kernel
theorem dX2_stepOrNone_17 : decode cX2_stepOrNone 17 = .ok (.iaload, 1) := by decide +kernel
theorem dX2_stepOrNone_18 : decode cX2_stepOrNone 18 = .ok (.goto 4, 3) := by decide +kernel
theorem dX2_stepOrNone_21 : decode cX2_stepOrNone 21 = .ok (.iconst (-1), 1) := by decide +kernel
theorem dX2_stepOrNone_22 : decode cX2_stepOrNone 22 = .ok (.ireturn, 1) := by decide +kernel
theorem dX2_isOfKind_0 : decode cX2_isOfKind 0 = .ok (.iload_n 1, 1) := by decide +kernel
theorem dX2_isOfKind_1 : decode cX2_isOfKind 1 = .ok (.ifCond .eq 24, 3) := by decide +kernel
theorem dX2_isOfKind_4 : decode cX2_isOfKind 4 = .ok (.iload_n 1, 1) := by decide +kernel
theorem dX2_isOfKind_5 : decode cX2_isOfKind 5 = .ok (.aload_n 0, 1) := by decide +kernel
theorem dX2_isOfKind_6 : decode cX2_isOfKind 6 = .ok (.getfield 9, 3) := by decide +kernel
theorem dX2_isOfKind_9 : decode cX2_isOfKind 9 = .ok (.if_icmp .eq 16, 3) := by decide +kernel
theorem dX2_isOfKind_12 : decode cX2_isOfKind 12 = .ok (.iload_n 1, 1) := by decide +kernel
theorem dX2_isOfKind_13 : decode cX2_isOfKind 13 = .ok (.iconst 1, 1) := by decide +kernel
theorem dX2_isOfKind_14 : decode cX2_isOfKind 14 = .ok (.if_icmp .ne 15, 3) := by decide +kernel
theorem dX2_isOfKind_17 : decode cX2_isOfKind 17 = .ok (.aload_n 0, 1) := by decide +kernel
theorem dX2_isOfKind_18 : decode cX2_isOfKind 18 = .ok (.getfield 9, 3) := by decide +kernel
theorem dX2_isOfKind_21 : decode cX2_isOfKind 21 = .ok (.iconst 4, 1) := by decide +kernel
theorem dX2_isOfKind_22 : decode cX2_isOfKind 22 = .ok (.if_icmp .ne 7, 3) := by decide +kernel
theorem dX2_isOfKind_25 : decode cX2_isOfKind 25 = .ok (.iconst 1, 1) := by decide +kernel
theorem dX2_isOfKind_26 : decode cX2_isOfKind 26 = .ok (.goto 4, 3) := by decide +kernel
theorem dX2_isOfKind_29 : decode cX2_isOfKind 29 = .ok (.iconst 0, 1) := by decide +kernel
theorem dX2_isOfKind_30 : decode cX2_isOfKind 30 = .ok (.ireturn, 1) := by decide +kernel
theorem dX2_placeAt_0 : decode cX2_placeAt 0 = .ok (.iload_n 1, 1) := by decide +kernel
theorem dX2_placeAt_1 : decode cX2_placeAt 1 = .ok (.iload_n 2, 1) := by decide +kernel
theorem dX2_placeAt_2 : decode cX2_placeAt 2 = .ok (.isub, 1) := by decide +kernel
theorem dX2_placeAt_3 : decode cX2_placeAt 3 = .ok (.istore_n 3, 1) := by decide +kernel
theorem dX2_placeAt_4 : decode cX2_placeAt 4 = .ok (.iload_n 3, 1) := by decide +kernel
theorem dX2_placeAt_5 : decode cX2_placeAt 5 = .ok (.ifCond .ge 8, 3) := by decide +kernel
theorem dX2_placeAt_8 : decode cX2_placeAt 8 = .ok (.aload_n 0, 1) := by decide +kernel
theorem dX2_placeAt_9 : decode cX2_placeAt 9 = .ok (.getfield 15, 3) := by decide +kernel
theorem dX2_placeAt_12 : decode cX2_placeAt 12 = .ok (.ireturn, 1) := by decide +kernel
theorem dX2_placeAt_13 : decode cX2_placeAt 13 = .ok (.aload_n 0, 1) := by decide +kernel
theorem dX2_placeAt_14 : decode cX2_placeAt 14 = .ok (.getfield 25, 3) := by decide +kernel
theorem dX2_placeAt_17 : decode cX2_placeAt 17 = .ok (.iload_n 3, 1) := by decide +kernel
theorem dX2_placeAt_18 : decode cX2_placeAt 18 = .ok (.bipush 30, 2) := by decide +kernel
theorem dX2_placeAt_20 : decode cX2_placeAt 20 = .ok (.if_icmp .gt 7, 3) := by decide +kernel
theorem dX2_placeAt_23 : decode cX2_placeAt 23 = .ok (.iload_n 3, 1) := by decide +kernel
theorem dX2_placeAt_24 : decode cX2_placeAt 24 = .ok (.goto 5, 3) := by decide +kernel
theorem dX2_placeAt_27 : decode cX2_placeAt 27 = .ok (.bipush 30, 2) := by decide +kernel
theorem dX2_placeAt_29 : decode cX2_placeAt 29 = .ok (.iaload, 1) := by decide +kernel
theorem dX2_placeAt_30 : decode cX2_placeAt 30 = .ok (.ireturn, 1) := by decide +kernel
theorem dX2_placeBehind_0 : decode cX2_placeBehind 0 = .ok (.aload_n 0, 1) := by decide +kernel
theorem dX2_placeBehind_1 : decode cX2_placeBehind 1 = .ok (.getfield 15, 3) := by decide +kernel
theorem dX2_placeBehind_4 : decode cX2_placeBehind 4 = .ok (.istore_n 2, 1) := by decide +kernel
theorem dX2_placeBehind_5 : decode cX2_placeBehind 5 = .ok (.iconst 0, 1) := by decide +kernel
theorem dX2_placeBehind_6 : decode cX2_placeBehind 6 = .ok (.istore_n 3, 1) := by decide +kernel
theorem dX2_placeBehind_7 : decode cX2_placeBehind 7 = .ok (.iload_n 3, 1) := by decide +kernel
theorem dX2_placeBehind_8 : decode cX2_placeBehind 8 = .ok (.iload_n 1, 1) := by decide +kernel
theorem dX2_placeBehind_9 : decode cX2_placeBehind 9 = .ok (.if_icmp .ge 28, 3) := by decide +kernel
theorem dX2_placeBehind_12 : decode cX2_placeBehind 12 = .ok (.iload_n 3, 1) := by decide +kernel
theorem dX2_placeBehind_13 : decode cX2_placeBehind 13 = .ok (.aload_n 0, 1) := by decide +kernel
theorem dX2_placeBehind_14 : decode cX2_placeBehind 14 = .ok (.getfield 18, 3) := by decide +kernel
theorem dX2_placeBehind_17 : decode cX2_placeBehind 17 = .ok (.if_icmp .ge 20, 3) := by decide +kernel
theorem dX2_placeBehind_20 : decode cX2_placeBehind 20 = .ok (.iload_n 2, 1) := by decide +kernel
theorem dX2_placeBehind_21 : decode cX2_placeBehind 21 = .ok (.aload_n 0, 1) := by decide +kernel
theorem dX2_placeBehind_22 : decode cX2_placeBehind 22 = .ok (.getfield 21, 3) := by decide +kernel
theorem dX2_placeBehind_25 : decode cX2_placeBehind 25 = .ok (.iload_n 3, 1) := by decide +kernel
theorem dX2_placeBehind_26 : decode cX2_placeBehind 26 = .ok (.iaload, 1) := by decide +kernel
theorem dX2_placeBehind_27 : decode cX2_placeBehind 27 = .ok (.invokestatic 46, 3) := by decide +kernel
theorem dX2_placeBehind_30 : decode cX2_placeBehind 30 = .ok (.istore_n 2, 1) := by decide +kernel
theorem dX2_placeBehind_31 : decode cX2_placeBehind 31 = .ok (.iinc 3 1, 3) := by decide +kernel
theorem dX2_placeBehind_34 : decode cX2_placeBehind 34 = .ok (.goto (-27), 3) := by decide +kernel
theorem dX2_placeBehind_37 : decode cX2_placeBehind 37 = .ok (.iload_n 2, 1) := by decide +kernel
theorem dX2_placeBehind_38 : decode cX2_placeBehind 38 = .ok (.ireturn, 1) := by decide +kernel
theorem dX2_hoursOfWalk_0 : decode cX2_hoursOfWalk 0 = .ok (.aload_n 0, 1) := by decide +kernel
theorem dX2_hoursOfWalk_1 : decode cX2_hoursOfWalk 1 = .ok (.invokevirtual 49, 3) := by decide +kernel
theorem dX2_hoursOfWalk_4 : decode cX2_hoursOfWalk 4 = .ok (.aload_n 0, 1) := by decide +kernel
theorem dX2_hoursOfWalk_5 : decode cX2_hoursOfWalk 5 = .ok (.invokevirtual 53, 3) := by decide +kernel
theorem dX2_hoursOfWalk_8 : decode cX2_hoursOfWalk 8 = .ok (.imul, 1) := by decide +kernel
theorem dX2_hoursOfWalk_9 : decode cX2_hoursOfWalk 9 = .ok (.ireturn, 1) := by decide +kernel
theorem dX2_stepsOfWalk_0 : decode cX2_stepsOfWalk 0 = .ok (.aload_n 0, 1) := by decide +kernel
theorem dX2_stepsOfWalk_1 : decode cX2_stepsOfWalk 1 = .ok (.getfield 9, 3) := by decide +kernel
theorem dX2_stepsOfWalk_4 : decode cX2_stepsOfWalk 4 = .ok (.lookupswitch 42 #[(1, 28), (4, 35)], 28) := by decide +kernel
theorem dX2_stepsOfWalk_32 : decode cX2_stepsOfWalk 32 = .ok (.iconst 2, 1) := by decide +kernel
theorem dX2_stepsOfWalk_33 : decode cX2_stepsOfWalk 33 = .ok (.aload_n 0, 1) := by decide +kernel
theorem dX2_stepsOfWalk_34 : decode cX2_stepsOfWalk 34 = .ok (.getfield 18, 3) := by decide +kernel
theorem dX2_stepsOfWalk_37 : decode cX2_stepsOfWalk 37 = .ok (.imul, 1) := by decide +kernel
theorem dX2_stepsOfWalk_38 : decode cX2_stepsOfWalk 38 = .ok (.ireturn, 1) := by decide +kernel
theorem dX2_stepsOfWalk_39 : decode cX2_stepsOfWalk 39 = .ok (.iconst 4, 1) := by decide +kernel
theorem dX2_stepsOfWalk_40 : decode cX2_stepsOfWalk 40 = .ok (.aload_n 0, 1) := by decide +kernel
theorem dX2_stepsOfWalk_41 : decode cX2_stepsOfWalk 41 = .ok (.getfield 18, 3) := by decide +kernel
theorem dX2_stepsOfWalk_44 : decode cX2_stepsOfWalk 44 = .ok (.imul, 1) := by decide +kernel
theorem dX2_stepsOfWalk_45 : decode cX2_stepsOfWalk 45 = .ok (.ireturn, 1) := by decide +kernel
theorem dX2_stepsOfWalk_46 : decode cX2_stepsOfWalk 46 = .ok (.aload_n 0, 1) := by decide +kernel
theorem dX2_stepsOfWalk_47 : decode cX2_stepsOfWalk 47 = .ok (.getfield 18, 3) := by decide +kernel
theorem dX2_stepsOfWalk_50 : decode cX2_stepsOfWalk 50 = .ok (.ireturn, 1) := by decide +kernel
theorem dX2_hoursPerStep_0 : decode cX2_hoursPerStep 0 = .ok (.aload_n 0, 1) := by decide +kernel
theorem dX2_hoursPerStep_1 : decode cX2_hoursPerStep 1 = .ok (.getfield 9, 3) := by decide +kernel
theorem dX2_hoursPerStep_4 : decode cX2_hoursPerStep 4 = .ok (.iconst 2, 1) := by decide +kernel
theorem dX2_hoursPerStep_5 : decode cX2_hoursPerStep 5 = .ok (.if_icmp .ne 7, 3) := by decide +kernel
theorem dX2_hoursPerStep_8 : decode cX2_hoursPerStep 8 = .ok (.iconst 2, 1) := by decide +kernel
theorem dX2_hoursPerStep_9 : decode cX2_hoursPerStep 9 = .ok (.goto 4, 3) := by decide +kernel
theorem dX2_hoursPerStep_12 : decode cX2_hoursPerStep 12 = .ok (.iconst 1, 1) := by decide +kernel
theorem dX2_hoursPerStep_13 : decode cX2_hoursPerStep 13 = .ok (.ireturn, 1) := by decide +kernel
theorem dX2_retrace_0 : decode cX2_retrace 0 = .ok (.aload_n 0, 1) := by decide +kernel
theorem dX2_retrace_1 : decode cX2_retrace 1 = .ok (.getfield 15, 3) := by decide +kernel
theorem dX2_retrace_4 : decode cX2_retrace 4 = .ok (.istore_n 1, 1) := by decide +kernel
theorem dX2_retrace_5 : decode cX2_retrace 5 = .ok (.iconst 0, 1) := by decide +kernel
theorem dX2_retrace_6 : decode cX2_retrace 6 = .ok (.istore_n 2, 1) := by decide +kernel
theorem dX2_retrace_7 : decode cX2_retrace 7 = .ok (.aload_n 0, 1) := by decide +kernel
theorem dX2_retrace_8 : decode cX2_retrace 8 = .ok (.getfield 25, 3) := by decide +kernel
theorem dX2_retrace_11 : decode cX2_retrace 11 = .ok (.iconst 0, 1) := by decide +kernel
theorem dX2_retrace_12 : decode cX2_retrace 12 = .ok (.iload_n 1, 1) := by decide +kernel
theorem dX2_retrace_13 : decode cX2_retrace 13 = .ok (.iastore, 1) := by decide +kernel
theorem dX2_retrace_14 : decode cX2_retrace 14 = .ok (.aload_n 0, 1) := by decide +kernel
theorem dX2_retrace_15 : decode cX2_retrace 15 = .ok (.iconst 1, 1) := by decide +kernel
theorem dX2_retrace_16 : decode cX2_retrace 16 = .ok (.iload_n 1, 1) := by decide +kernel
theorem dX2_retrace_17 : decode cX2_retrace 17 = .ok (.ishl, 1) := by decide +kernel
theorem dX2_retrace_18 : decode cX2_retrace 18 = .ok (.putfield 28, 3) := by decide +kernel
theorem dX2_retrace_21 : decode cX2_retrace 21 = .ok (.iconst 1, 1) := by decide +kernel
theorem dX2_retrace_22 : decode cX2_retrace 22 = .ok (.istore_n 3, 1) := by decide +kernel
theorem dX2_retrace_23 : decode cX2_retrace 23 = .ok (.iload_n 3, 1) := by decide +kernel
theorem dX2_retrace_24 : decode cX2_retrace 24 = .ok (.bipush 30, 2) := by decide +kernel
theorem dX2_retrace_26 : decode cX2_retrace 26 = .ok (.if_icmp .gt 58, 3) := by decide +kernel
theorem dX2_retrace_29 : decode cX2_retrace 29 = .ok (.iload_n 3, 1) := by decide +kernel
theorem dX2_retrace_30 : decode cX2_retrace 30 = .ok (.aload_n 0, 1) := by decide +kernel
theorem dX2_retrace_31 : decode cX2_retrace 31 = .ok (.invokevirtual 56, 3) := by decide +kernel
theorem dX2_retrace_34 : decode cX2_retrace 34 = .ok (.if_icmp .gt 25, 3) := by decide +kernel
theorem dX2_retrace_37 : decode cX2_retrace 37 = .ok (.iload_n 3, 1) := by decide +kernel
theorem dX2_retrace_38 : decode cX2_retrace 38 = .ok (.aload_n 0, 1) := by decide +kernel
theorem dX2_retrace_39 : decode cX2_retrace 39 = .ok (.invokevirtual 53, 3) := by decide +kernel
theorem dX2_retrace_42 : decode cX2_retrace 42 = .ok (.irem, 1) := by decide +kernel
theorem dX2_retrace_43 : decode cX2_retrace 43 = .ok (.ifCond .ne 16, 3) := by decide +kernel
theorem dX2_retrace_46 : decode cX2_retrace 46 = .ok (.iload_n 1, 1) := by decide +kernel
theorem dX2_retrace_47 : decode cX2_retrace 47 = .ok (.aload_n 0, 1) := by decide +kernel
theorem dX2_retrace_48 : decode cX2_retrace 48 = .ok (.iload_n 2, 1) := by decide +kernel
theorem dX2_retrace_49 : decode cX2_retrace 49 = .ok (.invokevirtual 59, 3) := by decide +kernel
theorem dX2_retrace_52 : decode cX2_retrace 52 = .ok (.invokestatic 46, 3) := by decide +kernel
theorem dX2_retrace_55 : decode cX2_retrace 55 = .ok (.istore_n 1, 1) := by decide +kernel
theorem dX2_retrace_56 : decode cX2_retrace 56 = .ok (.iinc 2 1, 3) := by decide +kernel
theorem dX2_retrace_59 : decode cX2_retrace 59 = .ok (.aload_n 0, 1) := by decide +kernel
theorem dX2_retrace_60 : decode cX2_retrace 60 = .ok (.getfield 25, 3) := by decide +kernel
theorem dX2_retrace_63 : decode cX2_retrace 63 = .ok (.iload_n 3, 1) := by decide +kernel
theorem dX2_retrace_64 : decode cX2_retrace 64 = .ok (.iload_n 1, 1) := by decide +kernel
theorem dX2_retrace_65 : decode cX2_retrace 65 = .ok (.iastore, 1) := by decide +kernel
theorem dX2_retrace_66 : decode cX2_retrace 66 = .ok (.aload_n 0, 1) := by decide +kernel
theorem dX2_retrace_67 : decode cX2_retrace 67 = .ok (.dup, 1) := by decide +kernel
theorem dX2_retrace_68 : decode cX2_retrace 68 = .ok (.getfield 28, 3) := by decide +kernel
theorem dX2_retrace_71 : decode cX2_retrace 71 = .ok (.iconst 1, 1) := by decide +kernel
theorem dX2_retrace_72 : decode cX2_retrace 72 = .ok (.iload_n 1, 1) := by decide +kernel
theorem dX2_retrace_73 : decode cX2_retrace 73 = .ok (.ishl, 1) := by decide +kernel
theorem dX2_retrace_74 : decode cX2_retrace 74 = .ok (.ior, 1) := by decide +kernel
theorem dX2_retrace_75 : decode cX2_retrace 75 = .ok (.putfield 28, 3) := by decide +kernel
theorem dX2_retrace_78 : decode cX2_retrace 78 = .ok (.iinc 3 1, 3) := by decide +kernel
theorem dX2_retrace_81 : decode cX2_retrace 81 = .ok (.goto (-58), 3) := by decide +kernel
theorem dX2_retrace_84 : decode cX2_retrace 84 = .ok (.return_, 1) := by decide +kernel
theorem dX2_directionOf_0 : decode cX2_directionOf 0 = .ok (.aload_n 0, 1) := by decide +kernel
theorem dX2_directionOf_1 : decode cX2_directionOf 1 = .ok (.getfield 18, 3) := by decide +kernel
theorem dX2_directionOf_4 : decode cX2_directionOf 4 = .ok (.ifCond .ne 5, 3) := by decide +kernel
theorem dX2_directionOf_7 : decode cX2_directionOf 7 = .ok (.iconst (-1), 1) := by decide +kernel
theorem dX2_directionOf_8 : decode cX2_directionOf 8 = .ok (.ireturn, 1) := by decide +kernel
theorem dX2_directionOf_9 : decode cX2_directionOf 9 = .ok (.iload_n 1, 1) := by decide +kernel
theorem dX2_directionOf_10 : decode cX2_directionOf 10 = .ok (.aload_n 0, 1) := by decide +kernel
theorem dX2_directionOf_11 : decode cX2_directionOf 11 = .ok (.getfield 18, 3) := by decide +kernel
theorem dX2_directionOf_14 : decode cX2_directionOf 14 = .ok (.irem, 1) := by decide +kernel
theorem dX2_directionOf_15 : decode cX2_directionOf 15 = .ok (.istore_n 2, 1) := by decide +kernel
theorem dX2_directionOf_16 : decode cX2_directionOf 16 = .ok (.iload_n 1, 1) := by decide +kernel
theorem dX2_directionOf_17 : decode cX2_directionOf 17 = .ok (.aload_n 0, 1) := by decide +kernel
theorem dX2_directionOf_18 : decode cX2_directionOf 18 = .ok (.getfield 18, 3) := by decide +kernel
theorem dX2_directionOf_21 : decode cX2_directionOf 21 = .ok (.idiv, 1) := by decide +kernel
theorem dX2_directionOf_22 : decode cX2_directionOf 22 = .ok (.iconst 2, 1) := by decide +kernel
theorem dX2_directionOf_23 : decode cX2_directionOf 23 = .ok (.irem, 1) := by decide +kernel
theorem dX2_directionOf_24 : decode cX2_directionOf 24 = .ok (.iconst 1, 1) := by decide +kernel
theorem dX2_directionOf_25 : decode cX2_directionOf 25 = .ok (.if_icmp .ne 7, 3) := by decide +kernel
theorem dX2_directionOf_28 : decode cX2_directionOf 28 = .ok (.iconst 1, 1) := by decide +kernel
theorem dX2_directionOf_29 : decode cX2_directionOf 29 = .ok (.goto 4, 3) := by decide +kernel
theorem dX2_directionOf_32 : decode cX2_directionOf 32 = .ok (.iconst 0, 1) := by decide +kernel
theorem dX2_directionOf_33 : decode cX2_directionOf 33 = .ok (.istore_n 3, 1) := by decide +kernel
theorem dX2_directionOf_34 : decode cX2_directionOf 34 = .ok (.iload_n 3, 1) := by decide +kernel
theorem dX2_directionOf_35 : decode cX2_directionOf 35 = .ok (.ifCond .eq 19, 3) := by decide +kernel
theorem dX2_directionOf_38 : decode cX2_directionOf 38 = .ok (.aload_n 0, 1) := by decide +kernel
theorem dX2_directionOf_39 : decode cX2_directionOf 39 = .ok (.getfield 21, 3) := by decide +kernel
theorem dX2_directionOf_42 : decode cX2_directionOf 42 = .ok (.aload_n 0, 1) := by decide +kernel
theorem dX2_directionOf_43 : decode cX2_directionOf 43 = .ok (.getfield 18, 3) := by decide +kernel
theorem dX2_directionOf_46 : decode cX2_directionOf 46 = .ok (.iconst 1, 1) := by decide +kernel
theorem dX2_directionOf_47 : decode cX2_directionOf 47 = .ok (.isub, 1) := by decide +kernel
theorem dX2_directionOf_48 : decode cX2_directionOf 48 = .ok (.iload_n 2, 1) := by decide +kernel
theorem dX2_directionOf_49 : decode cX2_directionOf 49 = .ok (.isub, 1) := by decide +kernel
theorem dX2_directionOf_50 : decode cX2_directionOf 50 = .ok (.iaload, 1) := by decide +kernel
theorem dX2_directionOf_51 : decode cX2_directionOf 51 = .ok (.goto 9, 3) := by decide +kernel
theorem dX2_directionOf_54 : decode cX2_directionOf 54 = .ok (.aload_n 0, 1) := by decide +kernel
theorem dX2_directionOf_55 : decode cX2_directionOf 55 = .ok (.getfield 21, 3) := by decide +kernel
theorem dX2_directionOf_58 : decode cX2_directionOf 58 = .ok (.iload_n 2, 1) := by decide +kernel
theorem dX2_directionOf_59 : decode cX2_directionOf 59 = .ok (.iaload, 1) := by decide +kernel
theorem dX2_directionOf_60 : decode cX2_directionOf 60 = .ok (.istore 4, 2) := by decide +kernel
theorem dX2_directionOf_62 : decode cX2_directionOf 62 = .ok (.iload_n 3, 1) := by decide +kernel
theorem dX2_directionOf_63 : decode cX2_directionOf 63 = .ok (.ifCond .ne 11, 3) := by decide +kernel
theorem dX2_directionOf_66 : decode cX2_directionOf 66 = .ok (.aload_n 0, 1) := by decide +kernel
theorem dX2_directionOf_67 : decode cX2_directionOf 67 = .ok (.getfield 9, 3) := by decide +kernel
theorem dX2_directionOf_70 : decode cX2_directionOf 70 = .ok (.iconst 3, 1) := by decide +kernel
theorem dX2_directionOf_71 : decode cX2_directionOf 71 = .ok (.if_icmp .ne 12, 3) := by decide +kernel
theorem dX2_directionOf_74 : decode cX2_directionOf 74 = .ok (.iload 4, 2) := by decide +kernel
theorem dX2_directionOf_76 : decode cX2_directionOf 76 = .ok (.iconst 2, 1) := by decide +kernel
theorem dX2_directionOf_77 : decode cX2_directionOf 77 = .ok (.iadd, 1) := by decide +kernel
theorem dX2_directionOf_78 : decode cX2_directionOf 78 = .ok (.iconst 4, 1) := by decide +kernel
theorem dX2_directionOf_79 : decode cX2_directionOf 79 = .ok (.irem, 1) := by decide +kernel
theorem dX2_directionOf_80 : decode cX2_directionOf 80 = .ok (.goto 5, 3) := by decide +kernel
theorem dX2_directionOf_83 : decode cX2_directionOf 83 = .ok (.iload 4, 2) := by decide +kernel
theorem dX2_directionOf_85 : decode cX2_directionOf 85 = .ok (.ireturn, 1) := by decide +kernel
theorem dX3_init_0 : decode cX3_init 0 = .ok (.aload_n 0, 1) := by decide +kernel
theorem dX3_init_1 : decode cX3_init 1 = .ok (.invokespecial 1, 3) := by decide +kernel
theorem dX3_init_4 : decode cX3_init 4 = .ok (.aload_n 0, 1) := by decide +kernel
theorem dX3_init_5 : decode cX3_init 5 = .ok (.new 7, 3) := by decide +kernel
theorem dX3_init_8 : decode cX3_init 8 = .ok (.dup, 1) := by decide +kernel
theorem dX3_init_9 : decode cX3_init 9 = .ok (.invokespecial 9, 3) := by decide +kernel
theorem dX3_init_12 : decode cX3_init 12 = .ok (.putfield 10, 3) := by decide +kernel
theorem dX3_init_15 : decode cX3_init 15 = .ok (.aload_n 0, 1) := by decide +kernel
theorem dX3_init_16 : decode cX3_init 16 = .ok (.new 16, 3) := by decide +kernel
theorem dX3_init_19 : decode cX3_init 19 = .ok (.dup, 1) := by decide +kernel
theorem dX3_init_20 : decode cX3_init 20 = .ok (.invokespecial 18, 3) := by decide +kernel
theorem dX3_init_23 : decode cX3_init 23 = .ok (.putfield 19, 3) := by decide +kernel
theorem dX3_init_26 : decode cX3_init 26 = .ok (.aload_n 0, 1) := by decide +kernel
theorem dX3_init_27 : decode cX3_init 27 = .ok (.new 16, 3) := by decide +kernel
theorem dX3_init_30 : decode cX3_init 30 = .ok (.dup, 1) := by decide +kernel
theorem dX3_init_31 : decode cX3_init 31 = .ok (.invokespecial 18, 3) := by decide +kernel
theorem dX3_init_34 : decode cX3_init 34 = .ok (.putfield 23, 3) := by decide +kernel
theorem dX3_init_37 : decode cX3_init 37 = .ok (.aload_n 0, 1) := by decide +kernel
theorem dX3_init_38 : decode cX3_init 38 = .ok (.bipush 6, 2) := by decide +kernel
theorem dX3_init_40 : decode cX3_init 40 = .ok (.newarray .int, 2) := by decide +kernel
theorem dX3_init_42 : decode cX3_init 42 = .ok (.putfield 26, 3) := by decide +kernel
theorem dX3_init_45 : decode cX3_init 45 = .ok (.aload_n 0, 1) := by decide +kernel
theorem dX3_init_46 : decode cX3_init 46 = .ok (.iconst 0, 1) := by decide +kernel
theorem dX3_init_47 : decode cX3_init 47 = .ok (.putfield 30, 3) := by decide +kernel
theorem dX3_init_50 : decode cX3_init 50 = .ok (.aload_n 0, 1) := by decide +kernel
theorem dX3_init_51 : decode cX3_init 51 = .ok (.iconst 0, 1) := by decide +kernel
theorem dX3_init_52 : decode cX3_init 52 = .ok (.putfield 34, 3) := by decide +kernel
theorem dX3_init_55 : decode cX3_init 55 = .ok (.return_, 1) := by decide +kernel
theorem dX3_letter_0 : decode cX3_letter 0 = .ok (.iload_n 1, 1) := by decide +kernel
theorem dX3_letter_1 : decode cX3_letter 1 = .ok (.iconst 1, 1) := by decide +kernel
theorem dX3_letter_2 : decode cX3_letter 2 = .ok (.if_icmp .lt 9, 3) := by decide +kernel
theorem dX3_letter_5 : decode cX3_letter 5 = .ok (.iload_n 1, 1) := by decide +kernel
theorem dX3_letter_6 : decode cX3_letter 6 = .ok (.bipush 126, 2) := by decide +kernel
theorem dX3_letter_8 : decode cX3_letter 8 = .ok (.if_icmp .le 6, 3) := by decide +kernel
theorem dX3_letter_11 : decode cX3_letter 11 = .ok (.bipush (-102), 2) := by decide +kernel
theorem dX3_letter_13 : decode cX3_letter 13 = .ok (.ireturn, 1) := by decide +kernel
theorem dX3_letter_14 : decode cX3_letter 14 = .ok (.aload_n 0, 1) := by decide +kernel
theorem dX3_letter_15 : decode cX3_letter 15 = .ok (.getfield 10, 3) := by decide +kernel
theorem dX3_letter_18 : decode cX3_letter 18 = .ok (.iload_n 1, 1) := by decide +kernel
theorem dX3_letter_19 : decode cX3_letter 19 = .ok (.i2c, 1) := by decide +kernel
theorem dX3_letter_20 : decode cX3_letter 20 = .ok (.invokevirtual 38, 3) := by decide +kernel
theorem dX3_letter_23 : decode cX3_letter 23 = .ok (.ifCond .eq 13, 3) := by decide +kernel
theorem dX3_letter_26 : decode cX3_letter 26 = .ok (.aload_n 0, 1) := by decide +kernel
theorem dX3_letter_27 : decode cX3_letter 27 = .ok (.getfield 10, 3) := by decide +kernel
theorem dX3_letter_30 : decode cX3_letter 30 = .ok (.getfield 42, 3) := by decide +kernel
theorem dX3_letter_33 : decode cX3_letter 33 = .ok (.goto 5, 3) := by decide +kernel
theorem dX3_letter_36 : decode cX3_letter 36 = .ok (.bipush (-104), 2) := by decide +kernel
theorem dX3_letter_38 : decode cX3_letter 38 = .ok (.ireturn, 1) := by decide +kernel
theorem dX3_blank_0 : decode cX3_blank 0 = .ok (.aload_n 0, 1) := by decide +kernel
theorem dX3_blank_1 : decode cX3_blank 1 = .ok (.getfield 10, 3) := by decide +kernel
theorem dX3_blank_4 : decode cX3_blank 4 = .ok (.getfield 42, 3) := by decide +kernel
theorem dX3_blank_7 : decode cX3_blank 7 = .ok (.istore_n 1, 1) := by decide +kernel
theorem dX3_blank_8 : decode cX3_blank 8 = .ok (.aload_n 0, 1) := by decide +kernel
theorem dX3_blank_9 : decode cX3_blank 9 = .ok (.getfield 10, 3) := by decide +kernel
theorem dX3_blank_12 : decode cX3_blank 12 = .ok (.iconst 0, 1) := by decide +kernel
theorem dX3_blank_13 : decode cX3_blank 13 = .ok (.putfield 42, 3) := by decide +kernel
theorem dX3_blank_16 : decode cX3_blank 16 = .ok (.iload_n 1, 1) := by decide +kernel
theorem dX3_blank_17 : decode cX3_blank 17 = .ok (.ireturn, 1) := by decide +kernel
theorem dX3_fault_0 : decode cX3_fault 0 = .ok (.aload_n 0, 1) := by decide +kernel
theorem dX3_fault_1 : decode cX3_fault 1 = .ok (.getfield 10, 3) := by decide +kernel
theorem dX3_fault_4 : decode cX3_fault 4 = .ok (.invokevirtual 45, 3) := by decide +kernel
theorem dX3_fault_7 : decode cX3_fault 7 = .ok (.ireturn, 1) := by decide +kernel
theorem dX3_hills_0 : decode cX3_hills 0 = .ok (.aload_n 0, 1) := by decide +kernel
theorem dX3_hills_1 : decode cX3_hills 1 = .ok (.getfield 10, 3) := by decide +kernel
theorem dX3_hills_4 : decode cX3_hills 4 = .ok (.invokevirtual 49, 3) := by decide +kernel
theorem dX3_hills_7 : decode cX3_hills 7 = .ok (.ifCond .ne 6, 3) := by decide +kernel
theorem dX3_hills_10 : decode cX3_hills 10 = .ok (.bipush (-103), 2) := by decide +kernel
theorem dX3_hills_12 : decode cX3_hills 12 = .ok (.ireturn, 1) := by decide +kernel
theorem dX3_hills_13 : decode cX3_hills 13 = .ok (.aload_n 0, 1) := by decide +kernel
theorem dX3_hills_14 : decode cX3_hills 14 = .ok (.getfield 10, 3) := by decide +kernel
theorem dX3_hills_17 : decode cX3_hills 17 = .ok (.aload_n 0, 1) := by decide +kernel
theorem dX3_hills_18 : decode cX3_hills 18 = .ok (.getfield 19, 3) := by decide +kernel
theorem dX3_hills_21 : decode cX3_hills 21 = .ok (.invokevirtual 53, 3) := by decide +kernel
theorem dX3_hills_24 : decode cX3_hills 24 = .ok (.aload_n 0, 1) := by decide +kernel
theorem dX3_hills_25 : decode cX3_hills 25 = .ok (.getfield 10, 3) := by decide +kernel
theorem dX3_hills_28 : decode cX3_hills 28 = .ok (.iconst 0, 1) := by decide +kernel
theorem dX3_hills_29 : decode cX3_hills 29 = .ok (.putfield 42, 3) := by decide +kernel
theorem dX3_hills_32 : decode cX3_hills 32 = .ok (.aload_n 0, 1) := by decide +kernel
theorem dX3_hills_33 : decode cX3_hills 33 = .ok (.iconst 0, 1) := by decide +kernel
theorem dX3_hills_34 : decode cX3_hills 34 = .ok (.putfield 30, 3) := by decide +kernel
theorem dX3_hills_37 : decode cX3_hills 37 = .ok (.aload_n 0, 1) := by decide +kernel
theorem dX3_hills_38 : decode cX3_hills 38 = .ok (.dup, 1) := by decide +kernel
theorem dX3_hills_39 : decode cX3_hills 39 = .ok (.getfield 34, 3) := by decide +kernel
theorem dX3_hills_42 : decode cX3_hills 42 = .ok (.iconst 1, 1) := by decide +kernel
theorem dX3_hills_43 : decode cX3_hills 43 = .ok (.iadd, 1) := by decide +kernel
theorem dX3_hills_44 : decode cX3_hills 44 = .ok (.putfield 34, 3) := by decide +kernel
theorem dX3_hills_47 : decode cX3_hills 47 = .ok (.aload_n 0, 1) := by decide +kernel
theorem dX3_hills_48 : decode cX3_hills 48 = .ok (.getfield 19, 3) := by decide +kernel
theorem dX3_hills_51 : decode cX3_hills 51 = .ok (.getfield 57, 3) := by decide +kernel
theorem dX3_hills_54 : decode cX3_hills 54 = .ok (.ireturn, 1) := by decide +kernel
theorem dX3_stick_0 : decode cX3_stick 0 = .ok (.aload_n 0, 1) := by decide +kernel
theorem dX3_stick_1 : decode cX3_stick 1 = .ok (.getfield 19, 3) := by decide +kernel
theorem dX3_stick_4 : decode cX3_stick 4 = .ok (.iload_n 1, 1) := by decide +kernel
theorem dX3_stick_5 : decode cX3_stick 5 = .ok (.invokevirtual 60, 3) := by decide +kernel
theorem dX3_stick_8 : decode cX3_stick 8 = .ok (.ifCond .ne 6, 3) := by decide +kernel
theorem dX3_stick_11 : decode cX3_stick 11 = .ok (.bipush (-101), 2) := by decide +kernel
theorem dX3_stick_13 : decode cX3_stick 13 = .ok (.ireturn, 1) := by decide +kernel
theorem dX3_stick_14 : decode cX3_stick 14 = .ok (.aload_n 0, 1) := by decide +kernel
theorem dX3_stick_15 : decode cX3_stick 15 = .ok (.getfield 19, 3) := by decide +kernel
theorem dX3_stick_18 : decode cX3_stick 18 = .ok (.getfield 64, 3) := by decide +kernel
theorem dX3_stick_21 : decode cX3_stick 21 = .ok (.iload_n 1, 1) := by decide +kernel
theorem dX3_stick_22 : decode cX3_stick 22 = .ok (.aaload, 1) := by decide +kernel
theorem dX3_stick_23 : decode cX3_stick 23 = .ok (.astore_n 3, 1) := by decide +kernel
theorem dX3_stick_24 : decode cX3_stick 24 = .ok (.iload_n 2, 1) := by decide +kernel
theorem dX3_stick_25 : decode cX3_stick 25 = .ok (.bipush 10, 2) := by decide +kernel
theorem dX3_stick_27 : decode cX3_stick 27 = .ok (.if_icmp .lt 18, 3) := by decide +kernel
theorem dX3_stick_30 : decode cX3_stick 30 = .ok (.iload_n 2, 1) := by decide +kernel
theorem dX3_stick_31 : decode cX3_stick 31 = .ok (.bipush 15, 2) := by decide +kernel
theorem dX3_stick_33 : decode cX3_stick 33 = .ok (.if_icmp .ge 12, 3) := by decide +kernel
theorem dX3_stick_36 : decode cX3_stick 36 = .ok (.aload_n 3, 1) := by decide +kernel
theorem dX3_stick_37 : decode cX3_stick 37 = .ok (.iload_n 2, 1) := by decide +kernel
theorem dX3_stick_38 : decode cX3_stick 38 = .ok (.bipush 10, 2) := by decide +kernel
theorem dX3_stick_40 : decode cX3_stick 40 = .ok (.isub, 1) := by decide +kernel
theorem dX3_stick_41 : decode cX3_stick 41 = .ok (.invokevirtual 68, 3) := by decide +kernel
theorem dX3_stick_44 : decode cX3_stick 44 = .ok (.ireturn, 1) := by decide +kernel
theorem dX3_stick_45 : decode cX3_stick 45 = .ok (.iload_n 2, 1) := by decide +kernel
theorem dX3_stick_46 : decode cX3_stick 46 = .ok (.tableswitch 98 0 6 #[42, 47, 52, 57, 67, 82, 90], 42) := by decide +kernel
theorem dX3_stick_88 : decode cX3_stick 88 = .ok (.aload_n 3, 1) := by decide +kernel
theorem dX3_stick_89 : decode cX3_stick 89 = .ok (.getfield 74, 3) := by decide +kernel
theorem dX3_stick_92 : decode cX3_stick 92 = .ok (.ireturn, 1) := by decide +kernel
theorem dX3_stick_93 : decode cX3_stick 93 = .ok (.aload_n 3, 1) := by decide +kernel
theorem dX3_stick_94 : decode cX3_stick 94 = .ok (.getfield 77, 3) := by decide +kernel
theorem dX3_stick_97 : decode cX3_stick 97 = .ok (.ireturn, 1) := by decide +kernel
theorem dX3_stick_98 : decode cX3_stick 98 = .ok (.aload_n 3, 1) := by decide +kernel
theorem dX3_stick_99 : decode cX3_stick 99 = .ok (.getfield 80, 3) := by decide +kernel
theorem dX3_stick_102 : decode cX3_stick 102 = .ok (.ireturn, 1) := by decide +kernel
theorem dX3_stick_103 : decode cX3_stick 103 = .ok (.aload_n 0, 1) := by decide +kernel
theorem dX3_stick_104 : decode cX3_stick 104 = .ok (.getfield 19, 3) := by decide +kernel
theorem dX3_stick_107 : decode cX3_stick 107 = .ok (.getfield 83, 3) := by decide +kernel
theorem dX3_stick_110 : decode cX3_stick 110 = .ok (.iload_n 1, 1) := by decide +kernel
theorem dX3_stick_111 : decode cX3_stick 111 = .ok (.iaload, 1) := by decide +kernel
theorem dX3_stick_112 : decode cX3_stick 112 = .ok (.ireturn, 1) := by decide +kernel
theorem dX3_stick_113 : decode cX3_stick 113 = .ok (.aload_n 0, 1) := by decide +kernel
theorem dX3_stick_114 : decode cX3_stick 114 = .ok (.getfield 19, 3) := by decide +kernel
theorem dX3_stick_117 : decode cX3_stick 117 = .ok (.getfield 83, 3) := by decide +kernel
theorem dX3_stick_120 : decode cX3_stick 120 = .ok (.iload_n 1, 1) := by decide +kernel
theorem dX3_stick_121 : decode cX3_stick 121 = .ok (.iaload, 1) := by decide +kernel
theorem dX3_stick_122 : decode cX3_stick 122 = .ok (.aload_n 3, 1) := by decide +kernel
theorem dX3_stick_123 : decode cX3_stick 123 = .ok (.invokevirtual 86, 3) := by decide +kernel
theorem dX3_stick_126 : decode cX3_stick 126 = .ok (.iadd, 1) := by decide +kernel
theorem dX3_stick_127 : decode cX3_stick 127 = .ok (.ireturn, 1) := by decide +kernel
theorem dX3_stick_128 : decode cX3_stick 128 = .ok (.aload_n 3, 1) := by decide +kernel
theorem dX3_stick_129 : decode cX3_stick 129 = .ok (.getfield 89, 3) := by decide +kernel
theorem dX3_stick_132 : decode cX3_stick 132 = .ok (.bipush 30, 2) := by decide +kernel
theorem dX3_stick_134 : decode cX3_stick 134 = .ok (.iaload, 1) := by decide +kernel
theorem dX3_stick_135 : decode cX3_stick 135 = .ok (.ireturn, 1) := by decide +kernel
theorem dX3_stick_136 : decode cX3_stick 136 = .ok (.aload_n 3, 1) := by decide +kernel
theorem dX3_stick_137 : decode cX3_stick 137 = .ok (.getfield 92, 3) := by decide +kernel
theorem dX3_stick_140 : decode cX3_stick 140 = .ok (.invokestatic 95, 3) := by decide +kernel
theorem dX3_stick_143 : decode cX3_stick 143 = .ok (.ireturn, 1) := by decide +kernel
theorem dX3_stick_144 : decode cX3_stick 144 = .ok (.bipush (-102), 2) := by decide +kernel
theorem dX3_stick_146 : decode cX3_stick 146 = .ok (.ireturn, 1) := by decide +kernel
theorem dX3_as_0 : decode cX3_as 0 = .ok (.aload_n 0, 1) := by decide +kernel
theorem dX3_as_1 : decode cX3_as 1 = .ok (.getfield 19, 3) := by decide +kernel
theorem dX3_as_4 : decode cX3_as 4 = .ok (.iload_n 1, 1) := by decide +kernel
theorem dX3_as_5 : decode cX3_as 5 = .ok (.invokevirtual 60, 3) := by decide +kernel
theorem dX3_as_8 : decode cX3_as 8 = .ok (.ifCond .ne 6, 3) := by decide +kernel
theorem dX3_as_11 : decode cX3_as 11 = .ok (.bipush (-101), 2) := by decide +kernel
theorem dX3_as_13 : decode cX3_as 13 = .ok (.ireturn, 1) := by decide +kernel
theorem dX3_as_14 : decode cX3_as 14 = .ok (.iload_n 2, 1) := by decide +kernel
theorem dX3_as_15 : decode cX3_as 15 = .ok (.ifCond .lt 12, 3) := by decide +kernel
theorem dX3_as_18 : decode cX3_as 18 = .ok (.iload_n 2, 1) := by decide +kernel
theorem dX3_as_19 : decode cX3_as 19 = .ok (.ldc 100, 2) := by decide +kernel
theorem dX3_as_21 : decode cX3_as 21 = .ok (.invokevirtual 102, 3) := by decide +kernel
theorem dX3_as_24 : decode cX3_as 24 = .ok (.if_icmp .lt 6, 3) := by decide +kernel
theorem dX3_as_27 : decode cX3_as 27 = .ok (.bipush (-102), 2) := by decide +kernel
theorem dX3_as_29 : decode cX3_as 29 = .ok (.ireturn, 1) := by decide +kernel
theorem dX3_as_30 : decode cX3_as 30 = .ok (.aload_n 0, 1) := by decide +kernel
theorem dX3_as_31 : decode cX3_as 31 = .ok (.getfield 19, 3) := by decide +kernel
theorem dX3_as_34 : decode cX3_as 34 = .ok (.getfield 64, 3) := by decide +kernel
theorem dX3_as_37 : decode cX3_as 37 = .ok (.iload_n 1, 1) := by decide +kernel
theorem dX3_as_38 : decode cX3_as 38 = .ok (.aaload, 1) := by decide +kernel
theorem dX3_as_39 : decode cX3_as 39 = .ok (.iload_n 2, 1) := by decide +kernel
theorem dX3_as_40 : decode cX3_as 40 = .ok (.invokevirtual 106, 3) := by decide +kernel
theorem dX3_as_43 : decode cX3_as 43 = .ok (.ifCond .eq 7, 3) := by decide +kernel
theorem dX3_as_46 : decode cX3_as 46 = .ok (.iload_n 1, 1) := by decide +kernel
theorem dX3_as_47 : decode cX3_as 47 = .ok (.goto 4, 3) := by decide +kernel
theorem dX3_as_50 : decode cX3_as 50 = .ok (.iconst (-1), 1) := by decide +kernel
theorem dX3_as_51 : decode cX3_as 51 = .ok (.ireturn, 1) := by decide +kernel
theorem dX3_at_0 : decode cX3_at 0 = .ok (.aload_n 0, 1) := by decide +kernel
theorem dX3_at_1 : decode cX3_at 1 = .ok (.getfield 19, 3) := by decide +kernel
theorem dX3_at_4 : decode cX3_at 4 = .ok (.iload_n 1, 1) := by decide +kernel
theorem dX3_at_5 : decode cX3_at 5 = .ok (.invokevirtual 60, 3) := by decide +kernel
theorem dX3_at_8 : decode cX3_at 8 = .ok (.ifCond .ne 6, 3) := by decide +kernel
theorem dX3_at_11 : decode cX3_at 11 = .ok (.bipush (-101), 2) := by decide +kernel
theorem dX3_at_13 : decode cX3_at 13 = .ok (.ireturn, 1) := by decide +kernel
theorem dX3_at_14 : decode cX3_at 14 = .ok (.iload_n 2, 1) := by decide +kernel
theorem dX3_at_15 : decode cX3_at 15 = .ok (.invokestatic 109, 3) := by decide +kernel
theorem dX3_at_18 : decode cX3_at 18 = .ok (.ifCond .eq 15, 3) := by decide +kernel
theorem dX3_at_21 : decode cX3_at 21 = .ok (.aload_n 0, 1) := by decide +kernel
theorem dX3_at_22 : decode cX3_at 22 = .ok (.getfield 19, 3) := by decide +kernel
theorem dX3_at_25 : decode cX3_at 25 = .ok (.iload_n 1, 1) := by decide +kernel
theorem dX3_at_26 : decode cX3_at 26 = .ok (.iload_n 2, 1) := by decide +kernel
theorem dX3_at_27 : decode cX3_at 27 = .ok (.invokevirtual 112, 3) := by decide +kernel
theorem dX3_at_30 : decode cX3_at 30 = .ok (.goto 5, 3) := by decide +kernel
theorem dX3_at_33 : decode cX3_at 33 = .ok (.bipush (-102), 2) := by decide +kernel
theorem dX3_at_35 : decode cX3_at 35 = .ok (.ireturn, 1) := by decide +kernel
theorem dX3_meet_0 : decode cX3_meet 0 = .ok (.aload_n 0, 1) := by decide +kernel
theorem dX3_meet_1 : decode cX3_meet 1 = .ok (.getfield 19, 3) := by decide +kernel
theorem dX3_meet_4 : decode cX3_meet 4 = .ok (.iload_n 1, 1) := by decide +kernel
theorem dX3_meet_5 : decode cX3_meet 5 = .ok (.iload_n 2, 1) := by decide +kernel
theorem dX3_meet_6 : decode cX3_meet 6 = .ok (.invokevirtual 116, 3) := by decide +kernel
theorem dX3_meet_9 : decode cX3_meet 9 = .ok (.ifCond .ne 6, 3) := by decide +kernel
theorem dX3_meet_12 : decode cX3_meet 12 = .ok (.bipush (-101), 2) := by decide +kernel
theorem dX3_meet_14 : decode cX3_meet 14 = .ok (.ireturn, 1) := by decide +kernel
theorem dX3_meet_15 : decode cX3_meet 15 = .ok (.aload_n 0, 1) := by decide +kernel
theorem dX3_meet_16 : decode cX3_meet 16 = .ok (.getfield 19, 3) := by decide +kernel
theorem dX3_meet_19 : decode cX3_meet 19 = .ok (.iload_n 1, 1) := by decide +kernel
theorem dX3_meet_20 : decode cX3_meet 20 = .ok (.aload_n 0, 1) := by decide +kernel
theorem dX3_meet_21 : decode cX3_meet 21 = .ok (.getfield 19, 3) := by decide +kernel
theorem dX3_meet_24 : decode cX3_meet 24 = .ok (.getfield 83, 3) := by decide +kernel
theorem dX3_meet_27 : decode cX3_meet 27 = .ok (.iload_n 1, 1) := by decide +kernel
theorem dX3_meet_28 : decode cX3_meet 28 = .ok (.iaload, 1) := by decide +kernel
theorem dX3_meet_29 : decode cX3_meet 29 = .ok (.iload_n 2, 1) := by decide +kernel
theorem dX3_meet_30 : decode cX3_meet 30 = .ok (.aload_n 0, 1) := by decide +kernel
theorem dX3_meet_31 : decode cX3_meet 31 = .ok (.getfield 19, 3) := by decide +kernel
theorem dX3_meet_34 : decode cX3_meet 34 = .ok (.getfield 83, 3) := by decide +kernel
theorem dX3_meet_37 : decode cX3_meet 37 = .ok (.iload_n 2, 1) := by decide +kernel
theorem dX3_meet_38 : decode cX3_meet 38 = .ok (.iaload, 1) := by decide +kernel
theorem dX3_meet_39 : decode cX3_meet 39 = .ok (.invokevirtual 120, 3) := by decide +kernel
theorem dX3_meet_42 : decode cX3_meet 42 = .ok (.ireturn, 1) := by decide +kernel
theorem dX3_late_0 : decode cX3_late 0 = .ok (.aload_n 0, 1) := by decide +kernel
theorem dX3_late_1 : decode cX3_late 1 = .ok (.getfield 19, 3) := by decide +kernel
theorem dX3_late_4 : decode cX3_late 4 = .ok (.iload_n 1, 1) := by decide +kernel
theorem dX3_late_5 : decode cX3_late 5 = .ok (.invokevirtual 60, 3) := by decide +kernel
theorem dX3_late_8 : decode cX3_late 8 = .ok (.ifCond .ne 6, 3) := by decide +kernel
theorem dX3_late_11 : decode cX3_late 11 = .ok (.bipush (-101), 2) := by decide +kernel
theorem dX3_late_13 : decode cX3_late 13 = .ok (.ireturn, 1) := by decide +kernel
theorem dX3_late_14 : decode cX3_late 14 = .ok (.iload_n 2, 1) := by decide +kernel
theorem dX3_late_15 : decode cX3_late 15 = .ok (.ifCond .lt 9, 3) := by decide +kernel
theorem dX3_late_18 : decode cX3_late 18 = .ok (.iload_n 2, 1) := by decide +kernel
theorem dX3_late_19 : decode cX3_late 19 = .ok (.bipush 9, 2) := by decide +kernel
theorem dX3_late_21 : decode cX3_late 21 = .ok (.if_icmp .le 6, 3) := by decide +kernel
theorem dX3_late_24 : decode cX3_late 24 = .ok (.bipush (-102), 2) := by decide +kernel
theorem dX3_late_26 : decode cX3_late 26 = .ok (.ireturn, 1) := by decide +kernel
theorem dX3_late_27 : decode cX3_late 27 = .ok (.aload_n 0, 1) := by decide +kernel
theorem dX3_late_28 : decode cX3_late 28 = .ok (.getfield 19, 3) := by decide +kernel
theorem dX3_late_31 : decode cX3_late 31 = .ok (.getfield 83, 3) := by decide +kernel
theorem dX3_late_34 : decode cX3_late 34 = .ok (.iload_n 1, 1) := by decide +kernel
theorem dX3_late_35 : decode cX3_late 35 = .ok (.iaload, 1) := by decide +kernel
theorem dX3_late_36 : decode cX3_late 36 = .ok (.istore_n 3, 1) := by decide +kernel
theorem dX3_late_37 : decode cX3_late 37 = .ok (.aload_n 0, 1) := by decide +kernel
theorem dX3_late_38 : decode cX3_late 38 = .ok (.getfield 19, 3) := by decide +kernel
theorem dX3_late_41 : decode cX3_late 41 = .ok (.getfield 83, 3) := by decide +kernel
theorem dX3_late_44 : decode cX3_late 44 = .ok (.iload_n 1, 1) := by decide +kernel
theorem dX3_late_45 : decode cX3_late 45 = .ok (.iload_n 2, 1) := by decide +kernel
theorem dX3_late_46 : decode cX3_late 46 = .ok (.iastore, 1) := by decide +kernel
theorem dX3_late_47 : decode cX3_late 47 = .ok (.aload_n 0, 1) := by decide +kernel
theorem dX3_late_48 : decode cX3_late 48 = .ok (.getfield 19, 3) := by decide +kernel
theorem dX3_late_51 : decode cX3_late 51 = .ok (.dup, 1) := by decide +kernel
theorem dX3_late_52 : decode cX3_late 52 = .ok (.getfield 124, 3) := by decide +kernel
theorem dX3_late_55 : decode cX3_late 55 = .ok (.iconst 1, 1) := by decide +kernel
theorem dX3_late_56 : decode cX3_late 56 = .ok (.iadd, 1) := by decide +kernel
theorem dX3_late_57 : decode cX3_late 57 = .ok (.putfield 124, 3) := by decide +kernel
theorem dX3_late_60 : decode cX3_late 60 = .ok (.iload_n 3, 1) := by decide +kernel
theorem dX3_late_61 : decode cX3_late 61 = .ok (.ireturn, 1) := by decide +kernel
theorem dX3_cut_0 : decode cX3_cut 0 = .ok (.aload_n 0, 1) := by decide +kernel
theorem dX3_cut_1 : decode cX3_cut 1 = .ok (.getfield 19, 3) := by decide +kernel
theorem dX3_cut_4 : decode cX3_cut 4 = .ok (.iload_n 1, 1) := by decide +kernel
theorem dX3_cut_5 : decode cX3_cut 5 = .ok (.invokevirtual 60, 3) := by decide +kernel
theorem dX3_cut_8 : decode cX3_cut 8 = .ok (.ifCond .ne 6, 3) := by decide +kernel
theorem dX3_cut_11 : decode cX3_cut 11 = .ok (.bipush (-101), 2) := by decide +kernel
theorem dX3_cut_13 : decode cX3_cut 13 = .ok (.ireturn, 1) := by decide +kernel
theorem dX3_cut_14 : decode cX3_cut 14 = .ok (.aload_n 0, 1) := by decide +kernel
theorem dX3_cut_15 : decode cX3_cut 15 = .ok (.getfield 19, 3) := by decide +kernel
theorem dX3_cut_18 : decode cX3_cut 18 = .ok (.getfield 64, 3) := by decide +kernel
theorem dX3_cut_21 : decode cX3_cut 21 = .ok (.iload_n 1, 1) := by decide +kernel
theorem dX3_cut_22 : decode cX3_cut 22 = .ok (.aaload, 1) := by decide +kernel
theorem dX3_cut_23 : decode cX3_cut 23 = .ok (.getfield 80, 3) := by decide +kernel
theorem dX3_cut_26 : decode cX3_cut 26 = .ok (.istore_n 3, 1) := by decide +kernel
theorem dX3_cut_27 : decode cX3_cut 27 = .ok (.iload_n 2, 1) := by decide +kernel
theorem dX3_cut_28 : decode cX3_cut 28 = .ok (.iconst 1, 1) := by decide +kernel
theorem dX3_cut_29 : decode cX3_cut 29 = .ok (.if_icmp .lt 8, 3) := by decide +kernel
theorem dX3_cut_32 : decode cX3_cut 32 = .ok (.iload_n 2, 1) := by decide +kernel
theorem dX3_cut_33 : decode cX3_cut 33 = .ok (.iload_n 3, 1) := by decide +kernel
theorem dX3_cut_34 : decode cX3_cut 34 = .ok (.if_icmp .le 6, 3) := by decide +kernel
theorem dX3_cut_37 : decode cX3_cut 37 = .ok (.bipush (-102), 2) := by decide +kernel
theorem dX3_cut_39 : decode cX3_cut 39 = .ok (.ireturn, 1) := by decide +kernel
theorem dX3_cut_40 : decode cX3_cut 40 = .ok (.aload_n 0, 1) := by decide +kernel
theorem dX3_cut_41 : decode cX3_cut 41 = .ok (.getfield 19, 3) := by decide +kernel
theorem dX3_cut_44 : decode cX3_cut 44 = .ok (.getfield 64, 3) := by decide +kernel
theorem dX3_cut_47 : decode cX3_cut 47 = .ok (.iload_n 1, 1) := by decide +kernel
theorem dX3_cut_48 : decode cX3_cut 48 = .ok (.aaload, 1) := by decide +kernel
theorem dX3_cut_49 : decode cX3_cut 49 = .ok (.iload_n 2, 1) := by decide +kernel
theorem dX3_cut_50 : decode cX3_cut 50 = .ok (.invokevirtual 127, 3) := by decide +kernel
theorem dX3_cut_53 : decode cX3_cut 53 = .ok (.aload_n 0, 1) := by decide +kernel
theorem dX3_cut_54 : decode cX3_cut 54 = .ok (.getfield 19, 3) := by decide +kernel
theorem dX3_cut_57 : decode cX3_cut 57 = .ok (.dup, 1) := by decide +kernel
theorem dX3_cut_58 : decode cX3_cut 58 = .ok (.getfield 124, 3) := by decide +kernel
theorem dX3_cut_61 : decode cX3_cut 61 = .ok (.iconst 1, 1) := by decide +kernel
theorem dX3_cut_62 : decode cX3_cut 62 = .ok (.iadd, 1) := by decide +kernel
theorem dX3_cut_63 : decode cX3_cut 63 = .ok (.putfield 124, 3) := by decide +kernel
theorem dX3_cut_66 : decode cX3_cut 66 = .ok (.iload_n 3, 1) := by decide +kernel
theorem dX3_cut_67 : decode cX3_cut 67 = .ok (.ireturn, 1) := by decide +kernel
theorem dX3_saw_0 : decode cX3_saw 0 = .ok (.aload_n 0, 1) := by decide +kernel
theorem dX3_saw_1 : decode cX3_saw 1 = .ok (.getfield 19, 3) := by decide +kernel
theorem dX3_saw_4 : decode cX3_saw 4 = .ok (.iload_n 1, 1) := by decide +kernel
theorem dX3_saw_5 : decode cX3_saw 5 = .ok (.invokevirtual 60, 3) := by decide +kernel
theorem dX3_saw_8 : decode cX3_saw 8 = .ok (.ifCond .ne 6, 3) := by decide +kernel
theorem dX3_saw_11 : decode cX3_saw 11 = .ok (.bipush (-101), 2) := by decide +kernel
theorem dX3_saw_13 : decode cX3_saw 13 = .ok (.ireturn, 1) := by decide +kernel
theorem dX3_saw_14 : decode cX3_saw 14 = .ok (.iload_n 2, 1) := by decide +kernel
theorem dX3_saw_15 : decode cX3_saw 15 = .ok (.iconst 1, 1) := by decide +kernel
theorem dX3_saw_16 : decode cX3_saw 16 = .ok (.if_icmp .lt 19, 3) := by decide +kernel
theorem dX3_saw_19 : decode cX3_saw 19 = .ok (.iload_n 2, 1) := by decide +kernel
theorem dX3_saw_20 : decode cX3_saw 20 = .ok (.aload_n 0, 1) := by decide +kernel
theorem dX3_saw_21 : decode cX3_saw 21 = .ok (.getfield 19, 3) := by decide +kernel
theorem dX3_saw_24 : decode cX3_saw 24 = .ok (.getfield 64, 3) := by decide +kernel
theorem dX3_saw_27 : decode cX3_saw 27 = .ok (.iload_n 1, 1) := by decide +kernel
theorem dX3_saw_28 : decode cX3_saw 28 = .ok (.aaload, 1) := by decide +kernel
theorem dX3_saw_29 : decode cX3_saw 29 = .ok (.getfield 80, 3) := by decide +kernel
theorem dX3_saw_32 : decode cX3_saw 32 = .ok (.if_icmp .lt 6, 3) := by decide +kernel
theorem dX3_saw_35 : decode cX3_saw 35 = .ok (.bipush (-102), 2) := by decide +kernel
theorem dX3_saw_37 : decode cX3_saw 37 = .ok (.ireturn, 1) := by decide +kernel
theorem dX3_saw_38 : decode cX3_saw 38 = .ok (.aload_n 0, 1) := by decide +kernel
theorem dX3_saw_39 : decode cX3_saw 39 = .ok (.getfield 19, 3) := by decide +kernel
theorem dX3_saw_42 : decode cX3_saw 42 = .ok (.getfield 57, 3) := by decide +kernel
theorem dX3_saw_45 : decode cX3_saw 45 = .ok (.bipush 6, 2) := by decide +kernel
theorem dX3_saw_47 : decode cX3_saw 47 = .ok (.if_icmp .lt 6, 3) := by decide +kernel
theorem dX3_saw_50 : decode cX3_saw 50 = .ok (.bipush (-104), 2) := by decide +kernel
theorem dX3_saw_52 : decode cX3_saw 52 = .ok (.ireturn, 1) := by decide +kernel
theorem dX3_saw_53 : decode cX3_saw 53 = .ok (.aload_n 0, 1) := by decide +kernel
theorem dX3_saw_54 : decode cX3_saw 54 = .ok (.getfield 19, 3) := by decide +kernel
theorem dX3_saw_57 : decode cX3_saw 57 = .ok (.iload_n 1, 1) := by decide +kernel
theorem dX3_saw_58 : decode cX3_saw 58 = .ok (.iload_n 2, 1) := by decide +kernel
theorem dX3_saw_59 : decode cX3_saw 59 = .ok (.invokevirtual 131, 3) := by decide +kernel
theorem dX3_saw_62 : decode cX3_saw 62 = .ok (.aload_n 0, 1) := by decide +kernel
theorem dX3_saw_63 : decode cX3_saw 63 = .ok (.getfield 19, 3) := by decide +kernel
theorem dX3_saw_66 : decode cX3_saw 66 = .ok (.dup, 1) := by decide +kernel
theorem dX3_saw_67 : decode cX3_saw 67 = .ok (.getfield 124, 3) := by decide +kernel
theorem dX3_saw_70 : decode cX3_saw 70 = .ok (.iconst 1, 1) := by decide +kernel
theorem dX3_saw_71 : decode cX3_saw 71 = .ok (.iadd, 1) := by decide +kernel
theorem dX3_saw_72 : decode cX3_saw 72 = .ok (.putfield 124, 3) := by decide +kernel
theorem dX3_saw_75 : decode cX3_saw 75 = .ok (.aload_n 0, 1) := by decide +kernel
theorem dX3_saw_76 : decode cX3_saw 76 = .ok (.getfield 19, 3) := by decide +kernel
theorem dX3_saw_79 : decode cX3_saw 79 = .ok (.getfield 57, 3) := by decide +kernel
theorem dX3_saw_82 : decode cX3_saw 82 = .ok (.iconst 1, 1) := by decide +kernel
theorem dX3_saw_83 : decode cX3_saw 83 = .ok (.isub, 1) := by decide +kernel
theorem dX3_saw_84 : decode cX3_saw 84 = .ok (.ireturn, 1) := by decide +kernel
theorem dX3_later_0 : decode cX3_later 0 = .ok (.aload_n 0, 1) := by decide +kernel
theorem dX3_later_1 : decode cX3_later 1 = .ok (.getfield 19, 3) := by decide +kernel
theorem dX3_later_4 : decode cX3_later 4 = .ok (.iload_n 1, 1) := by decide +kernel
theorem dX3_later_5 : decode cX3_later 5 = .ok (.iload_n 2, 1) := by decide +kernel
theorem dX3_later_6 : decode cX3_later 6 = .ok (.invokevirtual 116, 3) := by decide +kernel
theorem dX3_later_9 : decode cX3_later 9 = .ok (.ifCond .ne 6, 3) := by decide +kernel
theorem dX3_later_12 : decode cX3_later 12 = .ok (.bipush (-101), 2) := by decide +kernel
theorem dX3_later_14 : decode cX3_later 14 = .ok (.ireturn, 1) := by decide +kernel
theorem dX3_later_15 : decode cX3_later 15 = .ok (.iconst 0, 1) := by decide +kernel
theorem dX3_later_16 : decode cX3_later 16 = .ok (.istore_n 3, 1) := by decide +kernel
theorem dX3_later_17 : decode cX3_later 17 = .ok (.iload_n 3, 1) := by decide +kernel
theorem dX3_later_18 : decode cX3_later 18 = .ok (.bipush 9, 2) := by decide +kernel
theorem dX3_later_20 : decode cX3_later 20 = .ok (.if_icmp .gt 33, 3) := by decide +kernel
theorem dX3_later_23 : decode cX3_later 23 = .ok (.aload_n 0, 1) := by decide +kernel
theorem dX3_later_24 : decode cX3_later 24 = .ok (.getfield 19, 3) := by decide +kernel
theorem dX3_later_27 : decode cX3_later 27 = .ok (.iload_n 1, 1) := by decide +kernel
theorem dX3_later_28 : decode cX3_later 28 = .ok (.aload_n 0, 1) := by decide +kernel
theorem dX3_later_29 : decode cX3_later 29 = .ok (.getfield 19, 3) := by decide +kernel
theorem dX3_later_32 : decode cX3_later 32 = .ok (.getfield 83, 3) := by decide +kernel
theorem dX3_later_35 : decode cX3_later 35 = .ok (.iload_n 1, 1) := by decide +kernel
theorem dX3_later_36 : decode cX3_later 36 = .ok (.iaload, 1) := by decide +kernel
theorem dX3_later_37 : decode cX3_later 37 = .ok (.iload_n 2, 1) := by decide +kernel
theorem dX3_later_38 : decode cX3_later 38 = .ok (.iload_n 3, 1) := by decide +kernel
theorem dX3_later_39 : decode cX3_later 39 = .ok (.invokevirtual 120, 3) := by decide +kernel
theorem dX3_later_42 : decode cX3_later 42 = .ok (.ifCond .le 5, 3) := by decide +kernel
theorem dX3_later_45 : decode cX3_later 45 = .ok (.iload_n 3, 1) := by decide +kernel
theorem dX3_later_46 : decode cX3_later 46 = .ok (.ireturn, 1) := by decide +kernel
theorem dX3_later_47 : decode cX3_later 47 = .ok (.iinc 3 1, 3) := by decide +kernel
theorem dX3_later_50 : decode cX3_later 50 = .ok (.goto (-33), 3) := by decide +kernel
theorem dX3_later_53 : decode cX3_later 53 = .ok (.iconst (-1), 1) := by decide +kernel
theorem dX3_later_54 : decode cX3_later 54 = .ok (.ireturn, 1) := by decide +kernel
theorem dX3_cover_0 : decode cX3_cover 0 = .ok (.iload_n 1, 1) := by decide +kernel
theorem dX3_cover_1 : decode cX3_cover 1 = .ok (.ifCond .lt 18, 3) := by decide +kernel
theorem dX3_cover_4 : decode cX3_cover 4 = .ok (.iload_n 1, 1) := by decide +kernel
theorem dX3_cover_5 : decode cX3_cover 5 = .ok (.ldc 135, 2) := by decide +kernel
theorem dX3_cover_7 : decode cX3_cover 7 = .ok (.if_icmp .ge 12, 3) := by decide +kernel
theorem dX3_cover_10 : decode cX3_cover 10 = .ok (.iload_n 2, 1) := by decide +kernel
theorem dX3_cover_11 : decode cX3_cover 11 = .ok (.ifCond .lt 8, 3) := by decide +kernel
theorem dX3_cover_14 : decode cX3_cover 14 = .ok (.iload_n 2, 1) := by decide +kernel
theorem dX3_cover_15 : decode cX3_cover 15 = .ok (.iconst 1, 1) := by decide +kernel
theorem dX3_cover_16 : decode cX3_cover 16 = .ok (.if_icmp .le 6, 3) := by decide +kernel
theorem dX3_cover_19 : decode cX3_cover 19 = .ok (.bipush (-102), 2) := by decide +kernel
theorem dX3_cover_21 : decode cX3_cover 21 = .ok (.ireturn, 1) := by decide +kernel
theorem dX3_cover_22 : decode cX3_cover 22 = .ok (.aload_n 0, 1) := by decide +kernel
theorem dX3_cover_23 : decode cX3_cover 23 = .ok (.getfield 19, 3) := by decide +kernel
theorem dX3_cover_26 : decode cX3_cover 26 = .ok (.getfield 57, 3) := by decide +kernel
theorem dX3_cover_29 : decode cX3_cover 29 = .ok (.ifCond .ne 6, 3) := by decide +kernel
theorem dX3_cover_32 : decode cX3_cover 32 = .ok (.bipush (-103), 2) := by decide +kernel
theorem dX3_cover_34 : decode cX3_cover 34 = .ok (.ireturn, 1) := by decide +kernel
theorem dX3_cover_35 : decode cX3_cover 35 = .ok (.aload_n 0, 1) := by decide +kernel
theorem dX3_cover_36 : decode cX3_cover 36 = .ok (.getfield 19, 3) := by decide +kernel
theorem dX3_cover_39 : decode cX3_cover 39 = .ok (.iload_n 1, 1) := by decide +kernel
theorem dX3_cover_40 : decode cX3_cover 40 = .ok (.invokevirtual 136, 3) := by decide +kernel
theorem dX3_cover_43 : decode cX3_cover 43 = .ok (.istore_n 3, 1) := by decide +kernel
theorem dX3_cover_44 : decode cX3_cover 44 = .ok (.iload_n 2, 1) := by decide +kernel
theorem dX3_cover_45 : decode cX3_cover 45 = .ok (.iconst 1, 1) := by decide +kernel
theorem dX3_cover_46 : decode cX3_cover 46 = .ok (.if_icmp .eq 8, 3) := by decide +kernel
theorem dX3_cover_49 : decode cX3_cover 49 = .ok (.iload_n 3, 1) := by decide +kernel
theorem dX3_cover_50 : decode cX3_cover 50 = .ok (.iconst (-1), 1) := by decide +kernel
theorem dX3_cover_51 : decode cX3_cover 51 = .ok (.if_icmp .ne 7, 3) := by decide +kernel
theorem dX3_cover_54 : decode cX3_cover 54 = .ok (.iload_n 3, 1) := by decide +kernel
theorem dX3_cover_55 : decode cX3_cover 55 = .ok (.goto 7, 3) := by decide +kernel
theorem dX3_cover_58 : decode cX3_cover 58 = .ok (.iload_n 3, 1) := by decide +kernel
theorem dX3_cover_59 : decode cX3_cover 59 = .ok (.invokestatic 95, 3) := by decide +kernel
theorem dX3_cover_62 : decode cX3_cover 62 = .ok (.ireturn, 1) := by decide +kernel
theorem dX3_catches_0 : decode cX3_catches 0 = .ok (.aload_n 0, 1) := by decide +kernel
theorem dX3_catches_1 : decode cX3_catches 1 = .ok (.getfield 19, 3) := by decide +kernel
theorem dX3_catches_4 : decode cX3_catches 4 = .ok (.iload_n 2, 1) := by decide +kernel
theorem dX3_catches_5 : decode cX3_catches 5 = .ok (.invokevirtual 60, 3) := by decide +kernel
theorem dX3_catches_8 : decode cX3_catches 8 = .ok (.ifCond .ne 6, 3) := by decide +kernel
theorem dX3_catches_11 : decode cX3_catches 11 = .ok (.bipush (-101), 2) := by decide +kernel
theorem dX3_catches_13 : decode cX3_catches 13 = .ok (.ireturn, 1) := by decide +kernel
theorem dX3_catches_14 : decode cX3_catches 14 = .ok (.iload_n 1, 1) := by decide +kernel
theorem dX3_catches_15 : decode cX3_catches 15 = .ok (.invokestatic 139, 3) := by decide +kernel
theorem dX3_catches_18 : decode cX3_catches 18 = .ok (.ifCond .eq 15, 3) := by decide +kernel
theorem dX3_catches_21 : decode cX3_catches 21 = .ok (.aload_n 0, 1) := by decide +kernel
theorem dX3_catches_22 : decode cX3_catches 22 = .ok (.getfield 19, 3) := by decide +kernel
theorem dX3_catches_25 : decode cX3_catches 25 = .ok (.iload_n 1, 1) := by decide +kernel
theorem dX3_catches_26 : decode cX3_catches 26 = .ok (.iload_n 2, 1) := by decide +kernel
theorem dX3_catches_27 : decode cX3_catches 27 = .ok (.invokevirtual 142, 3) := by decide +kernel
theorem dX3_catches_30 : decode cX3_catches 30 = .ok (.goto 5, 3) := by decide +kernel
theorem dX3_catches_33 : decode cX3_catches 33 = .ok (.bipush (-102), 2) := by decide +kernel
theorem dX3_catches_35 : decode cX3_catches 35 = .ok (.ireturn, 1) := by decide +kernel
theorem dX3_see_0 : decode cX3_see 0 = .ok (.iload_n 1, 1) := by decide +kernel
theorem dX3_see_1 : decode cX3_see 1 = .ok (.invokestatic 139, 3) := by decide +kernel
theorem dX3_see_4 : decode cX3_see 4 = .ok (.ifCond .eq 10, 3) := by decide +kernel
theorem dX3_see_7 : decode cX3_see 7 = .ok (.iload_n 2, 1) := by decide +kernel
theorem dX3_see_8 : decode cX3_see 8 = .ok (.invokestatic 109, 3) := by decide +kernel
theorem dX3_see_11 : decode cX3_see 11 = .ok (.ifCond .ne 6, 3) := by decide +kernel
theorem dX3_see_14 : decode cX3_see 14 = .ok (.bipush (-102), 2) := by decide +kernel
theorem dX3_see_16 : decode cX3_see 16 = .ok (.ireturn, 1) := by decide +kernel
theorem dX3_see_17 : decode cX3_see 17 = .ok (.aload_n 0, 1) := by decide +kernel
theorem dX3_see_18 : decode cX3_see 18 = .ok (.getfield 19, 3) := by decide +kernel
theorem dX3_see_21 : decode cX3_see 21 = .ok (.iload_n 1, 1) := by decide +kernel
theorem dX3_see_22 : decode cX3_see 22 = .ok (.iload_n 2, 1) := by decide +kernel
theorem dX3_see_23 : decode cX3_see 23 = .ok (.invokevirtual 145, 3) := by decide +kernel
theorem dX3_see_26 : decode cX3_see 26 = .ok (.ifCond .eq 13, 3) := by decide +kernel
theorem dX3_see_29 : decode cX3_see 29 = .ok (.aload_n 0, 1) := by decide +kernel
theorem dX3_see_30 : decode cX3_see 30 = .ok (.getfield 19, 3) := by decide +kernel
theorem dX3_see_33 : decode cX3_see 33 = .ok (.getfield 148, 3) := by decide +kernel
theorem dX3_see_36 : decode cX3_see 36 = .ok (.goto 5, 3) := by decide +kernel
theorem dX3_see_39 : decode cX3_see 39 = .ok (.bipush (-104), 2) := by decide +kernel
theorem dX3_see_41 : decode cX3_see 41 = .ok (.ireturn, 1) := by decide +kernel
theorem dX3_forget_0 : decode cX3_forget 0 = .ok (.aload_n 0, 1) := by decide +kernel
theorem dX3_forget_1 : decode cX3_forget 1 = .ok (.getfield 19, 3) := by decide +kernel
theorem dX3_forget_4 : decode cX3_forget 4 = .ok (.getfield 148, 3) := by decide +kernel
theorem dX3_forget_7 : decode cX3_forget 7 = .ok (.istore_n 1, 1) := by decide +kernel
theorem dX3_forget_8 : decode cX3_forget 8 = .ok (.aload_n 0, 1) := by decide +kernel
theorem dX3_forget_9 : decode cX3_forget 9 = .ok (.getfield 19, 3) := by decide +kernel
theorem dX3_forget_12 : decode cX3_forget 12 = .ok (.iconst 0, 1) := by decide +kernel
theorem dX3_forget_13 : decode cX3_forget 13 = .ok (.putfield 148, 3) := by decide +kernel
theorem dX3_forget_16 : decode cX3_forget 16 = .ok (.iload_n 1, 1) := by decide +kernel
theorem dX3_forget_17 : decode cX3_forget 17 = .ok (.ireturn, 1) := by decide +kernel
theorem dX3_whose_0 : decode cX3_whose 0 = .ok (.aload_n 0, 1) := by decide +kernel
theorem dX3_whose_1 : decode cX3_whose 1 = .ok (.getfield 19, 3) := by decide +kernel
theorem dX3_whose_4 : decode cX3_whose 4 = .ok (.getfield 57, 3) := by decide +kernel
theorem dX3_whose_7 : decode cX3_whose 7 = .ok (.ifCond .ne 8, 3) := by decide +kernel
theorem dX3_whose_10 : decode cX3_whose 10 = .ok (.bipush (-103), 2) := by decide +kernel
theorem dX3_whose_12 : decode cX3_whose 12 = .ok (.goto 10, 3) := by decide +kernel
theorem dX3_whose_15 : decode cX3_whose 15 = .ok (.aload_n 0, 1) := by decide +kernel
theorem dX3_whose_16 : decode cX3_whose 16 = .ok (.getfield 19, 3) := by decide +kernel
theorem dX3_whose_19 : decode cX3_whose 19 = .ok (.invokevirtual 151, 3) := by decide +kernel
theorem dX3_whose_22 : decode cX3_whose 22 = .ok (.ireturn, 1) := by decide +kernel
theorem dX3_look_0 : decode cX3_look 0 = .ok (.aload_n 0, 1) := by decide +kernel
theorem dX3_look_1 : decode cX3_look 1 = .ok (.getfield 19, 3) := by decide +kernel
theorem dX3_look_4 : decode cX3_look 4 = .ok (.getfield 57, 3) := by decide +kernel
theorem dX3_look_7 : decode cX3_look 7 = .ok (.ifCond .ne 8, 3) := by decide +kernel
theorem dX3_look_10 : decode cX3_look 10 = .ok (.bipush (-103), 2) := by decide +kernel
theorem dX3_look_12 : decode cX3_look 12 = .ok (.goto 10, 3) := by decide +kernel
theorem dX3_look_15 : decode cX3_look 15 = .ok (.aload_n 0, 1) := by decide +kernel
theorem dX3_look_16 : decode cX3_look 16 = .ok (.getfield 19, 3) := by decide +kernel
theorem dX3_look_19 : decode cX3_look 19 = .ok (.invokevirtual 154, 3) := by decide +kernel
theorem dX3_look_22 : decode cX3_look 22 = .ok (.ireturn, 1) := by decide +kernel
theorem dX3_mornings_0 : decode cX3_mornings 0 = .ok (.iload_n 1, 1) := by decide +kernel
theorem dX3_mornings_1 : decode cX3_mornings 1 = .ok (.iconst 1, 1) := by decide +kernel
theorem dX3_mornings_2 : decode cX3_mornings 2 = .ok (.if_icmp .lt 22, 3) := by decide +kernel
theorem dX3_mornings_5 : decode cX3_mornings 5 = .ok (.iload_n 1, 1) := by decide +kernel
theorem dX3_mornings_6 : decode cX3_mornings 6 = .ok (.bipush 20, 2) := by decide +kernel
theorem dX3_mornings_8 : decode cX3_mornings 8 = .ok (.if_icmp .gt 16, 3) := by decide +kernel
theorem dX3_mornings_11 : decode cX3_mornings 11 = .ok (.iload_n 2, 1) := by decide +kernel
theorem dX3_mornings_12 : decode cX3_mornings 12 = .ok (.ifCond .lt 12, 3) := by decide +kernel
theorem dX3_mornings_15 : decode cX3_mornings 15 = .ok (.iload_n 3, 1) := by decide +kernel
theorem dX3_mornings_16 : decode cX3_mornings 16 = .ok (.ifCond .lt 8, 3) := by decide +kernel
theorem dX3_mornings_19 : decode cX3_mornings 19 = .ok (.iload_n 3, 1) := by decide +kernel
theorem dX3_mornings_20 : decode cX3_mornings 20 = .ok (.iconst 2, 1) := by decide +kernel
theorem dX3_mornings_21 : decode cX3_mornings 21 = .ok (.if_icmp .le 6, 3) := by decide +kernel
theorem dX3_mornings_24 : decode cX3_mornings 24 = .ok (.bipush (-102), 2) := by decide +kernel
theorem dX3_mornings_26 : decode cX3_mornings 26 = .ok (.ireturn, 1) := by decide +kernel
theorem dX3_mornings_27 : decode cX3_mornings 27 = .ok (.aload_n 0, 1) := by decide +kernel
theorem dX3_mornings_28 : decode cX3_mornings 28 = .ok (.getfield 19, 3) := by decide +kernel
theorem dX3_mornings_31 : decode cX3_mornings 31 = .ok (.getfield 57, 3) := by decide +kernel
theorem dX3_mornings_34 : decode cX3_mornings 34 = .ok (.ifCond .ne 6, 3) := by decide +kernel
theorem dX3_mornings_37 : decode cX3_mornings 37 = .ok (.bipush (-103), 2) := by decide +kernel
theorem dX3_mornings_39 : decode cX3_mornings 39 = .ok (.ireturn, 1) := by decide +kernel
theorem dX3_mornings_40 : decode cX3_mornings 40 = .ok (.iconst 0, 1) := by decide +kernel
theorem dX3_mornings_41 : decode cX3_mornings 41 = .ok (.istore 4, 2) := by decide +kernel
theorem dX3_mornings_43 : decode cX3_mornings 43 = .ok (.iload_n 2, 1) := by decide +kernel
theorem dX3_mornings_44 : decode cX3_mornings 44 = .ok (.istore 5, 2) := by decide +kernel
theorem dX3_mornings_46 : decode cX3_mornings 46 = .ok (.iconst 0, 1) := by decide +kernel
theorem dX3_mornings_47 : decode cX3_mornings 47 = .ok (.istore 6, 2) := by decide +kernel
theorem dX3_mornings_49 : decode cX3_mornings 49 = .ok (.iload 6, 2) := by decide +kernel
theorem dX3_mornings_51 : decode cX3_mornings 51 = .ok (.iload_n 1, 1) := by decide +kernel
theorem dX3_mornings_52 : decode cX3_mornings 52 = .ok (.if_icmp .ge 33, 3) := by decide +kernel
theorem dX3_mornings_55 : decode cX3_mornings 55 = .ok (.aload_n 0, 1) := by decide +kernel
theorem dX3_mornings_56 : decode cX3_mornings 56 = .ok (.iload 5, 2) := by decide +kernel
theorem dX3_mornings_58 : decode cX3_mornings 58 = .ok (.invokevirtual 157, 3) := by decide +kernel
theorem dX3_mornings_61 : decode cX3_mornings 61 = .ok (.istore 5, 2) := by decide +kernel
theorem dX3_mornings_63 : decode cX3_mornings 63 = .ok (.iload 4, 2) := by decide +kernel
theorem dX3_mornings_65 : decode cX3_mornings 65 = .ok (.aload_n 0, 1) := by decide +kernel
theorem dX3_mornings_66 : decode cX3_mornings 66 = .ok (.getfield 19, 3) := by decide +kernel
theorem dX3_mornings_69 : decode cX3_mornings 69 = .ok (.aload_n 0, 1) := by decide +kernel
theorem dX3_mornings_70 : decode cX3_mornings 70 = .ok (.getfield 26, 3) := by decide +kernel
theorem dX3_mornings_73 : decode cX3_mornings 73 = .ok (.invokevirtual 160, 3) := by decide +kernel
theorem dX3_mornings_76 : decode cX3_mornings 76 = .ok (.iadd, 1) := by decide +kernel
theorem dX3_mornings_77 : decode cX3_mornings 77 = .ok (.istore 4, 2) := by decide +kernel
theorem dX3_mornings_79 : decode cX3_mornings 79 = .ok (.iinc 6 1, 3) := by decide +kernel
theorem dX3_mornings_82 : decode cX3_mornings 82 = .ok (.goto (-33), 3) := by decide +kernel
theorem dX3_mornings_85 : decode cX3_mornings 85 = .ok (.iload_n 3, 1) := by decide +kernel
theorem dX3_mornings_86 : decode cX3_mornings 86 = .ok (.lookupswitch 40 #[(0, 26), (1, 29)], 26) := by decide +kernel
theorem dX3_mornings_112 : decode cX3_mornings 112 = .ok (.iload 4, 2) := by decide +kernel
theorem dX3_mornings_114 : decode cX3_mornings 114 = .ok (.ireturn, 1) := by decide +kernel
theorem dX3_mornings_115 : decode cX3_mornings 115 = .ok (.aload_n 0, 1) := by decide +kernel
theorem dX3_mornings_116 : decode cX3_mornings 116 = .ok (.getfield 19, 3) := by decide +kernel
theorem dX3_mornings_119 : decode cX3_mornings 119 = .ok (.invokevirtual 164, 3) := by decide +kernel
theorem dX3_mornings_122 : decode cX3_mornings 122 = .ok (.invokestatic 95, 3) := by decide +kernel
theorem dX3_mornings_125 : decode cX3_mornings 125 = .ok (.ireturn, 1) := by decide +kernel
theorem dX3_mornings_126 : decode cX3_mornings 126 = .ok (.iload 5, 2) := by decide +kernel
theorem dX3_mornings_128 : decode cX3_mornings 128 = .ok (.ireturn, 1) := by decide +kernel
theorem dX3_image_0 : decode cX3_image 0 = .ok (.aload_n 0, 1) := by decide +kernel
theorem dX3_image_1 : decode cX3_image 1 = .ok (.getfield 19, 3) := by decide +kernel
theorem dX3_image_4 : decode cX3_image 4 = .ok (.getfield 57, 3) := by decide +kernel
theorem dX3_image_7 : decode cX3_image 7 = .ok (.ifCond .ne 6, 3) := by decide +kernel
theorem dX3_image_10 : decode cX3_image 10 = .ok (.bipush (-103), 2) := by decide +kernel
theorem dX3_image_12 : decode cX3_image 12 = .ok (.ireturn, 1) := by decide +kernel
theorem dX3_image_13 : decode cX3_image 13 = .ok (.aload_n 0, 1) := by decide +kernel
theorem dX3_image_14 : decode cX3_image 14 = .ok (.getfield 23, 3) := by decide +kernel
theorem dX3_image_17 : decode cX3_image 17 = .ok (.aload_n 0, 1) := by decide +kernel
theorem dX3_image_18 : decode cX3_image 18 = .ok (.getfield 19, 3) := by decide +kernel
theorem dX3_image_21 : decode cX3_image 21 = .ok (.invokevirtual 167, 3) := by decide +kernel
theorem dX3_image_24 : decode cX3_image 24 = .ok (.aload_n 0, 1) := by decide +kernel
theorem dX3_image_25 : decode cX3_image 25 = .ok (.iconst 1, 1) := by decide +kernel
theorem dX3_image_26 : decode cX3_image 26 = .ok (.putfield 30, 3) := by decide +kernel
theorem dX3_image_29 : decode cX3_image 29 = .ok (.aload_n 0, 1) := by decide +kernel
theorem dX3_image_30 : decode cX3_image 30 = .ok (.getfield 19, 3) := by decide +kernel
theorem dX3_image_33 : decode cX3_image 33 = .ok (.getfield 124, 3) := by decide +kernel
theorem dX3_image_36 : decode cX3_image 36 = .ok (.ireturn, 1) := by decide +kernel
theorem dX3_restore_0 : decode cX3_restore 0 = .ok (.aload_n 0, 1) := by decide +kernel
theorem dX3_restore_1 : decode cX3_restore 1 = .ok (.getfield 30, 3) := by decide +kernel
theorem dX3_restore_4 : decode cX3_restore 4 = .ok (.ifCond .ne 6, 3) := by decide +kernel
theorem dX3_restore_7 : decode cX3_restore 7 = .ok (.bipush (-103), 2) := by decide +kernel
theorem dX3_restore_9 : decode cX3_restore 9 = .ok (.ireturn, 1) := by decide +kernel
theorem dX3_restore_10 : decode cX3_restore 10 = .ok (.aload_n 0, 1) := by decide +kernel
theorem dX3_restore_11 : decode cX3_restore 11 = .ok (.getfield 19, 3) := by decide +kernel
theorem dX3_restore_14 : decode cX3_restore 14 = .ok (.aload_n 0, 1) := by decide +kernel
theorem dX3_restore_15 : decode cX3_restore 15 = .ok (.getfield 23, 3) := by decide +kernel
theorem dX3_restore_18 : decode cX3_restore 18 = .ok (.invokevirtual 167, 3) := by decide +kernel
theorem dX3_restore_21 : decode cX3_restore 21 = .ok (.aload_n 0, 1) := by decide +kernel
theorem dX3_restore_22 : decode cX3_restore 22 = .ok (.getfield 19, 3) := by decide +kernel
theorem dX3_restore_25 : decode cX3_restore 25 = .ok (.getfield 124, 3) := by decide +kernel
theorem dX3_restore_28 : decode cX3_restore 28 = .ok (.ireturn, 1) := by decide +kernel
theorem dX3_count_0 : decode cX3_count 0 = .ok (.iload_n 1, 1) := by decide +kernel
theorem dX3_count_1 : decode cX3_count 1 = .ok (.tableswitch 118 0 7 #[47, 55, 63, 74, 89, 97, 105, 113], 47) := by decide +kernel
theorem dX3_count_48 : decode cX3_count 48 = .ok (.aload_n 0, 1) := by decide +kernel
theorem dX3_count_49 : decode cX3_count 49 = .ok (.getfield 19, 3) := by decide +kernel
theorem dX3_count_52 : decode cX3_count 52 = .ok (.getfield 57, 3) := by decide +kernel
theorem dX3_count_55 : decode cX3_count 55 = .ok (.ireturn, 1) := by decide +kernel
theorem dX3_count_56 : decode cX3_count 56 = .ok (.aload_n 0, 1) := by decide +kernel
theorem dX3_count_57 : decode cX3_count 57 = .ok (.getfield 19, 3) := by decide +kernel
theorem dX3_count_60 : decode cX3_count 60 = .ok (.invokevirtual 170, 3) := by decide +kernel
theorem dX3_count_63 : decode cX3_count 63 = .ok (.ireturn, 1) := by decide +kernel
theorem dX3_count_64 : decode cX3_count 64 = .ok (.aload_n 0, 1) := by decide +kernel
theorem dX3_count_65 : decode cX3_count 65 = .ok (.getfield 19, 3) := by decide +kernel
theorem dX3_count_68 : decode cX3_count 68 = .ok (.invokevirtual 164, 3) := by decide +kernel
theorem dX3_count_71 : decode cX3_count 71 = .ok (.invokestatic 95, 3) := by decide +kernel
theorem dX3_count_74 : decode cX3_count 74 = .ok (.ireturn, 1) := by decide +kernel
theorem dX3_count_75 : decode cX3_count 75 = .ok (.aload_n 0, 1) := by decide +kernel
theorem dX3_count_76 : decode cX3_count 76 = .ok (.getfield 19, 3) := by decide +kernel
theorem dX3_count_79 : decode cX3_count 79 = .ok (.aload_n 0, 1) := by decide +kernel
theorem dX3_count_80 : decode cX3_count 80 = .ok (.getfield 19, 3) := by decide +kernel
theorem dX3_count_83 : decode cX3_count 83 = .ok (.getfield 83, 3) := by decide +kernel
theorem dX3_count_86 : decode cX3_count 86 = .ok (.invokevirtual 160, 3) := by decide +kernel
theorem dX3_count_89 : decode cX3_count 89 = .ok (.ireturn, 1) := by decide +kernel
theorem dX3_count_90 : decode cX3_count 90 = .ok (.aload_n 0, 1) := by decide +kernel
theorem dX3_count_91 : decode cX3_count 91 = .ok (.getfield 19, 3) := by decide +kernel
theorem dX3_count_94 : decode cX3_count 94 = .ok (.getfield 124, 3) := by decide +kernel
theorem dX3_count_97 : decode cX3_count 97 = .ok (.ireturn, 1) := by decide +kernel
theorem dX3_count_98 : decode cX3_count 98 = .ok (.aload_n 0, 1) := by decide +kernel
theorem dX3_count_99 : decode cX3_count 99 = .ok (.getfield 19, 3) := by decide +kernel
theorem dX3_count_102 : decode cX3_count 102 = .ok (.getfield 148, 3) := by decide +kernel
theorem dX3_count_105 : decode cX3_count 105 = .ok (.ireturn, 1) := by decide +kernel
theorem dX3_count_106 : decode cX3_count 106 = .ok (.aload_n 0, 1) := by decide +kernel
theorem dX3_count_107 : decode cX3_count 107 = .ok (.getfield 10, 3) := by decide +kernel
theorem dX3_count_110 : decode cX3_count 110 = .ok (.getfield 42, 3) := by decide +kernel
theorem dX3_count_113 : decode cX3_count 113 = .ok (.ireturn, 1) := by decide +kernel
theorem dX3_count_114 : decode cX3_count 114 = .ok (.aload_n 0, 1) := by decide +kernel
theorem dX3_count_115 : decode cX3_count 115 = .ok (.getfield 34, 3) := by decide +kernel
theorem dX3_count_118 : decode cX3_count 118 = .ok (.ireturn, 1) := by decide +kernel
theorem dX3_count_119 : decode cX3_count 119 = .ok (.bipush (-102), 2) := by decide +kernel
theorem dX3_count_121 : decode cX3_count 121 = .ok (.ireturn, 1) := by decide +kernel
theorem dX3_digest_0 : decode cX3_digest 0 = .ok (.ldc2_w 173, 3) := by decide +kernel
theorem dX3_digest_3 : decode cX3_digest 3 = .ok (.lstore_n 1, 1) := by decide +kernel
theorem dX3_digest_4 : decode cX3_digest 4 = .ok (.iconst 0, 1) := by decide +kernel
theorem dX3_digest_5 : decode cX3_digest 5 = .ok (.istore_n 3, 1) := by decide +kernel
theorem dX3_digest_6 : decode cX3_digest 6 = .ok (.iload_n 3, 1) := by decide +kernel
theorem dX3_digest_7 : decode cX3_digest 7 = .ok (.aload_n 0, 1) := by decide +kernel
theorem dX3_digest_8 : decode cX3_digest 8 = .ok (.getfield 19, 3) := by decide +kernel
theorem dX3_digest_11 : decode cX3_digest 11 = .ok (.getfield 57, 3) := by decide +kernel
theorem dX3_digest_14 : decode cX3_digest 14 = .ok (.if_icmp .ge 16, 3) := by decide +kernel
theorem dX3_digest_17 : decode cX3_digest 17 = .ok (.aload_n 0, 1) := by decide +kernel
theorem dX3_digest_18 : decode cX3_digest 18 = .ok (.lload_n 1, 1) := by decide +kernel
theorem dX3_digest_19 : decode cX3_digest 19 = .ok (.iload_n 3, 1) := by decide +kernel
theorem dX3_digest_20 : decode cX3_digest 20 = .ok (.invokevirtual 175, 3) := by decide +kernel
theorem dX3_digest_23 : decode cX3_digest 23 = .ok (.lstore_n 1, 1) := by decide +kernel
theorem dX3_digest_24 : decode cX3_digest 24 = .ok (.iinc 3 1, 3) := by decide +kernel
theorem dX3_digest_27 : decode cX3_digest 27 = .ok (.goto (-21), 3) := by decide +kernel
theorem dX3_digest_30 : decode cX3_digest 30 = .ok (.aload_n 0, 1) := by decide +kernel
theorem dX3_digest_31 : decode cX3_digest 31 = .ok (.getfield 19, 3) := by decide +kernel
theorem dX3_digest_34 : decode cX3_digest 34 = .ok (.getfield 57, 3) := by decide +kernel
theorem dX3_digest_37 : decode cX3_digest 37 = .ok (.ifCond .le 50, 3) := by decide +kernel
theorem dX3_digest_40 : decode cX3_digest 40 = .ok (.bipush 33, 2) := by decide +kernel
theorem dX3_digest_42 : decode cX3_digest 42 = .ok (.istore_n 3, 1) := by decide +kernel
theorem dX3_digest_43 : decode cX3_digest 43 = .ok (.lload_n 1, 1) := by decide +kernel
theorem dX3_digest_44 : decode cX3_digest 44 = .ok (.aload_n 0, 1) := by decide +kernel
theorem dX3_digest_45 : decode cX3_digest 45 = .ok (.invokevirtual 179, 3) := by decide +kernel
theorem dX3_digest_48 : decode cX3_digest 48 = .ok (.i2l, 1) := by decide +kernel
theorem dX3_digest_49 : decode cX3_digest 49 = .ok (.invokestatic 182, 3) := by decide +kernel
theorem dX3_digest_52 : decode cX3_digest 52 = .ok (.lstore_n 1, 1) := by decide +kernel
theorem dX3_digest_53 : decode cX3_digest 53 = .ok (.lload_n 1, 1) := by decide +kernel
theorem dX3_digest_54 : decode cX3_digest 54 = .ok (.aload_n 0, 1) := by decide +kernel
theorem dX3_digest_55 : decode cX3_digest 55 = .ok (.invokevirtual 186, 3) := by decide +kernel
theorem dX3_digest_58 : decode cX3_digest 58 = .ok (.i2l, 1) := by decide +kernel
theorem dX3_digest_59 : decode cX3_digest 59 = .ok (.invokestatic 182, 3) := by decide +kernel
theorem dX3_digest_62 : decode cX3_digest 62 = .ok (.lstore_n 1, 1) := by decide +kernel
theorem dX3_digest_63 : decode cX3_digest 63 = .ok (.lload_n 1, 1) := by decide +kernel
theorem dX3_digest_64 : decode cX3_digest 64 = .ok (.aload_n 0, 1) := by decide +kernel
theorem dX3_digest_65 : decode cX3_digest 65 = .ok (.iload_n 3, 1) := by decide +kernel
theorem dX3_digest_66 : decode cX3_digest 66 = .ok (.iconst 0, 1) := by decide +kernel
theorem dX3_digest_67 : decode cX3_digest 67 = .ok (.invokevirtual 189, 3) := by decide +kernel
theorem dX3_digest_70 : decode cX3_digest 70 = .ok (.i2l, 1) := by decide +kernel
theorem dX3_digest_71 : decode cX3_digest 71 = .ok (.invokestatic 182, 3) := by decide +kernel
theorem dX3_digest_74 : decode cX3_digest 74 = .ok (.lstore_n 1, 1) := by decide +kernel
theorem dX3_digest_75 : decode cX3_digest 75 = .ok (.lload_n 1, 1) := by decide +kernel
theorem dX3_digest_76 : decode cX3_digest 76 = .ok (.aload_n 0, 1) := by decide +kernel
theorem dX3_digest_77 : decode cX3_digest 77 = .ok (.iload_n 3, 1) := by decide +kernel
theorem dX3_digest_78 : decode cX3_digest 78 = .ok (.iconst 1, 1) := by decide +kernel
theorem dX3_digest_79 : decode cX3_digest 79 = .ok (.invokevirtual 189, 3) := by decide +kernel
theorem dX3_digest_82 : decode cX3_digest 82 = .ok (.i2l, 1) := by decide +kernel
theorem dX3_digest_83 : decode cX3_digest 83 = .ok (.invokestatic 182, 3) := by decide +kernel
theorem dX3_digest_86 : decode cX3_digest 86 = .ok (.lstore_n 1, 1) := by decide +kernel
theorem dX3_digest_87 : decode cX3_digest 87 = .ok (.iconst 0, 1) := by decide +kernel
theorem dX3_digest_88 : decode cX3_digest 88 = .ok (.istore_n 3, 1) := by decide +kernel
theorem dX3_digest_89 : decode cX3_digest 89 = .ok (.iload_n 3, 1) := by decide +kernel
theorem dX3_digest_90 : decode cX3_digest 90 = .ok (.aload_n 0, 1) := by decide +kernel
theorem dX3_digest_91 : decode cX3_digest 91 = .ok (.getfield 10, 3) := by decide +kernel
theorem dX3_digest_94 : decode cX3_digest 94 = .ok (.getfield 42, 3) := by decide +kernel
theorem dX3_digest_97 : decode cX3_digest 97 = .ok (.if_icmp .ge 24, 3) := by decide +kernel
theorem dX3_digest_100 : decode cX3_digest 100 = .ok (.lload_n 1, 1) := by decide +kernel
theorem dX3_digest_101 : decode cX3_digest 101 = .ok (.aload_n 0, 1) := by decide +kernel
theorem dX3_digest_102 : decode cX3_digest 102 = .ok (.getfield 10, 3) := by decide +kernel
theorem dX3_digest_105 : decode cX3_digest 105 = .ok (.getfield 192, 3) := by decide +kernel
theorem dX3_digest_108 : decode cX3_digest 108 = .ok (.iload_n 3, 1) := by decide +kernel
theorem dX3_digest_109 : decode cX3_digest 109 = .ok (.caload, 1) := by decide +kernel
theorem dX3_digest_110 : decode cX3_digest 110 = .ok (.i2l, 1) := by decide +kernel
theorem dX3_digest_111 : decode cX3_digest 111 = .ok (.invokestatic 182, 3) := by decide +kernel
theorem dX3_digest_114 : decode cX3_digest 114 = .ok (.lstore_n 1, 1) := by decide +kernel
theorem dX3_digest_115 : decode cX3_digest 115 = .ok (.iinc 3 1, 3) := by decide +kernel
theorem dX3_digest_118 : decode cX3_digest 118 = .ok (.goto (-29), 3) := by decide +kernel
theorem dX3_digest_121 : decode cX3_digest 121 = .ok (.iconst 0, 1) := by decide +kernel
theorem dX3_digest_122 : decode cX3_digest 122 = .ok (.istore_n 3, 1) := by decide +kernel
theorem dX3_digest_123 : decode cX3_digest 123 = .ok (.iload_n 3, 1) := by decide +kernel
theorem dX3_digest_124 : decode cX3_digest 124 = .ok (.bipush 8, 2) := by decide +kernel
theorem dX3_digest_126 : decode cX3_digest 126 = .ok (.if_icmp .ge 20, 3) := by decide +kernel
theorem dX3_digest_129 : decode cX3_digest 129 = .ok (.lload_n 1, 1) := by decide +kernel
theorem dX3_digest_130 : decode cX3_digest 130 = .ok (.aload_n 0, 1) := by decide +kernel
theorem dX3_digest_131 : decode cX3_digest 131 = .ok (.iload_n 3, 1) := by decide +kernel
theorem dX3_digest_132 : decode cX3_digest 132 = .ok (.invokevirtual 196, 3) := by decide +kernel
theorem dX3_digest_135 : decode cX3_digest 135 = .ok (.i2l, 1) := by decide +kernel
theorem dX3_digest_136 : decode cX3_digest 136 = .ok (.invokestatic 182, 3) := by decide +kernel
theorem dX3_digest_139 : decode cX3_digest 139 = .ok (.lstore_n 1, 1) := by decide +kernel
theorem dX3_digest_140 : decode cX3_digest 140 = .ok (.iinc 3 1, 3) := by decide +kernel
theorem dX3_digest_143 : decode cX3_digest 143 = .ok (.goto (-20), 3) := by decide +kernel
theorem dX3_digest_146 : decode cX3_digest 146 = .ok (.lload_n 1, 1) := by decide +kernel
theorem dX3_digest_147 : decode cX3_digest 147 = .ok (.lreturn, 1) := by decide +kernel
theorem dX3_isPlace_0 : decode cX3_isPlace 0 = .ok (.iload_n 0, 1) := by decide +kernel
theorem dX3_isPlace_1 : decode cX3_isPlace 1 = .ok (.ifCond .lt 13, 3) := by decide +kernel
theorem dX3_isPlace_4 : decode cX3_isPlace 4 = .ok (.iload_n 0, 1) := by decide +kernel
theorem dX3_isPlace_5 : decode cX3_isPlace 5 = .ok (.bipush 16, 2) := by decide +kernel
theorem dX3_isPlace_7 : decode cX3_isPlace 7 = .ok (.if_icmp .ge 7, 3) := by decide +kernel
theorem dX3_isPlace_10 : decode cX3_isPlace 10 = .ok (.iconst 1, 1) := by decide +kernel
theorem dX3_isPlace_11 : decode cX3_isPlace 11 = .ok (.goto 4, 3) := by decide +kernel
theorem dX3_isPlace_14 : decode cX3_isPlace 14 = .ok (.iconst 0, 1) := by decide +kernel
theorem dX3_isPlace_15 : decode cX3_isPlace 15 = .ok (.ireturn, 1) := by decide +kernel
theorem dX3_isHour_0 : decode cX3_isHour 0 = .ok (.iload_n 0, 1) := by decide +kernel
theorem dX3_isHour_1 : decode cX3_isHour 1 = .ok (.ifCond .lt 13, 3) := by decide +kernel
theorem dX3_isHour_4 : decode cX3_isHour 4 = .ok (.iload_n 0, 1) := by decide +kernel
theorem dX3_isHour_5 : decode cX3_isHour 5 = .ok (.bipush 30, 2) := by decide +kernel
theorem dX3_isHour_7 : decode cX3_isHour 7 = .ok (.if_icmp .gt 7, 3) := by decide +kernel
theorem dX3_isHour_10 : decode cX3_isHour 10 = .ok (.iconst 1, 1) := by decide +kernel
theorem dX3_isHour_11 : decode cX3_isHour 11 = .ok (.goto 4, 3) := by decide +kernel
theorem dX3_isHour_14 : decode cX3_isHour 14 = .ok (.iconst 0, 1) := by decide +kernel
theorem dX3_isHour_15 : decode cX3_isHour 15 = .ok (.ireturn, 1) := by decide +kernel
theorem dX3_with_0 : decode cX3_with 0 = .ok (.ldc2_w 199, 3) := by decide +kernel
theorem dX3_with_3 : decode cX3_with 3 = .ok (.lload_n 0, 1) := by decide +kernel
theorem dX3_with_4 : decode cX3_with 4 = .ok (.lmul, 1) := by decide +kernel
theorem dX3_with_5 : decode cX3_with 5 = .ok (.lload_n 2, 1) := by decide +kernel
theorem dX3_with_6 : decode cX3_with 6 = .ok (.ladd, 1) := by decide +kernel
theorem dX3_with_7 : decode cX3_with 7 = .ok (.lreturn, 1) := by decide +kernel
theorem dX3_withStick_0 : decode cX3_withStick 0 = .ok (.lload_n 1, 1) := by decide +kernel
theorem dX3_withStick_1 : decode cX3_withStick 1 = .ok (.lstore 4, 2) := by decide +kernel
theorem dX3_withStick_3 : decode cX3_withStick 3 = .ok (.iconst 0, 1) := by decide +kernel
theorem dX3_withStick_4 : decode cX3_withStick 4 = .ok (.istore 6, 2) := by decide +kernel
theorem dX3_withStick_6 : decode cX3_withStick 6 = .ok (.iload 6, 2) := by decide +kernel
theorem dX3_withStick_8 : decode cX3_withStick 8 = .ok (.bipush 6, 2) := by decide +kernel
theorem dX3_withStick_10 : decode cX3_withStick 10 = .ok (.if_icmp .gt 24, 3) := by decide +kernel
theorem dX3_withStick_13 : decode cX3_withStick 13 = .ok (.lload 4, 2) := by decide +kernel
theorem dX3_withStick_15 : decode cX3_withStick 15 = .ok (.aload_n 0, 1) := by decide +kernel
theorem dX3_withStick_16 : decode cX3_withStick 16 = .ok (.iload_n 3, 1) := by decide +kernel
theorem dX3_withStick_17 : decode cX3_withStick 17 = .ok (.iload 6, 2) := by decide +kernel
theorem dX3_withStick_19 : decode cX3_withStick 19 = .ok (.invokevirtual 201, 3) := by decide +kernel
theorem dX3_withStick_22 : decode cX3_withStick 22 = .ok (.i2l, 1) := by decide +kernel
theorem dX3_withStick_23 : decode cX3_withStick 23 = .ok (.invokestatic 182, 3) := by decide +kernel
theorem dX3_withStick_26 : decode cX3_withStick 26 = .ok (.lstore 4, 2) := by decide +kernel
theorem dX3_withStick_28 : decode cX3_withStick 28 = .ok (.iinc 6 1, 3) := by decide +kernel
theorem dX3_withStick_31 : decode cX3_withStick 31 = .ok (.goto (-25), 3) := by decide +kernel
theorem dX3_withStick_34 : decode cX3_withStick 34 = .ok (.iconst 0, 1) := by decide +kernel
theorem dX3_withStick_35 : decode cX3_withStick 35 = .ok (.istore 6, 2) := by decide +kernel
theorem dX3_withStick_37 : decode cX3_withStick 37 = .ok (.iload 6, 2) := by decide +kernel
theorem dX3_withStick_39 : decode cX3_withStick 39 = .ok (.iconst 5, 1) := by decide +kernel
theorem dX3_withStick_40 : decode cX3_withStick 40 = .ok (.if_icmp .ge 27, 3) := by decide +kernel
theorem dX3_withStick_43 : decode cX3_withStick 43 = .ok (.lload 4, 2) := by decide +kernel
theorem dX3_withStick_45 : decode cX3_withStick 45 = .ok (.aload_n 0, 1) := by decide +kernel
theorem dX3_withStick_46 : decode cX3_withStick 46 = .ok (.iload_n 3, 1) := by decide +kernel
theorem dX3_withStick_47 : decode cX3_withStick 47 = .ok (.bipush 10, 2) := by decide +kernel
theorem dX3_withStick_49 : decode cX3_withStick 49 = .ok (.iload 6, 2) := by decide +kernel
theorem dX3_withStick_51 : decode cX3_withStick 51 = .ok (.iadd, 1) := by decide +kernel
theorem dX3_withStick_52 : decode cX3_withStick 52 = .ok (.invokevirtual 201, 3) := by decide +kernel
theorem dX3_withStick_55 : decode cX3_withStick 55 = .ok (.i2l, 1) := by decide +kernel
theorem dX3_withStick_56 : decode cX3_withStick 56 = .ok (.invokestatic 182, 3) := by decide +kernel
theorem dX3_withStick_59 : decode cX3_withStick 59 = .ok (.lstore 4, 2) := by decide +kernel
theorem dX3_withStick_61 : decode cX3_withStick 61 = .ok (.iinc 6 1, 3) := by decide +kernel
theorem dX3_withStick_64 : decode cX3_withStick 64 = .ok (.goto (-27), 3) := by decide +kernel
theorem dX3_withStick_67 : decode cX3_withStick 67 = .ok (.lload 4, 2) := by decide +kernel
theorem dX3_withStick_69 : decode cX3_withStick 69 = .ok (.aload_n 0, 1) := by decide +kernel
theorem dX3_withStick_70 : decode cX3_withStick 70 = .ok (.iload_n 3, 1) := by decide +kernel
theorem dX3_withStick_71 : decode cX3_withStick 71 = .ok (.iconst 1, 1) := by decide +kernel
theorem dX3_withStick_72 : decode cX3_withStick 72 = .ok (.invokevirtual 204, 3) := by decide +kernel
theorem dX3_withStick_75 : decode cX3_withStick 75 = .ok (.i2l, 1) := by decide +kernel
theorem dX3_withStick_76 : decode cX3_withStick 76 = .ok (.invokestatic 182, 3) := by decide +kernel
theorem dX3_withStick_79 : decode cX3_withStick 79 = .ok (.lstore 4, 2) := by decide +kernel
theorem dX3_withStick_81 : decode cX3_withStick 81 = .ok (.lload 4, 2) := by decide +kernel
theorem dX3_withStick_83 : decode cX3_withStick 83 = .ok (.aload_n 0, 1) := by decide +kernel
theorem dX3_withStick_84 : decode cX3_withStick 84 = .ok (.iload_n 3, 1) := by decide +kernel
theorem dX3_withStick_85 : decode cX3_withStick 85 = .ok (.iconst 5, 1) := by decide +kernel
theorem dX3_withStick_86 : decode cX3_withStick 86 = .ok (.invokevirtual 204, 3) := by decide +kernel
theorem dX3_withStick_89 : decode cX3_withStick 89 = .ok (.i2l, 1) := by decide +kernel
theorem dX3_withStick_90 : decode cX3_withStick 90 = .ok (.invokestatic 182, 3) := by decide +kernel
theorem dX3_withStick_93 : decode cX3_withStick 93 = .ok (.lstore 4, 2) := by decide +kernel
theorem dX3_withStick_95 : decode cX3_withStick 95 = .ok (.lload 4, 2) := by decide +kernel
theorem dX3_withStick_97 : decode cX3_withStick 97 = .ok (.aload_n 0, 1) := by decide +kernel
theorem dX3_withStick_98 : decode cX3_withStick 98 = .ok (.iload_n 3, 1) := by decide +kernel
theorem dX3_withStick_99 : decode cX3_withStick 99 = .ok (.bipush 30, 2) := by decide +kernel
theorem dX3_withStick_101 : decode cX3_withStick 101 = .ok (.invokevirtual 204, 3) := by decide +kernel
theorem dX3_withStick_104 : decode cX3_withStick 104 = .ok (.i2l, 1) := by decide +kernel
theorem dX3_withStick_105 : decode cX3_withStick 105 = .ok (.invokestatic 182, 3) := by decide +kernel
theorem dX3_withStick_108 : decode cX3_withStick 108 = .ok (.lstore 4, 2) := by decide +kernel
theorem dX3_withStick_110 : decode cX3_withStick 110 = .ok (.lload 4, 2) := by decide +kernel
theorem dX3_withStick_112 : decode cX3_withStick 112 = .ok (.aload_n 0, 1) := by decide +kernel
theorem dX3_withStick_113 : decode cX3_withStick 113 = .ok (.iconst 0, 1) := by decide +kernel
theorem dX3_withStick_114 : decode cX3_withStick 114 = .ok (.iload_n 3, 1) := by decide +kernel
theorem dX3_withStick_115 : decode cX3_withStick 115 = .ok (.invokevirtual 207, 3) := by decide +kernel
theorem dX3_withStick_118 : decode cX3_withStick 118 = .ok (.i2l, 1) := by decide +kernel
theorem dX3_withStick_119 : decode cX3_withStick 119 = .ok (.invokestatic 182, 3) := by decide +kernel
theorem dX3_withStick_122 : decode cX3_withStick 122 = .ok (.lreturn, 1) := by decide +kernel
theorem dX3_drawLateness_0 : decode cX3_drawLateness 0 = .ok (.iload_n 1, 1) := by decide +kernel
theorem dX3_drawLateness_1 : decode cX3_drawLateness 1 = .ok (.istore_n 2, 1) := by decide +kernel
theorem dX3_drawLateness_2 : decode cX3_drawLateness 2 = .ok (.iconst 0, 1) := by decide +kernel
theorem dX3_drawLateness_3 : decode cX3_drawLateness 3 = .ok (.istore_n 3, 1) := by decide +kernel
theorem dX3_drawLateness_4 : decode cX3_drawLateness 4 = .ok (.iload_n 3, 1) := by decide +kernel
theorem dX3_drawLateness_5 : decode cX3_drawLateness 5 = .ok (.aload_n 0, 1) := by decide +kernel
theorem dX3_drawLateness_6 : decode cX3_drawLateness 6 = .ok (.getfield 19, 3) := by decide +kernel
theorem dX3_drawLateness_9 : decode cX3_drawLateness 9 = .ok (.getfield 57, 3) := by decide +kernel
theorem dX3_drawLateness_12 : decode cX3_drawLateness 12 = .ok (.if_icmp .ge 37, 3) := by decide +kernel
theorem dX3_drawLateness_15 : decode cX3_drawLateness 15 = .ok (.ldc2_w 210, 3) := by decide +kernel
theorem dX3_drawLateness_18 : decode cX3_drawLateness 18 = .ok (.iload_n 2, 1) := by decide +kernel
theorem dX3_drawLateness_19 : decode cX3_drawLateness 19 = .ok (.i2l, 1) := by decide +kernel
theorem dX3_drawLateness_20 : decode cX3_drawLateness 20 = .ok (.lmul, 1) := by decide +kernel
theorem dX3_drawLateness_21 : decode cX3_drawLateness 21 = .ok (.ldc2_w 212, 3) := by decide +kernel
theorem dX3_drawLateness_24 : decode cX3_drawLateness 24 = .ok (.ladd, 1) := by decide +kernel
theorem dX3_drawLateness_25 : decode cX3_drawLateness 25 = .ok (.ldc2_w 214, 3) := by decide +kernel
theorem dX3_drawLateness_28 : decode cX3_drawLateness 28 = .ok (.land, 1) := by decide +kernel
theorem dX3_drawLateness_29 : decode cX3_drawLateness 29 = .ok (.l2i, 1) := by decide +kernel
theorem dX3_drawLateness_30 : decode cX3_drawLateness 30 = .ok (.istore_n 2, 1) := by decide +kernel
theorem dX3_drawLateness_31 : decode cX3_drawLateness 31 = .ok (.aload_n 0, 1) := by decide +kernel
theorem dX3_drawLateness_32 : decode cX3_drawLateness 32 = .ok (.getfield 26, 3) := by decide +kernel
theorem dX3_drawLateness_35 : decode cX3_drawLateness 35 = .ok (.iload_n 3, 1) := by decide +kernel
theorem dX3_drawLateness_36 : decode cX3_drawLateness 36 = .ok (.iload_n 2, 1) := by decide +kernel
theorem dX3_drawLateness_37 : decode cX3_drawLateness 37 = .ok (.ldc 135, 2) := by decide +kernel
theorem dX3_drawLateness_39 : decode cX3_drawLateness 39 = .ok (.idiv, 1) := by decide +kernel
theorem dX3_drawLateness_40 : decode cX3_drawLateness 40 = .ok (.iconst 4, 1) := by decide +kernel
theorem dX3_drawLateness_41 : decode cX3_drawLateness 41 = .ok (.irem, 1) := by decide +kernel
theorem dX3_drawLateness_42 : decode cX3_drawLateness 42 = .ok (.iastore, 1) := by decide +kernel
theorem dX3_drawLateness_43 : decode cX3_drawLateness 43 = .ok (.iinc 3 1, 3) := by decide +kernel
theorem dX3_drawLateness_46 : decode cX3_drawLateness 46 = .ok (.goto (-42), 3) := by decide +kernel
theorem dX3_drawLateness_49 : decode cX3_drawLateness 49 = .ok (.iload_n 2, 1) := by decide +kernel
theorem dX3_drawLateness_50 : decode cX3_drawLateness 50 = .ok (.ireturn, 1) := by decide +kernel
theorem dX3_stepFrom_0 : decode cX3_stepFrom 0 = .ok (.iload_n 0, 1) := by decide +kernel
theorem dX3_stepFrom_1 : decode cX3_stepFrom 1 = .ok (.iconst 4, 1) := by decide +kernel
theorem dX3_stepFrom_2 : decode cX3_stepFrom 2 = .ok (.idiv, 1) := by decide +kernel
theorem dX3_stepFrom_3 : decode cX3_stepFrom 3 = .ok (.istore_n 2, 1) := by decide +kernel
theorem dX3_stepFrom_4 : decode cX3_stepFrom 4 = .ok (.iload_n 0, 1) := by decide +kernel
theorem dX3_stepFrom_5 : decode cX3_stepFrom 5 = .ok (.iconst 4, 1) := by decide +kernel
theorem dX3_stepFrom_6 : decode cX3_stepFrom 6 = .ok (.irem, 1) := by decide +kernel
theorem dX3_stepFrom_7 : decode cX3_stepFrom 7 = .ok (.istore_n 3, 1) := by decide +kernel
theorem dX3_stepFrom_8 : decode cX3_stepFrom 8 = .ok (.iload_n 1, 1) := by decide +kernel
theorem dX3_stepFrom_9 : decode cX3_stepFrom 9 = .ok (.tableswitch 81 0 3 #[31, 43, 56, 69], 31) := by decide +kernel
theorem dX3_stepFrom_40 : decode cX3_stepFrom 40 = .ok (.iload_n 2, 1) := by decide +kernel
theorem dX3_stepFrom_41 : decode cX3_stepFrom 41 = .ok (.ifCond .le 9, 3) := by decide +kernel
theorem dX3_stepFrom_44 : decode cX3_stepFrom 44 = .ok (.iload_n 0, 1) := by decide +kernel
theorem dX3_stepFrom_45 : decode cX3_stepFrom 45 = .ok (.iconst 4, 1) := by decide +kernel
theorem dX3_stepFrom_46 : decode cX3_stepFrom 46 = .ok (.isub, 1) := by decide +kernel
theorem dX3_stepFrom_47 : decode cX3_stepFrom 47 = .ok (.goto 4, 3) := by decide +kernel
theorem dX3_stepFrom_50 : decode cX3_stepFrom 50 = .ok (.iload_n 0, 1) := by decide +kernel
theorem dX3_stepFrom_51 : decode cX3_stepFrom 51 = .ok (.ireturn, 1) := by decide +kernel
theorem dX3_stepFrom_52 : decode cX3_stepFrom 52 = .ok (.iload_n 3, 1) := by decide +kernel
theorem dX3_stepFrom_53 : decode cX3_stepFrom 53 = .ok (.iconst 3, 1) := by decide +kernel
theorem dX3_stepFrom_54 : decode cX3_stepFrom 54 = .ok (.if_icmp .ge 9, 3) := by decide +kernel
theorem dX3_stepFrom_57 : decode cX3_stepFrom 57 = .ok (.iload_n 0, 1) := by decide +kernel
theorem dX3_stepFrom_58 : decode cX3_stepFrom 58 = .ok (.iconst 1, 1) := by decide +kernel
theorem dX3_stepFrom_59 : decode cX3_stepFrom 59 = .ok (.iadd, 1) := by decide +kernel
theorem dX3_stepFrom_60 : decode cX3_stepFrom 60 = .ok (.goto 4, 3) := by decide +kernel
theorem dX3_stepFrom_63 : decode cX3_stepFrom 63 = .ok (.iload_n 0, 1) := by decide +kernel
theorem dX3_stepFrom_64 : decode cX3_stepFrom 64 = .ok (.ireturn, 1) := by decide +kernel
theorem dX3_stepFrom_65 : decode cX3_stepFrom 65 = .ok (.iload_n 2, 1) := by decide +kernel
theorem dX3_stepFrom_66 : decode cX3_stepFrom 66 = .ok (.iconst 3, 1) := by decide +kernel
theorem dX3_stepFrom_67 : decode cX3_stepFrom 67 = .ok (.if_icmp .ge 9, 3) := by decide +kernel
theorem dX3_stepFrom_70 : decode cX3_stepFrom 70 = .ok (.iload_n 0, 1) := by decide +kernel
theorem dX3_stepFrom_71 : decode cX3_stepFrom 71 = .ok (.iconst 4, 1) := by decide +kernel
theorem dX3_stepFrom_72 : decode cX3_stepFrom 72 = .ok (.iadd, 1) := by decide +kernel
theorem dX3_stepFrom_73 : decode cX3_stepFrom 73 = .ok (.goto 4, 3) := by decide +kernel
theorem dX3_stepFrom_76 : decode cX3_stepFrom 76 = .ok (.iload_n 0, 1) := by decide +kernel
theorem dX3_stepFrom_77 : decode cX3_stepFrom 77 = .ok (.ireturn, 1) := by decide +kernel
theorem dX3_stepFrom_78 : decode cX3_stepFrom 78 = .ok (.iload_n 3, 1) := by decide +kernel
theorem dX3_stepFrom_79 : decode cX3_stepFrom 79 = .ok (.ifCond .le 9, 3) := by decide +kernel
theorem dX3_stepFrom_82 : decode cX3_stepFrom 82 = .ok (.iload_n 0, 1) := by decide +kernel
theorem dX3_stepFrom_83 : decode cX3_stepFrom 83 = .ok (.iconst 1, 1) := by decide +kernel
theorem dX3_stepFrom_84 : decode cX3_stepFrom 84 = .ok (.isub, 1) := by decide +kernel
theorem dX3_stepFrom_85 : decode cX3_stepFrom 85 = .ok (.goto 4, 3) := by decide +kernel
theorem dX3_stepFrom_88 : decode cX3_stepFrom 88 = .ok (.iload_n 0, 1) := by decide +kernel
theorem dX3_stepFrom_89 : decode cX3_stepFrom 89 = .ok (.ireturn, 1) := by decide +kernel
theorem dX3_stepFrom_90 : decode cX3_stepFrom 90 = .ok (.iload_n 0, 1) := by decide +kernel
theorem dX3_stepFrom_91 : decode cX3_stepFrom 91 = .ok (.ireturn, 1) := by decide +kernel
theorem dX3_stepsBetween_0 : decode cX3_stepsBetween 0 = .ok (.iload_n 0, 1) := by decide +kernel
theorem dX3_stepsBetween_1 : decode cX3_stepsBetween 1 = .ok (.iconst 4, 1) := by decide +kernel
theorem dX3_stepsBetween_2 : decode cX3_stepsBetween 2 = .ok (.idiv, 1) := by decide +kernel
theorem dX3_stepsBetween_3 : decode cX3_stepsBetween 3 = .ok (.iload_n 1, 1) := by decide +kernel
theorem dX3_stepsBetween_4 : decode cX3_stepsBetween 4 = .ok (.iconst 4, 1) := by decide +kernel
theorem dX3_stepsBetween_5 : decode cX3_stepsBetween 5 = .ok (.idiv, 1) := by decide +kernel
theorem dX3_stepsBetween_6 : decode cX3_stepsBetween 6 = .ok (.isub, 1) := by decide +kernel
theorem dX3_stepsBetween_7 : decode cX3_stepsBetween 7 = .ok (.invokestatic 216, 3) := by decide +kernel
theorem dX3_stepsBetween_10 : decode cX3_stepsBetween 10 = .ok (.iload_n 0, 1) := by decide +kernel
theorem dX3_stepsBetween_11 : decode cX3_stepsBetween 11 = .ok (.iconst 4, 1) := by decide +kernel
theorem dX3_stepsBetween_12 : decode cX3_stepsBetween 12 = .ok (.irem, 1) := by decide +kernel
theorem dX3_stepsBetween_13 : decode cX3_stepsBetween 13 = .ok (.iload_n 1, 1) := by decide +kernel
theorem dX3_stepsBetween_14 : decode cX3_stepsBetween 14 = .ok (.iconst 4, 1) := by decide +kernel
theorem dX3_stepsBetween_15 : decode cX3_stepsBetween 15 = .ok (.irem, 1) := by decide +kernel
theorem dX3_stepsBetween_16 : decode cX3_stepsBetween 16 = .ok (.isub, 1) := by decide +kernel
theorem dX3_stepsBetween_17 : decode cX3_stepsBetween 17 = .ok (.invokestatic 216, 3) := by decide +kernel
theorem dX3_stepsBetween_20 : decode cX3_stepsBetween 20 = .ok (.iadd, 1) := by decide +kernel
theorem dX3_stepsBetween_21 : decode cX3_stepsBetween 21 = .ok (.ireturn, 1) := by decide +kernel
theorem dJ6_bitCount_0f7a4_0 : decode cJ6_bitCount_0f7a4 0 = .ok (.iload_n 0, 1) := by decide +kernel
theorem dJ6_bitCount_0f7a4_1 : decode cJ6_bitCount_0f7a4 1 = .ok (.iload_n 0, 1) := by decide +kernel
theorem dJ6_bitCount_0f7a4_2 : decode cJ6_bitCount_0f7a4 2 = .ok (.iconst 1, 1) := by decide +kernel
theorem dJ6_bitCount_0f7a4_3 : decode cJ6_bitCount_0f7a4 3 = .ok (.iushr, 1) := by decide +kernel
theorem dJ6_bitCount_0f7a4_4 : decode cJ6_bitCount_0f7a4 4 = .ok (.ldc_w 265, 3) := by decide +kernel
theorem dJ6_bitCount_0f7a4_7 : decode cJ6_bitCount_0f7a4 7 = .ok (.iand, 1) := by decide +kernel
theorem dJ6_bitCount_0f7a4_8 : decode cJ6_bitCount_0f7a4 8 = .ok (.isub, 1) := by decide +kernel
theorem dJ6_bitCount_0f7a4_9 : decode cJ6_bitCount_0f7a4 9 = .ok (.istore_n 0, 1) := by decide +kernel
theorem dJ6_bitCount_0f7a4_10 : decode cJ6_bitCount_0f7a4 10 = .ok (.iload_n 0, 1) := by decide +kernel
theorem dJ6_bitCount_0f7a4_11 : decode cJ6_bitCount_0f7a4 11 = .ok (.ldc_w 266, 3) := by decide +kernel
theorem dJ6_bitCount_0f7a4_14 : decode cJ6_bitCount_0f7a4 14 = .ok (.iand, 1) := by decide +kernel
theorem dJ6_bitCount_0f7a4_15 : decode cJ6_bitCount_0f7a4 15 = .ok (.iload_n 0, 1) := by decide +kernel
theorem dJ6_bitCount_0f7a4_16 : decode cJ6_bitCount_0f7a4 16 = .ok (.iconst 2, 1) := by decide +kernel
theorem dJ6_bitCount_0f7a4_17 : decode cJ6_bitCount_0f7a4 17 = .ok (.iushr, 1) := by decide +kernel
theorem dJ6_bitCount_0f7a4_18 : decode cJ6_bitCount_0f7a4 18 = .ok (.ldc_w 266, 3) := by decide +kernel
theorem dJ6_bitCount_0f7a4_21 : decode cJ6_bitCount_0f7a4 21 = .ok (.iand, 1) := by decide +kernel
theorem dJ6_bitCount_0f7a4_22 : decode cJ6_bitCount_0f7a4 22 = .ok (.iadd, 1) := by decide +kernel
theorem dJ6_bitCount_0f7a4_23 : decode cJ6_bitCount_0f7a4 23 = .ok (.istore_n 0, 1) := by decide +kernel
theorem dJ6_bitCount_0f7a4_24 : decode cJ6_bitCount_0f7a4 24 = .ok (.iload_n 0, 1) := by decide +kernel
theorem dJ6_bitCount_0f7a4_25 : decode cJ6_bitCount_0f7a4 25 = .ok (.iload_n 0, 1) := by decide +kernel
theorem dJ6_bitCount_0f7a4_26 : decode cJ6_bitCount_0f7a4 26 = .ok (.iconst 4, 1) := by decide +kernel
theorem dJ6_bitCount_0f7a4_27 : decode cJ6_bitCount_0f7a4 27 = .ok (.iushr, 1) := by decide +kernel
theorem dJ6_bitCount_0f7a4_28 : decode cJ6_bitCount_0f7a4 28 = .ok (.iadd, 1) := by decide +kernel
theorem dJ6_bitCount_0f7a4_29 : decode cJ6_bitCount_0f7a4 29 = .ok (.ldc_w 267, 3) := by decide +kernel
theorem dJ6_bitCount_0f7a4_32 : decode cJ6_bitCount_0f7a4 32 = .ok (.iand, 1) := by decide +kernel
theorem dJ6_bitCount_0f7a4_33 : decode cJ6_bitCount_0f7a4 33 = .ok (.istore_n 0, 1) := by decide +kernel
theorem dJ6_bitCount_0f7a4_34 : decode cJ6_bitCount_0f7a4 34 = .ok (.iload_n 0, 1) := by decide +kernel
theorem dJ6_bitCount_0f7a4_35 : decode cJ6_bitCount_0f7a4 35 = .ok (.iload_n 0, 1) := by decide +kernel
theorem dJ6_bitCount_0f7a4_36 : decode cJ6_bitCount_0f7a4 36 = .ok (.bipush 8, 2) := by decide +kernel
theorem dJ6_bitCount_0f7a4_38 : decode cJ6_bitCount_0f7a4 38 = .ok (.iushr, 1) := by decide +kernel
theorem dJ6_bitCount_0f7a4_39 : decode cJ6_bitCount_0f7a4 39 = .ok (.iadd, 1) := by decide +kernel
theorem dJ6_bitCount_0f7a4_40 : decode cJ6_bitCount_0f7a4 40 = .ok (.istore_n 0, 1) := by decide +kernel
theorem dJ6_bitCount_0f7a4_41 : decode cJ6_bitCount_0f7a4 41 = .ok (.iload_n 0, 1) := by decide +kernel
theorem dJ6_bitCount_0f7a4_42 : decode cJ6_bitCount_0f7a4 42 = .ok (.iload_n 0, 1) := by decide +kernel
theorem dJ6_bitCount_0f7a4_43 : decode cJ6_bitCount_0f7a4 43 = .ok (.bipush 16, 2) := by decide +kernel
theorem dJ6_bitCount_0f7a4_45 : decode cJ6_bitCount_0f7a4 45 = .ok (.iushr, 1) := by decide +kernel
theorem dJ6_bitCount_0f7a4_46 : decode cJ6_bitCount_0f7a4 46 = .ok (.iadd, 1) := by decide +kernel
theorem dJ6_bitCount_0f7a4_47 : decode cJ6_bitCount_0f7a4 47 = .ok (.istore_n 0, 1) := by decide +kernel
theorem dJ6_bitCount_0f7a4_48 : decode cJ6_bitCount_0f7a4 48 = .ok (.iload_n 0, 1) := by decide +kernel
theorem dJ6_bitCount_0f7a4_49 : decode cJ6_bitCount_0f7a4 49 = .ok (.bipush 63, 2) := by decide +kernel
theorem dJ6_bitCount_0f7a4_51 : decode cJ6_bitCount_0f7a4 51 = .ok (.iand, 1) := by decide +kernel
theorem dJ6_bitCount_0f7a4_52 : decode cJ6_bitCount_0f7a4 52 = .ok (.ireturn, 1) := by decide +kernel
theorem dJ0_length_8abf5_0 : decode cJ0_length_8abf5 0 = .ok (.aload_n 0, 1) := by decide +kernel
theorem dJ0_length_8abf5_1 : decode cJ0_length_8abf5 1 = .ok (.getfield 9, 3) := by decide +kernel
theorem dJ0_length_8abf5_4 : decode cJ0_length_8abf5 4 = .ok (.arraylength, 1) := by decide +kernel
theorem dJ0_length_8abf5_5 : decode cJ0_length_8abf5 5 = .ok (.aload_n 0, 1) := by decide +kernel
theorem dJ0_length_8abf5_6 : decode cJ0_length_8abf5 6 = .ok (.invokevirtual 335, 3) := by decide +kernel
theorem dJ0_length_8abf5_9 : decode cJ0_length_8abf5 9 = .ok (.ishr, 1) := by decide +kernel
theorem dJ0_length_8abf5_10 : decode cJ0_length_8abf5 10 = .ok (.ireturn, 1) := by decide +kernel
theorem dJ0_indexOf_0f7a4_0 : decode cJ0_indexOf_0f7a4 0 = .ok (.aload_n 0, 1) := by decide +kernel
theorem dJ0_indexOf_0f7a4_1 : decode cJ0_indexOf_0f7a4 1 = .ok (.iload_n 1, 1) := by decide +kernel
theorem dJ0_indexOf_0f7a4_2 : decode cJ0_indexOf_0f7a4 2 = .ok (.iconst 0, 1) := by decide +kernel
theorem dJ0_indexOf_0f7a4_3 : decode cJ0_indexOf_0f7a4 3 = .ok (.invokevirtual 633, 3) := by decide +kernel
theorem dJ0_indexOf_0f7a4_6 : decode cJ0_indexOf_0f7a4 6 = .ok (.ireturn, 1) := by decide +kernel
theorem dJ0_indexOf_7cf53_0 : decode cJ0_indexOf_7cf53 0 = .ok (.aload_n 0, 1) := by decide +kernel
theorem dJ0_indexOf_7cf53_1 : decode cJ0_indexOf_7cf53 1 = .ok (.invokevirtual 492, 3) := by decide +kernel
theorem dJ0_indexOf_7cf53_4 : decode cJ0_indexOf_7cf53 4 = .ok (.ifCond .eq 19, 3) := by decide +kernel
theorem dJ0_indexOf_7cf53_7 : decode cJ0_indexOf_7cf53 7 = .ok (.aload_n 0, 1) := by decide +kernel
theorem dJ0_indexOf_7cf53_8 : decode cJ0_indexOf_7cf53 8 = .ok (.getfield 9, 3) := by decide +kernel
theorem dJ0_indexOf_7cf53_11 : decode cJ0_indexOf_7cf53 11 = .ok (.iload_n 1, 1) := by decide +kernel
theorem dJ0_indexOf_7cf53_12 : decode cJ0_indexOf_7cf53 12 = .ok (.iload_n 2, 1) := by decide +kernel
theorem dJ0_indexOf_7cf53_13 : decode cJ0_indexOf_7cf53 13 = .ok (.aload_n 0, 1) := by decide +kernel
theorem dJ0_indexOf_7cf53_14 : decode cJ0_indexOf_7cf53 14 = .ok (.invokevirtual 505, 3) := by decide +kernel
theorem dJ0_indexOf_7cf53_17 : decode cJ0_indexOf_7cf53 17 = .ok (.invokestatic 637, 3) := by decide +kernel
theorem dJ0_indexOf_7cf53_20 : decode cJ0_indexOf_7cf53 20 = .ok (.goto 16, 3) := by decide +kernel
theorem dJ0_indexOf_7cf53_23 : decode cJ0_indexOf_7cf53 23 = .ok (.aload_n 0, 1) := by decide +kernel
theorem dJ0_indexOf_7cf53_24 : decode cJ0_indexOf_7cf53 24 = .ok (.getfield 9, 3) := by decide +kernel
theorem dJ0_indexOf_7cf53_27 : decode cJ0_indexOf_7cf53 27 = .ok (.iload_n 1, 1) := by decide +kernel
theorem dJ0_indexOf_7cf53_28 : decode cJ0_indexOf_7cf53 28 = .ok (.iload_n 2, 1) := by decide +kernel
theorem dJ0_indexOf_7cf53_29 : decode cJ0_indexOf_7cf53 29 = .ok (.aload_n 0, 1) := by decide +kernel
theorem dJ0_indexOf_7cf53_30 : decode cJ0_indexOf_7cf53 30 = .ok (.invokevirtual 505, 3) := by decide +kernel
theorem dJ0_indexOf_7cf53_33 : decode cJ0_indexOf_7cf53 33 = .ok (.invokestatic 640, 3) := by decide +kernel
theorem dJ0_indexOf_7cf53_36 : decode cJ0_indexOf_7cf53 36 = .ok (.ireturn, 1) := by decide +kernel
theorem dJ0_coder_7d493_0 : decode cJ0_coder_7d493 0 = .ok (.getstatic 38, 3) := by decide +kernel
theorem dJ0_coder_7d493_3 : decode cJ0_coder_7d493 3 = .ok (.ifCond .eq 10, 3) := by decide +kernel
theorem dJ0_coder_7d493_6 : decode cJ0_coder_7d493 6 = .ok (.aload_n 0, 1) := by decide +kernel
theorem dJ0_coder_7d493_7 : decode cJ0_coder_7d493 7 = .ok (.getfield 15, 3) := by decide +kernel
theorem dJ0_coder_7d493_10 : decode cJ0_coder_7d493 10 = .ok (.goto 4, 3) := by decide +kernel
theorem dJ0_coder_7d493_13 : decode cJ0_coder_7d493 13 = .ok (.iconst 1, 1) := by decide +kernel
theorem dJ0_coder_7d493_14 : decode cJ0_coder_7d493 14 = .ok (.ireturn, 1) := by decide +kernel
theorem dJ0_isLatin1_aae02_0 : decode cJ0_isLatin1_aae02 0 = .ok (.getstatic 38, 3) := by decide +kernel
theorem dJ0_isLatin1_aae02_3 : decode cJ0_isLatin1_aae02 3 = .ok (.ifCond .eq 14, 3) := by decide +kernel
theorem dJ0_isLatin1_aae02_6 : decode cJ0_isLatin1_aae02 6 = .ok (.aload_n 0, 1) := by decide +kernel
theorem dJ0_isLatin1_aae02_7 : decode cJ0_isLatin1_aae02 7 = .ok (.getfield 15, 3) := by decide +kernel
theorem dJ0_isLatin1_aae02_10 : decode cJ0_isLatin1_aae02 10 = .ok (.ifCond .ne 7, 3) := by decide +kernel
theorem dJ0_isLatin1_aae02_13 : decode cJ0_isLatin1_aae02 13 = .ok (.iconst 1, 1) := by decide +kernel
theorem dJ0_isLatin1_aae02_14 : decode cJ0_isLatin1_aae02 14 = .ok (.goto 4, 3) := by decide +kernel
theorem dJ0_isLatin1_aae02_17 : decode cJ0_isLatin1_aae02 17 = .ok (.iconst 0, 1) := by decide +kernel
theorem dJ0_isLatin1_aae02_18 : decode cJ0_isLatin1_aae02 18 = .ok (.ireturn, 1) := by decide +kernel
theorem dJ0_checkBoundsBeginEnd_23922_0 : decode cJ0_checkBoundsBeginEnd_23922 0 = .ok (.iload_n 0, 1) := by decide +kernel
theorem dJ0_checkBoundsBeginEnd_23922_1 : decode cJ0_checkBoundsBeginEnd_23922 1 = .ok (.iload_n 1, 1) := by decide +kernel
theorem dJ0_checkBoundsBeginEnd_23922_2 : decode cJ0_checkBoundsBeginEnd_23922 2 = .ok (.iload_n 2, 1) := by decide +kernel
theorem dJ0_checkBoundsBeginEnd_23922_3 : decode cJ0_checkBoundsBeginEnd_23922 3 = .ok (.getstatic 1053, 3) := by decide +kernel
theorem dJ0_checkBoundsBeginEnd_23922_6 : decode cJ0_checkBoundsBeginEnd_23922 6 = .ok (.invokestatic 1062, 3) := by decide +kernel
theorem dJ0_checkBoundsBeginEnd_23922_9 : decode cJ0_checkBoundsBeginEnd_23922 9 = .ok (.pop, 1) := by decide +kernel
theorem dJ0_checkBoundsBeginEnd_23922_10 : decode cJ0_checkBoundsBeginEnd_23922 10 = .ok (.return_, 1) := by decide +kernel
theorem dJ1_canEncode_9a6ad_0 : decode cJ1_canEncode_9a6ad 0 = .ok (.iload_n 0, 1) := by decide +kernel
theorem dJ1_canEncode_9a6ad_1 : decode cJ1_canEncode_9a6ad 1 = .ok (.ifCond .lt 14, 3) := by decide +kernel
theorem dJ1_canEncode_9a6ad_4 : decode cJ1_canEncode_9a6ad 4 = .ok (.iload_n 0, 1) := by decide +kernel
theorem dJ1_canEncode_9a6ad_5 : decode cJ1_canEncode_9a6ad 5 = .ok (.sipush 255, 3) := by decide +kernel
theorem dJ1_canEncode_9a6ad_8 : decode cJ1_canEncode_9a6ad 8 = .ok (.if_icmp .gt 7, 3) := by decide +kernel
theorem dJ1_canEncode_9a6ad_11 : decode cJ1_canEncode_9a6ad 11 = .ok (.iconst 1, 1) := by decide +kernel
theorem dJ1_canEncode_9a6ad_12 : decode cJ1_canEncode_9a6ad 12 = .ok (.goto 4, 3) := by decide +kernel
theorem dJ1_canEncode_9a6ad_15 : decode cJ1_canEncode_9a6ad 15 = .ok (.iconst 0, 1) := by decide +kernel
theorem dJ1_canEncode_9a6ad_16 : decode cJ1_canEncode_9a6ad 16 = .ok (.ireturn, 1) := by decide +kernel
theorem dJ1_indexOf_4cfef_0 : decode cJ1_indexOf_4cfef 0 = .ok (.iload_n 1, 1) := by decide +kernel
theorem dJ1_indexOf_4cfef_1 : decode cJ1_indexOf_4cfef 1 = .ok (.invokestatic 88, 3) := by decide +kernel
theorem dJ1_indexOf_4cfef_4 : decode cJ1_indexOf_4cfef 4 = .ok (.ifCond .ne 5, 3) := by decide +kernel
theorem dJ1_indexOf_4cfef_7 : decode cJ1_indexOf_4cfef 7 = .ok (.iconst (-1), 1) := by decide +kernel
theorem dJ1_indexOf_4cfef_8 : decode cJ1_indexOf_4cfef 8 = .ok (.ireturn, 1) := by decide +kernel
theorem dJ1_indexOf_4cfef_9 : decode cJ1_indexOf_4cfef 9 = .ok (.iload_n 2, 1) := by decide +kernel
theorem dJ1_indexOf_4cfef_10 : decode cJ1_indexOf_4cfef 10 = .ok (.iconst 0, 1) := by decide +kernel
theorem dJ1_indexOf_4cfef_11 : decode cJ1_indexOf_4cfef 11 = .ok (.invokestatic 92, 3) := by decide +kernel
theorem dJ1_indexOf_4cfef_14 : decode cJ1_indexOf_4cfef 14 = .ok (.istore_n 2, 1) := by decide +kernel
theorem dJ1_indexOf_4cfef_15 : decode cJ1_indexOf_4cfef 15 = .ok (.iload_n 3, 1) := by decide +kernel
theorem dJ1_indexOf_4cfef_16 : decode cJ1_indexOf_4cfef 16 = .ok (.aload_n 0, 1) := by decide +kernel
theorem dJ1_indexOf_4cfef_17 : decode cJ1_indexOf_4cfef 17 = .ok (.arraylength, 1) := by decide +kernel
theorem dJ1_indexOf_4cfef_18 : decode cJ1_indexOf_4cfef 18 = .ok (.invokestatic 38, 3) := by decide +kernel
theorem dJ1_indexOf_4cfef_21 : decode cJ1_indexOf_4cfef 21 = .ok (.istore_n 3, 1) := by decide +kernel
theorem dJ1_indexOf_4cfef_22 : decode cJ1_indexOf_4cfef 22 = .ok (.iload_n 2, 1) := by decide +kernel
theorem dJ1_indexOf_4cfef_23 : decode cJ1_indexOf_4cfef 23 = .ok (.iload_n 3, 1) := by decide +kernel
theorem dJ1_indexOf_4cfef_24 : decode cJ1_indexOf_4cfef 24 = .ok (.if_icmp .lt 5, 3) := by decide +kernel
theorem dJ1_indexOf_4cfef_27 : decode cJ1_indexOf_4cfef 27 = .ok (.iconst (-1), 1) := by decide +kernel
theorem dJ1_indexOf_4cfef_28 : decode cJ1_indexOf_4cfef 28 = .ok (.ireturn, 1) := by decide +kernel
theorem dJ1_indexOf_4cfef_29 : decode cJ1_indexOf_4cfef 29 = .ok (.aload_n 0, 1) := by decide +kernel
theorem dJ1_indexOf_4cfef_30 : decode cJ1_indexOf_4cfef 30 = .ok (.iload_n 1, 1) := by decide +kernel
theorem dJ1_indexOf_4cfef_31 : decode cJ1_indexOf_4cfef 31 = .ok (.iload_n 2, 1) := by decide +kernel
theorem dJ1_indexOf_4cfef_32 : decode cJ1_indexOf_4cfef 32 = .ok (.iload_n 3, 1) := by decide +kernel
theorem dJ1_indexOf_4cfef_33 : decode cJ1_indexOf_4cfef 33 = .ok (.invokestatic 95, 3) := by decide +kernel
theorem dJ1_indexOf_4cfef_36 : decode cJ1_indexOf_4cfef 36 = .ok (.ireturn, 1) := by decide +kernel
theorem dJ1_indexOfChar_4cfef_0 : decode cJ1_indexOfChar_4cfef 0 = .ok (.iload_n 1, 1) := by decide +kernel
theorem dJ1_indexOfChar_4cfef_1 : decode cJ1_indexOfChar_4cfef 1 = .ok (.i2b, 1) := by decide +kernel
theorem dJ1_indexOfChar_4cfef_2 : decode cJ1_indexOfChar_4cfef 2 = .ok (.istore 4, 2) := by decide +kernel
theorem dJ1_indexOfChar_4cfef_4 : decode cJ1_indexOfChar_4cfef 4 = .ok (.iload_n 2, 1) := by decide +kernel
theorem dJ1_indexOfChar_4cfef_5 : decode cJ1_indexOfChar_4cfef 5 = .ok (.istore 5, 2) := by decide +kernel
theorem dJ1_indexOfChar_4cfef_7 : decode cJ1_indexOfChar_4cfef 7 = .ok (.iload 5, 2) := by decide +kernel
theorem dJ1_indexOfChar_4cfef_9 : decode cJ1_indexOfChar_4cfef 9 = .ok (.iload_n 3, 1) := by decide +kernel
theorem dJ1_indexOfChar_4cfef_10 : decode cJ1_indexOfChar_4cfef 10 = .ok (.if_icmp .ge 21, 3) := by decide +kernel
theorem dJ1_indexOfChar_4cfef_13 : decode cJ1_indexOfChar_4cfef 13 = .ok (.aload_n 0, 1) := by decide +kernel
theorem dJ1_indexOfChar_4cfef_14 : decode cJ1_indexOfChar_4cfef 14 = .ok (.iload 5, 2) := by decide +kernel
theorem dJ1_indexOfChar_4cfef_16 : decode cJ1_indexOfChar_4cfef 16 = .ok (.baload, 1) := by decide +kernel
theorem dJ1_indexOfChar_4cfef_17 : decode cJ1_indexOfChar_4cfef 17 = .ok (.iload 4, 2) := by decide +kernel
theorem dJ1_indexOfChar_4cfef_19 : decode cJ1_indexOfChar_4cfef 19 = .ok (.if_icmp .ne 6, 3) := by decide +kernel
theorem dJ1_indexOfChar_4cfef_22 : decode cJ1_indexOfChar_4cfef 22 = .ok (.iload 5, 2) := by decide +kernel
theorem dJ1_indexOfChar_4cfef_24 : decode cJ1_indexOfChar_4cfef 24 = .ok (.ireturn, 1) := by decide +kernel
theorem dJ1_indexOfChar_4cfef_25 : decode cJ1_indexOfChar_4cfef 25 = .ok (.iinc 5 1, 3) := by decide +kernel
theorem dJ1_indexOfChar_4cfef_28 : decode cJ1_indexOfChar_4cfef 28 = .ok (.goto (-21), 3) := by decide +kernel
theorem dJ1_indexOfChar_4cfef_31 : decode cJ1_indexOfChar_4cfef 31 = .ok (.iconst (-1), 1) := by decide +kernel
theorem dJ1_indexOfChar_4cfef_32 : decode cJ1_indexOfChar_4cfef 32 = .ok (.ireturn, 1) := by decide +kernel
end
section
theorem dX4_init_0 : decode cX4_init 0 = .ok (.aload_n 0, 1) := by decide +kernel
theorem dX4_init_1 : decode cX4_init 1 = .ok (.invokespecial 1, 3) := by decide +kernel
theorem dX4_init_4 : decode cX4_init 4 = .ok (.aload_n 0, 1) := by decide +kernel
theorem dX4_init_5 : decode cX4_init 5 = .ok (.bipush 32, 2) := by decide +kernel
theorem dX4_init_7 : decode cX4_init 7 = .ok (.newarray .int, 2) := by decide +kernel
theorem dX4_init_9 : decode cX4_init 9 = .ok (.putfield 7, 3) := by decide +kernel
theorem dX4_init_12 : decode cX4_init 12 = .ok (.aload_n 0, 1) := by decide +kernel
theorem dX4_init_13 : decode cX4_init 13 = .ok (.bipush 36, 2) := by decide +kernel
theorem dX4_init_15 : decode cX4_init 15 = .ok (.newarray .int, 2) := by decide +kernel
theorem dX4_init_17 : decode cX4_init 17 = .ok (.putfield 13, 3) := by decide +kernel
theorem dX4_init_20 : decode cX4_init 20 = .ok (.aload_n 0, 1) := by decide +kernel
theorem dX4_init_21 : decode cX4_init 21 = .ok (.bipush 54, 2) := by decide +kernel
theorem dX4_init_23 : decode cX4_init 23 = .ok (.newarray .int, 2) := by decide +kernel
theorem dX4_init_25 : decode cX4_init 25 = .ok (.putfield 16, 3) := by decide +kernel
theorem dX4_init_28 : decode cX4_init 28 = .ok (.aload_n 0, 1) := by decide +kernel
theorem dX4_init_29 : decode cX4_init 29 = .ok (.bipush 6, 2) := by decide +kernel
theorem dX4_init_31 : decode cX4_init 31 = .ok (.newarray .int, 2) := by decide +kernel
theorem dX4_init_33 : decode cX4_init 33 = .ok (.putfield 19, 3) := by decide +kernel
theorem dX4_init_36 : decode cX4_init 36 = .ok (.aload_n 0, 1) := by decide +kernel
theorem dX4_init_37 : decode cX4_init 37 = .ok (.bipush 16, 2) := by decide +kernel
theorem dX4_init_39 : decode cX4_init 39 = .ok (.newarray .int, 2) := by decide +kernel
theorem dX4_init_41 : decode cX4_init 41 = .ok (.putfield 22, 3) := by decide +kernel
theorem dX4_init_44 : decode cX4_init 44 = .ok (.aload_n 0, 1) := by decide +kernel
theorem dX4_init_45 : decode cX4_init 45 = .ok (.bipush 16, 2) := by decide +kernel
theorem dX4_init_47 : decode cX4_init 47 = .ok (.newarray .int, 2) := by decide +kernel
theorem dX4_init_49 : decode cX4_init 49 = .ok (.putfield 25, 3) := by decide +kernel
theorem dX4_init_52 : decode cX4_init 52 = .ok (.aload_n 0, 1) := by decide +kernel
theorem dX4_init_53 : decode cX4_init 53 = .ok (.bipush 54, 2) := by decide +kernel
theorem dX4_init_55 : decode cX4_init 55 = .ok (.newarray .int, 2) := by decide +kernel
theorem dX4_init_57 : decode cX4_init 57 = .ok (.putfield 28, 3) := by decide +kernel
theorem dX4_init_60 : decode cX4_init 60 = .ok (.aload_n 0, 1) := by decide +kernel
theorem dX4_init_61 : decode cX4_init 61 = .ok (.bipush 54, 2) := by decide +kernel
theorem dX4_init_63 : decode cX4_init 63 = .ok (.newarray .int, 2) := by decide +kernel
theorem dX4_init_65 : decode cX4_init 65 = .ok (.putfield 31, 3) := by decide +kernel
theorem dX4_init_68 : decode cX4_init 68 = .ok (.aload_n 0, 1) := by decide +kernel
theorem dX4_init_69 : decode cX4_init 69 = .ok (.bipush 16, 2) := by decide +kernel
theorem dX4_init_71 : decode cX4_init 71 = .ok (.newarray .int, 2) := by decide +kernel
theorem dX4_init_73 : decode cX4_init 73 = .ok (.putfield 34, 3) := by decide +kernel
theorem dX4_init_76 : decode cX4_init 76 = .ok (.aload_n 0, 1) := by decide +kernel
theorem dX4_init_77 : decode cX4_init 77 = .ok (.iconst (-1), 1) := by decide +kernel
theorem dX4_init_78 : decode cX4_init 78 = .ok (.putfield 37, 3) := by decide +kernel
theorem dX4_init_81 : decode cX4_init 81 = .ok (.return_, 1) := by decide +kernel
theorem dX4_in_0 : decode cX4_in 0 = .ok (.lload_n 0, 1) := by decide +kernel
theorem dX4_in_1 : decode cX4_in 1 = .ok (.lload_n 2, 1) := by decide +kernel
theorem dX4_in_2 : decode cX4_in 2 = .ok (.lcmp, 1) := by decide +kernel
theorem dX4_in_3 : decode cX4_in 3 = .ok (.ifCond .lt 14, 3) := by decide +kernel
theorem dX4_in_6 : decode cX4_in 6 = .ok (.lload_n 0, 1) := by decide +kernel
theorem dX4_in_7 : decode cX4_in 7 = .ok (.lload 4, 2) := by decide +kernel
theorem dX4_in_9 : decode cX4_in 9 = .ok (.lcmp, 1) := by decide +kernel
theorem dX4_in_10 : decode cX4_in 10 = .ok (.ifCond .gt 7, 3) := by decide +kernel
theorem dX4_in_13 : decode cX4_in 13 = .ok (.iconst 1, 1) := by decide +kernel
theorem dX4_in_14 : decode cX4_in 14 = .ok (.goto 4, 3) := by decide +kernel
theorem dX4_in_17 : decode cX4_in 17 = .ok (.iconst 0, 1) := by decide +kernel
theorem dX4_in_18 : decode cX4_in 18 = .ok (.ireturn, 1) := by decide +kernel
theorem dX4_copy_0 : decode cX4_copy 0 = .ok (.iconst 0, 1) := by decide +kernel
theorem dX4_copy_1 : decode cX4_copy 1 = .ok (.istore_n 2, 1) := by decide +kernel
theorem dX4_copy_2 : decode cX4_copy 2 = .ok (.iload_n 2, 1) := by decide +kernel
theorem dX4_copy_3 : decode cX4_copy 3 = .ok (.aload_n 0, 1) := by decide +kernel
theorem dX4_copy_4 : decode cX4_copy 4 = .ok (.arraylength, 1) := by decide +kernel
theorem dX4_copy_5 : decode cX4_copy 5 = .ok (.if_icmp .ge 15, 3) := by decide +kernel
theorem dX4_copy_8 : decode cX4_copy 8 = .ok (.aload_n 1, 1) := by decide +kernel
theorem dX4_copy_9 : decode cX4_copy 9 = .ok (.iload_n 2, 1) := by decide +kernel
theorem dX4_copy_10 : decode cX4_copy 10 = .ok (.aload_n 0, 1) := by decide +kernel
theorem dX4_copy_11 : decode cX4_copy 11 = .ok (.iload_n 2, 1) := by decide +kernel
theorem dX4_copy_12 : decode cX4_copy 12 = .ok (.iaload, 1) := by decide +kernel
theorem dX4_copy_13 : decode cX4_copy 13 = .ok (.iastore, 1) := by decide +kernel
theorem dX4_copy_14 : decode cX4_copy 14 = .ok (.iinc 2 1, 3) := by decide +kernel
theorem dX4_copy_17 : decode cX4_copy 17 = .ok (.goto (-15), 3) := by decide +kernel
theorem dX4_copy_20 : decode cX4_copy 20 = .ok (.return_, 1) := by decide +kernel
theorem dX4_ones_0 : decode cX4_ones 0 = .ok (.iconst 0, 1) := by decide +kernel
theorem dX4_ones_1 : decode cX4_ones 1 = .ok (.istore_n 1, 1) := by decide +kernel
theorem dX4_ones_2 : decode cX4_ones 2 = .ok (.iconst 0, 1) := by decide +kernel
theorem dX4_ones_3 : decode cX4_ones 3 = .ok (.istore_n 2, 1) := by decide +kernel
theorem dX4_ones_4 : decode cX4_ones 4 = .ok (.iload_n 2, 1) := by decide +kernel
theorem dX4_ones_5 : decode cX4_ones 5 = .ok (.bipush 16, 2) := by decide +kernel
theorem dX4_ones_7 : decode cX4_ones 7 = .ok (.if_icmp .ge 17, 3) := by decide +kernel
theorem dX4_ones_10 : decode cX4_ones 10 = .ok (.iload_n 1, 1) := by decide +kernel
theorem dX4_ones_11 : decode cX4_ones 11 = .ok (.iload_n 0, 1) := by decide +kernel
theorem dX4_ones_12 : decode cX4_ones 12 = .ok (.iload_n 2, 1) := by decide +kernel
theorem dX4_ones_13 : decode cX4_ones 13 = .ok (.ishr, 1) := by decide +kernel
theorem dX4_ones_14 : decode cX4_ones 14 = .ok (.iconst 1, 1) := by decide +kernel
theorem dX4_ones_15 : decode cX4_ones 15 = .ok (.iand, 1) := by decide +kernel
theorem dX4_ones_16 : decode cX4_ones 16 = .ok (.iadd, 1) := by decide +kernel
theorem dX4_ones_17 : decode cX4_ones 17 = .ok (.istore_n 1, 1) := by decide +kernel
theorem dX4_ones_18 : decode cX4_ones 18 = .ok (.iinc 2 1, 3) := by decide +kernel
theorem dX4_ones_21 : decode cX4_ones 21 = .ok (.goto (-17), 3) := by decide +kernel
theorem dX4_ones_24 : decode cX4_ones 24 = .ok (.iload_n 1, 1) := by decide +kernel
theorem dX4_ones_25 : decode cX4_ones 25 = .ok (.ireturn, 1) := by decide +kernel
theorem dX4_letter_0 : decode cX4_letter 0 = .ok (.iload_n 1, 1) := by decide +kernel
theorem dX4_letter_1 : decode cX4_letter 1 = .ok (.i2l, 1) := by decide +kernel
theorem dX4_letter_2 : decode cX4_letter 2 = .ok (.lconst 1, 1) := by decide +kernel
theorem dX4_letter_3 : decode cX4_letter 3 = .ok (.ldc2_w 41, 3) := by decide +kernel
theorem dX4_letter_6 : decode cX4_letter 6 = .ok (.invokestatic 43, 3) := by decide +kernel
theorem dX4_letter_9 : decode cX4_letter 9 = .ok (.ifCond .ne 6, 3) := by decide +kernel
theorem dX4_letter_12 : decode cX4_letter 12 = .ok (.bipush (-102), 2) := by decide +kernel
theorem dX4_letter_14 : decode cX4_letter 14 = .ok (.ireturn, 1) := by decide +kernel
theorem dX4_letter_15 : decode cX4_letter 15 = .ok (.aload_n 0, 1) := by decide +kernel
theorem dX4_letter_16 : decode cX4_letter 16 = .ok (.getfield 47, 3) := by decide +kernel
theorem dX4_letter_19 : decode cX4_letter 19 = .ok (.bipush 32, 2) := by decide +kernel
theorem dX4_letter_21 : decode cX4_letter 21 = .ok (.if_icmp .ne 6, 3) := by decide +kernel
theorem dX4_letter_24 : decode cX4_letter 24 = .ok (.bipush (-104), 2) := by decide +kernel
theorem dX4_letter_26 : decode cX4_letter 26 = .ok (.ireturn, 1) := by decide +kernel
theorem dX4_letter_27 : decode cX4_letter 27 = .ok (.aload_n 0, 1) := by decide +kernel
theorem dX4_letter_28 : decode cX4_letter 28 = .ok (.getfield 7, 3) := by decide +kernel
theorem dX4_letter_31 : decode cX4_letter 31 = .ok (.aload_n 0, 1) := by decide +kernel
theorem dX4_letter_32 : decode cX4_letter 32 = .ok (.getfield 47, 3) := by decide +kernel
theorem dX4_letter_35 : decode cX4_letter 35 = .ok (.iload_n 1, 1) := by decide +kernel
theorem dX4_letter_36 : decode cX4_letter 36 = .ok (.iastore, 1) := by decide +kernel
theorem dX4_letter_37 : decode cX4_letter 37 = .ok (.aload_n 0, 1) := by decide +kernel
theorem dX4_letter_38 : decode cX4_letter 38 = .ok (.dup, 1) := by decide +kernel
theorem dX4_letter_39 : decode cX4_letter 39 = .ok (.getfield 47, 3) := by decide +kernel
theorem dX4_letter_42 : decode cX4_letter 42 = .ok (.iconst 1, 1) := by decide +kernel
theorem dX4_letter_43 : decode cX4_letter 43 = .ok (.iadd, 1) := by decide +kernel
theorem dX4_letter_44 : decode cX4_letter 44 = .ok (.putfield 47, 3) := by decide +kernel
theorem dX4_letter_47 : decode cX4_letter 47 = .ok (.aload_n 0, 1) := by decide +kernel
theorem dX4_letter_48 : decode cX4_letter 48 = .ok (.getfield 47, 3) := by decide +kernel
theorem dX4_letter_51 : decode cX4_letter 51 = .ok (.ireturn, 1) := by decide +kernel
theorem dX4_blank_0 : decode cX4_blank 0 = .ok (.aload_n 0, 1) := by decide +kernel
theorem dX4_blank_1 : decode cX4_blank 1 = .ok (.getfield 47, 3) := by decide +kernel
theorem dX4_blank_4 : decode cX4_blank 4 = .ok (.istore_n 1, 1) := by decide +kernel
theorem dX4_blank_5 : decode cX4_blank 5 = .ok (.aload_n 0, 1) := by decide +kernel
theorem dX4_blank_6 : decode cX4_blank 6 = .ok (.iconst 0, 1) := by decide +kernel
theorem dX4_blank_7 : decode cX4_blank 7 = .ok (.putfield 47, 3) := by decide +kernel
theorem dX4_blank_10 : decode cX4_blank 10 = .ok (.iload_n 1, 1) := by decide +kernel
theorem dX4_blank_11 : decode cX4_blank 11 = .ok (.ireturn, 1) := by decide +kernel
theorem dX4_kindBy_0 : decode cX4_kindBy 0 = .ok (.iload_n 0, 1) := by decide +kernel
theorem dX4_kindBy_1 : decode cX4_kindBy 1 = .ok (.bipush 107, 2) := by decide +kernel
theorem dX4_kindBy_3 : decode cX4_kindBy 3 = .ok (.if_icmp .ne 7, 3) := by decide +kernel
theorem dX4_kindBy_6 : decode cX4_kindBy 6 = .ok (.iconst 0, 1) := by decide +kernel
theorem dX4_kindBy_7 : decode cX4_kindBy 7 = .ok (.goto 44, 3) := by decide +kernel
theorem dX4_kindBy_10 : decode cX4_kindBy 10 = .ok (.iload_n 0, 1) := by decide +kernel
theorem dX4_kindBy_11 : decode cX4_kindBy 11 = .ok (.bipush 99, 2) := by decide +kernel
theorem dX4_kindBy_13 : decode cX4_kindBy 13 = .ok (.if_icmp .ne 7, 3) := by decide +kernel
theorem dX4_kindBy_16 : decode cX4_kindBy 16 = .ok (.iconst 1, 1) := by decide +kernel
theorem dX4_kindBy_17 : decode cX4_kindBy 17 = .ok (.goto 34, 3) := by decide +kernel
theorem dX4_kindBy_20 : decode cX4_kindBy 20 = .ok (.iload_n 0, 1) := by decide +kernel
theorem dX4_kindBy_21 : decode cX4_kindBy 21 = .ok (.bipush 108, 2) := by decide +kernel
theorem dX4_kindBy_23 : decode cX4_kindBy 23 = .ok (.if_icmp .ne 7, 3) := by decide +kernel
theorem dX4_kindBy_26 : decode cX4_kindBy 26 = .ok (.iconst 2, 1) := by decide +kernel
theorem dX4_kindBy_27 : decode cX4_kindBy 27 = .ok (.goto 24, 3) := by decide +kernel
theorem dX4_kindBy_30 : decode cX4_kindBy 30 = .ok (.iload_n 0, 1) := by decide +kernel
theorem dX4_kindBy_31 : decode cX4_kindBy 31 = .ok (.bipush 120, 2) := by decide +kernel
theorem dX4_kindBy_33 : decode cX4_kindBy 33 = .ok (.if_icmp .ne 7, 3) := by decide +kernel
theorem dX4_kindBy_36 : decode cX4_kindBy 36 = .ok (.iconst 3, 1) := by decide +kernel
theorem dX4_kindBy_37 : decode cX4_kindBy 37 = .ok (.goto 14, 3) := by decide +kernel
theorem dX4_kindBy_40 : decode cX4_kindBy 40 = .ok (.iload_n 0, 1) := by decide +kernel
theorem dX4_kindBy_41 : decode cX4_kindBy 41 = .ok (.bipush 97, 2) := by decide +kernel
theorem dX4_kindBy_43 : decode cX4_kindBy 43 = .ok (.if_icmp .ne 7, 3) := by decide +kernel
theorem dX4_kindBy_46 : decode cX4_kindBy 46 = .ok (.iconst 4, 1) := by decide +kernel
theorem dX4_kindBy_47 : decode cX4_kindBy 47 = .ok (.goto 4, 3) := by decide +kernel
theorem dX4_kindBy_50 : decode cX4_kindBy 50 = .ok (.iconst (-1), 1) := by decide +kernel
theorem dX4_kindBy_51 : decode cX4_kindBy 51 = .ok (.ireturn, 1) := by decide +kernel
theorem dX4_stepBy_0 : decode cX4_stepBy 0 = .ok (.iload_n 0, 1) := by decide +kernel
theorem dX4_stepBy_1 : decode cX4_stepBy 1 = .ok (.bipush 110, 2) := by decide +kernel
theorem dX4_stepBy_3 : decode cX4_stepBy 3 = .ok (.if_icmp .ne 7, 3) := by decide +kernel
theorem dX4_stepBy_6 : decode cX4_stepBy 6 = .ok (.iconst 0, 1) := by decide +kernel
theorem dX4_stepBy_7 : decode cX4_stepBy 7 = .ok (.goto 34, 3) := by decide +kernel
theorem dX4_stepBy_10 : decode cX4_stepBy 10 = .ok (.iload_n 0, 1) := by decide +kernel
theorem dX4_stepBy_11 : decode cX4_stepBy 11 = .ok (.bipush 101, 2) := by decide +kernel
theorem dX4_stepBy_13 : decode cX4_stepBy 13 = .ok (.if_icmp .ne 7, 3) := by decide +kernel
theorem dX4_stepBy_16 : decode cX4_stepBy 16 = .ok (.iconst 1, 1) := by decide +kernel
theorem dX4_stepBy_17 : decode cX4_stepBy 17 = .ok (.goto 24, 3) := by decide +kernel
theorem dX4_stepBy_20 : decode cX4_stepBy 20 = .ok (.iload_n 0, 1) := by decide +kernel
theorem dX4_stepBy_21 : decode cX4_stepBy 21 = .ok (.bipush 115, 2) := by decide +kernel
theorem dX4_stepBy_23 : decode cX4_stepBy 23 = .ok (.if_icmp .ne 7, 3) := by decide +kernel
theorem dX4_stepBy_26 : decode cX4_stepBy 26 = .ok (.iconst 2, 1) := by decide +kernel
theorem dX4_stepBy_27 : decode cX4_stepBy 27 = .ok (.goto 14, 3) := by decide +kernel
theorem dX4_stepBy_30 : decode cX4_stepBy 30 = .ok (.iload_n 0, 1) := by decide +kernel
theorem dX4_stepBy_31 : decode cX4_stepBy 31 = .ok (.bipush 119, 2) := by decide +kernel
theorem dX4_stepBy_33 : decode cX4_stepBy 33 = .ok (.if_icmp .ne 7, 3) := by decide +kernel
theorem dX4_stepBy_36 : decode cX4_stepBy 36 = .ok (.iconst 3, 1) := by decide +kernel
theorem dX4_stepBy_37 : decode cX4_stepBy 37 = .ok (.goto 4, 3) := by decide +kernel
theorem dX4_stepBy_40 : decode cX4_stepBy 40 = .ok (.iconst (-1), 1) := by decide +kernel
theorem dX4_stepBy_41 : decode cX4_stepBy 41 = .ok (.ireturn, 1) := by decide +kernel
theorem dX4_go_0 : decode cX4_go 0 = .ok (.bipush 9, 2) := by decide +kernel
theorem dX4_go_2 : decode cX4_go 2 = .ok (.aload_n 0, 1) := by decide +kernel
theorem dX4_go_3 : decode cX4_go 3 = .ok (.getfield 50, 3) := by decide +kernel
theorem dX4_go_6 : decode cX4_go 6 = .ok (.imul, 1) := by decide +kernel
theorem dX4_go_7 : decode cX4_go 7 = .ok (.istore_n 2, 1) := by decide +kernel
theorem dX4_go_8 : decode cX4_go 8 = .ok (.aload_n 0, 1) := by decide +kernel
theorem dX4_go_9 : decode cX4_go 9 = .ok (.getfield 53, 3) := by decide +kernel
theorem dX4_go_12 : decode cX4_go 12 = .ok (.ifCond .ne 32, 3) := by decide +kernel
theorem dX4_go_15 : decode cX4_go 15 = .ok (.aload_n 0, 1) := by decide +kernel
theorem dX4_go_16 : decode cX4_go 16 = .ok (.getfield 13, 3) := by decide +kernel
theorem dX4_go_19 : decode cX4_go 19 = .ok (.iload_n 2, 1) := by decide +kernel
theorem dX4_go_20 : decode cX4_go 20 = .ok (.iload_n 1, 1) := by decide +kernel
theorem dX4_go_21 : decode cX4_go 21 = .ok (.invokestatic 56, 3) := by decide +kernel
theorem dX4_go_24 : decode cX4_go 24 = .ok (.iastore, 1) := by decide +kernel
theorem dX4_go_25 : decode cX4_go 25 = .ok (.aload_n 0, 1) := by decide +kernel
theorem dX4_go_26 : decode cX4_go 26 = .ok (.iconst 1, 1) := by decide +kernel
theorem dX4_go_27 : decode cX4_go 27 = .ok (.putfield 53, 3) := by decide +kernel
theorem dX4_go_30 : decode cX4_go 30 = .ok (.iload_n 1, 1) := by decide +kernel
theorem dX4_go_31 : decode cX4_go 31 = .ok (.invokestatic 56, 3) := by decide +kernel
theorem dX4_go_34 : decode cX4_go 34 = .ok (.iconst (-1), 1) := by decide +kernel
theorem dX4_go_35 : decode cX4_go 35 = .ok (.if_icmp .eq 7, 3) := by decide +kernel
theorem dX4_go_38 : decode cX4_go 38 = .ok (.iconst 1, 1) := by decide +kernel
theorem dX4_go_39 : decode cX4_go 39 = .ok (.goto 4, 3) := by decide +kernel
theorem dX4_go_42 : decode cX4_go 42 = .ok (.iconst 0, 1) := by decide +kernel
theorem dX4_go_43 : decode cX4_go 43 = .ok (.ireturn, 1) := by decide +kernel
theorem dX4_go_44 : decode cX4_go 44 = .ok (.aload_n 0, 1) := by decide +kernel
theorem dX4_go_45 : decode cX4_go 45 = .ok (.getfield 53, 3) := by decide +kernel
theorem dX4_go_48 : decode cX4_go 48 = .ok (.iconst 1, 1) := by decide +kernel
theorem dX4_go_49 : decode cX4_go 49 = .ok (.if_icmp .ne 50, 3) := by decide +kernel
theorem dX4_go_52 : decode cX4_go 52 = .ok (.aload_n 0, 1) := by decide +kernel
theorem dX4_go_53 : decode cX4_go 53 = .ok (.getfield 13, 3) := by decide +kernel
theorem dX4_go_56 : decode cX4_go 56 = .ok (.iload_n 2, 1) := by decide +kernel
theorem dX4_go_57 : decode cX4_go 57 = .ok (.iconst 1, 1) := by decide +kernel
theorem dX4_go_58 : decode cX4_go 58 = .ok (.iadd, 1) := by decide +kernel
theorem dX4_go_59 : decode cX4_go 59 = .ok (.iload_n 1, 1) := by decide +kernel
theorem dX4_go_60 : decode cX4_go 60 = .ok (.bipush 97, 2) := by decide +kernel
theorem dX4_go_62 : decode cX4_go 62 = .ok (.isub, 1) := by decide +kernel
theorem dX4_go_63 : decode cX4_go 63 = .ok (.iastore, 1) := by decide +kernel
theorem dX4_go_64 : decode cX4_go 64 = .ok (.aload_n 0, 1) := by decide +kernel
theorem dX4_go_65 : decode cX4_go 65 = .ok (.getfield 13, 3) := by decide +kernel
theorem dX4_go_68 : decode cX4_go 68 = .ok (.iload_n 2, 1) := by decide +kernel
theorem dX4_go_69 : decode cX4_go 69 = .ok (.iconst 2, 1) := by decide +kernel
theorem dX4_go_70 : decode cX4_go 70 = .ok (.iadd, 1) := by decide +kernel
theorem dX4_go_71 : decode cX4_go 71 = .ok (.iconst 0, 1) := by decide +kernel
theorem dX4_go_72 : decode cX4_go 72 = .ok (.iastore, 1) := by decide +kernel
theorem dX4_go_73 : decode cX4_go 73 = .ok (.aload_n 0, 1) := by decide +kernel
theorem dX4_go_74 : decode cX4_go 74 = .ok (.getfield 13, 3) := by decide +kernel
theorem dX4_go_77 : decode cX4_go 77 = .ok (.iload_n 2, 1) := by decide +kernel
theorem dX4_go_78 : decode cX4_go 78 = .ok (.iconst 3, 1) := by decide +kernel
theorem dX4_go_79 : decode cX4_go 79 = .ok (.iadd, 1) := by decide +kernel
theorem dX4_go_80 : decode cX4_go 80 = .ok (.iconst 0, 1) := by decide +kernel
theorem dX4_go_81 : decode cX4_go 81 = .ok (.iastore, 1) := by decide +kernel
theorem dX4_go_82 : decode cX4_go 82 = .ok (.aload_n 0, 1) := by decide +kernel
theorem dX4_go_83 : decode cX4_go 83 = .ok (.iconst 2, 1) := by decide +kernel
theorem dX4_go_84 : decode cX4_go 84 = .ok (.putfield 53, 3) := by decide +kernel
theorem dX4_go_87 : decode cX4_go 87 = .ok (.iload_n 1, 1) := by decide +kernel
theorem dX4_go_88 : decode cX4_go 88 = .ok (.i2l, 1) := by decide +kernel
theorem dX4_go_89 : decode cX4_go 89 = .ok (.ldc2_w 60, 3) := by decide +kernel
theorem dX4_go_92 : decode cX4_go 92 = .ok (.ldc2_w 62, 3) := by decide +kernel
theorem dX4_go_95 : decode cX4_go 95 = .ok (.invokestatic 43, 3) := by decide +kernel
theorem dX4_go_98 : decode cX4_go 98 = .ok (.ireturn, 1) := by decide +kernel
theorem dX4_go_99 : decode cX4_go 99 = .ok (.aload_n 0, 1) := by decide +kernel
theorem dX4_go_100 : decode cX4_go 100 = .ok (.getfield 53, 3) := by decide +kernel
theorem dX4_go_103 : decode cX4_go 103 = .ok (.iconst 3, 1) := by decide +kernel
theorem dX4_go_104 : decode cX4_go 104 = .ok (.if_icmp .ne 38, 3) := by decide +kernel
theorem dX4_go_107 : decode cX4_go 107 = .ok (.iload_n 1, 1) := by decide +kernel
theorem dX4_go_108 : decode cX4_go 108 = .ok (.bipush 44, 2) := by decide +kernel
theorem dX4_go_110 : decode cX4_go 110 = .ok (.if_icmp .ne 32, 3) := by decide +kernel
theorem dX4_go_113 : decode cX4_go 113 = .ok (.aload_n 0, 1) := by decide +kernel
theorem dX4_go_114 : decode cX4_go 114 = .ok (.dup, 1) := by decide +kernel
theorem dX4_go_115 : decode cX4_go 115 = .ok (.getfield 50, 3) := by decide +kernel
theorem dX4_go_118 : decode cX4_go 118 = .ok (.iconst 1, 1) := by decide +kernel
theorem dX4_go_119 : decode cX4_go 119 = .ok (.iadd, 1) := by decide +kernel
theorem dX4_go_120 : decode cX4_go 120 = .ok (.putfield 50, 3) := by decide +kernel
theorem dX4_go_123 : decode cX4_go 123 = .ok (.aload_n 0, 1) := by decide +kernel
theorem dX4_go_124 : decode cX4_go 124 = .ok (.iconst 0, 1) := by decide +kernel
theorem dX4_go_125 : decode cX4_go 125 = .ok (.putfield 53, 3) := by decide +kernel
theorem dX4_go_128 : decode cX4_go 128 = .ok (.aload_n 0, 1) := by decide +kernel
theorem dX4_go_129 : decode cX4_go 129 = .ok (.getfield 50, 3) := by decide +kernel
theorem dX4_go_132 : decode cX4_go 132 = .ok (.iconst 4, 1) := by decide +kernel
theorem dX4_go_133 : decode cX4_go 133 = .ok (.if_icmp .ge 7, 3) := by decide +kernel
theorem dX4_go_136 : decode cX4_go 136 = .ok (.iconst 1, 1) := by decide +kernel
theorem dX4_go_137 : decode cX4_go 137 = .ok (.goto 4, 3) := by decide +kernel
theorem dX4_go_140 : decode cX4_go 140 = .ok (.iconst 0, 1) := by decide +kernel
theorem dX4_go_141 : decode cX4_go 141 = .ok (.ireturn, 1) := by decide +kernel
theorem dX4_go_142 : decode cX4_go 142 = .ok (.iload_n 1, 1) := by decide +kernel
theorem dX4_go_143 : decode cX4_go 143 = .ok (.invokestatic 64, 3) := by decide +kernel
theorem dX4_go_146 : decode cX4_go 146 = .ok (.iconst (-1), 1) := by decide +kernel
theorem dX4_go_147 : decode cX4_go 147 = .ok (.if_icmp .eq 15, 3) := by decide +kernel
theorem dX4_go_150 : decode cX4_go 150 = .ok (.aload_n 0, 1) := by decide +kernel
theorem dX4_go_151 : decode cX4_go 151 = .ok (.getfield 13, 3) := by decide +kernel
theorem dX4_go_154 : decode cX4_go 154 = .ok (.iload_n 2, 1) := by decide +kernel
theorem dX4_go_155 : decode cX4_go 155 = .ok (.iconst 3, 1) := by decide +kernel
theorem dX4_go_156 : decode cX4_go 156 = .ok (.iadd, 1) := by decide +kernel
theorem dX4_go_157 : decode cX4_go 157 = .ok (.iaload, 1) := by decide +kernel
theorem dX4_go_158 : decode cX4_go 158 = .ok (.iconst 5, 1) := by decide +kernel
theorem dX4_go_159 : decode cX4_go 159 = .ok (.if_icmp .ne 5, 3) := by decide +kernel
theorem dX4_go_162 : decode cX4_go 162 = .ok (.iconst 0, 1) := by decide +kernel
theorem dX4_go_163 : decode cX4_go 163 = .ok (.ireturn, 1) := by decide +kernel
theorem dX4_go_164 : decode cX4_go 164 = .ok (.aload_n 0, 1) := by decide +kernel
theorem dX4_go_165 : decode cX4_go 165 = .ok (.getfield 13, 3) := by decide +kernel
theorem dX4_go_168 : decode cX4_go 168 = .ok (.iload_n 2, 1) := by decide +kernel
theorem dX4_go_169 : decode cX4_go 169 = .ok (.iconst 4, 1) := by decide +kernel
theorem dX4_go_170 : decode cX4_go 170 = .ok (.iadd, 1) := by decide +kernel
theorem dX4_go_171 : decode cX4_go 171 = .ok (.aload_n 0, 1) := by decide +kernel
theorem dX4_go_172 : decode cX4_go 172 = .ok (.getfield 13, 3) := by decide +kernel
theorem dX4_go_175 : decode cX4_go 175 = .ok (.iload_n 2, 1) := by decide +kernel
theorem dX4_go_176 : decode cX4_go 176 = .ok (.iconst 3, 1) := by decide +kernel
theorem dX4_go_177 : decode cX4_go 177 = .ok (.iadd, 1) := by decide +kernel
theorem dX4_go_178 : decode cX4_go 178 = .ok (.iaload, 1) := by decide +kernel
theorem dX4_go_179 : decode cX4_go 179 = .ok (.iadd, 1) := by decide +kernel
theorem dX4_go_180 : decode cX4_go 180 = .ok (.iload_n 1, 1) := by decide +kernel
theorem dX4_go_181 : decode cX4_go 181 = .ok (.invokestatic 64, 3) := by decide +kernel
theorem dX4_go_184 : decode cX4_go 184 = .ok (.iastore, 1) := by decide +kernel
theorem dX4_go_185 : decode cX4_go 185 = .ok (.aload_n 0, 1) := by decide +kernel
theorem dX4_go_186 : decode cX4_go 186 = .ok (.getfield 13, 3) := by decide +kernel
theorem dX4_go_189 : decode cX4_go 189 = .ok (.iload_n 2, 1) := by decide +kernel
theorem dX4_go_190 : decode cX4_go 190 = .ok (.iconst 3, 1) := by decide +kernel
theorem dX4_go_191 : decode cX4_go 191 = .ok (.iadd, 1) := by decide +kernel
theorem dX4_go_192 : decode cX4_go 192 = .ok (.dup2, 1) := by decide +kernel
theorem dX4_go_193 : decode cX4_go 193 = .ok (.iaload, 1) := by decide +kernel
theorem dX4_go_194 : decode cX4_go 194 = .ok (.iconst 1, 1) := by decide +kernel
theorem dX4_go_195 : decode cX4_go 195 = .ok (.iadd, 1) := by decide +kernel
theorem dX4_go_196 : decode cX4_go 196 = .ok (.iastore, 1) := by decide +kernel
theorem dX4_go_197 : decode cX4_go 197 = .ok (.aload_n 0, 1) := by decide +kernel
theorem dX4_go_198 : decode cX4_go 198 = .ok (.iconst 3, 1) := by decide +kernel
theorem dX4_go_199 : decode cX4_go 199 = .ok (.putfield 53, 3) := by decide +kernel
theorem dX4_go_202 : decode cX4_go 202 = .ok (.iconst 1, 1) := by decide +kernel
theorem dX4_go_203 : decode cX4_go 203 = .ok (.ireturn, 1) := by decide +kernel
theorem dX4_faultOf_0 : decode cX4_faultOf 0 = .ok (.aload_n 0, 1) := by decide +kernel
theorem dX4_faultOf_1 : decode cX4_faultOf 1 = .ok (.iconst 0, 1) := by decide +kernel
theorem dX4_faultOf_2 : decode cX4_faultOf 2 = .ok (.putfield 50, 3) := by decide +kernel
theorem dX4_faultOf_5 : decode cX4_faultOf 5 = .ok (.aload_n 0, 1) := by decide +kernel
theorem dX4_faultOf_6 : decode cX4_faultOf 6 = .ok (.iconst 0, 1) := by decide +kernel
theorem dX4_faultOf_7 : decode cX4_faultOf 7 = .ok (.putfield 53, 3) := by decide +kernel
theorem dX4_faultOf_10 : decode cX4_faultOf 10 = .ok (.iconst 0, 1) := by decide +kernel
theorem dX4_faultOf_11 : decode cX4_faultOf 11 = .ok (.istore_n 1, 1) := by decide +kernel
theorem dX4_faultOf_12 : decode cX4_faultOf 12 = .ok (.iload_n 1, 1) := by decide +kernel
theorem dX4_faultOf_13 : decode cX4_faultOf 13 = .ok (.aload_n 0, 1) := by decide +kernel
theorem dX4_faultOf_14 : decode cX4_faultOf 14 = .ok (.getfield 47, 3) := by decide +kernel
theorem dX4_faultOf_17 : decode cX4_faultOf 17 = .ok (.if_icmp .ge 22, 3) := by decide +kernel
theorem dX4_faultOf_20 : decode cX4_faultOf 20 = .ok (.aload_n 0, 1) := by decide +kernel
theorem dX4_faultOf_21 : decode cX4_faultOf 21 = .ok (.aload_n 0, 1) := by decide +kernel
theorem dX4_faultOf_22 : decode cX4_faultOf 22 = .ok (.getfield 7, 3) := by decide +kernel
theorem dX4_faultOf_25 : decode cX4_faultOf 25 = .ok (.iload_n 1, 1) := by decide +kernel
theorem dX4_faultOf_26 : decode cX4_faultOf 26 = .ok (.iaload, 1) := by decide +kernel
theorem dX4_faultOf_27 : decode cX4_faultOf 27 = .ok (.invokevirtual 67, 3) := by decide +kernel
theorem dX4_faultOf_30 : decode cX4_faultOf 30 = .ok (.ifCond .eq 9, 3) := by decide +kernel
theorem dX4_faultOf_33 : decode cX4_faultOf 33 = .ok (.iinc 1 1, 3) := by decide +kernel
theorem dX4_faultOf_36 : decode cX4_faultOf 36 = .ok (.goto (-24), 3) := by decide +kernel
theorem dX4_faultOf_39 : decode cX4_faultOf 39 = .ok (.iload_n 1, 1) := by decide +kernel
theorem dX4_faultOf_40 : decode cX4_faultOf 40 = .ok (.ireturn, 1) := by decide +kernel
theorem dX4_fault_0 : decode cX4_fault 0 = .ok (.aload_n 0, 1) := by decide +kernel
theorem dX4_fault_1 : decode cX4_fault 1 = .ok (.invokevirtual 71, 3) := by decide +kernel
theorem dX4_fault_4 : decode cX4_fault 4 = .ok (.ireturn, 1) := by decide +kernel
theorem dX4_hills_0 : decode cX4_hills 0 = .ok (.aload_n 0, 1) := by decide +kernel
theorem dX4_hills_1 : decode cX4_hills 1 = .ok (.invokevirtual 71, 3) := by decide +kernel
theorem dX4_hills_4 : decode cX4_hills 4 = .ok (.aload_n 0, 1) := by decide +kernel
theorem dX4_hills_5 : decode cX4_hills 5 = .ok (.getfield 47, 3) := by decide +kernel
theorem dX4_hills_8 : decode cX4_hills 8 = .ok (.if_icmp .lt 11, 3) := by decide +kernel
theorem dX4_hills_11 : decode cX4_hills 11 = .ok (.aload_n 0, 1) := by decide +kernel
theorem dX4_hills_12 : decode cX4_hills 12 = .ok (.getfield 53, 3) := by decide +kernel
theorem dX4_hills_15 : decode cX4_hills 15 = .ok (.iconst 3, 1) := by decide +kernel
theorem dX4_hills_16 : decode cX4_hills 16 = .ok (.if_icmp .eq 6, 3) := by decide +kernel
theorem dX4_hills_19 : decode cX4_hills 19 = .ok (.bipush (-103), 2) := by decide +kernel
theorem dX4_hills_21 : decode cX4_hills 21 = .ok (.ireturn, 1) := by decide +kernel
theorem dX4_hills_22 : decode cX4_hills 22 = .ok (.aload_n 0, 1) := by decide +kernel
theorem dX4_hills_23 : decode cX4_hills 23 = .ok (.aload_n 0, 1) := by decide +kernel
theorem dX4_hills_24 : decode cX4_hills 24 = .ok (.getfield 50, 3) := by decide +kernel
theorem dX4_hills_27 : decode cX4_hills 27 = .ok (.iconst 1, 1) := by decide +kernel
theorem dX4_hills_28 : decode cX4_hills 28 = .ok (.iadd, 1) := by decide +kernel
theorem dX4_hills_29 : decode cX4_hills 29 = .ok (.putfield 75, 3) := by decide +kernel
theorem dX4_hills_32 : decode cX4_hills 32 = .ok (.iconst 0, 1) := by decide +kernel
theorem dX4_hills_33 : decode cX4_hills 33 = .ok (.istore_n 1, 1) := by decide +kernel
theorem dX4_hills_34 : decode cX4_hills 34 = .ok (.iload_n 1, 1) := by decide +kernel
theorem dX4_hills_35 : decode cX4_hills 35 = .ok (.bipush 36, 2) := by decide +kernel
theorem dX4_hills_37 : decode cX4_hills 37 = .ok (.if_icmp .ge 21, 3) := by decide +kernel
theorem dX4_hills_40 : decode cX4_hills 40 = .ok (.aload_n 0, 1) := by decide +kernel
theorem dX4_hills_41 : decode cX4_hills 41 = .ok (.getfield 16, 3) := by decide +kernel
theorem dX4_hills_44 : decode cX4_hills 44 = .ok (.iload_n 1, 1) := by decide +kernel
theorem dX4_hills_45 : decode cX4_hills 45 = .ok (.aload_n 0, 1) := by decide +kernel
theorem dX4_hills_46 : decode cX4_hills 46 = .ok (.getfield 13, 3) := by decide +kernel
theorem dX4_hills_49 : decode cX4_hills 49 = .ok (.iload_n 1, 1) := by decide +kernel
theorem dX4_hills_50 : decode cX4_hills 50 = .ok (.iaload, 1) := by decide +kernel
theorem dX4_hills_51 : decode cX4_hills 51 = .ok (.iastore, 1) := by decide +kernel
theorem dX4_hills_52 : decode cX4_hills 52 = .ok (.iinc 1 1, 3) := by decide +kernel
theorem dX4_hills_55 : decode cX4_hills 55 = .ok (.goto (-21), 3) := by decide +kernel
theorem dX4_hills_58 : decode cX4_hills 58 = .ok (.aload_n 0, 1) := by decide +kernel
theorem dX4_hills_59 : decode cX4_hills 59 = .ok (.iconst 0, 1) := by decide +kernel
theorem dX4_hills_60 : decode cX4_hills 60 = .ok (.putfield 78, 3) := by decide +kernel
theorem dX4_hills_63 : decode cX4_hills 63 = .ok (.aload_n 0, 1) := by decide +kernel
theorem dX4_hills_64 : decode cX4_hills 64 = .ok (.iconst 0, 1) := by decide +kernel
theorem dX4_hills_65 : decode cX4_hills 65 = .ok (.putfield 81, 3) := by decide +kernel
theorem dX4_hills_68 : decode cX4_hills 68 = .ok (.aload_n 0, 1) := by decide +kernel
theorem dX4_hills_69 : decode cX4_hills 69 = .ok (.dup, 1) := by decide +kernel
theorem dX4_hills_70 : decode cX4_hills 70 = .ok (.getfield 84, 3) := by decide +kernel
theorem dX4_hills_73 : decode cX4_hills 73 = .ok (.iconst 1, 1) := by decide +kernel
theorem dX4_hills_74 : decode cX4_hills 74 = .ok (.iadd, 1) := by decide +kernel
theorem dX4_hills_75 : decode cX4_hills 75 = .ok (.putfield 84, 3) := by decide +kernel
theorem dX4_hills_78 : decode cX4_hills 78 = .ok (.aload_n 0, 1) := by decide +kernel
theorem dX4_hills_79 : decode cX4_hills 79 = .ok (.iconst 0, 1) := by decide +kernel
theorem dX4_hills_80 : decode cX4_hills 80 = .ok (.putfield 47, 3) := by decide +kernel
theorem dX4_hills_83 : decode cX4_hills 83 = .ok (.aload_n 0, 1) := by decide +kernel
theorem dX4_hills_84 : decode cX4_hills 84 = .ok (.getfield 75, 3) := by decide +kernel
theorem dX4_hills_87 : decode cX4_hills 87 = .ok (.ireturn, 1) := by decide +kernel
theorem dX4_lacks_0 : decode cX4_lacks 0 = .ok (.aload_n 0, 1) := by decide +kernel
theorem dX4_lacks_1 : decode cX4_lacks 1 = .ok (.getfield 75, 3) := by decide +kernel
theorem dX4_lacks_4 : decode cX4_lacks 4 = .ok (.ifCond .ne 7, 3) := by decide +kernel
theorem dX4_lacks_7 : decode cX4_lacks 7 = .ok (.iconst 1, 1) := by decide +kernel
theorem dX4_lacks_8 : decode cX4_lacks 8 = .ok (.goto 4, 3) := by decide +kernel
theorem dX4_lacks_11 : decode cX4_lacks 11 = .ok (.iconst 0, 1) := by decide +kernel
theorem dX4_lacks_12 : decode cX4_lacks 12 = .ok (.ireturn, 1) := by decide +kernel
theorem dX4_isStick_0 : decode cX4_isStick 0 = .ok (.iload_n 1, 1) := by decide +kernel
theorem dX4_isStick_1 : decode cX4_isStick 1 = .ok (.i2l, 1) := by decide +kernel
theorem dX4_isStick_2 : decode cX4_isStick 2 = .ok (.lconst 0, 1) := by decide +kernel
theorem dX4_isStick_3 : decode cX4_isStick 3 = .ok (.aload_n 0, 1) := by decide +kernel
theorem dX4_isStick_4 : decode cX4_isStick 4 = .ok (.getfield 75, 3) := by decide +kernel
theorem dX4_isStick_7 : decode cX4_isStick 7 = .ok (.iconst 1, 1) := by decide +kernel
theorem dX4_isStick_8 : decode cX4_isStick 8 = .ok (.isub, 1) := by decide +kernel
theorem dX4_isStick_9 : decode cX4_isStick 9 = .ok (.i2l, 1) := by decide +kernel
theorem dX4_isStick_10 : decode cX4_isStick 10 = .ok (.invokestatic 43, 3) := by decide +kernel
theorem dX4_isStick_13 : decode cX4_isStick 13 = .ok (.ireturn, 1) := by decide +kernel
theorem dX4_areTwo_0 : decode cX4_areTwo 0 = .ok (.aload_n 0, 1) := by decide +kernel
theorem dX4_areTwo_1 : decode cX4_areTwo 1 = .ok (.iload_n 1, 1) := by decide +kernel
theorem dX4_areTwo_2 : decode cX4_areTwo 2 = .ok (.invokevirtual 87, 3) := by decide +kernel
theorem dX4_areTwo_5 : decode cX4_areTwo 5 = .ok (.ifCond .eq 20, 3) := by decide +kernel
theorem dX4_areTwo_8 : decode cX4_areTwo 8 = .ok (.aload_n 0, 1) := by decide +kernel
theorem dX4_areTwo_9 : decode cX4_areTwo 9 = .ok (.iload_n 2, 1) := by decide +kernel
theorem dX4_areTwo_10 : decode cX4_areTwo 10 = .ok (.invokevirtual 87, 3) := by decide +kernel
theorem dX4_areTwo_13 : decode cX4_areTwo 13 = .ok (.ifCond .eq 12, 3) := by decide +kernel
theorem dX4_areTwo_16 : decode cX4_areTwo 16 = .ok (.iload_n 1, 1) := by decide +kernel
theorem dX4_areTwo_17 : decode cX4_areTwo 17 = .ok (.iload_n 2, 1) := by decide +kernel
theorem dX4_areTwo_18 : decode cX4_areTwo 18 = .ok (.if_icmp .eq 7, 3) := by decide +kernel
theorem dX4_areTwo_21 : decode cX4_areTwo 21 = .ok (.iconst 1, 1) := by decide +kernel
theorem dX4_areTwo_22 : decode cX4_areTwo 22 = .ok (.goto 4, 3) := by decide +kernel
theorem dX4_areTwo_25 : decode cX4_areTwo 25 = .ok (.iconst 0, 1) := by decide +kernel
theorem dX4_areTwo_26 : decode cX4_areTwo 26 = .ok (.ireturn, 1) := by decide +kernel
theorem dX4_stepped_0 : decode cX4_stepped 0 = .ok (.iload_n 0, 1) := by decide +kernel
theorem dX4_stepped_1 : decode cX4_stepped 1 = .ok (.iconst 4, 1) := by decide +kernel
theorem dX4_stepped_2 : decode cX4_stepped 2 = .ok (.idiv, 1) := by decide +kernel
theorem dX4_stepped_3 : decode cX4_stepped 3 = .ok (.istore_n 2, 1) := by decide +kernel
theorem dX4_stepped_4 : decode cX4_stepped 4 = .ok (.iload_n 0, 1) := by decide +kernel
theorem dX4_stepped_5 : decode cX4_stepped 5 = .ok (.iconst 4, 1) := by decide +kernel
theorem dX4_stepped_6 : decode cX4_stepped 6 = .ok (.irem, 1) := by decide +kernel
theorem dX4_stepped_7 : decode cX4_stepped 7 = .ok (.istore_n 3, 1) := by decide +kernel
theorem dX4_stepped_8 : decode cX4_stepped 8 = .ok (.iload_n 2, 1) := by decide +kernel
theorem dX4_stepped_9 : decode cX4_stepped 9 = .ok (.iload_n 1, 1) := by decide +kernel
theorem dX4_stepped_10 : decode cX4_stepped 10 = .ok (.ifCond .ne 7, 3) := by decide +kernel
theorem dX4_stepped_13 : decode cX4_stepped 13 = .ok (.iconst (-1), 1) := by decide +kernel
theorem dX4_stepped_14 : decode cX4_stepped 14 = .ok (.goto 13, 3) := by decide +kernel
theorem dX4_stepped_17 : decode cX4_stepped 17 = .ok (.iload_n 1, 1) := by decide +kernel
theorem dX4_stepped_18 : decode cX4_stepped 18 = .ok (.iconst 2, 1) := by decide +kernel
theorem dX4_stepped_19 : decode cX4_stepped 19 = .ok (.if_icmp .ne 7, 3) := by decide +kernel
theorem dX4_stepped_22 : decode cX4_stepped 22 = .ok (.iconst 1, 1) := by decide +kernel
theorem dX4_stepped_23 : decode cX4_stepped 23 = .ok (.goto 4, 3) := by decide +kernel
theorem dX4_stepped_26 : decode cX4_stepped 26 = .ok (.iconst 0, 1) := by decide +kernel
theorem dX4_stepped_27 : decode cX4_stepped 27 = .ok (.iadd, 1) := by decide +kernel
theorem dX4_stepped_28 : decode cX4_stepped 28 = .ok (.istore_n 2, 1) := by decide +kernel
theorem dX4_stepped_29 : decode cX4_stepped 29 = .ok (.iload_n 3, 1) := by decide +kernel
theorem dX4_stepped_30 : decode cX4_stepped 30 = .ok (.iload_n 1, 1) := by decide +kernel
theorem dX4_stepped_31 : decode cX4_stepped 31 = .ok (.iconst 1, 1) := by decide +kernel
theorem dX4_stepped_32 : decode cX4_stepped 32 = .ok (.if_icmp .ne 7, 3) := by decide +kernel
theorem dX4_stepped_35 : decode cX4_stepped 35 = .ok (.iconst 1, 1) := by decide +kernel
theorem dX4_stepped_36 : decode cX4_stepped 36 = .ok (.goto 13, 3) := by decide +kernel
theorem dX4_stepped_39 : decode cX4_stepped 39 = .ok (.iload_n 1, 1) := by decide +kernel
theorem dX4_stepped_40 : decode cX4_stepped 40 = .ok (.iconst 3, 1) := by decide +kernel
theorem dX4_stepped_41 : decode cX4_stepped 41 = .ok (.if_icmp .ne 7, 3) := by decide +kernel
theorem dX4_stepped_44 : decode cX4_stepped 44 = .ok (.iconst (-1), 1) := by decide +kernel
theorem dX4_stepped_45 : decode cX4_stepped 45 = .ok (.goto 4, 3) := by decide +kernel
theorem dX4_stepped_48 : decode cX4_stepped 48 = .ok (.iconst 0, 1) := by decide +kernel
theorem dX4_stepped_49 : decode cX4_stepped 49 = .ok (.iadd, 1) := by decide +kernel
theorem dX4_stepped_50 : decode cX4_stepped 50 = .ok (.istore_n 3, 1) := by decide +kernel
theorem dX4_stepped_51 : decode cX4_stepped 51 = .ok (.iload_n 2, 1) := by decide +kernel
theorem dX4_stepped_52 : decode cX4_stepped 52 = .ok (.i2l, 1) := by decide +kernel
theorem dX4_stepped_53 : decode cX4_stepped 53 = .ok (.lconst 0, 1) := by decide +kernel
theorem dX4_stepped_54 : decode cX4_stepped 54 = .ok (.ldc2_w 90, 3) := by decide +kernel
theorem dX4_stepped_57 : decode cX4_stepped 57 = .ok (.invokestatic 43, 3) := by decide +kernel
theorem dX4_stepped_60 : decode cX4_stepped 60 = .ok (.ifCond .eq 23, 3) := by decide +kernel
theorem dX4_stepped_63 : decode cX4_stepped 63 = .ok (.iload_n 3, 1) := by decide +kernel
theorem dX4_stepped_64 : decode cX4_stepped 64 = .ok (.i2l, 1) := by decide +kernel
theorem dX4_stepped_65 : decode cX4_stepped 65 = .ok (.lconst 0, 1) := by decide +kernel
theorem dX4_stepped_66 : decode cX4_stepped 66 = .ok (.ldc2_w 90, 3) := by decide +kernel
theorem dX4_stepped_69 : decode cX4_stepped 69 = .ok (.invokestatic 43, 3) := by decide +kernel
theorem dX4_stepped_72 : decode cX4_stepped 72 = .ok (.ifCond .eq 11, 3) := by decide +kernel
theorem dX4_stepped_75 : decode cX4_stepped 75 = .ok (.iconst 4, 1) := by decide +kernel
theorem dX4_stepped_76 : decode cX4_stepped 76 = .ok (.iload_n 2, 1) := by decide +kernel
theorem dX4_stepped_77 : decode cX4_stepped 77 = .ok (.imul, 1) := by decide +kernel
theorem dX4_stepped_78 : decode cX4_stepped 78 = .ok (.iload_n 3, 1) := by decide +kernel
theorem dX4_stepped_79 : decode cX4_stepped 79 = .ok (.iadd, 1) := by decide +kernel
theorem dX4_stepped_80 : decode cX4_stepped 80 = .ok (.goto 4, 3) := by decide +kernel
theorem dX4_stepped_83 : decode cX4_stepped 83 = .ok (.iload_n 0, 1) := by decide +kernel
theorem dX4_stepped_84 : decode cX4_stepped 84 = .ok (.ireturn, 1) := by decide +kernel
theorem dX4_hoursOf_0 : decode cX4_hoursOf 0 = .ok (.aload_n 0, 1) := by decide +kernel
theorem dX4_hoursOf_1 : decode cX4_hoursOf 1 = .ok (.getfield 16, 3) := by decide +kernel
theorem dX4_hoursOf_4 : decode cX4_hoursOf 4 = .ok (.bipush 9, 2) := by decide +kernel
theorem dX4_hoursOf_6 : decode cX4_hoursOf 6 = .ok (.iload_n 1, 1) := by decide +kernel
theorem dX4_hoursOf_7 : decode cX4_hoursOf 7 = .ok (.imul, 1) := by decide +kernel
theorem dX4_hoursOf_8 : decode cX4_hoursOf 8 = .ok (.iaload, 1) := by decide +kernel
theorem dX4_hoursOf_9 : decode cX4_hoursOf 9 = .ok (.istore_n 2, 1) := by decide +kernel
theorem dX4_hoursOf_10 : decode cX4_hoursOf 10 = .ok (.aload_n 0, 1) := by decide +kernel
theorem dX4_hoursOf_11 : decode cX4_hoursOf 11 = .ok (.getfield 16, 3) := by decide +kernel
theorem dX4_hoursOf_14 : decode cX4_hoursOf 14 = .ok (.bipush 9, 2) := by decide +kernel
theorem dX4_hoursOf_16 : decode cX4_hoursOf 16 = .ok (.iload_n 1, 1) := by decide +kernel
theorem dX4_hoursOf_17 : decode cX4_hoursOf 17 = .ok (.imul, 1) := by decide +kernel
theorem dX4_hoursOf_18 : decode cX4_hoursOf 18 = .ok (.iconst 3, 1) := by decide +kernel
theorem dX4_hoursOf_19 : decode cX4_hoursOf 19 = .ok (.iadd, 1) := by decide +kernel
theorem dX4_hoursOf_20 : decode cX4_hoursOf 20 = .ok (.iaload, 1) := by decide +kernel
theorem dX4_hoursOf_21 : decode cX4_hoursOf 21 = .ok (.istore_n 3, 1) := by decide +kernel
theorem dX4_hoursOf_22 : decode cX4_hoursOf 22 = .ok (.iload_n 2, 1) := by decide +kernel
theorem dX4_hoursOf_23 : decode cX4_hoursOf 23 = .ok (.iconst 4, 1) := by decide +kernel
theorem dX4_hoursOf_24 : decode cX4_hoursOf 24 = .ok (.if_icmp .ne 9, 3) := by decide +kernel
theorem dX4_hoursOf_27 : decode cX4_hoursOf 27 = .ok (.iconst 4, 1) := by decide +kernel
theorem dX4_hoursOf_28 : decode cX4_hoursOf 28 = .ok (.iload_n 3, 1) := by decide +kernel
theorem dX4_hoursOf_29 : decode cX4_hoursOf 29 = .ok (.imul, 1) := by decide +kernel
theorem dX4_hoursOf_30 : decode cX4_hoursOf 30 = .ok (.goto 20, 3) := by decide +kernel
theorem dX4_hoursOf_33 : decode cX4_hoursOf 33 = .ok (.iload_n 2, 1) := by decide +kernel
theorem dX4_hoursOf_34 : decode cX4_hoursOf 34 = .ok (.iconst 1, 1) := by decide +kernel
theorem dX4_hoursOf_35 : decode cX4_hoursOf 35 = .ok (.if_icmp .eq 8, 3) := by decide +kernel
theorem dX4_hoursOf_38 : decode cX4_hoursOf 38 = .ok (.iload_n 2, 1) := by decide +kernel
theorem dX4_hoursOf_39 : decode cX4_hoursOf 39 = .ok (.iconst 2, 1) := by decide +kernel
theorem dX4_hoursOf_40 : decode cX4_hoursOf 40 = .ok (.if_icmp .ne 9, 3) := by decide +kernel
theorem dX4_hoursOf_43 : decode cX4_hoursOf 43 = .ok (.iconst 2, 1) := by decide +kernel
theorem dX4_hoursOf_44 : decode cX4_hoursOf 44 = .ok (.iload_n 3, 1) := by decide +kernel
theorem dX4_hoursOf_45 : decode cX4_hoursOf 45 = .ok (.imul, 1) := by decide +kernel
theorem dX4_hoursOf_46 : decode cX4_hoursOf 46 = .ok (.goto 4, 3) := by decide +kernel
theorem dX4_hoursOf_49 : decode cX4_hoursOf 49 = .ok (.iload_n 3, 1) := by decide +kernel
theorem dX4_hoursOf_50 : decode cX4_hoursOf 50 = .ok (.ireturn, 1) := by decide +kernel
theorem dX4_stepIn_0 : decode cX4_stepIn 0 = .ok (.aload_n 0, 1) := by decide +kernel
theorem dX4_stepIn_1 : decode cX4_stepIn 1 = .ok (.getfield 16, 3) := by decide +kernel
theorem dX4_stepIn_4 : decode cX4_stepIn 4 = .ok (.bipush 9, 2) := by decide +kernel
theorem dX4_stepIn_6 : decode cX4_stepIn 6 = .ok (.iload_n 1, 1) := by decide +kernel
theorem dX4_stepIn_7 : decode cX4_stepIn 7 = .ok (.imul, 1) := by decide +kernel
theorem dX4_stepIn_8 : decode cX4_stepIn 8 = .ok (.iaload, 1) := by decide +kernel
theorem dX4_stepIn_9 : decode cX4_stepIn 9 = .ok (.istore_n 3, 1) := by decide +kernel
theorem dX4_stepIn_10 : decode cX4_stepIn 10 = .ok (.aload_n 0, 1) := by decide +kernel
theorem dX4_stepIn_11 : decode cX4_stepIn 11 = .ok (.getfield 16, 3) := by decide +kernel
theorem dX4_stepIn_14 : decode cX4_stepIn 14 = .ok (.bipush 9, 2) := by decide +kernel
theorem dX4_stepIn_16 : decode cX4_stepIn 16 = .ok (.iload_n 1, 1) := by decide +kernel
theorem dX4_stepIn_17 : decode cX4_stepIn 17 = .ok (.imul, 1) := by decide +kernel
theorem dX4_stepIn_18 : decode cX4_stepIn 18 = .ok (.iconst 3, 1) := by decide +kernel
theorem dX4_stepIn_19 : decode cX4_stepIn 19 = .ok (.iadd, 1) := by decide +kernel
theorem dX4_stepIn_20 : decode cX4_stepIn 20 = .ok (.iaload, 1) := by decide +kernel
theorem dX4_stepIn_21 : decode cX4_stepIn 21 = .ok (.istore 4, 2) := by decide +kernel
theorem dX4_stepIn_23 : decode cX4_stepIn 23 = .ok (.iload_n 2, 1) := by decide +kernel
theorem dX4_stepIn_24 : decode cX4_stepIn 24 = .ok (.aload_n 0, 1) := by decide +kernel
theorem dX4_stepIn_25 : decode cX4_stepIn 25 = .ok (.iload_n 1, 1) := by decide +kernel
theorem dX4_stepIn_26 : decode cX4_stepIn 26 = .ok (.invokevirtual 92, 3) := by decide +kernel
theorem dX4_stepIn_29 : decode cX4_stepIn 29 = .ok (.if_icmp .le 5, 3) := by decide +kernel
theorem dX4_stepIn_32 : decode cX4_stepIn 32 = .ok (.iconst (-1), 1) := by decide +kernel
theorem dX4_stepIn_33 : decode cX4_stepIn 33 = .ok (.ireturn, 1) := by decide +kernel
theorem dX4_stepIn_34 : decode cX4_stepIn 34 = .ok (.iload_n 3, 1) := by decide +kernel
theorem dX4_stepIn_35 : decode cX4_stepIn 35 = .ok (.iconst 2, 1) := by decide +kernel
theorem dX4_stepIn_36 : decode cX4_stepIn 36 = .ok (.if_icmp .ne 30, 3) := by decide +kernel
theorem dX4_stepIn_39 : decode cX4_stepIn 39 = .ok (.iload_n 2, 1) := by decide +kernel
theorem dX4_stepIn_40 : decode cX4_stepIn 40 = .ok (.iconst 2, 1) := by decide +kernel
theorem dX4_stepIn_41 : decode cX4_stepIn 41 = .ok (.irem, 1) := by decide +kernel
theorem dX4_stepIn_42 : decode cX4_stepIn 42 = .ok (.iconst 1, 1) := by decide +kernel
theorem dX4_stepIn_43 : decode cX4_stepIn 43 = .ok (.if_icmp .ne 7, 3) := by decide +kernel
theorem dX4_stepIn_46 : decode cX4_stepIn 46 = .ok (.iconst (-1), 1) := by decide +kernel
theorem dX4_stepIn_47 : decode cX4_stepIn 47 = .ok (.goto 18, 3) := by decide +kernel
theorem dX4_stepIn_50 : decode cX4_stepIn 50 = .ok (.aload_n 0, 1) := by decide +kernel
theorem dX4_stepIn_51 : decode cX4_stepIn 51 = .ok (.getfield 16, 3) := by decide +kernel
theorem dX4_stepIn_54 : decode cX4_stepIn 54 = .ok (.bipush 9, 2) := by decide +kernel
theorem dX4_stepIn_56 : decode cX4_stepIn 56 = .ok (.iload_n 1, 1) := by decide +kernel
theorem dX4_stepIn_57 : decode cX4_stepIn 57 = .ok (.imul, 1) := by decide +kernel
theorem dX4_stepIn_58 : decode cX4_stepIn 58 = .ok (.iconst 3, 1) := by decide +kernel
theorem dX4_stepIn_59 : decode cX4_stepIn 59 = .ok (.iadd, 1) := by decide +kernel
theorem dX4_stepIn_60 : decode cX4_stepIn 60 = .ok (.iload_n 2, 1) := by decide +kernel
theorem dX4_stepIn_61 : decode cX4_stepIn 61 = .ok (.iconst 2, 1) := by decide +kernel
theorem dX4_stepIn_62 : decode cX4_stepIn 62 = .ok (.idiv, 1) := by decide +kernel
theorem dX4_stepIn_63 : decode cX4_stepIn 63 = .ok (.iadd, 1) := by decide +kernel
theorem dX4_stepIn_64 : decode cX4_stepIn 64 = .ok (.iaload, 1) := by decide +kernel
theorem dX4_stepIn_65 : decode cX4_stepIn 65 = .ok (.ireturn, 1) := by decide +kernel
theorem dX4_stepIn_66 : decode cX4_stepIn 66 = .ok (.iload_n 2, 1) := by decide +kernel
theorem dX4_stepIn_67 : decode cX4_stepIn 67 = .ok (.iconst 1, 1) := by decide +kernel
theorem dX4_stepIn_68 : decode cX4_stepIn 68 = .ok (.isub, 1) := by decide +kernel
theorem dX4_stepIn_69 : decode cX4_stepIn 69 = .ok (.iconst 2, 1) := by decide +kernel
theorem dX4_stepIn_70 : decode cX4_stepIn 70 = .ok (.iload 4, 2) := by decide +kernel
theorem dX4_stepIn_72 : decode cX4_stepIn 72 = .ok (.imul, 1) := by decide +kernel
theorem dX4_stepIn_73 : decode cX4_stepIn 73 = .ok (.irem, 1) := by decide +kernel
theorem dX4_stepIn_74 : decode cX4_stepIn 74 = .ok (.istore 5, 2) := by decide +kernel
theorem dX4_stepIn_76 : decode cX4_stepIn 76 = .ok (.iload 5, 2) := by decide +kernel
theorem dX4_stepIn_78 : decode cX4_stepIn 78 = .ok (.iload 4, 2) := by decide +kernel
theorem dX4_stepIn_80 : decode cX4_stepIn 80 = .ok (.if_icmp .lt 7, 3) := by decide +kernel
theorem dX4_stepIn_83 : decode cX4_stepIn 83 = .ok (.iconst 1, 1) := by decide +kernel
theorem dX4_stepIn_84 : decode cX4_stepIn 84 = .ok (.goto 4, 3) := by decide +kernel
theorem dX4_stepIn_87 : decode cX4_stepIn 87 = .ok (.iconst 0, 1) := by decide +kernel
theorem dX4_stepIn_88 : decode cX4_stepIn 88 = .ok (.istore 6, 2) := by decide +kernel
theorem dX4_stepIn_90 : decode cX4_stepIn 90 = .ok (.aload_n 0, 1) := by decide +kernel
theorem dX4_stepIn_91 : decode cX4_stepIn 91 = .ok (.getfield 16, 3) := by decide +kernel
theorem dX4_stepIn_94 : decode cX4_stepIn 94 = .ok (.bipush 9, 2) := by decide +kernel
theorem dX4_stepIn_96 : decode cX4_stepIn 96 = .ok (.iload_n 1, 1) := by decide +kernel
theorem dX4_stepIn_97 : decode cX4_stepIn 97 = .ok (.imul, 1) := by decide +kernel
theorem dX4_stepIn_98 : decode cX4_stepIn 98 = .ok (.iconst 4, 1) := by decide +kernel
theorem dX4_stepIn_99 : decode cX4_stepIn 99 = .ok (.iadd, 1) := by decide +kernel
theorem dX4_stepIn_100 : decode cX4_stepIn 100 = .ok (.iload 6, 2) := by decide +kernel
theorem dX4_stepIn_102 : decode cX4_stepIn 102 = .ok (.ifCond .eq 15, 3) := by decide +kernel
theorem dX4_stepIn_105 : decode cX4_stepIn 105 = .ok (.iconst 2, 1) := by decide +kernel
theorem dX4_stepIn_106 : decode cX4_stepIn 106 = .ok (.iload 4, 2) := by decide +kernel
theorem dX4_stepIn_108 : decode cX4_stepIn 108 = .ok (.imul, 1) := by decide +kernel
theorem dX4_stepIn_109 : decode cX4_stepIn 109 = .ok (.iconst 1, 1) := by decide +kernel
theorem dX4_stepIn_110 : decode cX4_stepIn 110 = .ok (.isub, 1) := by decide +kernel
theorem dX4_stepIn_111 : decode cX4_stepIn 111 = .ok (.iload 5, 2) := by decide +kernel
theorem dX4_stepIn_113 : decode cX4_stepIn 113 = .ok (.isub, 1) := by decide +kernel
theorem dX4_stepIn_114 : decode cX4_stepIn 114 = .ok (.goto 5, 3) := by decide +kernel
theorem dX4_stepIn_117 : decode cX4_stepIn 117 = .ok (.iload 5, 2) := by decide +kernel
theorem dX4_stepIn_119 : decode cX4_stepIn 119 = .ok (.iadd, 1) := by decide +kernel
theorem dX4_stepIn_120 : decode cX4_stepIn 120 = .ok (.iaload, 1) := by decide +kernel
theorem dX4_stepIn_121 : decode cX4_stepIn 121 = .ok (.istore 7, 2) := by decide +kernel
theorem dX4_stepIn_123 : decode cX4_stepIn 123 = .ok (.iload 6, 2) := by decide +kernel
theorem dX4_stepIn_125 : decode cX4_stepIn 125 = .ok (.ifCond .ne 8, 3) := by decide +kernel
theorem dX4_stepIn_128 : decode cX4_stepIn 128 = .ok (.iload_n 3, 1) := by decide +kernel
theorem dX4_stepIn_129 : decode cX4_stepIn 129 = .ok (.iconst 3, 1) := by decide +kernel
theorem dX4_stepIn_130 : decode cX4_stepIn 130 = .ok (.if_icmp .ne 12, 3) := by decide +kernel
theorem dX4_stepIn_133 : decode cX4_stepIn 133 = .ok (.iload 7, 2) := by decide +kernel
theorem dX4_stepIn_135 : decode cX4_stepIn 135 = .ok (.iconst 2, 1) := by decide +kernel
theorem dX4_stepIn_136 : decode cX4_stepIn 136 = .ok (.iadd, 1) := by decide +kernel
theorem dX4_stepIn_137 : decode cX4_stepIn 137 = .ok (.iconst 4, 1) := by decide +kernel
theorem dX4_stepIn_138 : decode cX4_stepIn 138 = .ok (.irem, 1) := by decide +kernel
theorem dX4_stepIn_139 : decode cX4_stepIn 139 = .ok (.goto 5, 3) := by decide +kernel
theorem dX4_stepIn_142 : decode cX4_stepIn 142 = .ok (.iload 7, 2) := by decide +kernel
theorem dX4_stepIn_144 : decode cX4_stepIn 144 = .ok (.ireturn, 1) := by decide +kernel
theorem dX4_atOf_0 : decode cX4_atOf 0 = .ok (.aload_n 0, 1) := by decide +kernel
theorem dX4_atOf_1 : decode cX4_atOf 1 = .ok (.getfield 16, 3) := by decide +kernel
theorem dX4_atOf_4 : decode cX4_atOf 4 = .ok (.bipush 9, 2) := by decide +kernel
theorem dX4_atOf_6 : decode cX4_atOf 6 = .ok (.iload_n 1, 1) := by decide +kernel
theorem dX4_atOf_7 : decode cX4_atOf 7 = .ok (.imul, 1) := by decide +kernel
theorem dX4_atOf_8 : decode cX4_atOf 8 = .ok (.iconst 1, 1) := by decide +kernel
theorem dX4_atOf_9 : decode cX4_atOf 9 = .ok (.iadd, 1) := by decide +kernel
theorem dX4_atOf_10 : decode cX4_atOf 10 = .ok (.iaload, 1) := by decide +kernel
theorem dX4_atOf_11 : decode cX4_atOf 11 = .ok (.istore_n 3, 1) := by decide +kernel
theorem dX4_atOf_12 : decode cX4_atOf 12 = .ok (.iconst 1, 1) := by decide +kernel
theorem dX4_atOf_13 : decode cX4_atOf 13 = .ok (.istore 4, 2) := by decide +kernel
theorem dX4_atOf_15 : decode cX4_atOf 15 = .ok (.iload 4, 2) := by decide +kernel
theorem dX4_atOf_17 : decode cX4_atOf 17 = .ok (.iload_n 2, 1) := by decide +kernel
theorem dX4_atOf_18 : decode cX4_atOf 18 = .ok (.aload_n 0, 1) := by decide +kernel
theorem dX4_atOf_19 : decode cX4_atOf 19 = .ok (.getfield 16, 3) := by decide +kernel
theorem dX4_atOf_22 : decode cX4_atOf 22 = .ok (.bipush 9, 2) := by decide +kernel
theorem dX4_atOf_24 : decode cX4_atOf 24 = .ok (.iload_n 1, 1) := by decide +kernel
theorem dX4_atOf_25 : decode cX4_atOf 25 = .ok (.imul, 1) := by decide +kernel
theorem dX4_atOf_26 : decode cX4_atOf 26 = .ok (.iconst 2, 1) := by decide +kernel
theorem dX4_atOf_27 : decode cX4_atOf 27 = .ok (.iadd, 1) := by decide +kernel
theorem dX4_atOf_28 : decode cX4_atOf 28 = .ok (.iaload, 1) := by decide +kernel
theorem dX4_atOf_29 : decode cX4_atOf 29 = .ok (.isub, 1) := by decide +kernel
theorem dX4_atOf_30 : decode cX4_atOf 30 = .ok (.if_icmp .gt 35, 3) := by decide +kernel
theorem dX4_atOf_33 : decode cX4_atOf 33 = .ok (.aload_n 0, 1) := by decide +kernel
theorem dX4_atOf_34 : decode cX4_atOf 34 = .ok (.iload_n 1, 1) := by decide +kernel
theorem dX4_atOf_35 : decode cX4_atOf 35 = .ok (.iload 4, 2) := by decide +kernel
theorem dX4_atOf_37 : decode cX4_atOf 37 = .ok (.invokevirtual 95, 3) := by decide +kernel
theorem dX4_atOf_40 : decode cX4_atOf 40 = .ok (.istore 5, 2) := by decide +kernel
theorem dX4_atOf_42 : decode cX4_atOf 42 = .ok (.iload 5, 2) := by decide +kernel
theorem dX4_atOf_44 : decode cX4_atOf 44 = .ok (.iconst (-1), 1) := by decide +kernel
theorem dX4_atOf_45 : decode cX4_atOf 45 = .ok (.if_icmp .ne 7, 3) := by decide +kernel
theorem dX4_atOf_48 : decode cX4_atOf 48 = .ok (.iload_n 3, 1) := by decide +kernel
theorem dX4_atOf_49 : decode cX4_atOf 49 = .ok (.goto 9, 3) := by decide +kernel
theorem dX4_atOf_52 : decode cX4_atOf 52 = .ok (.iload_n 3, 1) := by decide +kernel
theorem dX4_atOf_53 : decode cX4_atOf 53 = .ok (.iload 5, 2) := by decide +kernel
theorem dX4_atOf_55 : decode cX4_atOf 55 = .ok (.invokestatic 99, 3) := by decide +kernel
theorem dX4_atOf_58 : decode cX4_atOf 58 = .ok (.istore_n 3, 1) := by decide +kernel
theorem dX4_atOf_59 : decode cX4_atOf 59 = .ok (.iinc 4 1, 3) := by decide +kernel
theorem dX4_atOf_62 : decode cX4_atOf 62 = .ok (.goto (-47), 3) := by decide +kernel
theorem dX4_atOf_65 : decode cX4_atOf 65 = .ok (.iload_n 3, 1) := by decide +kernel
theorem dX4_atOf_66 : decode cX4_atOf 66 = .ok (.ireturn, 1) := by decide +kernel
theorem dX4_placesOf_0 : decode cX4_placesOf 0 = .ok (.iconst 0, 1) := by decide +kernel
theorem dX4_placesOf_1 : decode cX4_placesOf 1 = .ok (.istore_n 2, 1) := by decide +kernel
theorem dX4_placesOf_2 : decode cX4_placesOf 2 = .ok (.iconst 0, 1) := by decide +kernel
theorem dX4_placesOf_3 : decode cX4_placesOf 3 = .ok (.istore_n 3, 1) := by decide +kernel
theorem dX4_placesOf_4 : decode cX4_placesOf 4 = .ok (.iload_n 3, 1) := by decide +kernel
theorem dX4_placesOf_5 : decode cX4_placesOf 5 = .ok (.bipush 31, 2) := by decide +kernel
theorem dX4_placesOf_7 : decode cX4_placesOf 7 = .ok (.if_icmp .ge 20, 3) := by decide +kernel
theorem dX4_placesOf_10 : decode cX4_placesOf 10 = .ok (.iload_n 2, 1) := by decide +kernel
theorem dX4_placesOf_11 : decode cX4_placesOf 11 = .ok (.iconst 1, 1) := by decide +kernel
theorem dX4_placesOf_12 : decode cX4_placesOf 12 = .ok (.aload_n 0, 1) := by decide +kernel
theorem dX4_placesOf_13 : decode cX4_placesOf 13 = .ok (.iload_n 1, 1) := by decide +kernel
theorem dX4_placesOf_14 : decode cX4_placesOf 14 = .ok (.iload_n 3, 1) := by decide +kernel
theorem dX4_placesOf_15 : decode cX4_placesOf 15 = .ok (.invokevirtual 102, 3) := by decide +kernel
theorem dX4_placesOf_18 : decode cX4_placesOf 18 = .ok (.ishl, 1) := by decide +kernel
theorem dX4_placesOf_19 : decode cX4_placesOf 19 = .ok (.ior, 1) := by decide +kernel
theorem dX4_placesOf_20 : decode cX4_placesOf 20 = .ok (.istore_n 2, 1) := by decide +kernel
theorem dX4_placesOf_21 : decode cX4_placesOf 21 = .ok (.iinc 3 1, 3) := by decide +kernel
theorem dX4_placesOf_24 : decode cX4_placesOf 24 = .ok (.goto (-20), 3) := by decide +kernel
theorem dX4_placesOf_27 : decode cX4_placesOf 27 = .ok (.iload_n 2, 1) := by decide +kernel
theorem dX4_placesOf_28 : decode cX4_placesOf 28 = .ok (.ireturn, 1) := by decide +kernel
theorem dX4_endOf_0 : decode cX4_endOf 0 = .ok (.aload_n 0, 1) := by decide +kernel
theorem dX4_endOf_1 : decode cX4_endOf 1 = .ok (.getfield 16, 3) := by decide +kernel
theorem dX4_endOf_4 : decode cX4_endOf 4 = .ok (.bipush 9, 2) := by decide +kernel
theorem dX4_endOf_6 : decode cX4_endOf 6 = .ok (.iload_n 1, 1) := by decide +kernel
theorem dX4_endOf_7 : decode cX4_endOf 7 = .ok (.imul, 1) := by decide +kernel
theorem dX4_endOf_8 : decode cX4_endOf 8 = .ok (.iconst 2, 1) := by decide +kernel
theorem dX4_endOf_9 : decode cX4_endOf 9 = .ok (.iadd, 1) := by decide +kernel
theorem dX4_endOf_10 : decode cX4_endOf 10 = .ok (.iaload, 1) := by decide +kernel
theorem dX4_endOf_11 : decode cX4_endOf 11 = .ok (.aload_n 0, 1) := by decide +kernel
theorem dX4_endOf_12 : decode cX4_endOf 12 = .ok (.iload_n 1, 1) := by decide +kernel
theorem dX4_endOf_13 : decode cX4_endOf 13 = .ok (.invokevirtual 92, 3) := by decide +kernel
theorem dX4_endOf_16 : decode cX4_endOf 16 = .ok (.iadd, 1) := by decide +kernel
theorem dX4_endOf_17 : decode cX4_endOf 17 = .ok (.ireturn, 1) := by decide +kernel
theorem dX4_tell_0 : decode cX4_tell 0 = .ok (.iload_n 2, 1) := by decide +kernel
theorem dX4_tell_1 : decode cX4_tell 1 = .ok (.i2l, 1) := by decide +kernel
theorem dX4_tell_2 : decode cX4_tell 2 = .ok (.ldc2_w 105, 3) := by decide +kernel
theorem dX4_tell_5 : decode cX4_tell 5 = .ok (.ldc2_w 107, 3) := by decide +kernel
theorem dX4_tell_8 : decode cX4_tell 8 = .ok (.invokestatic 43, 3) := by decide +kernel
theorem dX4_tell_11 : decode cX4_tell 11 = .ok (.ifCond .eq 40, 3) := by decide +kernel
theorem dX4_tell_14 : decode cX4_tell 14 = .ok (.iload_n 2, 1) := by decide +kernel
theorem dX4_tell_15 : decode cX4_tell 15 = .ok (.bipush 10, 2) := by decide +kernel
theorem dX4_tell_17 : decode cX4_tell 17 = .ok (.isub, 1) := by decide +kernel
theorem dX4_tell_18 : decode cX4_tell 18 = .ok (.aload_n 0, 1) := by decide +kernel
theorem dX4_tell_19 : decode cX4_tell 19 = .ok (.getfield 16, 3) := by decide +kernel
theorem dX4_tell_22 : decode cX4_tell 22 = .ok (.bipush 9, 2) := by decide +kernel
theorem dX4_tell_24 : decode cX4_tell 24 = .ok (.iload_n 1, 1) := by decide +kernel
theorem dX4_tell_25 : decode cX4_tell 25 = .ok (.imul, 1) := by decide +kernel
theorem dX4_tell_26 : decode cX4_tell 26 = .ok (.iconst 3, 1) := by decide +kernel
theorem dX4_tell_27 : decode cX4_tell 27 = .ok (.iadd, 1) := by decide +kernel
theorem dX4_tell_28 : decode cX4_tell 28 = .ok (.iaload, 1) := by decide +kernel
theorem dX4_tell_29 : decode cX4_tell 29 = .ok (.if_icmp .ge 20, 3) := by decide +kernel
theorem dX4_tell_32 : decode cX4_tell 32 = .ok (.aload_n 0, 1) := by decide +kernel
theorem dX4_tell_33 : decode cX4_tell 33 = .ok (.getfield 16, 3) := by decide +kernel
theorem dX4_tell_36 : decode cX4_tell 36 = .ok (.bipush 9, 2) := by decide +kernel
theorem dX4_tell_38 : decode cX4_tell 38 = .ok (.iload_n 1, 1) := by decide +kernel
theorem dX4_tell_39 : decode cX4_tell 39 = .ok (.imul, 1) := by decide +kernel
theorem dX4_tell_40 : decode cX4_tell 40 = .ok (.iload_n 2, 1) := by decide +kernel
theorem dX4_tell_41 : decode cX4_tell 41 = .ok (.iadd, 1) := by decide +kernel
theorem dX4_tell_42 : decode cX4_tell 42 = .ok (.bipush 6, 2) := by decide +kernel
theorem dX4_tell_44 : decode cX4_tell 44 = .ok (.isub, 1) := by decide +kernel
theorem dX4_tell_45 : decode cX4_tell 45 = .ok (.iaload, 1) := by decide +kernel
theorem dX4_tell_46 : decode cX4_tell 46 = .ok (.goto 4, 3) := by decide +kernel
theorem dX4_tell_49 : decode cX4_tell 49 = .ok (.iconst (-1), 1) := by decide +kernel
theorem dX4_tell_50 : decode cX4_tell 50 = .ok (.ireturn, 1) := by decide +kernel
theorem dX4_tell_51 : decode cX4_tell 51 = .ok (.iload_n 2, 1) := by decide +kernel
theorem dX4_tell_52 : decode cX4_tell 52 = .ok (.tableswitch 106 0 6 #[44, 44, 56, 68, 80, 86, 97], 44) := by decide +kernel
theorem dX4_tell_96 : decode cX4_tell 96 = .ok (.aload_n 0, 1) := by decide +kernel
theorem dX4_tell_97 : decode cX4_tell 97 = .ok (.getfield 16, 3) := by decide +kernel
theorem dX4_tell_100 : decode cX4_tell 100 = .ok (.bipush 9, 2) := by decide +kernel
theorem dX4_tell_102 : decode cX4_tell 102 = .ok (.iload_n 1, 1) := by decide +kernel
theorem dX4_tell_103 : decode cX4_tell 103 = .ok (.imul, 1) := by decide +kernel
theorem dX4_tell_104 : decode cX4_tell 104 = .ok (.iload_n 2, 1) := by decide +kernel
theorem dX4_tell_105 : decode cX4_tell 105 = .ok (.iadd, 1) := by decide +kernel
theorem dX4_tell_106 : decode cX4_tell 106 = .ok (.iaload, 1) := by decide +kernel
theorem dX4_tell_107 : decode cX4_tell 107 = .ok (.ireturn, 1) := by decide +kernel
theorem dX4_tell_108 : decode cX4_tell 108 = .ok (.aload_n 0, 1) := by decide +kernel
theorem dX4_tell_109 : decode cX4_tell 109 = .ok (.getfield 16, 3) := by decide +kernel
theorem dX4_tell_112 : decode cX4_tell 112 = .ok (.bipush 9, 2) := by decide +kernel
theorem dX4_tell_114 : decode cX4_tell 114 = .ok (.iload_n 1, 1) := by decide +kernel
theorem dX4_tell_115 : decode cX4_tell 115 = .ok (.imul, 1) := by decide +kernel
theorem dX4_tell_116 : decode cX4_tell 116 = .ok (.iconst 3, 1) := by decide +kernel
theorem dX4_tell_117 : decode cX4_tell 117 = .ok (.iadd, 1) := by decide +kernel
theorem dX4_tell_118 : decode cX4_tell 118 = .ok (.iaload, 1) := by decide +kernel
theorem dX4_tell_119 : decode cX4_tell 119 = .ok (.ireturn, 1) := by decide +kernel
theorem dX4_tell_120 : decode cX4_tell 120 = .ok (.aload_n 0, 1) := by decide +kernel
theorem dX4_tell_121 : decode cX4_tell 121 = .ok (.getfield 16, 3) := by decide +kernel
theorem dX4_tell_124 : decode cX4_tell 124 = .ok (.bipush 9, 2) := by decide +kernel
theorem dX4_tell_126 : decode cX4_tell 126 = .ok (.iload_n 1, 1) := by decide +kernel
theorem dX4_tell_127 : decode cX4_tell 127 = .ok (.imul, 1) := by decide +kernel
theorem dX4_tell_128 : decode cX4_tell 128 = .ok (.iconst 2, 1) := by decide +kernel
theorem dX4_tell_129 : decode cX4_tell 129 = .ok (.iadd, 1) := by decide +kernel
theorem dX4_tell_130 : decode cX4_tell 130 = .ok (.iaload, 1) := by decide +kernel
theorem dX4_tell_131 : decode cX4_tell 131 = .ok (.ireturn, 1) := by decide +kernel
theorem dX4_tell_132 : decode cX4_tell 132 = .ok (.aload_n 0, 1) := by decide +kernel
theorem dX4_tell_133 : decode cX4_tell 133 = .ok (.iload_n 1, 1) := by decide +kernel
theorem dX4_tell_134 : decode cX4_tell 134 = .ok (.invokevirtual 109, 3) := by decide +kernel
theorem dX4_tell_137 : decode cX4_tell 137 = .ok (.ireturn, 1) := by decide +kernel
theorem dX4_tell_138 : decode cX4_tell 138 = .ok (.aload_n 0, 1) := by decide +kernel
theorem dX4_tell_139 : decode cX4_tell 139 = .ok (.iload_n 1, 1) := by decide +kernel
theorem dX4_tell_140 : decode cX4_tell 140 = .ok (.aload_n 0, 1) := by decide +kernel
theorem dX4_tell_141 : decode cX4_tell 141 = .ok (.iload_n 1, 1) := by decide +kernel
theorem dX4_tell_142 : decode cX4_tell 142 = .ok (.invokevirtual 109, 3) := by decide +kernel
theorem dX4_tell_145 : decode cX4_tell 145 = .ok (.invokevirtual 102, 3) := by decide +kernel
theorem dX4_tell_148 : decode cX4_tell 148 = .ok (.ireturn, 1) := by decide +kernel
theorem dX4_tell_149 : decode cX4_tell 149 = .ok (.aload_n 0, 1) := by decide +kernel
theorem dX4_tell_150 : decode cX4_tell 150 = .ok (.iload_n 1, 1) := by decide +kernel
theorem dX4_tell_151 : decode cX4_tell 151 = .ok (.invokevirtual 112, 3) := by decide +kernel
theorem dX4_tell_154 : decode cX4_tell 154 = .ok (.invokestatic 115, 3) := by decide +kernel
theorem dX4_tell_157 : decode cX4_tell 157 = .ok (.ireturn, 1) := by decide +kernel
theorem dX4_tell_158 : decode cX4_tell 158 = .ok (.bipush (-102), 2) := by decide +kernel
theorem dX4_tell_160 : decode cX4_tell 160 = .ok (.ireturn, 1) := by decide +kernel
theorem dX4_stick_0 : decode cX4_stick 0 = .ok (.aload_n 0, 1) := by decide +kernel
theorem dX4_stick_1 : decode cX4_stick 1 = .ok (.iload_n 1, 1) := by decide +kernel
theorem dX4_stick_2 : decode cX4_stick 2 = .ok (.invokevirtual 87, 3) := by decide +kernel
theorem dX4_stick_5 : decode cX4_stick 5 = .ok (.ifCond .eq 12, 3) := by decide +kernel
theorem dX4_stick_8 : decode cX4_stick 8 = .ok (.aload_n 0, 1) := by decide +kernel
theorem dX4_stick_9 : decode cX4_stick 9 = .ok (.iload_n 1, 1) := by decide +kernel
theorem dX4_stick_10 : decode cX4_stick 10 = .ok (.iload_n 2, 1) := by decide +kernel
theorem dX4_stick_11 : decode cX4_stick 11 = .ok (.invokevirtual 118, 3) := by decide +kernel
theorem dX4_stick_14 : decode cX4_stick 14 = .ok (.goto 5, 3) := by decide +kernel
theorem dX4_stick_17 : decode cX4_stick 17 = .ok (.bipush (-101), 2) := by decide +kernel
theorem dX4_stick_19 : decode cX4_stick 19 = .ok (.ireturn, 1) := by decide +kernel
theorem dX4_as_0 : decode cX4_as 0 = .ok (.aload_n 0, 1) := by decide +kernel
theorem dX4_as_1 : decode cX4_as 1 = .ok (.iload_n 1, 1) := by decide +kernel
theorem dX4_as_2 : decode cX4_as 2 = .ok (.invokevirtual 87, 3) := by decide +kernel
theorem dX4_as_5 : decode cX4_as 5 = .ok (.ifCond .ne 6, 3) := by decide +kernel
theorem dX4_as_8 : decode cX4_as 8 = .ok (.bipush (-101), 2) := by decide +kernel
theorem dX4_as_10 : decode cX4_as 10 = .ok (.ireturn, 1) := by decide +kernel
theorem dX4_as_11 : decode cX4_as 11 = .ok (.iload_n 2, 1) := by decide +kernel
theorem dX4_as_12 : decode cX4_as 12 = .ok (.i2l, 1) := by decide +kernel
theorem dX4_as_13 : decode cX4_as 13 = .ok (.lconst 0, 1) := by decide +kernel
theorem dX4_as_14 : decode cX4_as 14 = .ok (.ldc2_w 121, 3) := by decide +kernel
theorem dX4_as_17 : decode cX4_as 17 = .ok (.invokestatic 43, 3) := by decide +kernel
theorem dX4_as_20 : decode cX4_as 20 = .ok (.ifCond .ne 6, 3) := by decide +kernel
theorem dX4_as_23 : decode cX4_as 23 = .ok (.bipush (-102), 2) := by decide +kernel
theorem dX4_as_25 : decode cX4_as 25 = .ok (.ireturn, 1) := by decide +kernel
theorem dX4_as_26 : decode cX4_as 26 = .ok (.aload_n 0, 1) := by decide +kernel
theorem dX4_as_27 : decode cX4_as 27 = .ok (.getfield 16, 3) := by decide +kernel
theorem dX4_as_30 : decode cX4_as 30 = .ok (.bipush 9, 2) := by decide +kernel
theorem dX4_as_32 : decode cX4_as 32 = .ok (.iload_n 1, 1) := by decide +kernel
theorem dX4_as_33 : decode cX4_as 33 = .ok (.imul, 1) := by decide +kernel
theorem dX4_as_34 : decode cX4_as 34 = .ok (.iaload, 1) := by decide +kernel
theorem dX4_as_35 : decode cX4_as 35 = .ok (.istore_n 3, 1) := by decide +kernel
theorem dX4_as_36 : decode cX4_as 36 = .ok (.iload_n 2, 1) := by decide +kernel
theorem dX4_as_37 : decode cX4_as 37 = .ok (.ifCond .eq 18, 3) := by decide +kernel
theorem dX4_as_40 : decode cX4_as 40 = .ok (.iload_n 2, 1) := by decide +kernel
theorem dX4_as_41 : decode cX4_as 41 = .ok (.iload_n 3, 1) := by decide +kernel
theorem dX4_as_42 : decode cX4_as 42 = .ok (.if_icmp .eq 13, 3) := by decide +kernel
theorem dX4_as_45 : decode cX4_as 45 = .ok (.iload_n 2, 1) := by decide +kernel
theorem dX4_as_46 : decode cX4_as 46 = .ok (.iconst 1, 1) := by decide +kernel
theorem dX4_as_47 : decode cX4_as 47 = .ok (.if_icmp .ne 12, 3) := by decide +kernel
theorem dX4_as_50 : decode cX4_as 50 = .ok (.iload_n 3, 1) := by decide +kernel
theorem dX4_as_51 : decode cX4_as 51 = .ok (.iconst 4, 1) := by decide +kernel
theorem dX4_as_52 : decode cX4_as 52 = .ok (.if_icmp .ne 7, 3) := by decide +kernel
theorem dX4_as_55 : decode cX4_as 55 = .ok (.iconst 1, 1) := by decide +kernel
theorem dX4_as_56 : decode cX4_as 56 = .ok (.goto 4, 3) := by decide +kernel
theorem dX4_as_59 : decode cX4_as 59 = .ok (.iconst 0, 1) := by decide +kernel
theorem dX4_as_60 : decode cX4_as 60 = .ok (.istore 4, 2) := by decide +kernel
theorem dX4_as_62 : decode cX4_as 62 = .ok (.iload 4, 2) := by decide +kernel
theorem dX4_as_64 : decode cX4_as 64 = .ok (.ifCond .eq 7, 3) := by decide +kernel
theorem dX4_as_67 : decode cX4_as 67 = .ok (.iload_n 1, 1) := by decide +kernel
theorem dX4_as_68 : decode cX4_as 68 = .ok (.goto 4, 3) := by decide +kernel
theorem dX4_as_71 : decode cX4_as 71 = .ok (.iconst (-1), 1) := by decide +kernel
theorem dX4_as_72 : decode cX4_as 72 = .ok (.ireturn, 1) := by decide +kernel
theorem dX4_at_0 : decode cX4_at 0 = .ok (.aload_n 0, 1) := by decide +kernel
theorem dX4_at_1 : decode cX4_at 1 = .ok (.iload_n 1, 1) := by decide +kernel
theorem dX4_at_2 : decode cX4_at 2 = .ok (.invokevirtual 87, 3) := by decide +kernel
theorem dX4_at_5 : decode cX4_at 5 = .ok (.ifCond .ne 6, 3) := by decide +kernel
theorem dX4_at_8 : decode cX4_at 8 = .ok (.bipush (-101), 2) := by decide +kernel
theorem dX4_at_10 : decode cX4_at 10 = .ok (.ireturn, 1) := by decide +kernel
theorem dX4_at_11 : decode cX4_at 11 = .ok (.iload_n 2, 1) := by decide +kernel
theorem dX4_at_12 : decode cX4_at 12 = .ok (.i2l, 1) := by decide +kernel
theorem dX4_at_13 : decode cX4_at 13 = .ok (.lconst 0, 1) := by decide +kernel
theorem dX4_at_14 : decode cX4_at 14 = .ok (.ldc2_w 123, 3) := by decide +kernel
theorem dX4_at_17 : decode cX4_at 17 = .ok (.invokestatic 43, 3) := by decide +kernel
theorem dX4_at_20 : decode cX4_at 20 = .ok (.ifCond .eq 12, 3) := by decide +kernel
theorem dX4_at_23 : decode cX4_at 23 = .ok (.aload_n 0, 1) := by decide +kernel
theorem dX4_at_24 : decode cX4_at 24 = .ok (.iload_n 1, 1) := by decide +kernel
theorem dX4_at_25 : decode cX4_at 25 = .ok (.iload_n 2, 1) := by decide +kernel
theorem dX4_at_26 : decode cX4_at 26 = .ok (.invokevirtual 102, 3) := by decide +kernel
theorem dX4_at_29 : decode cX4_at 29 = .ok (.goto 5, 3) := by decide +kernel
theorem dX4_at_32 : decode cX4_at 32 = .ok (.bipush (-102), 2) := by decide +kernel
theorem dX4_at_34 : decode cX4_at 34 = .ok (.ireturn, 1) := by decide +kernel
theorem dX4_meetOf_0 : decode cX4_meetOf 0 = .ok (.iconst 0, 1) := by decide +kernel
theorem dX4_meetOf_1 : decode cX4_meetOf 1 = .ok (.istore_n 3, 1) := by decide +kernel
theorem dX4_meetOf_2 : decode cX4_meetOf 2 = .ok (.iconst 0, 1) := by decide +kernel
theorem dX4_meetOf_3 : decode cX4_meetOf 3 = .ok (.istore 4, 2) := by decide +kernel
theorem dX4_meetOf_5 : decode cX4_meetOf 5 = .ok (.iload 4, 2) := by decide +kernel
theorem dX4_meetOf_7 : decode cX4_meetOf 7 = .ok (.bipush 31, 2) := by decide +kernel
theorem dX4_meetOf_9 : decode cX4_meetOf 9 = .ok (.if_icmp .ge 34, 3) := by decide +kernel
theorem dX4_meetOf_12 : decode cX4_meetOf 12 = .ok (.iload_n 3, 1) := by decide +kernel
theorem dX4_meetOf_13 : decode cX4_meetOf 13 = .ok (.aload_n 0, 1) := by decide +kernel
theorem dX4_meetOf_14 : decode cX4_meetOf 14 = .ok (.iload_n 1, 1) := by decide +kernel
theorem dX4_meetOf_15 : decode cX4_meetOf 15 = .ok (.iload 4, 2) := by decide +kernel
theorem dX4_meetOf_17 : decode cX4_meetOf 17 = .ok (.invokevirtual 102, 3) := by decide +kernel
theorem dX4_meetOf_20 : decode cX4_meetOf 20 = .ok (.aload_n 0, 1) := by decide +kernel
theorem dX4_meetOf_21 : decode cX4_meetOf 21 = .ok (.iload_n 2, 1) := by decide +kernel
theorem dX4_meetOf_22 : decode cX4_meetOf 22 = .ok (.iload 4, 2) := by decide +kernel
theorem dX4_meetOf_24 : decode cX4_meetOf 24 = .ok (.invokevirtual 102, 3) := by decide +kernel
theorem dX4_meetOf_27 : decode cX4_meetOf 27 = .ok (.if_icmp .ne 7, 3) := by decide +kernel
theorem dX4_meetOf_30 : decode cX4_meetOf 30 = .ok (.iconst 1, 1) := by decide +kernel
theorem dX4_meetOf_31 : decode cX4_meetOf 31 = .ok (.goto 4, 3) := by decide +kernel
theorem dX4_meetOf_34 : decode cX4_meetOf 34 = .ok (.iconst 0, 1) := by decide +kernel
theorem dX4_meetOf_35 : decode cX4_meetOf 35 = .ok (.iadd, 1) := by decide +kernel
theorem dX4_meetOf_36 : decode cX4_meetOf 36 = .ok (.istore_n 3, 1) := by decide +kernel
theorem dX4_meetOf_37 : decode cX4_meetOf 37 = .ok (.iinc 4 1, 3) := by decide +kernel
theorem dX4_meetOf_40 : decode cX4_meetOf 40 = .ok (.goto (-35), 3) := by decide +kernel
theorem dX4_meetOf_43 : decode cX4_meetOf 43 = .ok (.iload_n 3, 1) := by decide +kernel
theorem dX4_meetOf_44 : decode cX4_meetOf 44 = .ok (.ireturn, 1) := by decide +kernel
theorem dX4_meet_0 : decode cX4_meet 0 = .ok (.aload_n 0, 1) := by decide +kernel
theorem dX4_meet_1 : decode cX4_meet 1 = .ok (.iload_n 1, 1) := by decide +kernel
theorem dX4_meet_2 : decode cX4_meet 2 = .ok (.iload_n 2, 1) := by decide +kernel
theorem dX4_meet_3 : decode cX4_meet 3 = .ok (.invokevirtual 125, 3) := by decide +kernel
theorem dX4_meet_6 : decode cX4_meet 6 = .ok (.ifCond .eq 12, 3) := by decide +kernel
theorem dX4_meet_9 : decode cX4_meet 9 = .ok (.aload_n 0, 1) := by decide +kernel
theorem dX4_meet_10 : decode cX4_meet 10 = .ok (.iload_n 1, 1) := by decide +kernel
theorem dX4_meet_11 : decode cX4_meet 11 = .ok (.iload_n 2, 1) := by decide +kernel
theorem dX4_meet_12 : decode cX4_meet 12 = .ok (.invokevirtual 129, 3) := by decide +kernel
theorem dX4_meet_15 : decode cX4_meet 15 = .ok (.goto 5, 3) := by decide +kernel
theorem dX4_meet_18 : decode cX4_meet 18 = .ok (.bipush (-101), 2) := by decide +kernel
theorem dX4_meet_20 : decode cX4_meet 20 = .ok (.ireturn, 1) := by decide +kernel
theorem dX4_late_0 : decode cX4_late 0 = .ok (.aload_n 0, 1) := by decide +kernel
theorem dX4_late_1 : decode cX4_late 1 = .ok (.iload_n 1, 1) := by decide +kernel
theorem dX4_late_2 : decode cX4_late 2 = .ok (.invokevirtual 87, 3) := by decide +kernel
theorem dX4_late_5 : decode cX4_late 5 = .ok (.ifCond .ne 6, 3) := by decide +kernel
theorem dX4_late_8 : decode cX4_late 8 = .ok (.bipush (-101), 2) := by decide +kernel
theorem dX4_late_10 : decode cX4_late 10 = .ok (.ireturn, 1) := by decide +kernel
theorem dX4_late_11 : decode cX4_late 11 = .ok (.iload_n 2, 1) := by decide +kernel
theorem dX4_late_12 : decode cX4_late 12 = .ok (.i2l, 1) := by decide +kernel
theorem dX4_late_13 : decode cX4_late 13 = .ok (.lconst 0, 1) := by decide +kernel
theorem dX4_late_14 : decode cX4_late 14 = .ok (.ldc2_w 132, 3) := by decide +kernel
theorem dX4_late_17 : decode cX4_late 17 = .ok (.invokestatic 43, 3) := by decide +kernel
theorem dX4_late_20 : decode cX4_late 20 = .ok (.ifCond .ne 6, 3) := by decide +kernel
theorem dX4_late_23 : decode cX4_late 23 = .ok (.bipush (-102), 2) := by decide +kernel
theorem dX4_late_25 : decode cX4_late 25 = .ok (.ireturn, 1) := by decide +kernel
theorem dX4_late_26 : decode cX4_late 26 = .ok (.aload_n 0, 1) := by decide +kernel
theorem dX4_late_27 : decode cX4_late 27 = .ok (.getfield 16, 3) := by decide +kernel
theorem dX4_late_30 : decode cX4_late 30 = .ok (.bipush 9, 2) := by decide +kernel
theorem dX4_late_32 : decode cX4_late 32 = .ok (.iload_n 1, 1) := by decide +kernel
theorem dX4_late_33 : decode cX4_late 33 = .ok (.imul, 1) := by decide +kernel
theorem dX4_late_34 : decode cX4_late 34 = .ok (.iconst 2, 1) := by decide +kernel
theorem dX4_late_35 : decode cX4_late 35 = .ok (.iadd, 1) := by decide +kernel
theorem dX4_late_36 : decode cX4_late 36 = .ok (.iaload, 1) := by decide +kernel
theorem dX4_late_37 : decode cX4_late 37 = .ok (.istore_n 3, 1) := by decide +kernel
theorem dX4_late_38 : decode cX4_late 38 = .ok (.aload_n 0, 1) := by decide +kernel
theorem dX4_late_39 : decode cX4_late 39 = .ok (.getfield 16, 3) := by decide +kernel
theorem dX4_late_42 : decode cX4_late 42 = .ok (.bipush 9, 2) := by decide +kernel
theorem dX4_late_44 : decode cX4_late 44 = .ok (.iload_n 1, 1) := by decide +kernel
theorem dX4_late_45 : decode cX4_late 45 = .ok (.imul, 1) := by decide +kernel
theorem dX4_late_46 : decode cX4_late 46 = .ok (.iconst 2, 1) := by decide +kernel
theorem dX4_late_47 : decode cX4_late 47 = .ok (.iadd, 1) := by decide +kernel
theorem dX4_late_48 : decode cX4_late 48 = .ok (.iload_n 2, 1) := by decide +kernel
theorem dX4_late_49 : decode cX4_late 49 = .ok (.iastore, 1) := by decide +kernel
theorem dX4_late_50 : decode cX4_late 50 = .ok (.aload_n 0, 1) := by decide +kernel
theorem dX4_late_51 : decode cX4_late 51 = .ok (.dup, 1) := by decide +kernel
theorem dX4_late_52 : decode cX4_late 52 = .ok (.getfield 78, 3) := by decide +kernel
theorem dX4_late_55 : decode cX4_late 55 = .ok (.iconst 1, 1) := by decide +kernel
theorem dX4_late_56 : decode cX4_late 56 = .ok (.iadd, 1) := by decide +kernel
theorem dX4_late_57 : decode cX4_late 57 = .ok (.putfield 78, 3) := by decide +kernel
theorem dX4_late_60 : decode cX4_late 60 = .ok (.iload_n 3, 1) := by decide +kernel
theorem dX4_late_61 : decode cX4_late 61 = .ok (.ireturn, 1) := by decide +kernel
theorem dX4_cut_0 : decode cX4_cut 0 = .ok (.aload_n 0, 1) := by decide +kernel
theorem dX4_cut_1 : decode cX4_cut 1 = .ok (.iload_n 1, 1) := by decide +kernel
theorem dX4_cut_2 : decode cX4_cut 2 = .ok (.invokevirtual 87, 3) := by decide +kernel
theorem dX4_cut_5 : decode cX4_cut 5 = .ok (.ifCond .ne 6, 3) := by decide +kernel
theorem dX4_cut_8 : decode cX4_cut 8 = .ok (.bipush (-101), 2) := by decide +kernel
theorem dX4_cut_10 : decode cX4_cut 10 = .ok (.ireturn, 1) := by decide +kernel
theorem dX4_cut_11 : decode cX4_cut 11 = .ok (.aload_n 0, 1) := by decide +kernel
theorem dX4_cut_12 : decode cX4_cut 12 = .ok (.getfield 16, 3) := by decide +kernel
theorem dX4_cut_15 : decode cX4_cut 15 = .ok (.bipush 9, 2) := by decide +kernel
theorem dX4_cut_17 : decode cX4_cut 17 = .ok (.iload_n 1, 1) := by decide +kernel
theorem dX4_cut_18 : decode cX4_cut 18 = .ok (.imul, 1) := by decide +kernel
theorem dX4_cut_19 : decode cX4_cut 19 = .ok (.iconst 3, 1) := by decide +kernel
theorem dX4_cut_20 : decode cX4_cut 20 = .ok (.iadd, 1) := by decide +kernel
theorem dX4_cut_21 : decode cX4_cut 21 = .ok (.iaload, 1) := by decide +kernel
theorem dX4_cut_22 : decode cX4_cut 22 = .ok (.istore_n 3, 1) := by decide +kernel
theorem dX4_cut_23 : decode cX4_cut 23 = .ok (.iload_n 2, 1) := by decide +kernel
theorem dX4_cut_24 : decode cX4_cut 24 = .ok (.i2l, 1) := by decide +kernel
theorem dX4_cut_25 : decode cX4_cut 25 = .ok (.lconst 1, 1) := by decide +kernel
theorem dX4_cut_26 : decode cX4_cut 26 = .ok (.iload_n 3, 1) := by decide +kernel
theorem dX4_cut_27 : decode cX4_cut 27 = .ok (.i2l, 1) := by decide +kernel
theorem dX4_cut_28 : decode cX4_cut 28 = .ok (.invokestatic 43, 3) := by decide +kernel
theorem dX4_cut_31 : decode cX4_cut 31 = .ok (.ifCond .ne 6, 3) := by decide +kernel
theorem dX4_cut_34 : decode cX4_cut 34 = .ok (.bipush (-102), 2) := by decide +kernel
theorem dX4_cut_36 : decode cX4_cut 36 = .ok (.ireturn, 1) := by decide +kernel
theorem dX4_cut_37 : decode cX4_cut 37 = .ok (.aload_n 0, 1) := by decide +kernel
theorem dX4_cut_38 : decode cX4_cut 38 = .ok (.getfield 16, 3) := by decide +kernel
theorem dX4_cut_41 : decode cX4_cut 41 = .ok (.bipush 9, 2) := by decide +kernel
theorem dX4_cut_43 : decode cX4_cut 43 = .ok (.iload_n 1, 1) := by decide +kernel
theorem dX4_cut_44 : decode cX4_cut 44 = .ok (.imul, 1) := by decide +kernel
theorem dX4_cut_45 : decode cX4_cut 45 = .ok (.iconst 3, 1) := by decide +kernel
theorem dX4_cut_46 : decode cX4_cut 46 = .ok (.iadd, 1) := by decide +kernel
theorem dX4_cut_47 : decode cX4_cut 47 = .ok (.iload_n 2, 1) := by decide +kernel
theorem dX4_cut_48 : decode cX4_cut 48 = .ok (.iastore, 1) := by decide +kernel
theorem dX4_cut_49 : decode cX4_cut 49 = .ok (.aload_n 0, 1) := by decide +kernel
theorem dX4_cut_50 : decode cX4_cut 50 = .ok (.dup, 1) := by decide +kernel
theorem dX4_cut_51 : decode cX4_cut 51 = .ok (.getfield 78, 3) := by decide +kernel
theorem dX4_cut_54 : decode cX4_cut 54 = .ok (.iconst 1, 1) := by decide +kernel
theorem dX4_cut_55 : decode cX4_cut 55 = .ok (.iadd, 1) := by decide +kernel
theorem dX4_cut_56 : decode cX4_cut 56 = .ok (.putfield 78, 3) := by decide +kernel
theorem dX4_cut_59 : decode cX4_cut 59 = .ok (.iload_n 3, 1) := by decide +kernel
theorem dX4_cut_60 : decode cX4_cut 60 = .ok (.ireturn, 1) := by decide +kernel
theorem dX4_saw_0 : decode cX4_saw 0 = .ok (.aload_n 0, 1) := by decide +kernel
theorem dX4_saw_1 : decode cX4_saw 1 = .ok (.iload_n 1, 1) := by decide +kernel
theorem dX4_saw_2 : decode cX4_saw 2 = .ok (.invokevirtual 87, 3) := by decide +kernel
theorem dX4_saw_5 : decode cX4_saw 5 = .ok (.ifCond .ne 6, 3) := by decide +kernel
theorem dX4_saw_8 : decode cX4_saw 8 = .ok (.bipush (-101), 2) := by decide +kernel
theorem dX4_saw_10 : decode cX4_saw 10 = .ok (.ireturn, 1) := by decide +kernel
theorem dX4_saw_11 : decode cX4_saw 11 = .ok (.aload_n 0, 1) := by decide +kernel
theorem dX4_saw_12 : decode cX4_saw 12 = .ok (.getfield 16, 3) := by decide +kernel
theorem dX4_saw_15 : decode cX4_saw 15 = .ok (.bipush 9, 2) := by decide +kernel
theorem dX4_saw_17 : decode cX4_saw 17 = .ok (.iload_n 1, 1) := by decide +kernel
theorem dX4_saw_18 : decode cX4_saw 18 = .ok (.imul, 1) := by decide +kernel
theorem dX4_saw_19 : decode cX4_saw 19 = .ok (.iconst 3, 1) := by decide +kernel
theorem dX4_saw_20 : decode cX4_saw 20 = .ok (.iadd, 1) := by decide +kernel
theorem dX4_saw_21 : decode cX4_saw 21 = .ok (.iaload, 1) := by decide +kernel
theorem dX4_saw_22 : decode cX4_saw 22 = .ok (.istore_n 3, 1) := by decide +kernel
theorem dX4_saw_23 : decode cX4_saw 23 = .ok (.iload_n 2, 1) := by decide +kernel
theorem dX4_saw_24 : decode cX4_saw 24 = .ok (.i2l, 1) := by decide +kernel
theorem dX4_saw_25 : decode cX4_saw 25 = .ok (.lconst 1, 1) := by decide +kernel
theorem dX4_saw_26 : decode cX4_saw 26 = .ok (.iload_n 3, 1) := by decide +kernel
theorem dX4_saw_27 : decode cX4_saw 27 = .ok (.iconst 1, 1) := by decide +kernel
theorem dX4_saw_28 : decode cX4_saw 28 = .ok (.isub, 1) := by decide +kernel
theorem dX4_saw_29 : decode cX4_saw 29 = .ok (.i2l, 1) := by decide +kernel
theorem dX4_saw_30 : decode cX4_saw 30 = .ok (.invokestatic 43, 3) := by decide +kernel
theorem dX4_saw_33 : decode cX4_saw 33 = .ok (.ifCond .ne 6, 3) := by decide +kernel
theorem dX4_saw_36 : decode cX4_saw 36 = .ok (.bipush (-102), 2) := by decide +kernel
theorem dX4_saw_38 : decode cX4_saw 38 = .ok (.ireturn, 1) := by decide +kernel
theorem dX4_saw_39 : decode cX4_saw 39 = .ok (.aload_n 0, 1) := by decide +kernel
theorem dX4_saw_40 : decode cX4_saw 40 = .ok (.getfield 75, 3) := by decide +kernel
theorem dX4_saw_43 : decode cX4_saw 43 = .ok (.bipush 6, 2) := by decide +kernel
theorem dX4_saw_45 : decode cX4_saw 45 = .ok (.if_icmp .ne 6, 3) := by decide +kernel
theorem dX4_saw_48 : decode cX4_saw 48 = .ok (.bipush (-104), 2) := by decide +kernel
theorem dX4_saw_50 : decode cX4_saw 50 = .ok (.ireturn, 1) := by decide +kernel
theorem dX4_saw_51 : decode cX4_saw 51 = .ok (.aload_n 0, 1) := by decide +kernel
theorem dX4_saw_52 : decode cX4_saw 52 = .ok (.getfield 16, 3) := by decide +kernel
theorem dX4_saw_55 : decode cX4_saw 55 = .ok (.bipush 9, 2) := by decide +kernel
theorem dX4_saw_57 : decode cX4_saw 57 = .ok (.iload_n 1, 1) := by decide +kernel
theorem dX4_saw_58 : decode cX4_saw 58 = .ok (.imul, 1) := by decide +kernel
theorem dX4_saw_59 : decode cX4_saw 59 = .ok (.iconst 1, 1) := by decide +kernel
theorem dX4_saw_60 : decode cX4_saw 60 = .ok (.iadd, 1) := by decide +kernel
theorem dX4_saw_61 : decode cX4_saw 61 = .ok (.iaload, 1) := by decide +kernel
theorem dX4_saw_62 : decode cX4_saw 62 = .ok (.istore 4, 2) := by decide +kernel
theorem dX4_saw_64 : decode cX4_saw 64 = .ok (.iconst 0, 1) := by decide +kernel
theorem dX4_saw_65 : decode cX4_saw 65 = .ok (.istore 5, 2) := by decide +kernel
theorem dX4_saw_67 : decode cX4_saw 67 = .ok (.iload 5, 2) := by decide +kernel
theorem dX4_saw_69 : decode cX4_saw 69 = .ok (.iload_n 2, 1) := by decide +kernel
theorem dX4_saw_70 : decode cX4_saw 70 = .ok (.if_icmp .ge 30, 3) := by decide +kernel
theorem dX4_saw_73 : decode cX4_saw 73 = .ok (.iload 4, 2) := by decide +kernel
theorem dX4_saw_75 : decode cX4_saw 75 = .ok (.aload_n 0, 1) := by decide +kernel
theorem dX4_saw_76 : decode cX4_saw 76 = .ok (.getfield 16, 3) := by decide +kernel
theorem dX4_saw_79 : decode cX4_saw 79 = .ok (.bipush 9, 2) := by decide +kernel
theorem dX4_saw_81 : decode cX4_saw 81 = .ok (.iload_n 1, 1) := by decide +kernel
theorem dX4_saw_82 : decode cX4_saw 82 = .ok (.imul, 1) := by decide +kernel
theorem dX4_saw_83 : decode cX4_saw 83 = .ok (.iconst 4, 1) := by decide +kernel
theorem dX4_saw_84 : decode cX4_saw 84 = .ok (.iadd, 1) := by decide +kernel
theorem dX4_saw_85 : decode cX4_saw 85 = .ok (.iload 5, 2) := by decide +kernel
theorem dX4_saw_87 : decode cX4_saw 87 = .ok (.iadd, 1) := by decide +kernel
theorem dX4_saw_88 : decode cX4_saw 88 = .ok (.iaload, 1) := by decide +kernel
theorem dX4_saw_89 : decode cX4_saw 89 = .ok (.invokestatic 99, 3) := by decide +kernel
theorem dX4_saw_92 : decode cX4_saw 92 = .ok (.istore 4, 2) := by decide +kernel
theorem dX4_saw_94 : decode cX4_saw 94 = .ok (.iinc 5 1, 3) := by decide +kernel
theorem dX4_saw_97 : decode cX4_saw 97 = .ok (.goto (-30), 3) := by decide +kernel
theorem dX4_saw_100 : decode cX4_saw 100 = .ok (.bipush 9, 2) := by decide +kernel
theorem dX4_saw_102 : decode cX4_saw 102 = .ok (.aload_n 0, 1) := by decide +kernel
theorem dX4_saw_103 : decode cX4_saw 103 = .ok (.getfield 75, 3) := by decide +kernel
theorem dX4_saw_106 : decode cX4_saw 106 = .ok (.imul, 1) := by decide +kernel
theorem dX4_saw_107 : decode cX4_saw 107 = .ok (.istore 5, 2) := by decide +kernel
theorem dX4_saw_109 : decode cX4_saw 109 = .ok (.aload_n 0, 1) := by decide +kernel
theorem dX4_saw_110 : decode cX4_saw 110 = .ok (.getfield 16, 3) := by decide +kernel
theorem dX4_saw_113 : decode cX4_saw 113 = .ok (.iload 5, 2) := by decide +kernel
theorem dX4_saw_115 : decode cX4_saw 115 = .ok (.aload_n 0, 1) := by decide +kernel
theorem dX4_saw_116 : decode cX4_saw 116 = .ok (.getfield 16, 3) := by decide +kernel
theorem dX4_saw_119 : decode cX4_saw 119 = .ok (.bipush 9, 2) := by decide +kernel
theorem dX4_saw_121 : decode cX4_saw 121 = .ok (.iload_n 1, 1) := by decide +kernel
theorem dX4_saw_122 : decode cX4_saw 122 = .ok (.imul, 1) := by decide +kernel
theorem dX4_saw_123 : decode cX4_saw 123 = .ok (.iaload, 1) := by decide +kernel
theorem dX4_saw_124 : decode cX4_saw 124 = .ok (.iastore, 1) := by decide +kernel
theorem dX4_saw_125 : decode cX4_saw 125 = .ok (.aload_n 0, 1) := by decide +kernel
theorem dX4_saw_126 : decode cX4_saw 126 = .ok (.getfield 16, 3) := by decide +kernel
theorem dX4_saw_129 : decode cX4_saw 129 = .ok (.iload 5, 2) := by decide +kernel
theorem dX4_saw_131 : decode cX4_saw 131 = .ok (.iconst 1, 1) := by decide +kernel
theorem dX4_saw_132 : decode cX4_saw 132 = .ok (.iadd, 1) := by decide +kernel
theorem dX4_saw_133 : decode cX4_saw 133 = .ok (.iload 4, 2) := by decide +kernel
theorem dX4_saw_135 : decode cX4_saw 135 = .ok (.iastore, 1) := by decide +kernel
theorem dX4_saw_136 : decode cX4_saw 136 = .ok (.aload_n 0, 1) := by decide +kernel
theorem dX4_saw_137 : decode cX4_saw 137 = .ok (.getfield 16, 3) := by decide +kernel
theorem dX4_saw_140 : decode cX4_saw 140 = .ok (.iload 5, 2) := by decide +kernel
theorem dX4_saw_142 : decode cX4_saw 142 = .ok (.iconst 2, 1) := by decide +kernel
theorem dX4_saw_143 : decode cX4_saw 143 = .ok (.iadd, 1) := by decide +kernel
theorem dX4_saw_144 : decode cX4_saw 144 = .ok (.iconst 0, 1) := by decide +kernel
theorem dX4_saw_145 : decode cX4_saw 145 = .ok (.iastore, 1) := by decide +kernel
theorem dX4_saw_146 : decode cX4_saw 146 = .ok (.aload_n 0, 1) := by decide +kernel
theorem dX4_saw_147 : decode cX4_saw 147 = .ok (.getfield 16, 3) := by decide +kernel
theorem dX4_saw_150 : decode cX4_saw 150 = .ok (.iload 5, 2) := by decide +kernel
theorem dX4_saw_152 : decode cX4_saw 152 = .ok (.iconst 3, 1) := by decide +kernel
theorem dX4_saw_153 : decode cX4_saw 153 = .ok (.iadd, 1) := by decide +kernel
theorem dX4_saw_154 : decode cX4_saw 154 = .ok (.iload_n 3, 1) := by decide +kernel
theorem dX4_saw_155 : decode cX4_saw 155 = .ok (.iload_n 2, 1) := by decide +kernel
theorem dX4_saw_156 : decode cX4_saw 156 = .ok (.isub, 1) := by decide +kernel
theorem dX4_saw_157 : decode cX4_saw 157 = .ok (.iastore, 1) := by decide +kernel
theorem dX4_saw_158 : decode cX4_saw 158 = .ok (.iload_n 2, 1) := by decide +kernel
theorem dX4_saw_159 : decode cX4_saw 159 = .ok (.istore 6, 2) := by decide +kernel
theorem dX4_saw_161 : decode cX4_saw 161 = .ok (.iload 6, 2) := by decide +kernel
theorem dX4_saw_163 : decode cX4_saw 163 = .ok (.iload_n 3, 1) := by decide +kernel
theorem dX4_saw_164 : decode cX4_saw 164 = .ok (.if_icmp .ge 37, 3) := by decide +kernel
theorem dX4_saw_167 : decode cX4_saw 167 = .ok (.aload_n 0, 1) := by decide +kernel
theorem dX4_saw_168 : decode cX4_saw 168 = .ok (.getfield 16, 3) := by decide +kernel
theorem dX4_saw_171 : decode cX4_saw 171 = .ok (.iload 5, 2) := by decide +kernel
theorem dX4_saw_173 : decode cX4_saw 173 = .ok (.iconst 4, 1) := by decide +kernel
theorem dX4_saw_174 : decode cX4_saw 174 = .ok (.iadd, 1) := by decide +kernel
theorem dX4_saw_175 : decode cX4_saw 175 = .ok (.iload 6, 2) := by decide +kernel
theorem dX4_saw_177 : decode cX4_saw 177 = .ok (.iadd, 1) := by decide +kernel
theorem dX4_saw_178 : decode cX4_saw 178 = .ok (.iload_n 2, 1) := by decide +kernel
theorem dX4_saw_179 : decode cX4_saw 179 = .ok (.isub, 1) := by decide +kernel
theorem dX4_saw_180 : decode cX4_saw 180 = .ok (.aload_n 0, 1) := by decide +kernel
theorem dX4_saw_181 : decode cX4_saw 181 = .ok (.getfield 16, 3) := by decide +kernel
theorem dX4_saw_184 : decode cX4_saw 184 = .ok (.bipush 9, 2) := by decide +kernel
theorem dX4_saw_186 : decode cX4_saw 186 = .ok (.iload_n 1, 1) := by decide +kernel
theorem dX4_saw_187 : decode cX4_saw 187 = .ok (.imul, 1) := by decide +kernel
theorem dX4_saw_188 : decode cX4_saw 188 = .ok (.iconst 4, 1) := by decide +kernel
theorem dX4_saw_189 : decode cX4_saw 189 = .ok (.iadd, 1) := by decide +kernel
theorem dX4_saw_190 : decode cX4_saw 190 = .ok (.iload 6, 2) := by decide +kernel
theorem dX4_saw_192 : decode cX4_saw 192 = .ok (.iadd, 1) := by decide +kernel
theorem dX4_saw_193 : decode cX4_saw 193 = .ok (.iaload, 1) := by decide +kernel
theorem dX4_saw_194 : decode cX4_saw 194 = .ok (.iastore, 1) := by decide +kernel
theorem dX4_saw_195 : decode cX4_saw 195 = .ok (.iinc 6 1, 3) := by decide +kernel
theorem dX4_saw_198 : decode cX4_saw 198 = .ok (.goto (-37), 3) := by decide +kernel
theorem dX4_saw_201 : decode cX4_saw 201 = .ok (.aload_n 0, 1) := by decide +kernel
theorem dX4_saw_202 : decode cX4_saw 202 = .ok (.getfield 16, 3) := by decide +kernel
theorem dX4_saw_205 : decode cX4_saw 205 = .ok (.bipush 9, 2) := by decide +kernel
theorem dX4_saw_207 : decode cX4_saw 207 = .ok (.iload_n 1, 1) := by decide +kernel
theorem dX4_saw_208 : decode cX4_saw 208 = .ok (.imul, 1) := by decide +kernel
theorem dX4_saw_209 : decode cX4_saw 209 = .ok (.iconst 3, 1) := by decide +kernel
theorem dX4_saw_210 : decode cX4_saw 210 = .ok (.iadd, 1) := by decide +kernel
theorem dX4_saw_211 : decode cX4_saw 211 = .ok (.iload_n 2, 1) := by decide +kernel
theorem dX4_saw_212 : decode cX4_saw 212 = .ok (.iastore, 1) := by decide +kernel
theorem dX4_saw_213 : decode cX4_saw 213 = .ok (.aload_n 0, 1) := by decide +kernel
theorem dX4_saw_214 : decode cX4_saw 214 = .ok (.dup, 1) := by decide +kernel
theorem dX4_saw_215 : decode cX4_saw 215 = .ok (.getfield 75, 3) := by decide +kernel
theorem dX4_saw_218 : decode cX4_saw 218 = .ok (.iconst 1, 1) := by decide +kernel
theorem dX4_saw_219 : decode cX4_saw 219 = .ok (.iadd, 1) := by decide +kernel
theorem dX4_saw_220 : decode cX4_saw 220 = .ok (.putfield 75, 3) := by decide +kernel
theorem dX4_saw_223 : decode cX4_saw 223 = .ok (.aload_n 0, 1) := by decide +kernel
theorem dX4_saw_224 : decode cX4_saw 224 = .ok (.dup, 1) := by decide +kernel
theorem dX4_saw_225 : decode cX4_saw 225 = .ok (.getfield 78, 3) := by decide +kernel
theorem dX4_saw_228 : decode cX4_saw 228 = .ok (.iconst 1, 1) := by decide +kernel
theorem dX4_saw_229 : decode cX4_saw 229 = .ok (.iadd, 1) := by decide +kernel
theorem dX4_saw_230 : decode cX4_saw 230 = .ok (.putfield 78, 3) := by decide +kernel
theorem dX4_saw_233 : decode cX4_saw 233 = .ok (.aload_n 0, 1) := by decide +kernel
theorem dX4_saw_234 : decode cX4_saw 234 = .ok (.getfield 75, 3) := by decide +kernel
theorem dX4_saw_237 : decode cX4_saw 237 = .ok (.iconst 1, 1) := by decide +kernel
theorem dX4_saw_238 : decode cX4_saw 238 = .ok (.isub, 1) := by decide +kernel
theorem dX4_saw_239 : decode cX4_saw 239 = .ok (.ireturn, 1) := by decide +kernel
theorem dX4_laterOf_0 : decode cX4_laterOf 0 = .ok (.aload_n 0, 1) := by decide +kernel
theorem dX4_laterOf_1 : decode cX4_laterOf 1 = .ok (.getfield 16, 3) := by decide +kernel
theorem dX4_laterOf_4 : decode cX4_laterOf 4 = .ok (.bipush 9, 2) := by decide +kernel
theorem dX4_laterOf_6 : decode cX4_laterOf 6 = .ok (.iload_n 2, 1) := by decide +kernel
theorem dX4_laterOf_7 : decode cX4_laterOf 7 = .ok (.imul, 1) := by decide +kernel
theorem dX4_laterOf_8 : decode cX4_laterOf 8 = .ok (.iconst 2, 1) := by decide +kernel
theorem dX4_laterOf_9 : decode cX4_laterOf 9 = .ok (.iadd, 1) := by decide +kernel
theorem dX4_laterOf_10 : decode cX4_laterOf 10 = .ok (.iaload, 1) := by decide +kernel
theorem dX4_laterOf_11 : decode cX4_laterOf 11 = .ok (.istore_n 3, 1) := by decide +kernel
theorem dX4_laterOf_12 : decode cX4_laterOf 12 = .ok (.iconst (-1), 1) := by decide +kernel
theorem dX4_laterOf_13 : decode cX4_laterOf 13 = .ok (.istore 4, 2) := by decide +kernel
theorem dX4_laterOf_15 : decode cX4_laterOf 15 = .ok (.bipush 9, 2) := by decide +kernel
theorem dX4_laterOf_17 : decode cX4_laterOf 17 = .ok (.istore 5, 2) := by decide +kernel
theorem dX4_laterOf_19 : decode cX4_laterOf 19 = .ok (.iload 5, 2) := by decide +kernel
theorem dX4_laterOf_21 : decode cX4_laterOf 21 = .ok (.ifCond .lt 40, 3) := by decide +kernel
theorem dX4_laterOf_24 : decode cX4_laterOf 24 = .ok (.aload_n 0, 1) := by decide +kernel
theorem dX4_laterOf_25 : decode cX4_laterOf 25 = .ok (.getfield 16, 3) := by decide +kernel
theorem dX4_laterOf_28 : decode cX4_laterOf 28 = .ok (.bipush 9, 2) := by decide +kernel
theorem dX4_laterOf_30 : decode cX4_laterOf 30 = .ok (.iload_n 2, 1) := by decide +kernel
theorem dX4_laterOf_31 : decode cX4_laterOf 31 = .ok (.imul, 1) := by decide +kernel
theorem dX4_laterOf_32 : decode cX4_laterOf 32 = .ok (.iconst 2, 1) := by decide +kernel
theorem dX4_laterOf_33 : decode cX4_laterOf 33 = .ok (.iadd, 1) := by decide +kernel
theorem dX4_laterOf_34 : decode cX4_laterOf 34 = .ok (.iload 5, 2) := by decide +kernel
theorem dX4_laterOf_36 : decode cX4_laterOf 36 = .ok (.iastore, 1) := by decide +kernel
theorem dX4_laterOf_37 : decode cX4_laterOf 37 = .ok (.aload_n 0, 1) := by decide +kernel
theorem dX4_laterOf_38 : decode cX4_laterOf 38 = .ok (.iload_n 1, 1) := by decide +kernel
theorem dX4_laterOf_39 : decode cX4_laterOf 39 = .ok (.iload_n 2, 1) := by decide +kernel
theorem dX4_laterOf_40 : decode cX4_laterOf 40 = .ok (.invokevirtual 129, 3) := by decide +kernel
theorem dX4_laterOf_43 : decode cX4_laterOf 43 = .ok (.ifCond .le 8, 3) := by decide +kernel
theorem dX4_laterOf_46 : decode cX4_laterOf 46 = .ok (.iload 5, 2) := by decide +kernel
theorem dX4_laterOf_48 : decode cX4_laterOf 48 = .ok (.goto 5, 3) := by decide +kernel
theorem dX4_laterOf_51 : decode cX4_laterOf 51 = .ok (.iload 4, 2) := by decide +kernel
theorem dX4_laterOf_53 : decode cX4_laterOf 53 = .ok (.istore 4, 2) := by decide +kernel
theorem dX4_laterOf_55 : decode cX4_laterOf 55 = .ok (.iinc 5 (-1), 3) := by decide +kernel
theorem dX4_laterOf_58 : decode cX4_laterOf 58 = .ok (.goto (-39), 3) := by decide +kernel
theorem dX4_laterOf_61 : decode cX4_laterOf 61 = .ok (.aload_n 0, 1) := by decide +kernel
theorem dX4_laterOf_62 : decode cX4_laterOf 62 = .ok (.getfield 16, 3) := by decide +kernel
theorem dX4_laterOf_65 : decode cX4_laterOf 65 = .ok (.bipush 9, 2) := by decide +kernel
theorem dX4_laterOf_67 : decode cX4_laterOf 67 = .ok (.iload_n 2, 1) := by decide +kernel
theorem dX4_laterOf_68 : decode cX4_laterOf 68 = .ok (.imul, 1) := by decide +kernel
theorem dX4_laterOf_69 : decode cX4_laterOf 69 = .ok (.iconst 2, 1) := by decide +kernel
theorem dX4_laterOf_70 : decode cX4_laterOf 70 = .ok (.iadd, 1) := by decide +kernel
theorem dX4_laterOf_71 : decode cX4_laterOf 71 = .ok (.iload_n 3, 1) := by decide +kernel
theorem dX4_laterOf_72 : decode cX4_laterOf 72 = .ok (.iastore, 1) := by decide +kernel
theorem dX4_laterOf_73 : decode cX4_laterOf 73 = .ok (.iload 4, 2) := by decide +kernel
theorem dX4_laterOf_75 : decode cX4_laterOf 75 = .ok (.ireturn, 1) := by decide +kernel
theorem dX4_later_0 : decode cX4_later 0 = .ok (.aload_n 0, 1) := by decide +kernel
theorem dX4_later_1 : decode cX4_later 1 = .ok (.iload_n 1, 1) := by decide +kernel
theorem dX4_later_2 : decode cX4_later 2 = .ok (.iload_n 2, 1) := by decide +kernel
theorem dX4_later_3 : decode cX4_later 3 = .ok (.invokevirtual 125, 3) := by decide +kernel
theorem dX4_later_6 : decode cX4_later 6 = .ok (.ifCond .eq 12, 3) := by decide +kernel
theorem dX4_later_9 : decode cX4_later 9 = .ok (.aload_n 0, 1) := by decide +kernel
theorem dX4_later_10 : decode cX4_later 10 = .ok (.iload_n 1, 1) := by decide +kernel
theorem dX4_later_11 : decode cX4_later 11 = .ok (.iload_n 2, 1) := by decide +kernel
theorem dX4_later_12 : decode cX4_later 12 = .ok (.invokevirtual 134, 3) := by decide +kernel
theorem dX4_later_15 : decode cX4_later 15 = .ok (.goto 5, 3) := by decide +kernel
theorem dX4_later_18 : decode cX4_later 18 = .ok (.bipush (-101), 2) := by decide +kernel
theorem dX4_later_20 : decode cX4_later 20 = .ok (.ireturn, 1) := by decide +kernel
theorem dX4_coverSet_0 : decode cX4_coverSet 0 = .ok (.iconst 0, 1) := by decide +kernel
theorem dX4_coverSet_1 : decode cX4_coverSet 1 = .ok (.istore_n 2, 1) := by decide +kernel
theorem dX4_coverSet_2 : decode cX4_coverSet 2 = .ok (.iload_n 2, 1) := by decide +kernel
theorem dX4_coverSet_3 : decode cX4_coverSet 3 = .ok (.aload_n 0, 1) := by decide +kernel
theorem dX4_coverSet_4 : decode cX4_coverSet 4 = .ok (.getfield 75, 3) := by decide +kernel
theorem dX4_coverSet_7 : decode cX4_coverSet 7 = .ok (.if_icmp .ge 20, 3) := by decide +kernel
theorem dX4_coverSet_10 : decode cX4_coverSet 10 = .ok (.aload_n 0, 1) := by decide +kernel
theorem dX4_coverSet_11 : decode cX4_coverSet 11 = .ok (.getfield 19, 3) := by decide +kernel
theorem dX4_coverSet_14 : decode cX4_coverSet 14 = .ok (.iload_n 2, 1) := by decide +kernel
theorem dX4_coverSet_15 : decode cX4_coverSet 15 = .ok (.aload_n 0, 1) := by decide +kernel
theorem dX4_coverSet_16 : decode cX4_coverSet 16 = .ok (.iload_n 2, 1) := by decide +kernel
theorem dX4_coverSet_17 : decode cX4_coverSet 17 = .ok (.invokevirtual 112, 3) := by decide +kernel
theorem dX4_coverSet_20 : decode cX4_coverSet 20 = .ok (.iastore, 1) := by decide +kernel
theorem dX4_coverSet_21 : decode cX4_coverSet 21 = .ok (.iinc 2 1, 3) := by decide +kernel
theorem dX4_coverSet_24 : decode cX4_coverSet 24 = .ok (.goto (-22), 3) := by decide +kernel
theorem dX4_coverSet_27 : decode cX4_coverSet 27 = .ok (.iconst (-1), 1) := by decide +kernel
theorem dX4_coverSet_28 : decode cX4_coverSet 28 = .ok (.istore_n 2, 1) := by decide +kernel
theorem dX4_coverSet_29 : decode cX4_coverSet 29 = .ok (.iconst 0, 1) := by decide +kernel
theorem dX4_coverSet_30 : decode cX4_coverSet 30 = .ok (.istore_n 3, 1) := by decide +kernel
theorem dX4_coverSet_31 : decode cX4_coverSet 31 = .ok (.iload_n 3, 1) := by decide +kernel
theorem dX4_coverSet_32 : decode cX4_coverSet 32 = .ok (.iconst 1, 1) := by decide +kernel
theorem dX4_coverSet_33 : decode cX4_coverSet 33 = .ok (.aload_n 0, 1) := by decide +kernel
theorem dX4_coverSet_34 : decode cX4_coverSet 34 = .ok (.getfield 75, 3) := by decide +kernel
theorem dX4_coverSet_37 : decode cX4_coverSet 37 = .ok (.ishl, 1) := by decide +kernel
theorem dX4_coverSet_38 : decode cX4_coverSet 38 = .ok (.if_icmp .ge 99, 3) := by decide +kernel
theorem dX4_coverSet_41 : decode cX4_coverSet 41 = .ok (.iconst 0, 1) := by decide +kernel
theorem dX4_coverSet_42 : decode cX4_coverSet 42 = .ok (.istore 4, 2) := by decide +kernel
theorem dX4_coverSet_44 : decode cX4_coverSet 44 = .ok (.iconst 0, 1) := by decide +kernel
theorem dX4_coverSet_45 : decode cX4_coverSet 45 = .ok (.istore 5, 2) := by decide +kernel
theorem dX4_coverSet_47 : decode cX4_coverSet 47 = .ok (.iload 5, 2) := by decide +kernel
theorem dX4_coverSet_49 : decode cX4_coverSet 49 = .ok (.aload_n 0, 1) := by decide +kernel
theorem dX4_coverSet_50 : decode cX4_coverSet 50 = .ok (.getfield 75, 3) := by decide +kernel
theorem dX4_coverSet_53 : decode cX4_coverSet 53 = .ok (.if_icmp .ge 35, 3) := by decide +kernel
theorem dX4_coverSet_56 : decode cX4_coverSet 56 = .ok (.iload 4, 2) := by decide +kernel
theorem dX4_coverSet_58 : decode cX4_coverSet 58 = .ok (.iload_n 3, 1) := by decide +kernel
theorem dX4_coverSet_59 : decode cX4_coverSet 59 = .ok (.iload 5, 2) := by decide +kernel
theorem dX4_coverSet_61 : decode cX4_coverSet 61 = .ok (.ishr, 1) := by decide +kernel
theorem dX4_coverSet_62 : decode cX4_coverSet 62 = .ok (.iconst 1, 1) := by decide +kernel
theorem dX4_coverSet_63 : decode cX4_coverSet 63 = .ok (.iand, 1) := by decide +kernel
theorem dX4_coverSet_64 : decode cX4_coverSet 64 = .ok (.iconst 1, 1) := by decide +kernel
theorem dX4_coverSet_65 : decode cX4_coverSet 65 = .ok (.if_icmp .ne 13, 3) := by decide +kernel
theorem dX4_coverSet_68 : decode cX4_coverSet 68 = .ok (.aload_n 0, 1) := by decide +kernel
theorem dX4_coverSet_69 : decode cX4_coverSet 69 = .ok (.getfield 19, 3) := by decide +kernel
theorem dX4_coverSet_72 : decode cX4_coverSet 72 = .ok (.iload 5, 2) := by decide +kernel
theorem dX4_coverSet_74 : decode cX4_coverSet 74 = .ok (.iaload, 1) := by decide +kernel
theorem dX4_coverSet_75 : decode cX4_coverSet 75 = .ok (.goto 4, 3) := by decide +kernel
theorem dX4_coverSet_78 : decode cX4_coverSet 78 = .ok (.iconst 0, 1) := by decide +kernel
theorem dX4_coverSet_79 : decode cX4_coverSet 79 = .ok (.ior, 1) := by decide +kernel
theorem dX4_coverSet_80 : decode cX4_coverSet 80 = .ok (.istore 4, 2) := by decide +kernel
theorem dX4_coverSet_82 : decode cX4_coverSet 82 = .ok (.iinc 5 1, 3) := by decide +kernel
theorem dX4_coverSet_85 : decode cX4_coverSet 85 = .ok (.goto (-38), 3) := by decide +kernel
theorem dX4_coverSet_88 : decode cX4_coverSet 88 = .ok (.iload_n 1, 1) := by decide +kernel
theorem dX4_coverSet_89 : decode cX4_coverSet 89 = .ok (.iload 4, 2) := by decide +kernel
theorem dX4_coverSet_91 : decode cX4_coverSet 91 = .ok (.iconst (-1), 1) := by decide +kernel
theorem dX4_coverSet_92 : decode cX4_coverSet 92 = .ok (.ixor, 1) := by decide +kernel
theorem dX4_coverSet_93 : decode cX4_coverSet 93 = .ok (.iand, 1) := by decide +kernel
theorem dX4_coverSet_94 : decode cX4_coverSet 94 = .ok (.ifCond .ne 7, 3) := by decide +kernel
theorem dX4_coverSet_97 : decode cX4_coverSet 97 = .ok (.iconst 1, 1) := by decide +kernel
theorem dX4_coverSet_98 : decode cX4_coverSet 98 = .ok (.goto 4, 3) := by decide +kernel
theorem dX4_coverSet_101 : decode cX4_coverSet 101 = .ok (.iconst 0, 1) := by decide +kernel
theorem dX4_coverSet_102 : decode cX4_coverSet 102 = .ok (.istore 5, 2) := by decide +kernel
theorem dX4_coverSet_104 : decode cX4_coverSet 104 = .ok (.iload 5, 2) := by decide +kernel
theorem dX4_coverSet_106 : decode cX4_coverSet 106 = .ok (.ifCond .eq 23, 3) := by decide +kernel
theorem dX4_coverSet_109 : decode cX4_coverSet 109 = .ok (.iload_n 2, 1) := by decide +kernel
theorem dX4_coverSet_110 : decode cX4_coverSet 110 = .ok (.iconst (-1), 1) := by decide +kernel
theorem dX4_coverSet_111 : decode cX4_coverSet 111 = .ok (.if_icmp .eq 14, 3) := by decide +kernel
theorem dX4_coverSet_114 : decode cX4_coverSet 114 = .ok (.iload_n 3, 1) := by decide +kernel
theorem dX4_coverSet_115 : decode cX4_coverSet 115 = .ok (.invokestatic 115, 3) := by decide +kernel
theorem dX4_coverSet_118 : decode cX4_coverSet 118 = .ok (.iload_n 2, 1) := by decide +kernel
theorem dX4_coverSet_119 : decode cX4_coverSet 119 = .ok (.invokestatic 115, 3) := by decide +kernel
theorem dX4_coverSet_122 : decode cX4_coverSet 122 = .ok (.if_icmp .ge 7, 3) := by decide +kernel
theorem dX4_coverSet_125 : decode cX4_coverSet 125 = .ok (.iload_n 3, 1) := by decide +kernel
theorem dX4_coverSet_126 : decode cX4_coverSet 126 = .ok (.goto 4, 3) := by decide +kernel
theorem dX4_coverSet_129 : decode cX4_coverSet 129 = .ok (.iload_n 2, 1) := by decide +kernel
theorem dX4_coverSet_130 : decode cX4_coverSet 130 = .ok (.istore_n 2, 1) := by decide +kernel
theorem dX4_coverSet_131 : decode cX4_coverSet 131 = .ok (.iinc 3 1, 3) := by decide +kernel
theorem dX4_coverSet_134 : decode cX4_coverSet 134 = .ok (.goto (-103), 3) := by decide +kernel
theorem dX4_coverSet_137 : decode cX4_coverSet 137 = .ok (.iload_n 2, 1) := by decide +kernel
theorem dX4_coverSet_138 : decode cX4_coverSet 138 = .ok (.ireturn, 1) := by decide +kernel
theorem dX4_coverOf_0 : decode cX4_coverOf 0 = .ok (.aload_n 0, 1) := by decide +kernel
theorem dX4_coverOf_1 : decode cX4_coverOf 1 = .ok (.iload_n 1, 1) := by decide +kernel
theorem dX4_coverOf_2 : decode cX4_coverOf 2 = .ok (.invokevirtual 137, 3) := by decide +kernel
theorem dX4_coverOf_5 : decode cX4_coverOf 5 = .ok (.istore_n 3, 1) := by decide +kernel
theorem dX4_coverOf_6 : decode cX4_coverOf 6 = .ok (.iload_n 3, 1) := by decide +kernel
theorem dX4_coverOf_7 : decode cX4_coverOf 7 = .ok (.iconst (-1), 1) := by decide +kernel
theorem dX4_coverOf_8 : decode cX4_coverOf 8 = .ok (.if_icmp .eq 8, 3) := by decide +kernel
theorem dX4_coverOf_11 : decode cX4_coverOf 11 = .ok (.iload_n 2, 1) := by decide +kernel
theorem dX4_coverOf_12 : decode cX4_coverOf 12 = .ok (.iconst 1, 1) := by decide +kernel
theorem dX4_coverOf_13 : decode cX4_coverOf 13 = .ok (.if_icmp .ne 7, 3) := by decide +kernel
theorem dX4_coverOf_16 : decode cX4_coverOf 16 = .ok (.iload_n 3, 1) := by decide +kernel
theorem dX4_coverOf_17 : decode cX4_coverOf 17 = .ok (.goto 7, 3) := by decide +kernel
theorem dX4_coverOf_20 : decode cX4_coverOf 20 = .ok (.iload_n 3, 1) := by decide +kernel
theorem dX4_coverOf_21 : decode cX4_coverOf 21 = .ok (.invokestatic 115, 3) := by decide +kernel
theorem dX4_coverOf_24 : decode cX4_coverOf 24 = .ok (.ireturn, 1) := by decide +kernel
theorem dX4_cover_0 : decode cX4_cover 0 = .ok (.iload_n 1, 1) := by decide +kernel
theorem dX4_cover_1 : decode cX4_cover 1 = .ok (.i2l, 1) := by decide +kernel
theorem dX4_cover_2 : decode cX4_cover 2 = .ok (.lconst 0, 1) := by decide +kernel
theorem dX4_cover_3 : decode cX4_cover 3 = .ok (.ldc2_w 140, 3) := by decide +kernel
theorem dX4_cover_6 : decode cX4_cover 6 = .ok (.invokestatic 43, 3) := by decide +kernel
theorem dX4_cover_9 : decode cX4_cover 9 = .ok (.ifCond .eq 13, 3) := by decide +kernel
theorem dX4_cover_12 : decode cX4_cover 12 = .ok (.iload_n 2, 1) := by decide +kernel
theorem dX4_cover_13 : decode cX4_cover 13 = .ok (.i2l, 1) := by decide +kernel
theorem dX4_cover_14 : decode cX4_cover 14 = .ok (.lconst 0, 1) := by decide +kernel
theorem dX4_cover_15 : decode cX4_cover 15 = .ok (.lconst 1, 1) := by decide +kernel
theorem dX4_cover_16 : decode cX4_cover 16 = .ok (.invokestatic 43, 3) := by decide +kernel
theorem dX4_cover_19 : decode cX4_cover 19 = .ok (.ifCond .ne 6, 3) := by decide +kernel
theorem dX4_cover_22 : decode cX4_cover 22 = .ok (.bipush (-102), 2) := by decide +kernel
theorem dX4_cover_24 : decode cX4_cover 24 = .ok (.ireturn, 1) := by decide +kernel
theorem dX4_cover_25 : decode cX4_cover 25 = .ok (.aload_n 0, 1) := by decide +kernel
theorem dX4_cover_26 : decode cX4_cover 26 = .ok (.invokevirtual 142, 3) := by decide +kernel
theorem dX4_cover_29 : decode cX4_cover 29 = .ok (.ifCond .eq 8, 3) := by decide +kernel
theorem dX4_cover_32 : decode cX4_cover 32 = .ok (.bipush (-103), 2) := by decide +kernel
theorem dX4_cover_34 : decode cX4_cover 34 = .ok (.goto 9, 3) := by decide +kernel
theorem dX4_cover_37 : decode cX4_cover 37 = .ok (.aload_n 0, 1) := by decide +kernel
theorem dX4_cover_38 : decode cX4_cover 38 = .ok (.iload_n 1, 1) := by decide +kernel
theorem dX4_cover_39 : decode cX4_cover 39 = .ok (.iload_n 2, 1) := by decide +kernel
theorem dX4_cover_40 : decode cX4_cover 40 = .ok (.invokevirtual 146, 3) := by decide +kernel
theorem dX4_cover_43 : decode cX4_cover 43 = .ok (.ireturn, 1) := by decide +kernel
theorem dX4_far_0 : decode cX4_far 0 = .ok (.iload_n 0, 1) := by decide +kernel
theorem dX4_far_1 : decode cX4_far 1 = .ok (.iconst 4, 1) := by decide +kernel
theorem dX4_far_2 : decode cX4_far 2 = .ok (.idiv, 1) := by decide +kernel
theorem dX4_far_3 : decode cX4_far 3 = .ok (.iload_n 1, 1) := by decide +kernel
theorem dX4_far_4 : decode cX4_far 4 = .ok (.iconst 4, 1) := by decide +kernel
theorem dX4_far_5 : decode cX4_far 5 = .ok (.idiv, 1) := by decide +kernel
theorem dX4_far_6 : decode cX4_far 6 = .ok (.isub, 1) := by decide +kernel
theorem dX4_far_7 : decode cX4_far 7 = .ok (.istore_n 2, 1) := by decide +kernel
theorem dX4_far_8 : decode cX4_far 8 = .ok (.iload_n 0, 1) := by decide +kernel
theorem dX4_far_9 : decode cX4_far 9 = .ok (.iconst 4, 1) := by decide +kernel
theorem dX4_far_10 : decode cX4_far 10 = .ok (.irem, 1) := by decide +kernel
theorem dX4_far_11 : decode cX4_far 11 = .ok (.iload_n 1, 1) := by decide +kernel
theorem dX4_far_12 : decode cX4_far 12 = .ok (.iconst 4, 1) := by decide +kernel
theorem dX4_far_13 : decode cX4_far 13 = .ok (.irem, 1) := by decide +kernel
theorem dX4_far_14 : decode cX4_far 14 = .ok (.isub, 1) := by decide +kernel
theorem dX4_far_15 : decode cX4_far 15 = .ok (.istore_n 3, 1) := by decide +kernel
theorem dX4_far_16 : decode cX4_far 16 = .ok (.iload_n 2, 1) := by decide +kernel
theorem dX4_far_17 : decode cX4_far 17 = .ok (.ifCond .ge 8, 3) := by decide +kernel
theorem dX4_far_20 : decode cX4_far 20 = .ok (.iload_n 2, 1) := by decide +kernel
theorem dX4_far_21 : decode cX4_far 21 = .ok (.ineg, 1) := by decide +kernel
theorem dX4_far_22 : decode cX4_far 22 = .ok (.goto 4, 3) := by decide +kernel
theorem dX4_far_25 : decode cX4_far 25 = .ok (.iload_n 2, 1) := by decide +kernel
theorem dX4_far_26 : decode cX4_far 26 = .ok (.iload_n 3, 1) := by decide +kernel
theorem dX4_far_27 : decode cX4_far 27 = .ok (.ifCond .ge 8, 3) := by decide +kernel
theorem dX4_far_30 : decode cX4_far 30 = .ok (.iload_n 3, 1) := by decide +kernel
theorem dX4_far_31 : decode cX4_far 31 = .ok (.ineg, 1) := by decide +kernel
theorem dX4_far_32 : decode cX4_far 32 = .ok (.goto 4, 3) := by decide +kernel
theorem dX4_far_35 : decode cX4_far 35 = .ok (.iload_n 3, 1) := by decide +kernel
theorem dX4_far_36 : decode cX4_far 36 = .ok (.iadd, 1) := by decide +kernel
theorem dX4_far_37 : decode cX4_far 37 = .ok (.ireturn, 1) := by decide +kernel
theorem dX4_catchOf_0 : decode cX4_catchOf 0 = .ok (.iconst 0, 1) := by decide +kernel
theorem dX4_catchOf_1 : decode cX4_catchOf 1 = .ok (.istore_n 3, 1) := by decide +kernel
theorem dX4_catchOf_2 : decode cX4_catchOf 2 = .ok (.iload_n 1, 1) := by decide +kernel
theorem dX4_catchOf_3 : decode cX4_catchOf 3 = .ok (.aload_n 0, 1) := by decide +kernel
theorem dX4_catchOf_4 : decode cX4_catchOf 4 = .ok (.iload_n 2, 1) := by decide +kernel
theorem dX4_catchOf_5 : decode cX4_catchOf 5 = .ok (.iload_n 3, 1) := by decide +kernel
theorem dX4_catchOf_6 : decode cX4_catchOf 6 = .ok (.invokevirtual 102, 3) := by decide +kernel
theorem dX4_catchOf_9 : decode cX4_catchOf 9 = .ok (.invokestatic 149, 3) := by decide +kernel
theorem dX4_catchOf_12 : decode cX4_catchOf 12 = .ok (.iload_n 3, 1) := by decide +kernel
theorem dX4_catchOf_13 : decode cX4_catchOf 13 = .ok (.if_icmp .le 9, 3) := by decide +kernel
theorem dX4_catchOf_16 : decode cX4_catchOf 16 = .ok (.iinc 3 1, 3) := by decide +kernel
theorem dX4_catchOf_19 : decode cX4_catchOf 19 = .ok (.goto (-17), 3) := by decide +kernel
theorem dX4_catchOf_22 : decode cX4_catchOf 22 = .ok (.iload_n 3, 1) := by decide +kernel
theorem dX4_catchOf_23 : decode cX4_catchOf 23 = .ok (.ireturn, 1) := by decide +kernel
theorem dX4_catches_0 : decode cX4_catches 0 = .ok (.aload_n 0, 1) := by decide +kernel
theorem dX4_catches_1 : decode cX4_catches 1 = .ok (.iload_n 2, 1) := by decide +kernel
theorem dX4_catches_2 : decode cX4_catches 2 = .ok (.invokevirtual 87, 3) := by decide +kernel
theorem dX4_catches_5 : decode cX4_catches 5 = .ok (.ifCond .ne 6, 3) := by decide +kernel
theorem dX4_catches_8 : decode cX4_catches 8 = .ok (.bipush (-101), 2) := by decide +kernel
theorem dX4_catches_10 : decode cX4_catches 10 = .ok (.ireturn, 1) := by decide +kernel
theorem dX4_catches_11 : decode cX4_catches 11 = .ok (.iload_n 1, 1) := by decide +kernel
theorem dX4_catches_12 : decode cX4_catches 12 = .ok (.i2l, 1) := by decide +kernel
theorem dX4_catches_13 : decode cX4_catches 13 = .ok (.lconst 0, 1) := by decide +kernel
theorem dX4_catches_14 : decode cX4_catches 14 = .ok (.ldc2_w 152, 3) := by decide +kernel
theorem dX4_catches_17 : decode cX4_catches 17 = .ok (.invokestatic 43, 3) := by decide +kernel
theorem dX4_catches_20 : decode cX4_catches 20 = .ok (.ifCond .eq 12, 3) := by decide +kernel
theorem dX4_catches_23 : decode cX4_catches 23 = .ok (.aload_n 0, 1) := by decide +kernel
theorem dX4_catches_24 : decode cX4_catches 24 = .ok (.iload_n 1, 1) := by decide +kernel
theorem dX4_catches_25 : decode cX4_catches 25 = .ok (.iload_n 2, 1) := by decide +kernel
theorem dX4_catches_26 : decode cX4_catches 26 = .ok (.invokevirtual 154, 3) := by decide +kernel
theorem dX4_catches_29 : decode cX4_catches 29 = .ok (.goto 5, 3) := by decide +kernel
theorem dX4_catches_32 : decode cX4_catches 32 = .ok (.bipush (-102), 2) := by decide +kernel
theorem dX4_catches_34 : decode cX4_catches 34 = .ok (.ireturn, 1) := by decide +kernel
theorem dX4_see_0 : decode cX4_see 0 = .ok (.iload_n 1, 1) := by decide +kernel
theorem dX4_see_1 : decode cX4_see 1 = .ok (.i2l, 1) := by decide +kernel
theorem dX4_see_2 : decode cX4_see 2 = .ok (.lconst 0, 1) := by decide +kernel
theorem dX4_see_3 : decode cX4_see 3 = .ok (.ldc2_w 152, 3) := by decide +kernel
theorem dX4_see_6 : decode cX4_see 6 = .ok (.invokestatic 43, 3) := by decide +kernel
theorem dX4_see_9 : decode cX4_see 9 = .ok (.ifCond .eq 15, 3) := by decide +kernel
theorem dX4_see_12 : decode cX4_see 12 = .ok (.iload_n 2, 1) := by decide +kernel
theorem dX4_see_13 : decode cX4_see 13 = .ok (.i2l, 1) := by decide +kernel
theorem dX4_see_14 : decode cX4_see 14 = .ok (.lconst 0, 1) := by decide +kernel
theorem dX4_see_15 : decode cX4_see 15 = .ok (.ldc2_w 123, 3) := by decide +kernel
theorem dX4_see_18 : decode cX4_see 18 = .ok (.invokestatic 43, 3) := by decide +kernel
theorem dX4_see_21 : decode cX4_see 21 = .ok (.ifCond .ne 6, 3) := by decide +kernel
theorem dX4_see_24 : decode cX4_see 24 = .ok (.bipush (-102), 2) := by decide +kernel
theorem dX4_see_26 : decode cX4_see 26 = .ok (.ireturn, 1) := by decide +kernel
theorem dX4_see_27 : decode cX4_see 27 = .ok (.aload_n 0, 1) := by decide +kernel
theorem dX4_see_28 : decode cX4_see 28 = .ok (.getfield 81, 3) := by decide +kernel
theorem dX4_see_31 : decode cX4_see 31 = .ok (.bipush 8, 2) := by decide +kernel
theorem dX4_see_33 : decode cX4_see 33 = .ok (.if_icmp .ne 6, 3) := by decide +kernel
theorem dX4_see_36 : decode cX4_see 36 = .ok (.bipush (-104), 2) := by decide +kernel
theorem dX4_see_38 : decode cX4_see 38 = .ok (.ireturn, 1) := by decide +kernel
theorem dX4_see_39 : decode cX4_see 39 = .ok (.aload_n 0, 1) := by decide +kernel
theorem dX4_see_40 : decode cX4_see 40 = .ok (.getfield 22, 3) := by decide +kernel
theorem dX4_see_43 : decode cX4_see 43 = .ok (.iconst 2, 1) := by decide +kernel
theorem dX4_see_44 : decode cX4_see 44 = .ok (.aload_n 0, 1) := by decide +kernel
theorem dX4_see_45 : decode cX4_see 45 = .ok (.getfield 81, 3) := by decide +kernel
theorem dX4_see_48 : decode cX4_see 48 = .ok (.imul, 1) := by decide +kernel
theorem dX4_see_49 : decode cX4_see 49 = .ok (.iload_n 1, 1) := by decide +kernel
theorem dX4_see_50 : decode cX4_see 50 = .ok (.iastore, 1) := by decide +kernel
theorem dX4_see_51 : decode cX4_see 51 = .ok (.aload_n 0, 1) := by decide +kernel
theorem dX4_see_52 : decode cX4_see 52 = .ok (.getfield 22, 3) := by decide +kernel
theorem dX4_see_55 : decode cX4_see 55 = .ok (.iconst 2, 1) := by decide +kernel
theorem dX4_see_56 : decode cX4_see 56 = .ok (.aload_n 0, 1) := by decide +kernel
theorem dX4_see_57 : decode cX4_see 57 = .ok (.getfield 81, 3) := by decide +kernel
theorem dX4_see_60 : decode cX4_see 60 = .ok (.imul, 1) := by decide +kernel
theorem dX4_see_61 : decode cX4_see 61 = .ok (.iconst 1, 1) := by decide +kernel
theorem dX4_see_62 : decode cX4_see 62 = .ok (.iadd, 1) := by decide +kernel
theorem dX4_see_63 : decode cX4_see 63 = .ok (.iload_n 2, 1) := by decide +kernel
theorem dX4_see_64 : decode cX4_see 64 = .ok (.iastore, 1) := by decide +kernel
theorem dX4_see_65 : decode cX4_see 65 = .ok (.aload_n 0, 1) := by decide +kernel
theorem dX4_see_66 : decode cX4_see 66 = .ok (.dup, 1) := by decide +kernel
theorem dX4_see_67 : decode cX4_see 67 = .ok (.getfield 81, 3) := by decide +kernel
theorem dX4_see_70 : decode cX4_see 70 = .ok (.iconst 1, 1) := by decide +kernel
theorem dX4_see_71 : decode cX4_see 71 = .ok (.iadd, 1) := by decide +kernel
theorem dX4_see_72 : decode cX4_see 72 = .ok (.putfield 81, 3) := by decide +kernel
theorem dX4_see_75 : decode cX4_see 75 = .ok (.aload_n 0, 1) := by decide +kernel
theorem dX4_see_76 : decode cX4_see 76 = .ok (.getfield 81, 3) := by decide +kernel
theorem dX4_see_79 : decode cX4_see 79 = .ok (.ireturn, 1) := by decide +kernel
theorem dX4_forget_0 : decode cX4_forget 0 = .ok (.aload_n 0, 1) := by decide +kernel
theorem dX4_forget_1 : decode cX4_forget 1 = .ok (.getfield 81, 3) := by decide +kernel
theorem dX4_forget_4 : decode cX4_forget 4 = .ok (.istore_n 1, 1) := by decide +kernel
theorem dX4_forget_5 : decode cX4_forget 5 = .ok (.aload_n 0, 1) := by decide +kernel
theorem dX4_forget_6 : decode cX4_forget 6 = .ok (.iconst 0, 1) := by decide +kernel
theorem dX4_forget_7 : decode cX4_forget 7 = .ok (.putfield 81, 3) := by decide +kernel
theorem dX4_forget_10 : decode cX4_forget 10 = .ok (.iload_n 1, 1) := by decide +kernel
theorem dX4_forget_11 : decode cX4_forget 11 = .ok (.ireturn, 1) := by decide +kernel
theorem dX4_whoseOf_0 : decode cX4_whoseOf 0 = .ok (.iconst 0, 1) := by decide +kernel
theorem dX4_whoseOf_1 : decode cX4_whoseOf 1 = .ok (.istore_n 1, 1) := by decide +kernel
theorem dX4_whoseOf_2 : decode cX4_whoseOf 2 = .ok (.iconst 0, 1) := by decide +kernel
theorem dX4_whoseOf_3 : decode cX4_whoseOf 3 = .ok (.istore_n 2, 1) := by decide +kernel
theorem dX4_whoseOf_4 : decode cX4_whoseOf 4 = .ok (.iload_n 2, 1) := by decide +kernel
theorem dX4_whoseOf_5 : decode cX4_whoseOf 5 = .ok (.aload_n 0, 1) := by decide +kernel
theorem dX4_whoseOf_6 : decode cX4_whoseOf 6 = .ok (.getfield 75, 3) := by decide +kernel
theorem dX4_whoseOf_9 : decode cX4_whoseOf 9 = .ok (.if_icmp .ge 81, 3) := by decide +kernel
theorem dX4_whoseOf_12 : decode cX4_whoseOf 12 = .ok (.iconst 1, 1) := by decide +kernel
theorem dX4_whoseOf_13 : decode cX4_whoseOf 13 = .ok (.istore_n 3, 1) := by decide +kernel
theorem dX4_whoseOf_14 : decode cX4_whoseOf 14 = .ok (.iconst 0, 1) := by decide +kernel
theorem dX4_whoseOf_15 : decode cX4_whoseOf 15 = .ok (.istore 4, 2) := by decide +kernel
theorem dX4_whoseOf_17 : decode cX4_whoseOf 17 = .ok (.iload 4, 2) := by decide +kernel
theorem dX4_whoseOf_19 : decode cX4_whoseOf 19 = .ok (.aload_n 0, 1) := by decide +kernel
theorem dX4_whoseOf_20 : decode cX4_whoseOf 20 = .ok (.getfield 81, 3) := by decide +kernel
theorem dX4_whoseOf_23 : decode cX4_whoseOf 23 = .ok (.if_icmp .ge 47, 3) := by decide +kernel
theorem dX4_whoseOf_26 : decode cX4_whoseOf 26 = .ok (.iload_n 3, 1) := by decide +kernel
theorem dX4_whoseOf_27 : decode cX4_whoseOf 27 = .ok (.ifCond .eq 35, 3) := by decide +kernel
theorem dX4_whoseOf_30 : decode cX4_whoseOf 30 = .ok (.aload_n 0, 1) := by decide +kernel
theorem dX4_whoseOf_31 : decode cX4_whoseOf 31 = .ok (.iload_n 2, 1) := by decide +kernel
theorem dX4_whoseOf_32 : decode cX4_whoseOf 32 = .ok (.aload_n 0, 1) := by decide +kernel
theorem dX4_whoseOf_33 : decode cX4_whoseOf 33 = .ok (.getfield 22, 3) := by decide +kernel
theorem dX4_whoseOf_36 : decode cX4_whoseOf 36 = .ok (.iconst 2, 1) := by decide +kernel
theorem dX4_whoseOf_37 : decode cX4_whoseOf 37 = .ok (.iload 4, 2) := by decide +kernel
theorem dX4_whoseOf_39 : decode cX4_whoseOf 39 = .ok (.imul, 1) := by decide +kernel
theorem dX4_whoseOf_40 : decode cX4_whoseOf 40 = .ok (.iconst 1, 1) := by decide +kernel
theorem dX4_whoseOf_41 : decode cX4_whoseOf 41 = .ok (.iadd, 1) := by decide +kernel
theorem dX4_whoseOf_42 : decode cX4_whoseOf 42 = .ok (.iaload, 1) := by decide +kernel
theorem dX4_whoseOf_43 : decode cX4_whoseOf 43 = .ok (.invokevirtual 102, 3) := by decide +kernel
theorem dX4_whoseOf_46 : decode cX4_whoseOf 46 = .ok (.aload_n 0, 1) := by decide +kernel
theorem dX4_whoseOf_47 : decode cX4_whoseOf 47 = .ok (.getfield 22, 3) := by decide +kernel
theorem dX4_whoseOf_50 : decode cX4_whoseOf 50 = .ok (.iconst 2, 1) := by decide +kernel
theorem dX4_whoseOf_51 : decode cX4_whoseOf 51 = .ok (.iload 4, 2) := by decide +kernel
theorem dX4_whoseOf_53 : decode cX4_whoseOf 53 = .ok (.imul, 1) := by decide +kernel
theorem dX4_whoseOf_54 : decode cX4_whoseOf 54 = .ok (.iaload, 1) := by decide +kernel
theorem dX4_whoseOf_55 : decode cX4_whoseOf 55 = .ok (.if_icmp .ne 7, 3) := by decide +kernel
theorem dX4_whoseOf_58 : decode cX4_whoseOf 58 = .ok (.iconst 1, 1) := by decide +kernel
theorem dX4_whoseOf_59 : decode cX4_whoseOf 59 = .ok (.goto 4, 3) := by decide +kernel
theorem dX4_whoseOf_62 : decode cX4_whoseOf 62 = .ok (.iconst 0, 1) := by decide +kernel
theorem dX4_whoseOf_63 : decode cX4_whoseOf 63 = .ok (.istore_n 3, 1) := by decide +kernel
theorem dX4_whoseOf_64 : decode cX4_whoseOf 64 = .ok (.iinc 4 1, 3) := by decide +kernel
theorem dX4_whoseOf_67 : decode cX4_whoseOf 67 = .ok (.goto (-50), 3) := by decide +kernel
theorem dX4_whoseOf_70 : decode cX4_whoseOf 70 = .ok (.iload_n 1, 1) := by decide +kernel
theorem dX4_whoseOf_71 : decode cX4_whoseOf 71 = .ok (.iload_n 3, 1) := by decide +kernel
theorem dX4_whoseOf_72 : decode cX4_whoseOf 72 = .ok (.ifCond .eq 9, 3) := by decide +kernel
theorem dX4_whoseOf_75 : decode cX4_whoseOf 75 = .ok (.iconst 1, 1) := by decide +kernel
theorem dX4_whoseOf_76 : decode cX4_whoseOf 76 = .ok (.iload_n 2, 1) := by decide +kernel
theorem dX4_whoseOf_77 : decode cX4_whoseOf 77 = .ok (.ishl, 1) := by decide +kernel
theorem dX4_whoseOf_78 : decode cX4_whoseOf 78 = .ok (.goto 4, 3) := by decide +kernel
theorem dX4_whoseOf_81 : decode cX4_whoseOf 81 = .ok (.iconst 0, 1) := by decide +kernel
theorem dX4_whoseOf_82 : decode cX4_whoseOf 82 = .ok (.ior, 1) := by decide +kernel
theorem dX4_whoseOf_83 : decode cX4_whoseOf 83 = .ok (.istore_n 1, 1) := by decide +kernel
theorem dX4_whoseOf_84 : decode cX4_whoseOf 84 = .ok (.iinc 2 1, 3) := by decide +kernel
theorem dX4_whoseOf_87 : decode cX4_whoseOf 87 = .ok (.goto (-83), 3) := by decide +kernel
theorem dX4_whoseOf_90 : decode cX4_whoseOf 90 = .ok (.iload_n 1, 1) := by decide +kernel
theorem dX4_whoseOf_91 : decode cX4_whoseOf 91 = .ok (.ireturn, 1) := by decide +kernel
theorem dX4_whose_0 : decode cX4_whose 0 = .ok (.aload_n 0, 1) := by decide +kernel
theorem dX4_whose_1 : decode cX4_whose 1 = .ok (.invokevirtual 142, 3) := by decide +kernel
theorem dX4_whose_4 : decode cX4_whose 4 = .ok (.ifCond .eq 8, 3) := by decide +kernel
theorem dX4_whose_7 : decode cX4_whose 7 = .ok (.bipush (-103), 2) := by decide +kernel
theorem dX4_whose_9 : decode cX4_whose 9 = .ok (.goto 7, 3) := by decide +kernel
theorem dX4_whose_12 : decode cX4_whose 12 = .ok (.aload_n 0, 1) := by decide +kernel
theorem dX4_whose_13 : decode cX4_whose 13 = .ok (.invokevirtual 157, 3) := by decide +kernel
theorem dX4_whose_16 : decode cX4_whose 16 = .ok (.ireturn, 1) := by decide +kernel
theorem dX4_lookOf_0 : decode cX4_lookOf 0 = .ok (.aload_n 0, 1) := by decide +kernel
theorem dX4_lookOf_1 : decode cX4_lookOf 1 = .ok (.invokevirtual 157, 3) := by decide +kernel
theorem dX4_lookOf_4 : decode cX4_lookOf 4 = .ok (.istore_n 1, 1) := by decide +kernel
theorem dX4_lookOf_5 : decode cX4_lookOf 5 = .ok (.iconst (-1), 1) := by decide +kernel
theorem dX4_lookOf_6 : decode cX4_lookOf 6 = .ok (.istore_n 2, 1) := by decide +kernel
theorem dX4_lookOf_7 : decode cX4_lookOf 7 = .ok (.bipush 7, 2) := by decide +kernel
theorem dX4_lookOf_9 : decode cX4_lookOf 9 = .ok (.istore_n 3, 1) := by decide +kernel
theorem dX4_lookOf_10 : decode cX4_lookOf 10 = .ok (.iconst 0, 1) := by decide +kernel
theorem dX4_lookOf_11 : decode cX4_lookOf 11 = .ok (.istore 4, 2) := by decide +kernel
theorem dX4_lookOf_13 : decode cX4_lookOf 13 = .ok (.iload 4, 2) := by decide +kernel
theorem dX4_lookOf_15 : decode cX4_lookOf 15 = .ok (.bipush 31, 2) := by decide +kernel
theorem dX4_lookOf_17 : decode cX4_lookOf 17 = .ok (.if_icmp .ge 136, 3) := by decide +kernel
theorem dX4_lookOf_20 : decode cX4_lookOf 20 = .ok (.iload_n 1, 1) := by decide +kernel
theorem dX4_lookOf_21 : decode cX4_lookOf 21 = .ok (.ifCond .eq 132, 3) := by decide +kernel
theorem dX4_lookOf_24 : decode cX4_lookOf 24 = .ok (.iconst 0, 1) := by decide +kernel
theorem dX4_lookOf_25 : decode cX4_lookOf 25 = .ok (.istore 5, 2) := by decide +kernel
theorem dX4_lookOf_27 : decode cX4_lookOf 27 = .ok (.iload 5, 2) := by decide +kernel
theorem dX4_lookOf_29 : decode cX4_lookOf 29 = .ok (.bipush 16, 2) := by decide +kernel
theorem dX4_lookOf_31 : decode cX4_lookOf 31 = .ok (.if_icmp .ge 17, 3) := by decide +kernel
theorem dX4_lookOf_34 : decode cX4_lookOf 34 = .ok (.aload_n 0, 1) := by decide +kernel
theorem dX4_lookOf_35 : decode cX4_lookOf 35 = .ok (.getfield 25, 3) := by decide +kernel
theorem dX4_lookOf_38 : decode cX4_lookOf 38 = .ok (.iload 5, 2) := by decide +kernel
theorem dX4_lookOf_40 : decode cX4_lookOf 40 = .ok (.iconst 0, 1) := by decide +kernel
theorem dX4_lookOf_41 : decode cX4_lookOf 41 = .ok (.iastore, 1) := by decide +kernel
theorem dX4_lookOf_42 : decode cX4_lookOf 42 = .ok (.iinc 5 1, 3) := by decide +kernel
theorem dX4_lookOf_45 : decode cX4_lookOf 45 = .ok (.goto (-18), 3) := by decide +kernel
theorem dX4_lookOf_48 : decode cX4_lookOf 48 = .ok (.iconst 0, 1) := by decide +kernel
theorem dX4_lookOf_49 : decode cX4_lookOf 49 = .ok (.istore 5, 2) := by decide +kernel
theorem dX4_lookOf_51 : decode cX4_lookOf 51 = .ok (.iconst 0, 1) := by decide +kernel
theorem dX4_lookOf_52 : decode cX4_lookOf 52 = .ok (.istore 6, 2) := by decide +kernel
theorem dX4_lookOf_54 : decode cX4_lookOf 54 = .ok (.iload 6, 2) := by decide +kernel
theorem dX4_lookOf_56 : decode cX4_lookOf 56 = .ok (.aload_n 0, 1) := by decide +kernel
theorem dX4_lookOf_57 : decode cX4_lookOf 57 = .ok (.getfield 75, 3) := by decide +kernel
theorem dX4_lookOf_60 : decode cX4_lookOf 60 = .ok (.if_icmp .ge 61, 3) := by decide +kernel
theorem dX4_lookOf_63 : decode cX4_lookOf 63 = .ok (.aload_n 0, 1) := by decide +kernel
theorem dX4_lookOf_64 : decode cX4_lookOf 64 = .ok (.iload 6, 2) := by decide +kernel
theorem dX4_lookOf_66 : decode cX4_lookOf 66 = .ok (.iload 4, 2) := by decide +kernel
theorem dX4_lookOf_68 : decode cX4_lookOf 68 = .ok (.invokevirtual 102, 3) := by decide +kernel
theorem dX4_lookOf_71 : decode cX4_lookOf 71 = .ok (.istore 7, 2) := by decide +kernel
theorem dX4_lookOf_73 : decode cX4_lookOf 73 = .ok (.aload_n 0, 1) := by decide +kernel
theorem dX4_lookOf_74 : decode cX4_lookOf 74 = .ok (.getfield 25, 3) := by decide +kernel
theorem dX4_lookOf_77 : decode cX4_lookOf 77 = .ok (.iload 7, 2) := by decide +kernel
theorem dX4_lookOf_79 : decode cX4_lookOf 79 = .ok (.dup2, 1) := by decide +kernel
theorem dX4_lookOf_80 : decode cX4_lookOf 80 = .ok (.iaload, 1) := by decide +kernel
theorem dX4_lookOf_81 : decode cX4_lookOf 81 = .ok (.iload_n 1, 1) := by decide +kernel
theorem dX4_lookOf_82 : decode cX4_lookOf 82 = .ok (.iload 6, 2) := by decide +kernel
theorem dX4_lookOf_84 : decode cX4_lookOf 84 = .ok (.ishr, 1) := by decide +kernel
theorem dX4_lookOf_85 : decode cX4_lookOf 85 = .ok (.iconst 1, 1) := by decide +kernel
theorem dX4_lookOf_86 : decode cX4_lookOf 86 = .ok (.iand, 1) := by decide +kernel
theorem dX4_lookOf_87 : decode cX4_lookOf 87 = .ok (.iadd, 1) := by decide +kernel
theorem dX4_lookOf_88 : decode cX4_lookOf 88 = .ok (.iastore, 1) := by decide +kernel
theorem dX4_lookOf_89 : decode cX4_lookOf 89 = .ok (.aload_n 0, 1) := by decide +kernel
theorem dX4_lookOf_90 : decode cX4_lookOf 90 = .ok (.getfield 25, 3) := by decide +kernel
theorem dX4_lookOf_93 : decode cX4_lookOf 93 = .ok (.iload 7, 2) := by decide +kernel
theorem dX4_lookOf_95 : decode cX4_lookOf 95 = .ok (.iaload, 1) := by decide +kernel
theorem dX4_lookOf_96 : decode cX4_lookOf 96 = .ok (.iload 5, 2) := by decide +kernel
theorem dX4_lookOf_98 : decode cX4_lookOf 98 = .ok (.if_icmp .le 13, 3) := by decide +kernel
theorem dX4_lookOf_101 : decode cX4_lookOf 101 = .ok (.aload_n 0, 1) := by decide +kernel
theorem dX4_lookOf_102 : decode cX4_lookOf 102 = .ok (.getfield 25, 3) := by decide +kernel
theorem dX4_lookOf_105 : decode cX4_lookOf 105 = .ok (.iload 7, 2) := by decide +kernel
theorem dX4_lookOf_107 : decode cX4_lookOf 107 = .ok (.iaload, 1) := by decide +kernel
theorem dX4_lookOf_108 : decode cX4_lookOf 108 = .ok (.goto 5, 3) := by decide +kernel
theorem dX4_lookOf_111 : decode cX4_lookOf 111 = .ok (.iload 5, 2) := by decide +kernel
theorem dX4_lookOf_113 : decode cX4_lookOf 113 = .ok (.istore 5, 2) := by decide +kernel
theorem dX4_lookOf_115 : decode cX4_lookOf 115 = .ok (.iinc 6 1, 3) := by decide +kernel
theorem dX4_lookOf_118 : decode cX4_lookOf 118 = .ok (.goto (-64), 3) := by decide +kernel
theorem dX4_lookOf_121 : decode cX4_lookOf 121 = .ok (.iload 5, 2) := by decide +kernel
theorem dX4_lookOf_123 : decode cX4_lookOf 123 = .ok (.iload_n 3, 1) := by decide +kernel
theorem dX4_lookOf_124 : decode cX4_lookOf 124 = .ok (.if_icmp .ge 8, 3) := by decide +kernel
theorem dX4_lookOf_127 : decode cX4_lookOf 127 = .ok (.iload 4, 2) := by decide +kernel
theorem dX4_lookOf_129 : decode cX4_lookOf 129 = .ok (.goto 4, 3) := by decide +kernel
theorem dX4_lookOf_132 : decode cX4_lookOf 132 = .ok (.iload_n 2, 1) := by decide +kernel
theorem dX4_lookOf_133 : decode cX4_lookOf 133 = .ok (.istore_n 2, 1) := by decide +kernel
theorem dX4_lookOf_134 : decode cX4_lookOf 134 = .ok (.iload 5, 2) := by decide +kernel
theorem dX4_lookOf_136 : decode cX4_lookOf 136 = .ok (.iload_n 3, 1) := by decide +kernel
theorem dX4_lookOf_137 : decode cX4_lookOf 137 = .ok (.if_icmp .ge 8, 3) := by decide +kernel
theorem dX4_lookOf_140 : decode cX4_lookOf 140 = .ok (.iload 5, 2) := by decide +kernel
theorem dX4_lookOf_142 : decode cX4_lookOf 142 = .ok (.goto 4, 3) := by decide +kernel
theorem dX4_lookOf_145 : decode cX4_lookOf 145 = .ok (.iload_n 3, 1) := by decide +kernel
theorem dX4_lookOf_146 : decode cX4_lookOf 146 = .ok (.istore_n 3, 1) := by decide +kernel
theorem dX4_lookOf_147 : decode cX4_lookOf 147 = .ok (.iinc 4 1, 3) := by decide +kernel
theorem dX4_lookOf_150 : decode cX4_lookOf 150 = .ok (.goto (-137), 3) := by decide +kernel
theorem dX4_lookOf_153 : decode cX4_lookOf 153 = .ok (.iload_n 2, 1) := by decide +kernel
theorem dX4_lookOf_154 : decode cX4_lookOf 154 = .ok (.ireturn, 1) := by decide +kernel
theorem dX4_look_0 : decode cX4_look 0 = .ok (.aload_n 0, 1) := by decide +kernel
theorem dX4_look_1 : decode cX4_look 1 = .ok (.invokevirtual 142, 3) := by decide +kernel
theorem dX4_look_4 : decode cX4_look 4 = .ok (.ifCond .eq 8, 3) := by decide +kernel
theorem dX4_look_7 : decode cX4_look 7 = .ok (.bipush (-103), 2) := by decide +kernel
theorem dX4_look_9 : decode cX4_look 9 = .ok (.goto 7, 3) := by decide +kernel
theorem dX4_look_12 : decode cX4_look 12 = .ok (.aload_n 0, 1) := by decide +kernel
theorem dX4_look_13 : decode cX4_look 13 = .ok (.invokevirtual 160, 3) := by decide +kernel
theorem dX4_look_16 : decode cX4_look 16 = .ok (.ireturn, 1) := by decide +kernel
theorem dX4_draw_0 : decode cX4_draw 0 = .ok (.aload_n 0, 1) := by decide +kernel
theorem dX4_draw_1 : decode cX4_draw 1 = .ok (.ldc2_w 163, 3) := by decide +kernel
theorem dX4_draw_4 : decode cX4_draw 4 = .ok (.aload_n 0, 1) := by decide +kernel
theorem dX4_draw_5 : decode cX4_draw 5 = .ok (.getfield 165, 3) := by decide +kernel
theorem dX4_draw_8 : decode cX4_draw 8 = .ok (.i2l, 1) := by decide +kernel
theorem dX4_draw_9 : decode cX4_draw 9 = .ok (.lmul, 1) := by decide +kernel
theorem dX4_draw_10 : decode cX4_draw 10 = .ok (.ldc2_w 168, 3) := by decide +kernel
theorem dX4_draw_13 : decode cX4_draw 13 = .ok (.ladd, 1) := by decide +kernel
theorem dX4_draw_14 : decode cX4_draw 14 = .ok (.ldc2_w 170, 3) := by decide +kernel
theorem dX4_draw_17 : decode cX4_draw 17 = .ok (.land, 1) := by decide +kernel
theorem dX4_draw_18 : decode cX4_draw 18 = .ok (.l2i, 1) := by decide +kernel
theorem dX4_draw_19 : decode cX4_draw 19 = .ok (.putfield 165, 3) := by decide +kernel
theorem dX4_draw_22 : decode cX4_draw 22 = .ok (.aload_n 0, 1) := by decide +kernel
theorem dX4_draw_23 : decode cX4_draw 23 = .ok (.getfield 165, 3) := by decide +kernel
theorem dX4_draw_26 : decode cX4_draw 26 = .ok (.ldc 172, 2) := by decide +kernel
theorem dX4_draw_28 : decode cX4_draw 28 = .ok (.idiv, 1) := by decide +kernel
theorem dX4_draw_29 : decode cX4_draw 29 = .ok (.iload_n 1, 1) := by decide +kernel
theorem dX4_draw_30 : decode cX4_draw 30 = .ok (.irem, 1) := by decide +kernel
theorem dX4_draw_31 : decode cX4_draw 31 = .ok (.ireturn, 1) := by decide +kernel
theorem dX4_meetAll_0 : decode cX4_meetAll 0 = .ok (.iconst 0, 1) := by decide +kernel
theorem dX4_meetAll_1 : decode cX4_meetAll 1 = .ok (.istore_n 1, 1) := by decide +kernel
theorem dX4_meetAll_2 : decode cX4_meetAll 2 = .ok (.iconst 0, 1) := by decide +kernel
theorem dX4_meetAll_3 : decode cX4_meetAll 3 = .ok (.istore_n 2, 1) := by decide +kernel
theorem dX4_meetAll_4 : decode cX4_meetAll 4 = .ok (.iload_n 2, 1) := by decide +kernel
theorem dX4_meetAll_5 : decode cX4_meetAll 5 = .ok (.aload_n 0, 1) := by decide +kernel
theorem dX4_meetAll_6 : decode cX4_meetAll 6 = .ok (.getfield 75, 3) := by decide +kernel
theorem dX4_meetAll_9 : decode cX4_meetAll 9 = .ok (.if_icmp .ge 31, 3) := by decide +kernel
theorem dX4_meetAll_12 : decode cX4_meetAll 12 = .ok (.iconst 0, 1) := by decide +kernel
theorem dX4_meetAll_13 : decode cX4_meetAll 13 = .ok (.istore_n 3, 1) := by decide +kernel
theorem dX4_meetAll_14 : decode cX4_meetAll 14 = .ok (.iload_n 3, 1) := by decide +kernel
theorem dX4_meetAll_15 : decode cX4_meetAll 15 = .ok (.iload_n 2, 1) := by decide +kernel
theorem dX4_meetAll_16 : decode cX4_meetAll 16 = .ok (.if_icmp .ge 18, 3) := by decide +kernel
theorem dX4_meetAll_19 : decode cX4_meetAll 19 = .ok (.iload_n 1, 1) := by decide +kernel
theorem dX4_meetAll_20 : decode cX4_meetAll 20 = .ok (.aload_n 0, 1) := by decide +kernel
theorem dX4_meetAll_21 : decode cX4_meetAll 21 = .ok (.iload_n 2, 1) := by decide +kernel
theorem dX4_meetAll_22 : decode cX4_meetAll 22 = .ok (.iload_n 3, 1) := by decide +kernel
theorem dX4_meetAll_23 : decode cX4_meetAll 23 = .ok (.invokevirtual 129, 3) := by decide +kernel
theorem dX4_meetAll_26 : decode cX4_meetAll 26 = .ok (.iadd, 1) := by decide +kernel
theorem dX4_meetAll_27 : decode cX4_meetAll 27 = .ok (.istore_n 1, 1) := by decide +kernel
theorem dX4_meetAll_28 : decode cX4_meetAll 28 = .ok (.iinc 3 1, 3) := by decide +kernel
theorem dX4_meetAll_31 : decode cX4_meetAll 31 = .ok (.goto (-17), 3) := by decide +kernel
theorem dX4_meetAll_34 : decode cX4_meetAll 34 = .ok (.iinc 2 1, 3) := by decide +kernel
theorem dX4_meetAll_37 : decode cX4_meetAll 37 = .ok (.goto (-33), 3) := by decide +kernel
theorem dX4_meetAll_40 : decode cX4_meetAll 40 = .ok (.iload_n 1, 1) := by decide +kernel
theorem dX4_meetAll_41 : decode cX4_meetAll 41 = .ok (.ireturn, 1) := by decide +kernel
theorem dX4_placesAll_0 : decode cX4_placesAll 0 = .ok (.iconst 0, 1) := by decide +kernel
theorem dX4_placesAll_1 : decode cX4_placesAll 1 = .ok (.istore_n 1, 1) := by decide +kernel
theorem dX4_placesAll_2 : decode cX4_placesAll 2 = .ok (.iconst 0, 1) := by decide +kernel
theorem dX4_placesAll_3 : decode cX4_placesAll 3 = .ok (.istore_n 2, 1) := by decide +kernel
theorem dX4_placesAll_4 : decode cX4_placesAll 4 = .ok (.iload_n 2, 1) := by decide +kernel
theorem dX4_placesAll_5 : decode cX4_placesAll 5 = .ok (.aload_n 0, 1) := by decide +kernel
theorem dX4_placesAll_6 : decode cX4_placesAll 6 = .ok (.getfield 75, 3) := by decide +kernel
theorem dX4_placesAll_9 : decode cX4_placesAll 9 = .ok (.if_icmp .ge 17, 3) := by decide +kernel
theorem dX4_placesAll_12 : decode cX4_placesAll 12 = .ok (.iload_n 1, 1) := by decide +kernel
theorem dX4_placesAll_13 : decode cX4_placesAll 13 = .ok (.aload_n 0, 1) := by decide +kernel
theorem dX4_placesAll_14 : decode cX4_placesAll 14 = .ok (.iload_n 2, 1) := by decide +kernel
theorem dX4_placesAll_15 : decode cX4_placesAll 15 = .ok (.invokevirtual 112, 3) := by decide +kernel
theorem dX4_placesAll_18 : decode cX4_placesAll 18 = .ok (.ior, 1) := by decide +kernel
theorem dX4_placesAll_19 : decode cX4_placesAll 19 = .ok (.istore_n 1, 1) := by decide +kernel
theorem dX4_placesAll_20 : decode cX4_placesAll 20 = .ok (.iinc 2 1, 3) := by decide +kernel
theorem dX4_placesAll_23 : decode cX4_placesAll 23 = .ok (.goto (-19), 3) := by decide +kernel
theorem dX4_placesAll_26 : decode cX4_placesAll 26 = .ok (.iload_n 1, 1) := by decide +kernel
theorem dX4_placesAll_27 : decode cX4_placesAll 27 = .ok (.invokestatic 115, 3) := by decide +kernel
theorem dX4_placesAll_30 : decode cX4_placesAll 30 = .ok (.ireturn, 1) := by decide +kernel
theorem dX4_mornings_0 : decode cX4_mornings 0 = .ok (.iload_n 1, 1) := by decide +kernel
theorem dX4_mornings_1 : decode cX4_mornings 1 = .ok (.i2l, 1) := by decide +kernel
theorem dX4_mornings_2 : decode cX4_mornings 2 = .ok (.lconst 1, 1) := by decide +kernel
theorem dX4_mornings_3 : decode cX4_mornings 3 = .ok (.ldc2_w 173, 3) := by decide +kernel
theorem dX4_mornings_6 : decode cX4_mornings 6 = .ok (.invokestatic 43, 3) := by decide +kernel
theorem dX4_mornings_9 : decode cX4_mornings 9 = .ok (.ifCond .eq 19, 3) := by decide +kernel
theorem dX4_mornings_12 : decode cX4_mornings 12 = .ok (.iload_n 2, 1) := by decide +kernel
theorem dX4_mornings_13 : decode cX4_mornings 13 = .ok (.ifCond .lt 15, 3) := by decide +kernel
theorem dX4_mornings_16 : decode cX4_mornings 16 = .ok (.iload_n 3, 1) := by decide +kernel
theorem dX4_mornings_17 : decode cX4_mornings 17 = .ok (.i2l, 1) := by decide +kernel
theorem dX4_mornings_18 : decode cX4_mornings 18 = .ok (.lconst 0, 1) := by decide +kernel
theorem dX4_mornings_19 : decode cX4_mornings 19 = .ok (.ldc2_w 175, 3) := by decide +kernel
theorem dX4_mornings_22 : decode cX4_mornings 22 = .ok (.invokestatic 43, 3) := by decide +kernel
theorem dX4_mornings_25 : decode cX4_mornings 25 = .ok (.ifCond .ne 6, 3) := by decide +kernel
theorem dX4_mornings_28 : decode cX4_mornings 28 = .ok (.bipush (-102), 2) := by decide +kernel
theorem dX4_mornings_30 : decode cX4_mornings 30 = .ok (.ireturn, 1) := by decide +kernel
theorem dX4_mornings_31 : decode cX4_mornings 31 = .ok (.aload_n 0, 1) := by decide +kernel
theorem dX4_mornings_32 : decode cX4_mornings 32 = .ok (.invokevirtual 142, 3) := by decide +kernel
theorem dX4_mornings_35 : decode cX4_mornings 35 = .ok (.ifCond .eq 6, 3) := by decide +kernel
theorem dX4_mornings_38 : decode cX4_mornings 38 = .ok (.bipush (-103), 2) := by decide +kernel
theorem dX4_mornings_40 : decode cX4_mornings 40 = .ok (.ireturn, 1) := by decide +kernel
theorem dX4_mornings_41 : decode cX4_mornings 41 = .ok (.aload_n 0, 1) := by decide +kernel
theorem dX4_mornings_42 : decode cX4_mornings 42 = .ok (.getfield 16, 3) := by decide +kernel
theorem dX4_mornings_45 : decode cX4_mornings 45 = .ok (.aload_n 0, 1) := by decide +kernel
theorem dX4_mornings_46 : decode cX4_mornings 46 = .ok (.getfield 28, 3) := by decide +kernel
theorem dX4_mornings_49 : decode cX4_mornings 49 = .ok (.invokestatic 177, 3) := by decide +kernel
theorem dX4_mornings_52 : decode cX4_mornings 52 = .ok (.aload_n 0, 1) := by decide +kernel
theorem dX4_mornings_53 : decode cX4_mornings 53 = .ok (.iload_n 2, 1) := by decide +kernel
theorem dX4_mornings_54 : decode cX4_mornings 54 = .ok (.putfield 165, 3) := by decide +kernel
theorem dX4_mornings_57 : decode cX4_mornings 57 = .ok (.iconst 0, 1) := by decide +kernel
theorem dX4_mornings_58 : decode cX4_mornings 58 = .ok (.istore 4, 2) := by decide +kernel
theorem dX4_mornings_60 : decode cX4_mornings 60 = .ok (.iconst 0, 1) := by decide +kernel
theorem dX4_mornings_61 : decode cX4_mornings 61 = .ok (.istore 5, 2) := by decide +kernel
theorem dX4_mornings_63 : decode cX4_mornings 63 = .ok (.iload 5, 2) := by decide +kernel
theorem dX4_mornings_65 : decode cX4_mornings 65 = .ok (.iload_n 1, 1) := by decide +kernel
theorem dX4_mornings_66 : decode cX4_mornings 66 = .ok (.if_icmp .ge 53, 3) := by decide +kernel
theorem dX4_mornings_69 : decode cX4_mornings 69 = .ok (.iconst 0, 1) := by decide +kernel
theorem dX4_mornings_70 : decode cX4_mornings 70 = .ok (.istore 6, 2) := by decide +kernel
theorem dX4_mornings_72 : decode cX4_mornings 72 = .ok (.iload 6, 2) := by decide +kernel
theorem dX4_mornings_74 : decode cX4_mornings 74 = .ok (.aload_n 0, 1) := by decide +kernel
theorem dX4_mornings_75 : decode cX4_mornings 75 = .ok (.getfield 75, 3) := by decide +kernel
theorem dX4_mornings_78 : decode cX4_mornings 78 = .ok (.if_icmp .ge 26, 3) := by decide +kernel
theorem dX4_mornings_81 : decode cX4_mornings 81 = .ok (.aload_n 0, 1) := by decide +kernel
theorem dX4_mornings_82 : decode cX4_mornings 82 = .ok (.getfield 16, 3) := by decide +kernel
theorem dX4_mornings_85 : decode cX4_mornings 85 = .ok (.bipush 9, 2) := by decide +kernel
theorem dX4_mornings_87 : decode cX4_mornings 87 = .ok (.iload 6, 2) := by decide +kernel
theorem dX4_mornings_89 : decode cX4_mornings 89 = .ok (.imul, 1) := by decide +kernel
theorem dX4_mornings_90 : decode cX4_mornings 90 = .ok (.iconst 2, 1) := by decide +kernel
theorem dX4_mornings_91 : decode cX4_mornings 91 = .ok (.iadd, 1) := by decide +kernel
theorem dX4_mornings_92 : decode cX4_mornings 92 = .ok (.aload_n 0, 1) := by decide +kernel
theorem dX4_mornings_93 : decode cX4_mornings 93 = .ok (.iconst 4, 1) := by decide +kernel
theorem dX4_mornings_94 : decode cX4_mornings 94 = .ok (.invokevirtual 181, 3) := by decide +kernel
theorem dX4_mornings_97 : decode cX4_mornings 97 = .ok (.iastore, 1) := by decide +kernel
theorem dX4_mornings_98 : decode cX4_mornings 98 = .ok (.iinc 6 1, 3) := by decide +kernel
theorem dX4_mornings_101 : decode cX4_mornings 101 = .ok (.goto (-29), 3) := by decide +kernel
theorem dX4_mornings_104 : decode cX4_mornings 104 = .ok (.iload 4, 2) := by decide +kernel
theorem dX4_mornings_106 : decode cX4_mornings 106 = .ok (.aload_n 0, 1) := by decide +kernel
theorem dX4_mornings_107 : decode cX4_mornings 107 = .ok (.invokevirtual 184, 3) := by decide +kernel
theorem dX4_mornings_110 : decode cX4_mornings 110 = .ok (.iadd, 1) := by decide +kernel
theorem dX4_mornings_111 : decode cX4_mornings 111 = .ok (.istore 4, 2) := by decide +kernel
theorem dX4_mornings_113 : decode cX4_mornings 113 = .ok (.iinc 5 1, 3) := by decide +kernel
theorem dX4_mornings_116 : decode cX4_mornings 116 = .ok (.goto (-53), 3) := by decide +kernel
theorem dX4_mornings_119 : decode cX4_mornings 119 = .ok (.aload_n 0, 1) := by decide +kernel
theorem dX4_mornings_120 : decode cX4_mornings 120 = .ok (.invokevirtual 187, 3) := by decide +kernel
theorem dX4_mornings_123 : decode cX4_mornings 123 = .ok (.istore 5, 2) := by decide +kernel
theorem dX4_mornings_125 : decode cX4_mornings 125 = .ok (.aload_n 0, 1) := by decide +kernel
theorem dX4_mornings_126 : decode cX4_mornings 126 = .ok (.getfield 28, 3) := by decide +kernel
theorem dX4_mornings_129 : decode cX4_mornings 129 = .ok (.aload_n 0, 1) := by decide +kernel
theorem dX4_mornings_130 : decode cX4_mornings 130 = .ok (.getfield 16, 3) := by decide +kernel
theorem dX4_mornings_133 : decode cX4_mornings 133 = .ok (.invokestatic 177, 3) := by decide +kernel
theorem dX4_mornings_136 : decode cX4_mornings 136 = .ok (.iload_n 3, 1) := by decide +kernel
theorem dX4_mornings_137 : decode cX4_mornings 137 = .ok (.ifCond .ne 8, 3) := by decide +kernel
theorem dX4_mornings_140 : decode cX4_mornings 140 = .ok (.iload 4, 2) := by decide +kernel
theorem dX4_mornings_142 : decode cX4_mornings 142 = .ok (.goto 17, 3) := by decide +kernel
theorem dX4_mornings_145 : decode cX4_mornings 145 = .ok (.iload_n 3, 1) := by decide +kernel
theorem dX4_mornings_146 : decode cX4_mornings 146 = .ok (.iconst 1, 1) := by decide +kernel
theorem dX4_mornings_147 : decode cX4_mornings 147 = .ok (.if_icmp .ne 8, 3) := by decide +kernel
theorem dX4_mornings_150 : decode cX4_mornings 150 = .ok (.iload 5, 2) := by decide +kernel
theorem dX4_mornings_152 : decode cX4_mornings 152 = .ok (.goto 7, 3) := by decide +kernel
theorem dX4_mornings_155 : decode cX4_mornings 155 = .ok (.aload_n 0, 1) := by decide +kernel
theorem dX4_mornings_156 : decode cX4_mornings 156 = .ok (.getfield 165, 3) := by decide +kernel
theorem dX4_mornings_159 : decode cX4_mornings 159 = .ok (.ireturn, 1) := by decide +kernel
theorem dX4_image_0 : decode cX4_image 0 = .ok (.aload_n 0, 1) := by decide +kernel
theorem dX4_image_1 : decode cX4_image 1 = .ok (.invokevirtual 142, 3) := by decide +kernel
theorem dX4_image_4 : decode cX4_image 4 = .ok (.ifCond .eq 6, 3) := by decide +kernel
theorem dX4_image_7 : decode cX4_image 7 = .ok (.bipush (-103), 2) := by decide +kernel
theorem dX4_image_9 : decode cX4_image 9 = .ok (.ireturn, 1) := by decide +kernel
theorem dX4_image_10 : decode cX4_image 10 = .ok (.aload_n 0, 1) := by decide +kernel
theorem dX4_image_11 : decode cX4_image 11 = .ok (.getfield 16, 3) := by decide +kernel
theorem dX4_image_14 : decode cX4_image 14 = .ok (.aload_n 0, 1) := by decide +kernel
theorem dX4_image_15 : decode cX4_image 15 = .ok (.getfield 31, 3) := by decide +kernel
theorem dX4_image_18 : decode cX4_image 18 = .ok (.invokestatic 177, 3) := by decide +kernel
theorem dX4_image_21 : decode cX4_image 21 = .ok (.aload_n 0, 1) := by decide +kernel
theorem dX4_image_22 : decode cX4_image 22 = .ok (.getfield 22, 3) := by decide +kernel
theorem dX4_image_25 : decode cX4_image 25 = .ok (.aload_n 0, 1) := by decide +kernel
theorem dX4_image_26 : decode cX4_image 26 = .ok (.getfield 34, 3) := by decide +kernel
theorem dX4_image_29 : decode cX4_image 29 = .ok (.invokestatic 177, 3) := by decide +kernel
theorem dX4_image_32 : decode cX4_image 32 = .ok (.aload_n 0, 1) := by decide +kernel
theorem dX4_image_33 : decode cX4_image 33 = .ok (.aload_n 0, 1) := by decide +kernel
theorem dX4_image_34 : decode cX4_image 34 = .ok (.getfield 75, 3) := by decide +kernel
theorem dX4_image_37 : decode cX4_image 37 = .ok (.putfield 190, 3) := by decide +kernel
theorem dX4_image_40 : decode cX4_image 40 = .ok (.aload_n 0, 1) := by decide +kernel
theorem dX4_image_41 : decode cX4_image 41 = .ok (.aload_n 0, 1) := by decide +kernel
theorem dX4_image_42 : decode cX4_image 42 = .ok (.getfield 78, 3) := by decide +kernel
theorem dX4_image_45 : decode cX4_image 45 = .ok (.putfield 193, 3) := by decide +kernel
theorem dX4_image_48 : decode cX4_image 48 = .ok (.aload_n 0, 1) := by decide +kernel
theorem dX4_image_49 : decode cX4_image 49 = .ok (.aload_n 0, 1) := by decide +kernel
theorem dX4_image_50 : decode cX4_image 50 = .ok (.getfield 81, 3) := by decide +kernel
theorem dX4_image_53 : decode cX4_image 53 = .ok (.putfield 196, 3) := by decide +kernel
theorem dX4_image_56 : decode cX4_image 56 = .ok (.aload_n 0, 1) := by decide +kernel
theorem dX4_image_57 : decode cX4_image 57 = .ok (.aload_n 0, 1) := by decide +kernel
theorem dX4_image_58 : decode cX4_image 58 = .ok (.getfield 84, 3) := by decide +kernel
theorem dX4_image_61 : decode cX4_image 61 = .ok (.putfield 37, 3) := by decide +kernel
theorem dX4_image_64 : decode cX4_image 64 = .ok (.aload_n 0, 1) := by decide +kernel
theorem dX4_image_65 : decode cX4_image 65 = .ok (.getfield 78, 3) := by decide +kernel
theorem dX4_image_68 : decode cX4_image 68 = .ok (.ireturn, 1) := by decide +kernel
theorem dX4_restore_0 : decode cX4_restore 0 = .ok (.aload_n 0, 1) := by decide +kernel
theorem dX4_restore_1 : decode cX4_restore 1 = .ok (.getfield 37, 3) := by decide +kernel
theorem dX4_restore_4 : decode cX4_restore 4 = .ok (.aload_n 0, 1) := by decide +kernel
theorem dX4_restore_5 : decode cX4_restore 5 = .ok (.getfield 84, 3) := by decide +kernel
theorem dX4_restore_8 : decode cX4_restore 8 = .ok (.if_icmp .eq 6, 3) := by decide +kernel
theorem dX4_restore_11 : decode cX4_restore 11 = .ok (.bipush (-103), 2) := by decide +kernel
theorem dX4_restore_13 : decode cX4_restore 13 = .ok (.ireturn, 1) := by decide +kernel
theorem dX4_restore_14 : decode cX4_restore 14 = .ok (.aload_n 0, 1) := by decide +kernel
theorem dX4_restore_15 : decode cX4_restore 15 = .ok (.getfield 31, 3) := by decide +kernel
theorem dX4_restore_18 : decode cX4_restore 18 = .ok (.aload_n 0, 1) := by decide +kernel
theorem dX4_restore_19 : decode cX4_restore 19 = .ok (.getfield 16, 3) := by decide +kernel
theorem dX4_restore_22 : decode cX4_restore 22 = .ok (.invokestatic 177, 3) := by decide +kernel
theorem dX4_restore_25 : decode cX4_restore 25 = .ok (.aload_n 0, 1) := by decide +kernel
theorem dX4_restore_26 : decode cX4_restore 26 = .ok (.getfield 34, 3) := by decide +kernel
theorem dX4_restore_29 : decode cX4_restore 29 = .ok (.aload_n 0, 1) := by decide +kernel
theorem dX4_restore_30 : decode cX4_restore 30 = .ok (.getfield 22, 3) := by decide +kernel
theorem dX4_restore_33 : decode cX4_restore 33 = .ok (.invokestatic 177, 3) := by decide +kernel
theorem dX4_restore_36 : decode cX4_restore 36 = .ok (.aload_n 0, 1) := by decide +kernel
theorem dX4_restore_37 : decode cX4_restore 37 = .ok (.aload_n 0, 1) := by decide +kernel
theorem dX4_restore_38 : decode cX4_restore 38 = .ok (.getfield 190, 3) := by decide +kernel
theorem dX4_restore_41 : decode cX4_restore 41 = .ok (.putfield 75, 3) := by decide +kernel
theorem dX4_restore_44 : decode cX4_restore 44 = .ok (.aload_n 0, 1) := by decide +kernel
theorem dX4_restore_45 : decode cX4_restore 45 = .ok (.aload_n 0, 1) := by decide +kernel
theorem dX4_restore_46 : decode cX4_restore 46 = .ok (.getfield 193, 3) := by decide +kernel
theorem dX4_restore_49 : decode cX4_restore 49 = .ok (.putfield 78, 3) := by decide +kernel
theorem dX4_restore_52 : decode cX4_restore 52 = .ok (.aload_n 0, 1) := by decide +kernel
theorem dX4_restore_53 : decode cX4_restore 53 = .ok (.aload_n 0, 1) := by decide +kernel
theorem dX4_restore_54 : decode cX4_restore 54 = .ok (.getfield 196, 3) := by decide +kernel
theorem dX4_restore_57 : decode cX4_restore 57 = .ok (.putfield 81, 3) := by decide +kernel
theorem dX4_restore_60 : decode cX4_restore 60 = .ok (.aload_n 0, 1) := by decide +kernel
theorem dX4_restore_61 : decode cX4_restore 61 = .ok (.getfield 78, 3) := by decide +kernel
theorem dX4_restore_64 : decode cX4_restore 64 = .ok (.ireturn, 1) := by decide +kernel
theorem dX4_stepsAll_0 : decode cX4_stepsAll 0 = .ok (.iconst 0, 1) := by decide +kernel
theorem dX4_stepsAll_1 : decode cX4_stepsAll 1 = .ok (.istore_n 1, 1) := by decide +kernel
theorem dX4_stepsAll_2 : decode cX4_stepsAll 2 = .ok (.iconst 0, 1) := by decide +kernel
theorem dX4_stepsAll_3 : decode cX4_stepsAll 3 = .ok (.istore_n 2, 1) := by decide +kernel
theorem dX4_stepsAll_4 : decode cX4_stepsAll 4 = .ok (.iload_n 2, 1) := by decide +kernel
theorem dX4_stepsAll_5 : decode cX4_stepsAll 5 = .ok (.aload_n 0, 1) := by decide +kernel
theorem dX4_stepsAll_6 : decode cX4_stepsAll 6 = .ok (.getfield 75, 3) := by decide +kernel
theorem dX4_stepsAll_9 : decode cX4_stepsAll 9 = .ok (.if_icmp .ge 23, 3) := by decide +kernel
theorem dX4_stepsAll_12 : decode cX4_stepsAll 12 = .ok (.iload_n 1, 1) := by decide +kernel
theorem dX4_stepsAll_13 : decode cX4_stepsAll 13 = .ok (.aload_n 0, 1) := by decide +kernel
theorem dX4_stepsAll_14 : decode cX4_stepsAll 14 = .ok (.getfield 16, 3) := by decide +kernel
theorem dX4_stepsAll_17 : decode cX4_stepsAll 17 = .ok (.bipush 9, 2) := by decide +kernel
theorem dX4_stepsAll_19 : decode cX4_stepsAll 19 = .ok (.iload_n 2, 1) := by decide +kernel
theorem dX4_stepsAll_20 : decode cX4_stepsAll 20 = .ok (.imul, 1) := by decide +kernel
theorem dX4_stepsAll_21 : decode cX4_stepsAll 21 = .ok (.iconst 3, 1) := by decide +kernel
theorem dX4_stepsAll_22 : decode cX4_stepsAll 22 = .ok (.iadd, 1) := by decide +kernel
theorem dX4_stepsAll_23 : decode cX4_stepsAll 23 = .ok (.iaload, 1) := by decide +kernel
theorem dX4_stepsAll_24 : decode cX4_stepsAll 24 = .ok (.iadd, 1) := by decide +kernel
theorem dX4_stepsAll_25 : decode cX4_stepsAll 25 = .ok (.istore_n 1, 1) := by decide +kernel
theorem dX4_stepsAll_26 : decode cX4_stepsAll 26 = .ok (.iinc 2 1, 3) := by decide +kernel
theorem dX4_stepsAll_29 : decode cX4_stepsAll 29 = .ok (.goto (-25), 3) := by decide +kernel
theorem dX4_stepsAll_32 : decode cX4_stepsAll 32 = .ok (.iload_n 1, 1) := by decide +kernel
theorem dX4_stepsAll_33 : decode cX4_stepsAll 33 = .ok (.ireturn, 1) := by decide +kernel
theorem dX4_countOf_0 : decode cX4_countOf 0 = .ok (.iload_n 1, 1) := by decide +kernel
theorem dX4_countOf_1 : decode cX4_countOf 1 = .ok (.tableswitch 87 0 7 #[47, 52, 57, 62, 67, 72, 77, 82], 47) := by decide +kernel
theorem dX4_countOf_48 : decode cX4_countOf 48 = .ok (.aload_n 0, 1) := by decide +kernel
theorem dX4_countOf_49 : decode cX4_countOf 49 = .ok (.getfield 75, 3) := by decide +kernel
theorem dX4_countOf_52 : decode cX4_countOf 52 = .ok (.ireturn, 1) := by decide +kernel
theorem dX4_countOf_53 : decode cX4_countOf 53 = .ok (.aload_n 0, 1) := by decide +kernel
theorem dX4_countOf_54 : decode cX4_countOf 54 = .ok (.invokevirtual 199, 3) := by decide +kernel
theorem dX4_countOf_57 : decode cX4_countOf 57 = .ok (.ireturn, 1) := by decide +kernel
theorem dX4_countOf_58 : decode cX4_countOf 58 = .ok (.aload_n 0, 1) := by decide +kernel
theorem dX4_countOf_59 : decode cX4_countOf 59 = .ok (.invokevirtual 187, 3) := by decide +kernel
theorem dX4_countOf_62 : decode cX4_countOf 62 = .ok (.ireturn, 1) := by decide +kernel
theorem dX4_countOf_63 : decode cX4_countOf 63 = .ok (.aload_n 0, 1) := by decide +kernel
theorem dX4_countOf_64 : decode cX4_countOf 64 = .ok (.invokevirtual 184, 3) := by decide +kernel
theorem dX4_countOf_67 : decode cX4_countOf 67 = .ok (.ireturn, 1) := by decide +kernel
theorem dX4_countOf_68 : decode cX4_countOf 68 = .ok (.aload_n 0, 1) := by decide +kernel
theorem dX4_countOf_69 : decode cX4_countOf 69 = .ok (.getfield 78, 3) := by decide +kernel
theorem dX4_countOf_72 : decode cX4_countOf 72 = .ok (.ireturn, 1) := by decide +kernel
theorem dX4_countOf_73 : decode cX4_countOf 73 = .ok (.aload_n 0, 1) := by decide +kernel
theorem dX4_countOf_74 : decode cX4_countOf 74 = .ok (.getfield 81, 3) := by decide +kernel
theorem dX4_countOf_77 : decode cX4_countOf 77 = .ok (.ireturn, 1) := by decide +kernel
theorem dX4_countOf_78 : decode cX4_countOf 78 = .ok (.aload_n 0, 1) := by decide +kernel
theorem dX4_countOf_79 : decode cX4_countOf 79 = .ok (.getfield 47, 3) := by decide +kernel
theorem dX4_countOf_82 : decode cX4_countOf 82 = .ok (.ireturn, 1) := by decide +kernel
theorem dX4_countOf_83 : decode cX4_countOf 83 = .ok (.aload_n 0, 1) := by decide +kernel
theorem dX4_countOf_84 : decode cX4_countOf 84 = .ok (.getfield 84, 3) := by decide +kernel
theorem dX4_countOf_87 : decode cX4_countOf 87 = .ok (.ireturn, 1) := by decide +kernel
theorem dX4_countOf_88 : decode cX4_countOf 88 = .ok (.bipush (-102), 2) := by decide +kernel
theorem dX4_countOf_90 : decode cX4_countOf 90 = .ok (.ireturn, 1) := by decide +kernel
theorem dX4_count_0 : decode cX4_count 0 = .ok (.aload_n 0, 1) := by decide +kernel
theorem dX4_count_1 : decode cX4_count 1 = .ok (.iload_n 1, 1) := by decide +kernel
theorem dX4_count_2 : decode cX4_count 2 = .ok (.invokevirtual 202, 3) := by decide +kernel
theorem dX4_count_5 : decode cX4_count 5 = .ok (.ireturn, 1) := by decide +kernel
theorem dX4_say_0 : decode cX4_say 0 = .ok (.aload_n 0, 1) := by decide +kernel
theorem dX4_say_1 : decode cX4_say 1 = .ok (.ldc2_w 205, 3) := by decide +kernel
theorem dX4_say_4 : decode cX4_say 4 = .ok (.aload_n 0, 1) := by decide +kernel
theorem dX4_say_5 : decode cX4_say 5 = .ok (.getfield 207, 3) := by decide +kernel
theorem dX4_say_8 : decode cX4_say 8 = .ok (.lmul, 1) := by decide +kernel
theorem dX4_say_9 : decode cX4_say 9 = .ok (.lload_n 1, 1) := by decide +kernel
theorem dX4_say_10 : decode cX4_say 10 = .ok (.ladd, 1) := by decide +kernel
theorem dX4_say_11 : decode cX4_say 11 = .ok (.putfield 207, 3) := by decide +kernel
theorem dX4_say_14 : decode cX4_say 14 = .ok (.return_, 1) := by decide +kernel
theorem dX4_sayStick_0 : decode cX4_sayStick 0 = .ok (.iconst 0, 1) := by decide +kernel
theorem dX4_sayStick_1 : decode cX4_sayStick 1 = .ok (.istore_n 2, 1) := by decide +kernel
theorem dX4_sayStick_2 : decode cX4_sayStick 2 = .ok (.iload_n 2, 1) := by decide +kernel
theorem dX4_sayStick_3 : decode cX4_sayStick 3 = .ok (.bipush 15, 2) := by decide +kernel
theorem dX4_sayStick_5 : decode cX4_sayStick 5 = .ok (.if_icmp .ge 32, 3) := by decide +kernel
theorem dX4_sayStick_8 : decode cX4_sayStick 8 = .ok (.iload_n 2, 1) := by decide +kernel
theorem dX4_sayStick_9 : decode cX4_sayStick 9 = .ok (.bipush 7, 2) := by decide +kernel
theorem dX4_sayStick_11 : decode cX4_sayStick 11 = .ok (.if_icmp .lt 9, 3) := by decide +kernel
theorem dX4_sayStick_14 : decode cX4_sayStick 14 = .ok (.iload_n 2, 1) := by decide +kernel
theorem dX4_sayStick_15 : decode cX4_sayStick 15 = .ok (.bipush 9, 2) := by decide +kernel
theorem dX4_sayStick_17 : decode cX4_sayStick 17 = .ok (.if_icmp .le 14, 3) := by decide +kernel
theorem dX4_sayStick_20 : decode cX4_sayStick 20 = .ok (.aload_n 0, 1) := by decide +kernel
theorem dX4_sayStick_21 : decode cX4_sayStick 21 = .ok (.aload_n 0, 1) := by decide +kernel
theorem dX4_sayStick_22 : decode cX4_sayStick 22 = .ok (.iload_n 1, 1) := by decide +kernel
theorem dX4_sayStick_23 : decode cX4_sayStick 23 = .ok (.iload_n 2, 1) := by decide +kernel
theorem dX4_sayStick_24 : decode cX4_sayStick 24 = .ok (.invokevirtual 118, 3) := by decide +kernel
theorem dX4_sayStick_27 : decode cX4_sayStick 27 = .ok (.i2l, 1) := by decide +kernel
theorem dX4_sayStick_28 : decode cX4_sayStick 28 = .ok (.invokevirtual 211, 3) := by decide +kernel
theorem dX4_sayStick_31 : decode cX4_sayStick 31 = .ok (.iinc 2 1, 3) := by decide +kernel
theorem dX4_sayStick_34 : decode cX4_sayStick 34 = .ok (.goto (-32), 3) := by decide +kernel
theorem dX4_sayStick_37 : decode cX4_sayStick 37 = .ok (.aload_n 0, 1) := by decide +kernel
theorem dX4_sayStick_38 : decode cX4_sayStick 38 = .ok (.aload_n 0, 1) := by decide +kernel
theorem dX4_sayStick_39 : decode cX4_sayStick 39 = .ok (.iload_n 1, 1) := by decide +kernel
theorem dX4_sayStick_40 : decode cX4_sayStick 40 = .ok (.iconst 1, 1) := by decide +kernel
theorem dX4_sayStick_41 : decode cX4_sayStick 41 = .ok (.invokevirtual 102, 3) := by decide +kernel
theorem dX4_sayStick_44 : decode cX4_sayStick 44 = .ok (.i2l, 1) := by decide +kernel
theorem dX4_sayStick_45 : decode cX4_sayStick 45 = .ok (.invokevirtual 211, 3) := by decide +kernel
theorem dX4_sayStick_48 : decode cX4_sayStick 48 = .ok (.aload_n 0, 1) := by decide +kernel
theorem dX4_sayStick_49 : decode cX4_sayStick 49 = .ok (.aload_n 0, 1) := by decide +kernel
theorem dX4_sayStick_50 : decode cX4_sayStick 50 = .ok (.iload_n 1, 1) := by decide +kernel
theorem dX4_sayStick_51 : decode cX4_sayStick 51 = .ok (.iconst 5, 1) := by decide +kernel
theorem dX4_sayStick_52 : decode cX4_sayStick 52 = .ok (.invokevirtual 102, 3) := by decide +kernel
theorem dX4_sayStick_55 : decode cX4_sayStick 55 = .ok (.i2l, 1) := by decide +kernel
theorem dX4_sayStick_56 : decode cX4_sayStick 56 = .ok (.invokevirtual 211, 3) := by decide +kernel
theorem dX4_sayStick_59 : decode cX4_sayStick 59 = .ok (.aload_n 0, 1) := by decide +kernel
theorem dX4_sayStick_60 : decode cX4_sayStick 60 = .ok (.aload_n 0, 1) := by decide +kernel
theorem dX4_sayStick_61 : decode cX4_sayStick 61 = .ok (.iload_n 1, 1) := by decide +kernel
theorem dX4_sayStick_62 : decode cX4_sayStick 62 = .ok (.bipush 30, 2) := by decide +kernel
theorem dX4_sayStick_64 : decode cX4_sayStick 64 = .ok (.invokevirtual 102, 3) := by decide +kernel
theorem dX4_sayStick_67 : decode cX4_sayStick 67 = .ok (.i2l, 1) := by decide +kernel
theorem dX4_sayStick_68 : decode cX4_sayStick 68 = .ok (.invokevirtual 211, 3) := by decide +kernel
theorem dX4_sayStick_71 : decode cX4_sayStick 71 = .ok (.aload_n 0, 1) := by decide +kernel
theorem dX4_sayStick_72 : decode cX4_sayStick 72 = .ok (.aload_n 0, 1) := by decide +kernel
theorem dX4_sayStick_73 : decode cX4_sayStick 73 = .ok (.iconst 0, 1) := by decide +kernel
theorem dX4_sayStick_74 : decode cX4_sayStick 74 = .ok (.iload_n 1, 1) := by decide +kernel
theorem dX4_sayStick_75 : decode cX4_sayStick 75 = .ok (.invokevirtual 154, 3) := by decide +kernel
theorem dX4_sayStick_78 : decode cX4_sayStick 78 = .ok (.i2l, 1) := by decide +kernel
theorem dX4_sayStick_79 : decode cX4_sayStick 79 = .ok (.invokevirtual 211, 3) := by decide +kernel
theorem dX4_sayStick_82 : decode cX4_sayStick 82 = .ok (.return_, 1) := by decide +kernel
theorem dX4_digest_0 : decode cX4_digest 0 = .ok (.aload_n 0, 1) := by decide +kernel
theorem dX4_digest_1 : decode cX4_digest 1 = .ok (.ldc2_w 215, 3) := by decide +kernel
theorem dX4_digest_4 : decode cX4_digest 4 = .ok (.putfield 207, 3) := by decide +kernel
theorem dX4_digest_7 : decode cX4_digest 7 = .ok (.iconst 0, 1) := by decide +kernel
theorem dX4_digest_8 : decode cX4_digest 8 = .ok (.istore_n 1, 1) := by decide +kernel
theorem dX4_digest_9 : decode cX4_digest 9 = .ok (.iload_n 1, 1) := by decide +kernel
theorem dX4_digest_10 : decode cX4_digest 10 = .ok (.aload_n 0, 1) := by decide +kernel
theorem dX4_digest_11 : decode cX4_digest 11 = .ok (.getfield 75, 3) := by decide +kernel
theorem dX4_digest_14 : decode cX4_digest 14 = .ok (.if_icmp .ge 14, 3) := by decide +kernel
theorem dX4_digest_17 : decode cX4_digest 17 = .ok (.aload_n 0, 1) := by decide +kernel
theorem dX4_digest_18 : decode cX4_digest 18 = .ok (.iload_n 1, 1) := by decide +kernel
theorem dX4_digest_19 : decode cX4_digest 19 = .ok (.invokevirtual 217, 3) := by decide +kernel
theorem dX4_digest_22 : decode cX4_digest 22 = .ok (.iinc 1 1, 3) := by decide +kernel
theorem dX4_digest_25 : decode cX4_digest 25 = .ok (.goto (-16), 3) := by decide +kernel
theorem dX4_digest_28 : decode cX4_digest 28 = .ok (.aload_n 0, 1) := by decide +kernel
theorem dX4_digest_29 : decode cX4_digest 29 = .ok (.invokevirtual 142, 3) := by decide +kernel
theorem dX4_digest_32 : decode cX4_digest 32 = .ok (.ifCond .ne 45, 3) := by decide +kernel
theorem dX4_digest_35 : decode cX4_digest 35 = .ok (.aload_n 0, 1) := by decide +kernel
theorem dX4_digest_36 : decode cX4_digest 36 = .ok (.aload_n 0, 1) := by decide +kernel
theorem dX4_digest_37 : decode cX4_digest 37 = .ok (.invokevirtual 157, 3) := by decide +kernel
theorem dX4_digest_40 : decode cX4_digest 40 = .ok (.i2l, 1) := by decide +kernel
theorem dX4_digest_41 : decode cX4_digest 41 = .ok (.invokevirtual 211, 3) := by decide +kernel
theorem dX4_digest_44 : decode cX4_digest 44 = .ok (.aload_n 0, 1) := by decide +kernel
theorem dX4_digest_45 : decode cX4_digest 45 = .ok (.aload_n 0, 1) := by decide +kernel
theorem dX4_digest_46 : decode cX4_digest 46 = .ok (.invokevirtual 160, 3) := by decide +kernel
theorem dX4_digest_49 : decode cX4_digest 49 = .ok (.i2l, 1) := by decide +kernel
theorem dX4_digest_50 : decode cX4_digest 50 = .ok (.invokevirtual 211, 3) := by decide +kernel
theorem dX4_digest_53 : decode cX4_digest 53 = .ok (.aload_n 0, 1) := by decide +kernel
theorem dX4_digest_54 : decode cX4_digest 54 = .ok (.aload_n 0, 1) := by decide +kernel
theorem dX4_digest_55 : decode cX4_digest 55 = .ok (.bipush 33, 2) := by decide +kernel
theorem dX4_digest_57 : decode cX4_digest 57 = .ok (.iconst 0, 1) := by decide +kernel
theorem dX4_digest_58 : decode cX4_digest 58 = .ok (.invokevirtual 146, 3) := by decide +kernel
theorem dX4_digest_61 : decode cX4_digest 61 = .ok (.i2l, 1) := by decide +kernel
theorem dX4_digest_62 : decode cX4_digest 62 = .ok (.invokevirtual 211, 3) := by decide +kernel
theorem dX4_digest_65 : decode cX4_digest 65 = .ok (.aload_n 0, 1) := by decide +kernel
theorem dX4_digest_66 : decode cX4_digest 66 = .ok (.aload_n 0, 1) := by decide +kernel
theorem dX4_digest_67 : decode cX4_digest 67 = .ok (.bipush 33, 2) := by decide +kernel
theorem dX4_digest_69 : decode cX4_digest 69 = .ok (.iconst 1, 1) := by decide +kernel
theorem dX4_digest_70 : decode cX4_digest 70 = .ok (.invokevirtual 146, 3) := by decide +kernel
theorem dX4_digest_73 : decode cX4_digest 73 = .ok (.i2l, 1) := by decide +kernel
theorem dX4_digest_74 : decode cX4_digest 74 = .ok (.invokevirtual 211, 3) := by decide +kernel
theorem dX4_digest_77 : decode cX4_digest 77 = .ok (.iconst 0, 1) := by decide +kernel
theorem dX4_digest_78 : decode cX4_digest 78 = .ok (.istore_n 1, 1) := by decide +kernel
theorem dX4_digest_79 : decode cX4_digest 79 = .ok (.iload_n 1, 1) := by decide +kernel
theorem dX4_digest_80 : decode cX4_digest 80 = .ok (.aload_n 0, 1) := by decide +kernel
theorem dX4_digest_81 : decode cX4_digest 81 = .ok (.getfield 47, 3) := by decide +kernel
theorem dX4_digest_84 : decode cX4_digest 84 = .ok (.if_icmp .ge 20, 3) := by decide +kernel
theorem dX4_digest_87 : decode cX4_digest 87 = .ok (.aload_n 0, 1) := by decide +kernel
theorem dX4_digest_88 : decode cX4_digest 88 = .ok (.aload_n 0, 1) := by decide +kernel
theorem dX4_digest_89 : decode cX4_digest 89 = .ok (.getfield 7, 3) := by decide +kernel
theorem dX4_digest_92 : decode cX4_digest 92 = .ok (.iload_n 1, 1) := by decide +kernel
theorem dX4_digest_93 : decode cX4_digest 93 = .ok (.iaload, 1) := by decide +kernel
theorem dX4_digest_94 : decode cX4_digest 94 = .ok (.i2l, 1) := by decide +kernel
theorem dX4_digest_95 : decode cX4_digest 95 = .ok (.invokevirtual 211, 3) := by decide +kernel
theorem dX4_digest_98 : decode cX4_digest 98 = .ok (.iinc 1 1, 3) := by decide +kernel
theorem dX4_digest_101 : decode cX4_digest 101 = .ok (.goto (-22), 3) := by decide +kernel
theorem dX4_digest_104 : decode cX4_digest 104 = .ok (.iconst 0, 1) := by decide +kernel
theorem dX4_digest_105 : decode cX4_digest 105 = .ok (.istore_n 1, 1) := by decide +kernel
theorem dX4_digest_106 : decode cX4_digest 106 = .ok (.iload_n 1, 1) := by decide +kernel
theorem dX4_digest_107 : decode cX4_digest 107 = .ok (.bipush 8, 2) := by decide +kernel
theorem dX4_digest_109 : decode cX4_digest 109 = .ok (.if_icmp .ge 19, 3) := by decide +kernel
theorem dX4_digest_112 : decode cX4_digest 112 = .ok (.aload_n 0, 1) := by decide +kernel
theorem dX4_digest_113 : decode cX4_digest 113 = .ok (.aload_n 0, 1) := by decide +kernel
theorem dX4_digest_114 : decode cX4_digest 114 = .ok (.iload_n 1, 1) := by decide +kernel
theorem dX4_digest_115 : decode cX4_digest 115 = .ok (.invokevirtual 202, 3) := by decide +kernel
theorem dX4_digest_118 : decode cX4_digest 118 = .ok (.i2l, 1) := by decide +kernel
theorem dX4_digest_119 : decode cX4_digest 119 = .ok (.invokevirtual 211, 3) := by decide +kernel
theorem dX4_digest_122 : decode cX4_digest 122 = .ok (.iinc 1 1, 3) := by decide +kernel
theorem dX4_digest_125 : decode cX4_digest 125 = .ok (.goto (-19), 3) := by decide +kernel
theorem dX4_digest_128 : decode cX4_digest 128 = .ok (.aload_n 0, 1) := by decide +kernel
theorem dX4_digest_129 : decode cX4_digest 129 = .ok (.getfield 207, 3) := by decide +kernel
theorem dX4_digest_132 : decode cX4_digest 132 = .ok (.lreturn, 1) := by decide +kernel
theorem dL_law_0 : decode cL_law 0 = .ok (.new 7, 3) := by decide +kernel
theorem dL_law_3 : decode cL_law 3 = .ok (.dup, 1) := by decide +kernel
theorem dL_law_4 : decode cL_law 4 = .ok (.invokespecial 9, 3) := by decide +kernel
theorem dL_law_7 : decode cL_law 7 = .ok (.astore_n 1, 1) := by decide +kernel
theorem dL_law_8 : decode cL_law 8 = .ok (.new 10, 3) := by decide +kernel
theorem dL_law_11 : decode cL_law 11 = .ok (.dup, 1) := by decide +kernel
theorem dL_law_12 : decode cL_law 12 = .ok (.invokespecial 12, 3) := by decide +kernel
theorem dL_law_15 : decode cL_law 15 = .ok (.astore_n 2, 1) := by decide +kernel
theorem dL_law_16 : decode cL_law 16 = .ok (.iconst 0, 1) := by decide +kernel
theorem dL_law_17 : decode cL_law 17 = .ok (.istore_n 3, 1) := by decide +kernel
theorem dL_law_18 : decode cL_law 18 = .ok (.iload_n 3, 1) := by decide +kernel
theorem dL_law_19 : decode cL_law 19 = .ok (.aload_n 0, 1) := by decide +kernel
theorem dL_law_20 : decode cL_law 20 = .ok (.arraylength, 1) := by decide +kernel
theorem dL_law_21 : decode cL_law 21 = .ok (.iconst 4, 1) := by decide +kernel
theorem dL_law_22 : decode cL_law 22 = .ok (.isub, 1) := by decide +kernel
theorem dL_law_23 : decode cL_law 23 = .ok (.if_icmp .gt 693, 3) := by decide +kernel
theorem dL_law_26 : decode cL_law 26 = .ok (.aload_n 0, 1) := by decide +kernel
theorem dL_law_27 : decode cL_law 27 = .ok (.iload_n 3, 1) := by decide +kernel
theorem dL_law_28 : decode cL_law 28 = .ok (.iaload, 1) := by decide +kernel
theorem dL_law_29 : decode cL_law 29 = .ok (.bipush 31, 2) := by decide +kernel
theorem dL_law_31 : decode cL_law 31 = .ok (.iand, 1) := by decide +kernel
theorem dL_law_32 : decode cL_law 32 = .ok (.tableswitch 678 0 22 #[108, 131, 144, 157, 170, 203, 236, 269, 302, 335, 368, 401, 434, 467, 500, 533, 546, 559, 572, 615, 628, 641, 664], 108) := by decide +kernel
theorem dL_law_140 : decode cL_law 140 = .ok (.aload_n 1, 1) := by decide +kernel
theorem dL_law_141 : decode cL_law 141 = .ok (.aload_n 0, 1) := by decide +kernel
theorem dL_law_142 : decode cL_law 142 = .ok (.iload_n 3, 1) := by decide +kernel
theorem dL_law_143 : decode cL_law 143 = .ok (.iconst 1, 1) := by decide +kernel
theorem dL_law_144 : decode cL_law 144 = .ok (.iadd, 1) := by decide +kernel
theorem dL_law_145 : decode cL_law 145 = .ok (.iaload, 1) := by decide +kernel
theorem dL_law_146 : decode cL_law 146 = .ok (.invokevirtual 13, 3) := by decide +kernel
theorem dL_law_149 : decode cL_law 149 = .ok (.aload_n 2, 1) := by decide +kernel
theorem dL_law_150 : decode cL_law 150 = .ok (.aload_n 0, 1) := by decide +kernel
theorem dL_law_151 : decode cL_law 151 = .ok (.iload_n 3, 1) := by decide +kernel
theorem dL_law_152 : decode cL_law 152 = .ok (.iconst 1, 1) := by decide +kernel
theorem dL_law_153 : decode cL_law 153 = .ok (.iadd, 1) := by decide +kernel
theorem dL_law_154 : decode cL_law 154 = .ok (.iaload, 1) := by decide +kernel
theorem dL_law_155 : decode cL_law 155 = .ok (.invokevirtual 17, 3) := by decide +kernel
theorem dL_law_158 : decode cL_law 158 = .ok (.if_icmp .eq 552, 3) := by decide +kernel
theorem dL_law_161 : decode cL_law 161 = .ok (.iconst 0, 1) := by decide +kernel
theorem dL_law_162 : decode cL_law 162 = .ok (.ireturn, 1) := by decide +kernel
theorem dL_law_163 : decode cL_law 163 = .ok (.aload_n 1, 1) := by decide +kernel
theorem dL_law_164 : decode cL_law 164 = .ok (.invokevirtual 18, 3) := by decide +kernel
theorem dL_law_167 : decode cL_law 167 = .ok (.aload_n 2, 1) := by decide +kernel
theorem dL_law_168 : decode cL_law 168 = .ok (.invokevirtual 22, 3) := by decide +kernel
theorem dL_law_171 : decode cL_law 171 = .ok (.if_icmp .eq 539, 3) := by decide +kernel
theorem dL_law_174 : decode cL_law 174 = .ok (.iconst 0, 1) := by decide +kernel
theorem dL_law_175 : decode cL_law 175 = .ok (.ireturn, 1) := by decide +kernel
theorem dL_law_176 : decode cL_law 176 = .ok (.aload_n 1, 1) := by decide +kernel
theorem dL_law_177 : decode cL_law 177 = .ok (.invokevirtual 23, 3) := by decide +kernel
theorem dL_law_180 : decode cL_law 180 = .ok (.aload_n 2, 1) := by decide +kernel
theorem dL_law_181 : decode cL_law 181 = .ok (.invokevirtual 26, 3) := by decide +kernel
theorem dL_law_184 : decode cL_law 184 = .ok (.if_icmp .eq 526, 3) := by decide +kernel
theorem dL_law_187 : decode cL_law 187 = .ok (.iconst 0, 1) := by decide +kernel
theorem dL_law_188 : decode cL_law 188 = .ok (.ireturn, 1) := by decide +kernel
theorem dL_law_189 : decode cL_law 189 = .ok (.aload_n 1, 1) := by decide +kernel
theorem dL_law_190 : decode cL_law 190 = .ok (.invokevirtual 27, 3) := by decide +kernel
theorem dL_law_193 : decode cL_law 193 = .ok (.aload_n 2, 1) := by decide +kernel
theorem dL_law_194 : decode cL_law 194 = .ok (.invokevirtual 30, 3) := by decide +kernel
theorem dL_law_197 : decode cL_law 197 = .ok (.if_icmp .eq 513, 3) := by decide +kernel
theorem dL_law_200 : decode cL_law 200 = .ok (.iconst 0, 1) := by decide +kernel
theorem dL_law_201 : decode cL_law 201 = .ok (.ireturn, 1) := by decide +kernel
theorem dL_law_202 : decode cL_law 202 = .ok (.aload_n 1, 1) := by decide +kernel
theorem dL_law_203 : decode cL_law 203 = .ok (.aload_n 0, 1) := by decide +kernel
theorem dL_law_204 : decode cL_law 204 = .ok (.iload_n 3, 1) := by decide +kernel
theorem dL_law_205 : decode cL_law 205 = .ok (.iconst 1, 1) := by decide +kernel
theorem dL_law_206 : decode cL_law 206 = .ok (.iadd, 1) := by decide +kernel
theorem dL_law_207 : decode cL_law 207 = .ok (.iaload, 1) := by decide +kernel
theorem dL_law_208 : decode cL_law 208 = .ok (.aload_n 0, 1) := by decide +kernel
theorem dL_law_209 : decode cL_law 209 = .ok (.iload_n 3, 1) := by decide +kernel
theorem dL_law_210 : decode cL_law 210 = .ok (.iconst 2, 1) := by decide +kernel
theorem dL_law_211 : decode cL_law 211 = .ok (.iadd, 1) := by decide +kernel
theorem dL_law_212 : decode cL_law 212 = .ok (.iaload, 1) := by decide +kernel
theorem dL_law_213 : decode cL_law 213 = .ok (.invokevirtual 31, 3) := by decide +kernel
theorem dL_law_216 : decode cL_law 216 = .ok (.aload_n 2, 1) := by decide +kernel
theorem dL_law_217 : decode cL_law 217 = .ok (.aload_n 0, 1) := by decide +kernel
theorem dL_law_218 : decode cL_law 218 = .ok (.iload_n 3, 1) := by decide +kernel
theorem dL_law_219 : decode cL_law 219 = .ok (.iconst 1, 1) := by decide +kernel
theorem dL_law_220 : decode cL_law 220 = .ok (.iadd, 1) := by decide +kernel
theorem dL_law_221 : decode cL_law 221 = .ok (.iaload, 1) := by decide +kernel
theorem dL_law_222 : decode cL_law 222 = .ok (.aload_n 0, 1) := by decide +kernel
theorem dL_law_223 : decode cL_law 223 = .ok (.iload_n 3, 1) := by decide +kernel
theorem dL_law_224 : decode cL_law 224 = .ok (.iconst 2, 1) := by decide +kernel
theorem dL_law_225 : decode cL_law 225 = .ok (.iadd, 1) := by decide +kernel
theorem dL_law_226 : decode cL_law 226 = .ok (.iaload, 1) := by decide +kernel
theorem dL_law_227 : decode cL_law 227 = .ok (.invokevirtual 35, 3) := by decide +kernel
theorem dL_law_230 : decode cL_law 230 = .ok (.if_icmp .eq 480, 3) := by decide +kernel
theorem dL_law_233 : decode cL_law 233 = .ok (.iconst 0, 1) := by decide +kernel
theorem dL_law_234 : decode cL_law 234 = .ok (.ireturn, 1) := by decide +kernel
theorem dL_law_235 : decode cL_law 235 = .ok (.aload_n 1, 1) := by decide +kernel
theorem dL_law_236 : decode cL_law 236 = .ok (.aload_n 0, 1) := by decide +kernel
theorem dL_law_237 : decode cL_law 237 = .ok (.iload_n 3, 1) := by decide +kernel
theorem dL_law_238 : decode cL_law 238 = .ok (.iconst 1, 1) := by decide +kernel
theorem dL_law_239 : decode cL_law 239 = .ok (.iadd, 1) := by decide +kernel
theorem dL_law_240 : decode cL_law 240 = .ok (.iaload, 1) := by decide +kernel
theorem dL_law_241 : decode cL_law 241 = .ok (.aload_n 0, 1) := by decide +kernel
theorem dL_law_242 : decode cL_law 242 = .ok (.iload_n 3, 1) := by decide +kernel
theorem dL_law_243 : decode cL_law 243 = .ok (.iconst 2, 1) := by decide +kernel
theorem dL_law_244 : decode cL_law 244 = .ok (.iadd, 1) := by decide +kernel
theorem dL_law_245 : decode cL_law 245 = .ok (.iaload, 1) := by decide +kernel
theorem dL_law_246 : decode cL_law 246 = .ok (.invokevirtual 36, 3) := by decide +kernel
theorem dL_law_249 : decode cL_law 249 = .ok (.aload_n 2, 1) := by decide +kernel
theorem dL_law_250 : decode cL_law 250 = .ok (.aload_n 0, 1) := by decide +kernel
theorem dL_law_251 : decode cL_law 251 = .ok (.iload_n 3, 1) := by decide +kernel
theorem dL_law_252 : decode cL_law 252 = .ok (.iconst 1, 1) := by decide +kernel
theorem dL_law_253 : decode cL_law 253 = .ok (.iadd, 1) := by decide +kernel
theorem dL_law_254 : decode cL_law 254 = .ok (.iaload, 1) := by decide +kernel
theorem dL_law_255 : decode cL_law 255 = .ok (.aload_n 0, 1) := by decide +kernel
theorem dL_law_256 : decode cL_law 256 = .ok (.iload_n 3, 1) := by decide +kernel
theorem dL_law_257 : decode cL_law 257 = .ok (.iconst 2, 1) := by decide +kernel
theorem dL_law_258 : decode cL_law 258 = .ok (.iadd, 1) := by decide +kernel
theorem dL_law_259 : decode cL_law 259 = .ok (.iaload, 1) := by decide +kernel
theorem dL_law_260 : decode cL_law 260 = .ok (.invokevirtual 39, 3) := by decide +kernel
theorem dL_law_263 : decode cL_law 263 = .ok (.if_icmp .eq 447, 3) := by decide +kernel
theorem dL_law_266 : decode cL_law 266 = .ok (.iconst 0, 1) := by decide +kernel
theorem dL_law_267 : decode cL_law 267 = .ok (.ireturn, 1) := by decide +kernel
theorem dL_law_268 : decode cL_law 268 = .ok (.aload_n 1, 1) := by decide +kernel
theorem dL_law_269 : decode cL_law 269 = .ok (.aload_n 0, 1) := by decide +kernel
theorem dL_law_270 : decode cL_law 270 = .ok (.iload_n 3, 1) := by decide +kernel
theorem dL_law_271 : decode cL_law 271 = .ok (.iconst 1, 1) := by decide +kernel
theorem dL_law_272 : decode cL_law 272 = .ok (.iadd, 1) := by decide +kernel
theorem dL_law_273 : decode cL_law 273 = .ok (.iaload, 1) := by decide +kernel
theorem dL_law_274 : decode cL_law 274 = .ok (.aload_n 0, 1) := by decide +kernel
theorem dL_law_275 : decode cL_law 275 = .ok (.iload_n 3, 1) := by decide +kernel
theorem dL_law_276 : decode cL_law 276 = .ok (.iconst 2, 1) := by decide +kernel
theorem dL_law_277 : decode cL_law 277 = .ok (.iadd, 1) := by decide +kernel
theorem dL_law_278 : decode cL_law 278 = .ok (.iaload, 1) := by decide +kernel
theorem dL_law_279 : decode cL_law 279 = .ok (.invokevirtual 40, 3) := by decide +kernel
theorem dL_law_282 : decode cL_law 282 = .ok (.aload_n 2, 1) := by decide +kernel
theorem dL_law_283 : decode cL_law 283 = .ok (.aload_n 0, 1) := by decide +kernel
theorem dL_law_284 : decode cL_law 284 = .ok (.iload_n 3, 1) := by decide +kernel
theorem dL_law_285 : decode cL_law 285 = .ok (.iconst 1, 1) := by decide +kernel
theorem dL_law_286 : decode cL_law 286 = .ok (.iadd, 1) := by decide +kernel
theorem dL_law_287 : decode cL_law 287 = .ok (.iaload, 1) := by decide +kernel
theorem dL_law_288 : decode cL_law 288 = .ok (.aload_n 0, 1) := by decide +kernel
theorem dL_law_289 : decode cL_law 289 = .ok (.iload_n 3, 1) := by decide +kernel
theorem dL_law_290 : decode cL_law 290 = .ok (.iconst 2, 1) := by decide +kernel
theorem dL_law_291 : decode cL_law 291 = .ok (.iadd, 1) := by decide +kernel
theorem dL_law_292 : decode cL_law 292 = .ok (.iaload, 1) := by decide +kernel
theorem dL_law_293 : decode cL_law 293 = .ok (.invokevirtual 43, 3) := by decide +kernel
theorem dL_law_296 : decode cL_law 296 = .ok (.if_icmp .eq 414, 3) := by decide +kernel
theorem dL_law_299 : decode cL_law 299 = .ok (.iconst 0, 1) := by decide +kernel
theorem dL_law_300 : decode cL_law 300 = .ok (.ireturn, 1) := by decide +kernel
theorem dL_law_301 : decode cL_law 301 = .ok (.aload_n 1, 1) := by decide +kernel
theorem dL_law_302 : decode cL_law 302 = .ok (.aload_n 0, 1) := by decide +kernel
theorem dL_law_303 : decode cL_law 303 = .ok (.iload_n 3, 1) := by decide +kernel
theorem dL_law_304 : decode cL_law 304 = .ok (.iconst 1, 1) := by decide +kernel
theorem dL_law_305 : decode cL_law 305 = .ok (.iadd, 1) := by decide +kernel
theorem dL_law_306 : decode cL_law 306 = .ok (.iaload, 1) := by decide +kernel
theorem dL_law_307 : decode cL_law 307 = .ok (.aload_n 0, 1) := by decide +kernel
theorem dL_law_308 : decode cL_law 308 = .ok (.iload_n 3, 1) := by decide +kernel
theorem dL_law_309 : decode cL_law 309 = .ok (.iconst 2, 1) := by decide +kernel
theorem dL_law_310 : decode cL_law 310 = .ok (.iadd, 1) := by decide +kernel
theorem dL_law_311 : decode cL_law 311 = .ok (.iaload, 1) := by decide +kernel
theorem dL_law_312 : decode cL_law 312 = .ok (.invokevirtual 44, 3) := by decide +kernel
theorem dL_law_315 : decode cL_law 315 = .ok (.aload_n 2, 1) := by decide +kernel
theorem dL_law_316 : decode cL_law 316 = .ok (.aload_n 0, 1) := by decide +kernel
theorem dL_law_317 : decode cL_law 317 = .ok (.iload_n 3, 1) := by decide +kernel
theorem dL_law_318 : decode cL_law 318 = .ok (.iconst 1, 1) := by decide +kernel
theorem dL_law_319 : decode cL_law 319 = .ok (.iadd, 1) := by decide +kernel
theorem dL_law_320 : decode cL_law 320 = .ok (.iaload, 1) := by decide +kernel
theorem dL_law_321 : decode cL_law 321 = .ok (.aload_n 0, 1) := by decide +kernel
theorem dL_law_322 : decode cL_law 322 = .ok (.iload_n 3, 1) := by decide +kernel
theorem dL_law_323 : decode cL_law 323 = .ok (.iconst 2, 1) := by decide +kernel
theorem dL_law_324 : decode cL_law 324 = .ok (.iadd, 1) := by decide +kernel
theorem dL_law_325 : decode cL_law 325 = .ok (.iaload, 1) := by decide +kernel
theorem dL_law_326 : decode cL_law 326 = .ok (.invokevirtual 47, 3) := by decide +kernel
theorem dL_law_329 : decode cL_law 329 = .ok (.if_icmp .eq 381, 3) := by decide +kernel
theorem dL_law_332 : decode cL_law 332 = .ok (.iconst 0, 1) := by decide +kernel
theorem dL_law_333 : decode cL_law 333 = .ok (.ireturn, 1) := by decide +kernel
theorem dL_law_334 : decode cL_law 334 = .ok (.aload_n 1, 1) := by decide +kernel
theorem dL_law_335 : decode cL_law 335 = .ok (.aload_n 0, 1) := by decide +kernel
theorem dL_law_336 : decode cL_law 336 = .ok (.iload_n 3, 1) := by decide +kernel
theorem dL_law_337 : decode cL_law 337 = .ok (.iconst 1, 1) := by decide +kernel
theorem dL_law_338 : decode cL_law 338 = .ok (.iadd, 1) := by decide +kernel
theorem dL_law_339 : decode cL_law 339 = .ok (.iaload, 1) := by decide +kernel
theorem dL_law_340 : decode cL_law 340 = .ok (.aload_n 0, 1) := by decide +kernel
theorem dL_law_341 : decode cL_law 341 = .ok (.iload_n 3, 1) := by decide +kernel
theorem dL_law_342 : decode cL_law 342 = .ok (.iconst 2, 1) := by decide +kernel
theorem dL_law_343 : decode cL_law 343 = .ok (.iadd, 1) := by decide +kernel
theorem dL_law_344 : decode cL_law 344 = .ok (.iaload, 1) := by decide +kernel
theorem dL_law_345 : decode cL_law 345 = .ok (.invokevirtual 48, 3) := by decide +kernel
theorem dL_law_348 : decode cL_law 348 = .ok (.aload_n 2, 1) := by decide +kernel
theorem dL_law_349 : decode cL_law 349 = .ok (.aload_n 0, 1) := by decide +kernel
theorem dL_law_350 : decode cL_law 350 = .ok (.iload_n 3, 1) := by decide +kernel
theorem dL_law_351 : decode cL_law 351 = .ok (.iconst 1, 1) := by decide +kernel
theorem dL_law_352 : decode cL_law 352 = .ok (.iadd, 1) := by decide +kernel
theorem dL_law_353 : decode cL_law 353 = .ok (.iaload, 1) := by decide +kernel
theorem dL_law_354 : decode cL_law 354 = .ok (.aload_n 0, 1) := by decide +kernel
theorem dL_law_355 : decode cL_law 355 = .ok (.iload_n 3, 1) := by decide +kernel
theorem dL_law_356 : decode cL_law 356 = .ok (.iconst 2, 1) := by decide +kernel
theorem dL_law_357 : decode cL_law 357 = .ok (.iadd, 1) := by decide +kernel
theorem dL_law_358 : decode cL_law 358 = .ok (.iaload, 1) := by decide +kernel
theorem dL_law_359 : decode cL_law 359 = .ok (.invokevirtual 51, 3) := by decide +kernel
theorem dL_law_362 : decode cL_law 362 = .ok (.if_icmp .eq 348, 3) := by decide +kernel
theorem dL_law_365 : decode cL_law 365 = .ok (.iconst 0, 1) := by decide +kernel
theorem dL_law_366 : decode cL_law 366 = .ok (.ireturn, 1) := by decide +kernel
theorem dL_law_367 : decode cL_law 367 = .ok (.aload_n 1, 1) := by decide +kernel
theorem dL_law_368 : decode cL_law 368 = .ok (.aload_n 0, 1) := by decide +kernel
theorem dL_law_369 : decode cL_law 369 = .ok (.iload_n 3, 1) := by decide +kernel
theorem dL_law_370 : decode cL_law 370 = .ok (.iconst 1, 1) := by decide +kernel
theorem dL_law_371 : decode cL_law 371 = .ok (.iadd, 1) := by decide +kernel
theorem dL_law_372 : decode cL_law 372 = .ok (.iaload, 1) := by decide +kernel
theorem dL_law_373 : decode cL_law 373 = .ok (.aload_n 0, 1) := by decide +kernel
theorem dL_law_374 : decode cL_law 374 = .ok (.iload_n 3, 1) := by decide +kernel
theorem dL_law_375 : decode cL_law 375 = .ok (.iconst 2, 1) := by decide +kernel
theorem dL_law_376 : decode cL_law 376 = .ok (.iadd, 1) := by decide +kernel
theorem dL_law_377 : decode cL_law 377 = .ok (.iaload, 1) := by decide +kernel
theorem dL_law_378 : decode cL_law 378 = .ok (.invokevirtual 52, 3) := by decide +kernel
theorem dL_law_381 : decode cL_law 381 = .ok (.aload_n 2, 1) := by decide +kernel
theorem dL_law_382 : decode cL_law 382 = .ok (.aload_n 0, 1) := by decide +kernel
theorem dL_law_383 : decode cL_law 383 = .ok (.iload_n 3, 1) := by decide +kernel
theorem dL_law_384 : decode cL_law 384 = .ok (.iconst 1, 1) := by decide +kernel
theorem dL_law_385 : decode cL_law 385 = .ok (.iadd, 1) := by decide +kernel
theorem dL_law_386 : decode cL_law 386 = .ok (.iaload, 1) := by decide +kernel
theorem dL_law_387 : decode cL_law 387 = .ok (.aload_n 0, 1) := by decide +kernel
theorem dL_law_388 : decode cL_law 388 = .ok (.iload_n 3, 1) := by decide +kernel
theorem dL_law_389 : decode cL_law 389 = .ok (.iconst 2, 1) := by decide +kernel
theorem dL_law_390 : decode cL_law 390 = .ok (.iadd, 1) := by decide +kernel
theorem dL_law_391 : decode cL_law 391 = .ok (.iaload, 1) := by decide +kernel
theorem dL_law_392 : decode cL_law 392 = .ok (.invokevirtual 55, 3) := by decide +kernel
theorem dL_law_395 : decode cL_law 395 = .ok (.if_icmp .eq 315, 3) := by decide +kernel
theorem dL_law_398 : decode cL_law 398 = .ok (.iconst 0, 1) := by decide +kernel
theorem dL_law_399 : decode cL_law 399 = .ok (.ireturn, 1) := by decide +kernel
theorem dL_law_400 : decode cL_law 400 = .ok (.aload_n 1, 1) := by decide +kernel
theorem dL_law_401 : decode cL_law 401 = .ok (.aload_n 0, 1) := by decide +kernel
theorem dL_law_402 : decode cL_law 402 = .ok (.iload_n 3, 1) := by decide +kernel
theorem dL_law_403 : decode cL_law 403 = .ok (.iconst 1, 1) := by decide +kernel
theorem dL_law_404 : decode cL_law 404 = .ok (.iadd, 1) := by decide +kernel
theorem dL_law_405 : decode cL_law 405 = .ok (.iaload, 1) := by decide +kernel
theorem dL_law_406 : decode cL_law 406 = .ok (.aload_n 0, 1) := by decide +kernel
theorem dL_law_407 : decode cL_law 407 = .ok (.iload_n 3, 1) := by decide +kernel
theorem dL_law_408 : decode cL_law 408 = .ok (.iconst 2, 1) := by decide +kernel
theorem dL_law_409 : decode cL_law 409 = .ok (.iadd, 1) := by decide +kernel
theorem dL_law_410 : decode cL_law 410 = .ok (.iaload, 1) := by decide +kernel
theorem dL_law_411 : decode cL_law 411 = .ok (.invokevirtual 56, 3) := by decide +kernel
theorem dL_law_414 : decode cL_law 414 = .ok (.aload_n 2, 1) := by decide +kernel
theorem dL_law_415 : decode cL_law 415 = .ok (.aload_n 0, 1) := by decide +kernel
theorem dL_law_416 : decode cL_law 416 = .ok (.iload_n 3, 1) := by decide +kernel
theorem dL_law_417 : decode cL_law 417 = .ok (.iconst 1, 1) := by decide +kernel
theorem dL_law_418 : decode cL_law 418 = .ok (.iadd, 1) := by decide +kernel
theorem dL_law_419 : decode cL_law 419 = .ok (.iaload, 1) := by decide +kernel
theorem dL_law_420 : decode cL_law 420 = .ok (.aload_n 0, 1) := by decide +kernel
theorem dL_law_421 : decode cL_law 421 = .ok (.iload_n 3, 1) := by decide +kernel
theorem dL_law_422 : decode cL_law 422 = .ok (.iconst 2, 1) := by decide +kernel
theorem dL_law_423 : decode cL_law 423 = .ok (.iadd, 1) := by decide +kernel
theorem dL_law_424 : decode cL_law 424 = .ok (.iaload, 1) := by decide +kernel
theorem dL_law_425 : decode cL_law 425 = .ok (.invokevirtual 59, 3) := by decide +kernel
theorem dL_law_428 : decode cL_law 428 = .ok (.if_icmp .eq 282, 3) := by decide +kernel
theorem dL_law_431 : decode cL_law 431 = .ok (.iconst 0, 1) := by decide +kernel
theorem dL_law_432 : decode cL_law 432 = .ok (.ireturn, 1) := by decide +kernel
theorem dL_law_433 : decode cL_law 433 = .ok (.aload_n 1, 1) := by decide +kernel
theorem dL_law_434 : decode cL_law 434 = .ok (.aload_n 0, 1) := by decide +kernel
theorem dL_law_435 : decode cL_law 435 = .ok (.iload_n 3, 1) := by decide +kernel
theorem dL_law_436 : decode cL_law 436 = .ok (.iconst 1, 1) := by decide +kernel
theorem dL_law_437 : decode cL_law 437 = .ok (.iadd, 1) := by decide +kernel
theorem dL_law_438 : decode cL_law 438 = .ok (.iaload, 1) := by decide +kernel
theorem dL_law_439 : decode cL_law 439 = .ok (.aload_n 0, 1) := by decide +kernel
theorem dL_law_440 : decode cL_law 440 = .ok (.iload_n 3, 1) := by decide +kernel
theorem dL_law_441 : decode cL_law 441 = .ok (.iconst 2, 1) := by decide +kernel
theorem dL_law_442 : decode cL_law 442 = .ok (.iadd, 1) := by decide +kernel
theorem dL_law_443 : decode cL_law 443 = .ok (.iaload, 1) := by decide +kernel
theorem dL_law_444 : decode cL_law 444 = .ok (.invokevirtual 60, 3) := by decide +kernel
theorem dL_law_447 : decode cL_law 447 = .ok (.aload_n 2, 1) := by decide +kernel
theorem dL_law_448 : decode cL_law 448 = .ok (.aload_n 0, 1) := by decide +kernel
theorem dL_law_449 : decode cL_law 449 = .ok (.iload_n 3, 1) := by decide +kernel
theorem dL_law_450 : decode cL_law 450 = .ok (.iconst 1, 1) := by decide +kernel
theorem dL_law_451 : decode cL_law 451 = .ok (.iadd, 1) := by decide +kernel
theorem dL_law_452 : decode cL_law 452 = .ok (.iaload, 1) := by decide +kernel
theorem dL_law_453 : decode cL_law 453 = .ok (.aload_n 0, 1) := by decide +kernel
theorem dL_law_454 : decode cL_law 454 = .ok (.iload_n 3, 1) := by decide +kernel
theorem dL_law_455 : decode cL_law 455 = .ok (.iconst 2, 1) := by decide +kernel
theorem dL_law_456 : decode cL_law 456 = .ok (.iadd, 1) := by decide +kernel
theorem dL_law_457 : decode cL_law 457 = .ok (.iaload, 1) := by decide +kernel
theorem dL_law_458 : decode cL_law 458 = .ok (.invokevirtual 63, 3) := by decide +kernel
theorem dL_law_461 : decode cL_law 461 = .ok (.if_icmp .eq 249, 3) := by decide +kernel
theorem dL_law_464 : decode cL_law 464 = .ok (.iconst 0, 1) := by decide +kernel
theorem dL_law_465 : decode cL_law 465 = .ok (.ireturn, 1) := by decide +kernel
theorem dL_law_466 : decode cL_law 466 = .ok (.aload_n 1, 1) := by decide +kernel
theorem dL_law_467 : decode cL_law 467 = .ok (.aload_n 0, 1) := by decide +kernel
theorem dL_law_468 : decode cL_law 468 = .ok (.iload_n 3, 1) := by decide +kernel
theorem dL_law_469 : decode cL_law 469 = .ok (.iconst 1, 1) := by decide +kernel
theorem dL_law_470 : decode cL_law 470 = .ok (.iadd, 1) := by decide +kernel
theorem dL_law_471 : decode cL_law 471 = .ok (.iaload, 1) := by decide +kernel
theorem dL_law_472 : decode cL_law 472 = .ok (.aload_n 0, 1) := by decide +kernel
theorem dL_law_473 : decode cL_law 473 = .ok (.iload_n 3, 1) := by decide +kernel
theorem dL_law_474 : decode cL_law 474 = .ok (.iconst 2, 1) := by decide +kernel
theorem dL_law_475 : decode cL_law 475 = .ok (.iadd, 1) := by decide +kernel
theorem dL_law_476 : decode cL_law 476 = .ok (.iaload, 1) := by decide +kernel
theorem dL_law_477 : decode cL_law 477 = .ok (.invokevirtual 64, 3) := by decide +kernel
theorem dL_law_480 : decode cL_law 480 = .ok (.aload_n 2, 1) := by decide +kernel
theorem dL_law_481 : decode cL_law 481 = .ok (.aload_n 0, 1) := by decide +kernel
theorem dL_law_482 : decode cL_law 482 = .ok (.iload_n 3, 1) := by decide +kernel
theorem dL_law_483 : decode cL_law 483 = .ok (.iconst 1, 1) := by decide +kernel
theorem dL_law_484 : decode cL_law 484 = .ok (.iadd, 1) := by decide +kernel
theorem dL_law_485 : decode cL_law 485 = .ok (.iaload, 1) := by decide +kernel
theorem dL_law_486 : decode cL_law 486 = .ok (.aload_n 0, 1) := by decide +kernel
theorem dL_law_487 : decode cL_law 487 = .ok (.iload_n 3, 1) := by decide +kernel
theorem dL_law_488 : decode cL_law 488 = .ok (.iconst 2, 1) := by decide +kernel
theorem dL_law_489 : decode cL_law 489 = .ok (.iadd, 1) := by decide +kernel
theorem dL_law_490 : decode cL_law 490 = .ok (.iaload, 1) := by decide +kernel
theorem dL_law_491 : decode cL_law 491 = .ok (.invokevirtual 67, 3) := by decide +kernel
theorem dL_law_494 : decode cL_law 494 = .ok (.if_icmp .eq 216, 3) := by decide +kernel
theorem dL_law_497 : decode cL_law 497 = .ok (.iconst 0, 1) := by decide +kernel
theorem dL_law_498 : decode cL_law 498 = .ok (.ireturn, 1) := by decide +kernel
theorem dL_law_499 : decode cL_law 499 = .ok (.aload_n 1, 1) := by decide +kernel
theorem dL_law_500 : decode cL_law 500 = .ok (.aload_n 0, 1) := by decide +kernel
theorem dL_law_501 : decode cL_law 501 = .ok (.iload_n 3, 1) := by decide +kernel
theorem dL_law_502 : decode cL_law 502 = .ok (.iconst 1, 1) := by decide +kernel
theorem dL_law_503 : decode cL_law 503 = .ok (.iadd, 1) := by decide +kernel
theorem dL_law_504 : decode cL_law 504 = .ok (.iaload, 1) := by decide +kernel
theorem dL_law_505 : decode cL_law 505 = .ok (.aload_n 0, 1) := by decide +kernel
theorem dL_law_506 : decode cL_law 506 = .ok (.iload_n 3, 1) := by decide +kernel
theorem dL_law_507 : decode cL_law 507 = .ok (.iconst 2, 1) := by decide +kernel
theorem dL_law_508 : decode cL_law 508 = .ok (.iadd, 1) := by decide +kernel
theorem dL_law_509 : decode cL_law 509 = .ok (.iaload, 1) := by decide +kernel
theorem dL_law_510 : decode cL_law 510 = .ok (.invokevirtual 68, 3) := by decide +kernel
theorem dL_law_513 : decode cL_law 513 = .ok (.aload_n 2, 1) := by decide +kernel
theorem dL_law_514 : decode cL_law 514 = .ok (.aload_n 0, 1) := by decide +kernel
theorem dL_law_515 : decode cL_law 515 = .ok (.iload_n 3, 1) := by decide +kernel
theorem dL_law_516 : decode cL_law 516 = .ok (.iconst 1, 1) := by decide +kernel
theorem dL_law_517 : decode cL_law 517 = .ok (.iadd, 1) := by decide +kernel
theorem dL_law_518 : decode cL_law 518 = .ok (.iaload, 1) := by decide +kernel
theorem dL_law_519 : decode cL_law 519 = .ok (.aload_n 0, 1) := by decide +kernel
theorem dL_law_520 : decode cL_law 520 = .ok (.iload_n 3, 1) := by decide +kernel
theorem dL_law_521 : decode cL_law 521 = .ok (.iconst 2, 1) := by decide +kernel
theorem dL_law_522 : decode cL_law 522 = .ok (.iadd, 1) := by decide +kernel
theorem dL_law_523 : decode cL_law 523 = .ok (.iaload, 1) := by decide +kernel
theorem dL_law_524 : decode cL_law 524 = .ok (.invokevirtual 71, 3) := by decide +kernel
theorem dL_law_527 : decode cL_law 527 = .ok (.if_icmp .eq 183, 3) := by decide +kernel
theorem dL_law_530 : decode cL_law 530 = .ok (.iconst 0, 1) := by decide +kernel
theorem dL_law_531 : decode cL_law 531 = .ok (.ireturn, 1) := by decide +kernel
theorem dL_law_532 : decode cL_law 532 = .ok (.aload_n 1, 1) := by decide +kernel
theorem dL_law_533 : decode cL_law 533 = .ok (.aload_n 0, 1) := by decide +kernel
theorem dL_law_534 : decode cL_law 534 = .ok (.iload_n 3, 1) := by decide +kernel
theorem dL_law_535 : decode cL_law 535 = .ok (.iconst 1, 1) := by decide +kernel
theorem dL_law_536 : decode cL_law 536 = .ok (.iadd, 1) := by decide +kernel
theorem dL_law_537 : decode cL_law 537 = .ok (.iaload, 1) := by decide +kernel
theorem dL_law_538 : decode cL_law 538 = .ok (.aload_n 0, 1) := by decide +kernel
theorem dL_law_539 : decode cL_law 539 = .ok (.iload_n 3, 1) := by decide +kernel
theorem dL_law_540 : decode cL_law 540 = .ok (.iconst 2, 1) := by decide +kernel
theorem dL_law_541 : decode cL_law 541 = .ok (.iadd, 1) := by decide +kernel
theorem dL_law_542 : decode cL_law 542 = .ok (.iaload, 1) := by decide +kernel
theorem dL_law_543 : decode cL_law 543 = .ok (.invokevirtual 72, 3) := by decide +kernel
theorem dL_law_546 : decode cL_law 546 = .ok (.aload_n 2, 1) := by decide +kernel
theorem dL_law_547 : decode cL_law 547 = .ok (.aload_n 0, 1) := by decide +kernel
theorem dL_law_548 : decode cL_law 548 = .ok (.iload_n 3, 1) := by decide +kernel
theorem dL_law_549 : decode cL_law 549 = .ok (.iconst 1, 1) := by decide +kernel
theorem dL_law_550 : decode cL_law 550 = .ok (.iadd, 1) := by decide +kernel
theorem dL_law_551 : decode cL_law 551 = .ok (.iaload, 1) := by decide +kernel
theorem dL_law_552 : decode cL_law 552 = .ok (.aload_n 0, 1) := by decide +kernel
theorem dL_law_553 : decode cL_law 553 = .ok (.iload_n 3, 1) := by decide +kernel
theorem dL_law_554 : decode cL_law 554 = .ok (.iconst 2, 1) := by decide +kernel
theorem dL_law_555 : decode cL_law 555 = .ok (.iadd, 1) := by decide +kernel
theorem dL_law_556 : decode cL_law 556 = .ok (.iaload, 1) := by decide +kernel
theorem dL_law_557 : decode cL_law 557 = .ok (.invokevirtual 75, 3) := by decide +kernel
theorem dL_law_560 : decode cL_law 560 = .ok (.if_icmp .eq 150, 3) := by decide +kernel
theorem dL_law_563 : decode cL_law 563 = .ok (.iconst 0, 1) := by decide +kernel
theorem dL_law_564 : decode cL_law 564 = .ok (.ireturn, 1) := by decide +kernel
theorem dL_law_565 : decode cL_law 565 = .ok (.aload_n 1, 1) := by decide +kernel
theorem dL_law_566 : decode cL_law 566 = .ok (.invokevirtual 76, 3) := by decide +kernel
theorem dL_law_569 : decode cL_law 569 = .ok (.aload_n 2, 1) := by decide +kernel
theorem dL_law_570 : decode cL_law 570 = .ok (.invokevirtual 79, 3) := by decide +kernel
theorem dL_law_573 : decode cL_law 573 = .ok (.if_icmp .eq 137, 3) := by decide +kernel
theorem dL_law_576 : decode cL_law 576 = .ok (.iconst 0, 1) := by decide +kernel
theorem dL_law_577 : decode cL_law 577 = .ok (.ireturn, 1) := by decide +kernel
theorem dL_law_578 : decode cL_law 578 = .ok (.aload_n 1, 1) := by decide +kernel
theorem dL_law_579 : decode cL_law 579 = .ok (.invokevirtual 80, 3) := by decide +kernel
theorem dL_law_582 : decode cL_law 582 = .ok (.aload_n 2, 1) := by decide +kernel
theorem dL_law_583 : decode cL_law 583 = .ok (.invokevirtual 83, 3) := by decide +kernel
theorem dL_law_586 : decode cL_law 586 = .ok (.if_icmp .eq 124, 3) := by decide +kernel
theorem dL_law_589 : decode cL_law 589 = .ok (.iconst 0, 1) := by decide +kernel
theorem dL_law_590 : decode cL_law 590 = .ok (.ireturn, 1) := by decide +kernel
theorem dL_law_591 : decode cL_law 591 = .ok (.aload_n 1, 1) := by decide +kernel
theorem dL_law_592 : decode cL_law 592 = .ok (.invokevirtual 84, 3) := by decide +kernel
theorem dL_law_595 : decode cL_law 595 = .ok (.aload_n 2, 1) := by decide +kernel
theorem dL_law_596 : decode cL_law 596 = .ok (.invokevirtual 87, 3) := by decide +kernel
theorem dL_law_599 : decode cL_law 599 = .ok (.if_icmp .eq 111, 3) := by decide +kernel
theorem dL_law_602 : decode cL_law 602 = .ok (.iconst 0, 1) := by decide +kernel
theorem dL_law_603 : decode cL_law 603 = .ok (.ireturn, 1) := by decide +kernel
theorem dL_law_604 : decode cL_law 604 = .ok (.aload_n 1, 1) := by decide +kernel
theorem dL_law_605 : decode cL_law 605 = .ok (.aload_n 0, 1) := by decide +kernel
theorem dL_law_606 : decode cL_law 606 = .ok (.iload_n 3, 1) := by decide +kernel
theorem dL_law_607 : decode cL_law 607 = .ok (.iconst 1, 1) := by decide +kernel
theorem dL_law_608 : decode cL_law 608 = .ok (.iadd, 1) := by decide +kernel
theorem dL_law_609 : decode cL_law 609 = .ok (.iaload, 1) := by decide +kernel
theorem dL_law_610 : decode cL_law 610 = .ok (.aload_n 0, 1) := by decide +kernel
theorem dL_law_611 : decode cL_law 611 = .ok (.iload_n 3, 1) := by decide +kernel
theorem dL_law_612 : decode cL_law 612 = .ok (.iconst 2, 1) := by decide +kernel
theorem dL_law_613 : decode cL_law 613 = .ok (.iadd, 1) := by decide +kernel
theorem dL_law_614 : decode cL_law 614 = .ok (.iaload, 1) := by decide +kernel
theorem dL_law_615 : decode cL_law 615 = .ok (.aload_n 0, 1) := by decide +kernel
theorem dL_law_616 : decode cL_law 616 = .ok (.iload_n 3, 1) := by decide +kernel
theorem dL_law_617 : decode cL_law 617 = .ok (.iconst 3, 1) := by decide +kernel
theorem dL_law_618 : decode cL_law 618 = .ok (.iadd, 1) := by decide +kernel
theorem dL_law_619 : decode cL_law 619 = .ok (.iaload, 1) := by decide +kernel
theorem dL_law_620 : decode cL_law 620 = .ok (.invokevirtual 88, 3) := by decide +kernel
theorem dL_law_623 : decode cL_law 623 = .ok (.aload_n 2, 1) := by decide +kernel
theorem dL_law_624 : decode cL_law 624 = .ok (.aload_n 0, 1) := by decide +kernel
theorem dL_law_625 : decode cL_law 625 = .ok (.iload_n 3, 1) := by decide +kernel
theorem dL_law_626 : decode cL_law 626 = .ok (.iconst 1, 1) := by decide +kernel
theorem dL_law_627 : decode cL_law 627 = .ok (.iadd, 1) := by decide +kernel
theorem dL_law_628 : decode cL_law 628 = .ok (.iaload, 1) := by decide +kernel
theorem dL_law_629 : decode cL_law 629 = .ok (.aload_n 0, 1) := by decide +kernel
theorem dL_law_630 : decode cL_law 630 = .ok (.iload_n 3, 1) := by decide +kernel
theorem dL_law_631 : decode cL_law 631 = .ok (.iconst 2, 1) := by decide +kernel
theorem dL_law_632 : decode cL_law 632 = .ok (.iadd, 1) := by decide +kernel
theorem dL_law_633 : decode cL_law 633 = .ok (.iaload, 1) := by decide +kernel
theorem dL_law_634 : decode cL_law 634 = .ok (.aload_n 0, 1) := by decide +kernel
theorem dL_law_635 : decode cL_law 635 = .ok (.iload_n 3, 1) := by decide +kernel
theorem dL_law_636 : decode cL_law 636 = .ok (.iconst 3, 1) := by decide +kernel
theorem dL_law_637 : decode cL_law 637 = .ok (.iadd, 1) := by decide +kernel
theorem dL_law_638 : decode cL_law 638 = .ok (.iaload, 1) := by decide +kernel
theorem dL_law_639 : decode cL_law 639 = .ok (.invokevirtual 92, 3) := by decide +kernel
theorem dL_law_642 : decode cL_law 642 = .ok (.if_icmp .eq 68, 3) := by decide +kernel
theorem dL_law_645 : decode cL_law 645 = .ok (.iconst 0, 1) := by decide +kernel
theorem dL_law_646 : decode cL_law 646 = .ok (.ireturn, 1) := by decide +kernel
theorem dL_law_647 : decode cL_law 647 = .ok (.aload_n 1, 1) := by decide +kernel
theorem dL_law_648 : decode cL_law 648 = .ok (.invokevirtual 93, 3) := by decide +kernel
theorem dL_law_651 : decode cL_law 651 = .ok (.aload_n 2, 1) := by decide +kernel
theorem dL_law_652 : decode cL_law 652 = .ok (.invokevirtual 96, 3) := by decide +kernel
theorem dL_law_655 : decode cL_law 655 = .ok (.if_icmp .eq 55, 3) := by decide +kernel
theorem dL_law_658 : decode cL_law 658 = .ok (.iconst 0, 1) := by decide +kernel
theorem dL_law_659 : decode cL_law 659 = .ok (.ireturn, 1) := by decide +kernel
theorem dL_law_660 : decode cL_law 660 = .ok (.aload_n 1, 1) := by decide +kernel
theorem dL_law_661 : decode cL_law 661 = .ok (.invokevirtual 97, 3) := by decide +kernel
theorem dL_law_664 : decode cL_law 664 = .ok (.aload_n 2, 1) := by decide +kernel
theorem dL_law_665 : decode cL_law 665 = .ok (.invokevirtual 100, 3) := by decide +kernel
theorem dL_law_668 : decode cL_law 668 = .ok (.if_icmp .eq 42, 3) := by decide +kernel
theorem dL_law_671 : decode cL_law 671 = .ok (.iconst 0, 1) := by decide +kernel
theorem dL_law_672 : decode cL_law 672 = .ok (.ireturn, 1) := by decide +kernel
theorem dL_law_673 : decode cL_law 673 = .ok (.aload_n 1, 1) := by decide +kernel
theorem dL_law_674 : decode cL_law 674 = .ok (.aload_n 0, 1) := by decide +kernel
theorem dL_law_675 : decode cL_law 675 = .ok (.iload_n 3, 1) := by decide +kernel
theorem dL_law_676 : decode cL_law 676 = .ok (.iconst 1, 1) := by decide +kernel
theorem dL_law_677 : decode cL_law 677 = .ok (.iadd, 1) := by decide +kernel
theorem dL_law_678 : decode cL_law 678 = .ok (.iaload, 1) := by decide +kernel
theorem dL_law_679 : decode cL_law 679 = .ok (.invokevirtual 101, 3) := by decide +kernel
theorem dL_law_682 : decode cL_law 682 = .ok (.aload_n 2, 1) := by decide +kernel
theorem dL_law_683 : decode cL_law 683 = .ok (.aload_n 0, 1) := by decide +kernel
theorem dL_law_684 : decode cL_law 684 = .ok (.iload_n 3, 1) := by decide +kernel
theorem dL_law_685 : decode cL_law 685 = .ok (.iconst 1, 1) := by decide +kernel
theorem dL_law_686 : decode cL_law 686 = .ok (.iadd, 1) := by decide +kernel
theorem dL_law_687 : decode cL_law 687 = .ok (.iaload, 1) := by decide +kernel
theorem dL_law_688 : decode cL_law 688 = .ok (.invokevirtual 104, 3) := by decide +kernel
theorem dL_law_691 : decode cL_law 691 = .ok (.if_icmp .eq 19, 3) := by decide +kernel
theorem dL_law_694 : decode cL_law 694 = .ok (.iconst 0, 1) := by decide +kernel
theorem dL_law_695 : decode cL_law 695 = .ok (.ireturn, 1) := by decide +kernel
theorem dL_law_696 : decode cL_law 696 = .ok (.aload_n 1, 1) := by decide +kernel
theorem dL_law_697 : decode cL_law 697 = .ok (.invokevirtual 105, 3) := by decide +kernel
theorem dL_law_700 : decode cL_law 700 = .ok (.aload_n 2, 1) := by decide +kernel
theorem dL_law_701 : decode cL_law 701 = .ok (.invokevirtual 109, 3) := by decide +kernel
theorem dL_law_704 : decode cL_law 704 = .ok (.lcmp, 1) := by decide +kernel
theorem dL_law_705 : decode cL_law 705 = .ok (.ifCond .eq 5, 3) := by decide +kernel
theorem dL_law_708 : decode cL_law 708 = .ok (.iconst 0, 1) := by decide +kernel
theorem dL_law_709 : decode cL_law 709 = .ok (.ireturn, 1) := by decide +kernel
theorem dL_law_710 : decode cL_law 710 = .ok (.iinc 3 4, 3) := by decide +kernel
theorem dL_law_713 : decode cL_law 713 = .ok (.goto (-695), 3) := by decide +kernel
theorem dL_law_716 : decode cL_law 716 = .ok (.iconst 1, 1) := by decide +kernel
theorem dL_law_717 : decode cL_law 717 = .ok (.ireturn, 1) := by decide +kernel
end
section
/-! ===== LAYER 1: the words that hold everywhere, the worlds of the class and of the reference, rows over them ===== -/
/-- every good word of the tables holds, whatever the arguments -/
def GW (U : State) : Prop := ∀ w, w ∈ lw_tbl → goodWord w = true → ∀ a : Array Value, w.before a U = true
theorem GW.warm {s U : State} (hW : s.WarmedH U.vm) (h : GW s) : GW U := fun w hw hg a =>
  pay_in (big := [w]) (ws := [w]) (args := #[]) (s := s) (fun w' h' => by rw [List.mem_singleton.mp h']; exact h w hw hg #[]) (fun w' h' => ⟨h', by rw [List.mem_singleton.mp h']; exact good_of_word hg⟩) w (List.mem_singleton.mpr rfl) a U hW
theorem GW.use {U : State} (h : GW U) {w : Cond} {i : Nat} (hi : lw_tbl[i]? = some w) (hg : goodWord w = true) (a : Array Value) : w.before a U = true := h w (List.mem_of_getElem? hi) hg a
/-- the private members that nest mates use -/
def nws : List Cond := [.fieldLinkNest RX3 124 RX0 "changes" "I" RX3, .fieldLinkNest RX3 148 RX0 "seenCount" "I" RX3, .fieldLinkNest RX3 192 RX1 "letters" "[C" RX3, .fieldLinkNest RX3 42 RX1 "length" "I" RX3, .fieldLinkNest RX3 57 RX0 "stickCount" "I" RX3, .fieldLinkNest RX3 64 RX0 "sticks" "[LStickWays$Stick;" RX3, .fieldLinkNest RX3 74 RX2 "kind" "I" RX3, .fieldLinkNest RX3 77 RX2 "begin" "I" RX3, .fieldLinkNest RX3 80 RX2 "stepCount" "I" RX3, .fieldLinkNest RX3 83 RX0 "lateBy" "[I" RX3, .fieldLinkNest RX3 89 RX2 "trail" "[I" RX3, .fieldLinkNest RX3 92 RX2 "places" "I" RX3, .fieldLinkNest RX0 59 RX2 "kind" "I" RX3, .fieldLinkNest RX0 70 RX2 "stepCount" "I" RX3, .fieldLinkNest RX0 94 RX2 "places" "I" RX3, .methodLinkNest RX0 103 yX3_stepsBetween RX3, .methodLinkNest RX1 31 yX3_isPlace RX3, .methodLinkNest RX2 46 yX3_stepFrom RX3]
def NN (U : State) : Prop := ∀ w, w ∈ nws → va_Nw w U
theorem NN.warm {s U : State} (hW : s.WarmedH U.vm) (h : NN s) : NN U := by
  intro w hw
  have h0 := h w hw
  simp only [nws, List.mem_cons, List.not_mem_nil, or_false] at hw
  rcases hw with rfl | rfl | rfl | rfl | rfl | rfl | rfl | rfl | rfl | rfl | rfl | rfl | rfl | rfl | rfl | rfl | rfl | rfl
  all_goals first | exact va_Nw.warmF hW h0 | exact va_Nw.warmM hW h0
theorem NN.use {U : State} (h : NN U) {w : Cond} (i : Nat) (hi : nws[i]? = some w) : va_Nw w U := h w (List.mem_of_getElem? hi)
/-- what is fixed: classes' numbers, addresses of the class's cells, of the reference's, of the texts and their bytes, array classes -/
abbrev St : Type := Nat → Nat → Int32
def Gam : Type := va_G × (Nat → Nat) × (Nat → Nat) × (Nat → Nat) × (Nat → Nat) × (Nat → ClassId)
def gD (G : Gam) : va_G := G.1
def ga (G : Gam) : Nat → Nat := G.2.1
def gm (G : Gam) : Nat → Nat := G.2.2.1
def gK (G : Gam) : Nat → Nat := G.2.2.2.1
def gV (G : Gam) : Nat → Nat := G.2.2.2.2.1
def gI (G : Gam) : ClassId := G.2.2.2.2.2 0
def gC (G : Gam) : ClassId := G.2.2.2.2.2 1
def gS (G : Gam) : ClassId := G.2.2.2.2.2 2
abbrev tX (G : Gam) : List (ClassId × FieldType) := [(gI G, .int), (gC G, .char), (gS G, .object RX2)]
def up2 (σ : St) (i j : Nat) (v : Int32) : St := fun a b => if a = i ∧ b = j then v else σ a b
theorem up2_row (σ : St) (i j : Nat) (v : Int32) : up2 σ i j v i = upd (σ i) j v := by
  funext b; simp [up2, upd]
theorem up2_ne {σ : St} {i j a : Nat} {v : Int32} (h : a ≠ i) : up2 σ i j v a = σ a := by
  funext b; simp [up2, h]
theorem up2_eq {σ : St} {i j : Nat} {v : Int32} : up2 σ i j v i j = v := by simp [up2]
theorem up2_nf {σ : St} {i j a b : Nat} {v : Int32} (h : b ≠ j) : up2 σ i j v a b = σ a b := by simp [up2, h]
theorem up2_nr {σ : St} {i j a b : Nat} {v : Int32} (h : a ≠ i) : up2 σ i j v a b = σ a b := by simp [up2, h]
/-- n cells at the addresses a, holding f -/
def ww (n : Nat) (a : Nat → Nat) (f : Nat → va_E) : va_W := (List.range n).map fun i => (a i, f i)
theorem ww_len {n : Nat} {a : Nat → Nat} {f : Nat → va_E} : (ww n a f).length = n := by simp [ww]
theorem ww_get {n : Nat} {a : Nat → Nat} {f : Nat → va_E} {i : Nat} (h : i < n) : (ww n a f)[i]? = some (a i, f i) := by simp [ww, h]
theorem ww_inv {n : Nat} {a : Nat → Nat} {f : Nat → va_E} {i : Nat} {q : Nat × va_E} (h : (ww n a f)[i]? = some q) : i < n ∧ q = (a i, f i) := by
  have hl : i < n := by have := (List.getElem?_eq_some_iff.mp h).1; rwa [ww_len] at this
  rw [ww_get hl] at h
  exact ⟨hl, (Option.some.inj h).symm⟩
theorem ww_set {n : Nat} {a : Nat → Nat} {f g : Nat → va_E} {i : Nat} {e : va_E} (hi : i < n) (he : g i = e) (ho : ∀ j, j < n → j ≠ i → g j = f j) : (ww n a f).set i (a i, e) = ww n a g := by
  apply List.ext_getElem?
  intro j
  by_cases hj : j = i
  · subst hj
    rw [List.getElem?_set_self (by rw [ww_len]; exact hi), ww_get hi, he]
  · rw [List.getElem?_set_ne (fun z => hj z.symm)]
    by_cases hl : j < n
    · rw [ww_get hl, ww_get hl, ho j hl hj]
    · rw [List.getElem?_eq_none (by rw [ww_len]; omega), List.getElem?_eq_none (by rw [ww_len]; omega)]
def AA (n : Nat) (a : Nat → Nat) : Nat → Prop := fun q => ∃ i, i < n ∧ q = a i
def II (n : Nat) (a : Nat → Nat) : Prop := ∀ i j, i < n → j < n → a i = a j → i = j
theorem ww_D {n : Nat} {a : Nat → Nat} (h : II n a) (f : Nat → va_E) : va_D (AA n a) (ww n a f) := by
  refine ⟨fun i j p q hi hj e => ?_, fun k q hk => ?_⟩
  · obtain ⟨h1, rfl⟩ := ww_inv hi
    obtain ⟨h2, rfl⟩ := ww_inv hj
    exact h i j h1 h2 e
  · obtain ⟨h1, rfl⟩ := ww_inv hk
    exact ⟨k, h1, rfl⟩
/-- the class's cells: 0 the object, 1 page, 2 letters, 3 drawn, hills h at 5h+4 .. 5h+8, stick j = 6h+k at 3j+14 .. 3j+16 -/
def cX (G : Gam) (r : Nat → Int32) (i : Nat) : va_E :=
  if i < 14 then
    (match i with
    | 0 => .inr (3, [.ref (ga G 1), .ref (ga G 4), .ref (ga G 9), .ref (ga G 3), .int (r 4), .int (r 5)])
    | 1 => .inr (1, [.ref (ga G 2), .int (r 1)])
    | 2 => .inl (gC G, 32, .inl r)
    | 3 => .inl (gI G, 6, .inl r)
    | 4 => .inr (0, [.ref (ga G 5), .ref (ga G 6), .ref (ga G 7), .ref (ga G 8), .int (r 4), .int (r 5), .int (r 6)])
    | 5 => .inl (gS G, 6, .inr (.inr (.inr (.inr fun j => some (ga G (3 * (6 * 0 + j) + 14))))))
    | 6 => .inl (gI G, 6, .inl r)
    | 7 => .inl (gI G, 8, .inl r)
    | 8 => .inl (gI G, 8, .inl r)
    | 9 => .inr (0, [.ref (ga G 10), .ref (ga G 11), .ref (ga G 12), .ref (ga G 13), .int (r 4), .int (r 5), .int (r 6)])
    | 10 => .inl (gS G, 6, .inr (.inr (.inr (.inr fun j => some (ga G (3 * (6 * 1 + j) + 14))))))
    | 11 => .inl (gI G, 6, .inl r)
    | 12 => .inl (gI G, 8, .inl r)
    | _ => .inl (gI G, 8, .inl r))
  else if (i - 14) % 3 = 0 then .inr (2, [.int (r 0), .int (r 1), .int (r 2), .ref (ga G (i + 1)), .ref (ga G (i + 2)), .int (r 5)])
  else if (i - 14) % 3 = 1 then .inl (gI G, 5, .inl r)
  else .inl (gI G, 31, .inl r)
def wX (G : Gam) (σ : St) : va_W := ww 50 (ga G) (fun i => cX G (σ i) i)
def aX (G : Gam) : Nat → Prop := AA 50 (ga G)
def PX (G : Gam) (σ : St) (H : Heap) : Prop := va_P (gD G) vwCl (wX G σ) H
def CX (G : Gam) (U : State) : Prop := va_K (gD G) vwCl (tX G) U ∧ II 50 (ga G) ∧ GW U ∧ NN U
def WX (G : Gam) (σ : St) (U : State) (H : Heap) : Prop := PX G σ H ∧ CX G U
/-- the reference's cells: 0 the object, 1 page, 2 read, 3 rows, 4 seenBy, 5 sights, 6 parts, 7 savedRows, 8 keptRows, 9 keptSights -/
def lM (i : Nat) : Nat := match i with
  | 1 => 32
  | 2 => 36
  | 3 => 54
  | 4 => 6
  | 5 => 16
  | 6 => 16
  | 7 => 54
  | 8 => 54
  | _ => 16
def cM (G : Gam) (hs : Int64) (r : Nat → Int32) (i : Nat) : va_E :=
  if i = 0 then .inr (4, [.ref (gm G 1), .int (r 1), .ref (gm G 2), .int (r 3), .int (r 4), .int (r 5), .int (r 6), .int (r 7), .ref (gm G 3), .ref (gm G 4), .int (r 10), .ref (gm G 5), .ref (gm G 6), .int (r 13), .ref (gm G 7), .int (r 15), .int (r 16), .int (r 17), .int (r 18), .ref (gm G 8), .ref (gm G 9), .long hs])
  else .inl (gI G, lM i, .inl r)
def wM (G : Gam) (μ : St) (hs : Int64) : va_W := ww 10 (gm G) (fun i => cM G hs (μ i) i)
def aM (G : Gam) : Nat → Prop := AA 10 (gm G)
def PM (G : Gam) (μ : St) (hs : Int64) (H : Heap) : Prop := va_P (gD G) vwCl (wM G μ hs) H
def CM (G : Gam) (U : State) : Prop := va_K (gD G) vwCl (tX G) U ∧ II 10 (gm G) ∧ GW U
def WM (G : Gam) (μ : St) (hs : Int64) (U : State) (H : Heap) : Prop := PM G μ hs H ∧ CM G U
/-! moves of the context -/
theorem CX.warm {G : Gam} {s U : State} (hW : s.WarmedH U.vm) (h : CX G s) : CX G U := ⟨va_K.moved hW.alike h.1, h.2.1, h.2.2.1.warm hW, h.2.2.2.warm hW⟩
theorem CM.warm {G : Gam} {s U : State} (hW : s.WarmedH U.vm) (h : CM G s) : CM G U := ⟨va_K.moved hW.alike h.1, h.2.1, h.2.2.warm hW⟩
theorem CX.call {G : Gam} {U : State} {g : JFrame} {mk : MethodId} {a : Array Value} (h : CX G U) : CX G (U.calling g mk a) := CX.warm (s := U) (U := U.calling g mk a) (State.WarmedH.refl U) h
theorem CM.call {G : Gam} {U : State} {g : JFrame} {mk : MethodId} {a : Array Value} (h : CM G U) : CM G (U.calling g mk a) := CM.warm (s := U) (U := U.calling g mk a) (State.WarmedH.refl U) h
section LX
variable {p : Program} {l : Launch} {e : Env} {R : Room} {s : State} {m : MethodId} {args : Array Value} {below : List Frame} {meth : Method} {c : Code} {H : Heap} {locs : List Loc} {cells slots : Nat} {Q : State → Prop}
variable {cc : ByteArray} {pc : Nat} {ls : Array Slot} {rest : List Value} {D : va_G} {tys : List (ClassId × FieldType)} {H0 : Heap} {n : Nat} {a : Nat → Nat} {f : Nat → va_E}
theorem wd_get (hx : p.tables.exec = Jvm.exec) (hb : c.code = cc) {own C : String} {T : u_T} {N ci index : Nat} (hown : s.vm.findClass own = some m.cls) (hG : GW s) (hK : va_K D vwCl tys s) (hP : va_P D vwCl (ww n a f) H) {i : Nat} (hi : i < n) {fs : List Value} (hc : f i = .inr (ci, fs)) (hcl : vwCl[ci]? = some (C, T, N)) (hin : ∀ w ∈ u_ws C T N, w ∈ lw_tbl ∧ goodWord w = true) (k : Nat) (hk : k < N) {q : Nat} (hl : lw_tbl[q]? = some (.fieldLink own index (T k).1 (T k).2.1 (T k).2.2.1)) {v : Value} (hv : fs[k]? = some v) (hdg : decode cc pc = .ok (.getfield index, 3))
    (kk : W p l e R s m args below meth c H locs cells slots Q (F0 m (pc + 3) ls (v :: rest))) : W p l e R s m args below meth c H locs cells slots Q (F0 m pc ls (.ref (a i) :: rest)) :=
  va_get hx hb (Ts := u_ws C T N) (fun w hw => hG w (hin w hw).1 (hin w hw).2 args) (fun _ h => h) hown hK hP i (by rw [ww_get hi, hc]) hcl k hk (hG.use hl rfl args) (fun _ h => h) hv hdg kk
theorem wd_getN (hx : p.tables.exec = Jvm.exec) (hb : c.code = cc) {own host C : String} {T : u_T} {N ci index : Nat} (hown : s.vm.findClass own = some m.cls) (hG : GW s) (hK : va_K D vwCl tys s) (hP : va_P D vwCl (ww n a f) H) {i : Nat} (hi : i < n) {fs : List Value} (hc : f i = .inr (ci, fs)) (hcl : vwCl[ci]? = some (C, T, N)) (hin : ∀ w ∈ u_ws C T N, w ∈ lw_tbl ∧ goodWord w = true) (k : Nat) (hk : k < N) (hl : va_Nw (.fieldLinkNest own index (T k).1 (T k).2.1 (T k).2.2.1 host) s) {v : Value} (hv : fs[k]? = some v) (hdg : decode cc pc = .ok (.getfield index, 3))
    (kk : W p l e R s m args below meth c H locs cells slots Q (F0 m (pc + 3) ls (v :: rest))) : W p l e R s m args below meth c H locs cells slots Q (F0 m pc ls (.ref (a i) :: rest)) :=
  va_getN hx hb (Ts := u_ws C T N) (fun w hw => hG w (hin w hw).1 (hin w hw).2 args) (fun _ h => h) hown hK hP i (by rw [ww_get hi, hc]) hcl k hk (va_Nw.use rfl hl) (fun _ h => h) hv hdg kk
theorem wd_put (hx : p.tables.exec = Jvm.exec) (hb : c.code = cc) {own C : String} {T : u_T} {N ci index : Nat} (ty0 : Nat → FieldType) (hty : ∀ k, k < N → parseFieldDescriptor (T k).2.2.1 = some (ty0 k)) (hnm : ∀ a, a < N → ∀ b, b < N → a ≠ b → (T a).2.1 ≠ (T b).2.1) (hown : s.vm.findClass own = some m.cls) (hG : GW s) (hK : va_K D vwCl tys s) (hI : II n a) (hP : va_P D vwCl (ww n a f) H) (hS : va_S (AA n a) H0 H locs) {i : Nat} (hi : i < n) {fs : List Value} (hc : f i = .inr (ci, fs)) (hcl : vwCl[ci]? = some (C, T, N)) (hin : ∀ w ∈ u_ws C T N, w ∈ lw_tbl ∧ goodWord w = true) (k : Nat) (hk : k < N) {q : Nat} (hl : lw_tbl[q]? = some (.fieldLink own index (T k).1 (T k).2.1 (T k).2.2.1)) (hfin : (T k).2.2.2 = false) {ty : FieldType} {v : Value} (hd : parseFieldDescriptor (T k).2.2.1 = some ty) (hn : narrow ty v = v) (hfit : fits ty v = true) (hlen : k < fs.length) {g : Nat → va_E} (hg : g i = .inr (ci, fs.set k v)) (ho : ∀ j, j < n → j ≠ i → g j = f j) (hdg : decode cc pc = .ok (.putfield index, 3))
    (kk : ∀ (H1 : Heap) (locs1 : List Loc), va_P D vwCl (ww n a g) H1 → va_S (AA n a) H0 H1 locs1 → W p l e R s m args below meth c H1 locs1 cells slots Q (F0 m (pc + 3) ls rest)) : W p l e R s m args below meth c H locs cells slots Q (F0 m pc ls (v :: .ref (a i) :: rest)) :=
  va_put hx hb (Ts := u_ws C T N) (fun w hw => hG w (hin w hw).1 (hin w hw).2 args) (fun _ h => h) ty0 hty hnm hown hK hP (ww_D hI f) hS i (by rw [ww_get hi, hc]) hcl k hk (hG.use hl rfl args) (fun _ h => h) hfin hd hn hfit hlen hdg (fun H1 locs1 h1 _ h3 => kk H1 locs1 (by rw [ww_set hi hg ho] at h1; exact h1) h3)
theorem wd_putN (hx : p.tables.exec = Jvm.exec) (hb : c.code = cc) {own host C : String} {T : u_T} {N ci index : Nat} (ty0 : Nat → FieldType) (hty : ∀ k, k < N → parseFieldDescriptor (T k).2.2.1 = some (ty0 k)) (hnm : ∀ a, a < N → ∀ b, b < N → a ≠ b → (T a).2.1 ≠ (T b).2.1) (hown : s.vm.findClass own = some m.cls) (hG : GW s) (hK : va_K D vwCl tys s) (hI : II n a) (hP : va_P D vwCl (ww n a f) H) (hS : va_S (AA n a) H0 H locs) {i : Nat} (hi : i < n) {fs : List Value} (hc : f i = .inr (ci, fs)) (hcl : vwCl[ci]? = some (C, T, N)) (hin : ∀ w ∈ u_ws C T N, w ∈ lw_tbl ∧ goodWord w = true) (k : Nat) (hk : k < N) (hl : va_Nw (.fieldLinkNest own index (T k).1 (T k).2.1 (T k).2.2.1 host) s) (hfin : (T k).2.2.2 = false) {ty : FieldType} {v : Value} (hd : parseFieldDescriptor (T k).2.2.1 = some ty) (hn : narrow ty v = v) (hfit : fits ty v = true) (hlen : k < fs.length) {g : Nat → va_E} (hg : g i = .inr (ci, fs.set k v)) (ho : ∀ j, j < n → j ≠ i → g j = f j) (hdg : decode cc pc = .ok (.putfield index, 3))
    (kk : ∀ (H1 : Heap) (locs1 : List Loc), va_P D vwCl (ww n a g) H1 → va_S (AA n a) H0 H1 locs1 → W p l e R s m args below meth c H1 locs1 cells slots Q (F0 m (pc + 3) ls rest)) : W p l e R s m args below meth c H locs cells slots Q (F0 m pc ls (v :: .ref (a i) :: rest)) :=
  va_putN hx hb (Ts := u_ws C T N) (fun w hw => hG w (hin w hw).1 (hin w hw).2 args) (fun _ h => h) ty0 hty hnm hown hK hP (ww_D hI f) hS i (by rw [ww_get hi, hc]) hcl k hk (va_Nw.use rfl hl) (fun _ h => h) hfin hd hn hfit hlen hdg (fun H1 locs1 h1 _ h3 => kk H1 locs1 (by rw [ww_set hi hg ho] at h1; exact h1) h3)
theorem cl_nI {x : Int32} {k : Nat} (h : x = nI k) (hk : k < 2 ^ 31) : x.toNatClampNeg = k := by rw [h]; exact nI_clamp hk
theorem wd_ald (hx : p.tables.exec = Jvm.exec) (hb : c.code = cc) (hK : va_K D vwCl tys s) (hP : va_P D vwCl (ww n a f) H) (t0 : Nat) {i : Nat} (hi : i < n) {cA : ClassId} {N : Nat} {r : Nat → Int32} (hc : f i = .inl (cA, N, .inl r)) (ht : tys[t0]? = some (cA, .int)) {x : Int32} {k : Nat} (hxk : x = nI k) (hk : k < N) (hN : N ≤ 64) (hdg : decode cc pc = .ok (.iaload, 1))
    (kk : W p l e R s m args below meth c H locs cells slots Q (F0 m (pc + 1) ls (.int (r k) :: rest))) : W p l e R s m args below meth c H locs cells slots Q (F0 m pc ls (.int x :: .ref (a i) :: rest)) :=
  va_iald hx hb hK hP i t0 (by rw [ww_get hi, hc]) ht (by rw [hxk]; exact vp_in_nI hk (by omega)) hdg (by rw [cl_nI hxk (by omega)]; exact kk)
theorem wd_cald (hx : p.tables.exec = Jvm.exec) (hb : c.code = cc) (hK : va_K D vwCl tys s) (hP : va_P D vwCl (ww n a f) H) (t0 : Nat) {i : Nat} (hi : i < n) {cA : ClassId} {N : Nat} {r : Nat → Int32} (hc : f i = .inl (cA, N, .inl r)) (ht : tys[t0]? = some (cA, .char)) {x : Int32} {k : Nat} (hxk : x = nI k) (hk : k < N) (hN : N ≤ 64) (hdg : decode cc pc = .ok (.caload, 1))
    (kk : W p l e R s m args below meth c H locs cells slots Q (F0 m (pc + 1) ls (.int (r k) :: rest))) : W p l e R s m args below meth c H locs cells slots Q (F0 m pc ls (.int x :: .ref (a i) :: rest)) :=
  va_cald hx hb hK hP i t0 (by rw [ww_get hi, hc]) ht (by rw [hxk]; exact vp_in_nI hk (by omega)) hdg (by rw [cl_nI hxk (by omega)]; exact kk)
theorem wd_aald (hx : p.tables.exec = Jvm.exec) (hb : c.code = cc) (hK : va_K D vwCl tys s) (hP : va_P D vwCl (ww n a f) H) (t0 : Nat) {i : Nat} (hi : i < n) {cA : ClassId} {N : Nat} {r : Nat → Option Nat} {C : String} (hc : f i = .inl (cA, N, .inr (.inr (.inr (.inr r))))) (ht : tys[t0]? = some (cA, .object C)) {x : Int32} {k : Nat} (hxk : x = nI k) (hk : k < N) (hN : N ≤ 64) {y : Nat} (hy : r k = some y) (hdg : decode cc pc = .ok (.aaload, 1))
    (kk : W p l e R s m args below meth c H locs cells slots Q (F0 m (pc + 1) ls (.ref y :: rest))) : W p l e R s m args below meth c H locs cells slots Q (F0 m pc ls (.int x :: .ref (a i) :: rest)) :=
  va_aldq hx hb hK hP i t0 (by rw [ww_get hi, hc]) ht (by rw [hxk]; exact vp_in_nI hk (by omega)) hdg (by rw [cl_nI hxk (by omega), hy]; exact kk)
theorem wd_ast (hx : p.tables.exec = Jvm.exec) (hb : c.code = cc) (hK : va_K D vwCl tys s) (hI : II n a) (hP : va_P D vwCl (ww n a f) H) (hS : va_S (AA n a) H0 H locs) (t0 : Nat) {i : Nat} (hi : i < n) {cA : ClassId} {N : Nat} {r : Nat → Int32} (hc : f i = .inl (cA, N, .inl r)) (ht : tys[t0]? = some (cA, .int)) {x v : Int32} {k : Nat} (hxk : x = nI k) (hk : k < N) (hN : N ≤ 64) {g : Nat → va_E} (hg : g i = .inl (cA, N, .inl (upd r k v))) (ho : ∀ j, j < n → j ≠ i → g j = f j) (hdg : decode cc pc = .ok (.iastore, 1))
    (kk : ∀ (H1 : Heap) (locs1 : List Loc), va_P D vwCl (ww n a g) H1 → va_S (AA n a) H0 H1 locs1 → W p l e R s m args below meth c H1 locs1 cells slots Q (F0 m (pc + 1) ls rest)) : W p l e R s m args below meth c H locs cells slots Q (F0 m pc ls (.int v :: .int x :: .ref (a i) :: rest)) :=
  va_iast hx hb hK hP (ww_D hI f) hS i t0 (by rw [ww_get hi, hc]) ht (by rw [hxk]; exact vp_in_nI hk (by omega)) hdg (fun H1 locs1 h1 _ h3 => kk H1 locs1 (by rw [cl_nI hxk (by omega), ww_set hi hg ho] at h1; exact h1) h3)
theorem wd_cast (hx : p.tables.exec = Jvm.exec) (hb : c.code = cc) (hK : va_K D vwCl tys s) (hI : II n a) (hP : va_P D vwCl (ww n a f) H) (hS : va_S (AA n a) H0 H locs) (t0 : Nat) {i : Nat} (hi : i < n) {cA : ClassId} {N : Nat} {r : Nat → Int32} (hc : f i = .inl (cA, N, .inl r)) (ht : tys[t0]? = some (cA, .char)) {x v : Int32} {k : Nat} (hxk : x = nI k) (hk : k < N) (hN : N ≤ 64) (hv : vp_nar .char v = v) {g : Nat → va_E} (hg : g i = .inl (cA, N, .inl (upd r k v))) (ho : ∀ j, j < n → j ≠ i → g j = f j) (hdg : decode cc pc = .ok (.castore, 1))
    (kk : ∀ (H1 : Heap) (locs1 : List Loc), va_P D vwCl (ww n a g) H1 → va_S (AA n a) H0 H1 locs1 → W p l e R s m args below meth c H1 locs1 cells slots Q (F0 m (pc + 1) ls rest)) : W p l e R s m args below meth c H locs cells slots Q (F0 m pc ls (.int v :: .int x :: .ref (a i) :: rest)) :=
  va_cast hx hb hK hP (ww_D hI f) hS i t0 (by rw [ww_get hi, hc]) ht (by rw [hxk]; exact vp_in_nI hk (by omega)) hdg (fun H1 locs1 h1 _ h3 => kk H1 locs1 (by rw [cl_nI hxk (by omega), hv, ww_set hi hg ho] at h1; exact h1) h3)
end LX
end
section
/-! ===== LAYER 2: one row a field (by the place in the constant pool of the class that uses it), one row an array; printed by gen_fields.py ===== -/
theorem inX0 : ∀ w ∈ u_ws RX0 TX0 7, w ∈ lw_tbl ∧ goodWord w = true := by decide +kernel
theorem inX1 : ∀ w ∈ u_ws RX1 TX1 2, w ∈ lw_tbl ∧ goodWord w = true := by decide +kernel
theorem inX2 : ∀ w ∈ u_ws RX2 TX2 6, w ∈ lw_tbl ∧ goodWord w = true := by decide +kernel
theorem inX3 : ∀ w ∈ u_ws RX3 TX3 6, w ∈ lw_tbl ∧ goodWord w = true := by decide +kernel
theorem inX4 : ∀ w ∈ u_ws RX4 TX4 22, w ∈ lw_tbl ∧ goodWord w = true := by decide +kernel
theorem cX_0 {G : Gam} {r : Nat → Int32} : cX G r 0 = .inr (3, [.ref (ga G 1), .ref (ga G 4), .ref (ga G 9), .ref (ga G 3), .int (r 4), .int (r 5)]) := rfl
theorem cX_1 {G : Gam} {r : Nat → Int32} : cX G r 1 = .inr (1, [.ref (ga G 2), .int (r 1)]) := rfl
theorem cX_2 {G : Gam} {r : Nat → Int32} : cX G r 2 = .inl (gC G, 32, .inl r) := rfl
theorem cX_3 {G : Gam} {r : Nat → Int32} : cX G r 3 = .inl (gI G, 6, .inl r) := rfl
theorem h2_cases {h : Nat} (hh : h < 2) : h = 0 ∨ h = 1 := by omega
theorem cX_h {G : Gam} {r : Nat → Int32} {h : Nat} (hh : h < 2) : cX G r (5 * h + 4) = .inr (0, [.ref (ga G (5 * h + 5)), .ref (ga G (5 * h + 6)), .ref (ga G (5 * h + 7)), .ref (ga G (5 * h + 8)), .int (r 4), .int (r 5), .int (r 6)]) := by rcases h2_cases hh with rfl | rfl <;> rfl
theorem cX_hs {G : Gam} {r : Nat → Int32} {h : Nat} (hh : h < 2) : cX G r (5 * h + 5) = .inl (gS G, 6, .inr (.inr (.inr (.inr fun j => some (ga G (3 * (6 * h + j) + 14)))))) := by rcases h2_cases hh with rfl | rfl <;> rfl
theorem cX_h6 {G : Gam} {r : Nat → Int32} {h : Nat} (hh : h < 2) : cX G r (5 * h + 6) = .inl (gI G, 6, .inl r) := by rcases h2_cases hh with rfl | rfl <;> rfl
theorem cX_h7 {G : Gam} {r : Nat → Int32} {h : Nat} (hh : h < 2) : cX G r (5 * h + 7) = .inl (gI G, 8, .inl r) := by rcases h2_cases hh with rfl | rfl <;> rfl
theorem cX_h8 {G : Gam} {r : Nat → Int32} {h : Nat} (hh : h < 2) : cX G r (5 * h + 8) = .inl (gI G, 8, .inl r) := by rcases h2_cases hh with rfl | rfl <;> rfl
theorem cX_s {G : Gam} {r : Nat → Int32} {j : Nat} (hj : j < 12) : cX G r (3 * j + 14) = .inr (2, [.int (r 0), .int (r 1), .int (r 2), .ref (ga G (3 * j + 15)), .ref (ga G (3 * j + 16)), .int (r 5)]) := by unfold cX; rw [if_neg (by omega), if_pos (by omega)]
theorem cX_way {G : Gam} {r : Nat → Int32} {j : Nat} (hj : j < 12) : cX G r (3 * j + 15) = .inl (gI G, 5, .inl r) := by unfold cX; rw [if_neg (by omega), if_neg (by omega), if_pos (by omega)]
theorem cX_trail {G : Gam} {r : Nat → Int32} {j : Nat} (hj : j < 12) : cX G r (3 * j + 16) = .inl (gI G, 31, .inl r) := by unfold cX; rw [if_neg (by omega), if_neg (by omega), if_neg (by omega)]
theorem cM_0 {G : Gam} {hs : Int64} {r : Nat → Int32} : cM G hs r 0 = .inr (4, [.ref (gm G 1), .int (r 1), .ref (gm G 2), .int (r 3), .int (r 4), .int (r 5), .int (r 6), .int (r 7), .ref (gm G 3), .ref (gm G 4), .int (r 10), .ref (gm G 5), .ref (gm G 6), .int (r 13), .ref (gm G 7), .int (r 15), .int (r 16), .int (r 17), .int (r 18), .ref (gm G 8), .ref (gm G 9), .long hs]) := rfl
theorem cM_a {G : Gam} {hs : Int64} {r : Nat → Int32} {i : Nat} (h0 : i ≠ 0) : cM G hs r i = .inl (gI G, lM i, .inl r) := by unfold cM; rw [if_neg h0]
theorem rd_X3_26 {p : Program} {l : Launch} {e : Env} {R : Room} {s : State} {m : MethodId} {args : Array Value} {below : List Frame} {meth : Method} {c : Code} {H : Heap} {locs : List Loc} {cells slots : Nat} {Q : State → Prop} {cc : ByteArray} {pc : Nat} {ls : Array Slot} {rest : List Value} {G : Gam} {σ : St} (hx : p.tables.exec = Jvm.exec) (hb : c.code = cc) (hown : s.vm.findClass RX3 = some m.cls) (hW : WX G σ s H)  (hdg : decode cc pc = .ok (.getfield 26, 3)) (kk : W p l e R s m args below meth c H locs cells slots Q (F0 m (pc + 3) ls (.ref (ga G (3)) :: rest))) : W p l e R s m args below meth c H locs cells slots Q (F0 m pc ls (.ref (ga G (0)) :: rest)) :=
  wd_get (f := fun i => cX G (σ i) i) hx hb (C := RX3) (T := TX3) (N := 6) (ci := 3) hown hW.2.2.2.1 hW.2.1 hW.1 (i := 0) (by omega) (cX_0) rfl inX3 3 (by decide) (q := 149) (by decide +kernel) rfl hdg kk
theorem rd_X3_30 {p : Program} {l : Launch} {e : Env} {R : Room} {s : State} {m : MethodId} {args : Array Value} {below : List Frame} {meth : Method} {c : Code} {H : Heap} {locs : List Loc} {cells slots : Nat} {Q : State → Prop} {cc : ByteArray} {pc : Nat} {ls : Array Slot} {rest : List Value} {G : Gam} {σ : St} (hx : p.tables.exec = Jvm.exec) (hb : c.code = cc) (hown : s.vm.findClass RX3 = some m.cls) (hW : WX G σ s H)  (hdg : decode cc pc = .ok (.getfield 30, 3)) (kk : W p l e R s m args below meth c H locs cells slots Q (F0 m (pc + 3) ls (.int (σ (0) 4) :: rest))) : W p l e R s m args below meth c H locs cells slots Q (F0 m pc ls (.ref (ga G (0)) :: rest)) :=
  wd_get (f := fun i => cX G (σ i) i) hx hb (C := RX3) (T := TX3) (N := 6) (ci := 3) hown hW.2.2.2.1 hW.2.1 hW.1 (i := 0) (by omega) (cX_0) rfl inX3 4 (by decide) (q := 150) (by decide +kernel) rfl hdg kk
theorem wr_X3_30 {p : Program} {l : Launch} {e : Env} {R : Room} {s : State} {m : MethodId} {args : Array Value} {below : List Frame} {meth : Method} {c : Code} {H : Heap} {locs : List Loc} {cells slots : Nat} {Q : State → Prop} {cc : ByteArray} {pc : Nat} {ls : Array Slot} {rest : List Value} {G : Gam} {σ : St} {H0 : Heap} {v : Int32} (hx : p.tables.exec = Jvm.exec) (hb : c.code = cc) (hown : s.vm.findClass RX3 = some m.cls) (hW : WX G σ s H) (hS : va_S (aX G) H0 H locs)  (hn : narrow .boolean (.int v) = .int v) (hfit : fits .boolean (.int v) = true) (hdg : decode cc pc = .ok (.putfield 30, 3)) (kk : ∀ (H1 : Heap) (locs1 : List Loc), WX G (up2 σ (0) 4 v) s H1 → va_S (aX G) H0 H1 locs1 → W p l e R s m args below meth c H1 locs1 cells slots Q (F0 m (pc + 3) ls rest)) : W p l e R s m args below meth c H locs cells slots Q (F0 m pc ls (.int v :: .ref (ga G (0)) :: rest)) :=
  wd_put (f := fun i => cX G (σ i) i) (g := fun i => cX G (up2 σ (0) 4 v i) i) hx hb (C := RX3) (T := TX3) (N := 6) (ci := 3) tyX3 tyX3_ok nmX3 hown hW.2.2.2.1 hW.2.1 hW.2.2.1 hW.1 hS (i := 0) (by omega) (cX_0) rfl inX3 4 (by decide) (q := 150) (by decide +kernel) rfl (ty := .boolean) (v := .int v) (by decide +kernel) hn hfit (Nat.le_of_ble_eq_true rfl) (by show cX G (up2 σ (0) 4 v (0)) (0) = _; rw [up2_row, cX_0]; rfl) (fun j9 _ hne => by show cX G (up2 σ (0) 4 v j9) j9 = cX G (σ j9) j9; rw [up2_ne hne]) hdg (fun H1 locs1 h1 h2 => kk H1 locs1 ⟨h1, hW.2⟩ h2)
theorem rd_X3_23 {p : Program} {l : Launch} {e : Env} {R : Room} {s : State} {m : MethodId} {args : Array Value} {below : List Frame} {meth : Method} {c : Code} {H : Heap} {locs : List Loc} {cells slots : Nat} {Q : State → Prop} {cc : ByteArray} {pc : Nat} {ls : Array Slot} {rest : List Value} {G : Gam} {σ : St} (hx : p.tables.exec = Jvm.exec) (hb : c.code = cc) (hown : s.vm.findClass RX3 = some m.cls) (hW : WX G σ s H)  (hdg : decode cc pc = .ok (.getfield 23, 3)) (kk : W p l e R s m args below meth c H locs cells slots Q (F0 m (pc + 3) ls (.ref (ga G (9)) :: rest))) : W p l e R s m args below meth c H locs cells slots Q (F0 m pc ls (.ref (ga G (0)) :: rest)) :=
  wd_get (f := fun i => cX G (σ i) i) hx hb (C := RX3) (T := TX3) (N := 6) (ci := 3) hown hW.2.2.2.1 hW.2.1 hW.1 (i := 0) (by omega) (cX_0) rfl inX3 2 (by decide) (q := 148) (by decide +kernel) rfl hdg kk
theorem rd_X3_19 {p : Program} {l : Launch} {e : Env} {R : Room} {s : State} {m : MethodId} {args : Array Value} {below : List Frame} {meth : Method} {c : Code} {H : Heap} {locs : List Loc} {cells slots : Nat} {Q : State → Prop} {cc : ByteArray} {pc : Nat} {ls : Array Slot} {rest : List Value} {G : Gam} {σ : St} (hx : p.tables.exec = Jvm.exec) (hb : c.code = cc) (hown : s.vm.findClass RX3 = some m.cls) (hW : WX G σ s H)  (hdg : decode cc pc = .ok (.getfield 19, 3)) (kk : W p l e R s m args below meth c H locs cells slots Q (F0 m (pc + 3) ls (.ref (ga G (4)) :: rest))) : W p l e R s m args below meth c H locs cells slots Q (F0 m pc ls (.ref (ga G (0)) :: rest)) :=
  wd_get (f := fun i => cX G (σ i) i) hx hb (C := RX3) (T := TX3) (N := 6) (ci := 3) hown hW.2.2.2.1 hW.2.1 hW.1 (i := 0) (by omega) (cX_0) rfl inX3 1 (by decide) (q := 147) (by decide +kernel) rfl hdg kk
theorem rd_X3_10 {p : Program} {l : Launch} {e : Env} {R : Room} {s : State} {m : MethodId} {args : Array Value} {below : List Frame} {meth : Method} {c : Code} {H : Heap} {locs : List Loc} {cells slots : Nat} {Q : State → Prop} {cc : ByteArray} {pc : Nat} {ls : Array Slot} {rest : List Value} {G : Gam} {σ : St} (hx : p.tables.exec = Jvm.exec) (hb : c.code = cc) (hown : s.vm.findClass RX3 = some m.cls) (hW : WX G σ s H)  (hdg : decode cc pc = .ok (.getfield 10, 3)) (kk : W p l e R s m args below meth c H locs cells slots Q (F0 m (pc + 3) ls (.ref (ga G (1)) :: rest))) : W p l e R s m args below meth c H locs cells slots Q (F0 m pc ls (.ref (ga G (0)) :: rest)) :=
  wd_get (f := fun i => cX G (σ i) i) hx hb (C := RX3) (T := TX3) (N := 6) (ci := 3) hown hW.2.2.2.1 hW.2.1 hW.1 (i := 0) (by omega) (cX_0) rfl inX3 0 (by decide) (q := 146) (by decide +kernel) rfl hdg kk
theorem rd_X3_34 {p : Program} {l : Launch} {e : Env} {R : Room} {s : State} {m : MethodId} {args : Array Value} {below : List Frame} {meth : Method} {c : Code} {H : Heap} {locs : List Loc} {cells slots : Nat} {Q : State → Prop} {cc : ByteArray} {pc : Nat} {ls : Array Slot} {rest : List Value} {G : Gam} {σ : St} (hx : p.tables.exec = Jvm.exec) (hb : c.code = cc) (hown : s.vm.findClass RX3 = some m.cls) (hW : WX G σ s H)  (hdg : decode cc pc = .ok (.getfield 34, 3)) (kk : W p l e R s m args below meth c H locs cells slots Q (F0 m (pc + 3) ls (.int (σ (0) 5) :: rest))) : W p l e R s m args below meth c H locs cells slots Q (F0 m pc ls (.ref (ga G (0)) :: rest)) :=
  wd_get (f := fun i => cX G (σ i) i) hx hb (C := RX3) (T := TX3) (N := 6) (ci := 3) hown hW.2.2.2.1 hW.2.1 hW.1 (i := 0) (by omega) (cX_0) rfl inX3 5 (by decide) (q := 151) (by decide +kernel) rfl hdg kk
theorem wr_X3_34 {p : Program} {l : Launch} {e : Env} {R : Room} {s : State} {m : MethodId} {args : Array Value} {below : List Frame} {meth : Method} {c : Code} {H : Heap} {locs : List Loc} {cells slots : Nat} {Q : State → Prop} {cc : ByteArray} {pc : Nat} {ls : Array Slot} {rest : List Value} {G : Gam} {σ : St} {H0 : Heap} {v : Int32} (hx : p.tables.exec = Jvm.exec) (hb : c.code = cc) (hown : s.vm.findClass RX3 = some m.cls) (hW : WX G σ s H) (hS : va_S (aX G) H0 H locs)  (hdg : decode cc pc = .ok (.putfield 34, 3)) (kk : ∀ (H1 : Heap) (locs1 : List Loc), WX G (up2 σ (0) 5 v) s H1 → va_S (aX G) H0 H1 locs1 → W p l e R s m args below meth c H1 locs1 cells slots Q (F0 m (pc + 3) ls rest)) : W p l e R s m args below meth c H locs cells slots Q (F0 m pc ls (.int v :: .ref (ga G (0)) :: rest)) :=
  wd_put (f := fun i => cX G (σ i) i) (g := fun i => cX G (up2 σ (0) 5 v i) i) hx hb (C := RX3) (T := TX3) (N := 6) (ci := 3) tyX3 tyX3_ok nmX3 hown hW.2.2.2.1 hW.2.1 hW.2.2.1 hW.1 hS (i := 0) (by omega) (cX_0) rfl inX3 5 (by decide) (q := 151) (by decide +kernel) rfl (ty := .int) (v := .int v) (by decide +kernel) rfl rfl (Nat.le_of_ble_eq_true rfl) (by show cX G (up2 σ (0) 5 v (0)) (0) = _; rw [up2_row, cX_0]; rfl) (fun j9 _ hne => by show cX G (up2 σ (0) 5 v j9) j9 = cX G (σ j9) j9; rw [up2_ne hne]) hdg (fun H1 locs1 h1 h2 => kk H1 locs1 ⟨h1, hW.2⟩ h2)
theorem rd_X0_35 {p : Program} {l : Launch} {e : Env} {R : Room} {s : State} {m : MethodId} {args : Array Value} {below : List Frame} {meth : Method} {c : Code} {H : Heap} {locs : List Loc} {cells slots : Nat} {Q : State → Prop} {cc : ByteArray} {pc : Nat} {ls : Array Slot} {rest : List Value} {G : Gam} {σ : St} (hx : p.tables.exec = Jvm.exec) (hb : c.code = cc) (hown : s.vm.findClass RX0 = some m.cls) (hW : WX G σ s H) {h : Nat} (hh : h < 2) (hdg : decode cc pc = .ok (.getfield 35, 3)) (kk : W p l e R s m args below meth c H locs cells slots Q (F0 m (pc + 3) ls (.int (σ (5 * h + 4) 5) :: rest))) : W p l e R s m args below meth c H locs cells slots Q (F0 m pc ls (.ref (ga G (5 * h + 4)) :: rest)) :=
  wd_get (f := fun i => cX G (σ i) i) hx hb (C := RX0) (T := TX0) (N := 7) (ci := 0) hown hW.2.2.2.1 hW.2.1 hW.1 (i := 5 * h + 4) (by omega) (cX_h hh) rfl inX0 5 (by decide) (q := 127) (by decide +kernel) rfl hdg kk
theorem wr_X0_35 {p : Program} {l : Launch} {e : Env} {R : Room} {s : State} {m : MethodId} {args : Array Value} {below : List Frame} {meth : Method} {c : Code} {H : Heap} {locs : List Loc} {cells slots : Nat} {Q : State → Prop} {cc : ByteArray} {pc : Nat} {ls : Array Slot} {rest : List Value} {G : Gam} {σ : St} {H0 : Heap} {v : Int32} (hx : p.tables.exec = Jvm.exec) (hb : c.code = cc) (hown : s.vm.findClass RX0 = some m.cls) (hW : WX G σ s H) (hS : va_S (aX G) H0 H locs) {h : Nat} (hh : h < 2) (hdg : decode cc pc = .ok (.putfield 35, 3)) (kk : ∀ (H1 : Heap) (locs1 : List Loc), WX G (up2 σ (5 * h + 4) 5 v) s H1 → va_S (aX G) H0 H1 locs1 → W p l e R s m args below meth c H1 locs1 cells slots Q (F0 m (pc + 3) ls rest)) : W p l e R s m args below meth c H locs cells slots Q (F0 m pc ls (.int v :: .ref (ga G (5 * h + 4)) :: rest)) :=
  wd_put (f := fun i => cX G (σ i) i) (g := fun i => cX G (up2 σ (5 * h + 4) 5 v i) i) hx hb (C := RX0) (T := TX0) (N := 7) (ci := 0) tyX0 tyX0_ok nmX0 hown hW.2.2.2.1 hW.2.1 hW.2.2.1 hW.1 hS (i := 5 * h + 4) (by omega) (cX_h hh) rfl inX0 5 (by decide) (q := 127) (by decide +kernel) rfl (ty := .int) (v := .int v) (by decide +kernel) rfl rfl (Nat.le_of_ble_eq_true rfl) (by show cX G (up2 σ (5 * h + 4) 5 v (5 * h + 4)) (5 * h + 4) = _; rw [up2_row, cX_h hh]; rfl) (fun j9 _ hne => by show cX G (up2 σ (5 * h + 4) 5 v j9) j9 = cX G (σ j9) j9; rw [up2_ne hne]) hdg (fun H1 locs1 h1 h2 => kk H1 locs1 ⟨h1, hW.2⟩ h2)
theorem rd_X0_18 {p : Program} {l : Launch} {e : Env} {R : Room} {s : State} {m : MethodId} {args : Array Value} {below : List Frame} {meth : Method} {c : Code} {H : Heap} {locs : List Loc} {cells slots : Nat} {Q : State → Prop} {cc : ByteArray} {pc : Nat} {ls : Array Slot} {rest : List Value} {G : Gam} {σ : St} (hx : p.tables.exec = Jvm.exec) (hb : c.code = cc) (hown : s.vm.findClass RX0 = some m.cls) (hW : WX G σ s H) {h : Nat} (hh : h < 2) (hdg : decode cc pc = .ok (.getfield 18, 3)) (kk : W p l e R s m args below meth c H locs cells slots Q (F0 m (pc + 3) ls (.ref (ga G (5 * h + 6)) :: rest))) : W p l e R s m args below meth c H locs cells slots Q (F0 m pc ls (.ref (ga G (5 * h + 4)) :: rest)) :=
  wd_get (f := fun i => cX G (σ i) i) hx hb (C := RX0) (T := TX0) (N := 7) (ci := 0) hown hW.2.2.2.1 hW.2.1 hW.1 (i := 5 * h + 4) (by omega) (cX_h hh) rfl inX0 1 (by decide) (q := 121) (by decide +kernel) rfl hdg kk
theorem rd_X0_38 {p : Program} {l : Launch} {e : Env} {R : Room} {s : State} {m : MethodId} {args : Array Value} {below : List Frame} {meth : Method} {c : Code} {H : Heap} {locs : List Loc} {cells slots : Nat} {Q : State → Prop} {cc : ByteArray} {pc : Nat} {ls : Array Slot} {rest : List Value} {G : Gam} {σ : St} (hx : p.tables.exec = Jvm.exec) (hb : c.code = cc) (hown : s.vm.findClass RX0 = some m.cls) (hW : WX G σ s H) {h : Nat} (hh : h < 2) (hdg : decode cc pc = .ok (.getfield 38, 3)) (kk : W p l e R s m args below meth c H locs cells slots Q (F0 m (pc + 3) ls (.int (σ (5 * h + 4) 6) :: rest))) : W p l e R s m args below meth c H locs cells slots Q (F0 m pc ls (.ref (ga G (5 * h + 4)) :: rest)) :=
  wd_get (f := fun i => cX G (σ i) i) hx hb (C := RX0) (T := TX0) (N := 7) (ci := 0) hown hW.2.2.2.1 hW.2.1 hW.1 (i := 5 * h + 4) (by omega) (cX_h hh) rfl inX0 6 (by decide) (q := 129) (by decide +kernel) rfl hdg kk
theorem wr_X0_38 {p : Program} {l : Launch} {e : Env} {R : Room} {s : State} {m : MethodId} {args : Array Value} {below : List Frame} {meth : Method} {c : Code} {H : Heap} {locs : List Loc} {cells slots : Nat} {Q : State → Prop} {cc : ByteArray} {pc : Nat} {ls : Array Slot} {rest : List Value} {G : Gam} {σ : St} {H0 : Heap} {v : Int32} (hx : p.tables.exec = Jvm.exec) (hb : c.code = cc) (hown : s.vm.findClass RX0 = some m.cls) (hW : WX G σ s H) (hS : va_S (aX G) H0 H locs) {h : Nat} (hh : h < 2) (hdg : decode cc pc = .ok (.putfield 38, 3)) (kk : ∀ (H1 : Heap) (locs1 : List Loc), WX G (up2 σ (5 * h + 4) 6 v) s H1 → va_S (aX G) H0 H1 locs1 → W p l e R s m args below meth c H1 locs1 cells slots Q (F0 m (pc + 3) ls rest)) : W p l e R s m args below meth c H locs cells slots Q (F0 m pc ls (.int v :: .ref (ga G (5 * h + 4)) :: rest)) :=
  wd_put (f := fun i => cX G (σ i) i) (g := fun i => cX G (up2 σ (5 * h + 4) 6 v i) i) hx hb (C := RX0) (T := TX0) (N := 7) (ci := 0) tyX0 tyX0_ok nmX0 hown hW.2.2.2.1 hW.2.1 hW.2.2.1 hW.1 hS (i := 5 * h + 4) (by omega) (cX_h hh) rfl inX0 6 (by decide) (q := 129) (by decide +kernel) rfl (ty := .int) (v := .int v) (by decide +kernel) rfl rfl (Nat.le_of_ble_eq_true rfl) (by show cX G (up2 σ (5 * h + 4) 6 v (5 * h + 4)) (5 * h + 4) = _; rw [up2_row, cX_h hh]; rfl) (fun j9 _ hne => by show cX G (up2 σ (5 * h + 4) 6 v j9) j9 = cX G (σ j9) j9; rw [up2_ne hne]) hdg (fun H1 locs1 h1 h2 => kk H1 locs1 ⟨h1, hW.2⟩ h2)
theorem rd_X0_25 {p : Program} {l : Launch} {e : Env} {R : Room} {s : State} {m : MethodId} {args : Array Value} {below : List Frame} {meth : Method} {c : Code} {H : Heap} {locs : List Loc} {cells slots : Nat} {Q : State → Prop} {cc : ByteArray} {pc : Nat} {ls : Array Slot} {rest : List Value} {G : Gam} {σ : St} (hx : p.tables.exec = Jvm.exec) (hb : c.code = cc) (hown : s.vm.findClass RX0 = some m.cls) (hW : WX G σ s H) {h : Nat} (hh : h < 2) (hdg : decode cc pc = .ok (.getfield 25, 3)) (kk : W p l e R s m args below meth c H locs cells slots Q (F0 m (pc + 3) ls (.ref (ga G (5 * h + 8)) :: rest))) : W p l e R s m args below meth c H locs cells slots Q (F0 m pc ls (.ref (ga G (5 * h + 4)) :: rest)) :=
  wd_get (f := fun i => cX G (σ i) i) hx hb (C := RX0) (T := TX0) (N := 7) (ci := 0) hown hW.2.2.2.1 hW.2.1 hW.1 (i := 5 * h + 4) (by omega) (cX_h hh) rfl inX0 3 (by decide) (q := 124) (by decide +kernel) rfl hdg kk
theorem rd_X0_22 {p : Program} {l : Launch} {e : Env} {R : Room} {s : State} {m : MethodId} {args : Array Value} {below : List Frame} {meth : Method} {c : Code} {H : Heap} {locs : List Loc} {cells slots : Nat} {Q : State → Prop} {cc : ByteArray} {pc : Nat} {ls : Array Slot} {rest : List Value} {G : Gam} {σ : St} (hx : p.tables.exec = Jvm.exec) (hb : c.code = cc) (hown : s.vm.findClass RX0 = some m.cls) (hW : WX G σ s H) {h : Nat} (hh : h < 2) (hdg : decode cc pc = .ok (.getfield 22, 3)) (kk : W p l e R s m args below meth c H locs cells slots Q (F0 m (pc + 3) ls (.ref (ga G (5 * h + 7)) :: rest))) : W p l e R s m args below meth c H locs cells slots Q (F0 m pc ls (.ref (ga G (5 * h + 4)) :: rest)) :=
  wd_get (f := fun i => cX G (σ i) i) hx hb (C := RX0) (T := TX0) (N := 7) (ci := 0) hown hW.2.2.2.1 hW.2.1 hW.1 (i := 5 * h + 4) (by omega) (cX_h hh) rfl inX0 2 (by decide) (q := 123) (by decide +kernel) rfl hdg kk
theorem rd_X0_31 {p : Program} {l : Launch} {e : Env} {R : Room} {s : State} {m : MethodId} {args : Array Value} {below : List Frame} {meth : Method} {c : Code} {H : Heap} {locs : List Loc} {cells slots : Nat} {Q : State → Prop} {cc : ByteArray} {pc : Nat} {ls : Array Slot} {rest : List Value} {G : Gam} {σ : St} (hx : p.tables.exec = Jvm.exec) (hb : c.code = cc) (hown : s.vm.findClass RX0 = some m.cls) (hW : WX G σ s H) {h : Nat} (hh : h < 2) (hdg : decode cc pc = .ok (.getfield 31, 3)) (kk : W p l e R s m args below meth c H locs cells slots Q (F0 m (pc + 3) ls (.int (σ (5 * h + 4) 4) :: rest))) : W p l e R s m args below meth c H locs cells slots Q (F0 m pc ls (.ref (ga G (5 * h + 4)) :: rest)) :=
  wd_get (f := fun i => cX G (σ i) i) hx hb (C := RX0) (T := TX0) (N := 7) (ci := 0) hown hW.2.2.2.1 hW.2.1 hW.1 (i := 5 * h + 4) (by omega) (cX_h hh) rfl inX0 4 (by decide) (q := 125) (by decide +kernel) rfl hdg kk
theorem wr_X0_31 {p : Program} {l : Launch} {e : Env} {R : Room} {s : State} {m : MethodId} {args : Array Value} {below : List Frame} {meth : Method} {c : Code} {H : Heap} {locs : List Loc} {cells slots : Nat} {Q : State → Prop} {cc : ByteArray} {pc : Nat} {ls : Array Slot} {rest : List Value} {G : Gam} {σ : St} {H0 : Heap} {v : Int32} (hx : p.tables.exec = Jvm.exec) (hb : c.code = cc) (hown : s.vm.findClass RX0 = some m.cls) (hW : WX G σ s H) (hS : va_S (aX G) H0 H locs) {h : Nat} (hh : h < 2) (hdg : decode cc pc = .ok (.putfield 31, 3)) (kk : ∀ (H1 : Heap) (locs1 : List Loc), WX G (up2 σ (5 * h + 4) 4 v) s H1 → va_S (aX G) H0 H1 locs1 → W p l e R s m args below meth c H1 locs1 cells slots Q (F0 m (pc + 3) ls rest)) : W p l e R s m args below meth c H locs cells slots Q (F0 m pc ls (.int v :: .ref (ga G (5 * h + 4)) :: rest)) :=
  wd_put (f := fun i => cX G (σ i) i) (g := fun i => cX G (up2 σ (5 * h + 4) 4 v i) i) hx hb (C := RX0) (T := TX0) (N := 7) (ci := 0) tyX0 tyX0_ok nmX0 hown hW.2.2.2.1 hW.2.1 hW.2.2.1 hW.1 hS (i := 5 * h + 4) (by omega) (cX_h hh) rfl inX0 4 (by decide) (q := 125) (by decide +kernel) rfl (ty := .int) (v := .int v) (by decide +kernel) rfl rfl (Nat.le_of_ble_eq_true rfl) (by show cX G (up2 σ (5 * h + 4) 4 v (5 * h + 4)) (5 * h + 4) = _; rw [up2_row, cX_h hh]; rfl) (fun j9 _ hne => by show cX G (up2 σ (5 * h + 4) 4 v j9) j9 = cX G (σ j9) j9; rw [up2_ne hne]) hdg (fun H1 locs1 h1 h2 => kk H1 locs1 ⟨h1, hW.2⟩ h2)
theorem rd_X0_11 {p : Program} {l : Launch} {e : Env} {R : Room} {s : State} {m : MethodId} {args : Array Value} {below : List Frame} {meth : Method} {c : Code} {H : Heap} {locs : List Loc} {cells slots : Nat} {Q : State → Prop} {cc : ByteArray} {pc : Nat} {ls : Array Slot} {rest : List Value} {G : Gam} {σ : St} (hx : p.tables.exec = Jvm.exec) (hb : c.code = cc) (hown : s.vm.findClass RX0 = some m.cls) (hW : WX G σ s H) {h : Nat} (hh : h < 2) (hdg : decode cc pc = .ok (.getfield 11, 3)) (kk : W p l e R s m args below meth c H locs cells slots Q (F0 m (pc + 3) ls (.ref (ga G (5 * h + 5)) :: rest))) : W p l e R s m args below meth c H locs cells slots Q (F0 m pc ls (.ref (ga G (5 * h + 4)) :: rest)) :=
  wd_get (f := fun i => cX G (σ i) i) hx hb (C := RX0) (T := TX0) (N := 7) (ci := 0) hown hW.2.2.2.1 hW.2.1 hW.1 (i := 5 * h + 4) (by omega) (cX_h hh) rfl inX0 0 (by decide) (q := 119) (by decide +kernel) rfl hdg kk
theorem rd_X1_15 {p : Program} {l : Launch} {e : Env} {R : Room} {s : State} {m : MethodId} {args : Array Value} {below : List Frame} {meth : Method} {c : Code} {H : Heap} {locs : List Loc} {cells slots : Nat} {Q : State → Prop} {cc : ByteArray} {pc : Nat} {ls : Array Slot} {rest : List Value} {G : Gam} {σ : St} (hx : p.tables.exec = Jvm.exec) (hb : c.code = cc) (hown : s.vm.findClass RX1 = some m.cls) (hW : WX G σ s H)  (hdg : decode cc pc = .ok (.getfield 15, 3)) (kk : W p l e R s m args below meth c H locs cells slots Q (F0 m (pc + 3) ls (.int (σ (1) 1) :: rest))) : W p l e R s m args below meth c H locs cells slots Q (F0 m pc ls (.ref (ga G (1)) :: rest)) :=
  wd_get (f := fun i => cX G (σ i) i) hx hb (C := RX1) (T := TX1) (N := 2) (ci := 1) hown hW.2.2.2.1 hW.2.1 hW.1 (i := 1) (by omega) (cX_1) rfl inX1 1 (by decide) (q := 66) (by decide +kernel) rfl hdg kk
theorem wr_X1_15 {p : Program} {l : Launch} {e : Env} {R : Room} {s : State} {m : MethodId} {args : Array Value} {below : List Frame} {meth : Method} {c : Code} {H : Heap} {locs : List Loc} {cells slots : Nat} {Q : State → Prop} {cc : ByteArray} {pc : Nat} {ls : Array Slot} {rest : List Value} {G : Gam} {σ : St} {H0 : Heap} {v : Int32} (hx : p.tables.exec = Jvm.exec) (hb : c.code = cc) (hown : s.vm.findClass RX1 = some m.cls) (hW : WX G σ s H) (hS : va_S (aX G) H0 H locs)  (hdg : decode cc pc = .ok (.putfield 15, 3)) (kk : ∀ (H1 : Heap) (locs1 : List Loc), WX G (up2 σ (1) 1 v) s H1 → va_S (aX G) H0 H1 locs1 → W p l e R s m args below meth c H1 locs1 cells slots Q (F0 m (pc + 3) ls rest)) : W p l e R s m args below meth c H locs cells slots Q (F0 m pc ls (.int v :: .ref (ga G (1)) :: rest)) :=
  wd_put (f := fun i => cX G (σ i) i) (g := fun i => cX G (up2 σ (1) 1 v i) i) hx hb (C := RX1) (T := TX1) (N := 2) (ci := 1) tyX1 tyX1_ok nmX1 hown hW.2.2.2.1 hW.2.1 hW.2.2.1 hW.1 hS (i := 1) (by omega) (cX_1) rfl inX1 1 (by decide) (q := 66) (by decide +kernel) rfl (ty := .int) (v := .int v) (by decide +kernel) rfl rfl (Nat.le_of_ble_eq_true rfl) (by show cX G (up2 σ (1) 1 v (1)) (1) = _; rw [up2_row, cX_1]; rfl) (fun j9 _ hne => by show cX G (up2 σ (1) 1 v j9) j9 = cX G (σ j9) j9; rw [up2_ne hne]) hdg (fun H1 locs1 h1 h2 => kk H1 locs1 ⟨h1, hW.2⟩ h2)
theorem rd_X1_9 {p : Program} {l : Launch} {e : Env} {R : Room} {s : State} {m : MethodId} {args : Array Value} {below : List Frame} {meth : Method} {c : Code} {H : Heap} {locs : List Loc} {cells slots : Nat} {Q : State → Prop} {cc : ByteArray} {pc : Nat} {ls : Array Slot} {rest : List Value} {G : Gam} {σ : St} (hx : p.tables.exec = Jvm.exec) (hb : c.code = cc) (hown : s.vm.findClass RX1 = some m.cls) (hW : WX G σ s H)  (hdg : decode cc pc = .ok (.getfield 9, 3)) (kk : W p l e R s m args below meth c H locs cells slots Q (F0 m (pc + 3) ls (.ref (ga G (2)) :: rest))) : W p l e R s m args below meth c H locs cells slots Q (F0 m pc ls (.ref (ga G (1)) :: rest)) :=
  wd_get (f := fun i => cX G (σ i) i) hx hb (C := RX1) (T := TX1) (N := 2) (ci := 1) hown hW.2.2.2.1 hW.2.1 hW.1 (i := 1) (by omega) (cX_1) rfl inX1 0 (by decide) (q := 64) (by decide +kernel) rfl hdg kk
theorem rd_X2_15 {p : Program} {l : Launch} {e : Env} {R : Room} {s : State} {m : MethodId} {args : Array Value} {below : List Frame} {meth : Method} {c : Code} {H : Heap} {locs : List Loc} {cells slots : Nat} {Q : State → Prop} {cc : ByteArray} {pc : Nat} {ls : Array Slot} {rest : List Value} {G : Gam} {σ : St} (hx : p.tables.exec = Jvm.exec) (hb : c.code = cc) (hown : s.vm.findClass RX2 = some m.cls) (hW : WX G σ s H) {j : Nat} (hj : j < 12) (hdg : decode cc pc = .ok (.getfield 15, 3)) (kk : W p l e R s m args below meth c H locs cells slots Q (F0 m (pc + 3) ls (.int (σ (3 * j + 14) 1) :: rest))) : W p l e R s m args below meth c H locs cells slots Q (F0 m pc ls (.ref (ga G (3 * j + 14)) :: rest)) :=
  wd_get (f := fun i => cX G (σ i) i) hx hb (C := RX2) (T := TX2) (N := 6) (ci := 2) hown hW.2.2.2.1 hW.2.1 hW.1 (i := 3 * j + 14) (by omega) (cX_s hj) rfl inX2 1 (by decide) (q := 90) (by decide +kernel) rfl hdg kk
theorem wr_X2_15 {p : Program} {l : Launch} {e : Env} {R : Room} {s : State} {m : MethodId} {args : Array Value} {below : List Frame} {meth : Method} {c : Code} {H : Heap} {locs : List Loc} {cells slots : Nat} {Q : State → Prop} {cc : ByteArray} {pc : Nat} {ls : Array Slot} {rest : List Value} {G : Gam} {σ : St} {H0 : Heap} {v : Int32} (hx : p.tables.exec = Jvm.exec) (hb : c.code = cc) (hown : s.vm.findClass RX2 = some m.cls) (hW : WX G σ s H) (hS : va_S (aX G) H0 H locs) {j : Nat} (hj : j < 12) (hdg : decode cc pc = .ok (.putfield 15, 3)) (kk : ∀ (H1 : Heap) (locs1 : List Loc), WX G (up2 σ (3 * j + 14) 1 v) s H1 → va_S (aX G) H0 H1 locs1 → W p l e R s m args below meth c H1 locs1 cells slots Q (F0 m (pc + 3) ls rest)) : W p l e R s m args below meth c H locs cells slots Q (F0 m pc ls (.int v :: .ref (ga G (3 * j + 14)) :: rest)) :=
  wd_put (f := fun i => cX G (σ i) i) (g := fun i => cX G (up2 σ (3 * j + 14) 1 v i) i) hx hb (C := RX2) (T := TX2) (N := 6) (ci := 2) tyX2 tyX2_ok nmX2 hown hW.2.2.2.1 hW.2.1 hW.2.2.1 hW.1 hS (i := 3 * j + 14) (by omega) (cX_s hj) rfl inX2 1 (by decide) (q := 90) (by decide +kernel) rfl (ty := .int) (v := .int v) (by decide +kernel) rfl rfl (Nat.le_of_ble_eq_true rfl) (by show cX G (up2 σ (3 * j + 14) 1 v (3 * j + 14)) (3 * j + 14) = _; rw [up2_row, cX_s hj]; rfl) (fun j9 _ hne => by show cX G (up2 σ (3 * j + 14) 1 v j9) j9 = cX G (σ j9) j9; rw [up2_ne hne]) hdg (fun H1 locs1 h1 h2 => kk H1 locs1 ⟨h1, hW.2⟩ h2)
theorem rd_X2_9 {p : Program} {l : Launch} {e : Env} {R : Room} {s : State} {m : MethodId} {args : Array Value} {below : List Frame} {meth : Method} {c : Code} {H : Heap} {locs : List Loc} {cells slots : Nat} {Q : State → Prop} {cc : ByteArray} {pc : Nat} {ls : Array Slot} {rest : List Value} {G : Gam} {σ : St} (hx : p.tables.exec = Jvm.exec) (hb : c.code = cc) (hown : s.vm.findClass RX2 = some m.cls) (hW : WX G σ s H) {j : Nat} (hj : j < 12) (hdg : decode cc pc = .ok (.getfield 9, 3)) (kk : W p l e R s m args below meth c H locs cells slots Q (F0 m (pc + 3) ls (.int (σ (3 * j + 14) 0) :: rest))) : W p l e R s m args below meth c H locs cells slots Q (F0 m pc ls (.ref (ga G (3 * j + 14)) :: rest)) :=
  wd_get (f := fun i => cX G (σ i) i) hx hb (C := RX2) (T := TX2) (N := 6) (ci := 2) hown hW.2.2.2.1 hW.2.1 hW.1 (i := 3 * j + 14) (by omega) (cX_s hj) rfl inX2 0 (by decide) (q := 87) (by decide +kernel) rfl hdg kk
theorem wr_X2_9 {p : Program} {l : Launch} {e : Env} {R : Room} {s : State} {m : MethodId} {args : Array Value} {below : List Frame} {meth : Method} {c : Code} {H : Heap} {locs : List Loc} {cells slots : Nat} {Q : State → Prop} {cc : ByteArray} {pc : Nat} {ls : Array Slot} {rest : List Value} {G : Gam} {σ : St} {H0 : Heap} {v : Int32} (hx : p.tables.exec = Jvm.exec) (hb : c.code = cc) (hown : s.vm.findClass RX2 = some m.cls) (hW : WX G σ s H) (hS : va_S (aX G) H0 H locs) {j : Nat} (hj : j < 12) (hdg : decode cc pc = .ok (.putfield 9, 3)) (kk : ∀ (H1 : Heap) (locs1 : List Loc), WX G (up2 σ (3 * j + 14) 0 v) s H1 → va_S (aX G) H0 H1 locs1 → W p l e R s m args below meth c H1 locs1 cells slots Q (F0 m (pc + 3) ls rest)) : W p l e R s m args below meth c H locs cells slots Q (F0 m pc ls (.int v :: .ref (ga G (3 * j + 14)) :: rest)) :=
  wd_put (f := fun i => cX G (σ i) i) (g := fun i => cX G (up2 σ (3 * j + 14) 0 v i) i) hx hb (C := RX2) (T := TX2) (N := 6) (ci := 2) tyX2 tyX2_ok nmX2 hown hW.2.2.2.1 hW.2.1 hW.2.2.1 hW.1 hS (i := 3 * j + 14) (by omega) (cX_s hj) rfl inX2 0 (by decide) (q := 87) (by decide +kernel) rfl (ty := .int) (v := .int v) (by decide +kernel) rfl rfl (Nat.le_of_ble_eq_true rfl) (by show cX G (up2 σ (3 * j + 14) 0 v (3 * j + 14)) (3 * j + 14) = _; rw [up2_row, cX_s hj]; rfl) (fun j9 _ hne => by show cX G (up2 σ (3 * j + 14) 0 v j9) j9 = cX G (σ j9) j9; rw [up2_ne hne]) hdg (fun H1 locs1 h1 h2 => kk H1 locs1 ⟨h1, hW.2⟩ h2)
theorem rd_X2_28 {p : Program} {l : Launch} {e : Env} {R : Room} {s : State} {m : MethodId} {args : Array Value} {below : List Frame} {meth : Method} {c : Code} {H : Heap} {locs : List Loc} {cells slots : Nat} {Q : State → Prop} {cc : ByteArray} {pc : Nat} {ls : Array Slot} {rest : List Value} {G : Gam} {σ : St} (hx : p.tables.exec = Jvm.exec) (hb : c.code = cc) (hown : s.vm.findClass RX2 = some m.cls) (hW : WX G σ s H) {j : Nat} (hj : j < 12) (hdg : decode cc pc = .ok (.getfield 28, 3)) (kk : W p l e R s m args below meth c H locs cells slots Q (F0 m (pc + 3) ls (.int (σ (3 * j + 14) 5) :: rest))) : W p l e R s m args below meth c H locs cells slots Q (F0 m pc ls (.ref (ga G (3 * j + 14)) :: rest)) :=
  wd_get (f := fun i => cX G (σ i) i) hx hb (C := RX2) (T := TX2) (N := 6) (ci := 2) hown hW.2.2.2.1 hW.2.1 hW.1 (i := 3 * j + 14) (by omega) (cX_s hj) rfl inX2 5 (by decide) (q := 98) (by decide +kernel) rfl hdg kk
theorem wr_X2_28 {p : Program} {l : Launch} {e : Env} {R : Room} {s : State} {m : MethodId} {args : Array Value} {below : List Frame} {meth : Method} {c : Code} {H : Heap} {locs : List Loc} {cells slots : Nat} {Q : State → Prop} {cc : ByteArray} {pc : Nat} {ls : Array Slot} {rest : List Value} {G : Gam} {σ : St} {H0 : Heap} {v : Int32} (hx : p.tables.exec = Jvm.exec) (hb : c.code = cc) (hown : s.vm.findClass RX2 = some m.cls) (hW : WX G σ s H) (hS : va_S (aX G) H0 H locs) {j : Nat} (hj : j < 12) (hdg : decode cc pc = .ok (.putfield 28, 3)) (kk : ∀ (H1 : Heap) (locs1 : List Loc), WX G (up2 σ (3 * j + 14) 5 v) s H1 → va_S (aX G) H0 H1 locs1 → W p l e R s m args below meth c H1 locs1 cells slots Q (F0 m (pc + 3) ls rest)) : W p l e R s m args below meth c H locs cells slots Q (F0 m pc ls (.int v :: .ref (ga G (3 * j + 14)) :: rest)) :=
  wd_put (f := fun i => cX G (σ i) i) (g := fun i => cX G (up2 σ (3 * j + 14) 5 v i) i) hx hb (C := RX2) (T := TX2) (N := 6) (ci := 2) tyX2 tyX2_ok nmX2 hown hW.2.2.2.1 hW.2.1 hW.2.2.1 hW.1 hS (i := 3 * j + 14) (by omega) (cX_s hj) rfl inX2 5 (by decide) (q := 98) (by decide +kernel) rfl (ty := .int) (v := .int v) (by decide +kernel) rfl rfl (Nat.le_of_ble_eq_true rfl) (by show cX G (up2 σ (3 * j + 14) 5 v (3 * j + 14)) (3 * j + 14) = _; rw [up2_row, cX_s hj]; rfl) (fun j9 _ hne => by show cX G (up2 σ (3 * j + 14) 5 v j9) j9 = cX G (σ j9) j9; rw [up2_ne hne]) hdg (fun H1 locs1 h1 h2 => kk H1 locs1 ⟨h1, hW.2⟩ h2)
theorem rd_X2_18 {p : Program} {l : Launch} {e : Env} {R : Room} {s : State} {m : MethodId} {args : Array Value} {below : List Frame} {meth : Method} {c : Code} {H : Heap} {locs : List Loc} {cells slots : Nat} {Q : State → Prop} {cc : ByteArray} {pc : Nat} {ls : Array Slot} {rest : List Value} {G : Gam} {σ : St} (hx : p.tables.exec = Jvm.exec) (hb : c.code = cc) (hown : s.vm.findClass RX2 = some m.cls) (hW : WX G σ s H) {j : Nat} (hj : j < 12) (hdg : decode cc pc = .ok (.getfield 18, 3)) (kk : W p l e R s m args below meth c H locs cells slots Q (F0 m (pc + 3) ls (.int (σ (3 * j + 14) 2) :: rest))) : W p l e R s m args below meth c H locs cells slots Q (F0 m pc ls (.ref (ga G (3 * j + 14)) :: rest)) :=
  wd_get (f := fun i => cX G (σ i) i) hx hb (C := RX2) (T := TX2) (N := 6) (ci := 2) hown hW.2.2.2.1 hW.2.1 hW.1 (i := 3 * j + 14) (by omega) (cX_s hj) rfl inX2 2 (by decide) (q := 92) (by decide +kernel) rfl hdg kk
theorem wr_X2_18 {p : Program} {l : Launch} {e : Env} {R : Room} {s : State} {m : MethodId} {args : Array Value} {below : List Frame} {meth : Method} {c : Code} {H : Heap} {locs : List Loc} {cells slots : Nat} {Q : State → Prop} {cc : ByteArray} {pc : Nat} {ls : Array Slot} {rest : List Value} {G : Gam} {σ : St} {H0 : Heap} {v : Int32} (hx : p.tables.exec = Jvm.exec) (hb : c.code = cc) (hown : s.vm.findClass RX2 = some m.cls) (hW : WX G σ s H) (hS : va_S (aX G) H0 H locs) {j : Nat} (hj : j < 12) (hdg : decode cc pc = .ok (.putfield 18, 3)) (kk : ∀ (H1 : Heap) (locs1 : List Loc), WX G (up2 σ (3 * j + 14) 2 v) s H1 → va_S (aX G) H0 H1 locs1 → W p l e R s m args below meth c H1 locs1 cells slots Q (F0 m (pc + 3) ls rest)) : W p l e R s m args below meth c H locs cells slots Q (F0 m pc ls (.int v :: .ref (ga G (3 * j + 14)) :: rest)) :=
  wd_put (f := fun i => cX G (σ i) i) (g := fun i => cX G (up2 σ (3 * j + 14) 2 v i) i) hx hb (C := RX2) (T := TX2) (N := 6) (ci := 2) tyX2 tyX2_ok nmX2 hown hW.2.2.2.1 hW.2.1 hW.2.2.1 hW.1 hS (i := 3 * j + 14) (by omega) (cX_s hj) rfl inX2 2 (by decide) (q := 92) (by decide +kernel) rfl (ty := .int) (v := .int v) (by decide +kernel) rfl rfl (Nat.le_of_ble_eq_true rfl) (by show cX G (up2 σ (3 * j + 14) 2 v (3 * j + 14)) (3 * j + 14) = _; rw [up2_row, cX_s hj]; rfl) (fun j9 _ hne => by show cX G (up2 σ (3 * j + 14) 2 v j9) j9 = cX G (σ j9) j9; rw [up2_ne hne]) hdg (fun H1 locs1 h1 h2 => kk H1 locs1 ⟨h1, hW.2⟩ h2)
theorem rd_X2_25 {p : Program} {l : Launch} {e : Env} {R : Room} {s : State} {m : MethodId} {args : Array Value} {below : List Frame} {meth : Method} {c : Code} {H : Heap} {locs : List Loc} {cells slots : Nat} {Q : State → Prop} {cc : ByteArray} {pc : Nat} {ls : Array Slot} {rest : List Value} {G : Gam} {σ : St} (hx : p.tables.exec = Jvm.exec) (hb : c.code = cc) (hown : s.vm.findClass RX2 = some m.cls) (hW : WX G σ s H) {j : Nat} (hj : j < 12) (hdg : decode cc pc = .ok (.getfield 25, 3)) (kk : W p l e R s m args below meth c H locs cells slots Q (F0 m (pc + 3) ls (.ref (ga G (3 * j + 16)) :: rest))) : W p l e R s m args below meth c H locs cells slots Q (F0 m pc ls (.ref (ga G (3 * j + 14)) :: rest)) :=
  wd_get (f := fun i => cX G (σ i) i) hx hb (C := RX2) (T := TX2) (N := 6) (ci := 2) hown hW.2.2.2.1 hW.2.1 hW.1 (i := 3 * j + 14) (by omega) (cX_s hj) rfl inX2 4 (by decide) (q := 96) (by decide +kernel) rfl hdg kk
theorem rd_X2_21 {p : Program} {l : Launch} {e : Env} {R : Room} {s : State} {m : MethodId} {args : Array Value} {below : List Frame} {meth : Method} {c : Code} {H : Heap} {locs : List Loc} {cells slots : Nat} {Q : State → Prop} {cc : ByteArray} {pc : Nat} {ls : Array Slot} {rest : List Value} {G : Gam} {σ : St} (hx : p.tables.exec = Jvm.exec) (hb : c.code = cc) (hown : s.vm.findClass RX2 = some m.cls) (hW : WX G σ s H) {j : Nat} (hj : j < 12) (hdg : decode cc pc = .ok (.getfield 21, 3)) (kk : W p l e R s m args below meth c H locs cells slots Q (F0 m (pc + 3) ls (.ref (ga G (3 * j + 15)) :: rest))) : W p l e R s m args below meth c H locs cells slots Q (F0 m pc ls (.ref (ga G (3 * j + 14)) :: rest)) :=
  wd_get (f := fun i => cX G (σ i) i) hx hb (C := RX2) (T := TX2) (N := 6) (ci := 2) hown hW.2.2.2.1 hW.2.1 hW.1 (i := 3 * j + 14) (by omega) (cX_s hj) rfl inX2 3 (by decide) (q := 95) (by decide +kernel) rfl hdg kk
theorem rd_X4_78 {p : Program} {l : Launch} {e : Env} {R : Room} {s : State} {m : MethodId} {args : Array Value} {below : List Frame} {meth : Method} {c : Code} {H : Heap} {locs : List Loc} {cells slots : Nat} {Q : State → Prop} {cc : ByteArray} {pc : Nat} {ls : Array Slot} {rest : List Value} {G : Gam} {μ : St} {hs : Int64} (hx : p.tables.exec = Jvm.exec) (hb : c.code = cc) (hown : s.vm.findClass RX4 = some m.cls) (hW : WM G μ hs s H)  (hdg : decode cc pc = .ok (.getfield 78, 3)) (kk : W p l e R s m args below meth c H locs cells slots Q (F0 m (pc + 3) ls (.int (μ (0) 6) :: rest))) : W p l e R s m args below meth c H locs cells slots Q (F0 m pc ls (.ref (gm G (0)) :: rest)) :=
  wd_get (f := fun i => cM G hs (μ i) i) hx hb (C := RX4) (T := TX4) (N := 22) (ci := 4) hown hW.2.2.2 hW.2.1 hW.1 (i := 0) (by omega) (cM_0) rfl inX4 6 (by decide) (q := 575) (by decide +kernel) rfl hdg kk
theorem wr_X4_78 {p : Program} {l : Launch} {e : Env} {R : Room} {s : State} {m : MethodId} {args : Array Value} {below : List Frame} {meth : Method} {c : Code} {H : Heap} {locs : List Loc} {cells slots : Nat} {Q : State → Prop} {cc : ByteArray} {pc : Nat} {ls : Array Slot} {rest : List Value} {G : Gam} {μ : St} {hs : Int64} {H0 : Heap} {v : Int32} (hx : p.tables.exec = Jvm.exec) (hb : c.code = cc) (hown : s.vm.findClass RX4 = some m.cls) (hW : WM G μ hs s H) (hS : va_S (aM G) H0 H locs)  (hdg : decode cc pc = .ok (.putfield 78, 3)) (kk : ∀ (H1 : Heap) (locs1 : List Loc), WM G (up2 μ (0) 6 v) hs s H1 → va_S (aM G) H0 H1 locs1 → W p l e R s m args below meth c H1 locs1 cells slots Q (F0 m (pc + 3) ls rest)) : W p l e R s m args below meth c H locs cells slots Q (F0 m pc ls (.int v :: .ref (gm G (0)) :: rest)) :=
  wd_put (f := fun i => cM G hs (μ i) i) (g := fun i => cM G hs (up2 μ (0) 6 v i) i) hx hb (C := RX4) (T := TX4) (N := 22) (ci := 4) tyX4 tyX4_ok nmX4 hown hW.2.2.2 hW.2.1 hW.2.2.1 hW.1 hS (i := 0) (by omega) (cM_0) rfl inX4 6 (by decide) (q := 575) (by decide +kernel) rfl (ty := .int) (v := .int v) (by decide +kernel) rfl rfl (Nat.le_of_ble_eq_true rfl) (by show cM G hs (up2 μ (0) 6 v (0)) (0) = _; rw [up2_row, cM_0]; rfl) (fun j9 _ hne => by show cM G hs (up2 μ (0) 6 v j9) j9 = cM G hs (μ j9) j9; rw [up2_ne hne]) hdg (fun H1 locs1 h1 h2 => kk H1 locs1 ⟨h1, hW.2⟩ h2)
theorem rd_X4_207 {p : Program} {l : Launch} {e : Env} {R : Room} {s : State} {m : MethodId} {args : Array Value} {below : List Frame} {meth : Method} {c : Code} {H : Heap} {locs : List Loc} {cells slots : Nat} {Q : State → Prop} {cc : ByteArray} {pc : Nat} {ls : Array Slot} {rest : List Value} {G : Gam} {μ : St} {hs : Int64} (hx : p.tables.exec = Jvm.exec) (hb : c.code = cc) (hown : s.vm.findClass RX4 = some m.cls) (hW : WM G μ hs s H)  (hdg : decode cc pc = .ok (.getfield 207, 3)) (kk : W p l e R s m args below meth c H locs cells slots Q (F0 m (pc + 3) ls (.long hs :: rest))) : W p l e R s m args below meth c H locs cells slots Q (F0 m pc ls (.ref (gm G (0)) :: rest)) :=
  wd_get (f := fun i => cM G hs (μ i) i) hx hb (C := RX4) (T := TX4) (N := 22) (ci := 4) hown hW.2.2.2 hW.2.1 hW.1 (i := 0) (by omega) (cM_0) rfl inX4 21 (by decide) (q := 590) (by decide +kernel) rfl hdg kk
theorem wr_X4_207 {p : Program} {l : Launch} {e : Env} {R : Room} {s : State} {m : MethodId} {args : Array Value} {below : List Frame} {meth : Method} {c : Code} {H : Heap} {locs : List Loc} {cells slots : Nat} {Q : State → Prop} {cc : ByteArray} {pc : Nat} {ls : Array Slot} {rest : List Value} {G : Gam} {μ : St} {hs : Int64} {H0 : Heap} {v : Int64} (hx : p.tables.exec = Jvm.exec) (hb : c.code = cc) (hown : s.vm.findClass RX4 = some m.cls) (hW : WM G μ hs s H) (hS : va_S (aM G) H0 H locs) (hdg : decode cc pc = .ok (.putfield 207, 3)) (kk : ∀ (H1 : Heap) (locs1 : List Loc), WM G μ v s H1 → va_S (aM G) H0 H1 locs1 → W p l e R s m args below meth c H1 locs1 cells slots Q (F0 m (pc + 3) ls rest)) : W p l e R s m args below meth c H locs cells slots Q (F0 m pc ls (.long v :: .ref (gm G (0)) :: rest)) :=
  wd_put (f := fun i => cM G hs (μ i) i) (g := fun i => cM G v (μ i) i) hx hb (C := RX4) (T := TX4) (N := 22) (ci := 4) tyX4 tyX4_ok nmX4 hown hW.2.2.2 hW.2.1 hW.2.2.1 hW.1 hS (i := 0) (by omega) (cM_0) rfl inX4 21 (by decide) (q := 590) (by decide +kernel) rfl (ty := .long) (v := .long v) (by decide +kernel) rfl rfl (Nat.le_of_ble_eq_true rfl) rfl (fun j9 _ hne => by show cM G v (μ j9) j9 = cM G hs (μ j9) j9; rw [cM_a hne, cM_a hne]) hdg (fun H1 locs1 h1 h2 => kk H1 locs1 ⟨h1, hW.2⟩ h2)
theorem rd_X4_84 {p : Program} {l : Launch} {e : Env} {R : Room} {s : State} {m : MethodId} {args : Array Value} {below : List Frame} {meth : Method} {c : Code} {H : Heap} {locs : List Loc} {cells slots : Nat} {Q : State → Prop} {cc : ByteArray} {pc : Nat} {ls : Array Slot} {rest : List Value} {G : Gam} {μ : St} {hs : Int64} (hx : p.tables.exec = Jvm.exec) (hb : c.code = cc) (hown : s.vm.findClass RX4 = some m.cls) (hW : WM G μ hs s H)  (hdg : decode cc pc = .ok (.getfield 84, 3)) (kk : W p l e R s m args below meth c H locs cells slots Q (F0 m (pc + 3) ls (.int (μ (0) 7) :: rest))) : W p l e R s m args below meth c H locs cells slots Q (F0 m pc ls (.ref (gm G (0)) :: rest)) :=
  wd_get (f := fun i => cM G hs (μ i) i) hx hb (C := RX4) (T := TX4) (N := 22) (ci := 4) hown hW.2.2.2 hW.2.1 hW.1 (i := 0) (by omega) (cM_0) rfl inX4 7 (by decide) (q := 576) (by decide +kernel) rfl hdg kk
theorem wr_X4_84 {p : Program} {l : Launch} {e : Env} {R : Room} {s : State} {m : MethodId} {args : Array Value} {below : List Frame} {meth : Method} {c : Code} {H : Heap} {locs : List Loc} {cells slots : Nat} {Q : State → Prop} {cc : ByteArray} {pc : Nat} {ls : Array Slot} {rest : List Value} {G : Gam} {μ : St} {hs : Int64} {H0 : Heap} {v : Int32} (hx : p.tables.exec = Jvm.exec) (hb : c.code = cc) (hown : s.vm.findClass RX4 = some m.cls) (hW : WM G μ hs s H) (hS : va_S (aM G) H0 H locs)  (hdg : decode cc pc = .ok (.putfield 84, 3)) (kk : ∀ (H1 : Heap) (locs1 : List Loc), WM G (up2 μ (0) 7 v) hs s H1 → va_S (aM G) H0 H1 locs1 → W p l e R s m args below meth c H1 locs1 cells slots Q (F0 m (pc + 3) ls rest)) : W p l e R s m args below meth c H locs cells slots Q (F0 m pc ls (.int v :: .ref (gm G (0)) :: rest)) :=
  wd_put (f := fun i => cM G hs (μ i) i) (g := fun i => cM G hs (up2 μ (0) 7 v i) i) hx hb (C := RX4) (T := TX4) (N := 22) (ci := 4) tyX4 tyX4_ok nmX4 hown hW.2.2.2 hW.2.1 hW.2.2.1 hW.1 hS (i := 0) (by omega) (cM_0) rfl inX4 7 (by decide) (q := 576) (by decide +kernel) rfl (ty := .int) (v := .int v) (by decide +kernel) rfl rfl (Nat.le_of_ble_eq_true rfl) (by show cM G hs (up2 μ (0) 7 v (0)) (0) = _; rw [up2_row, cM_0]; rfl) (fun j9 _ hne => by show cM G hs (up2 μ (0) 7 v j9) j9 = cM G hs (μ j9) j9; rw [up2_ne hne]) hdg (fun H1 locs1 h1 h2 => kk H1 locs1 ⟨h1, hW.2⟩ h2)
theorem rd_X4_193 {p : Program} {l : Launch} {e : Env} {R : Room} {s : State} {m : MethodId} {args : Array Value} {below : List Frame} {meth : Method} {c : Code} {H : Heap} {locs : List Loc} {cells slots : Nat} {Q : State → Prop} {cc : ByteArray} {pc : Nat} {ls : Array Slot} {rest : List Value} {G : Gam} {μ : St} {hs : Int64} (hx : p.tables.exec = Jvm.exec) (hb : c.code = cc) (hown : s.vm.findClass RX4 = some m.cls) (hW : WM G μ hs s H)  (hdg : decode cc pc = .ok (.getfield 193, 3)) (kk : W p l e R s m args below meth c H locs cells slots Q (F0 m (pc + 3) ls (.int (μ (0) 17) :: rest))) : W p l e R s m args below meth c H locs cells slots Q (F0 m pc ls (.ref (gm G (0)) :: rest)) :=
  wd_get (f := fun i => cM G hs (μ i) i) hx hb (C := RX4) (T := TX4) (N := 22) (ci := 4) hown hW.2.2.2 hW.2.1 hW.1 (i := 0) (by omega) (cM_0) rfl inX4 17 (by decide) (q := 586) (by decide +kernel) rfl hdg kk
theorem wr_X4_193 {p : Program} {l : Launch} {e : Env} {R : Room} {s : State} {m : MethodId} {args : Array Value} {below : List Frame} {meth : Method} {c : Code} {H : Heap} {locs : List Loc} {cells slots : Nat} {Q : State → Prop} {cc : ByteArray} {pc : Nat} {ls : Array Slot} {rest : List Value} {G : Gam} {μ : St} {hs : Int64} {H0 : Heap} {v : Int32} (hx : p.tables.exec = Jvm.exec) (hb : c.code = cc) (hown : s.vm.findClass RX4 = some m.cls) (hW : WM G μ hs s H) (hS : va_S (aM G) H0 H locs)  (hdg : decode cc pc = .ok (.putfield 193, 3)) (kk : ∀ (H1 : Heap) (locs1 : List Loc), WM G (up2 μ (0) 17 v) hs s H1 → va_S (aM G) H0 H1 locs1 → W p l e R s m args below meth c H1 locs1 cells slots Q (F0 m (pc + 3) ls rest)) : W p l e R s m args below meth c H locs cells slots Q (F0 m pc ls (.int v :: .ref (gm G (0)) :: rest)) :=
  wd_put (f := fun i => cM G hs (μ i) i) (g := fun i => cM G hs (up2 μ (0) 17 v i) i) hx hb (C := RX4) (T := TX4) (N := 22) (ci := 4) tyX4 tyX4_ok nmX4 hown hW.2.2.2 hW.2.1 hW.2.2.1 hW.1 hS (i := 0) (by omega) (cM_0) rfl inX4 17 (by decide) (q := 586) (by decide +kernel) rfl (ty := .int) (v := .int v) (by decide +kernel) rfl rfl (Nat.le_of_ble_eq_true rfl) (by show cM G hs (up2 μ (0) 17 v (0)) (0) = _; rw [up2_row, cM_0]; rfl) (fun j9 _ hne => by show cM G hs (up2 μ (0) 17 v j9) j9 = cM G hs (μ j9) j9; rw [up2_ne hne]) hdg (fun H1 locs1 h1 h2 => kk H1 locs1 ⟨h1, hW.2⟩ h2)
theorem rd_X4_37 {p : Program} {l : Launch} {e : Env} {R : Room} {s : State} {m : MethodId} {args : Array Value} {below : List Frame} {meth : Method} {c : Code} {H : Heap} {locs : List Loc} {cells slots : Nat} {Q : State → Prop} {cc : ByteArray} {pc : Nat} {ls : Array Slot} {rest : List Value} {G : Gam} {μ : St} {hs : Int64} (hx : p.tables.exec = Jvm.exec) (hb : c.code = cc) (hown : s.vm.findClass RX4 = some m.cls) (hW : WM G μ hs s H)  (hdg : decode cc pc = .ok (.getfield 37, 3)) (kk : W p l e R s m args below meth c H locs cells slots Q (F0 m (pc + 3) ls (.int (μ (0) 15) :: rest))) : W p l e R s m args below meth c H locs cells slots Q (F0 m pc ls (.ref (gm G (0)) :: rest)) :=
  wd_get (f := fun i => cM G hs (μ i) i) hx hb (C := RX4) (T := TX4) (N := 22) (ci := 4) hown hW.2.2.2 hW.2.1 hW.1 (i := 0) (by omega) (cM_0) rfl inX4 15 (by decide) (q := 584) (by decide +kernel) rfl hdg kk
theorem wr_X4_37 {p : Program} {l : Launch} {e : Env} {R : Room} {s : State} {m : MethodId} {args : Array Value} {below : List Frame} {meth : Method} {c : Code} {H : Heap} {locs : List Loc} {cells slots : Nat} {Q : State → Prop} {cc : ByteArray} {pc : Nat} {ls : Array Slot} {rest : List Value} {G : Gam} {μ : St} {hs : Int64} {H0 : Heap} {v : Int32} (hx : p.tables.exec = Jvm.exec) (hb : c.code = cc) (hown : s.vm.findClass RX4 = some m.cls) (hW : WM G μ hs s H) (hS : va_S (aM G) H0 H locs)  (hdg : decode cc pc = .ok (.putfield 37, 3)) (kk : ∀ (H1 : Heap) (locs1 : List Loc), WM G (up2 μ (0) 15 v) hs s H1 → va_S (aM G) H0 H1 locs1 → W p l e R s m args below meth c H1 locs1 cells slots Q (F0 m (pc + 3) ls rest)) : W p l e R s m args below meth c H locs cells slots Q (F0 m pc ls (.int v :: .ref (gm G (0)) :: rest)) :=
  wd_put (f := fun i => cM G hs (μ i) i) (g := fun i => cM G hs (up2 μ (0) 15 v i) i) hx hb (C := RX4) (T := TX4) (N := 22) (ci := 4) tyX4 tyX4_ok nmX4 hown hW.2.2.2 hW.2.1 hW.2.2.1 hW.1 hS (i := 0) (by omega) (cM_0) rfl inX4 15 (by decide) (q := 584) (by decide +kernel) rfl (ty := .int) (v := .int v) (by decide +kernel) rfl rfl (Nat.le_of_ble_eq_true rfl) (by show cM G hs (up2 μ (0) 15 v (0)) (0) = _; rw [up2_row, cM_0]; rfl) (fun j9 _ hne => by show cM G hs (up2 μ (0) 15 v j9) j9 = cM G hs (μ j9) j9; rw [up2_ne hne]) hdg (fun H1 locs1 h1 h2 => kk H1 locs1 ⟨h1, hW.2⟩ h2)
theorem rd_X4_31 {p : Program} {l : Launch} {e : Env} {R : Room} {s : State} {m : MethodId} {args : Array Value} {below : List Frame} {meth : Method} {c : Code} {H : Heap} {locs : List Loc} {cells slots : Nat} {Q : State → Prop} {cc : ByteArray} {pc : Nat} {ls : Array Slot} {rest : List Value} {G : Gam} {μ : St} {hs : Int64} (hx : p.tables.exec = Jvm.exec) (hb : c.code = cc) (hown : s.vm.findClass RX4 = some m.cls) (hW : WM G μ hs s H)  (hdg : decode cc pc = .ok (.getfield 31, 3)) (kk : W p l e R s m args below meth c H locs cells slots Q (F0 m (pc + 3) ls (.ref (gm G (8)) :: rest))) : W p l e R s m args below meth c H locs cells slots Q (F0 m pc ls (.ref (gm G (0)) :: rest)) :=
  wd_get (f := fun i => cM G hs (μ i) i) hx hb (C := RX4) (T := TX4) (N := 22) (ci := 4) hown hW.2.2.2 hW.2.1 hW.1 (i := 0) (by omega) (cM_0) rfl inX4 19 (by decide) (q := 588) (by decide +kernel) rfl hdg kk
theorem rd_X4_196 {p : Program} {l : Launch} {e : Env} {R : Room} {s : State} {m : MethodId} {args : Array Value} {below : List Frame} {meth : Method} {c : Code} {H : Heap} {locs : List Loc} {cells slots : Nat} {Q : State → Prop} {cc : ByteArray} {pc : Nat} {ls : Array Slot} {rest : List Value} {G : Gam} {μ : St} {hs : Int64} (hx : p.tables.exec = Jvm.exec) (hb : c.code = cc) (hown : s.vm.findClass RX4 = some m.cls) (hW : WM G μ hs s H)  (hdg : decode cc pc = .ok (.getfield 196, 3)) (kk : W p l e R s m args below meth c H locs cells slots Q (F0 m (pc + 3) ls (.int (μ (0) 18) :: rest))) : W p l e R s m args below meth c H locs cells slots Q (F0 m pc ls (.ref (gm G (0)) :: rest)) :=
  wd_get (f := fun i => cM G hs (μ i) i) hx hb (C := RX4) (T := TX4) (N := 22) (ci := 4) hown hW.2.2.2 hW.2.1 hW.1 (i := 0) (by omega) (cM_0) rfl inX4 18 (by decide) (q := 587) (by decide +kernel) rfl hdg kk
theorem wr_X4_196 {p : Program} {l : Launch} {e : Env} {R : Room} {s : State} {m : MethodId} {args : Array Value} {below : List Frame} {meth : Method} {c : Code} {H : Heap} {locs : List Loc} {cells slots : Nat} {Q : State → Prop} {cc : ByteArray} {pc : Nat} {ls : Array Slot} {rest : List Value} {G : Gam} {μ : St} {hs : Int64} {H0 : Heap} {v : Int32} (hx : p.tables.exec = Jvm.exec) (hb : c.code = cc) (hown : s.vm.findClass RX4 = some m.cls) (hW : WM G μ hs s H) (hS : va_S (aM G) H0 H locs)  (hdg : decode cc pc = .ok (.putfield 196, 3)) (kk : ∀ (H1 : Heap) (locs1 : List Loc), WM G (up2 μ (0) 18 v) hs s H1 → va_S (aM G) H0 H1 locs1 → W p l e R s m args below meth c H1 locs1 cells slots Q (F0 m (pc + 3) ls rest)) : W p l e R s m args below meth c H locs cells slots Q (F0 m pc ls (.int v :: .ref (gm G (0)) :: rest)) :=
  wd_put (f := fun i => cM G hs (μ i) i) (g := fun i => cM G hs (up2 μ (0) 18 v i) i) hx hb (C := RX4) (T := TX4) (N := 22) (ci := 4) tyX4 tyX4_ok nmX4 hown hW.2.2.2 hW.2.1 hW.2.2.1 hW.1 hS (i := 0) (by omega) (cM_0) rfl inX4 18 (by decide) (q := 587) (by decide +kernel) rfl (ty := .int) (v := .int v) (by decide +kernel) rfl rfl (Nat.le_of_ble_eq_true rfl) (by show cM G hs (up2 μ (0) 18 v (0)) (0) = _; rw [up2_row, cM_0]; rfl) (fun j9 _ hne => by show cM G hs (up2 μ (0) 18 v j9) j9 = cM G hs (μ j9) j9; rw [up2_ne hne]) hdg (fun H1 locs1 h1 h2 => kk H1 locs1 ⟨h1, hW.2⟩ h2)
theorem rd_X4_34 {p : Program} {l : Launch} {e : Env} {R : Room} {s : State} {m : MethodId} {args : Array Value} {below : List Frame} {meth : Method} {c : Code} {H : Heap} {locs : List Loc} {cells slots : Nat} {Q : State → Prop} {cc : ByteArray} {pc : Nat} {ls : Array Slot} {rest : List Value} {G : Gam} {μ : St} {hs : Int64} (hx : p.tables.exec = Jvm.exec) (hb : c.code = cc) (hown : s.vm.findClass RX4 = some m.cls) (hW : WM G μ hs s H)  (hdg : decode cc pc = .ok (.getfield 34, 3)) (kk : W p l e R s m args below meth c H locs cells slots Q (F0 m (pc + 3) ls (.ref (gm G (9)) :: rest))) : W p l e R s m args below meth c H locs cells slots Q (F0 m pc ls (.ref (gm G (0)) :: rest)) :=
  wd_get (f := fun i => cM G hs (μ i) i) hx hb (C := RX4) (T := TX4) (N := 22) (ci := 4) hown hW.2.2.2 hW.2.1 hW.1 (i := 0) (by omega) (cM_0) rfl inX4 20 (by decide) (q := 589) (by decide +kernel) rfl hdg kk
theorem rd_X4_190 {p : Program} {l : Launch} {e : Env} {R : Room} {s : State} {m : MethodId} {args : Array Value} {below : List Frame} {meth : Method} {c : Code} {H : Heap} {locs : List Loc} {cells slots : Nat} {Q : State → Prop} {cc : ByteArray} {pc : Nat} {ls : Array Slot} {rest : List Value} {G : Gam} {μ : St} {hs : Int64} (hx : p.tables.exec = Jvm.exec) (hb : c.code = cc) (hown : s.vm.findClass RX4 = some m.cls) (hW : WM G μ hs s H)  (hdg : decode cc pc = .ok (.getfield 190, 3)) (kk : W p l e R s m args below meth c H locs cells slots Q (F0 m (pc + 3) ls (.int (μ (0) 16) :: rest))) : W p l e R s m args below meth c H locs cells slots Q (F0 m pc ls (.ref (gm G (0)) :: rest)) :=
  wd_get (f := fun i => cM G hs (μ i) i) hx hb (C := RX4) (T := TX4) (N := 22) (ci := 4) hown hW.2.2.2 hW.2.1 hW.1 (i := 0) (by omega) (cM_0) rfl inX4 16 (by decide) (q := 585) (by decide +kernel) rfl hdg kk
theorem wr_X4_190 {p : Program} {l : Launch} {e : Env} {R : Room} {s : State} {m : MethodId} {args : Array Value} {below : List Frame} {meth : Method} {c : Code} {H : Heap} {locs : List Loc} {cells slots : Nat} {Q : State → Prop} {cc : ByteArray} {pc : Nat} {ls : Array Slot} {rest : List Value} {G : Gam} {μ : St} {hs : Int64} {H0 : Heap} {v : Int32} (hx : p.tables.exec = Jvm.exec) (hb : c.code = cc) (hown : s.vm.findClass RX4 = some m.cls) (hW : WM G μ hs s H) (hS : va_S (aM G) H0 H locs)  (hdg : decode cc pc = .ok (.putfield 190, 3)) (kk : ∀ (H1 : Heap) (locs1 : List Loc), WM G (up2 μ (0) 16 v) hs s H1 → va_S (aM G) H0 H1 locs1 → W p l e R s m args below meth c H1 locs1 cells slots Q (F0 m (pc + 3) ls rest)) : W p l e R s m args below meth c H locs cells slots Q (F0 m pc ls (.int v :: .ref (gm G (0)) :: rest)) :=
  wd_put (f := fun i => cM G hs (μ i) i) (g := fun i => cM G hs (up2 μ (0) 16 v i) i) hx hb (C := RX4) (T := TX4) (N := 22) (ci := 4) tyX4 tyX4_ok nmX4 hown hW.2.2.2 hW.2.1 hW.2.2.1 hW.1 hS (i := 0) (by omega) (cM_0) rfl inX4 16 (by decide) (q := 585) (by decide +kernel) rfl (ty := .int) (v := .int v) (by decide +kernel) rfl rfl (Nat.le_of_ble_eq_true rfl) (by show cM G hs (up2 μ (0) 16 v (0)) (0) = _; rw [up2_row, cM_0]; rfl) (fun j9 _ hne => by show cM G hs (up2 μ (0) 16 v j9) j9 = cM G hs (μ j9) j9; rw [up2_ne hne]) hdg (fun H1 locs1 h1 h2 => kk H1 locs1 ⟨h1, hW.2⟩ h2)
theorem rd_X4_7 {p : Program} {l : Launch} {e : Env} {R : Room} {s : State} {m : MethodId} {args : Array Value} {below : List Frame} {meth : Method} {c : Code} {H : Heap} {locs : List Loc} {cells slots : Nat} {Q : State → Prop} {cc : ByteArray} {pc : Nat} {ls : Array Slot} {rest : List Value} {G : Gam} {μ : St} {hs : Int64} (hx : p.tables.exec = Jvm.exec) (hb : c.code = cc) (hown : s.vm.findClass RX4 = some m.cls) (hW : WM G μ hs s H)  (hdg : decode cc pc = .ok (.getfield 7, 3)) (kk : W p l e R s m args below meth c H locs cells slots Q (F0 m (pc + 3) ls (.ref (gm G (1)) :: rest))) : W p l e R s m args below meth c H locs cells slots Q (F0 m pc ls (.ref (gm G (0)) :: rest)) :=
  wd_get (f := fun i => cM G hs (μ i) i) hx hb (C := RX4) (T := TX4) (N := 22) (ci := 4) hown hW.2.2.2 hW.2.1 hW.1 (i := 0) (by omega) (cM_0) rfl inX4 0 (by decide) (q := 569) (by decide +kernel) rfl hdg kk
theorem rd_X4_47 {p : Program} {l : Launch} {e : Env} {R : Room} {s : State} {m : MethodId} {args : Array Value} {below : List Frame} {meth : Method} {c : Code} {H : Heap} {locs : List Loc} {cells slots : Nat} {Q : State → Prop} {cc : ByteArray} {pc : Nat} {ls : Array Slot} {rest : List Value} {G : Gam} {μ : St} {hs : Int64} (hx : p.tables.exec = Jvm.exec) (hb : c.code = cc) (hown : s.vm.findClass RX4 = some m.cls) (hW : WM G μ hs s H)  (hdg : decode cc pc = .ok (.getfield 47, 3)) (kk : W p l e R s m args below meth c H locs cells slots Q (F0 m (pc + 3) ls (.int (μ (0) 1) :: rest))) : W p l e R s m args below meth c H locs cells slots Q (F0 m pc ls (.ref (gm G (0)) :: rest)) :=
  wd_get (f := fun i => cM G hs (μ i) i) hx hb (C := RX4) (T := TX4) (N := 22) (ci := 4) hown hW.2.2.2 hW.2.1 hW.1 (i := 0) (by omega) (cM_0) rfl inX4 1 (by decide) (q := 570) (by decide +kernel) rfl hdg kk
theorem wr_X4_47 {p : Program} {l : Launch} {e : Env} {R : Room} {s : State} {m : MethodId} {args : Array Value} {below : List Frame} {meth : Method} {c : Code} {H : Heap} {locs : List Loc} {cells slots : Nat} {Q : State → Prop} {cc : ByteArray} {pc : Nat} {ls : Array Slot} {rest : List Value} {G : Gam} {μ : St} {hs : Int64} {H0 : Heap} {v : Int32} (hx : p.tables.exec = Jvm.exec) (hb : c.code = cc) (hown : s.vm.findClass RX4 = some m.cls) (hW : WM G μ hs s H) (hS : va_S (aM G) H0 H locs)  (hdg : decode cc pc = .ok (.putfield 47, 3)) (kk : ∀ (H1 : Heap) (locs1 : List Loc), WM G (up2 μ (0) 1 v) hs s H1 → va_S (aM G) H0 H1 locs1 → W p l e R s m args below meth c H1 locs1 cells slots Q (F0 m (pc + 3) ls rest)) : W p l e R s m args below meth c H locs cells slots Q (F0 m pc ls (.int v :: .ref (gm G (0)) :: rest)) :=
  wd_put (f := fun i => cM G hs (μ i) i) (g := fun i => cM G hs (up2 μ (0) 1 v i) i) hx hb (C := RX4) (T := TX4) (N := 22) (ci := 4) tyX4 tyX4_ok nmX4 hown hW.2.2.2 hW.2.1 hW.2.2.1 hW.1 hS (i := 0) (by omega) (cM_0) rfl inX4 1 (by decide) (q := 570) (by decide +kernel) rfl (ty := .int) (v := .int v) (by decide +kernel) rfl rfl (Nat.le_of_ble_eq_true rfl) (by show cM G hs (up2 μ (0) 1 v (0)) (0) = _; rw [up2_row, cM_0]; rfl) (fun j9 _ hne => by show cM G hs (up2 μ (0) 1 v j9) j9 = cM G hs (μ j9) j9; rw [up2_ne hne]) hdg (fun H1 locs1 h1 h2 => kk H1 locs1 ⟨h1, hW.2⟩ h2)
theorem rd_X4_25 {p : Program} {l : Launch} {e : Env} {R : Room} {s : State} {m : MethodId} {args : Array Value} {below : List Frame} {meth : Method} {c : Code} {H : Heap} {locs : List Loc} {cells slots : Nat} {Q : State → Prop} {cc : ByteArray} {pc : Nat} {ls : Array Slot} {rest : List Value} {G : Gam} {μ : St} {hs : Int64} (hx : p.tables.exec = Jvm.exec) (hb : c.code = cc) (hown : s.vm.findClass RX4 = some m.cls) (hW : WM G μ hs s H)  (hdg : decode cc pc = .ok (.getfield 25, 3)) (kk : W p l e R s m args below meth c H locs cells slots Q (F0 m (pc + 3) ls (.ref (gm G (6)) :: rest))) : W p l e R s m args below meth c H locs cells slots Q (F0 m pc ls (.ref (gm G (0)) :: rest)) :=
  wd_get (f := fun i => cM G hs (μ i) i) hx hb (C := RX4) (T := TX4) (N := 22) (ci := 4) hown hW.2.2.2 hW.2.1 hW.1 (i := 0) (by omega) (cM_0) rfl inX4 12 (by decide) (q := 581) (by decide +kernel) rfl hdg kk
theorem rd_X4_13 {p : Program} {l : Launch} {e : Env} {R : Room} {s : State} {m : MethodId} {args : Array Value} {below : List Frame} {meth : Method} {c : Code} {H : Heap} {locs : List Loc} {cells slots : Nat} {Q : State → Prop} {cc : ByteArray} {pc : Nat} {ls : Array Slot} {rest : List Value} {G : Gam} {μ : St} {hs : Int64} (hx : p.tables.exec = Jvm.exec) (hb : c.code = cc) (hown : s.vm.findClass RX4 = some m.cls) (hW : WM G μ hs s H)  (hdg : decode cc pc = .ok (.getfield 13, 3)) (kk : W p l e R s m args below meth c H locs cells slots Q (F0 m (pc + 3) ls (.ref (gm G (2)) :: rest))) : W p l e R s m args below meth c H locs cells slots Q (F0 m pc ls (.ref (gm G (0)) :: rest)) :=
  wd_get (f := fun i => cM G hs (μ i) i) hx hb (C := RX4) (T := TX4) (N := 22) (ci := 4) hown hW.2.2.2 hW.2.1 hW.1 (i := 0) (by omega) (cM_0) rfl inX4 2 (by decide) (q := 571) (by decide +kernel) rfl hdg kk
theorem rd_X4_50 {p : Program} {l : Launch} {e : Env} {R : Room} {s : State} {m : MethodId} {args : Array Value} {below : List Frame} {meth : Method} {c : Code} {H : Heap} {locs : List Loc} {cells slots : Nat} {Q : State → Prop} {cc : ByteArray} {pc : Nat} {ls : Array Slot} {rest : List Value} {G : Gam} {μ : St} {hs : Int64} (hx : p.tables.exec = Jvm.exec) (hb : c.code = cc) (hown : s.vm.findClass RX4 = some m.cls) (hW : WM G μ hs s H)  (hdg : decode cc pc = .ok (.getfield 50, 3)) (kk : W p l e R s m args below meth c H locs cells slots Q (F0 m (pc + 3) ls (.int (μ (0) 3) :: rest))) : W p l e R s m args below meth c H locs cells slots Q (F0 m pc ls (.ref (gm G (0)) :: rest)) :=
  wd_get (f := fun i => cM G hs (μ i) i) hx hb (C := RX4) (T := TX4) (N := 22) (ci := 4) hown hW.2.2.2 hW.2.1 hW.1 (i := 0) (by omega) (cM_0) rfl inX4 3 (by decide) (q := 572) (by decide +kernel) rfl hdg kk
theorem wr_X4_50 {p : Program} {l : Launch} {e : Env} {R : Room} {s : State} {m : MethodId} {args : Array Value} {below : List Frame} {meth : Method} {c : Code} {H : Heap} {locs : List Loc} {cells slots : Nat} {Q : State → Prop} {cc : ByteArray} {pc : Nat} {ls : Array Slot} {rest : List Value} {G : Gam} {μ : St} {hs : Int64} {H0 : Heap} {v : Int32} (hx : p.tables.exec = Jvm.exec) (hb : c.code = cc) (hown : s.vm.findClass RX4 = some m.cls) (hW : WM G μ hs s H) (hS : va_S (aM G) H0 H locs)  (hdg : decode cc pc = .ok (.putfield 50, 3)) (kk : ∀ (H1 : Heap) (locs1 : List Loc), WM G (up2 μ (0) 3 v) hs s H1 → va_S (aM G) H0 H1 locs1 → W p l e R s m args below meth c H1 locs1 cells slots Q (F0 m (pc + 3) ls rest)) : W p l e R s m args below meth c H locs cells slots Q (F0 m pc ls (.int v :: .ref (gm G (0)) :: rest)) :=
  wd_put (f := fun i => cM G hs (μ i) i) (g := fun i => cM G hs (up2 μ (0) 3 v i) i) hx hb (C := RX4) (T := TX4) (N := 22) (ci := 4) tyX4 tyX4_ok nmX4 hown hW.2.2.2 hW.2.1 hW.2.2.1 hW.1 hS (i := 0) (by omega) (cM_0) rfl inX4 3 (by decide) (q := 572) (by decide +kernel) rfl (ty := .int) (v := .int v) (by decide +kernel) rfl rfl (Nat.le_of_ble_eq_true rfl) (by show cM G hs (up2 μ (0) 3 v (0)) (0) = _; rw [up2_row, cM_0]; rfl) (fun j9 _ hne => by show cM G hs (up2 μ (0) 3 v j9) j9 = cM G hs (μ j9) j9; rw [up2_ne hne]) hdg (fun H1 locs1 h1 h2 => kk H1 locs1 ⟨h1, hW.2⟩ h2)
theorem rd_X4_16 {p : Program} {l : Launch} {e : Env} {R : Room} {s : State} {m : MethodId} {args : Array Value} {below : List Frame} {meth : Method} {c : Code} {H : Heap} {locs : List Loc} {cells slots : Nat} {Q : State → Prop} {cc : ByteArray} {pc : Nat} {ls : Array Slot} {rest : List Value} {G : Gam} {μ : St} {hs : Int64} (hx : p.tables.exec = Jvm.exec) (hb : c.code = cc) (hown : s.vm.findClass RX4 = some m.cls) (hW : WM G μ hs s H)  (hdg : decode cc pc = .ok (.getfield 16, 3)) (kk : W p l e R s m args below meth c H locs cells slots Q (F0 m (pc + 3) ls (.ref (gm G (3)) :: rest))) : W p l e R s m args below meth c H locs cells slots Q (F0 m pc ls (.ref (gm G (0)) :: rest)) :=
  wd_get (f := fun i => cM G hs (μ i) i) hx hb (C := RX4) (T := TX4) (N := 22) (ci := 4) hown hW.2.2.2 hW.2.1 hW.1 (i := 0) (by omega) (cM_0) rfl inX4 8 (by decide) (q := 577) (by decide +kernel) rfl hdg kk
theorem rd_X4_28 {p : Program} {l : Launch} {e : Env} {R : Room} {s : State} {m : MethodId} {args : Array Value} {below : List Frame} {meth : Method} {c : Code} {H : Heap} {locs : List Loc} {cells slots : Nat} {Q : State → Prop} {cc : ByteArray} {pc : Nat} {ls : Array Slot} {rest : List Value} {G : Gam} {μ : St} {hs : Int64} (hx : p.tables.exec = Jvm.exec) (hb : c.code = cc) (hown : s.vm.findClass RX4 = some m.cls) (hW : WM G μ hs s H)  (hdg : decode cc pc = .ok (.getfield 28, 3)) (kk : W p l e R s m args below meth c H locs cells slots Q (F0 m (pc + 3) ls (.ref (gm G (7)) :: rest))) : W p l e R s m args below meth c H locs cells slots Q (F0 m pc ls (.ref (gm G (0)) :: rest)) :=
  wd_get (f := fun i => cM G hs (μ i) i) hx hb (C := RX4) (T := TX4) (N := 22) (ci := 4) hown hW.2.2.2 hW.2.1 hW.1 (i := 0) (by omega) (cM_0) rfl inX4 14 (by decide) (q := 583) (by decide +kernel) rfl hdg kk
theorem rd_X4_165 {p : Program} {l : Launch} {e : Env} {R : Room} {s : State} {m : MethodId} {args : Array Value} {below : List Frame} {meth : Method} {c : Code} {H : Heap} {locs : List Loc} {cells slots : Nat} {Q : State → Prop} {cc : ByteArray} {pc : Nat} {ls : Array Slot} {rest : List Value} {G : Gam} {μ : St} {hs : Int64} (hx : p.tables.exec = Jvm.exec) (hb : c.code = cc) (hown : s.vm.findClass RX4 = some m.cls) (hW : WM G μ hs s H)  (hdg : decode cc pc = .ok (.getfield 165, 3)) (kk : W p l e R s m args below meth c H locs cells slots Q (F0 m (pc + 3) ls (.int (μ (0) 13) :: rest))) : W p l e R s m args below meth c H locs cells slots Q (F0 m pc ls (.ref (gm G (0)) :: rest)) :=
  wd_get (f := fun i => cM G hs (μ i) i) hx hb (C := RX4) (T := TX4) (N := 22) (ci := 4) hown hW.2.2.2 hW.2.1 hW.1 (i := 0) (by omega) (cM_0) rfl inX4 13 (by decide) (q := 582) (by decide +kernel) rfl hdg kk
theorem wr_X4_165 {p : Program} {l : Launch} {e : Env} {R : Room} {s : State} {m : MethodId} {args : Array Value} {below : List Frame} {meth : Method} {c : Code} {H : Heap} {locs : List Loc} {cells slots : Nat} {Q : State → Prop} {cc : ByteArray} {pc : Nat} {ls : Array Slot} {rest : List Value} {G : Gam} {μ : St} {hs : Int64} {H0 : Heap} {v : Int32} (hx : p.tables.exec = Jvm.exec) (hb : c.code = cc) (hown : s.vm.findClass RX4 = some m.cls) (hW : WM G μ hs s H) (hS : va_S (aM G) H0 H locs)  (hdg : decode cc pc = .ok (.putfield 165, 3)) (kk : ∀ (H1 : Heap) (locs1 : List Loc), WM G (up2 μ (0) 13 v) hs s H1 → va_S (aM G) H0 H1 locs1 → W p l e R s m args below meth c H1 locs1 cells slots Q (F0 m (pc + 3) ls rest)) : W p l e R s m args below meth c H locs cells slots Q (F0 m pc ls (.int v :: .ref (gm G (0)) :: rest)) :=
  wd_put (f := fun i => cM G hs (μ i) i) (g := fun i => cM G hs (up2 μ (0) 13 v i) i) hx hb (C := RX4) (T := TX4) (N := 22) (ci := 4) tyX4 tyX4_ok nmX4 hown hW.2.2.2 hW.2.1 hW.2.2.1 hW.1 hS (i := 0) (by omega) (cM_0) rfl inX4 13 (by decide) (q := 582) (by decide +kernel) rfl (ty := .int) (v := .int v) (by decide +kernel) rfl rfl (Nat.le_of_ble_eq_true rfl) (by show cM G hs (up2 μ (0) 13 v (0)) (0) = _; rw [up2_row, cM_0]; rfl) (fun j9 _ hne => by show cM G hs (up2 μ (0) 13 v j9) j9 = cM G hs (μ j9) j9; rw [up2_ne hne]) hdg (fun H1 locs1 h1 h2 => kk H1 locs1 ⟨h1, hW.2⟩ h2)
theorem rd_X4_19 {p : Program} {l : Launch} {e : Env} {R : Room} {s : State} {m : MethodId} {args : Array Value} {below : List Frame} {meth : Method} {c : Code} {H : Heap} {locs : List Loc} {cells slots : Nat} {Q : State → Prop} {cc : ByteArray} {pc : Nat} {ls : Array Slot} {rest : List Value} {G : Gam} {μ : St} {hs : Int64} (hx : p.tables.exec = Jvm.exec) (hb : c.code = cc) (hown : s.vm.findClass RX4 = some m.cls) (hW : WM G μ hs s H)  (hdg : decode cc pc = .ok (.getfield 19, 3)) (kk : W p l e R s m args below meth c H locs cells slots Q (F0 m (pc + 3) ls (.ref (gm G (4)) :: rest))) : W p l e R s m args below meth c H locs cells slots Q (F0 m pc ls (.ref (gm G (0)) :: rest)) :=
  wd_get (f := fun i => cM G hs (μ i) i) hx hb (C := RX4) (T := TX4) (N := 22) (ci := 4) hown hW.2.2.2 hW.2.1 hW.1 (i := 0) (by omega) (cM_0) rfl inX4 9 (by decide) (q := 578) (by decide +kernel) rfl hdg kk
theorem rd_X4_81 {p : Program} {l : Launch} {e : Env} {R : Room} {s : State} {m : MethodId} {args : Array Value} {below : List Frame} {meth : Method} {c : Code} {H : Heap} {locs : List Loc} {cells slots : Nat} {Q : State → Prop} {cc : ByteArray} {pc : Nat} {ls : Array Slot} {rest : List Value} {G : Gam} {μ : St} {hs : Int64} (hx : p.tables.exec = Jvm.exec) (hb : c.code = cc) (hown : s.vm.findClass RX4 = some m.cls) (hW : WM G μ hs s H)  (hdg : decode cc pc = .ok (.getfield 81, 3)) (kk : W p l e R s m args below meth c H locs cells slots Q (F0 m (pc + 3) ls (.int (μ (0) 10) :: rest))) : W p l e R s m args below meth c H locs cells slots Q (F0 m pc ls (.ref (gm G (0)) :: rest)) :=
  wd_get (f := fun i => cM G hs (μ i) i) hx hb (C := RX4) (T := TX4) (N := 22) (ci := 4) hown hW.2.2.2 hW.2.1 hW.1 (i := 0) (by omega) (cM_0) rfl inX4 10 (by decide) (q := 579) (by decide +kernel) rfl hdg kk
theorem wr_X4_81 {p : Program} {l : Launch} {e : Env} {R : Room} {s : State} {m : MethodId} {args : Array Value} {below : List Frame} {meth : Method} {c : Code} {H : Heap} {locs : List Loc} {cells slots : Nat} {Q : State → Prop} {cc : ByteArray} {pc : Nat} {ls : Array Slot} {rest : List Value} {G : Gam} {μ : St} {hs : Int64} {H0 : Heap} {v : Int32} (hx : p.tables.exec = Jvm.exec) (hb : c.code = cc) (hown : s.vm.findClass RX4 = some m.cls) (hW : WM G μ hs s H) (hS : va_S (aM G) H0 H locs)  (hdg : decode cc pc = .ok (.putfield 81, 3)) (kk : ∀ (H1 : Heap) (locs1 : List Loc), WM G (up2 μ (0) 10 v) hs s H1 → va_S (aM G) H0 H1 locs1 → W p l e R s m args below meth c H1 locs1 cells slots Q (F0 m (pc + 3) ls rest)) : W p l e R s m args below meth c H locs cells slots Q (F0 m pc ls (.int v :: .ref (gm G (0)) :: rest)) :=
  wd_put (f := fun i => cM G hs (μ i) i) (g := fun i => cM G hs (up2 μ (0) 10 v i) i) hx hb (C := RX4) (T := TX4) (N := 22) (ci := 4) tyX4 tyX4_ok nmX4 hown hW.2.2.2 hW.2.1 hW.2.2.1 hW.1 hS (i := 0) (by omega) (cM_0) rfl inX4 10 (by decide) (q := 579) (by decide +kernel) rfl (ty := .int) (v := .int v) (by decide +kernel) rfl rfl (Nat.le_of_ble_eq_true rfl) (by show cM G hs (up2 μ (0) 10 v (0)) (0) = _; rw [up2_row, cM_0]; rfl) (fun j9 _ hne => by show cM G hs (up2 μ (0) 10 v j9) j9 = cM G hs (μ j9) j9; rw [up2_ne hne]) hdg (fun H1 locs1 h1 h2 => kk H1 locs1 ⟨h1, hW.2⟩ h2)
theorem rd_X4_22 {p : Program} {l : Launch} {e : Env} {R : Room} {s : State} {m : MethodId} {args : Array Value} {below : List Frame} {meth : Method} {c : Code} {H : Heap} {locs : List Loc} {cells slots : Nat} {Q : State → Prop} {cc : ByteArray} {pc : Nat} {ls : Array Slot} {rest : List Value} {G : Gam} {μ : St} {hs : Int64} (hx : p.tables.exec = Jvm.exec) (hb : c.code = cc) (hown : s.vm.findClass RX4 = some m.cls) (hW : WM G μ hs s H)  (hdg : decode cc pc = .ok (.getfield 22, 3)) (kk : W p l e R s m args below meth c H locs cells slots Q (F0 m (pc + 3) ls (.ref (gm G (5)) :: rest))) : W p l e R s m args below meth c H locs cells slots Q (F0 m pc ls (.ref (gm G (0)) :: rest)) :=
  wd_get (f := fun i => cM G hs (μ i) i) hx hb (C := RX4) (T := TX4) (N := 22) (ci := 4) hown hW.2.2.2 hW.2.1 hW.1 (i := 0) (by omega) (cM_0) rfl inX4 11 (by decide) (q := 580) (by decide +kernel) rfl hdg kk
theorem rd_X4_53 {p : Program} {l : Launch} {e : Env} {R : Room} {s : State} {m : MethodId} {args : Array Value} {below : List Frame} {meth : Method} {c : Code} {H : Heap} {locs : List Loc} {cells slots : Nat} {Q : State → Prop} {cc : ByteArray} {pc : Nat} {ls : Array Slot} {rest : List Value} {G : Gam} {μ : St} {hs : Int64} (hx : p.tables.exec = Jvm.exec) (hb : c.code = cc) (hown : s.vm.findClass RX4 = some m.cls) (hW : WM G μ hs s H)  (hdg : decode cc pc = .ok (.getfield 53, 3)) (kk : W p l e R s m args below meth c H locs cells slots Q (F0 m (pc + 3) ls (.int (μ (0) 4) :: rest))) : W p l e R s m args below meth c H locs cells slots Q (F0 m pc ls (.ref (gm G (0)) :: rest)) :=
  wd_get (f := fun i => cM G hs (μ i) i) hx hb (C := RX4) (T := TX4) (N := 22) (ci := 4) hown hW.2.2.2 hW.2.1 hW.1 (i := 0) (by omega) (cM_0) rfl inX4 4 (by decide) (q := 573) (by decide +kernel) rfl hdg kk
theorem wr_X4_53 {p : Program} {l : Launch} {e : Env} {R : Room} {s : State} {m : MethodId} {args : Array Value} {below : List Frame} {meth : Method} {c : Code} {H : Heap} {locs : List Loc} {cells slots : Nat} {Q : State → Prop} {cc : ByteArray} {pc : Nat} {ls : Array Slot} {rest : List Value} {G : Gam} {μ : St} {hs : Int64} {H0 : Heap} {v : Int32} (hx : p.tables.exec = Jvm.exec) (hb : c.code = cc) (hown : s.vm.findClass RX4 = some m.cls) (hW : WM G μ hs s H) (hS : va_S (aM G) H0 H locs)  (hdg : decode cc pc = .ok (.putfield 53, 3)) (kk : ∀ (H1 : Heap) (locs1 : List Loc), WM G (up2 μ (0) 4 v) hs s H1 → va_S (aM G) H0 H1 locs1 → W p l e R s m args below meth c H1 locs1 cells slots Q (F0 m (pc + 3) ls rest)) : W p l e R s m args below meth c H locs cells slots Q (F0 m pc ls (.int v :: .ref (gm G (0)) :: rest)) :=
  wd_put (f := fun i => cM G hs (μ i) i) (g := fun i => cM G hs (up2 μ (0) 4 v i) i) hx hb (C := RX4) (T := TX4) (N := 22) (ci := 4) tyX4 tyX4_ok nmX4 hown hW.2.2.2 hW.2.1 hW.2.2.1 hW.1 hS (i := 0) (by omega) (cM_0) rfl inX4 4 (by decide) (q := 573) (by decide +kernel) rfl (ty := .int) (v := .int v) (by decide +kernel) rfl rfl (Nat.le_of_ble_eq_true rfl) (by show cM G hs (up2 μ (0) 4 v (0)) (0) = _; rw [up2_row, cM_0]; rfl) (fun j9 _ hne => by show cM G hs (up2 μ (0) 4 v j9) j9 = cM G hs (μ j9) j9; rw [up2_ne hne]) hdg (fun H1 locs1 h1 h2 => kk H1 locs1 ⟨h1, hW.2⟩ h2)
theorem rd_X4_75 {p : Program} {l : Launch} {e : Env} {R : Room} {s : State} {m : MethodId} {args : Array Value} {below : List Frame} {meth : Method} {c : Code} {H : Heap} {locs : List Loc} {cells slots : Nat} {Q : State → Prop} {cc : ByteArray} {pc : Nat} {ls : Array Slot} {rest : List Value} {G : Gam} {μ : St} {hs : Int64} (hx : p.tables.exec = Jvm.exec) (hb : c.code = cc) (hown : s.vm.findClass RX4 = some m.cls) (hW : WM G μ hs s H)  (hdg : decode cc pc = .ok (.getfield 75, 3)) (kk : W p l e R s m args below meth c H locs cells slots Q (F0 m (pc + 3) ls (.int (μ (0) 5) :: rest))) : W p l e R s m args below meth c H locs cells slots Q (F0 m pc ls (.ref (gm G (0)) :: rest)) :=
  wd_get (f := fun i => cM G hs (μ i) i) hx hb (C := RX4) (T := TX4) (N := 22) (ci := 4) hown hW.2.2.2 hW.2.1 hW.1 (i := 0) (by omega) (cM_0) rfl inX4 5 (by decide) (q := 574) (by decide +kernel) rfl hdg kk
theorem wr_X4_75 {p : Program} {l : Launch} {e : Env} {R : Room} {s : State} {m : MethodId} {args : Array Value} {below : List Frame} {meth : Method} {c : Code} {H : Heap} {locs : List Loc} {cells slots : Nat} {Q : State → Prop} {cc : ByteArray} {pc : Nat} {ls : Array Slot} {rest : List Value} {G : Gam} {μ : St} {hs : Int64} {H0 : Heap} {v : Int32} (hx : p.tables.exec = Jvm.exec) (hb : c.code = cc) (hown : s.vm.findClass RX4 = some m.cls) (hW : WM G μ hs s H) (hS : va_S (aM G) H0 H locs)  (hdg : decode cc pc = .ok (.putfield 75, 3)) (kk : ∀ (H1 : Heap) (locs1 : List Loc), WM G (up2 μ (0) 5 v) hs s H1 → va_S (aM G) H0 H1 locs1 → W p l e R s m args below meth c H1 locs1 cells slots Q (F0 m (pc + 3) ls rest)) : W p l e R s m args below meth c H locs cells slots Q (F0 m pc ls (.int v :: .ref (gm G (0)) :: rest)) :=
  wd_put (f := fun i => cM G hs (μ i) i) (g := fun i => cM G hs (up2 μ (0) 5 v i) i) hx hb (C := RX4) (T := TX4) (N := 22) (ci := 4) tyX4 tyX4_ok nmX4 hown hW.2.2.2 hW.2.1 hW.2.2.1 hW.1 hS (i := 0) (by omega) (cM_0) rfl inX4 5 (by decide) (q := 574) (by decide +kernel) rfl (ty := .int) (v := .int v) (by decide +kernel) rfl rfl (Nat.le_of_ble_eq_true rfl) (by show cM G hs (up2 μ (0) 5 v (0)) (0) = _; rw [up2_row, cM_0]; rfl) (fun j9 _ hne => by show cM G hs (up2 μ (0) 5 v j9) j9 = cM G hs (μ j9) j9; rw [up2_ne hne]) hdg (fun H1 locs1 h1 h2 => kk H1 locs1 ⟨h1, hW.2⟩ h2)
theorem rd_X3_124 {p : Program} {l : Launch} {e : Env} {R : Room} {s : State} {m : MethodId} {args : Array Value} {below : List Frame} {meth : Method} {c : Code} {H : Heap} {locs : List Loc} {cells slots : Nat} {Q : State → Prop} {cc : ByteArray} {pc : Nat} {ls : Array Slot} {rest : List Value} {G : Gam} {σ : St} (hx : p.tables.exec = Jvm.exec) (hb : c.code = cc) (hown : s.vm.findClass RX3 = some m.cls) (hW : WX G σ s H) {h : Nat} (hh : h < 2) (hdg : decode cc pc = .ok (.getfield 124, 3)) (kk : W p l e R s m args below meth c H locs cells slots Q (F0 m (pc + 3) ls (.int (σ (5 * h + 4) 5) :: rest))) : W p l e R s m args below meth c H locs cells slots Q (F0 m pc ls (.ref (ga G (5 * h + 4)) :: rest)) :=
  wd_getN (f := fun i => cX G (σ i) i) hx hb (C := RX0) (T := TX0) (N := 7) (ci := 0) hown hW.2.2.2.1 hW.2.1 hW.1 (i := 5 * h + 4) (by omega) (cX_h hh) rfl inX0 5 (by decide) (hW.2.2.2.2.use (w := .fieldLinkNest RX3 124 RX0 "changes" "I" RX3) 0 rfl) rfl hdg kk
theorem wr_X3_124 {p : Program} {l : Launch} {e : Env} {R : Room} {s : State} {m : MethodId} {args : Array Value} {below : List Frame} {meth : Method} {c : Code} {H : Heap} {locs : List Loc} {cells slots : Nat} {Q : State → Prop} {cc : ByteArray} {pc : Nat} {ls : Array Slot} {rest : List Value} {G : Gam} {σ : St} {H0 : Heap} {v : Int32} (hx : p.tables.exec = Jvm.exec) (hb : c.code = cc) (hown : s.vm.findClass RX3 = some m.cls) (hW : WX G σ s H) (hS : va_S (aX G) H0 H locs) {h : Nat} (hh : h < 2) (hdg : decode cc pc = .ok (.putfield 124, 3)) (kk : ∀ (H1 : Heap) (locs1 : List Loc), WX G (up2 σ (5 * h + 4) 5 v) s H1 → va_S (aX G) H0 H1 locs1 → W p l e R s m args below meth c H1 locs1 cells slots Q (F0 m (pc + 3) ls rest)) : W p l e R s m args below meth c H locs cells slots Q (F0 m pc ls (.int v :: .ref (ga G (5 * h + 4)) :: rest)) :=
  wd_putN (f := fun i => cX G (σ i) i) (g := fun i => cX G (up2 σ (5 * h + 4) 5 v i) i) hx hb (C := RX0) (T := TX0) (N := 7) (ci := 0) tyX0 tyX0_ok nmX0 hown hW.2.2.2.1 hW.2.1 hW.2.2.1 hW.1 hS (i := 5 * h + 4) (by omega) (cX_h hh) rfl inX0 5 (by decide) (hW.2.2.2.2.use (w := .fieldLinkNest RX3 124 RX0 "changes" "I" RX3) 0 rfl) rfl (ty := .int) (v := .int v) (by decide +kernel) rfl rfl (Nat.le_of_ble_eq_true rfl) (by show cX G (up2 σ (5 * h + 4) 5 v (5 * h + 4)) (5 * h + 4) = _; rw [up2_row, cX_h hh]; rfl) (fun j9 _ hne => by show cX G (up2 σ (5 * h + 4) 5 v j9) j9 = cX G (σ j9) j9; rw [up2_ne hne]) hdg (fun H1 locs1 h1 h2 => kk H1 locs1 ⟨h1, hW.2⟩ h2)
theorem rd_X3_83 {p : Program} {l : Launch} {e : Env} {R : Room} {s : State} {m : MethodId} {args : Array Value} {below : List Frame} {meth : Method} {c : Code} {H : Heap} {locs : List Loc} {cells slots : Nat} {Q : State → Prop} {cc : ByteArray} {pc : Nat} {ls : Array Slot} {rest : List Value} {G : Gam} {σ : St} (hx : p.tables.exec = Jvm.exec) (hb : c.code = cc) (hown : s.vm.findClass RX3 = some m.cls) (hW : WX G σ s H) {h : Nat} (hh : h < 2) (hdg : decode cc pc = .ok (.getfield 83, 3)) (kk : W p l e R s m args below meth c H locs cells slots Q (F0 m (pc + 3) ls (.ref (ga G (5 * h + 6)) :: rest))) : W p l e R s m args below meth c H locs cells slots Q (F0 m pc ls (.ref (ga G (5 * h + 4)) :: rest)) :=
  wd_getN (f := fun i => cX G (σ i) i) hx hb (C := RX0) (T := TX0) (N := 7) (ci := 0) hown hW.2.2.2.1 hW.2.1 hW.1 (i := 5 * h + 4) (by omega) (cX_h hh) rfl inX0 1 (by decide) (hW.2.2.2.2.use (w := .fieldLinkNest RX3 83 RX0 "lateBy" "[I" RX3) 9 rfl) rfl hdg kk
theorem rd_X3_148 {p : Program} {l : Launch} {e : Env} {R : Room} {s : State} {m : MethodId} {args : Array Value} {below : List Frame} {meth : Method} {c : Code} {H : Heap} {locs : List Loc} {cells slots : Nat} {Q : State → Prop} {cc : ByteArray} {pc : Nat} {ls : Array Slot} {rest : List Value} {G : Gam} {σ : St} (hx : p.tables.exec = Jvm.exec) (hb : c.code = cc) (hown : s.vm.findClass RX3 = some m.cls) (hW : WX G σ s H) {h : Nat} (hh : h < 2) (hdg : decode cc pc = .ok (.getfield 148, 3)) (kk : W p l e R s m args below meth c H locs cells slots Q (F0 m (pc + 3) ls (.int (σ (5 * h + 4) 6) :: rest))) : W p l e R s m args below meth c H locs cells slots Q (F0 m pc ls (.ref (ga G (5 * h + 4)) :: rest)) :=
  wd_getN (f := fun i => cX G (σ i) i) hx hb (C := RX0) (T := TX0) (N := 7) (ci := 0) hown hW.2.2.2.1 hW.2.1 hW.1 (i := 5 * h + 4) (by omega) (cX_h hh) rfl inX0 6 (by decide) (hW.2.2.2.2.use (w := .fieldLinkNest RX3 148 RX0 "seenCount" "I" RX3) 1 rfl) rfl hdg kk
theorem wr_X3_148 {p : Program} {l : Launch} {e : Env} {R : Room} {s : State} {m : MethodId} {args : Array Value} {below : List Frame} {meth : Method} {c : Code} {H : Heap} {locs : List Loc} {cells slots : Nat} {Q : State → Prop} {cc : ByteArray} {pc : Nat} {ls : Array Slot} {rest : List Value} {G : Gam} {σ : St} {H0 : Heap} {v : Int32} (hx : p.tables.exec = Jvm.exec) (hb : c.code = cc) (hown : s.vm.findClass RX3 = some m.cls) (hW : WX G σ s H) (hS : va_S (aX G) H0 H locs) {h : Nat} (hh : h < 2) (hdg : decode cc pc = .ok (.putfield 148, 3)) (kk : ∀ (H1 : Heap) (locs1 : List Loc), WX G (up2 σ (5 * h + 4) 6 v) s H1 → va_S (aX G) H0 H1 locs1 → W p l e R s m args below meth c H1 locs1 cells slots Q (F0 m (pc + 3) ls rest)) : W p l e R s m args below meth c H locs cells slots Q (F0 m pc ls (.int v :: .ref (ga G (5 * h + 4)) :: rest)) :=
  wd_putN (f := fun i => cX G (σ i) i) (g := fun i => cX G (up2 σ (5 * h + 4) 6 v i) i) hx hb (C := RX0) (T := TX0) (N := 7) (ci := 0) tyX0 tyX0_ok nmX0 hown hW.2.2.2.1 hW.2.1 hW.2.2.1 hW.1 hS (i := 5 * h + 4) (by omega) (cX_h hh) rfl inX0 6 (by decide) (hW.2.2.2.2.use (w := .fieldLinkNest RX3 148 RX0 "seenCount" "I" RX3) 1 rfl) rfl (ty := .int) (v := .int v) (by decide +kernel) rfl rfl (Nat.le_of_ble_eq_true rfl) (by show cX G (up2 σ (5 * h + 4) 6 v (5 * h + 4)) (5 * h + 4) = _; rw [up2_row, cX_h hh]; rfl) (fun j9 _ hne => by show cX G (up2 σ (5 * h + 4) 6 v j9) j9 = cX G (σ j9) j9; rw [up2_ne hne]) hdg (fun H1 locs1 h1 h2 => kk H1 locs1 ⟨h1, hW.2⟩ h2)
theorem rd_X3_57 {p : Program} {l : Launch} {e : Env} {R : Room} {s : State} {m : MethodId} {args : Array Value} {below : List Frame} {meth : Method} {c : Code} {H : Heap} {locs : List Loc} {cells slots : Nat} {Q : State → Prop} {cc : ByteArray} {pc : Nat} {ls : Array Slot} {rest : List Value} {G : Gam} {σ : St} (hx : p.tables.exec = Jvm.exec) (hb : c.code = cc) (hown : s.vm.findClass RX3 = some m.cls) (hW : WX G σ s H) {h : Nat} (hh : h < 2) (hdg : decode cc pc = .ok (.getfield 57, 3)) (kk : W p l e R s m args below meth c H locs cells slots Q (F0 m (pc + 3) ls (.int (σ (5 * h + 4) 4) :: rest))) : W p l e R s m args below meth c H locs cells slots Q (F0 m pc ls (.ref (ga G (5 * h + 4)) :: rest)) :=
  wd_getN (f := fun i => cX G (σ i) i) hx hb (C := RX0) (T := TX0) (N := 7) (ci := 0) hown hW.2.2.2.1 hW.2.1 hW.1 (i := 5 * h + 4) (by omega) (cX_h hh) rfl inX0 4 (by decide) (hW.2.2.2.2.use (w := .fieldLinkNest RX3 57 RX0 "stickCount" "I" RX3) 4 rfl) rfl hdg kk
theorem wr_X3_57 {p : Program} {l : Launch} {e : Env} {R : Room} {s : State} {m : MethodId} {args : Array Value} {below : List Frame} {meth : Method} {c : Code} {H : Heap} {locs : List Loc} {cells slots : Nat} {Q : State → Prop} {cc : ByteArray} {pc : Nat} {ls : Array Slot} {rest : List Value} {G : Gam} {σ : St} {H0 : Heap} {v : Int32} (hx : p.tables.exec = Jvm.exec) (hb : c.code = cc) (hown : s.vm.findClass RX3 = some m.cls) (hW : WX G σ s H) (hS : va_S (aX G) H0 H locs) {h : Nat} (hh : h < 2) (hdg : decode cc pc = .ok (.putfield 57, 3)) (kk : ∀ (H1 : Heap) (locs1 : List Loc), WX G (up2 σ (5 * h + 4) 4 v) s H1 → va_S (aX G) H0 H1 locs1 → W p l e R s m args below meth c H1 locs1 cells slots Q (F0 m (pc + 3) ls rest)) : W p l e R s m args below meth c H locs cells slots Q (F0 m pc ls (.int v :: .ref (ga G (5 * h + 4)) :: rest)) :=
  wd_putN (f := fun i => cX G (σ i) i) (g := fun i => cX G (up2 σ (5 * h + 4) 4 v i) i) hx hb (C := RX0) (T := TX0) (N := 7) (ci := 0) tyX0 tyX0_ok nmX0 hown hW.2.2.2.1 hW.2.1 hW.2.2.1 hW.1 hS (i := 5 * h + 4) (by omega) (cX_h hh) rfl inX0 4 (by decide) (hW.2.2.2.2.use (w := .fieldLinkNest RX3 57 RX0 "stickCount" "I" RX3) 4 rfl) rfl (ty := .int) (v := .int v) (by decide +kernel) rfl rfl (Nat.le_of_ble_eq_true rfl) (by show cX G (up2 σ (5 * h + 4) 4 v (5 * h + 4)) (5 * h + 4) = _; rw [up2_row, cX_h hh]; rfl) (fun j9 _ hne => by show cX G (up2 σ (5 * h + 4) 4 v j9) j9 = cX G (σ j9) j9; rw [up2_ne hne]) hdg (fun H1 locs1 h1 h2 => kk H1 locs1 ⟨h1, hW.2⟩ h2)
theorem rd_X3_64 {p : Program} {l : Launch} {e : Env} {R : Room} {s : State} {m : MethodId} {args : Array Value} {below : List Frame} {meth : Method} {c : Code} {H : Heap} {locs : List Loc} {cells slots : Nat} {Q : State → Prop} {cc : ByteArray} {pc : Nat} {ls : Array Slot} {rest : List Value} {G : Gam} {σ : St} (hx : p.tables.exec = Jvm.exec) (hb : c.code = cc) (hown : s.vm.findClass RX3 = some m.cls) (hW : WX G σ s H) {h : Nat} (hh : h < 2) (hdg : decode cc pc = .ok (.getfield 64, 3)) (kk : W p l e R s m args below meth c H locs cells slots Q (F0 m (pc + 3) ls (.ref (ga G (5 * h + 5)) :: rest))) : W p l e R s m args below meth c H locs cells slots Q (F0 m pc ls (.ref (ga G (5 * h + 4)) :: rest)) :=
  wd_getN (f := fun i => cX G (σ i) i) hx hb (C := RX0) (T := TX0) (N := 7) (ci := 0) hown hW.2.2.2.1 hW.2.1 hW.1 (i := 5 * h + 4) (by omega) (cX_h hh) rfl inX0 0 (by decide) (hW.2.2.2.2.use (w := .fieldLinkNest RX3 64 RX0 "sticks" "[LStickWays$Stick;" RX3) 5 rfl) rfl hdg kk
theorem rd_X3_42 {p : Program} {l : Launch} {e : Env} {R : Room} {s : State} {m : MethodId} {args : Array Value} {below : List Frame} {meth : Method} {c : Code} {H : Heap} {locs : List Loc} {cells slots : Nat} {Q : State → Prop} {cc : ByteArray} {pc : Nat} {ls : Array Slot} {rest : List Value} {G : Gam} {σ : St} (hx : p.tables.exec = Jvm.exec) (hb : c.code = cc) (hown : s.vm.findClass RX3 = some m.cls) (hW : WX G σ s H)  (hdg : decode cc pc = .ok (.getfield 42, 3)) (kk : W p l e R s m args below meth c H locs cells slots Q (F0 m (pc + 3) ls (.int (σ (1) 1) :: rest))) : W p l e R s m args below meth c H locs cells slots Q (F0 m pc ls (.ref (ga G (1)) :: rest)) :=
  wd_getN (f := fun i => cX G (σ i) i) hx hb (C := RX1) (T := TX1) (N := 2) (ci := 1) hown hW.2.2.2.1 hW.2.1 hW.1 (i := 1) (by omega) (cX_1) rfl inX1 1 (by decide) (hW.2.2.2.2.use (w := .fieldLinkNest RX3 42 RX1 "length" "I" RX3) 3 rfl) rfl hdg kk
theorem wr_X3_42 {p : Program} {l : Launch} {e : Env} {R : Room} {s : State} {m : MethodId} {args : Array Value} {below : List Frame} {meth : Method} {c : Code} {H : Heap} {locs : List Loc} {cells slots : Nat} {Q : State → Prop} {cc : ByteArray} {pc : Nat} {ls : Array Slot} {rest : List Value} {G : Gam} {σ : St} {H0 : Heap} {v : Int32} (hx : p.tables.exec = Jvm.exec) (hb : c.code = cc) (hown : s.vm.findClass RX3 = some m.cls) (hW : WX G σ s H) (hS : va_S (aX G) H0 H locs)  (hdg : decode cc pc = .ok (.putfield 42, 3)) (kk : ∀ (H1 : Heap) (locs1 : List Loc), WX G (up2 σ (1) 1 v) s H1 → va_S (aX G) H0 H1 locs1 → W p l e R s m args below meth c H1 locs1 cells slots Q (F0 m (pc + 3) ls rest)) : W p l e R s m args below meth c H locs cells slots Q (F0 m pc ls (.int v :: .ref (ga G (1)) :: rest)) :=
  wd_putN (f := fun i => cX G (σ i) i) (g := fun i => cX G (up2 σ (1) 1 v i) i) hx hb (C := RX1) (T := TX1) (N := 2) (ci := 1) tyX1 tyX1_ok nmX1 hown hW.2.2.2.1 hW.2.1 hW.2.2.1 hW.1 hS (i := 1) (by omega) (cX_1) rfl inX1 1 (by decide) (hW.2.2.2.2.use (w := .fieldLinkNest RX3 42 RX1 "length" "I" RX3) 3 rfl) rfl (ty := .int) (v := .int v) (by decide +kernel) rfl rfl (Nat.le_of_ble_eq_true rfl) (by show cX G (up2 σ (1) 1 v (1)) (1) = _; rw [up2_row, cX_1]; rfl) (fun j9 _ hne => by show cX G (up2 σ (1) 1 v j9) j9 = cX G (σ j9) j9; rw [up2_ne hne]) hdg (fun H1 locs1 h1 h2 => kk H1 locs1 ⟨h1, hW.2⟩ h2)
theorem rd_X3_192 {p : Program} {l : Launch} {e : Env} {R : Room} {s : State} {m : MethodId} {args : Array Value} {below : List Frame} {meth : Method} {c : Code} {H : Heap} {locs : List Loc} {cells slots : Nat} {Q : State → Prop} {cc : ByteArray} {pc : Nat} {ls : Array Slot} {rest : List Value} {G : Gam} {σ : St} (hx : p.tables.exec = Jvm.exec) (hb : c.code = cc) (hown : s.vm.findClass RX3 = some m.cls) (hW : WX G σ s H)  (hdg : decode cc pc = .ok (.getfield 192, 3)) (kk : W p l e R s m args below meth c H locs cells slots Q (F0 m (pc + 3) ls (.ref (ga G (2)) :: rest))) : W p l e R s m args below meth c H locs cells slots Q (F0 m pc ls (.ref (ga G (1)) :: rest)) :=
  wd_getN (f := fun i => cX G (σ i) i) hx hb (C := RX1) (T := TX1) (N := 2) (ci := 1) hown hW.2.2.2.1 hW.2.1 hW.1 (i := 1) (by omega) (cX_1) rfl inX1 0 (by decide) (hW.2.2.2.2.use (w := .fieldLinkNest RX3 192 RX1 "letters" "[C" RX3) 2 rfl) rfl hdg kk
theorem rd_X3_77 {p : Program} {l : Launch} {e : Env} {R : Room} {s : State} {m : MethodId} {args : Array Value} {below : List Frame} {meth : Method} {c : Code} {H : Heap} {locs : List Loc} {cells slots : Nat} {Q : State → Prop} {cc : ByteArray} {pc : Nat} {ls : Array Slot} {rest : List Value} {G : Gam} {σ : St} (hx : p.tables.exec = Jvm.exec) (hb : c.code = cc) (hown : s.vm.findClass RX3 = some m.cls) (hW : WX G σ s H) {j : Nat} (hj : j < 12) (hdg : decode cc pc = .ok (.getfield 77, 3)) (kk : W p l e R s m args below meth c H locs cells slots Q (F0 m (pc + 3) ls (.int (σ (3 * j + 14) 1) :: rest))) : W p l e R s m args below meth c H locs cells slots Q (F0 m pc ls (.ref (ga G (3 * j + 14)) :: rest)) :=
  wd_getN (f := fun i => cX G (σ i) i) hx hb (C := RX2) (T := TX2) (N := 6) (ci := 2) hown hW.2.2.2.1 hW.2.1 hW.1 (i := 3 * j + 14) (by omega) (cX_s hj) rfl inX2 1 (by decide) (hW.2.2.2.2.use (w := .fieldLinkNest RX3 77 RX2 "begin" "I" RX3) 7 rfl) rfl hdg kk
theorem wr_X3_77 {p : Program} {l : Launch} {e : Env} {R : Room} {s : State} {m : MethodId} {args : Array Value} {below : List Frame} {meth : Method} {c : Code} {H : Heap} {locs : List Loc} {cells slots : Nat} {Q : State → Prop} {cc : ByteArray} {pc : Nat} {ls : Array Slot} {rest : List Value} {G : Gam} {σ : St} {H0 : Heap} {v : Int32} (hx : p.tables.exec = Jvm.exec) (hb : c.code = cc) (hown : s.vm.findClass RX3 = some m.cls) (hW : WX G σ s H) (hS : va_S (aX G) H0 H locs) {j : Nat} (hj : j < 12) (hdg : decode cc pc = .ok (.putfield 77, 3)) (kk : ∀ (H1 : Heap) (locs1 : List Loc), WX G (up2 σ (3 * j + 14) 1 v) s H1 → va_S (aX G) H0 H1 locs1 → W p l e R s m args below meth c H1 locs1 cells slots Q (F0 m (pc + 3) ls rest)) : W p l e R s m args below meth c H locs cells slots Q (F0 m pc ls (.int v :: .ref (ga G (3 * j + 14)) :: rest)) :=
  wd_putN (f := fun i => cX G (σ i) i) (g := fun i => cX G (up2 σ (3 * j + 14) 1 v i) i) hx hb (C := RX2) (T := TX2) (N := 6) (ci := 2) tyX2 tyX2_ok nmX2 hown hW.2.2.2.1 hW.2.1 hW.2.2.1 hW.1 hS (i := 3 * j + 14) (by omega) (cX_s hj) rfl inX2 1 (by decide) (hW.2.2.2.2.use (w := .fieldLinkNest RX3 77 RX2 "begin" "I" RX3) 7 rfl) rfl (ty := .int) (v := .int v) (by decide +kernel) rfl rfl (Nat.le_of_ble_eq_true rfl) (by show cX G (up2 σ (3 * j + 14) 1 v (3 * j + 14)) (3 * j + 14) = _; rw [up2_row, cX_s hj]; rfl) (fun j9 _ hne => by show cX G (up2 σ (3 * j + 14) 1 v j9) j9 = cX G (σ j9) j9; rw [up2_ne hne]) hdg (fun H1 locs1 h1 h2 => kk H1 locs1 ⟨h1, hW.2⟩ h2)
theorem rd_X3_74 {p : Program} {l : Launch} {e : Env} {R : Room} {s : State} {m : MethodId} {args : Array Value} {below : List Frame} {meth : Method} {c : Code} {H : Heap} {locs : List Loc} {cells slots : Nat} {Q : State → Prop} {cc : ByteArray} {pc : Nat} {ls : Array Slot} {rest : List Value} {G : Gam} {σ : St} (hx : p.tables.exec = Jvm.exec) (hb : c.code = cc) (hown : s.vm.findClass RX3 = some m.cls) (hW : WX G σ s H) {j : Nat} (hj : j < 12) (hdg : decode cc pc = .ok (.getfield 74, 3)) (kk : W p l e R s m args below meth c H locs cells slots Q (F0 m (pc + 3) ls (.int (σ (3 * j + 14) 0) :: rest))) : W p l e R s m args below meth c H locs cells slots Q (F0 m pc ls (.ref (ga G (3 * j + 14)) :: rest)) :=
  wd_getN (f := fun i => cX G (σ i) i) hx hb (C := RX2) (T := TX2) (N := 6) (ci := 2) hown hW.2.2.2.1 hW.2.1 hW.1 (i := 3 * j + 14) (by omega) (cX_s hj) rfl inX2 0 (by decide) (hW.2.2.2.2.use (w := .fieldLinkNest RX3 74 RX2 "kind" "I" RX3) 6 rfl) rfl hdg kk
theorem wr_X3_74 {p : Program} {l : Launch} {e : Env} {R : Room} {s : State} {m : MethodId} {args : Array Value} {below : List Frame} {meth : Method} {c : Code} {H : Heap} {locs : List Loc} {cells slots : Nat} {Q : State → Prop} {cc : ByteArray} {pc : Nat} {ls : Array Slot} {rest : List Value} {G : Gam} {σ : St} {H0 : Heap} {v : Int32} (hx : p.tables.exec = Jvm.exec) (hb : c.code = cc) (hown : s.vm.findClass RX3 = some m.cls) (hW : WX G σ s H) (hS : va_S (aX G) H0 H locs) {j : Nat} (hj : j < 12) (hdg : decode cc pc = .ok (.putfield 74, 3)) (kk : ∀ (H1 : Heap) (locs1 : List Loc), WX G (up2 σ (3 * j + 14) 0 v) s H1 → va_S (aX G) H0 H1 locs1 → W p l e R s m args below meth c H1 locs1 cells slots Q (F0 m (pc + 3) ls rest)) : W p l e R s m args below meth c H locs cells slots Q (F0 m pc ls (.int v :: .ref (ga G (3 * j + 14)) :: rest)) :=
  wd_putN (f := fun i => cX G (σ i) i) (g := fun i => cX G (up2 σ (3 * j + 14) 0 v i) i) hx hb (C := RX2) (T := TX2) (N := 6) (ci := 2) tyX2 tyX2_ok nmX2 hown hW.2.2.2.1 hW.2.1 hW.2.2.1 hW.1 hS (i := 3 * j + 14) (by omega) (cX_s hj) rfl inX2 0 (by decide) (hW.2.2.2.2.use (w := .fieldLinkNest RX3 74 RX2 "kind" "I" RX3) 6 rfl) rfl (ty := .int) (v := .int v) (by decide +kernel) rfl rfl (Nat.le_of_ble_eq_true rfl) (by show cX G (up2 σ (3 * j + 14) 0 v (3 * j + 14)) (3 * j + 14) = _; rw [up2_row, cX_s hj]; rfl) (fun j9 _ hne => by show cX G (up2 σ (3 * j + 14) 0 v j9) j9 = cX G (σ j9) j9; rw [up2_ne hne]) hdg (fun H1 locs1 h1 h2 => kk H1 locs1 ⟨h1, hW.2⟩ h2)
theorem rd_X3_92 {p : Program} {l : Launch} {e : Env} {R : Room} {s : State} {m : MethodId} {args : Array Value} {below : List Frame} {meth : Method} {c : Code} {H : Heap} {locs : List Loc} {cells slots : Nat} {Q : State → Prop} {cc : ByteArray} {pc : Nat} {ls : Array Slot} {rest : List Value} {G : Gam} {σ : St} (hx : p.tables.exec = Jvm.exec) (hb : c.code = cc) (hown : s.vm.findClass RX3 = some m.cls) (hW : WX G σ s H) {j : Nat} (hj : j < 12) (hdg : decode cc pc = .ok (.getfield 92, 3)) (kk : W p l e R s m args below meth c H locs cells slots Q (F0 m (pc + 3) ls (.int (σ (3 * j + 14) 5) :: rest))) : W p l e R s m args below meth c H locs cells slots Q (F0 m pc ls (.ref (ga G (3 * j + 14)) :: rest)) :=
  wd_getN (f := fun i => cX G (σ i) i) hx hb (C := RX2) (T := TX2) (N := 6) (ci := 2) hown hW.2.2.2.1 hW.2.1 hW.1 (i := 3 * j + 14) (by omega) (cX_s hj) rfl inX2 5 (by decide) (hW.2.2.2.2.use (w := .fieldLinkNest RX3 92 RX2 "places" "I" RX3) 11 rfl) rfl hdg kk
theorem wr_X3_92 {p : Program} {l : Launch} {e : Env} {R : Room} {s : State} {m : MethodId} {args : Array Value} {below : List Frame} {meth : Method} {c : Code} {H : Heap} {locs : List Loc} {cells slots : Nat} {Q : State → Prop} {cc : ByteArray} {pc : Nat} {ls : Array Slot} {rest : List Value} {G : Gam} {σ : St} {H0 : Heap} {v : Int32} (hx : p.tables.exec = Jvm.exec) (hb : c.code = cc) (hown : s.vm.findClass RX3 = some m.cls) (hW : WX G σ s H) (hS : va_S (aX G) H0 H locs) {j : Nat} (hj : j < 12) (hdg : decode cc pc = .ok (.putfield 92, 3)) (kk : ∀ (H1 : Heap) (locs1 : List Loc), WX G (up2 σ (3 * j + 14) 5 v) s H1 → va_S (aX G) H0 H1 locs1 → W p l e R s m args below meth c H1 locs1 cells slots Q (F0 m (pc + 3) ls rest)) : W p l e R s m args below meth c H locs cells slots Q (F0 m pc ls (.int v :: .ref (ga G (3 * j + 14)) :: rest)) :=
  wd_putN (f := fun i => cX G (σ i) i) (g := fun i => cX G (up2 σ (3 * j + 14) 5 v i) i) hx hb (C := RX2) (T := TX2) (N := 6) (ci := 2) tyX2 tyX2_ok nmX2 hown hW.2.2.2.1 hW.2.1 hW.2.2.1 hW.1 hS (i := 3 * j + 14) (by omega) (cX_s hj) rfl inX2 5 (by decide) (hW.2.2.2.2.use (w := .fieldLinkNest RX3 92 RX2 "places" "I" RX3) 11 rfl) rfl (ty := .int) (v := .int v) (by decide +kernel) rfl rfl (Nat.le_of_ble_eq_true rfl) (by show cX G (up2 σ (3 * j + 14) 5 v (3 * j + 14)) (3 * j + 14) = _; rw [up2_row, cX_s hj]; rfl) (fun j9 _ hne => by show cX G (up2 σ (3 * j + 14) 5 v j9) j9 = cX G (σ j9) j9; rw [up2_ne hne]) hdg (fun H1 locs1 h1 h2 => kk H1 locs1 ⟨h1, hW.2⟩ h2)
theorem rd_X3_80 {p : Program} {l : Launch} {e : Env} {R : Room} {s : State} {m : MethodId} {args : Array Value} {below : List Frame} {meth : Method} {c : Code} {H : Heap} {locs : List Loc} {cells slots : Nat} {Q : State → Prop} {cc : ByteArray} {pc : Nat} {ls : Array Slot} {rest : List Value} {G : Gam} {σ : St} (hx : p.tables.exec = Jvm.exec) (hb : c.code = cc) (hown : s.vm.findClass RX3 = some m.cls) (hW : WX G σ s H) {j : Nat} (hj : j < 12) (hdg : decode cc pc = .ok (.getfield 80, 3)) (kk : W p l e R s m args below meth c H locs cells slots Q (F0 m (pc + 3) ls (.int (σ (3 * j + 14) 2) :: rest))) : W p l e R s m args below meth c H locs cells slots Q (F0 m pc ls (.ref (ga G (3 * j + 14)) :: rest)) :=
  wd_getN (f := fun i => cX G (σ i) i) hx hb (C := RX2) (T := TX2) (N := 6) (ci := 2) hown hW.2.2.2.1 hW.2.1 hW.1 (i := 3 * j + 14) (by omega) (cX_s hj) rfl inX2 2 (by decide) (hW.2.2.2.2.use (w := .fieldLinkNest RX3 80 RX2 "stepCount" "I" RX3) 8 rfl) rfl hdg kk
theorem wr_X3_80 {p : Program} {l : Launch} {e : Env} {R : Room} {s : State} {m : MethodId} {args : Array Value} {below : List Frame} {meth : Method} {c : Code} {H : Heap} {locs : List Loc} {cells slots : Nat} {Q : State → Prop} {cc : ByteArray} {pc : Nat} {ls : Array Slot} {rest : List Value} {G : Gam} {σ : St} {H0 : Heap} {v : Int32} (hx : p.tables.exec = Jvm.exec) (hb : c.code = cc) (hown : s.vm.findClass RX3 = some m.cls) (hW : WX G σ s H) (hS : va_S (aX G) H0 H locs) {j : Nat} (hj : j < 12) (hdg : decode cc pc = .ok (.putfield 80, 3)) (kk : ∀ (H1 : Heap) (locs1 : List Loc), WX G (up2 σ (3 * j + 14) 2 v) s H1 → va_S (aX G) H0 H1 locs1 → W p l e R s m args below meth c H1 locs1 cells slots Q (F0 m (pc + 3) ls rest)) : W p l e R s m args below meth c H locs cells slots Q (F0 m pc ls (.int v :: .ref (ga G (3 * j + 14)) :: rest)) :=
  wd_putN (f := fun i => cX G (σ i) i) (g := fun i => cX G (up2 σ (3 * j + 14) 2 v i) i) hx hb (C := RX2) (T := TX2) (N := 6) (ci := 2) tyX2 tyX2_ok nmX2 hown hW.2.2.2.1 hW.2.1 hW.2.2.1 hW.1 hS (i := 3 * j + 14) (by omega) (cX_s hj) rfl inX2 2 (by decide) (hW.2.2.2.2.use (w := .fieldLinkNest RX3 80 RX2 "stepCount" "I" RX3) 8 rfl) rfl (ty := .int) (v := .int v) (by decide +kernel) rfl rfl (Nat.le_of_ble_eq_true rfl) (by show cX G (up2 σ (3 * j + 14) 2 v (3 * j + 14)) (3 * j + 14) = _; rw [up2_row, cX_s hj]; rfl) (fun j9 _ hne => by show cX G (up2 σ (3 * j + 14) 2 v j9) j9 = cX G (σ j9) j9; rw [up2_ne hne]) hdg (fun H1 locs1 h1 h2 => kk H1 locs1 ⟨h1, hW.2⟩ h2)
theorem rd_X3_89 {p : Program} {l : Launch} {e : Env} {R : Room} {s : State} {m : MethodId} {args : Array Value} {below : List Frame} {meth : Method} {c : Code} {H : Heap} {locs : List Loc} {cells slots : Nat} {Q : State → Prop} {cc : ByteArray} {pc : Nat} {ls : Array Slot} {rest : List Value} {G : Gam} {σ : St} (hx : p.tables.exec = Jvm.exec) (hb : c.code = cc) (hown : s.vm.findClass RX3 = some m.cls) (hW : WX G σ s H) {j : Nat} (hj : j < 12) (hdg : decode cc pc = .ok (.getfield 89, 3)) (kk : W p l e R s m args below meth c H locs cells slots Q (F0 m (pc + 3) ls (.ref (ga G (3 * j + 16)) :: rest))) : W p l e R s m args below meth c H locs cells slots Q (F0 m pc ls (.ref (ga G (3 * j + 14)) :: rest)) :=
  wd_getN (f := fun i => cX G (σ i) i) hx hb (C := RX2) (T := TX2) (N := 6) (ci := 2) hown hW.2.2.2.1 hW.2.1 hW.1 (i := 3 * j + 14) (by omega) (cX_s hj) rfl inX2 4 (by decide) (hW.2.2.2.2.use (w := .fieldLinkNest RX3 89 RX2 "trail" "[I" RX3) 10 rfl) rfl hdg kk
theorem rd_X0_59 {p : Program} {l : Launch} {e : Env} {R : Room} {s : State} {m : MethodId} {args : Array Value} {below : List Frame} {meth : Method} {c : Code} {H : Heap} {locs : List Loc} {cells slots : Nat} {Q : State → Prop} {cc : ByteArray} {pc : Nat} {ls : Array Slot} {rest : List Value} {G : Gam} {σ : St} (hx : p.tables.exec = Jvm.exec) (hb : c.code = cc) (hown : s.vm.findClass RX0 = some m.cls) (hW : WX G σ s H) {j : Nat} (hj : j < 12) (hdg : decode cc pc = .ok (.getfield 59, 3)) (kk : W p l e R s m args below meth c H locs cells slots Q (F0 m (pc + 3) ls (.int (σ (3 * j + 14) 0) :: rest))) : W p l e R s m args below meth c H locs cells slots Q (F0 m pc ls (.ref (ga G (3 * j + 14)) :: rest)) :=
  wd_getN (f := fun i => cX G (σ i) i) hx hb (C := RX2) (T := TX2) (N := 6) (ci := 2) hown hW.2.2.2.1 hW.2.1 hW.1 (i := 3 * j + 14) (by omega) (cX_s hj) rfl inX2 0 (by decide) (hW.2.2.2.2.use (w := .fieldLinkNest RX0 59 RX2 "kind" "I" RX3) 12 rfl) rfl hdg kk
theorem wr_X0_59 {p : Program} {l : Launch} {e : Env} {R : Room} {s : State} {m : MethodId} {args : Array Value} {below : List Frame} {meth : Method} {c : Code} {H : Heap} {locs : List Loc} {cells slots : Nat} {Q : State → Prop} {cc : ByteArray} {pc : Nat} {ls : Array Slot} {rest : List Value} {G : Gam} {σ : St} {H0 : Heap} {v : Int32} (hx : p.tables.exec = Jvm.exec) (hb : c.code = cc) (hown : s.vm.findClass RX0 = some m.cls) (hW : WX G σ s H) (hS : va_S (aX G) H0 H locs) {j : Nat} (hj : j < 12) (hdg : decode cc pc = .ok (.putfield 59, 3)) (kk : ∀ (H1 : Heap) (locs1 : List Loc), WX G (up2 σ (3 * j + 14) 0 v) s H1 → va_S (aX G) H0 H1 locs1 → W p l e R s m args below meth c H1 locs1 cells slots Q (F0 m (pc + 3) ls rest)) : W p l e R s m args below meth c H locs cells slots Q (F0 m pc ls (.int v :: .ref (ga G (3 * j + 14)) :: rest)) :=
  wd_putN (f := fun i => cX G (σ i) i) (g := fun i => cX G (up2 σ (3 * j + 14) 0 v i) i) hx hb (C := RX2) (T := TX2) (N := 6) (ci := 2) tyX2 tyX2_ok nmX2 hown hW.2.2.2.1 hW.2.1 hW.2.2.1 hW.1 hS (i := 3 * j + 14) (by omega) (cX_s hj) rfl inX2 0 (by decide) (hW.2.2.2.2.use (w := .fieldLinkNest RX0 59 RX2 "kind" "I" RX3) 12 rfl) rfl (ty := .int) (v := .int v) (by decide +kernel) rfl rfl (Nat.le_of_ble_eq_true rfl) (by show cX G (up2 σ (3 * j + 14) 0 v (3 * j + 14)) (3 * j + 14) = _; rw [up2_row, cX_s hj]; rfl) (fun j9 _ hne => by show cX G (up2 σ (3 * j + 14) 0 v j9) j9 = cX G (σ j9) j9; rw [up2_ne hne]) hdg (fun H1 locs1 h1 h2 => kk H1 locs1 ⟨h1, hW.2⟩ h2)
theorem rd_X0_94 {p : Program} {l : Launch} {e : Env} {R : Room} {s : State} {m : MethodId} {args : Array Value} {below : List Frame} {meth : Method} {c : Code} {H : Heap} {locs : List Loc} {cells slots : Nat} {Q : State → Prop} {cc : ByteArray} {pc : Nat} {ls : Array Slot} {rest : List Value} {G : Gam} {σ : St} (hx : p.tables.exec = Jvm.exec) (hb : c.code = cc) (hown : s.vm.findClass RX0 = some m.cls) (hW : WX G σ s H) {j : Nat} (hj : j < 12) (hdg : decode cc pc = .ok (.getfield 94, 3)) (kk : W p l e R s m args below meth c H locs cells slots Q (F0 m (pc + 3) ls (.int (σ (3 * j + 14) 5) :: rest))) : W p l e R s m args below meth c H locs cells slots Q (F0 m pc ls (.ref (ga G (3 * j + 14)) :: rest)) :=
  wd_getN (f := fun i => cX G (σ i) i) hx hb (C := RX2) (T := TX2) (N := 6) (ci := 2) hown hW.2.2.2.1 hW.2.1 hW.1 (i := 3 * j + 14) (by omega) (cX_s hj) rfl inX2 5 (by decide) (hW.2.2.2.2.use (w := .fieldLinkNest RX0 94 RX2 "places" "I" RX3) 14 rfl) rfl hdg kk
theorem wr_X0_94 {p : Program} {l : Launch} {e : Env} {R : Room} {s : State} {m : MethodId} {args : Array Value} {below : List Frame} {meth : Method} {c : Code} {H : Heap} {locs : List Loc} {cells slots : Nat} {Q : State → Prop} {cc : ByteArray} {pc : Nat} {ls : Array Slot} {rest : List Value} {G : Gam} {σ : St} {H0 : Heap} {v : Int32} (hx : p.tables.exec = Jvm.exec) (hb : c.code = cc) (hown : s.vm.findClass RX0 = some m.cls) (hW : WX G σ s H) (hS : va_S (aX G) H0 H locs) {j : Nat} (hj : j < 12) (hdg : decode cc pc = .ok (.putfield 94, 3)) (kk : ∀ (H1 : Heap) (locs1 : List Loc), WX G (up2 σ (3 * j + 14) 5 v) s H1 → va_S (aX G) H0 H1 locs1 → W p l e R s m args below meth c H1 locs1 cells slots Q (F0 m (pc + 3) ls rest)) : W p l e R s m args below meth c H locs cells slots Q (F0 m pc ls (.int v :: .ref (ga G (3 * j + 14)) :: rest)) :=
  wd_putN (f := fun i => cX G (σ i) i) (g := fun i => cX G (up2 σ (3 * j + 14) 5 v i) i) hx hb (C := RX2) (T := TX2) (N := 6) (ci := 2) tyX2 tyX2_ok nmX2 hown hW.2.2.2.1 hW.2.1 hW.2.2.1 hW.1 hS (i := 3 * j + 14) (by omega) (cX_s hj) rfl inX2 5 (by decide) (hW.2.2.2.2.use (w := .fieldLinkNest RX0 94 RX2 "places" "I" RX3) 14 rfl) rfl (ty := .int) (v := .int v) (by decide +kernel) rfl rfl (Nat.le_of_ble_eq_true rfl) (by show cX G (up2 σ (3 * j + 14) 5 v (3 * j + 14)) (3 * j + 14) = _; rw [up2_row, cX_s hj]; rfl) (fun j9 _ hne => by show cX G (up2 σ (3 * j + 14) 5 v j9) j9 = cX G (σ j9) j9; rw [up2_ne hne]) hdg (fun H1 locs1 h1 h2 => kk H1 locs1 ⟨h1, hW.2⟩ h2)
theorem rd_X0_70 {p : Program} {l : Launch} {e : Env} {R : Room} {s : State} {m : MethodId} {args : Array Value} {below : List Frame} {meth : Method} {c : Code} {H : Heap} {locs : List Loc} {cells slots : Nat} {Q : State → Prop} {cc : ByteArray} {pc : Nat} {ls : Array Slot} {rest : List Value} {G : Gam} {σ : St} (hx : p.tables.exec = Jvm.exec) (hb : c.code = cc) (hown : s.vm.findClass RX0 = some m.cls) (hW : WX G σ s H) {j : Nat} (hj : j < 12) (hdg : decode cc pc = .ok (.getfield 70, 3)) (kk : W p l e R s m args below meth c H locs cells slots Q (F0 m (pc + 3) ls (.int (σ (3 * j + 14) 2) :: rest))) : W p l e R s m args below meth c H locs cells slots Q (F0 m pc ls (.ref (ga G (3 * j + 14)) :: rest)) :=
  wd_getN (f := fun i => cX G (σ i) i) hx hb (C := RX2) (T := TX2) (N := 6) (ci := 2) hown hW.2.2.2.1 hW.2.1 hW.1 (i := 3 * j + 14) (by omega) (cX_s hj) rfl inX2 2 (by decide) (hW.2.2.2.2.use (w := .fieldLinkNest RX0 70 RX2 "stepCount" "I" RX3) 13 rfl) rfl hdg kk
theorem wr_X0_70 {p : Program} {l : Launch} {e : Env} {R : Room} {s : State} {m : MethodId} {args : Array Value} {below : List Frame} {meth : Method} {c : Code} {H : Heap} {locs : List Loc} {cells slots : Nat} {Q : State → Prop} {cc : ByteArray} {pc : Nat} {ls : Array Slot} {rest : List Value} {G : Gam} {σ : St} {H0 : Heap} {v : Int32} (hx : p.tables.exec = Jvm.exec) (hb : c.code = cc) (hown : s.vm.findClass RX0 = some m.cls) (hW : WX G σ s H) (hS : va_S (aX G) H0 H locs) {j : Nat} (hj : j < 12) (hdg : decode cc pc = .ok (.putfield 70, 3)) (kk : ∀ (H1 : Heap) (locs1 : List Loc), WX G (up2 σ (3 * j + 14) 2 v) s H1 → va_S (aX G) H0 H1 locs1 → W p l e R s m args below meth c H1 locs1 cells slots Q (F0 m (pc + 3) ls rest)) : W p l e R s m args below meth c H locs cells slots Q (F0 m pc ls (.int v :: .ref (ga G (3 * j + 14)) :: rest)) :=
  wd_putN (f := fun i => cX G (σ i) i) (g := fun i => cX G (up2 σ (3 * j + 14) 2 v i) i) hx hb (C := RX2) (T := TX2) (N := 6) (ci := 2) tyX2 tyX2_ok nmX2 hown hW.2.2.2.1 hW.2.1 hW.2.2.1 hW.1 hS (i := 3 * j + 14) (by omega) (cX_s hj) rfl inX2 2 (by decide) (hW.2.2.2.2.use (w := .fieldLinkNest RX0 70 RX2 "stepCount" "I" RX3) 13 rfl) rfl (ty := .int) (v := .int v) (by decide +kernel) rfl rfl (Nat.le_of_ble_eq_true rfl) (by show cX G (up2 σ (3 * j + 14) 2 v (3 * j + 14)) (3 * j + 14) = _; rw [up2_row, cX_s hj]; rfl) (fun j9 _ hne => by show cX G (up2 σ (3 * j + 14) 2 v j9) j9 = cX G (σ j9) j9; rw [up2_ne hne]) hdg (fun H1 locs1 h1 h2 => kk H1 locs1 ⟨h1, hW.2⟩ h2)
theorem al_letters {p : Program} {l : Launch} {e : Env} {R : Room} {s : State} {m : MethodId} {args : Array Value} {below : List Frame} {meth : Method} {c : Code} {H : Heap} {locs : List Loc} {cells slots : Nat} {Q : State → Prop} {cc : ByteArray} {pc : Nat} {ls : Array Slot} {rest : List Value} {G : Gam} {σ : St} {x : Int32} {k : Nat} (hx : p.tables.exec = Jvm.exec) (hb : c.code = cc) (hW : WX G σ s H)  (hxk : x = nI k) (hk : k < 32) (hdg : decode cc pc = .ok (.caload, 1)) (kk : W p l e R s m args below meth c H locs cells slots Q (F0 m (pc + 1) ls (.int (σ (2) k) :: rest))) : W p l e R s m args below meth c H locs cells slots Q (F0 m pc ls (.int x :: .ref (ga G (2)) :: rest)) :=
  wd_cald (f := fun i => cX G (σ i) i) hx hb hW.2.1 hW.1 1 (i := 2) (by omega) (cX_2) rfl hxk hk (by omega) hdg kk
theorem as_letters {p : Program} {l : Launch} {e : Env} {R : Room} {s : State} {m : MethodId} {args : Array Value} {below : List Frame} {meth : Method} {c : Code} {H : Heap} {locs : List Loc} {cells slots : Nat} {Q : State → Prop} {cc : ByteArray} {pc : Nat} {ls : Array Slot} {rest : List Value} {G : Gam} {σ : St} {H0 : Heap} {x v : Int32} {k : Nat} (hx : p.tables.exec = Jvm.exec) (hb : c.code = cc) (hW : WX G σ s H) (hS : va_S (aX G) H0 H locs)  (hxk : x = nI k) (hk : k < 32) (hv : vp_nar .char v = v) (hdg : decode cc pc = .ok (.castore, 1)) (kk : ∀ (H1 : Heap) (locs1 : List Loc), WX G (up2 σ (2) k v) s H1 → va_S (aX G) H0 H1 locs1 → W p l e R s m args below meth c H1 locs1 cells slots Q (F0 m (pc + 1) ls rest)) : W p l e R s m args below meth c H locs cells slots Q (F0 m pc ls (.int v :: .int x :: .ref (ga G (2)) :: rest)) :=
  wd_cast (f := fun i => cX G (σ i) i) (g := fun i => cX G (up2 σ (2) k v i) i) hx hb hW.2.1 hW.2.2.1 hW.1 hS 1 (i := 2) (by omega) (cX_2) rfl hxk hk (by omega) hv (by show cX G (up2 σ (2) k v (2)) (2) = _; rw [up2_row, cX_2]) (fun j9 _ hne => by show cX G (up2 σ (2) k v j9) j9 = cX G (σ j9) j9; rw [up2_ne hne]) hdg (fun H1 locs1 h1 h2 => kk H1 locs1 ⟨h1, hW.2⟩ h2)
theorem al_drawn {p : Program} {l : Launch} {e : Env} {R : Room} {s : State} {m : MethodId} {args : Array Value} {below : List Frame} {meth : Method} {c : Code} {H : Heap} {locs : List Loc} {cells slots : Nat} {Q : State → Prop} {cc : ByteArray} {pc : Nat} {ls : Array Slot} {rest : List Value} {G : Gam} {σ : St} {x : Int32} {k : Nat} (hx : p.tables.exec = Jvm.exec) (hb : c.code = cc) (hW : WX G σ s H)  (hxk : x = nI k) (hk : k < 6) (hdg : decode cc pc = .ok (.iaload, 1)) (kk : W p l e R s m args below meth c H locs cells slots Q (F0 m (pc + 1) ls (.int (σ (3) k) :: rest))) : W p l e R s m args below meth c H locs cells slots Q (F0 m pc ls (.int x :: .ref (ga G (3)) :: rest)) :=
  wd_ald (f := fun i => cX G (σ i) i) hx hb hW.2.1 hW.1 0 (i := 3) (by omega) (cX_3) rfl hxk hk (by omega) hdg kk
theorem as_drawn {p : Program} {l : Launch} {e : Env} {R : Room} {s : State} {m : MethodId} {args : Array Value} {below : List Frame} {meth : Method} {c : Code} {H : Heap} {locs : List Loc} {cells slots : Nat} {Q : State → Prop} {cc : ByteArray} {pc : Nat} {ls : Array Slot} {rest : List Value} {G : Gam} {σ : St} {H0 : Heap} {x v : Int32} {k : Nat} (hx : p.tables.exec = Jvm.exec) (hb : c.code = cc) (hW : WX G σ s H) (hS : va_S (aX G) H0 H locs)  (hxk : x = nI k) (hk : k < 6) (hdg : decode cc pc = .ok (.iastore, 1)) (kk : ∀ (H1 : Heap) (locs1 : List Loc), WX G (up2 σ (3) k v) s H1 → va_S (aX G) H0 H1 locs1 → W p l e R s m args below meth c H1 locs1 cells slots Q (F0 m (pc + 1) ls rest)) : W p l e R s m args below meth c H locs cells slots Q (F0 m pc ls (.int v :: .int x :: .ref (ga G (3)) :: rest)) :=
  wd_ast (f := fun i => cX G (σ i) i) (g := fun i => cX G (up2 σ (3) k v i) i) hx hb hW.2.1 hW.2.2.1 hW.1 hS 0 (i := 3) (by omega) (cX_3) rfl hxk hk (by omega) (by show cX G (up2 σ (3) k v (3)) (3) = _; rw [up2_row, cX_3]) (fun j9 _ hne => by show cX G (up2 σ (3) k v j9) j9 = cX G (σ j9) j9; rw [up2_ne hne]) hdg (fun H1 locs1 h1 h2 => kk H1 locs1 ⟨h1, hW.2⟩ h2)
theorem al_lateBy {p : Program} {l : Launch} {e : Env} {R : Room} {s : State} {m : MethodId} {args : Array Value} {below : List Frame} {meth : Method} {c : Code} {H : Heap} {locs : List Loc} {cells slots : Nat} {Q : State → Prop} {cc : ByteArray} {pc : Nat} {ls : Array Slot} {rest : List Value} {G : Gam} {σ : St} {x : Int32} {k : Nat} (hx : p.tables.exec = Jvm.exec) (hb : c.code = cc) (hW : WX G σ s H) {h : Nat} (hh : h < 2) (hxk : x = nI k) (hk : k < 6) (hdg : decode cc pc = .ok (.iaload, 1)) (kk : W p l e R s m args below meth c H locs cells slots Q (F0 m (pc + 1) ls (.int (σ (5 * h + 6) k) :: rest))) : W p l e R s m args below meth c H locs cells slots Q (F0 m pc ls (.int x :: .ref (ga G (5 * h + 6)) :: rest)) :=
  wd_ald (f := fun i => cX G (σ i) i) hx hb hW.2.1 hW.1 0 (i := 5 * h + 6) (by omega) (cX_h6 hh) rfl hxk hk (by omega) hdg kk
theorem as_lateBy {p : Program} {l : Launch} {e : Env} {R : Room} {s : State} {m : MethodId} {args : Array Value} {below : List Frame} {meth : Method} {c : Code} {H : Heap} {locs : List Loc} {cells slots : Nat} {Q : State → Prop} {cc : ByteArray} {pc : Nat} {ls : Array Slot} {rest : List Value} {G : Gam} {σ : St} {H0 : Heap} {x v : Int32} {k : Nat} (hx : p.tables.exec = Jvm.exec) (hb : c.code = cc) (hW : WX G σ s H) (hS : va_S (aX G) H0 H locs) {h : Nat} (hh : h < 2) (hxk : x = nI k) (hk : k < 6) (hdg : decode cc pc = .ok (.iastore, 1)) (kk : ∀ (H1 : Heap) (locs1 : List Loc), WX G (up2 σ (5 * h + 6) k v) s H1 → va_S (aX G) H0 H1 locs1 → W p l e R s m args below meth c H1 locs1 cells slots Q (F0 m (pc + 1) ls rest)) : W p l e R s m args below meth c H locs cells slots Q (F0 m pc ls (.int v :: .int x :: .ref (ga G (5 * h + 6)) :: rest)) :=
  wd_ast (f := fun i => cX G (σ i) i) (g := fun i => cX G (up2 σ (5 * h + 6) k v i) i) hx hb hW.2.1 hW.2.2.1 hW.1 hS 0 (i := 5 * h + 6) (by omega) (cX_h6 hh) rfl hxk hk (by omega) (by show cX G (up2 σ (5 * h + 6) k v (5 * h + 6)) (5 * h + 6) = _; rw [up2_row, cX_h6 hh]) (fun j9 _ hne => by show cX G (up2 σ (5 * h + 6) k v j9) j9 = cX G (σ j9) j9; rw [up2_ne hne]) hdg (fun H1 locs1 h1 h2 => kk H1 locs1 ⟨h1, hW.2⟩ h2)
theorem al_seenP {p : Program} {l : Launch} {e : Env} {R : Room} {s : State} {m : MethodId} {args : Array Value} {below : List Frame} {meth : Method} {c : Code} {H : Heap} {locs : List Loc} {cells slots : Nat} {Q : State → Prop} {cc : ByteArray} {pc : Nat} {ls : Array Slot} {rest : List Value} {G : Gam} {σ : St} {x : Int32} {k : Nat} (hx : p.tables.exec = Jvm.exec) (hb : c.code = cc) (hW : WX G σ s H) {h : Nat} (hh : h < 2) (hxk : x = nI k) (hk : k < 8) (hdg : decode cc pc = .ok (.iaload, 1)) (kk : W p l e R s m args below meth c H locs cells slots Q (F0 m (pc + 1) ls (.int (σ (5 * h + 7) k) :: rest))) : W p l e R s m args below meth c H locs cells slots Q (F0 m pc ls (.int x :: .ref (ga G (5 * h + 7)) :: rest)) :=
  wd_ald (f := fun i => cX G (σ i) i) hx hb hW.2.1 hW.1 0 (i := 5 * h + 7) (by omega) (cX_h7 hh) rfl hxk hk (by omega) hdg kk
theorem as_seenP {p : Program} {l : Launch} {e : Env} {R : Room} {s : State} {m : MethodId} {args : Array Value} {below : List Frame} {meth : Method} {c : Code} {H : Heap} {locs : List Loc} {cells slots : Nat} {Q : State → Prop} {cc : ByteArray} {pc : Nat} {ls : Array Slot} {rest : List Value} {G : Gam} {σ : St} {H0 : Heap} {x v : Int32} {k : Nat} (hx : p.tables.exec = Jvm.exec) (hb : c.code = cc) (hW : WX G σ s H) (hS : va_S (aX G) H0 H locs) {h : Nat} (hh : h < 2) (hxk : x = nI k) (hk : k < 8) (hdg : decode cc pc = .ok (.iastore, 1)) (kk : ∀ (H1 : Heap) (locs1 : List Loc), WX G (up2 σ (5 * h + 7) k v) s H1 → va_S (aX G) H0 H1 locs1 → W p l e R s m args below meth c H1 locs1 cells slots Q (F0 m (pc + 1) ls rest)) : W p l e R s m args below meth c H locs cells slots Q (F0 m pc ls (.int v :: .int x :: .ref (ga G (5 * h + 7)) :: rest)) :=
  wd_ast (f := fun i => cX G (σ i) i) (g := fun i => cX G (up2 σ (5 * h + 7) k v i) i) hx hb hW.2.1 hW.2.2.1 hW.1 hS 0 (i := 5 * h + 7) (by omega) (cX_h7 hh) rfl hxk hk (by omega) (by show cX G (up2 σ (5 * h + 7) k v (5 * h + 7)) (5 * h + 7) = _; rw [up2_row, cX_h7 hh]) (fun j9 _ hne => by show cX G (up2 σ (5 * h + 7) k v j9) j9 = cX G (σ j9) j9; rw [up2_ne hne]) hdg (fun H1 locs1 h1 h2 => kk H1 locs1 ⟨h1, hW.2⟩ h2)
theorem al_seenH {p : Program} {l : Launch} {e : Env} {R : Room} {s : State} {m : MethodId} {args : Array Value} {below : List Frame} {meth : Method} {c : Code} {H : Heap} {locs : List Loc} {cells slots : Nat} {Q : State → Prop} {cc : ByteArray} {pc : Nat} {ls : Array Slot} {rest : List Value} {G : Gam} {σ : St} {x : Int32} {k : Nat} (hx : p.tables.exec = Jvm.exec) (hb : c.code = cc) (hW : WX G σ s H) {h : Nat} (hh : h < 2) (hxk : x = nI k) (hk : k < 8) (hdg : decode cc pc = .ok (.iaload, 1)) (kk : W p l e R s m args below meth c H locs cells slots Q (F0 m (pc + 1) ls (.int (σ (5 * h + 8) k) :: rest))) : W p l e R s m args below meth c H locs cells slots Q (F0 m pc ls (.int x :: .ref (ga G (5 * h + 8)) :: rest)) :=
  wd_ald (f := fun i => cX G (σ i) i) hx hb hW.2.1 hW.1 0 (i := 5 * h + 8) (by omega) (cX_h8 hh) rfl hxk hk (by omega) hdg kk
theorem as_seenH {p : Program} {l : Launch} {e : Env} {R : Room} {s : State} {m : MethodId} {args : Array Value} {below : List Frame} {meth : Method} {c : Code} {H : Heap} {locs : List Loc} {cells slots : Nat} {Q : State → Prop} {cc : ByteArray} {pc : Nat} {ls : Array Slot} {rest : List Value} {G : Gam} {σ : St} {H0 : Heap} {x v : Int32} {k : Nat} (hx : p.tables.exec = Jvm.exec) (hb : c.code = cc) (hW : WX G σ s H) (hS : va_S (aX G) H0 H locs) {h : Nat} (hh : h < 2) (hxk : x = nI k) (hk : k < 8) (hdg : decode cc pc = .ok (.iastore, 1)) (kk : ∀ (H1 : Heap) (locs1 : List Loc), WX G (up2 σ (5 * h + 8) k v) s H1 → va_S (aX G) H0 H1 locs1 → W p l e R s m args below meth c H1 locs1 cells slots Q (F0 m (pc + 1) ls rest)) : W p l e R s m args below meth c H locs cells slots Q (F0 m pc ls (.int v :: .int x :: .ref (ga G (5 * h + 8)) :: rest)) :=
  wd_ast (f := fun i => cX G (σ i) i) (g := fun i => cX G (up2 σ (5 * h + 8) k v i) i) hx hb hW.2.1 hW.2.2.1 hW.1 hS 0 (i := 5 * h + 8) (by omega) (cX_h8 hh) rfl hxk hk (by omega) (by show cX G (up2 σ (5 * h + 8) k v (5 * h + 8)) (5 * h + 8) = _; rw [up2_row, cX_h8 hh]) (fun j9 _ hne => by show cX G (up2 σ (5 * h + 8) k v j9) j9 = cX G (σ j9) j9; rw [up2_ne hne]) hdg (fun H1 locs1 h1 h2 => kk H1 locs1 ⟨h1, hW.2⟩ h2)
theorem al_way {p : Program} {l : Launch} {e : Env} {R : Room} {s : State} {m : MethodId} {args : Array Value} {below : List Frame} {meth : Method} {c : Code} {H : Heap} {locs : List Loc} {cells slots : Nat} {Q : State → Prop} {cc : ByteArray} {pc : Nat} {ls : Array Slot} {rest : List Value} {G : Gam} {σ : St} {x : Int32} {k : Nat} (hx : p.tables.exec = Jvm.exec) (hb : c.code = cc) (hW : WX G σ s H) {j : Nat} (hj : j < 12) (hxk : x = nI k) (hk : k < 5) (hdg : decode cc pc = .ok (.iaload, 1)) (kk : W p l e R s m args below meth c H locs cells slots Q (F0 m (pc + 1) ls (.int (σ (3 * j + 15) k) :: rest))) : W p l e R s m args below meth c H locs cells slots Q (F0 m pc ls (.int x :: .ref (ga G (3 * j + 15)) :: rest)) :=
  wd_ald (f := fun i => cX G (σ i) i) hx hb hW.2.1 hW.1 0 (i := 3 * j + 15) (by omega) (cX_way hj) rfl hxk hk (by omega) hdg kk
theorem as_way {p : Program} {l : Launch} {e : Env} {R : Room} {s : State} {m : MethodId} {args : Array Value} {below : List Frame} {meth : Method} {c : Code} {H : Heap} {locs : List Loc} {cells slots : Nat} {Q : State → Prop} {cc : ByteArray} {pc : Nat} {ls : Array Slot} {rest : List Value} {G : Gam} {σ : St} {H0 : Heap} {x v : Int32} {k : Nat} (hx : p.tables.exec = Jvm.exec) (hb : c.code = cc) (hW : WX G σ s H) (hS : va_S (aX G) H0 H locs) {j : Nat} (hj : j < 12) (hxk : x = nI k) (hk : k < 5) (hdg : decode cc pc = .ok (.iastore, 1)) (kk : ∀ (H1 : Heap) (locs1 : List Loc), WX G (up2 σ (3 * j + 15) k v) s H1 → va_S (aX G) H0 H1 locs1 → W p l e R s m args below meth c H1 locs1 cells slots Q (F0 m (pc + 1) ls rest)) : W p l e R s m args below meth c H locs cells slots Q (F0 m pc ls (.int v :: .int x :: .ref (ga G (3 * j + 15)) :: rest)) :=
  wd_ast (f := fun i => cX G (σ i) i) (g := fun i => cX G (up2 σ (3 * j + 15) k v i) i) hx hb hW.2.1 hW.2.2.1 hW.1 hS 0 (i := 3 * j + 15) (by omega) (cX_way hj) rfl hxk hk (by omega) (by show cX G (up2 σ (3 * j + 15) k v (3 * j + 15)) (3 * j + 15) = _; rw [up2_row, cX_way hj]) (fun j9 _ hne => by show cX G (up2 σ (3 * j + 15) k v j9) j9 = cX G (σ j9) j9; rw [up2_ne hne]) hdg (fun H1 locs1 h1 h2 => kk H1 locs1 ⟨h1, hW.2⟩ h2)
theorem al_trail {p : Program} {l : Launch} {e : Env} {R : Room} {s : State} {m : MethodId} {args : Array Value} {below : List Frame} {meth : Method} {c : Code} {H : Heap} {locs : List Loc} {cells slots : Nat} {Q : State → Prop} {cc : ByteArray} {pc : Nat} {ls : Array Slot} {rest : List Value} {G : Gam} {σ : St} {x : Int32} {k : Nat} (hx : p.tables.exec = Jvm.exec) (hb : c.code = cc) (hW : WX G σ s H) {j : Nat} (hj : j < 12) (hxk : x = nI k) (hk : k < 31) (hdg : decode cc pc = .ok (.iaload, 1)) (kk : W p l e R s m args below meth c H locs cells slots Q (F0 m (pc + 1) ls (.int (σ (3 * j + 16) k) :: rest))) : W p l e R s m args below meth c H locs cells slots Q (F0 m pc ls (.int x :: .ref (ga G (3 * j + 16)) :: rest)) :=
  wd_ald (f := fun i => cX G (σ i) i) hx hb hW.2.1 hW.1 0 (i := 3 * j + 16) (by omega) (cX_trail hj) rfl hxk hk (by omega) hdg kk
theorem as_trail {p : Program} {l : Launch} {e : Env} {R : Room} {s : State} {m : MethodId} {args : Array Value} {below : List Frame} {meth : Method} {c : Code} {H : Heap} {locs : List Loc} {cells slots : Nat} {Q : State → Prop} {cc : ByteArray} {pc : Nat} {ls : Array Slot} {rest : List Value} {G : Gam} {σ : St} {H0 : Heap} {x v : Int32} {k : Nat} (hx : p.tables.exec = Jvm.exec) (hb : c.code = cc) (hW : WX G σ s H) (hS : va_S (aX G) H0 H locs) {j : Nat} (hj : j < 12) (hxk : x = nI k) (hk : k < 31) (hdg : decode cc pc = .ok (.iastore, 1)) (kk : ∀ (H1 : Heap) (locs1 : List Loc), WX G (up2 σ (3 * j + 16) k v) s H1 → va_S (aX G) H0 H1 locs1 → W p l e R s m args below meth c H1 locs1 cells slots Q (F0 m (pc + 1) ls rest)) : W p l e R s m args below meth c H locs cells slots Q (F0 m pc ls (.int v :: .int x :: .ref (ga G (3 * j + 16)) :: rest)) :=
  wd_ast (f := fun i => cX G (σ i) i) (g := fun i => cX G (up2 σ (3 * j + 16) k v i) i) hx hb hW.2.1 hW.2.2.1 hW.1 hS 0 (i := 3 * j + 16) (by omega) (cX_trail hj) rfl hxk hk (by omega) (by show cX G (up2 σ (3 * j + 16) k v (3 * j + 16)) (3 * j + 16) = _; rw [up2_row, cX_trail hj]) (fun j9 _ hne => by show cX G (up2 σ (3 * j + 16) k v j9) j9 = cX G (σ j9) j9; rw [up2_ne hne]) hdg (fun H1 locs1 h1 h2 => kk H1 locs1 ⟨h1, hW.2⟩ h2)
theorem al_sticks {p : Program} {l : Launch} {e : Env} {R : Room} {s : State} {m : MethodId} {args : Array Value} {below : List Frame} {meth : Method} {c : Code} {H : Heap} {locs : List Loc} {cells slots : Nat} {Q : State → Prop} {cc : ByteArray} {pc : Nat} {ls : Array Slot} {rest : List Value} {G : Gam} {σ : St} {x : Int32} {k : Nat} (hx : p.tables.exec = Jvm.exec) (hb : c.code = cc) (hW : WX G σ s H) {h : Nat} (hh : h < 2) (hxk : x = nI k) (hk : k < 6) (hdg : decode cc pc = .ok (.aaload, 1)) (kk : W p l e R s m args below meth c H locs cells slots Q (F0 m (pc + 1) ls (.ref (ga G (3 * (6 * h + k) + 14)) :: rest))) : W p l e R s m args below meth c H locs cells slots Q (F0 m pc ls (.int x :: .ref (ga G (5 * h + 5)) :: rest)) :=
  wd_aald (f := fun i => cX G (σ i) i) hx hb hW.2.1 hW.1 2 (i := 5 * h + 5) (by omega) (cX_hs hh) rfl hxk hk (by omega) rfl hdg kk
theorem al_M {p : Program} {l : Launch} {e : Env} {R : Room} {s : State} {m : MethodId} {args : Array Value} {below : List Frame} {meth : Method} {c : Code} {H : Heap} {locs : List Loc} {cells slots : Nat} {Q : State → Prop} {cc : ByteArray} {pc : Nat} {ls : Array Slot} {rest : List Value} {G : Gam} {μ : St} {hs : Int64} {x : Int32} {k : Nat} (i : Nat) (hx : p.tables.exec = Jvm.exec) (hb : c.code = cc) (hW : WM G μ hs s H) (hxk : x = nI k) (hk : k < lM i) (hdg : decode cc pc = .ok (.iaload, 1)) (kk : W p l e R s m args below meth c H locs cells slots Q (F0 m (pc + 1) ls (.int (μ i k) :: rest))) (hi : i ≠ 0 := by decide) (hi2 : i < 10 := by decide) (hl : lM i ≤ 64 := by decide) : W p l e R s m args below meth c H locs cells slots Q (F0 m pc ls (.int x :: .ref (gm G i) :: rest)) :=
  wd_ald (f := fun i => cM G hs (μ i) i) hx hb hW.2.1 hW.1 0 (i := i) hi2 (cM_a hi) rfl hxk hk hl hdg kk
theorem as_M {p : Program} {l : Launch} {e : Env} {R : Room} {s : State} {m : MethodId} {args : Array Value} {below : List Frame} {meth : Method} {c : Code} {H : Heap} {locs : List Loc} {cells slots : Nat} {Q : State → Prop} {cc : ByteArray} {pc : Nat} {ls : Array Slot} {rest : List Value} {G : Gam} {μ : St} {hs : Int64} {H0 : Heap} {x v : Int32} {k : Nat} (i : Nat) (hx : p.tables.exec = Jvm.exec) (hb : c.code = cc) (hW : WM G μ hs s H) (hS : va_S (aM G) H0 H locs) (hxk : x = nI k) (hk : k < lM i) (hdg : decode cc pc = .ok (.iastore, 1)) (kk : ∀ (H1 : Heap) (locs1 : List Loc), WM G (up2 μ i k v) hs s H1 → va_S (aM G) H0 H1 locs1 → W p l e R s m args below meth c H1 locs1 cells slots Q (F0 m (pc + 1) ls rest)) (hi : i ≠ 0 := by decide) (hi2 : i < 10 := by decide) (hl : lM i ≤ 64 := by decide) : W p l e R s m args below meth c H locs cells slots Q (F0 m pc ls (.int v :: .int x :: .ref (gm G i) :: rest)) :=
  wd_ast (f := fun i => cM G hs (μ i) i) (g := fun i9 => cM G hs (up2 μ i k v i9) i9) hx hb hW.2.1 hW.2.2.1 hW.1 hS 0 (i := i) hi2 (cM_a hi) rfl hxk hk hl (by show cM G hs (up2 μ i k v i) i = _; rw [up2_row, cM_a hi]) (fun j9 _ hne => by show cM G hs (up2 μ i k v j9) j9 = cM G hs (μ j9) j9; rw [up2_ne hne]) hdg (fun H1 locs1 h1 h2 => kk H1 locs1 ⟨h1, hW.2⟩ h2)
end
section
/-! ===== LAYER 3: calls ===== -/
def cV (y : MethodName) (bytes : ByteArray) (maxL : Nat) (ret : Option FieldType) (n : Nat) : Prop :=
  Cond.code y bytes maxL ret ∈ lw_tbl ∧ Cond.instanceMethod y ∈ lw_tbl ∧ Cond.selects y.cls y y ∈ lw_tbl ∧ Cond.initialized y.cls ∈ lw_tbl ∧ y.cls ≠ "java/lang/invoke/MethodHandle" ∧ y.cls ≠ "java/lang/invoke/VarHandle" ∧ (parseMethodDescriptor y.desc).map (fun d => d.parameters.length) = some n
def cS (y : MethodName) (bytes : ByteArray) (maxL : Nat) (ret : Option FieldType) (n : Nat) : Prop :=
  Cond.code y bytes maxL ret ∈ lw_tbl ∧ Cond.static y ∈ lw_tbl ∧ Cond.initialized y.cls ∈ lw_tbl ∧ y.cls ≠ "java/lang/invoke/MethodHandle" ∧ y.cls ≠ "java/lang/invoke/VarHandle" ∧ (parseMethodDescriptor y.desc).map (fun d => d.parameters.length) = some n
abbrev w1 (y : MethodName) (bytes : ByteArray) (maxL : Nat) (ret : Option FieldType) : List Cond := [.code y bytes maxL ret]
abbrev RmOk (rm R : Room) (maxL mc ms : Nat) : Prop := rm.cells = mc ∧ rm.slots = ms ∧ rm.frames + 1 ≤ R.frames ∧ 8 + (maxL + 11) + rm.locals ≤ R.locals
theorem parm_of {y : MethodName} {n : Nat} (h : (parseMethodDescriptor y.desc).map (fun d => d.parameters.length) = some n) (sig : MethodDescriptor) (hs : parseMethodDescriptor y.desc = some sig) : n = sig.parameters.length := by
  rw [hs] at h
  exact (Option.some.inj h).symm
section LC
variable {p : Program} {l : Launch} {e : Env} {R : Room} {s : State} {m : MethodId} {args : Array Value} {below : List Frame} {meth : Method} {c : Code} {H : Heap} {locs : List Loc} {cells slots : Nat} {Q : State → Prop}
variable {cc : ByteArray} {pc : Nat} {ls : Array Slot} {rest : List Value} {H0 : Heap} {G : Gam}
variable {own : String} {y : MethodName} {bytes : ByteArray} {maxL n nL q index : Nat} {ret : Option FieldType} {rm : Room} {Pc : Array Value → State → Prop} {Qc : Array Value → State → Outcome → State → Prop} {free : Addr → Prop} {b : Addr} {mc ms : Nat}
theorem xrV (As : List Value) (hx : p.tables.exec = Jvm.exec) (hb : c.code = cc) (hml : c.maxLocals = nL) (hown : s.vm.findClass own = some m.cls) (hG : GW s) (hv : cV y bytes maxL ret n) (hlk : lw_tbl[q]? = some (.methodLink own index y)) (hM : Met l y (w1 y bytes maxL ret) rm Pc Qc mc ms free) (hp : PreV s H y.cls b Pc As) (hn : As.length = n) (hsz : ls.size = nL) (hroom : (rest.map fun v => v.category).sum ≤ 8) (hdg : decode cc pc = .ok (.invokevirtual index, 3)) (hrm : RmOk rm R maxL mc ms) (hf : cells + mc ≤ R.cells ∧ slots + ms ≤ R.slots) :
    va_Run p l e R s m args below meth c H locs cells slots mc ms (F0 m pc ls (As.reverse ++ .ref b :: rest)) rest (Qc (Value.ref b :: As).toArray) free := by
  obtain ⟨h1, h2, h3, h4, h5, h6, h7⟩ := hv
  refine va_runV (Ts := []) (C := y.cls) (nL := nL) (n := n) ⟨hx, hb, hml, hown, fun _ h => by cases h⟩ hM ⟨⟨hrm.1, hrm.2.1, hrm.2.2.1, hrm.2.2.2, ?_, List.mem_singleton.mpr rfl, hG _ h1 rfl args, hG _ h4 rfl args, ⟨h5, h6⟩, parm_of h7, hG.use hlk rfl args⟩, hG _ h2 rfl args, hG _ h3 rfl args⟩ hp rfl hn hsz rfl (lv_room hroom) hdg hf
  intro w hw a' U hW
  rw [List.mem_singleton.mp hw]
  exact (hG.warm hW) _ h1 rfl a'
theorem xrS (As : List Value) (hx : p.tables.exec = Jvm.exec) (hb : c.code = cc) (hml : c.maxLocals = nL) (hown : s.vm.findClass own = some m.cls) (hG : GW s) (hv : cS y bytes maxL ret n) (hlk : lw_tbl[q]? = some (.methodLink own index y)) (hM : Met l y (w1 y bytes maxL ret) rm Pc Qc mc ms free) (hp : PreS s H Pc As) (hn : As.length = n) (hsz : ls.size = nL) (hroom : (rest.map fun v => v.category).sum ≤ 8) (hdg : decode cc pc = .ok (.invokestatic index, 3)) (hrm : RmOk rm R maxL mc ms) (hf : cells + mc ≤ R.cells ∧ slots + ms ≤ R.slots) :
    va_Run p l e R s m args below meth c H locs cells slots mc ms (F0 m pc ls (As.reverse ++ rest)) rest (Qc As.toArray) free := by
  obtain ⟨h1, h2, h4, h5, h6, h7⟩ := hv
  refine va_runS (Ts := []) (nL := nL) (n := n) ⟨hx, hb, hml, hown, fun _ h => by cases h⟩ hM ⟨⟨hrm.1, hrm.2.1, hrm.2.2.1, hrm.2.2.2, ?_, List.mem_singleton.mpr rfl, hG _ h1 rfl args, hG _ h4 rfl args, ⟨h5, h6⟩, parm_of h7, hG.use hlk rfl args⟩, hG _ h2 rfl args⟩ hp rfl hn hsz rfl (lv_room hroom) hdg hf
  intro w hw a' U hW
  rw [List.mem_singleton.mp hw]
  exact (hG.warm hW) _ h1 rfl a'
theorem xrSN (As : List Value) {host : String} (hx : p.tables.exec = Jvm.exec) (hb : c.code = cc) (hml : c.maxLocals = nL) (hown : s.vm.findClass own = some m.cls) (hG : GW s) (hv : cS y bytes maxL ret n) (hlk : va_Nw (.methodLinkNest own index y host) s) (hM : Met l y (w1 y bytes maxL ret) rm Pc Qc mc ms free) (hp : PreS s H Pc As) (hn : As.length = n) (hsz : ls.size = nL) (hroom : (rest.map fun v => v.category).sum ≤ 8) (hdg : decode cc pc = .ok (.invokestatic index, 3)) (hrm : RmOk rm R maxL mc ms) (hf : cells + mc ≤ R.cells ∧ slots + ms ≤ R.slots) :
    va_Run p l e R s m args below meth c H locs cells slots mc ms (F0 m pc ls (As.reverse ++ rest)) rest (Qc As.toArray) free := by
  obtain ⟨h1, h2, h4, h5, h6, h7⟩ := hv
  refine va_runSN (Ts := []) (nL := nL) (n := n) ⟨hx, hb, hml, hown, fun _ h => by cases h⟩ hM ⟨⟨⟨hrm.1, hrm.2.1, hrm.2.2.1, hrm.2.2.2, ?_, List.mem_singleton.mpr rfl⟩, hG _ h1 rfl args, hG _ h4 rfl args, ⟨h5, h6⟩, parm_of h7, va_Nw.use rfl hlk⟩, hG _ h2 rfl args, trivial⟩ hp rfl hn hsz rfl (lv_room hroom) hdg hf
  intro w hw a' U hW
  rw [List.mem_singleton.mp hw]
  exact (hG.warm hW) _ h1 rfl a'
/-! readers: the answer is v, the heap stays -/
theorem cr_i (As : List Value) {v : Int32} (hx : p.tables.exec = Jvm.exec) (hb : c.code = cc) (hml : c.maxLocals = nL) (hown : s.vm.findClass own = some m.cls) (hG : GW s) (hv : cV y bytes maxL ret n) (hlk : lw_tbl[q]? = some (.methodLink own index y)) (hM : Met l y (w1 y bytes maxL ret) rm Pc (vp_Si (fun r => r = v)) 0 0 (fun _ => False)) (hp : PreV s H y.cls b Pc As) (hn : As.length = n) (hsz : ls.size = nL) (hroom : (rest.map fun v => v.category).sum ≤ 8) (hdg : decode cc pc = .ok (.invokevirtual index, 3)) (hrm : RmOk rm R maxL 0 0) (hf : cells + 0 ≤ R.cells ∧ slots + 0 ≤ R.slots)
    (kk : W p l e R s m args below meth c H locs cells slots Q (F0 m (pc + 3) ls (.int v :: rest))) : W p l e R s m args below meth c H locs cells slots Q (F0 m pc ls (As.reverse ++ .ref b :: rest)) :=
  vp_callSi (xrV As hx hb hml hown hG hv hlk hM hp hn hsz hroom hdg hrm hf).run (fun r hr => by rw [hr]; exact kk)
theorem cr_l (As : List Value) {v : Int64} (hx : p.tables.exec = Jvm.exec) (hb : c.code = cc) (hml : c.maxLocals = nL) (hown : s.vm.findClass own = some m.cls) (hG : GW s) (hv : cV y bytes maxL ret n) (hlk : lw_tbl[q]? = some (.methodLink own index y)) (hM : Met l y (w1 y bytes maxL ret) rm Pc (vp_Sl (fun r => r = v)) 0 0 (fun _ => False)) (hp : PreV s H y.cls b Pc As) (hn : As.length = n) (hsz : ls.size = nL) (hroom : (rest.map fun v => v.category).sum ≤ 8) (hdg : decode cc pc = .ok (.invokevirtual index, 3)) (hrm : RmOk rm R maxL 0 0) (hf : cells + 0 ≤ R.cells ∧ slots + 0 ≤ R.slots)
    (kk : W p l e R s m args below meth c H locs cells slots Q (F0 m (pc + 3) ls (.long v :: rest))) : W p l e R s m args below meth c H locs cells slots Q (F0 m pc ls (As.reverse ++ .ref b :: rest)) :=
  vp_callSl (xrV As hx hb hml hown hG hv hlk hM hp hn hsz hroom hdg hrm hf).run (fun r hr => by rw [hr]; exact kk)
theorem cs_i (As : List Value) {v : Int32} (hx : p.tables.exec = Jvm.exec) (hb : c.code = cc) (hml : c.maxLocals = nL) (hown : s.vm.findClass own = some m.cls) (hG : GW s) (hv : cS y bytes maxL ret n) (hlk : lw_tbl[q]? = some (.methodLink own index y)) (hM : Met l y (w1 y bytes maxL ret) rm Pc (vp_Si (fun r => r = v)) 0 0 (fun _ => False)) (hp : PreS s H Pc As) (hn : As.length = n) (hsz : ls.size = nL) (hroom : (rest.map fun v => v.category).sum ≤ 8) (hdg : decode cc pc = .ok (.invokestatic index, 3)) (hrm : RmOk rm R maxL 0 0) (hf : cells + 0 ≤ R.cells ∧ slots + 0 ≤ R.slots)
    (kk : W p l e R s m args below meth c H locs cells slots Q (F0 m (pc + 3) ls (.int v :: rest))) : W p l e R s m args below meth c H locs cells slots Q (F0 m pc ls (As.reverse ++ rest)) :=
  vp_callSi (xrS As hx hb hml hown hG hv hlk hM hp hn hsz hroom hdg hrm hf).run (fun r hr => by rw [hr]; exact kk)
theorem cs_l (As : List Value) {v : Int64} (hx : p.tables.exec = Jvm.exec) (hb : c.code = cc) (hml : c.maxLocals = nL) (hown : s.vm.findClass own = some m.cls) (hG : GW s) (hv : cS y bytes maxL ret n) (hlk : lw_tbl[q]? = some (.methodLink own index y)) (hM : Met l y (w1 y bytes maxL ret) rm Pc (vp_Sl (fun r => r = v)) 0 0 (fun _ => False)) (hp : PreS s H Pc As) (hn : As.length = n) (hsz : ls.size = nL) (hroom : (rest.map fun v => v.category).sum ≤ 8) (hdg : decode cc pc = .ok (.invokestatic index, 3)) (hrm : RmOk rm R maxL 0 0) (hf : cells + 0 ≤ R.cells ∧ slots + 0 ≤ R.slots)
    (kk : W p l e R s m args below meth c H locs cells slots Q (F0 m (pc + 3) ls (.long v :: rest))) : W p l e R s m args below meth c H locs cells slots Q (F0 m pc ls (As.reverse ++ rest)) :=
  vp_callSl (xrS As hx hb hml hown hG hv hlk hM hp hn hsz hroom hdg hrm hf).run (fun r hr => by rw [hr]; exact kk)
theorem cn_i (As : List Value) {host : String} {v : Int32} (hx : p.tables.exec = Jvm.exec) (hb : c.code = cc) (hml : c.maxLocals = nL) (hown : s.vm.findClass own = some m.cls) (hG : GW s) (hv : cS y bytes maxL ret n) (hlk : va_Nw (.methodLinkNest own index y host) s) (hM : Met l y (w1 y bytes maxL ret) rm Pc (vp_Si (fun r => r = v)) 0 0 (fun _ => False)) (hp : PreS s H Pc As) (hn : As.length = n) (hsz : ls.size = nL) (hroom : (rest.map fun v => v.category).sum ≤ 8) (hdg : decode cc pc = .ok (.invokestatic index, 3)) (hrm : RmOk rm R maxL 0 0) (hf : cells + 0 ≤ R.cells ∧ slots + 0 ≤ R.slots)
    (kk : W p l e R s m args below meth c H locs cells slots Q (F0 m (pc + 3) ls (.int v :: rest))) : W p l e R s m args below meth c H locs cells slots Q (F0 m pc ls (As.reverse ++ rest)) :=
  vp_callSi (xrSN As hx hb hml hown hG hv hlk hM hp hn hsz hroom hdg hrm hf).run (fun r hr => by rw [hr]; exact kk)
/-! writers: the callee's new state comes, all outside the world stays -/
abbrev QvX (G : Gam) (post : St → Prop) : Array Value → State → Outcome → State → Prop := va_Qv post (fun σ t => PX G σ t.heap) (aX G)
abbrev QiX (G : Gam) (post : Int32 → St → Prop) : Array Value → State → Outcome → State → Prop := va_Qi post (fun σ t => PX G σ t.heap) (aX G)
abbrev QrX (G : Gam) (i : Nat) (post : St → Prop) : Array Value → State → Outcome → State → Prop := va_Qr post (fun σ a t => a = ga G i ∧ PX G σ t.heap) (aX G)
abbrev StM : Type := St × Int64
abbrev QvM (G : Gam) (post : StM → Prop) : Array Value → State → Outcome → State → Prop := va_Qv post (fun u t => PM G u.1 u.2 t.heap) (aM G)
abbrev QiM (G : Gam) (post : Int32 → StM → Prop) : Array Value → State → Outcome → State → Prop := va_Qi post (fun u t => PM G u.1 u.2 t.heap) (aM G)
abbrev QlM (G : Gam) (post : Int64 → StM → Prop) : Array Value → State → Outcome → State → Prop := va_Ql post (fun u t => PM G u.1 u.2 t.heap) (aM G)
theorem cw_v (As : List Value) {post : St → Prop} (hx : p.tables.exec = Jvm.exec) (hb : c.code = cc) (hml : c.maxLocals = nL) (hown : s.vm.findClass own = some m.cls) (hC : CX G s) (hS : va_S (aX G) H0 H locs) (hv : cV y bytes maxL ret n) (hlk : lw_tbl[q]? = some (.methodLink own index y)) (hM : Met l y (w1 y bytes maxL ret) rm Pc (QvX G post) 0 0 (aX G)) (hp : PreV s H y.cls b Pc As) (hn : As.length = n) (hsz : ls.size = nL) (hroom : (rest.map fun v => v.category).sum ≤ 8) (hdg : decode cc pc = .ok (.invokevirtual index, 3)) (hrm : RmOk rm R maxL 0 0) (hf : cells + 0 ≤ R.cells ∧ slots + 0 ≤ R.slots)
    (kk : ∀ (σ' : St) (H1 : Heap) (locs1 : List Loc), post σ' → WX G σ' s H1 → va_S (aX G) H0 H1 locs1 → W p l e R s m args below meth c H1 locs1 cells slots Q (F0 m (pc + 3) ls rest)) : W p l e R s m args below meth c H locs cells slots Q (F0 m pc ls (As.reverse ++ .ref b :: rest)) :=
  va_callv (xrV As hx hb hml hown hC.2.2.1 hv hlk hM hp hn hsz hroom hdg hrm hf) hS (fun _ _ h => h) (fun _ h => h) (fun u t H1 locs1 ht _ hw hB _ _ hS1 => kk u H1 locs1 hw ⟨by rw [← ht]; exact hB, hC⟩ hS1)
theorem cw_i (As : List Value) {post : Int32 → St → Prop} (hx : p.tables.exec = Jvm.exec) (hb : c.code = cc) (hml : c.maxLocals = nL) (hown : s.vm.findClass own = some m.cls) (hC : CX G s) (hS : va_S (aX G) H0 H locs) (hv : cV y bytes maxL ret n) (hlk : lw_tbl[q]? = some (.methodLink own index y)) (hM : Met l y (w1 y bytes maxL ret) rm Pc (QiX G post) 0 0 (aX G)) (hp : PreV s H y.cls b Pc As) (hn : As.length = n) (hsz : ls.size = nL) (hroom : (rest.map fun v => v.category).sum ≤ 8) (hdg : decode cc pc = .ok (.invokevirtual index, 3)) (hrm : RmOk rm R maxL 0 0) (hf : cells + 0 ≤ R.cells ∧ slots + 0 ≤ R.slots)
    (kk : ∀ (r : Int32) (σ' : St) (H1 : Heap) (locs1 : List Loc), post r σ' → WX G σ' s H1 → va_S (aX G) H0 H1 locs1 → W p l e R s m args below meth c H1 locs1 cells slots Q (F0 m (pc + 3) ls (.int r :: rest))) : W p l e R s m args below meth c H locs cells slots Q (F0 m pc ls (As.reverse ++ .ref b :: rest)) :=
  va_calli (xrV As hx hb hml hown hC.2.2.1 hv hlk hM hp hn hsz hroom hdg hrm hf) hS (fun _ _ h => h) (fun _ h => h) (fun r u t H1 locs1 ht _ hw hB _ _ hS1 => kk r u H1 locs1 hw ⟨by rw [← ht]; exact hB, hC⟩ hS1)
theorem cw_r (As : List Value) {i : Nat} {post : St → Prop} (hx : p.tables.exec = Jvm.exec) (hb : c.code = cc) (hml : c.maxLocals = nL) (hown : s.vm.findClass own = some m.cls) (hC : CX G s) (hS : va_S (aX G) H0 H locs) (hv : cV y bytes maxL ret n) (hlk : lw_tbl[q]? = some (.methodLink own index y)) (hM : Met l y (w1 y bytes maxL ret) rm Pc (QrX G i post) 0 0 (aX G)) (hp : PreV s H y.cls b Pc As) (hn : As.length = n) (hsz : ls.size = nL) (hroom : (rest.map fun v => v.category).sum ≤ 8) (hdg : decode cc pc = .ok (.invokevirtual index, 3)) (hrm : RmOk rm R maxL 0 0) (hf : cells + 0 ≤ R.cells ∧ slots + 0 ≤ R.slots)
    (kk : ∀ (σ' : St) (H1 : Heap) (locs1 : List Loc), post σ' → WX G σ' s H1 → va_S (aX G) H0 H1 locs1 → W p l e R s m args below meth c H1 locs1 cells slots Q (F0 m (pc + 3) ls (.ref (ga G i) :: rest))) : W p l e R s m args below meth c H locs cells slots Q (F0 m pc ls (As.reverse ++ .ref b :: rest)) :=
  va_callr (xrV As hx hb hml hown hC.2.2.1 hv hlk hM hp hn hsz hroom hdg hrm hf) hS (fun _ _ h => h) (fun _ h => h) (fun u ra t H1 locs1 ht _ hw hB _ _ hS1 => by obtain ⟨h1, h2⟩ := hB; rw [h1]; exact kk u H1 locs1 hw ⟨by rw [← ht]; exact h2, hC⟩ hS1)
theorem cm_v (As : List Value) {post : StM → Prop} (hx : p.tables.exec = Jvm.exec) (hb : c.code = cc) (hml : c.maxLocals = nL) (hown : s.vm.findClass own = some m.cls) (hC : CM G s) (hS : va_S (aM G) H0 H locs) (hv : cV y bytes maxL ret n) (hlk : lw_tbl[q]? = some (.methodLink own index y)) (hM : Met l y (w1 y bytes maxL ret) rm Pc (QvM G post) 0 0 (aM G)) (hp : PreV s H y.cls b Pc As) (hn : As.length = n) (hsz : ls.size = nL) (hroom : (rest.map fun v => v.category).sum ≤ 8) (hdg : decode cc pc = .ok (.invokevirtual index, 3)) (hrm : RmOk rm R maxL 0 0) (hf : cells + 0 ≤ R.cells ∧ slots + 0 ≤ R.slots)
    (kk : ∀ (μ' : St) (hs' : Int64) (H1 : Heap) (locs1 : List Loc), post (μ', hs') → WM G μ' hs' s H1 → va_S (aM G) H0 H1 locs1 → W p l e R s m args below meth c H1 locs1 cells slots Q (F0 m (pc + 3) ls rest)) : W p l e R s m args below meth c H locs cells slots Q (F0 m pc ls (As.reverse ++ .ref b :: rest)) :=
  va_callv (xrV As hx hb hml hown hC.2.2 hv hlk hM hp hn hsz hroom hdg hrm hf) hS (fun _ _ h => h) (fun _ h => h) (fun u t H1 locs1 ht _ hw hB _ _ hS1 => kk u.1 u.2 H1 locs1 hw ⟨by rw [← ht]; exact hB, hC⟩ hS1)
theorem cm_i (As : List Value) {post : Int32 → StM → Prop} (hx : p.tables.exec = Jvm.exec) (hb : c.code = cc) (hml : c.maxLocals = nL) (hown : s.vm.findClass own = some m.cls) (hC : CM G s) (hS : va_S (aM G) H0 H locs) (hv : cV y bytes maxL ret n) (hlk : lw_tbl[q]? = some (.methodLink own index y)) (hM : Met l y (w1 y bytes maxL ret) rm Pc (QiM G post) 0 0 (aM G)) (hp : PreV s H y.cls b Pc As) (hn : As.length = n) (hsz : ls.size = nL) (hroom : (rest.map fun v => v.category).sum ≤ 8) (hdg : decode cc pc = .ok (.invokevirtual index, 3)) (hrm : RmOk rm R maxL 0 0) (hf : cells + 0 ≤ R.cells ∧ slots + 0 ≤ R.slots)
    (kk : ∀ (r : Int32) (μ' : St) (hs' : Int64) (H1 : Heap) (locs1 : List Loc), post r (μ', hs') → WM G μ' hs' s H1 → va_S (aM G) H0 H1 locs1 → W p l e R s m args below meth c H1 locs1 cells slots Q (F0 m (pc + 3) ls (.int r :: rest))) : W p l e R s m args below meth c H locs cells slots Q (F0 m pc ls (As.reverse ++ .ref b :: rest)) :=
  va_calli (xrV As hx hb hml hown hC.2.2 hv hlk hM hp hn hsz hroom hdg hrm hf) hS (fun _ _ h => h) (fun _ h => h) (fun r u t H1 locs1 ht _ hw hB _ _ hS1 => kk r u.1 u.2 H1 locs1 hw ⟨by rw [← ht]; exact hB, hC⟩ hS1)
theorem cms_v (As : List Value) {post : StM → Prop} (hx : p.tables.exec = Jvm.exec) (hb : c.code = cc) (hml : c.maxLocals = nL) (hown : s.vm.findClass own = some m.cls) (hC : CM G s) (hS : va_S (aM G) H0 H locs) (hv : cS y bytes maxL ret n) (hlk : lw_tbl[q]? = some (.methodLink own index y)) (hM : Met l y (w1 y bytes maxL ret) rm Pc (QvM G post) 0 0 (aM G)) (hp : PreS s H Pc As) (hn : As.length = n) (hsz : ls.size = nL) (hroom : (rest.map fun v => v.category).sum ≤ 8) (hdg : decode cc pc = .ok (.invokestatic index, 3)) (hrm : RmOk rm R maxL 0 0) (hf : cells + 0 ≤ R.cells ∧ slots + 0 ≤ R.slots)
    (kk : ∀ (μ' : St) (hs' : Int64) (H1 : Heap) (locs1 : List Loc), post (μ', hs') → WM G μ' hs' s H1 → va_S (aM G) H0 H1 locs1 → W p l e R s m args below meth c H1 locs1 cells slots Q (F0 m (pc + 3) ls rest)) : W p l e R s m args below meth c H locs cells slots Q (F0 m pc ls (As.reverse ++ rest)) :=
  va_callv (xrS As hx hb hml hown hC.2.2 hv hlk hM hp hn hsz hroom hdg hrm hf) hS (fun _ _ h => h) (fun _ h => h) (fun u t H1 locs1 ht _ hw hB _ _ hS1 => kk u.1 u.2 H1 locs1 hw ⟨by rw [← ht]; exact hB, hC⟩ hS1)
end LC
/-! a call's start -/
abbrev PcX (G : Gam) (σ : St) (av : List Value) : Array Value → State → Prop := va_Pc av (fun U => WX G σ U U.heap)
abbrev PcM (G : Gam) (μ : St) (hs : Int64) (av : List Value) : Array Value → State → Prop := va_Pc av (fun U => WM G μ hs U U.heap)
abbrev PcT (av : List Value) : Array Value → State → Prop := va_Pc av (fun _ => True)
theorem WX.preV {G : Gam} {σ : St} {s : State} {H : Heap} (h : WX G σ s H) {i ci N : Nat} {C : String} {T : u_T} {fs : List Value} (hi : i < 50) (hc : cX G (σ i) i = .inr (ci, fs)) (hcl : vwCl[ci]? = some (C, T, N)) (As : List Value) : PreV s H C (ga G i) (PcX G σ (.ref (ga G i) :: As)) As :=
  ⟨fun a U g mk q => ⟨q.1, q.2.1, q.2.2.call⟩, va_recv h.2.1 h.1 hcl (q0 := i) (by rw [wX, ww_get hi, hc]), fun U hU hW => ⟨rfl, by rw [hU]; exact h.1, h.2.warm hW⟩⟩
theorem WM.preV {G : Gam} {μ : St} {hs : Int64} {s : State} {H : Heap} (h : WM G μ hs s H) (As : List Value) : PreV s H RX4 (ga (gD G, gm G, gm G, gK G, gV G, fun _ => 0) 0) (PcM G μ hs (.ref (gm G 0) :: As)) As :=
  ⟨fun a U g mk q => ⟨q.1, q.2.1, q.2.2.call⟩, va_recv h.2.1 h.1 (q := (RX4, TX4, 22)) (ci := 4) rfl (q0 := 0) (by rw [wM, ww_get (by omega)]; rfl), fun U hU hW => ⟨rfl, by rw [hU]; exact h.1, h.2.warm hW⟩⟩
theorem preX {G : Gam} {σ : St} {s : State} {H : Heap} (h : WX G σ s H) (As : List Value) : PreV s H RX3 (ga G 0) (PcX G σ (.ref (ga G 0) :: As)) As := h.preV (i := 0) (by omega) cX_0 rfl As
theorem preP {G : Gam} {σ : St} {s : State} {H : Heap} (h : WX G σ s H) (As : List Value) : PreV s H RX1 (ga G 1) (PcX G σ (.ref (ga G 1) :: As)) As := h.preV (i := 1) (by omega) cX_1 rfl As
theorem preH {G : Gam} {σ : St} {s : State} {H : Heap} (h : WX G σ s H) {k : Nat} (hh : k < 2) (As : List Value) : PreV s H RX0 (ga G (5 * k + 4)) (PcX G σ (.ref (ga G (5 * k + 4)) :: As)) As := h.preV (i := 5 * k + 4) (by omega) (cX_h hh) rfl As
theorem preK {G : Gam} {σ : St} {s : State} {H : Heap} (h : WX G σ s H) {j : Nat} (hj : j < 12) (As : List Value) : PreV s H RX2 (ga G (3 * j + 14)) (PcX G σ (.ref (ga G (3 * j + 14)) :: As)) As := h.preV (i := 3 * j + 14) (by omega) (cX_s hj) rfl As
theorem preM {G : Gam} {μ : St} {hs : Int64} {s : State} {H : Heap} (h : WM G μ hs s H) (As : List Value) : PreV s H RX4 (gm G 0) (PcM G μ hs (.ref (gm G 0) :: As)) As := h.preV As
theorem preMS {G : Gam} {μ : St} {hs : Int64} {s : State} {H : Heap} (h : WM G μ hs s H) (As : List Value) : PreS s H (PcM G μ hs As) As :=
  ⟨fun a U g mk q => ⟨q.1, q.2.1, q.2.2.call⟩, fun U hU hW => ⟨rfl, by rw [hU]; exact h.1, h.2.warm hW⟩⟩
theorem preT {s : State} {H : Heap} (As : List Value) : PreS s H (PcT As) As := ⟨fun _ _ _ _ q => q, fun _ _ _ => ⟨rfl, trivial⟩⟩
abbrev PcG (av : List Value) : Array Value → State → Prop := va_Pc av (fun U => GW U)
theorem preG {s : State} {H : Heap} (h : GW s) (As : List Value) : PreS s H (PcG As) As := ⟨fun _ U g mk q => ⟨q.1, GW.warm (s := U) (U := U.calling g mk _) (State.WarmedH.refl U) q.2⟩, fun _ _ hW => ⟨rfl, h.warm hW⟩⟩
end
section
/-! ===== LAYER 4: a method's start, rows on small numbers ===== -/
theorem met_of {l : Launch} {y : MethodName} {cc : ByteArray} {maxL : Nat} {ret : Option FieldType} {rm : Room} {B : State → Prop} {Qc : Array Value → State → Outcome → State → Prop} {mc ms : Nat} {free : Addr → Prop} (av : List Value) (lv : List (Nat × Value)) (hy : plainName y.cls = true) (hn : (lg_sl av).length ≤ maxL) (hlv : lv_args 0 av = lv)
    (body : ∀ (p : Program) (e : Env) (s : State) (m : MethodId) (below : List Frame) (meth : Method) (c : Code), p.tables.exec = Jvm.exec → c.code = cc → meth.sig.returnType = ret → s.vm.findClass y.cls = some m.cls → c.maxLocals = maxL → meth.locks = false → B s → ∀ ls : Array Slot, lv_has ls maxL lv → W p l e (headSpec (w1 y cc maxL ret) rm).room s m av.toArray below meth c s.heap [] 0 0 (MQ below Qc av.toArray s mc ms free) (F0 m 0 ls [])) : Met l y (w1 y cc maxL ret) rm (va_Pc av B) Qc mc ms free := by
  refine Met.ofW (cc := cc) (maxL := maxL) (ret := ret) hy rfl ?_
  intro p e s m args below meth c s₁ Bd hml hv
  obtain ⟨rfl, hB⟩ := hv
  have hl := lv_entry av (n := maxL) hn
  rw [lg_entry_eq]
  rw [hlv] at hl
  exact body p e s m below meth c Bd.exec Bd.bytes Bd.returns (findClass_of_methodNamed Bd.named) hml Bd.notSynchronized hB _ hl
section LT
variable {p : Program} {l : Launch} {e : Env} {R : Room} {s : State} {m : MethodId} {args : Array Value} {below : List Frame} {meth : Method} {c : Code} {H : Heap} {locs : List Loc} {cells slots : Nat} {Q : State → Prop}
variable {cc : ByteArray} {pc : Nat} {ls : Array Slot} {rest : List Value}
theorem lv_eqi {x y : Int32} (h : x = y) (k : W p l e R s m args below meth c H locs cells slots Q (F0 m pc ls (.int y :: rest))) : W p l e R s m args below meth c H locs cells slots Q (F0 m pc ls (.int x :: rest)) := by rw [h]; exact k
theorem lv_eql {x y : Int64} (h : x = y) (k : W p l e R s m args below meth c H locs cells slots Q (F0 m pc ls (.long y :: rest))) : W p l e R s m args below meth c H locs cells slots Q (F0 m pc ls (.long x :: rest)) := by rw [h]; exact k
theorem ln_add (a b : Nat) {x y : Int32} (hx : p.tables.exec = Jvm.exec) (hb : c.code = cc) (ex : x = nI a) (ey : y = nI b) (hdg : decode cc pc = .ok (.iadd, 1)) (k : W p l e R s m args below meth c H locs cells slots Q (F0 m (pc + 1) ls (.int (nI (a + b)) :: rest))) : W p l e R s m args below meth c H locs cells slots Q (F0 m pc ls (.int y :: .int x :: rest)) := by
  subst ex; subst ey
  exact lv_iadd hx hb hdg (by rw [nI_add]; exact k)
theorem ln_sub (a b : Nat) {x y : Int32} (hx : p.tables.exec = Jvm.exec) (hb : c.code = cc) (ex : x = nI a) (ey : y = nI b) (hba : b ≤ a) (hdg : decode cc pc = .ok (.isub, 1)) (k : W p l e R s m args below meth c H locs cells slots Q (F0 m (pc + 1) ls (.int (nI (a - b)) :: rest))) : W p l e R s m args below meth c H locs cells slots Q (F0 m pc ls (.int y :: .int x :: rest)) := by
  subst ex; subst ey
  exact lv_isub hx hb hdg (by rw [pk_sub hba]; exact k)
theorem ln_mul (a b : Nat) {x y : Int32} (hx : p.tables.exec = Jvm.exec) (hb : c.code = cc) (ex : x = nI a) (ey : y = nI b) (hdg : decode cc pc = .ok (.imul, 1)) (k : W p l e R s m args below meth c H locs cells slots Q (F0 m (pc + 1) ls (.int (nI (a * b)) :: rest))) : W p l e R s m args below meth c H locs cells slots Q (F0 m pc ls (.int y :: .int x :: rest)) := by
  subst ex; subst ey
  exact lv_imul hx hb hdg (by rw [pk_mul]; exact k)
theorem ln_div (a b : Nat) {x y : Int32} (hx : p.tables.exec = Jvm.exec) (hb : c.code = cc) (ex : x = nI a) (ey : y = nI b) (ha : a < 2 ^ 31) (h0 : 0 < b) (hb2 : b < 2 ^ 31) (hdg : decode cc pc = .ok (.idiv, 1)) (k : W p l e R s m args below meth c H locs cells slots Q (F0 m (pc + 1) ls (.int (nI (a / b)) :: rest))) : W p l e R s m args below meth c H locs cells slots Q (F0 m pc ls (.int y :: .int x :: rest)) := by
  subst ex; subst ey
  exact lv_idiv hx hb hdg (nI_ne0 h0 hb2) (by rw [pk_div ha h0 hb2]; exact k)
theorem ln_rem (a b : Nat) {x y : Int32} (hx : p.tables.exec = Jvm.exec) (hb : c.code = cc) (ex : x = nI a) (ey : y = nI b) (ha : a < 2 ^ 31) (h0 : 0 < b) (hb2 : b < 2 ^ 31) (hdg : decode cc pc = .ok (.irem, 1)) (k : W p l e R s m args below meth c H locs cells slots Q (F0 m (pc + 1) ls (.int (nI (a % b)) :: rest))) : W p l e R s m args below meth c H locs cells slots Q (F0 m pc ls (.int y :: .int x :: rest)) := by
  subst ex; subst ey
  exact lv_irem hx hb hdg (nI_ne0 h0 hb2) (by rw [pk_rem ha h0 hb2]; exact k)
end LT
theorem inc1 (a : Nat) : nI a + Int32.ofInt 1 = nI (a + 1) := nI_1 a
theorem tN_lt (a b : Nat) {x y : Int32} (c : x < y) (hx : x = nI a) (hy : y = nI b) (ha : a < 2 ^ 31) (hb : b < 2 ^ 31) : a < b := by subst hx; subst hy; exact (nI_ltI ha hb).mp c
theorem tN_nlt (a b : Nat) {x y : Int32} (c : ¬ x < y) (hx : x = nI a) (hy : y = nI b) (ha : a < 2 ^ 31) (hb : b < 2 ^ 31) : b ≤ a := by subst hx; subst hy; exact Nat.not_lt.mp fun h => c ((nI_ltI ha hb).mpr h)
theorem tN_le (a b : Nat) {x y : Int32} (c : x ≤ y) (hx : x = nI a) (hy : y = nI b) (ha : a < 2 ^ 31) (hb : b < 2 ^ 31) : a ≤ b := by subst hx; subst hy; exact (nI_leI ha hb).mp c
theorem tN_nle (a b : Nat) {x y : Int32} (c : ¬ x ≤ y) (hx : x = nI a) (hy : y = nI b) (ha : a < 2 ^ 31) (hb : b < 2 ^ 31) : b < a := by subst hx; subst hy; exact Nat.not_le.mp fun h => c ((nI_leI ha hb).mpr h)
theorem tN_eq (a b : Nat) {x y : Int32} (c : x = y) (hx : x = nI a) (hy : y = nI b) (ha : a < 2 ^ 31) (hb : b < 2 ^ 31) : a = b := by subst hx; subst hy; exact (nI_eq ha hb).mp c
theorem tN_ne (a b : Nat) {x y : Int32} (c : ¬ x = y) (hx : x = nI a) (hy : y = nI b) (ha : a < 2 ^ 31) (hb : b < 2 ^ 31) : a ≠ b := by subst hx; subst hy; exact fun h => c (by rw [h])
/-- an answer that is a truth value -/
def bI (b : Bool) : Int32 := if b then 1 else 0
theorem bI_t : bI true = 1 := rfl
theorem bI_f : bI false = 0 := rfl
theorem bI_n (b : Bool) : narrow .boolean (.int (bI b)) = .int (bI b) := by cases b <;> rfl
theorem bI_0 {b : Bool} (h : bI b = 0) : b = false := by cases b <;> first | rfl | exact absurd h (by decide)
theorem bI_1 {b : Bool} (h : ¬ bI b = 0) : b = true := by cases b <;> first | rfl | exact absurd rfl h
theorem sw5 {k : Nat} (h : k < 5) : k = 0 ∨ k = 1 ∨ k = 2 ∨ k = 3 ∨ k = 4 := by omega
theorem sw4 {k : Nat} (h : k < 4) : k = 0 ∨ k = 1 ∨ k = 2 ∨ k = 3 := by omega
/-! the hills as numbers -/
def stepN (p d : Nat) : Nat :=
  if d = 0 then (if 0 < p / 4 then p - 4 else p) else if d = 1 then (if p % 4 < 3 then p + 1 else p) else if d = 2 then (if p / 4 < 3 then p + 4 else p) else (if 0 < p % 4 then p - 1 else p)
theorem stepN_lt : ∀ p, p < 16 → ∀ d, d < 4 → stepN p d < 16 := by decide +kernel
def hpN (K : Nat) : Nat := if K = 2 then 2 else 1
def swN (K C : Nat) : Nat := if K = 1 then 2 * C else if K = 4 then 4 * C else C
def hwN (K C : Nat) : Nat := swN K C * hpN K
/-- a stick S: 0 kind, 1 begin, 2 how late, 3 how many steps, 4 .. the steps -/
abbrev Sk : Type := Nat → Nat
def dirN (S : Sk) (n : Nat) : Nat :=
  if n / S 3 % 2 = 1 then (S (4 + (S 3 - 1 - n % S 3)) + 2) % 4 else if S 0 = 3 then (S (4 + n % S 3) + 2) % 4 else S (4 + n % S 3)
def posN (S : Sk) : Nat → Nat
  | 0 => S 1
  | t + 1 => if t + 1 ≤ hwN (S 0) (S 3) ∧ (t + 1) % hpN (S 0) = 0 then stepN (posN S t) (dirN S ((t + 1) / hpN (S 0) - 1)) else posN S t
/-- a stick that can be walked (it may have no steps yet) -/
def VS (S : Sk) : Prop := S 0 < 5 ∧ S 1 < 16 ∧ S 3 ≤ 5 ∧ ∀ i, i < S 3 → S (4 + i) < 4
theorem dirN_lt {S : Sk} (h : VS S) (h0 : 0 < S 3) (n : Nat) : dirN S n < 4 := by
  unfold dirN
  have h1 : n % S 3 < S 3 := Nat.mod_lt _ h0
  split
  · omega
  · split
    · omega
    · exact h.2.2.2 _ h1
theorem hwN_0 {K : Nat} : hwN K 0 = 0 := by unfold hwN swN; split <;> (try split) <;> simp
theorem posN_lt {S : Sk} (h : VS S) : ∀ t, posN S t < 16 := by
  intro t
  induction t with
  | zero => exact h.2.1
  | succ t ih =>
    unfold posN
    split
    · rename_i hc
      have h0 : 0 < S 3 := by
        rcases Nat.eq_zero_or_pos (S 3) with q | q
        · rw [q, hwN_0] at hc; omega
        · exact q
      exact stepN_lt _ ih _ (dirN_lt h h0 _)
    · exact ih
def orN (f : Nat → Nat) : Nat → Nat
  | 0 => 0
  | t + 1 => orN f t ||| 2 ^ f t
/-- the class's stick j holds S -/
def GS (σ : St) (j : Nat) (S : Sk) : Prop :=
  σ (3 * j + 14) 0 = nI (S 0) ∧ σ (3 * j + 14) 1 = nI (S 1) ∧ σ (3 * j + 14) 2 = nI (S 3) ∧ ∀ i, i < S 3 → σ (3 * j + 15) i = nI (S (4 + i))
/-- .. and its walk is traced -/
def GT (σ : St) (j : Nat) (S : Sk) : Prop := (∀ t, t < 31 → σ (3 * j + 16) t = nI (posN S t)) ∧ σ (3 * j + 14) 5 = nI (orN (posN S) 31)
end
section
/-! what the tables say of each method; printed by gen_v.py -/
theorem v_X0_clear : cV yX0_clear cX0_clear 1 none 0 := ⟨List.mem_of_getElem? (i := 118) (by decide +kernel), List.mem_of_getElem? (i := 116) (by decide +kernel), List.mem_of_getElem? (i := 117) (by decide +kernel), List.mem_of_getElem? (i := 39) (by decide +kernel), by decide +kernel, by decide +kernel, by decide +kernel⟩
theorem v_X0_copyFrom : cV yX0_copyFrom cX0_copyFrom 3 none 1 := ⟨List.mem_of_getElem? (i := 522) (by decide +kernel), List.mem_of_getElem? (i := 520) (by decide +kernel), List.mem_of_getElem? (i := 521) (by decide +kernel), List.mem_of_getElem? (i := 39) (by decide +kernel), by decide +kernel, by decide +kernel, by decide +kernel⟩
theorem v_X0_has : cV yX0_has cX0_has 2 (some .boolean) 1 := ⟨List.mem_of_getElem? (i := 340) (by decide +kernel), List.mem_of_getElem? (i := 338) (by decide +kernel), List.mem_of_getElem? (i := 339) (by decide +kernel), List.mem_of_getElem? (i := 39) (by decide +kernel), by decide +kernel, by decide +kernel, by decide +kernel⟩
theorem v_X0_hasBoth : cV yX0_hasBoth cX0_hasBoth 3 (some .boolean) 2 := ⟨List.mem_of_getElem? (i := 384) (by decide +kernel), List.mem_of_getElem? (i := 382) (by decide +kernel), List.mem_of_getElem? (i := 383) (by decide +kernel), List.mem_of_getElem? (i := 39) (by decide +kernel), by decide +kernel, by decide +kernel, by decide +kernel⟩
theorem v_X0_add : cV yX0_add cX0_add 4 (some (.object "StickWays$Stick")) 2 := ⟨List.mem_of_getElem? (i := 301) (by decide +kernel), List.mem_of_getElem? (i := 299) (by decide +kernel), List.mem_of_getElem? (i := 300) (by decide +kernel), List.mem_of_getElem? (i := 39) (by decide +kernel), by decide +kernel, by decide +kernel, by decide +kernel⟩
theorem v_X0_divide : cV yX0_divide cX0_divide 6 none 2 := ⟨List.mem_of_getElem? (i := 410) (by decide +kernel), List.mem_of_getElem? (i := 408) (by decide +kernel), List.mem_of_getElem? (i := 409) (by decide +kernel), List.mem_of_getElem? (i := 39) (by decide +kernel), by decide +kernel, by decide +kernel, by decide +kernel⟩
theorem v_X0_placeAt : cV yX0_placeAt cX0_placeAt 3 (some .int) 2 := ⟨List.mem_of_getElem? (i := 372) (by decide +kernel), List.mem_of_getElem? (i := 370) (by decide +kernel), List.mem_of_getElem? (i := 371) (by decide +kernel), List.mem_of_getElem? (i := 39) (by decide +kernel), by decide +kernel, by decide +kernel, by decide +kernel⟩
theorem v_X0_hoursTogether : cV yX0_hoursTogether cX0_hoursTogether 7 (some .int) 4 := ⟨List.mem_of_getElem? (i := 389) (by decide +kernel), List.mem_of_getElem? (i := 387) (by decide +kernel), List.mem_of_getElem? (i := 388) (by decide +kernel), List.mem_of_getElem? (i := 39) (by decide +kernel), by decide +kernel, by decide +kernel, by decide +kernel⟩
theorem v_X0_meetings : cV yX0_meetings cX0_meetings 5 (some .int) 1 := ⟨List.mem_of_getElem? (i := 509) (by decide +kernel), List.mem_of_getElem? (i := 507) (by decide +kernel), List.mem_of_getElem? (i := 508) (by decide +kernel), List.mem_of_getElem? (i := 39) (by decide +kernel), by decide +kernel, by decide +kernel, by decide +kernel⟩
theorem v_X0_stepsOfAll : cV yX0_stepsOfAll cX0_stepsOfAll 3 (some .int) 0 := ⟨List.mem_of_getElem? (i := 542) (by decide +kernel), List.mem_of_getElem? (i := 540) (by decide +kernel), List.mem_of_getElem? (i := 541) (by decide +kernel), List.mem_of_getElem? (i := 39) (by decide +kernel), by decide +kernel, by decide +kernel, by decide +kernel⟩
theorem v_X0_placesSeen : cV yX0_placesSeen cX0_placesSeen 1 (some .int) 0 := ⟨List.mem_of_getElem? (i := 514) (by decide +kernel), List.mem_of_getElem? (i := 512) (by decide +kernel), List.mem_of_getElem? (i := 513) (by decide +kernel), List.mem_of_getElem? (i := 39) (by decide +kernel), by decide +kernel, by decide +kernel, by decide +kernel⟩
theorem v_X0_placesSeenBy : cV yX0_placesSeenBy cX0_placesSeenBy 4 (some .int) 1 := ⟨List.mem_of_getElem? (i := 436) (by decide +kernel), List.mem_of_getElem? (i := 435) (by decide +kernel), List.mem_of_getElem? (i := 5) (by decide +kernel), List.mem_of_getElem? (i := 39) (by decide +kernel), by decide +kernel, by decide +kernel, by decide +kernel⟩
theorem v_X0_fewestSeeing : cV yX0_fewestSeeing cX0_fewestSeeing 5 (some .int) 1 := ⟨List.mem_of_getElem? (i := 431) (by decide +kernel), List.mem_of_getElem? (i := 429) (by decide +kernel), List.mem_of_getElem? (i := 430) (by decide +kernel), List.mem_of_getElem? (i := 39) (by decide +kernel), by decide +kernel, by decide +kernel, by decide +kernel⟩
theorem v_X0_firstCatch : cV yX0_firstCatch cX0_firstCatch 4 (some .int) 2 := ⟨List.mem_of_getElem? (i := 445) (by decide +kernel), List.mem_of_getElem? (i := 443) (by decide +kernel), List.mem_of_getElem? (i := 444) (by decide +kernel), List.mem_of_getElem? (i := 39) (by decide +kernel), by decide +kernel, by decide +kernel, by decide +kernel⟩
theorem v_X0_noteSeen : cV yX0_noteSeen cX0_noteSeen 3 (some .boolean) 2 := ⟨List.mem_of_getElem? (i := 460) (by decide +kernel), List.mem_of_getElem? (i := 458) (by decide +kernel), List.mem_of_getElem? (i := 459) (by decide +kernel), List.mem_of_getElem? (i := 39) (by decide +kernel), by decide +kernel, by decide +kernel, by decide +kernel⟩
theorem v_X0_possible : cV yX0_possible cX0_possible 3 (some .int) 0 := ⟨List.mem_of_getElem? (i := 472) (by decide +kernel), List.mem_of_getElem? (i := 470) (by decide +kernel), List.mem_of_getElem? (i := 471) (by decide +kernel), List.mem_of_getElem? (i := 39) (by decide +kernel), by decide +kernel, by decide +kernel, by decide +kernel⟩
theorem v_X0_wasWhereSeen : cV yX0_wasWhereSeen cX0_wasWhereSeen 3 (some .boolean) 1 := ⟨List.mem_of_getElem? (i := 476) (by decide +kernel), List.mem_of_getElem? (i := 475) (by decide +kernel), List.mem_of_getElem? (i := 6) (by decide +kernel), List.mem_of_getElem? (i := 39) (by decide +kernel), by decide +kernel, by decide +kernel, by decide +kernel⟩
theorem v_X0_bestHourToLook : cV yX0_bestHourToLook cX0_bestHourToLook 6 (some .int) 0 := ⟨List.mem_of_getElem? (i := 484) (by decide +kernel), List.mem_of_getElem? (i := 482) (by decide +kernel), List.mem_of_getElem? (i := 483) (by decide +kernel), List.mem_of_getElem? (i := 39) (by decide +kernel), by decide +kernel, by decide +kernel, by decide +kernel⟩
theorem v_X0_mostLeft : cV yX0_mostLeft cX0_mostLeft 5 (some .int) 2 := ⟨List.mem_of_getElem? (i := 489) (by decide +kernel), List.mem_of_getElem? (i := 488) (by decide +kernel), List.mem_of_getElem? (i := 7) (by decide +kernel), List.mem_of_getElem? (i := 39) (by decide +kernel), by decide +kernel, by decide +kernel, by decide +kernel⟩
theorem v_X0_togetherWith : cV yX0_togetherWith cX0_togetherWith 7 (some .int) 3 := ⟨List.mem_of_getElem? (i := 493) (by decide +kernel), List.mem_of_getElem? (i := 492) (by decide +kernel), List.mem_of_getElem? (i := 8) (by decide +kernel), List.mem_of_getElem? (i := 39) (by decide +kernel), by decide +kernel, by decide +kernel, by decide +kernel⟩
theorem v_X1_append : cV yX1_append cX1_append 2 (some .boolean) 1 := ⟨List.mem_of_getElem? (i := 172) (by decide +kernel), List.mem_of_getElem? (i := 170) (by decide +kernel), List.mem_of_getElem? (i := 171) (by decide +kernel), List.mem_of_getElem? (i := 38) (by decide +kernel), by decide +kernel, by decide +kernel, by decide +kernel⟩
theorem v_X1_firstFault : cV yX1_firstFault cX1_firstFault 4 (some .int) 0 := ⟨List.mem_of_getElem? (i := 184) (by decide +kernel), List.mem_of_getElem? (i := 182) (by decide +kernel), List.mem_of_getElem? (i := 183) (by decide +kernel), List.mem_of_getElem? (i := 38) (by decide +kernel), by decide +kernel, by decide +kernel, by decide +kernel⟩
theorem v_X1_fits : cS yX1_fits cX1_fits 3 (some .boolean) 3 := ⟨List.mem_of_getElem? (i := 187) (by decide +kernel), List.mem_of_getElem? (i := 186) (by decide +kernel), List.mem_of_getElem? (i := 38) (by decide +kernel), by decide +kernel, by decide +kernel, by decide +kernel⟩
theorem v_X1_tellsHills : cV yX1_tellsHills cX1_tellsHills 1 (some .boolean) 0 := ⟨List.mem_of_getElem? (i := 287) (by decide +kernel), List.mem_of_getElem? (i := 285) (by decide +kernel), List.mem_of_getElem? (i := 286) (by decide +kernel), List.mem_of_getElem? (i := 38) (by decide +kernel), by decide +kernel, by decide +kernel, by decide +kernel⟩
theorem v_X1_lettersOfLastStick : cV yX1_lettersOfLastStick cX1_lettersOfLastStick 3 (some .int) 0 := ⟨List.mem_of_getElem? (i := 292) (by decide +kernel), List.mem_of_getElem? (i := 291) (by decide +kernel), List.mem_of_getElem? (i := 0) (by decide +kernel), List.mem_of_getElem? (i := 38) (by decide +kernel), by decide +kernel, by decide +kernel, by decide +kernel⟩
theorem v_X1_readInto : cV yX1_readInto cX1_readInto 7 none 1 := ⟨List.mem_of_getElem? (i := 296) (by decide +kernel), List.mem_of_getElem? (i := 294) (by decide +kernel), List.mem_of_getElem? (i := 295) (by decide +kernel), List.mem_of_getElem? (i := 38) (by decide +kernel), by decide +kernel, by decide +kernel, by decide +kernel⟩
theorem v_X2_startAnew : cV yX2_startAnew cX2_startAnew 3 none 2 := ⟨List.mem_of_getElem? (i := 305) (by decide +kernel), List.mem_of_getElem? (i := 303) (by decide +kernel), List.mem_of_getElem? (i := 304) (by decide +kernel), List.mem_of_getElem? (i := 40) (by decide +kernel), by decide +kernel, by decide +kernel, by decide +kernel⟩
theorem v_X2_addStep : cV yX2_addStep cX2_addStep 2 none 1 := ⟨List.mem_of_getElem? (i := 332) (by decide +kernel), List.mem_of_getElem? (i := 330) (by decide +kernel), List.mem_of_getElem? (i := 331) (by decide +kernel), List.mem_of_getElem? (i := 40) (by decide +kernel), by decide +kernel, by decide +kernel, by decide +kernel⟩
theorem v_X2_shortenTo : cV yX2_shortenTo cX2_shortenTo 2 none 1 := ⟨List.mem_of_getElem? (i := 401) (by decide +kernel), List.mem_of_getElem? (i := 399) (by decide +kernel), List.mem_of_getElem? (i := 400) (by decide +kernel), List.mem_of_getElem? (i := 40) (by decide +kernel), by decide +kernel, by decide +kernel, by decide +kernel⟩
theorem v_X2_copyFrom : cV yX2_copyFrom cX2_copyFrom 2 none 1 := ⟨List.mem_of_getElem? (i := 526) (by decide +kernel), List.mem_of_getElem? (i := 524) (by decide +kernel), List.mem_of_getElem? (i := 525) (by decide +kernel), List.mem_of_getElem? (i := 40) (by decide +kernel), by decide +kernel, by decide +kernel, by decide +kernel⟩
theorem v_X2_stepOrNone : cV yX2_stepOrNone cX2_stepOrNone 2 (some .int) 1 := ⟨List.mem_of_getElem? (i := 344) (by decide +kernel), List.mem_of_getElem? (i := 342) (by decide +kernel), List.mem_of_getElem? (i := 343) (by decide +kernel), List.mem_of_getElem? (i := 40) (by decide +kernel), by decide +kernel, by decide +kernel, by decide +kernel⟩
theorem v_X2_isOfKind : cV yX2_isOfKind cX2_isOfKind 2 (some .boolean) 1 := ⟨List.mem_of_getElem? (i := 361) (by decide +kernel), List.mem_of_getElem? (i := 359) (by decide +kernel), List.mem_of_getElem? (i := 360) (by decide +kernel), List.mem_of_getElem? (i := 40) (by decide +kernel), by decide +kernel, by decide +kernel, by decide +kernel⟩
theorem v_X2_placeAt : cV yX2_placeAt cX2_placeAt 4 (some .int) 2 := ⟨List.mem_of_getElem? (i := 376) (by decide +kernel), List.mem_of_getElem? (i := 374) (by decide +kernel), List.mem_of_getElem? (i := 375) (by decide +kernel), List.mem_of_getElem? (i := 40) (by decide +kernel), by decide +kernel, by decide +kernel, by decide +kernel⟩
theorem v_X2_placeBehind : cV yX2_placeBehind cX2_placeBehind 4 (some .int) 1 := ⟨List.mem_of_getElem? (i := 414) (by decide +kernel), List.mem_of_getElem? (i := 412) (by decide +kernel), List.mem_of_getElem? (i := 413) (by decide +kernel), List.mem_of_getElem? (i := 40) (by decide +kernel), by decide +kernel, by decide +kernel, by decide +kernel⟩
theorem v_X2_hoursOfWalk : cV yX2_hoursOfWalk cX2_hoursOfWalk 1 (some .int) 0 := ⟨List.mem_of_getElem? (i := 313) (by decide +kernel), List.mem_of_getElem? (i := 311) (by decide +kernel), List.mem_of_getElem? (i := 312) (by decide +kernel), List.mem_of_getElem? (i := 40) (by decide +kernel), by decide +kernel, by decide +kernel, by decide +kernel⟩
theorem v_X2_stepsOfWalk : cV yX2_stepsOfWalk cX2_stepsOfWalk 1 (some .int) 0 := ⟨List.mem_of_getElem? (i := 317) (by decide +kernel), List.mem_of_getElem? (i := 316) (by decide +kernel), List.mem_of_getElem? (i := 2) (by decide +kernel), List.mem_of_getElem? (i := 40) (by decide +kernel), by decide +kernel, by decide +kernel, by decide +kernel⟩
theorem v_X2_hoursPerStep : cV yX2_hoursPerStep cX2_hoursPerStep 1 (some .int) 0 := ⟨List.mem_of_getElem? (i := 321) (by decide +kernel), List.mem_of_getElem? (i := 320) (by decide +kernel), List.mem_of_getElem? (i := 3) (by decide +kernel), List.mem_of_getElem? (i := 40) (by decide +kernel), by decide +kernel, by decide +kernel, by decide +kernel⟩
theorem v_X2_retrace : cV yX2_retrace cX2_retrace 4 none 0 := ⟨List.mem_of_getElem? (i := 309) (by decide +kernel), List.mem_of_getElem? (i := 308) (by decide +kernel), List.mem_of_getElem? (i := 1) (by decide +kernel), List.mem_of_getElem? (i := 40) (by decide +kernel), by decide +kernel, by decide +kernel, by decide +kernel⟩
theorem v_X2_directionOf : cV yX2_directionOf cX2_directionOf 5 (some .int) 1 := ⟨List.mem_of_getElem? (i := 325) (by decide +kernel), List.mem_of_getElem? (i := 324) (by decide +kernel), List.mem_of_getElem? (i := 4) (by decide +kernel), List.mem_of_getElem? (i := 40) (by decide +kernel), by decide +kernel, by decide +kernel, by decide +kernel⟩
theorem v_X3_letter : cV yX3_letter cX3_letter 2 (some .int) 1 := ⟨List.mem_of_getElem? (i := 168) (by decide +kernel), List.mem_of_getElem? (i := 166) (by decide +kernel), List.mem_of_getElem? (i := 167) (by decide +kernel), List.mem_of_getElem? (i := 37) (by decide +kernel), by decide +kernel, by decide +kernel, by decide +kernel⟩
theorem v_X3_blank : cV yX3_blank cX3_blank 2 (some .int) 0 := ⟨List.mem_of_getElem? (i := 176) (by decide +kernel), List.mem_of_getElem? (i := 174) (by decide +kernel), List.mem_of_getElem? (i := 175) (by decide +kernel), List.mem_of_getElem? (i := 37) (by decide +kernel), by decide +kernel, by decide +kernel, by decide +kernel⟩
theorem v_X3_fault : cV yX3_fault cX3_fault 1 (some .int) 0 := ⟨List.mem_of_getElem? (i := 180) (by decide +kernel), List.mem_of_getElem? (i := 178) (by decide +kernel), List.mem_of_getElem? (i := 179) (by decide +kernel), List.mem_of_getElem? (i := 37) (by decide +kernel), by decide +kernel, by decide +kernel, by decide +kernel⟩
theorem v_X3_hills : cV yX3_hills cX3_hills 1 (some .int) 0 := ⟨List.mem_of_getElem? (i := 283) (by decide +kernel), List.mem_of_getElem? (i := 281) (by decide +kernel), List.mem_of_getElem? (i := 282) (by decide +kernel), List.mem_of_getElem? (i := 37) (by decide +kernel), by decide +kernel, by decide +kernel, by decide +kernel⟩
theorem v_X3_stick : cV yX3_stick cX3_stick 4 (some .int) 2 := ⟨List.mem_of_getElem? (i := 336) (by decide +kernel), List.mem_of_getElem? (i := 334) (by decide +kernel), List.mem_of_getElem? (i := 335) (by decide +kernel), List.mem_of_getElem? (i := 37) (by decide +kernel), by decide +kernel, by decide +kernel, by decide +kernel⟩
theorem v_X3_as : cV yX3_as cX3_as 3 (some .int) 2 := ⟨List.mem_of_getElem? (i := 355) (by decide +kernel), List.mem_of_getElem? (i := 353) (by decide +kernel), List.mem_of_getElem? (i := 354) (by decide +kernel), List.mem_of_getElem? (i := 37) (by decide +kernel), by decide +kernel, by decide +kernel, by decide +kernel⟩
theorem v_X3_at : cV yX3_at cX3_at 3 (some .int) 2 := ⟨List.mem_of_getElem? (i := 365) (by decide +kernel), List.mem_of_getElem? (i := 363) (by decide +kernel), List.mem_of_getElem? (i := 364) (by decide +kernel), List.mem_of_getElem? (i := 37) (by decide +kernel), by decide +kernel, by decide +kernel, by decide +kernel⟩
theorem v_X3_meet : cV yX3_meet cX3_meet 3 (some .int) 2 := ⟨List.mem_of_getElem? (i := 380) (by decide +kernel), List.mem_of_getElem? (i := 378) (by decide +kernel), List.mem_of_getElem? (i := 379) (by decide +kernel), List.mem_of_getElem? (i := 37) (by decide +kernel), by decide +kernel, by decide +kernel, by decide +kernel⟩
theorem v_X3_late : cV yX3_late cX3_late 4 (some .int) 2 := ⟨List.mem_of_getElem? (i := 393) (by decide +kernel), List.mem_of_getElem? (i := 391) (by decide +kernel), List.mem_of_getElem? (i := 392) (by decide +kernel), List.mem_of_getElem? (i := 37) (by decide +kernel), by decide +kernel, by decide +kernel, by decide +kernel⟩
theorem v_X3_cut : cV yX3_cut cX3_cut 4 (some .int) 2 := ⟨List.mem_of_getElem? (i := 397) (by decide +kernel), List.mem_of_getElem? (i := 395) (by decide +kernel), List.mem_of_getElem? (i := 396) (by decide +kernel), List.mem_of_getElem? (i := 37) (by decide +kernel), by decide +kernel, by decide +kernel, by decide +kernel⟩
theorem v_X3_saw : cV yX3_saw cX3_saw 3 (some .int) 2 := ⟨List.mem_of_getElem? (i := 406) (by decide +kernel), List.mem_of_getElem? (i := 404) (by decide +kernel), List.mem_of_getElem? (i := 405) (by decide +kernel), List.mem_of_getElem? (i := 37) (by decide +kernel), by decide +kernel, by decide +kernel, by decide +kernel⟩
theorem v_X3_later : cV yX3_later cX3_later 4 (some .int) 2 := ⟨List.mem_of_getElem? (i := 422) (by decide +kernel), List.mem_of_getElem? (i := 420) (by decide +kernel), List.mem_of_getElem? (i := 421) (by decide +kernel), List.mem_of_getElem? (i := 37) (by decide +kernel), by decide +kernel, by decide +kernel, by decide +kernel⟩
theorem v_X3_cover : cV yX3_cover cX3_cover 4 (some .int) 2 := ⟨List.mem_of_getElem? (i := 426) (by decide +kernel), List.mem_of_getElem? (i := 424) (by decide +kernel), List.mem_of_getElem? (i := 425) (by decide +kernel), List.mem_of_getElem? (i := 37) (by decide +kernel), by decide +kernel, by decide +kernel, by decide +kernel⟩
theorem v_X3_catches : cV yX3_catches cX3_catches 3 (some .int) 2 := ⟨List.mem_of_getElem? (i := 440) (by decide +kernel), List.mem_of_getElem? (i := 438) (by decide +kernel), List.mem_of_getElem? (i := 439) (by decide +kernel), List.mem_of_getElem? (i := 37) (by decide +kernel), by decide +kernel, by decide +kernel, by decide +kernel⟩
theorem v_X3_see : cV yX3_see cX3_see 3 (some .int) 2 := ⟨List.mem_of_getElem? (i := 456) (by decide +kernel), List.mem_of_getElem? (i := 454) (by decide +kernel), List.mem_of_getElem? (i := 455) (by decide +kernel), List.mem_of_getElem? (i := 37) (by decide +kernel), by decide +kernel, by decide +kernel, by decide +kernel⟩
theorem v_X3_forget : cV yX3_forget cX3_forget 2 (some .int) 0 := ⟨List.mem_of_getElem? (i := 464) (by decide +kernel), List.mem_of_getElem? (i := 462) (by decide +kernel), List.mem_of_getElem? (i := 463) (by decide +kernel), List.mem_of_getElem? (i := 37) (by decide +kernel), by decide +kernel, by decide +kernel, by decide +kernel⟩
theorem v_X3_whose : cV yX3_whose cX3_whose 1 (some .int) 0 := ⟨List.mem_of_getElem? (i := 468) (by decide +kernel), List.mem_of_getElem? (i := 466) (by decide +kernel), List.mem_of_getElem? (i := 467) (by decide +kernel), List.mem_of_getElem? (i := 37) (by decide +kernel), by decide +kernel, by decide +kernel, by decide +kernel⟩
theorem v_X3_look : cV yX3_look cX3_look 1 (some .int) 0 := ⟨List.mem_of_getElem? (i := 480) (by decide +kernel), List.mem_of_getElem? (i := 478) (by decide +kernel), List.mem_of_getElem? (i := 479) (by decide +kernel), List.mem_of_getElem? (i := 37) (by decide +kernel), by decide +kernel, by decide +kernel, by decide +kernel⟩
theorem v_X3_mornings : cV yX3_mornings cX3_mornings 7 (some .int) 3 := ⟨List.mem_of_getElem? (i := 498) (by decide +kernel), List.mem_of_getElem? (i := 496) (by decide +kernel), List.mem_of_getElem? (i := 497) (by decide +kernel), List.mem_of_getElem? (i := 37) (by decide +kernel), by decide +kernel, by decide +kernel, by decide +kernel⟩
theorem v_X3_image : cV yX3_image cX3_image 1 (some .int) 0 := ⟨List.mem_of_getElem? (i := 518) (by decide +kernel), List.mem_of_getElem? (i := 516) (by decide +kernel), List.mem_of_getElem? (i := 517) (by decide +kernel), List.mem_of_getElem? (i := 37) (by decide +kernel), by decide +kernel, by decide +kernel, by decide +kernel⟩
theorem v_X3_restore : cV yX3_restore cX3_restore 1 (some .int) 0 := ⟨List.mem_of_getElem? (i := 534) (by decide +kernel), List.mem_of_getElem? (i := 532) (by decide +kernel), List.mem_of_getElem? (i := 533) (by decide +kernel), List.mem_of_getElem? (i := 37) (by decide +kernel), by decide +kernel, by decide +kernel, by decide +kernel⟩
theorem v_X3_count : cV yX3_count cX3_count 2 (some .int) 1 := ⟨List.mem_of_getElem? (i := 538) (by decide +kernel), List.mem_of_getElem? (i := 536) (by decide +kernel), List.mem_of_getElem? (i := 537) (by decide +kernel), List.mem_of_getElem? (i := 37) (by decide +kernel), by decide +kernel, by decide +kernel, by decide +kernel⟩
theorem v_X3_digest : cV yX3_digest cX3_digest 4 (some .long) 0 := ⟨List.mem_of_getElem? (i := 546) (by decide +kernel), List.mem_of_getElem? (i := 544) (by decide +kernel), List.mem_of_getElem? (i := 545) (by decide +kernel), List.mem_of_getElem? (i := 37) (by decide +kernel), by decide +kernel, by decide +kernel, by decide +kernel⟩
theorem v_X3_isPlace : cS yX3_isPlace cX3_isPlace 1 (some .boolean) 1 := ⟨List.mem_of_getElem? (i := 277) (by decide +kernel), List.mem_of_getElem? (i := 276) (by decide +kernel), List.mem_of_getElem? (i := 37) (by decide +kernel), by decide +kernel, by decide +kernel, by decide +kernel⟩
theorem v_X3_isHour : cS yX3_isHour cX3_isHour 1 (some .boolean) 1 := ⟨List.mem_of_getElem? (i := 368) (by decide +kernel), List.mem_of_getElem? (i := 367) (by decide +kernel), List.mem_of_getElem? (i := 37) (by decide +kernel), by decide +kernel, by decide +kernel, by decide +kernel⟩
theorem v_X3_with : cS yX3_with cX3_with 4 (some .long) 2 := ⟨List.mem_of_getElem? (i := 555) (by decide +kernel), List.mem_of_getElem? (i := 554) (by decide +kernel), List.mem_of_getElem? (i := 37) (by decide +kernel), by decide +kernel, by decide +kernel, by decide +kernel⟩
theorem v_X3_withStick : cV yX3_withStick cX3_withStick 7 (some .long) 2 := ⟨List.mem_of_getElem? (i := 551) (by decide +kernel), List.mem_of_getElem? (i := 550) (by decide +kernel), List.mem_of_getElem? (i := 10) (by decide +kernel), List.mem_of_getElem? (i := 37) (by decide +kernel), by decide +kernel, by decide +kernel, by decide +kernel⟩
theorem v_X3_drawLateness : cV yX3_drawLateness cX3_drawLateness 4 (some .int) 1 := ⟨List.mem_of_getElem? (i := 502) (by decide +kernel), List.mem_of_getElem? (i := 501) (by decide +kernel), List.mem_of_getElem? (i := 9) (by decide +kernel), List.mem_of_getElem? (i := 37) (by decide +kernel), by decide +kernel, by decide +kernel, by decide +kernel⟩
theorem v_X3_stepFrom : cS yX3_stepFrom cX3_stepFrom 4 (some .int) 2 := ⟨List.mem_of_getElem? (i := 328) (by decide +kernel), List.mem_of_getElem? (i := 327) (by decide +kernel), List.mem_of_getElem? (i := 37) (by decide +kernel), by decide +kernel, by decide +kernel, by decide +kernel⟩
theorem v_X3_stepsBetween : cS yX3_stepsBetween cX3_stepsBetween 2 (some .int) 2 := ⟨List.mem_of_getElem? (i := 449) (by decide +kernel), List.mem_of_getElem? (i := 448) (by decide +kernel), List.mem_of_getElem? (i := 37) (by decide +kernel), by decide +kernel, by decide +kernel, by decide +kernel⟩
theorem v_X4_in : cS yX4_in cX4_in 6 (some .boolean) 3 := ⟨List.mem_of_getElem? (i := 643) (by decide +kernel), List.mem_of_getElem? (i := 642) (by decide +kernel), List.mem_of_getElem? (i := 41) (by decide +kernel), by decide +kernel, by decide +kernel, by decide +kernel⟩
theorem v_X4_copy : cS yX4_copy cX4_copy 3 none 2 := ⟨List.mem_of_getElem? (i := 817) (by decide +kernel), List.mem_of_getElem? (i := 816) (by decide +kernel), List.mem_of_getElem? (i := 41) (by decide +kernel), by decide +kernel, by decide +kernel, by decide +kernel⟩
theorem v_X4_ones : cS yX4_ones cX4_ones 3 (some .int) 1 := ⟨List.mem_of_getElem? (i := 712) (by decide +kernel), List.mem_of_getElem? (i := 711) (by decide +kernel), List.mem_of_getElem? (i := 41) (by decide +kernel), by decide +kernel, by decide +kernel, by decide +kernel⟩
theorem v_X4_letter : cV yX4_letter cX4_letter 2 (some .int) 1 := ⟨List.mem_of_getElem? (i := 639) (by decide +kernel), List.mem_of_getElem? (i := 637) (by decide +kernel), List.mem_of_getElem? (i := 638) (by decide +kernel), List.mem_of_getElem? (i := 41) (by decide +kernel), by decide +kernel, by decide +kernel, by decide +kernel⟩
theorem v_X4_blank : cV yX4_blank cX4_blank 2 (some .int) 0 := ⟨List.mem_of_getElem? (i := 647) (by decide +kernel), List.mem_of_getElem? (i := 645) (by decide +kernel), List.mem_of_getElem? (i := 646) (by decide +kernel), List.mem_of_getElem? (i := 41) (by decide +kernel), by decide +kernel, by decide +kernel, by decide +kernel⟩
theorem v_X4_kindBy : cS yX4_kindBy cX4_kindBy 1 (some .int) 1 := ⟨List.mem_of_getElem? (i := 662) (by decide +kernel), List.mem_of_getElem? (i := 661) (by decide +kernel), List.mem_of_getElem? (i := 41) (by decide +kernel), by decide +kernel, by decide +kernel, by decide +kernel⟩
theorem v_X4_stepBy : cS yX4_stepBy cX4_stepBy 1 (some .int) 1 := ⟨List.mem_of_getElem? (i := 667) (by decide +kernel), List.mem_of_getElem? (i := 666) (by decide +kernel), List.mem_of_getElem? (i := 41) (by decide +kernel), by decide +kernel, by decide +kernel, by decide +kernel⟩
theorem v_X4_go : cV yX4_go cX4_go 3 (some .boolean) 1 := ⟨List.mem_of_getElem? (i := 659) (by decide +kernel), List.mem_of_getElem? (i := 658) (by decide +kernel), List.mem_of_getElem? (i := 12) (by decide +kernel), List.mem_of_getElem? (i := 41) (by decide +kernel), by decide +kernel, by decide +kernel, by decide +kernel⟩
theorem v_X4_faultOf : cV yX4_faultOf cX4_faultOf 2 (some .int) 0 := ⟨List.mem_of_getElem? (i := 655) (by decide +kernel), List.mem_of_getElem? (i := 654) (by decide +kernel), List.mem_of_getElem? (i := 11) (by decide +kernel), List.mem_of_getElem? (i := 41) (by decide +kernel), by decide +kernel, by decide +kernel, by decide +kernel⟩
theorem v_X4_fault : cV yX4_fault cX4_fault 1 (some .int) 0 := ⟨List.mem_of_getElem? (i := 651) (by decide +kernel), List.mem_of_getElem? (i := 649) (by decide +kernel), List.mem_of_getElem? (i := 650) (by decide +kernel), List.mem_of_getElem? (i := 41) (by decide +kernel), by decide +kernel, by decide +kernel, by decide +kernel⟩
theorem v_X4_hills : cV yX4_hills cX4_hills 2 (some .int) 0 := ⟨List.mem_of_getElem? (i := 671) (by decide +kernel), List.mem_of_getElem? (i := 669) (by decide +kernel), List.mem_of_getElem? (i := 670) (by decide +kernel), List.mem_of_getElem? (i := 41) (by decide +kernel), by decide +kernel, by decide +kernel, by decide +kernel⟩
theorem v_X4_lacks : cV yX4_lacks cX4_lacks 1 (some .boolean) 0 := ⟨List.mem_of_getElem? (i := 764) (by decide +kernel), List.mem_of_getElem? (i := 763) (by decide +kernel), List.mem_of_getElem? (i := 23) (by decide +kernel), List.mem_of_getElem? (i := 41) (by decide +kernel), by decide +kernel, by decide +kernel, by decide +kernel⟩
theorem v_X4_isStick : cV yX4_isStick cX4_isStick 2 (some .boolean) 1 := ⟨List.mem_of_getElem? (i := 679) (by decide +kernel), List.mem_of_getElem? (i := 678) (by decide +kernel), List.mem_of_getElem? (i := 13) (by decide +kernel), List.mem_of_getElem? (i := 41) (by decide +kernel), by decide +kernel, by decide +kernel, by decide +kernel⟩
theorem v_X4_areTwo : cV yX4_areTwo cX4_areTwo 3 (some .boolean) 2 := ⟨List.mem_of_getElem? (i := 730) (by decide +kernel), List.mem_of_getElem? (i := 729) (by decide +kernel), List.mem_of_getElem? (i := 20) (by decide +kernel), List.mem_of_getElem? (i := 41) (by decide +kernel), by decide +kernel, by decide +kernel, by decide +kernel⟩
theorem v_X4_stepped : cS yX4_stepped cX4_stepped 4 (some .int) 2 := ⟨List.mem_of_getElem? (i := 704) (by decide +kernel), List.mem_of_getElem? (i := 703) (by decide +kernel), List.mem_of_getElem? (i := 41) (by decide +kernel), by decide +kernel, by decide +kernel, by decide +kernel⟩
theorem v_X4_hoursOf : cV yX4_hoursOf cX4_hoursOf 4 (some .int) 1 := ⟨List.mem_of_getElem? (i := 693) (by decide +kernel), List.mem_of_getElem? (i := 692) (by decide +kernel), List.mem_of_getElem? (i := 16) (by decide +kernel), List.mem_of_getElem? (i := 41) (by decide +kernel), by decide +kernel, by decide +kernel, by decide +kernel⟩
theorem v_X4_stepIn : cV yX4_stepIn cX4_stepIn 8 (some .int) 2 := ⟨List.mem_of_getElem? (i := 701) (by decide +kernel), List.mem_of_getElem? (i := 700) (by decide +kernel), List.mem_of_getElem? (i := 18) (by decide +kernel), List.mem_of_getElem? (i := 41) (by decide +kernel), by decide +kernel, by decide +kernel, by decide +kernel⟩
theorem v_X4_atOf : cV yX4_atOf cX4_atOf 6 (some .int) 2 := ⟨List.mem_of_getElem? (i := 697) (by decide +kernel), List.mem_of_getElem? (i := 696) (by decide +kernel), List.mem_of_getElem? (i := 17) (by decide +kernel), List.mem_of_getElem? (i := 41) (by decide +kernel), by decide +kernel, by decide +kernel, by decide +kernel⟩
theorem v_X4_placesOf : cV yX4_placesOf cX4_placesOf 4 (some .int) 1 := ⟨List.mem_of_getElem? (i := 709) (by decide +kernel), List.mem_of_getElem? (i := 708) (by decide +kernel), List.mem_of_getElem? (i := 19) (by decide +kernel), List.mem_of_getElem? (i := 41) (by decide +kernel), by decide +kernel, by decide +kernel, by decide +kernel⟩
theorem v_X4_endOf : cV yX4_endOf cX4_endOf 2 (some .int) 1 := ⟨List.mem_of_getElem? (i := 689) (by decide +kernel), List.mem_of_getElem? (i := 688) (by decide +kernel), List.mem_of_getElem? (i := 15) (by decide +kernel), List.mem_of_getElem? (i := 41) (by decide +kernel), by decide +kernel, by decide +kernel, by decide +kernel⟩
theorem v_X4_tell : cV yX4_tell cX4_tell 3 (some .int) 2 := ⟨List.mem_of_getElem? (i := 683) (by decide +kernel), List.mem_of_getElem? (i := 682) (by decide +kernel), List.mem_of_getElem? (i := 14) (by decide +kernel), List.mem_of_getElem? (i := 41) (by decide +kernel), by decide +kernel, by decide +kernel, by decide +kernel⟩
theorem v_X4_stick : cV yX4_stick cX4_stick 3 (some .int) 2 := ⟨List.mem_of_getElem? (i := 675) (by decide +kernel), List.mem_of_getElem? (i := 673) (by decide +kernel), List.mem_of_getElem? (i := 674) (by decide +kernel), List.mem_of_getElem? (i := 41) (by decide +kernel), by decide +kernel, by decide +kernel, by decide +kernel⟩
theorem v_X4_as : cV yX4_as cX4_as 5 (some .int) 2 := ⟨List.mem_of_getElem? (i := 716) (by decide +kernel), List.mem_of_getElem? (i := 714) (by decide +kernel), List.mem_of_getElem? (i := 715) (by decide +kernel), List.mem_of_getElem? (i := 41) (by decide +kernel), by decide +kernel, by decide +kernel, by decide +kernel⟩
theorem v_X4_at : cV yX4_at cX4_at 3 (some .int) 2 := ⟨List.mem_of_getElem? (i := 721) (by decide +kernel), List.mem_of_getElem? (i := 719) (by decide +kernel), List.mem_of_getElem? (i := 720) (by decide +kernel), List.mem_of_getElem? (i := 41) (by decide +kernel), by decide +kernel, by decide +kernel, by decide +kernel⟩
theorem v_X4_meetOf : cV yX4_meetOf cX4_meetOf 5 (some .int) 2 := ⟨List.mem_of_getElem? (i := 734) (by decide +kernel), List.mem_of_getElem? (i := 733) (by decide +kernel), List.mem_of_getElem? (i := 21) (by decide +kernel), List.mem_of_getElem? (i := 41) (by decide +kernel), by decide +kernel, by decide +kernel, by decide +kernel⟩
theorem v_X4_meet : cV yX4_meet cX4_meet 3 (some .int) 2 := ⟨List.mem_of_getElem? (i := 726) (by decide +kernel), List.mem_of_getElem? (i := 724) (by decide +kernel), List.mem_of_getElem? (i := 725) (by decide +kernel), List.mem_of_getElem? (i := 41) (by decide +kernel), by decide +kernel, by decide +kernel, by decide +kernel⟩
theorem v_X4_late : cV yX4_late cX4_late 4 (some .int) 2 := ⟨List.mem_of_getElem? (i := 738) (by decide +kernel), List.mem_of_getElem? (i := 736) (by decide +kernel), List.mem_of_getElem? (i := 737) (by decide +kernel), List.mem_of_getElem? (i := 41) (by decide +kernel), by decide +kernel, by decide +kernel, by decide +kernel⟩
theorem v_X4_cut : cV yX4_cut cX4_cut 4 (some .int) 2 := ⟨List.mem_of_getElem? (i := 743) (by decide +kernel), List.mem_of_getElem? (i := 741) (by decide +kernel), List.mem_of_getElem? (i := 742) (by decide +kernel), List.mem_of_getElem? (i := 41) (by decide +kernel), by decide +kernel, by decide +kernel, by decide +kernel⟩
theorem v_X4_saw : cV yX4_saw cX4_saw 7 (some .int) 2 := ⟨List.mem_of_getElem? (i := 747) (by decide +kernel), List.mem_of_getElem? (i := 745) (by decide +kernel), List.mem_of_getElem? (i := 746) (by decide +kernel), List.mem_of_getElem? (i := 41) (by decide +kernel), by decide +kernel, by decide +kernel, by decide +kernel⟩
theorem v_X4_laterOf : cV yX4_laterOf cX4_laterOf 6 (some .int) 2 := ⟨List.mem_of_getElem? (i := 755) (by decide +kernel), List.mem_of_getElem? (i := 754) (by decide +kernel), List.mem_of_getElem? (i := 22) (by decide +kernel), List.mem_of_getElem? (i := 41) (by decide +kernel), by decide +kernel, by decide +kernel, by decide +kernel⟩
theorem v_X4_later : cV yX4_later cX4_later 3 (some .int) 2 := ⟨List.mem_of_getElem? (i := 751) (by decide +kernel), List.mem_of_getElem? (i := 749) (by decide +kernel), List.mem_of_getElem? (i := 750) (by decide +kernel), List.mem_of_getElem? (i := 41) (by decide +kernel), by decide +kernel, by decide +kernel, by decide +kernel⟩
theorem v_X4_coverSet : cV yX4_coverSet cX4_coverSet 6 (some .int) 1 := ⟨List.mem_of_getElem? (i := 772) (by decide +kernel), List.mem_of_getElem? (i := 771) (by decide +kernel), List.mem_of_getElem? (i := 25) (by decide +kernel), List.mem_of_getElem? (i := 41) (by decide +kernel), by decide +kernel, by decide +kernel, by decide +kernel⟩
theorem v_X4_coverOf : cV yX4_coverOf cX4_coverOf 4 (some .int) 2 := ⟨List.mem_of_getElem? (i := 768) (by decide +kernel), List.mem_of_getElem? (i := 767) (by decide +kernel), List.mem_of_getElem? (i := 24) (by decide +kernel), List.mem_of_getElem? (i := 41) (by decide +kernel), by decide +kernel, by decide +kernel, by decide +kernel⟩
theorem v_X4_cover : cV yX4_cover cX4_cover 3 (some .int) 2 := ⟨List.mem_of_getElem? (i := 759) (by decide +kernel), List.mem_of_getElem? (i := 757) (by decide +kernel), List.mem_of_getElem? (i := 758) (by decide +kernel), List.mem_of_getElem? (i := 41) (by decide +kernel), by decide +kernel, by decide +kernel, by decide +kernel⟩
theorem v_X4_far : cS yX4_far cX4_far 4 (some .int) 2 := ⟨List.mem_of_getElem? (i := 784) (by decide +kernel), List.mem_of_getElem? (i := 783) (by decide +kernel), List.mem_of_getElem? (i := 41) (by decide +kernel), by decide +kernel, by decide +kernel, by decide +kernel⟩
theorem v_X4_catchOf : cV yX4_catchOf cX4_catchOf 4 (some .int) 2 := ⟨List.mem_of_getElem? (i := 781) (by decide +kernel), List.mem_of_getElem? (i := 780) (by decide +kernel), List.mem_of_getElem? (i := 26) (by decide +kernel), List.mem_of_getElem? (i := 41) (by decide +kernel), by decide +kernel, by decide +kernel, by decide +kernel⟩
theorem v_X4_catches : cV yX4_catches cX4_catches 3 (some .int) 2 := ⟨List.mem_of_getElem? (i := 776) (by decide +kernel), List.mem_of_getElem? (i := 774) (by decide +kernel), List.mem_of_getElem? (i := 775) (by decide +kernel), List.mem_of_getElem? (i := 41) (by decide +kernel), by decide +kernel, by decide +kernel, by decide +kernel⟩
theorem v_X4_see : cV yX4_see cX4_see 3 (some .int) 2 := ⟨List.mem_of_getElem? (i := 788) (by decide +kernel), List.mem_of_getElem? (i := 786) (by decide +kernel), List.mem_of_getElem? (i := 787) (by decide +kernel), List.mem_of_getElem? (i := 41) (by decide +kernel), by decide +kernel, by decide +kernel, by decide +kernel⟩
theorem v_X4_forget : cV yX4_forget cX4_forget 2 (some .int) 0 := ⟨List.mem_of_getElem? (i := 792) (by decide +kernel), List.mem_of_getElem? (i := 790) (by decide +kernel), List.mem_of_getElem? (i := 791) (by decide +kernel), List.mem_of_getElem? (i := 41) (by decide +kernel), by decide +kernel, by decide +kernel, by decide +kernel⟩
theorem v_X4_whoseOf : cV yX4_whoseOf cX4_whoseOf 5 (some .int) 0 := ⟨List.mem_of_getElem? (i := 800) (by decide +kernel), List.mem_of_getElem? (i := 799) (by decide +kernel), List.mem_of_getElem? (i := 27) (by decide +kernel), List.mem_of_getElem? (i := 41) (by decide +kernel), by decide +kernel, by decide +kernel, by decide +kernel⟩
theorem v_X4_whose : cV yX4_whose cX4_whose 1 (some .int) 0 := ⟨List.mem_of_getElem? (i := 796) (by decide +kernel), List.mem_of_getElem? (i := 794) (by decide +kernel), List.mem_of_getElem? (i := 795) (by decide +kernel), List.mem_of_getElem? (i := 41) (by decide +kernel), by decide +kernel, by decide +kernel, by decide +kernel⟩
theorem v_X4_lookOf : cV yX4_lookOf cX4_lookOf 8 (some .int) 0 := ⟨List.mem_of_getElem? (i := 808) (by decide +kernel), List.mem_of_getElem? (i := 807) (by decide +kernel), List.mem_of_getElem? (i := 28) (by decide +kernel), List.mem_of_getElem? (i := 41) (by decide +kernel), by decide +kernel, by decide +kernel, by decide +kernel⟩
theorem v_X4_look : cV yX4_look cX4_look 1 (some .int) 0 := ⟨List.mem_of_getElem? (i := 804) (by decide +kernel), List.mem_of_getElem? (i := 802) (by decide +kernel), List.mem_of_getElem? (i := 803) (by decide +kernel), List.mem_of_getElem? (i := 41) (by decide +kernel), by decide +kernel, by decide +kernel, by decide +kernel⟩
theorem v_X4_draw : cV yX4_draw cX4_draw 2 (some .int) 1 := ⟨List.mem_of_getElem? (i := 821) (by decide +kernel), List.mem_of_getElem? (i := 820) (by decide +kernel), List.mem_of_getElem? (i := 29) (by decide +kernel), List.mem_of_getElem? (i := 41) (by decide +kernel), by decide +kernel, by decide +kernel, by decide +kernel⟩
theorem v_X4_meetAll : cV yX4_meetAll cX4_meetAll 4 (some .int) 0 := ⟨List.mem_of_getElem? (i := 829) (by decide +kernel), List.mem_of_getElem? (i := 828) (by decide +kernel), List.mem_of_getElem? (i := 30) (by decide +kernel), List.mem_of_getElem? (i := 41) (by decide +kernel), by decide +kernel, by decide +kernel, by decide +kernel⟩
theorem v_X4_placesAll : cV yX4_placesAll cX4_placesAll 3 (some .int) 0 := ⟨List.mem_of_getElem? (i := 833) (by decide +kernel), List.mem_of_getElem? (i := 832) (by decide +kernel), List.mem_of_getElem? (i := 31) (by decide +kernel), List.mem_of_getElem? (i := 41) (by decide +kernel), by decide +kernel, by decide +kernel, by decide +kernel⟩
theorem v_X4_mornings : cV yX4_mornings cX4_mornings 7 (some .int) 3 := ⟨List.mem_of_getElem? (i := 812) (by decide +kernel), List.mem_of_getElem? (i := 810) (by decide +kernel), List.mem_of_getElem? (i := 811) (by decide +kernel), List.mem_of_getElem? (i := 41) (by decide +kernel), by decide +kernel, by decide +kernel, by decide +kernel⟩
theorem v_X4_image : cV yX4_image cX4_image 1 (some .int) 0 := ⟨List.mem_of_getElem? (i := 837) (by decide +kernel), List.mem_of_getElem? (i := 835) (by decide +kernel), List.mem_of_getElem? (i := 836) (by decide +kernel), List.mem_of_getElem? (i := 41) (by decide +kernel), by decide +kernel, by decide +kernel, by decide +kernel⟩
theorem v_X4_restore : cV yX4_restore cX4_restore 1 (some .int) 0 := ⟨List.mem_of_getElem? (i := 841) (by decide +kernel), List.mem_of_getElem? (i := 839) (by decide +kernel), List.mem_of_getElem? (i := 840) (by decide +kernel), List.mem_of_getElem? (i := 41) (by decide +kernel), by decide +kernel, by decide +kernel, by decide +kernel⟩
theorem v_X4_stepsAll : cV yX4_stepsAll cX4_stepsAll 3 (some .int) 0 := ⟨List.mem_of_getElem? (i := 853) (by decide +kernel), List.mem_of_getElem? (i := 852) (by decide +kernel), List.mem_of_getElem? (i := 33) (by decide +kernel), List.mem_of_getElem? (i := 41) (by decide +kernel), by decide +kernel, by decide +kernel, by decide +kernel⟩
theorem v_X4_countOf : cV yX4_countOf cX4_countOf 2 (some .int) 1 := ⟨List.mem_of_getElem? (i := 849) (by decide +kernel), List.mem_of_getElem? (i := 848) (by decide +kernel), List.mem_of_getElem? (i := 32) (by decide +kernel), List.mem_of_getElem? (i := 41) (by decide +kernel), by decide +kernel, by decide +kernel, by decide +kernel⟩
theorem v_X4_count : cV yX4_count cX4_count 2 (some .int) 1 := ⟨List.mem_of_getElem? (i := 845) (by decide +kernel), List.mem_of_getElem? (i := 843) (by decide +kernel), List.mem_of_getElem? (i := 844) (by decide +kernel), List.mem_of_getElem? (i := 41) (by decide +kernel), by decide +kernel, by decide +kernel, by decide +kernel⟩
theorem v_X4_say : cV yX4_say cX4_say 3 none 1 := ⟨List.mem_of_getElem? (i := 866) (by decide +kernel), List.mem_of_getElem? (i := 865) (by decide +kernel), List.mem_of_getElem? (i := 35) (by decide +kernel), List.mem_of_getElem? (i := 41) (by decide +kernel), by decide +kernel, by decide +kernel, by decide +kernel⟩
theorem v_X4_sayStick : cV yX4_sayStick cX4_sayStick 3 none 1 := ⟨List.mem_of_getElem? (i := 862) (by decide +kernel), List.mem_of_getElem? (i := 861) (by decide +kernel), List.mem_of_getElem? (i := 34) (by decide +kernel), List.mem_of_getElem? (i := 41) (by decide +kernel), by decide +kernel, by decide +kernel, by decide +kernel⟩
theorem v_X4_digest : cV yX4_digest cX4_digest 2 (some .long) 0 := ⟨List.mem_of_getElem? (i := 857) (by decide +kernel), List.mem_of_getElem? (i := 855) (by decide +kernel), List.mem_of_getElem? (i := 856) (by decide +kernel), List.mem_of_getElem? (i := 41) (by decide +kernel), by decide +kernel, by decide +kernel, by decide +kernel⟩
theorem v_J6_bitCount_0f7a4 : cS yJ6_bitCount_0f7a4 cJ6_bitCount_0f7a4 1 (some .int) 1 := ⟨List.mem_of_getElem? (i := 348) (by decide +kernel), List.mem_of_getElem? (i := 347) (by decide +kernel), List.mem_of_getElem? (i := 48) (by decide +kernel), by decide +kernel, by decide +kernel, by decide +kernel⟩
theorem v_J0_length_8abf5 : cV yJ0_length_8abf5 cJ0_length_8abf5 1 (some .int) 0 := ⟨List.mem_of_getElem? (i := 206) (by decide +kernel), List.mem_of_getElem? (i := 204) (by decide +kernel), List.mem_of_getElem? (i := 205) (by decide +kernel), List.mem_of_getElem? (i := 42) (by decide +kernel), by decide +kernel, by decide +kernel, by decide +kernel⟩
theorem v_J0_indexOf_0f7a4 : cV yJ0_indexOf_0f7a4 cJ0_indexOf_0f7a4 2 (some .int) 1 := ⟨List.mem_of_getElem? (i := 192) (by decide +kernel), List.mem_of_getElem? (i := 190) (by decide +kernel), List.mem_of_getElem? (i := 191) (by decide +kernel), List.mem_of_getElem? (i := 42) (by decide +kernel), by decide +kernel, by decide +kernel, by decide +kernel⟩
theorem v_J0_indexOf_7cf53 : cV yJ0_indexOf_7cf53 cJ0_indexOf_7cf53 3 (some .int) 2 := ⟨List.mem_of_getElem? (i := 196) (by decide +kernel), List.mem_of_getElem? (i := 194) (by decide +kernel), List.mem_of_getElem? (i := 195) (by decide +kernel), List.mem_of_getElem? (i := 42) (by decide +kernel), by decide +kernel, by decide +kernel, by decide +kernel⟩
theorem v_J0_coder_7d493 : cV yJ0_coder_7d493 cJ0_coder_7d493 1 (some .byte) 0 := ⟨List.mem_of_getElem? (i := 210) (by decide +kernel), List.mem_of_getElem? (i := 208) (by decide +kernel), List.mem_of_getElem? (i := 209) (by decide +kernel), List.mem_of_getElem? (i := 42) (by decide +kernel), by decide +kernel, by decide +kernel, by decide +kernel⟩
theorem v_J0_isLatin1_aae02 : cV yJ0_isLatin1_aae02 cJ0_isLatin1_aae02 1 (some .boolean) 0 := ⟨List.mem_of_getElem? (i := 200) (by decide +kernel), List.mem_of_getElem? (i := 198) (by decide +kernel), List.mem_of_getElem? (i := 199) (by decide +kernel), List.mem_of_getElem? (i := 42) (by decide +kernel), by decide +kernel, by decide +kernel, by decide +kernel⟩
theorem v_J1_canEncode_9a6ad : cS yJ1_canEncode_9a6ad cJ1_canEncode_9a6ad 1 (some .boolean) 1 := ⟨List.mem_of_getElem? (i := 216) (by decide +kernel), List.mem_of_getElem? (i := 215) (by decide +kernel), List.mem_of_getElem? (i := 43) (by decide +kernel), by decide +kernel, by decide +kernel, by decide +kernel⟩
theorem v_J1_indexOf_4cfef : cS yJ1_indexOf_4cfef cJ1_indexOf_4cfef 4 (some .int) 4 := ⟨List.mem_of_getElem? (i := 213) (by decide +kernel), List.mem_of_getElem? (i := 212) (by decide +kernel), List.mem_of_getElem? (i := 43) (by decide +kernel), by decide +kernel, by decide +kernel, by decide +kernel⟩
theorem v_J1_indexOfChar_4cfef : cS yJ1_indexOfChar_4cfef cJ1_indexOfChar_4cfef 6 (some .int) 4 := ⟨List.mem_of_getElem? (i := 225) (by decide +kernel), List.mem_of_getElem? (i := 224) (by decide +kernel), List.mem_of_getElem? (i := 43) (by decide +kernel), by decide +kernel, by decide +kernel, by decide +kernel⟩
end
section
/-! bits, and the walk's steps -/
theorem nI_or (a b : Nat) : nI a ||| nI b = nI (a ||| b) := by
  apply Int32.toBitVec_inj.1
  show BitVec.ofNat 32 a ||| BitVec.ofNat 32 b = BitVec.ofNat 32 (a ||| b)
  apply BitVec.eq_of_getLsbD_eq
  intro i hi
  simp [hi]
theorem nI_and (a b : Nat) : nI a &&& nI b = nI (a &&& b) := by
  apply Int32.toBitVec_inj.1
  show BitVec.ofNat 32 a &&& BitVec.ofNat 32 b = BitVec.ofNat 32 (a &&& b)
  apply BitVec.eq_of_getLsbD_eq
  intro i hi
  simp [hi]
theorem bitI : ∀ q, q < 31 → (1 : Int32) <<< (nI q &&& 31) = nI (2 ^ q) := by decide +kernel
theorem hp_12 (K : Nat) : hpN K = 1 ∨ hpN K = 2 := by unfold hpN; split <;> simp
theorem hw_20 {K C : Nat} (h : C ≤ 5) : hwN K C ≤ 20 := by
  unfold hwN swN hpN
  by_cases h1 : K = 1 <;> by_cases h4 : K = 4 <;> by_cases h2 : K = 2 <;> simp [h1, h4, h2] <;> omega
theorem st_take {h w q : Nat} (hq : q = 1 ∨ q = 2) (h1 : h + 1 ≤ w) (h2 : (h + 1) % q = 0) : min h w / q = (h + 1) / q - 1 ∧ min h w / q + 1 = min (h + 1) w / q := by
  have e1 : min h w = h := by omega
  have e2 : min (h + 1) w = h + 1 := by omega
  rw [e1, e2]
  rcases hq with rfl | rfl <;> omega
theorem st_stay {h w q : Nat} (hq : q = 1 ∨ q = 2) (h1 : w < h + 1 ∨ (h + 1) % q ≠ 0) : min h w / q = min (h + 1) w / q := by
  rcases Nat.lt_or_ge w (h + 1) with q1 | q1
  · have e1 : min h w = w := by omega
    have e2 : min (h + 1) w = w := by omega
    rw [e1, e2]
  · have e1 : min h w = h := by omega
    have e2 : min (h + 1) w = h + 1 := by omega
    rw [e1, e2]
    have h3 : (h + 1) % q ≠ 0 := h1.elim (fun z => by omega) id
    rcases hq with rfl | rfl <;> omega
theorem posN_take {S : Sk} {h : Nat} (h1 : h + 1 ≤ hwN (S 0) (S 3)) (h2 : (h + 1) % hpN (S 0) = 0) : nI (stepN (posN S h) (dirN S (min h (hwN (S 0) (S 3)) / hpN (S 0)))) = nI (posN S (h + 1)) := by
  rw [posN, if_pos ⟨h1, h2⟩, (st_take (hp_12 _) h1 h2).1]
theorem posN_far {S : Sk} {h : Nat} (h1 : hwN (S 0) (S 3) < h + 1) : nI (posN S h) = nI (posN S (h + 1)) := by
  rw [posN, if_neg (fun z => by omega)]
theorem posN_off {S : Sk} {h : Nat} (h2 : (h + 1) % hpN (S 0) ≠ 0) : nI (posN S h) = nI (posN S (h + 1)) := by
  rw [posN, if_neg (fun z => h2 z.2)]
theorem stN_take {S : Sk} {h : Nat} (h1 : h + 1 ≤ hwN (S 0) (S 3)) (h2 : (h + 1) % hpN (S 0) = 0) : nI (min h (hwN (S 0) (S 3)) / hpN (S 0) + 1) = nI (min (h + 1) (hwN (S 0) (S 3)) / hpN (S 0)) := by
  rw [(st_take (hp_12 _) h1 h2).2]
theorem stN_far {S : Sk} {h : Nat} (h1 : hwN (S 0) (S 3) < h + 1) : nI (min h (hwN (S 0) (S 3)) / hpN (S 0)) = nI (min (h + 1) (hwN (S 0) (S 3)) / hpN (S 0)) := by
  rw [st_stay (hp_12 _) (Or.inl h1)]
theorem stN_off {S : Sk} {h : Nat} (h2 : (h + 1) % hpN (S 0) ≠ 0) : nI (min h (hwN (S 0) (S 3)) / hpN (S 0)) = nI (min (h + 1) (hwN (S 0) (S 3)) / hpN (S 0)) := by
  rw [st_stay (hp_12 _) (Or.inr h2)]
/-- while the walk is traced: up to h -/
def RTP (σ : St) (j : Nat) (S : Sk) (σ' : St) (h : Nat) : Prop :=
  (∀ a, a ≠ 3 * j + 14 → a ≠ 3 * j + 16 → σ' a = σ a) ∧ (∀ f, f ≠ 5 → σ' (3 * j + 14) f = σ (3 * j + 14) f) ∧ (∀ t, t ≤ h → σ' (3 * j + 16) t = nI (posN S t)) ∧ σ' (3 * j + 14) 5 = nI (orN (posN S) (h + 1))
/-- behind retrace() -/
def RT (σ : St) (j : Nat) (S : Sk) (σ' : St) : Prop :=
  (∀ a, a ≠ 3 * j + 14 → a ≠ 3 * j + 16 → σ' a = σ a) ∧ (∀ f, f ≠ 5 → σ' (3 * j + 14) f = σ (3 * j + 14) f) ∧ GT σ' j S
theorem RTP_0 {σ : St} {j : Nat} {S : Sk} (h : S 1 < 16) : RTP σ j S (up2 (up2 σ (3 * j + 16) 0 (nI (S 1))) (3 * j + 14) 5 (1 <<< (nI (S 1) &&& 31))) 0 := by
  refine ⟨fun a h1 h2 => ?_, fun f hf => ?_, fun t ht => ?_, ?_⟩
  · rw [up2_ne h1, up2_ne h2]
  · rw [up2_nf hf, up2_nr (by omega)]
  · have : t = 0 := by omega
    subst this
    rw [up2_nr (by omega), up2_eq]; rfl
  · rw [up2_eq, bitI _ (by omega)]
    show _ = nI (0 ||| 2 ^ S 1)
    rw [Nat.zero_or]
theorem RTP_s {σ σ' : St} {j h : Nat} {S : Sk} (hv : VS S) (H : RTP σ j S σ' h) : RTP σ j S (up2 (up2 σ' (3 * j + 16) (h + 1) (nI (posN S (h + 1)))) (3 * j + 14) 5 ((up2 σ' (3 * j + 16) (h + 1) (nI (posN S (h + 1)))) (3 * j + 14) 5 ||| 1 <<< (nI (posN S (h + 1)) &&& 31))) (h + 1) := by
  obtain ⟨h1, h2, h3, h4⟩ := H
  refine ⟨fun a q1 q2 => ?_, fun f hf => ?_, fun t ht => ?_, ?_⟩
  · rw [up2_ne q1, up2_ne q2]; exact h1 a q1 q2
  · rw [up2_nf hf, up2_nr (by omega)]; exact h2 f hf
  · rw [up2_nr (by omega)]
    by_cases e : t = h + 1
    · subst e; rw [up2_eq]
    · rw [up2_nf e]; exact h3 t (by omega)
  · rw [up2_eq, up2_nr (by omega), h4, bitI _ (by have := posN_lt hv (h + 1); omega), nI_or]
    rfl
theorem RTP.fin {σ σ' : St} {j : Nat} {S : Sk} (H : RTP σ j S σ' 30) : RT σ j S σ' := ⟨H.1, H.2.1, fun t ht => H.2.2.1 t (by omega), H.2.2.2⟩
theorem RTP.gs {σ σ' : St} {j h : Nat} {S : Sk} (H : RTP σ j S σ' h) (g : GS σ j S) : GS σ' j S := by
  obtain ⟨g1, g2, g3, g4⟩ := g
  refine ⟨(H.2.1 0 (by omega)).trans g1, (H.2.1 1 (by omega)).trans g2, (H.2.1 2 (by omega)).trans g3, fun i hi => ?_⟩
  rw [H.1 (3 * j + 15) (by omega) (by omega)]; exact g4 i hi
theorem RT.gs {σ σ' : St} {j : Nat} {S : Sk} (H : RT σ j S σ') (g : GS σ j S) : GS σ' j S := by
  obtain ⟨g1, g2, g3, g4⟩ := g
  refine ⟨(H.2.1 0 (by omega)).trans g1, (H.2.1 1 (by omega)).trans g2, (H.2.1 2 (by omega)).trans g3, fun i hi => ?_⟩
  rw [H.1 (3 * j + 15) (by omega) (by omega)]; exact g4 i hi
/-- a plain walk of the first steps -/
def plainN (S : Sk) : Nat → Nat
  | 0 => S 1
  | t + 1 => stepN (plainN S t) (S (4 + t))
theorem plainN_lt {S : Sk} (h : VS S) : ∀ t, t ≤ S 3 → plainN S t < 16 := by
  intro t
  induction t with
  | zero => intro _; exact h.2.1
  | succ t ih => intro ht; exact stepN_lt _ (ih (by omega)) _ (h.2.2.2 t (by omega))
/-- is a stick of that kind -/
def isK (K k : Nat) : Bool := k == 0 || k == K || (k == 1 && K == 4)
end
section
set_option maxHeartbeats 4000000 in
set_option maxRecDepth 100000 in
theorem c_X3_isPlace (l : Launch) (x : Int32) : Met l yX3_isPlace (w1 yX3_isPlace cX3_isPlace 1 (some .boolean)) ({ frames := 0, cells := 0, slots := 0, locals := 0 }) (PcT [.int x]) (vp_Si (fun r => r = bI (decide (¬ x < 0 ∧ ¬ 16 ≤ x)))) 0 0 (fun _ => False) := by
  refine met_of [.int x] [(0, .int x)] (by decide) (Nat.le_of_ble_eq_true rfl) rfl ?_
  intro p e s m below meth c hx hb hr hown hml hlocks hW ls hl
  refine lv_iload_n hx hb dX3_isPlace_0 rfl (lv_at hl 0 rfl) ?_
  refine lv_if_lt (tgt := 14) hx hb dX3_isPlace_1 (by decide) (fun c_1 => ?_) (fun c_1 => ?_)
  · skip
    refine lv_iconst (v := 0) hx hb dX3_isPlace_14 (by decide) ?_
    exact W.zret (v := 0) (ty := .boolean) hx hb hr rfl (fun t9 ht9 hW9 => ⟨_, rfl, by simp_all [bI], ht9⟩) (fun q h => by cases h) dX3_isPlace_15
  · skip
    refine lv_iload_n hx hb dX3_isPlace_4 rfl (lv_at hl 0 rfl) ?_
    refine lv_bipush (v := 16) hx hb dX3_isPlace_5 (by decide) ?_
    refine lv_icmp_ge (tgt := 14) hx hb dX3_isPlace_7 (by decide) (fun c_7 => ?_) (fun c_7 => ?_)
    · skip
      refine lv_iconst (v := 0) hx hb dX3_isPlace_14 (by decide) ?_
      exact W.zret (v := 0) (ty := .boolean) hx hb hr rfl (fun t9 ht9 hW9 => ⟨_, rfl, by simp_all [bI], ht9⟩) (fun q h => by cases h) dX3_isPlace_15
    · skip
      refine lv_iconst (v := 1) hx hb dX3_isPlace_10 (by decide) ?_
      refine lv_goto (tgt := 15) hx hb dX3_isPlace_11 (by decide) ?_
      exact W.zret (v := 1) (ty := .boolean) hx hb hr rfl (fun t9 ht9 hW9 => ⟨_, rfl, by simp_all [bI], ht9⟩) (fun q h => by cases h) dX3_isPlace_15
set_option maxHeartbeats 4000000 in
set_option maxRecDepth 100000 in
theorem c_X3_isHour (l : Launch) (x : Int32) : Met l yX3_isHour (w1 yX3_isHour cX3_isHour 1 (some .boolean)) ({ frames := 0, cells := 0, slots := 0, locals := 0 }) (PcT [.int x]) (vp_Si (fun r => r = bI (decide (¬ x < 0 ∧ ¬ 30 < x)))) 0 0 (fun _ => False) := by
  refine met_of [.int x] [(0, .int x)] (by decide) (Nat.le_of_ble_eq_true rfl) rfl ?_
  intro p e s m below meth c hx hb hr hown hml hlocks hW ls hl
  refine lv_iload_n hx hb dX3_isHour_0 rfl (lv_at hl 0 rfl) ?_
  refine lv_if_lt (tgt := 14) hx hb dX3_isHour_1 (by decide) (fun c_1 => ?_) (fun c_1 => ?_)
  · skip
    refine lv_iconst (v := 0) hx hb dX3_isHour_14 (by decide) ?_
    exact W.zret (v := 0) (ty := .boolean) hx hb hr rfl (fun t9 ht9 hW9 => ⟨_, rfl, by simp_all [bI], ht9⟩) (fun q h => by cases h) dX3_isHour_15
  · skip
    refine lv_iload_n hx hb dX3_isHour_4 rfl (lv_at hl 0 rfl) ?_
    refine lv_bipush (v := 30) hx hb dX3_isHour_5 (by decide) ?_
    refine lv_icmp_gt (tgt := 14) hx hb dX3_isHour_7 (by decide) (fun c_7 => ?_) (fun c_7 => ?_)
    · skip
      refine lv_iconst (v := 0) hx hb dX3_isHour_14 (by decide) ?_
      exact W.zret (v := 0) (ty := .boolean) hx hb hr rfl (fun t9 ht9 hW9 => ⟨_, rfl, by simp_all [bI], ht9⟩) (fun q h => by cases h) dX3_isHour_15
    · skip
      refine lv_iconst (v := 1) hx hb dX3_isHour_10 (by decide) ?_
      refine lv_goto (tgt := 15) hx hb dX3_isHour_11 (by decide) ?_
      exact W.zret (v := 1) (ty := .boolean) hx hb hr rfl (fun t9 ht9 hW9 => ⟨_, rfl, by simp_all [bI], ht9⟩) (fun q h => by cases h) dX3_isHour_15
set_option maxHeartbeats 4000000 in
set_option maxRecDepth 100000 in
theorem c_X3_with (l : Launch) (a b : Int64) : Met l yX3_with (w1 yX3_with cX3_with 4 (some .long)) ({ frames := 0, cells := 0, slots := 0, locals := 0 }) (PcG [.long a, .long b]) (vp_Sl (fun r => r = 31 * a + b)) 0 0 (fun _ => False) := by
  refine met_of [.long a, .long b] [(0, .long a), (2, .long b)] (by decide) (Nat.le_of_ble_eq_true rfl) rfl ?_
  intro p e s m below meth c hx hb hr hown hml hlocks hW ls hl
  have hG : GW s := hW
  refine lv_ldc2 (v := 31) hx hb hown (hG.use (i := 556) (by decide +kernel) rfl _) dX3_with_0 ?_
  refine lv_lload_n hx hb dX3_with_3 rfl (lv_at hl 0 rfl) ?_
  refine lv_lmul hx hb dX3_with_4 ?_
  refine lv_lload_n hx hb dX3_with_5 rfl (lv_at hl 1 rfl) ?_
  refine lv_ladd hx hb dX3_with_6 ?_
  exact W.lret (v := (31 * a) + b) hx hb hr (fun t9 ht9 hW9 => ⟨_, rfl, rfl, ht9⟩) (fun q h => by cases h) dX3_with_7
set_option maxHeartbeats 4000000 in
set_option maxRecDepth 100000 in
theorem c_X3_stepFrom (l : Launch) (pl d : Nat) (hp : pl < 16) (hd : d < 4) : Met l yX3_stepFrom (w1 yX3_stepFrom cX3_stepFrom 4 (some .int)) ({ frames := 0, cells := 0, slots := 0, locals := 0 }) (PcT [.int (nI pl), .int (nI d)]) (vp_Si (fun r => r = nI (stepN pl d))) 0 0 (fun _ => False) := by
  rcases sw4 hd with rfl | rfl | rfl | rfl
  · skip
    refine met_of [.int (nI pl), .int 0] [(0, .int (nI pl)), (1, .int 0)] (by decide) (Nat.le_of_ble_eq_true rfl) rfl ?_
    intro p e s m below meth c hx hb hr hown hml hlocks hW ls hl
    refine lv_iload_n hx hb dX3_stepFrom_0 rfl (lv_at hl 0 rfl) ?_
    refine lv_iconst (v := 4) hx hb dX3_stepFrom_1 (by decide) ?_
    refine ln_div pl 4 hx hb rfl rfl (by omega) (by omega) (by omega) dX3_stepFrom_2 ?_
    refine lv_istore_n (lv' := [(2, .int (nI (pl / 4))), (0, .int (nI pl)), (1, .int 0)]) hx hb dX3_stepFrom_3 rfl hl (by decide) rfl (fun ls hl => ?_)
    refine lv_iload_n hx hb dX3_stepFrom_4 rfl (lv_at hl 1 rfl) ?_
    refine lv_iconst (v := 4) hx hb dX3_stepFrom_5 (by decide) ?_
    refine ln_rem pl 4 hx hb rfl rfl (by omega) (by omega) (by omega) dX3_stepFrom_6 ?_
    refine lv_istore_n (lv' := [(3, .int (nI (pl % 4))), (2, .int (nI (pl / 4))), (0, .int (nI pl)), (1, .int 0)]) hx hb dX3_stepFrom_7 rfl hl (by decide) rfl (fun ls hl => ?_)
    refine lv_iload_n hx hb dX3_stepFrom_8 rfl (lv_at hl 3 rfl) ?_
    refine lv_tableIn (off := 31) (tgt := 40) hx hb dX3_stepFrom_9 (by decide) (by decide) rfl (by decide) ?_
    refine lv_iload_n hx hb dX3_stepFrom_40 rfl (lv_at hl 1 rfl) ?_
    refine lv_if_le (tgt := 50) hx hb dX3_stepFrom_41 (by decide) (fun c_41 => ?_) (fun c_41 => ?_)
    · skip
      have q_41 := tN_le (pl / 4) 0 c_41 rfl rfl (by omega) (by omega)
      refine lv_iload_n hx hb dX3_stepFrom_50 rfl (lv_at hl 2 rfl) ?_
      exact W.iret (v := nI pl) hx hb hr (fun t9 ht9 hW9 => ⟨_, rfl, by unfold stepN; simp only [reduceIte, Nat.reduceEqDiff]; first | rw [if_pos (by omega)] | rw [if_neg (by omega)], ht9⟩) (fun q h => by cases h) dX3_stepFrom_51
    · skip
      have q_41 := tN_nle (pl / 4) 0 c_41 rfl rfl (by omega) (by omega)
      refine lv_iload_n hx hb dX3_stepFrom_44 rfl (lv_at hl 2 rfl) ?_
      refine lv_iconst (v := 4) hx hb dX3_stepFrom_45 (by decide) ?_
      refine ln_sub pl 4 hx hb rfl rfl (by omega) dX3_stepFrom_46 ?_
      refine lv_goto (tgt := 51) hx hb dX3_stepFrom_47 (by decide) ?_
      exact W.iret (v := nI (pl - 4)) hx hb hr (fun t9 ht9 hW9 => ⟨_, rfl, by unfold stepN; simp only [reduceIte, Nat.reduceEqDiff]; first | rw [if_pos (by omega)] | rw [if_neg (by omega)], ht9⟩) (fun q h => by cases h) dX3_stepFrom_51
  · skip
    refine met_of [.int (nI pl), .int 1] [(0, .int (nI pl)), (1, .int 1)] (by decide) (Nat.le_of_ble_eq_true rfl) rfl ?_
    intro p e s m below meth c hx hb hr hown hml hlocks hW ls hl
    refine lv_iload_n hx hb dX3_stepFrom_0 rfl (lv_at hl 0 rfl) ?_
    refine lv_iconst (v := 4) hx hb dX3_stepFrom_1 (by decide) ?_
    refine ln_div pl 4 hx hb rfl rfl (by omega) (by omega) (by omega) dX3_stepFrom_2 ?_
    refine lv_istore_n (lv' := [(2, .int (nI (pl / 4))), (0, .int (nI pl)), (1, .int 1)]) hx hb dX3_stepFrom_3 rfl hl (by decide) rfl (fun ls hl => ?_)
    refine lv_iload_n hx hb dX3_stepFrom_4 rfl (lv_at hl 1 rfl) ?_
    refine lv_iconst (v := 4) hx hb dX3_stepFrom_5 (by decide) ?_
    refine ln_rem pl 4 hx hb rfl rfl (by omega) (by omega) (by omega) dX3_stepFrom_6 ?_
    refine lv_istore_n (lv' := [(3, .int (nI (pl % 4))), (2, .int (nI (pl / 4))), (0, .int (nI pl)), (1, .int 1)]) hx hb dX3_stepFrom_7 rfl hl (by decide) rfl (fun ls hl => ?_)
    refine lv_iload_n hx hb dX3_stepFrom_8 rfl (lv_at hl 3 rfl) ?_
    refine lv_tableIn (off := 43) (tgt := 52) hx hb dX3_stepFrom_9 (by decide) (by decide) rfl (by decide) ?_
    refine lv_iload_n hx hb dX3_stepFrom_52 rfl (lv_at hl 0 rfl) ?_
    refine lv_iconst (v := 3) hx hb dX3_stepFrom_53 (by decide) ?_
    refine lv_icmp_ge (tgt := 63) hx hb dX3_stepFrom_54 (by decide) (fun c_54 => ?_) (fun c_54 => ?_)
    · skip
      have q_54 := tN_le 3 (pl % 4) c_54 rfl rfl (by omega) (by omega)
      refine lv_iload_n hx hb dX3_stepFrom_63 rfl (lv_at hl 2 rfl) ?_
      exact W.iret (v := nI pl) hx hb hr (fun t9 ht9 hW9 => ⟨_, rfl, by unfold stepN; simp only [reduceIte, Nat.reduceEqDiff]; first | rw [if_pos (by omega)] | rw [if_neg (by omega)], ht9⟩) (fun q h => by cases h) dX3_stepFrom_64
    · skip
      have q_54 := tN_nle 3 (pl % 4) c_54 rfl rfl (by omega) (by omega)
      refine lv_iload_n hx hb dX3_stepFrom_57 rfl (lv_at hl 2 rfl) ?_
      refine lv_iconst (v := 1) hx hb dX3_stepFrom_58 (by decide) ?_
      refine ln_add pl 1 hx hb rfl rfl dX3_stepFrom_59 ?_
      refine lv_goto (tgt := 64) hx hb dX3_stepFrom_60 (by decide) ?_
      exact W.iret (v := nI (pl + 1)) hx hb hr (fun t9 ht9 hW9 => ⟨_, rfl, by unfold stepN; simp only [reduceIte, Nat.reduceEqDiff]; first | rw [if_pos (by omega)] | rw [if_neg (by omega)], ht9⟩) (fun q h => by cases h) dX3_stepFrom_64
  · skip
    refine met_of [.int (nI pl), .int 2] [(0, .int (nI pl)), (1, .int 2)] (by decide) (Nat.le_of_ble_eq_true rfl) rfl ?_
    intro p e s m below meth c hx hb hr hown hml hlocks hW ls hl
    refine lv_iload_n hx hb dX3_stepFrom_0 rfl (lv_at hl 0 rfl) ?_
    refine lv_iconst (v := 4) hx hb dX3_stepFrom_1 (by decide) ?_
    refine ln_div pl 4 hx hb rfl rfl (by omega) (by omega) (by omega) dX3_stepFrom_2 ?_
    refine lv_istore_n (lv' := [(2, .int (nI (pl / 4))), (0, .int (nI pl)), (1, .int 2)]) hx hb dX3_stepFrom_3 rfl hl (by decide) rfl (fun ls hl => ?_)
    refine lv_iload_n hx hb dX3_stepFrom_4 rfl (lv_at hl 1 rfl) ?_
    refine lv_iconst (v := 4) hx hb dX3_stepFrom_5 (by decide) ?_
    refine ln_rem pl 4 hx hb rfl rfl (by omega) (by omega) (by omega) dX3_stepFrom_6 ?_
    refine lv_istore_n (lv' := [(3, .int (nI (pl % 4))), (2, .int (nI (pl / 4))), (0, .int (nI pl)), (1, .int 2)]) hx hb dX3_stepFrom_7 rfl hl (by decide) rfl (fun ls hl => ?_)
    refine lv_iload_n hx hb dX3_stepFrom_8 rfl (lv_at hl 3 rfl) ?_
    refine lv_tableIn (off := 56) (tgt := 65) hx hb dX3_stepFrom_9 (by decide) (by decide) rfl (by decide) ?_
    refine lv_iload_n hx hb dX3_stepFrom_65 rfl (lv_at hl 1 rfl) ?_
    refine lv_iconst (v := 3) hx hb dX3_stepFrom_66 (by decide) ?_
    refine lv_icmp_ge (tgt := 76) hx hb dX3_stepFrom_67 (by decide) (fun c_67 => ?_) (fun c_67 => ?_)
    · skip
      have q_67 := tN_le 3 (pl / 4) c_67 rfl rfl (by omega) (by omega)
      refine lv_iload_n hx hb dX3_stepFrom_76 rfl (lv_at hl 2 rfl) ?_
      exact W.iret (v := nI pl) hx hb hr (fun t9 ht9 hW9 => ⟨_, rfl, by unfold stepN; simp only [reduceIte, Nat.reduceEqDiff]; first | rw [if_pos (by omega)] | rw [if_neg (by omega)], ht9⟩) (fun q h => by cases h) dX3_stepFrom_77
    · skip
      have q_67 := tN_nle 3 (pl / 4) c_67 rfl rfl (by omega) (by omega)
      refine lv_iload_n hx hb dX3_stepFrom_70 rfl (lv_at hl 2 rfl) ?_
      refine lv_iconst (v := 4) hx hb dX3_stepFrom_71 (by decide) ?_
      refine ln_add pl 4 hx hb rfl rfl dX3_stepFrom_72 ?_
      refine lv_goto (tgt := 77) hx hb dX3_stepFrom_73 (by decide) ?_
      exact W.iret (v := nI (pl + 4)) hx hb hr (fun t9 ht9 hW9 => ⟨_, rfl, by unfold stepN; simp only [reduceIte, Nat.reduceEqDiff]; first | rw [if_pos (by omega)] | rw [if_neg (by omega)], ht9⟩) (fun q h => by cases h) dX3_stepFrom_77
  · skip
    refine met_of [.int (nI pl), .int 3] [(0, .int (nI pl)), (1, .int 3)] (by decide) (Nat.le_of_ble_eq_true rfl) rfl ?_
    intro p e s m below meth c hx hb hr hown hml hlocks hW ls hl
    refine lv_iload_n hx hb dX3_stepFrom_0 rfl (lv_at hl 0 rfl) ?_
    refine lv_iconst (v := 4) hx hb dX3_stepFrom_1 (by decide) ?_
    refine ln_div pl 4 hx hb rfl rfl (by omega) (by omega) (by omega) dX3_stepFrom_2 ?_
    refine lv_istore_n (lv' := [(2, .int (nI (pl / 4))), (0, .int (nI pl)), (1, .int 3)]) hx hb dX3_stepFrom_3 rfl hl (by decide) rfl (fun ls hl => ?_)
    refine lv_iload_n hx hb dX3_stepFrom_4 rfl (lv_at hl 1 rfl) ?_
    refine lv_iconst (v := 4) hx hb dX3_stepFrom_5 (by decide) ?_
    refine ln_rem pl 4 hx hb rfl rfl (by omega) (by omega) (by omega) dX3_stepFrom_6 ?_
    refine lv_istore_n (lv' := [(3, .int (nI (pl % 4))), (2, .int (nI (pl / 4))), (0, .int (nI pl)), (1, .int 3)]) hx hb dX3_stepFrom_7 rfl hl (by decide) rfl (fun ls hl => ?_)
    refine lv_iload_n hx hb dX3_stepFrom_8 rfl (lv_at hl 3 rfl) ?_
    refine lv_tableIn (off := 69) (tgt := 78) hx hb dX3_stepFrom_9 (by decide) (by decide) rfl (by decide) ?_
    refine lv_iload_n hx hb dX3_stepFrom_78 rfl (lv_at hl 0 rfl) ?_
    refine lv_if_le (tgt := 88) hx hb dX3_stepFrom_79 (by decide) (fun c_79 => ?_) (fun c_79 => ?_)
    · skip
      have q_79 := tN_le (pl % 4) 0 c_79 rfl rfl (by omega) (by omega)
      refine lv_iload_n hx hb dX3_stepFrom_88 rfl (lv_at hl 2 rfl) ?_
      exact W.iret (v := nI pl) hx hb hr (fun t9 ht9 hW9 => ⟨_, rfl, by unfold stepN; simp only [reduceIte, Nat.reduceEqDiff]; first | rw [if_pos (by omega)] | rw [if_neg (by omega)], ht9⟩) (fun q h => by cases h) dX3_stepFrom_89
    · skip
      have q_79 := tN_nle (pl % 4) 0 c_79 rfl rfl (by omega) (by omega)
      refine lv_iload_n hx hb dX3_stepFrom_82 rfl (lv_at hl 2 rfl) ?_
      refine lv_iconst (v := 1) hx hb dX3_stepFrom_83 (by decide) ?_
      refine ln_sub pl 1 hx hb rfl rfl (by omega) dX3_stepFrom_84 ?_
      refine lv_goto (tgt := 89) hx hb dX3_stepFrom_85 (by decide) ?_
      exact W.iret (v := nI (pl - 1)) hx hb hr (fun t9 ht9 hW9 => ⟨_, rfl, by unfold stepN; simp only [reduceIte, Nat.reduceEqDiff]; first | rw [if_pos (by omega)] | rw [if_neg (by omega)], ht9⟩) (fun q h => by cases h) dX3_stepFrom_89
set_option maxHeartbeats 4000000 in
set_option maxRecDepth 100000 in
theorem c_X2_stepsOfWalk (l : Launch) (G : Gam) (σ : St) (j : Nat) (hj : j < 12) (S : Sk) (hv : VS S) (hg : GS σ j S) : Met l yX2_stepsOfWalk (w1 yX2_stepsOfWalk cX2_stepsOfWalk 1 (some .int)) ({ frames := 0, cells := 0, slots := 0, locals := 0 }) (PcX G σ [.ref (ga G (3 * j + 14))]) (vp_Si (fun r => r = nI (swN (S 0) (S 3)))) 0 0 (fun _ => False) := by
  obtain ⟨K, hK0⟩ : ∃ K, S 0 = K := ⟨_, rfl⟩
  have hK5 : K < 5 := hK0 ▸ hv.1
  have hK : nI (S 0) = nI K := by rw [hK0]
  rcases sw5 hK5 with rfl | rfl | rfl | rfl | rfl
  · skip
    refine met_of [.ref (ga G (3 * j + 14))] [(0, .ref (ga G (3 * j + 14)))] (by decide) (Nat.le_of_ble_eq_true rfl) rfl ?_
    intro p e s m below meth c hx hb hr hown hml hlocks hW ls hl
    have hG : GW s := hW.2.2.2.1
    have hv0 := hv.1
    have hv1 := hv.2.1
    have hv3 := hv.2.2.1
    refine lv_aload_n hx hb dX2_stepsOfWalk_0 rfl (lv_at hl 0 rfl) ?_
    refine rd_X2_9 hx hb hown hW hj dX2_stepsOfWalk_1 ?_
    refine lv_eqi (y := 0) (hg.1.trans hK) ?_
    refine lv_lookup (off := 42) (tgt := 46) hx hb dX2_stepsOfWalk_4 rfl rfl (by decide) ?_
    refine lv_aload_n hx hb dX2_stepsOfWalk_46 rfl (lv_at hl 0 rfl) ?_
    refine rd_X2_18 hx hb hown hW hj dX2_stepsOfWalk_47 ?_
    refine lv_eqi (y := nI (S 3)) hg.2.2.1 ?_
    exact W.iret (v := nI (S 3)) hx hb hr (fun t9 ht9 hW9 => ⟨_, rfl, by unfold swN; rw [hK0]; rfl, ht9⟩) (fun q h => by cases h) dX2_stepsOfWalk_50
  · skip
    refine met_of [.ref (ga G (3 * j + 14))] [(0, .ref (ga G (3 * j + 14)))] (by decide) (Nat.le_of_ble_eq_true rfl) rfl ?_
    intro p e s m below meth c hx hb hr hown hml hlocks hW ls hl
    have hG : GW s := hW.2.2.2.1
    have hv0 := hv.1
    have hv1 := hv.2.1
    have hv3 := hv.2.2.1
    refine lv_aload_n hx hb dX2_stepsOfWalk_0 rfl (lv_at hl 0 rfl) ?_
    refine rd_X2_9 hx hb hown hW hj dX2_stepsOfWalk_1 ?_
    refine lv_eqi (y := 1) (hg.1.trans hK) ?_
    refine lv_lookup (off := 28) (tgt := 32) hx hb dX2_stepsOfWalk_4 rfl rfl (by decide) ?_
    refine lv_iconst (v := 2) hx hb dX2_stepsOfWalk_32 (by decide) ?_
    refine lv_aload_n hx hb dX2_stepsOfWalk_33 rfl (lv_at hl 0 rfl) ?_
    refine rd_X2_18 hx hb hown hW hj dX2_stepsOfWalk_34 ?_
    refine lv_eqi (y := nI (S 3)) hg.2.2.1 ?_
    refine ln_mul 2 (S 3) hx hb rfl rfl dX2_stepsOfWalk_37 ?_
    exact W.iret (v := nI (2 * (S 3))) hx hb hr (fun t9 ht9 hW9 => ⟨_, rfl, by unfold swN; rw [hK0]; rfl, ht9⟩) (fun q h => by cases h) dX2_stepsOfWalk_38
  · skip
    refine met_of [.ref (ga G (3 * j + 14))] [(0, .ref (ga G (3 * j + 14)))] (by decide) (Nat.le_of_ble_eq_true rfl) rfl ?_
    intro p e s m below meth c hx hb hr hown hml hlocks hW ls hl
    have hG : GW s := hW.2.2.2.1
    have hv0 := hv.1
    have hv1 := hv.2.1
    have hv3 := hv.2.2.1
    refine lv_aload_n hx hb dX2_stepsOfWalk_0 rfl (lv_at hl 0 rfl) ?_
    refine rd_X2_9 hx hb hown hW hj dX2_stepsOfWalk_1 ?_
    refine lv_eqi (y := 2) (hg.1.trans hK) ?_
    refine lv_lookup (off := 42) (tgt := 46) hx hb dX2_stepsOfWalk_4 rfl rfl (by decide) ?_
    refine lv_aload_n hx hb dX2_stepsOfWalk_46 rfl (lv_at hl 0 rfl) ?_
    refine rd_X2_18 hx hb hown hW hj dX2_stepsOfWalk_47 ?_
    refine lv_eqi (y := nI (S 3)) hg.2.2.1 ?_
    exact W.iret (v := nI (S 3)) hx hb hr (fun t9 ht9 hW9 => ⟨_, rfl, by unfold swN; rw [hK0]; rfl, ht9⟩) (fun q h => by cases h) dX2_stepsOfWalk_50
  · skip
    refine met_of [.ref (ga G (3 * j + 14))] [(0, .ref (ga G (3 * j + 14)))] (by decide) (Nat.le_of_ble_eq_true rfl) rfl ?_
    intro p e s m below meth c hx hb hr hown hml hlocks hW ls hl
    have hG : GW s := hW.2.2.2.1
    have hv0 := hv.1
    have hv1 := hv.2.1
    have hv3 := hv.2.2.1
    refine lv_aload_n hx hb dX2_stepsOfWalk_0 rfl (lv_at hl 0 rfl) ?_
    refine rd_X2_9 hx hb hown hW hj dX2_stepsOfWalk_1 ?_
    refine lv_eqi (y := 3) (hg.1.trans hK) ?_
    refine lv_lookup (off := 42) (tgt := 46) hx hb dX2_stepsOfWalk_4 rfl rfl (by decide) ?_
    refine lv_aload_n hx hb dX2_stepsOfWalk_46 rfl (lv_at hl 0 rfl) ?_
    refine rd_X2_18 hx hb hown hW hj dX2_stepsOfWalk_47 ?_
    refine lv_eqi (y := nI (S 3)) hg.2.2.1 ?_
    exact W.iret (v := nI (S 3)) hx hb hr (fun t9 ht9 hW9 => ⟨_, rfl, by unfold swN; rw [hK0]; rfl, ht9⟩) (fun q h => by cases h) dX2_stepsOfWalk_50
  · skip
    refine met_of [.ref (ga G (3 * j + 14))] [(0, .ref (ga G (3 * j + 14)))] (by decide) (Nat.le_of_ble_eq_true rfl) rfl ?_
    intro p e s m below meth c hx hb hr hown hml hlocks hW ls hl
    have hG : GW s := hW.2.2.2.1
    have hv0 := hv.1
    have hv1 := hv.2.1
    have hv3 := hv.2.2.1
    refine lv_aload_n hx hb dX2_stepsOfWalk_0 rfl (lv_at hl 0 rfl) ?_
    refine rd_X2_9 hx hb hown hW hj dX2_stepsOfWalk_1 ?_
    refine lv_eqi (y := 4) (hg.1.trans hK) ?_
    refine lv_lookup (off := 35) (tgt := 39) hx hb dX2_stepsOfWalk_4 rfl rfl (by decide) ?_
    refine lv_iconst (v := 4) hx hb dX2_stepsOfWalk_39 (by decide) ?_
    refine lv_aload_n hx hb dX2_stepsOfWalk_40 rfl (lv_at hl 0 rfl) ?_
    refine rd_X2_18 hx hb hown hW hj dX2_stepsOfWalk_41 ?_
    refine lv_eqi (y := nI (S 3)) hg.2.2.1 ?_
    refine ln_mul 4 (S 3) hx hb rfl rfl dX2_stepsOfWalk_44 ?_
    exact W.iret (v := nI (4 * (S 3))) hx hb hr (fun t9 ht9 hW9 => ⟨_, rfl, by unfold swN; rw [hK0]; rfl, ht9⟩) (fun q h => by cases h) dX2_stepsOfWalk_45
set_option maxHeartbeats 4000000 in
set_option maxRecDepth 100000 in
theorem c_X2_hoursPerStep (l : Launch) (G : Gam) (σ : St) (j : Nat) (hj : j < 12) (S : Sk) (hv : VS S) (hg : GS σ j S) : Met l yX2_hoursPerStep (w1 yX2_hoursPerStep cX2_hoursPerStep 1 (some .int)) ({ frames := 0, cells := 0, slots := 0, locals := 0 }) (PcX G σ [.ref (ga G (3 * j + 14))]) (vp_Si (fun r => r = nI (hpN (S 0)))) 0 0 (fun _ => False) := by
  refine met_of [.ref (ga G (3 * j + 14))] [(0, .ref (ga G (3 * j + 14)))] (by decide) (Nat.le_of_ble_eq_true rfl) rfl ?_
  intro p e s m below meth c hx hb hr hown hml hlocks hW ls hl
  have hG : GW s := hW.2.2.2.1
  have hv0 := hv.1
  have hv1 := hv.2.1
  have hv3 := hv.2.2.1
  refine lv_aload_n hx hb dX2_hoursPerStep_0 rfl (lv_at hl 0 rfl) ?_
  refine rd_X2_9 hx hb hown hW hj dX2_hoursPerStep_1 ?_
  refine lv_eqi (y := nI (S 0)) hg.1 ?_
  refine lv_iconst (v := 2) hx hb dX2_hoursPerStep_4 (by decide) ?_
  refine lv_icmp_ne (tgt := 12) hx hb dX2_hoursPerStep_5 (by decide) (fun c_5 => ?_) (fun c_5 => ?_)
  · skip
    have q_5 := tN_ne (S 0) 2 c_5 rfl rfl (by omega) (by omega)
    refine lv_iconst (v := 1) hx hb dX2_hoursPerStep_12 (by decide) ?_
    exact W.iret (v := 1) hx hb hr (fun t9 ht9 hW9 => ⟨_, rfl, by unfold hpN; (first | rw [if_pos (by omega)] | rw [if_neg (by omega)]) <;> rfl, ht9⟩) (fun q h => by cases h) dX2_hoursPerStep_13
  · skip
    have q_5 := tN_eq (S 0) 2 c_5 rfl rfl (by omega) (by omega)
    refine lv_iconst (v := 2) hx hb dX2_hoursPerStep_8 (by decide) ?_
    refine lv_goto (tgt := 13) hx hb dX2_hoursPerStep_9 (by decide) ?_
    exact W.iret (v := 2) hx hb hr (fun t9 ht9 hW9 => ⟨_, rfl, by unfold hpN; (first | rw [if_pos (by omega)] | rw [if_neg (by omega)]) <;> rfl, ht9⟩) (fun q h => by cases h) dX2_hoursPerStep_13
set_option maxHeartbeats 4000000 in
set_option maxRecDepth 100000 in
theorem c_X2_hoursOfWalk (l : Launch) (G : Gam) (σ : St) (j : Nat) (hj : j < 12) (S : Sk) (hv : VS S) (hg : GS σ j S) : Met l yX2_hoursOfWalk (w1 yX2_hoursOfWalk cX2_hoursOfWalk 1 (some .int)) ({ frames := 1, cells := 0, slots := 0, locals := 20 }) (PcX G σ [.ref (ga G (3 * j + 14))]) (vp_Si (fun r => r = nI (hwN (S 0) (S 3)))) 0 0 (fun _ => False) := by
  refine met_of [.ref (ga G (3 * j + 14))] [(0, .ref (ga G (3 * j + 14)))] (by decide) (Nat.le_of_ble_eq_true rfl) rfl ?_
  intro p e s m below meth c hx hb hr hown hml hlocks hW ls hl
  have hG : GW s := hW.2.2.2.1
  have hv0 := hv.1
  have hv1 := hv.2.1
  have hv3 := hv.2.2.1
  refine lv_aload_n hx hb dX2_hoursOfWalk_0 rfl (lv_at hl 0 rfl) ?_
  refine cr_i (q := 314) [] hx hb hml hown hG v_X2_stepsOfWalk (by decide +kernel) (c_X2_stepsOfWalk l G σ j hj S hv hg) (preK hW hj _) rfl hl.1 (Nat.le_of_ble_eq_true rfl) dX2_hoursOfWalk_1 ⟨rfl, rfl, Nat.le_of_ble_eq_true rfl, Nat.le_of_ble_eq_true rfl⟩ ⟨Nat.le_of_ble_eq_true rfl, Nat.le_of_ble_eq_true rfl⟩ ?_
  refine lv_aload_n hx hb dX2_hoursOfWalk_4 rfl (lv_at hl 0 rfl) ?_
  refine cr_i (q := 318) [] hx hb hml hown hG v_X2_hoursPerStep (by decide +kernel) (c_X2_hoursPerStep l G σ j hj S hv hg) (preK hW hj _) rfl hl.1 (Nat.le_of_ble_eq_true rfl) dX2_hoursOfWalk_5 ⟨rfl, rfl, Nat.le_of_ble_eq_true rfl, Nat.le_of_ble_eq_true rfl⟩ ⟨Nat.le_of_ble_eq_true rfl, Nat.le_of_ble_eq_true rfl⟩ ?_
  refine ln_mul (swN (S 0) (S 3)) (hpN (S 0)) hx hb rfl rfl dX2_hoursOfWalk_8 ?_
  exact W.iret (v := nI ((swN (S 0) (S 3)) * (hpN (S 0)))) hx hb hr (fun t9 ht9 hW9 => ⟨_, rfl, rfl, ht9⟩) (fun q h => by cases h) dX2_hoursOfWalk_9
set_option maxHeartbeats 4000000 in
set_option maxRecDepth 100000 in
theorem c_X2_directionOf (l : Launch) (G : Gam) (σ : St) (j : Nat) (hj : j < 12) (S : Sk) (hv : VS S) (hg : GS σ j S) (n : Nat) (h0 : 0 < S 3) (hn : n ≤ 100) : Met l yX2_directionOf (w1 yX2_directionOf cX2_directionOf 5 (some .int)) ({ frames := 0, cells := 0, slots := 0, locals := 0 }) (PcX G σ [.ref (ga G (3 * j + 14)), .int (nI n)]) (vp_Si (fun r => r = nI (dirN S n))) 0 0 (fun _ => False) := by
  refine met_of [.ref (ga G (3 * j + 14)), .int (nI n)] [(0, .ref (ga G (3 * j + 14))), (1, .int (nI n))] (by decide) (Nat.le_of_ble_eq_true rfl) rfl ?_
  intro p e s m below meth c hx hb hr hown hml hlocks hW ls hl
  have hG : GW s := hW.2.2.2.1
  have hv0 := hv.1
  have hv1 := hv.2.1
  have hv3 := hv.2.2.1
  have hm : n % S 3 < S 3 := Nat.mod_lt _ h0
  have hdv : n / S 3 ≤ n := Nat.div_le_self _ _
  refine lv_aload_n hx hb dX2_directionOf_0 rfl (lv_at hl 0 rfl) ?_
  refine rd_X2_18 hx hb hown hW hj dX2_directionOf_1 ?_
  refine lv_eqi (y := nI (S 3)) hg.2.2.1 ?_
  refine lv_if_ne (tgt := 9) hx hb dX2_directionOf_4 (by decide) (fun c_4 => ?_) (fun c_4 => ?_)
  · skip
    have q_4 := tN_ne (S 3) 0 c_4 rfl rfl (by omega) (by omega)
    refine lv_iload_n hx hb dX2_directionOf_9 rfl (lv_at hl 1 rfl) ?_
    refine lv_aload_n hx hb dX2_directionOf_10 rfl (lv_at hl 0 rfl) ?_
    refine rd_X2_18 hx hb hown hW hj dX2_directionOf_11 ?_
    refine lv_eqi (y := nI (S 3)) hg.2.2.1 ?_
    refine ln_rem n (S 3) hx hb rfl rfl (by omega) (by omega) (by omega) dX2_directionOf_14 ?_
    refine lv_istore_n (lv' := [(2, .int (nI (n % (S 3)))), (0, .ref (ga G (3 * j + 14))), (1, .int (nI n))]) hx hb dX2_directionOf_15 rfl hl (by decide) rfl (fun ls hl => ?_)
    refine lv_iload_n hx hb dX2_directionOf_16 rfl (lv_at hl 2 rfl) ?_
    refine lv_aload_n hx hb dX2_directionOf_17 rfl (lv_at hl 1 rfl) ?_
    refine rd_X2_18 hx hb hown hW hj dX2_directionOf_18 ?_
    refine lv_eqi (y := nI (S 3)) hg.2.2.1 ?_
    refine ln_div n (S 3) hx hb rfl rfl (by omega) (by omega) (by omega) dX2_directionOf_21 ?_
    refine lv_iconst (v := 2) hx hb dX2_directionOf_22 (by decide) ?_
    refine ln_rem (n / (S 3)) 2 hx hb rfl rfl (by omega) (by omega) (by omega) dX2_directionOf_23 ?_
    refine lv_iconst (v := 1) hx hb dX2_directionOf_24 (by decide) ?_
    refine lv_icmp_ne (tgt := 32) hx hb dX2_directionOf_25 (by decide) (fun c_25 => ?_) (fun c_25 => ?_)
    · skip
      have q_25 := tN_ne ((n / (S 3)) % 2) 1 c_25 rfl rfl (by omega) (by omega)
      refine lv_iconst (v := 0) hx hb dX2_directionOf_32 (by decide) ?_
      refine lv_istore_n (lv' := [(3, .int 0), (2, .int (nI (n % (S 3)))), (0, .ref (ga G (3 * j + 14))), (1, .int (nI n))]) hx hb dX2_directionOf_33 rfl hl (by decide) rfl (fun ls hl => ?_)
      refine lv_iload_n hx hb dX2_directionOf_34 rfl (lv_at hl 0 rfl) ?_
      refine lv_if_eq (tgt := 54) hx hb dX2_directionOf_35 (by decide) (fun c_35 => ?_) (fun c_35 => ?_)
      · skip
        refine lv_aload_n hx hb dX2_directionOf_54 rfl (lv_at hl 2 rfl) ?_
        refine rd_X2_21 hx hb hown hW hj dX2_directionOf_55 ?_
        refine lv_iload_n hx hb dX2_directionOf_58 rfl (lv_at hl 1 rfl) ?_
        refine al_way (k := n % (S 3)) hx hb hW hj rfl (by omega) dX2_directionOf_59 ?_
        refine lv_eqi (y := nI (S (4 + (n % (S 3))))) (hg.2.2.2 (n % (S 3)) (by omega)) ?_
        refine lv_istore (lv' := [(4, .int (nI (S (4 + (n % (S 3)))))), (3, .int 0), (2, .int (nI (n % (S 3)))), (0, .ref (ga G (3 * j + 14))), (1, .int (nI n))]) hx hb dX2_directionOf_60 hl (by decide) rfl (fun ls hl => ?_)
        refine lv_iload_n hx hb dX2_directionOf_62 rfl (lv_at hl 1 rfl) ?_
        refine lv_if_ne (tgt := 74) hx hb dX2_directionOf_63 (by decide) (fun c_63 => ?_) (fun c_63 => ?_)
        · skip
          exact absurd (by decide) c_63
        · skip
          refine lv_aload_n hx hb dX2_directionOf_66 rfl (lv_at hl 3 rfl) ?_
          refine rd_X2_9 hx hb hown hW hj dX2_directionOf_67 ?_
          refine lv_eqi (y := nI (S 0)) hg.1 ?_
          refine lv_iconst (v := 3) hx hb dX2_directionOf_70 (by decide) ?_
          refine lv_icmp_ne (tgt := 83) hx hb dX2_directionOf_71 (by decide) (fun c_71 => ?_) (fun c_71 => ?_)
          · skip
            have q_71 := tN_ne (S 0) 3 c_71 rfl rfl (by omega) (by omega)
            refine lv_iload hx hb dX2_directionOf_83 (lv_at hl 0 rfl) ?_
            exact W.iret (v := nI (S (4 + (n % (S 3))))) hx hb hr (fun t9 ht9 hW9 => ⟨_, rfl, by unfold dirN; first | rw [if_pos q_25] | rw [if_neg q_25, if_pos q_71] | rw [if_neg q_25, if_neg q_71], ht9⟩) (fun q h => by cases h) dX2_directionOf_85
          · skip
            have q_71 := tN_eq (S 0) 3 c_71 rfl rfl (by omega) (by omega)
            refine lv_iload hx hb dX2_directionOf_74 (lv_at hl 0 rfl) ?_
            refine lv_iconst (v := 2) hx hb dX2_directionOf_76 (by decide) ?_
            refine ln_add (S (4 + (n % (S 3)))) 2 hx hb rfl rfl dX2_directionOf_77 ?_
            refine lv_iconst (v := 4) hx hb dX2_directionOf_78 (by decide) ?_
            refine ln_rem ((S (4 + (n % (S 3)))) + 2) 4 hx hb rfl rfl (by have h1 := hv.2.2.2 (n % S 3) hm; have h2 := hv.2.2.2 (S 3 - 1 - n % S 3) (by omega); omega) (by omega) (by omega) dX2_directionOf_79 ?_
            refine lv_goto (tgt := 85) hx hb dX2_directionOf_80 (by decide) ?_
            exact W.iret (v := nI (((S (4 + (n % (S 3)))) + 2) % 4)) hx hb hr (fun t9 ht9 hW9 => ⟨_, rfl, by unfold dirN; first | rw [if_pos q_25] | rw [if_neg q_25, if_pos q_71] | rw [if_neg q_25, if_neg q_71], ht9⟩) (fun q h => by cases h) dX2_directionOf_85
      · skip
        exact absurd (by decide) c_35
    · skip
      have q_25 := tN_eq ((n / (S 3)) % 2) 1 c_25 rfl rfl (by omega) (by omega)
      refine lv_iconst (v := 1) hx hb dX2_directionOf_28 (by decide) ?_
      refine lv_goto (tgt := 33) hx hb dX2_directionOf_29 (by decide) ?_
      refine lv_istore_n (lv' := [(3, .int 1), (2, .int (nI (n % (S 3)))), (0, .ref (ga G (3 * j + 14))), (1, .int (nI n))]) hx hb dX2_directionOf_33 rfl hl (by decide) rfl (fun ls hl => ?_)
      refine lv_iload_n hx hb dX2_directionOf_34 rfl (lv_at hl 0 rfl) ?_
      refine lv_if_eq (tgt := 54) hx hb dX2_directionOf_35 (by decide) (fun c_35 => ?_) (fun c_35 => ?_)
      · skip
        exact absurd c_35 (by decide)
      · skip
        refine lv_aload_n hx hb dX2_directionOf_38 rfl (lv_at hl 2 rfl) ?_
        refine rd_X2_21 hx hb hown hW hj dX2_directionOf_39 ?_
        refine lv_aload_n hx hb dX2_directionOf_42 rfl (lv_at hl 2 rfl) ?_
        refine rd_X2_18 hx hb hown hW hj dX2_directionOf_43 ?_
        refine lv_eqi (y := nI (S 3)) hg.2.2.1 ?_
        refine lv_iconst (v := 1) hx hb dX2_directionOf_46 (by decide) ?_
        refine ln_sub (S 3) 1 hx hb rfl rfl (by omega) dX2_directionOf_47 ?_
        refine lv_iload_n hx hb dX2_directionOf_48 rfl (lv_at hl 1 rfl) ?_
        refine ln_sub ((S 3) - 1) (n % (S 3)) hx hb rfl rfl (by omega) dX2_directionOf_49 ?_
        refine al_way (k := ((S 3) - 1) - (n % (S 3))) hx hb hW hj rfl (by omega) dX2_directionOf_50 ?_
        refine lv_eqi (y := nI (S (4 + (((S 3) - 1) - (n % (S 3)))))) (hg.2.2.2 (((S 3) - 1) - (n % (S 3))) (by omega)) ?_
        refine lv_goto (tgt := 60) hx hb dX2_directionOf_51 (by decide) ?_
        refine lv_istore (lv' := [(4, .int (nI (S (4 + (((S 3) - 1) - (n % (S 3))))))), (3, .int 1), (2, .int (nI (n % (S 3)))), (0, .ref (ga G (3 * j + 14))), (1, .int (nI n))]) hx hb dX2_directionOf_60 hl (by decide) rfl (fun ls hl => ?_)
        refine lv_iload_n hx hb dX2_directionOf_62 rfl (lv_at hl 1 rfl) ?_
        refine lv_if_ne (tgt := 74) hx hb dX2_directionOf_63 (by decide) (fun c_63 => ?_) (fun c_63 => ?_)
        · skip
          refine lv_iload hx hb dX2_directionOf_74 (lv_at hl 0 rfl) ?_
          refine lv_iconst (v := 2) hx hb dX2_directionOf_76 (by decide) ?_
          refine ln_add (S (4 + (((S 3) - 1) - (n % (S 3))))) 2 hx hb rfl rfl dX2_directionOf_77 ?_
          refine lv_iconst (v := 4) hx hb dX2_directionOf_78 (by decide) ?_
          refine ln_rem ((S (4 + (((S 3) - 1) - (n % (S 3))))) + 2) 4 hx hb rfl rfl (by have h1 := hv.2.2.2 (n % S 3) hm; have h2 := hv.2.2.2 (S 3 - 1 - n % S 3) (by omega); omega) (by omega) (by omega) dX2_directionOf_79 ?_
          refine lv_goto (tgt := 85) hx hb dX2_directionOf_80 (by decide) ?_
          exact W.iret (v := nI (((S (4 + (((S 3) - 1) - (n % (S 3))))) + 2) % 4)) hx hb hr (fun t9 ht9 hW9 => ⟨_, rfl, by unfold dirN; first | rw [if_pos q_25] | rw [if_neg q_25, if_pos q_71] | rw [if_neg q_25, if_neg q_71], ht9⟩) (fun q h => by cases h) dX2_directionOf_85
        · skip
          exact absurd c_63 (by decide)
  · skip
    exact absurd c_4 (nI_ne0 h0 (by omega))
set_option maxHeartbeats 4000000 in
set_option maxRecDepth 100000 in
theorem c_X2_retrace (l : Launch) (G : Gam) (σ : St) (j : Nat) (hj : j < 12) (S : Sk) (hv : VS S) (hg : GS σ j S) : Met l yX2_retrace (w1 yX2_retrace cX2_retrace 4 none) ({ frames := 2, cells := 0, slots := 0, locals := 40 }) (PcX G σ [.ref (ga G (3 * j + 14))]) (QvX G (fun σ9 => RT σ j S σ9)) 0 0 (aX G) := by
  refine met_of [.ref (ga G (3 * j + 14))] [(0, .ref (ga G (3 * j + 14)))] (by decide) (Nat.le_of_ble_eq_true rfl) rfl ?_
  intro p e s m below meth c hx hb hr hown hml hlocks hW ls hl
  have hG : GW s := hW.2.2.2.1
  have hS : va_S (aX G) s.heap s.heap [] := va_S.rf
  have hv0 := hv.1
  have hv1 := hv.2.1
  have hv3 := hv.2.2.1
  refine lv_aload_n hx hb dX2_retrace_0 rfl (lv_at hl 0 rfl) ?_
  refine rd_X2_15 hx hb hown hW hj dX2_retrace_1 ?_
  refine lv_eqi (y := nI (S 1)) hg.2.1 ?_
  refine lv_istore_n (lv' := [(1, .int (nI (S 1))), (0, .ref (ga G (3 * j + 14)))]) hx hb dX2_retrace_4 rfl hl (by decide) rfl (fun ls hl => ?_)
  refine lv_iconst (v := 0) hx hb dX2_retrace_5 (by decide) ?_
  refine lv_istore_n (lv' := [(2, .int 0), (1, .int (nI (S 1))), (0, .ref (ga G (3 * j + 14)))]) hx hb dX2_retrace_6 rfl hl (by decide) rfl (fun ls hl => ?_)
  refine lv_aload_n hx hb dX2_retrace_7 rfl (lv_at hl 2 rfl) ?_
  refine rd_X2_25 hx hb hown hW hj dX2_retrace_8 ?_
  refine lv_iconst (v := 0) hx hb dX2_retrace_11 (by decide) ?_
  refine lv_iload_n hx hb dX2_retrace_12 rfl (lv_at hl 1 rfl) ?_
  refine as_trail (k := 0) hx hb hW hS hj rfl (by omega) dX2_retrace_13 (fun H locs hW hS => ?_)
  obtain ⟨σ1, hσ1⟩ : ∃ z, z = up2 σ (3 * j + 16) 0 (nI (S 1)) := ⟨_, rfl⟩
  rw [← hσ1] at hW
  refine lv_aload_n hx hb dX2_retrace_14 rfl (lv_at hl 2 rfl) ?_
  refine lv_iconst (v := 1) hx hb dX2_retrace_15 (by decide) ?_
  refine lv_iload_n hx hb dX2_retrace_16 rfl (lv_at hl 1 rfl) ?_
  refine lv_ishl hx hb dX2_retrace_17 ?_
  refine wr_X2_28 hx hb hown hW hS hj dX2_retrace_18 (fun H locs hW hS => ?_)
  obtain ⟨σ2, hσ2⟩ : ∃ z, z = up2 σ1 (3 * j + 14) 5 (1 <<< ((nI (S 1)) &&& 31)) := ⟨_, rfl⟩
  rw [← hσ2] at hW
  refine lv_iconst (v := 1) hx hb dX2_retrace_21 (by decide) ?_
  refine lv_istore_n (lv' := [(3, .int 1), (2, .int 0), (1, .int (nI (S 1))), (0, .ref (ga G (3 * j + 14)))]) hx hb dX2_retrace_22 rfl hl (by decide) rfl (fun ls hl => ?_)
  have loop_23 : ∀ (N9 : Nat) (h : Nat) (pl : Int32) (sm : Int32) (ho : Int32) (σw : St) (H : Heap) (locs : List Loc), 30 - h < N9 → pl = nI (posN S h) → sm = nI (min h (hwN (S 0) (S 3)) / hpN (S 0)) → ho = nI (h + 1) → h ≤ 30 → WX G σw s H → va_S (aX G) s.heap H locs → RTP σ j S σw h → ∀ ls : Array Slot, lv_has ls 4 [(1, .int pl), (2, .int sm), (3, .int ho), (0, .ref (ga G (3 * j + 14)))] → W p l e (headSpec (w1 yX2_retrace cX2_retrace 4 none) ({ frames := 2, cells := 0, slots := 0, locals := 40 })).room s m [.ref (ga G (3 * j + 14))].toArray below meth c H locs 0 0 (MQ below (QvX G (fun σ9 => RT σ j S σ9)) [.ref (ga G (3 * j + 14))].toArray s 0 0 (aX G)) (F0 m 23 ls []) := by
    intro N9
    induction N9 with
    | zero => intro h pl sm ho σw H locs hN; exact absurd hN (Nat.not_lt_zero _)
    | succ N9 ih =>
      intro h pl sm ho σw H locs hN e_pl e_sm e_ho hi0_23 hW hS hw0_23 ls hl
      subst e_pl
      subst e_sm
      subst e_ho
      have ih_23 := ih
      have hw2 := hw_20 (K := S 0) hv.2.2.1
      have hp1 := hp_12 (S 0)
      have hpl := posN_lt hv h
      have hmd := Nat.mod_le (h + 1) (hpN (S 0))
      have hst := Nat.div_le_self (min h (hwN (S 0) (S 3))) (hpN (S 0))
      refine lv_iload_n hx hb dX2_retrace_23 rfl (lv_at hl 2 rfl) ?_
      refine lv_bipush (v := 30) hx hb dX2_retrace_24 (by decide) ?_
      refine lv_icmp_gt (tgt := 84) hx hb dX2_retrace_26 (by decide) (fun c_26 => ?_) (fun c_26 => ?_)
      · skip
        have q_26 := tN_lt 30 (h + 1) c_26 rfl rfl (by omega) (by omega)
        exact W.vret hx hb hr (fun t9 ht9 hW9 => ⟨⟨σw, rfl, (by have h9 : h = 30 := (by omega); subst h9; exact hw0_23.fin), (by have h8 := hW.1; rw [← ht9] at h8; exact h8)⟩, hS.F ht9⟩) hS.2.2 dX2_retrace_84
      · skip
        have q_26 := tN_nlt 30 (h + 1) c_26 rfl rfl (by omega) (by omega)
        refine lv_iload_n hx hb dX2_retrace_29 rfl (lv_at hl 2 rfl) ?_
        refine lv_aload_n hx hb dX2_retrace_30 rfl (lv_at hl 3 rfl) ?_
        refine cr_i (q := 310) [] hx hb hml hown hG v_X2_hoursOfWalk (by decide +kernel) (c_X2_hoursOfWalk l G σw j hj S hv (hw0_23.gs hg)) (preK hW hj _) rfl hl.1 (Nat.le_of_ble_eq_true rfl) dX2_retrace_31 ⟨rfl, rfl, Nat.le_of_ble_eq_true rfl, Nat.le_of_ble_eq_true rfl⟩ ⟨Nat.le_of_ble_eq_true rfl, Nat.le_of_ble_eq_true rfl⟩ ?_
        refine lv_icmp_gt (tgt := 59) hx hb dX2_retrace_34 (by decide) (fun c_34 => ?_) (fun c_34 => ?_)
        · skip
          have q_34 := tN_lt (hwN (S 0) (S 3)) (h + 1) c_34 rfl rfl (by omega) (by omega)
          refine lv_aload_n hx hb dX2_retrace_59 rfl (lv_at hl 3 rfl) ?_
          refine rd_X2_25 hx hb hown hW hj dX2_retrace_60 ?_
          refine lv_iload_n hx hb dX2_retrace_63 rfl (lv_at hl 2 rfl) ?_
          refine lv_iload_n hx hb dX2_retrace_64 rfl (lv_at hl 0 rfl) ?_
          refine lv_eqi (y := nI (posN S (h + 1))) (by first | exact posN_take q_34 q_43 | exact posN_far q_34 | exact posN_off q_43) ?_
          refine as_trail (k := h + 1) hx hb hW hS hj rfl (by omega) dX2_retrace_65 (fun H locs hW hS => ?_)
          obtain ⟨σ3, hσ3⟩ : ∃ z, z = up2 σw (3 * j + 16) (h + 1) (nI (posN S (h + 1))) := ⟨_, rfl⟩
          rw [← hσ3] at hW
          refine lv_aload_n hx hb dX2_retrace_66 rfl (lv_at hl 3 rfl) ?_
          refine lv_dup hx hb dX2_retrace_67 rfl ?_
          refine rd_X2_28 hx hb hown hW hj dX2_retrace_68 ?_
          refine lv_iconst (v := 1) hx hb dX2_retrace_71 (by decide) ?_
          refine lv_iload_n hx hb dX2_retrace_72 rfl (lv_at hl 0 rfl) ?_
          refine lv_eqi (y := nI (posN S (h + 1))) (by first | exact posN_take q_34 q_43 | exact posN_far q_34 | exact posN_off q_43) ?_
          refine lv_ishl hx hb dX2_retrace_73 ?_
          refine lv_ior hx hb dX2_retrace_74 ?_
          refine wr_X2_28 hx hb hown hW hS hj dX2_retrace_75 (fun H locs hW hS => ?_)
          obtain ⟨σ4, hσ4⟩ : ∃ z, z = up2 σ3 (3 * j + 14) 5 ((σ3 (3 * j + 14) 5) ||| (1 <<< ((nI (posN S (h + 1))) &&& 31))) := ⟨_, rfl⟩
          rw [← hσ4] at hW
          refine lv_iinc (v := nI (h + 1 + 1)) (lv' := [(3, .int (nI (h + 1 + 1))), (1, .int (nI (posN S h))), (2, .int (nI (min h (hwN (S 0) (S 3)) / hpN (S 0)))), (0, .ref (ga G (3 * j + 14)))]) hx hb dX2_retrace_78 hl (k := 2) rfl (inc1 (h + 1)) (by decide) rfl (fun ls hl => ?_)
          refine lv_goto (tgt := 23) hx hb dX2_retrace_81 (by decide) ?_
          exact ih_23 (h + 1) _ _ _ _ _ _ (by omega) (by first | exact posN_take q_34 q_43 | exact posN_far q_34 | exact posN_off q_43) (by first | exact stN_take q_34 q_43 | exact stN_far q_34 | exact stN_off q_43) rfl (by omega) hW hS (by subst hσ4; subst hσ3; exact RTP_s hv hw0_23) ls (lv_sub hl [1, 2, 0, 3] rfl)
        · skip
          have q_34 := tN_nlt (hwN (S 0) (S 3)) (h + 1) c_34 rfl rfl (by omega) (by omega)
          refine lv_iload_n hx hb dX2_retrace_37 rfl (lv_at hl 2 rfl) ?_
          refine lv_aload_n hx hb dX2_retrace_38 rfl (lv_at hl 3 rfl) ?_
          refine cr_i (q := 318) [] hx hb hml hown hG v_X2_hoursPerStep (by decide +kernel) (c_X2_hoursPerStep l G σw j hj S hv (hw0_23.gs hg)) (preK hW hj _) rfl hl.1 (Nat.le_of_ble_eq_true rfl) dX2_retrace_39 ⟨rfl, rfl, Nat.le_of_ble_eq_true rfl, Nat.le_of_ble_eq_true rfl⟩ ⟨Nat.le_of_ble_eq_true rfl, Nat.le_of_ble_eq_true rfl⟩ ?_
          refine ln_rem (h + 1) (hpN (S 0)) hx hb rfl rfl (by omega) (by omega) (by omega) dX2_retrace_42 ?_
          refine lv_if_ne (tgt := 59) hx hb dX2_retrace_43 (by decide) (fun c_43 => ?_) (fun c_43 => ?_)
          · skip
            have q_43 := tN_ne ((h + 1) % (hpN (S 0))) 0 c_43 rfl rfl (by omega) (by omega)
            refine lv_aload_n hx hb dX2_retrace_59 rfl (lv_at hl 3 rfl) ?_
            refine rd_X2_25 hx hb hown hW hj dX2_retrace_60 ?_
            refine lv_iload_n hx hb dX2_retrace_63 rfl (lv_at hl 2 rfl) ?_
            refine lv_iload_n hx hb dX2_retrace_64 rfl (lv_at hl 0 rfl) ?_
            refine lv_eqi (y := nI (posN S (h + 1))) (by first | exact posN_take q_34 q_43 | exact posN_far q_34 | exact posN_off q_43) ?_
            refine as_trail (k := h + 1) hx hb hW hS hj rfl (by omega) dX2_retrace_65 (fun H locs hW hS => ?_)
            obtain ⟨σ5, hσ5⟩ : ∃ z, z = up2 σw (3 * j + 16) (h + 1) (nI (posN S (h + 1))) := ⟨_, rfl⟩
            rw [← hσ5] at hW
            refine lv_aload_n hx hb dX2_retrace_66 rfl (lv_at hl 3 rfl) ?_
            refine lv_dup hx hb dX2_retrace_67 rfl ?_
            refine rd_X2_28 hx hb hown hW hj dX2_retrace_68 ?_
            refine lv_iconst (v := 1) hx hb dX2_retrace_71 (by decide) ?_
            refine lv_iload_n hx hb dX2_retrace_72 rfl (lv_at hl 0 rfl) ?_
            refine lv_eqi (y := nI (posN S (h + 1))) (by first | exact posN_take q_34 q_43 | exact posN_far q_34 | exact posN_off q_43) ?_
            refine lv_ishl hx hb dX2_retrace_73 ?_
            refine lv_ior hx hb dX2_retrace_74 ?_
            refine wr_X2_28 hx hb hown hW hS hj dX2_retrace_75 (fun H locs hW hS => ?_)
            obtain ⟨σ6, hσ6⟩ : ∃ z, z = up2 σ5 (3 * j + 14) 5 ((σ5 (3 * j + 14) 5) ||| (1 <<< ((nI (posN S (h + 1))) &&& 31))) := ⟨_, rfl⟩
            rw [← hσ6] at hW
            refine lv_iinc (v := nI (h + 1 + 1)) (lv' := [(3, .int (nI (h + 1 + 1))), (1, .int (nI (posN S h))), (2, .int (nI (min h (hwN (S 0) (S 3)) / hpN (S 0)))), (0, .ref (ga G (3 * j + 14)))]) hx hb dX2_retrace_78 hl (k := 2) rfl (inc1 (h + 1)) (by decide) rfl (fun ls hl => ?_)
            refine lv_goto (tgt := 23) hx hb dX2_retrace_81 (by decide) ?_
            exact ih_23 (h + 1) _ _ _ _ _ _ (by omega) (by first | exact posN_take q_34 q_43 | exact posN_far q_34 | exact posN_off q_43) (by first | exact stN_take q_34 q_43 | exact stN_far q_34 | exact stN_off q_43) rfl (by omega) hW hS (by subst hσ6; subst hσ5; exact RTP_s hv hw0_23) ls (lv_sub hl [1, 2, 0, 3] rfl)
          · skip
            have q_43 := tN_eq ((h + 1) % (hpN (S 0))) 0 c_43 rfl rfl (by omega) (by omega)
            have h0 : 0 < S 3 := (Nat.eq_zero_or_pos (S 3)).elim (fun z => absurd q_34 (by rw [z, hwN_0]; omega)) id
            refine lv_iload_n hx hb dX2_retrace_46 rfl (lv_at hl 0 rfl) ?_
            refine lv_aload_n hx hb dX2_retrace_47 rfl (lv_at hl 3 rfl) ?_
            refine lv_iload_n hx hb dX2_retrace_48 rfl (lv_at hl 1 rfl) ?_
            refine cr_i (q := 322) [.int (nI (min h (hwN (S 0) (S 3)) / hpN (S 0)))] hx hb hml hown hG v_X2_directionOf (by decide +kernel) (c_X2_directionOf l G σw j hj S hv (hw0_23.gs hg) (min h (hwN (S 0) (S 3)) / hpN (S 0)) h0 (by omega)) (preK hW hj _) rfl hl.1 (Nat.le_of_ble_eq_true rfl) dX2_retrace_49 ⟨rfl, rfl, Nat.le_of_ble_eq_true rfl, Nat.le_of_ble_eq_true rfl⟩ ⟨Nat.le_of_ble_eq_true rfl, Nat.le_of_ble_eq_true rfl⟩ ?_
            refine cn_i [.int (nI (posN S h)), .int (nI (dirN S (min h (hwN (S 0) (S 3)) / hpN (S 0))))] hx hb hml hown hG v_X3_stepFrom (hW.2.2.2.2.use 17 rfl) (c_X3_stepFrom l (posN S h) (dirN S (min h (hwN (S 0) (S 3)) / hpN (S 0))) hpl (dirN_lt hv h0 _)) (preT _) rfl hl.1 (Nat.le_of_ble_eq_true rfl) dX2_retrace_52 ⟨rfl, rfl, Nat.le_of_ble_eq_true rfl, Nat.le_of_ble_eq_true rfl⟩ ⟨Nat.le_of_ble_eq_true rfl, Nat.le_of_ble_eq_true rfl⟩ ?_
            refine lv_istore_n (lv' := [(1, .int (nI (stepN (posN S h) (dirN S (min h (hwN (S 0) (S 3)) / hpN (S 0)))))), (2, .int (nI (min h (hwN (S 0) (S 3)) / hpN (S 0)))), (3, .int (nI (h + 1))), (0, .ref (ga G (3 * j + 14)))]) hx hb dX2_retrace_55 rfl hl (by decide) rfl (fun ls hl => ?_)
            refine lv_iinc (v := nI (min h (hwN (S 0) (S 3)) / hpN (S 0) + 1)) (lv' := [(2, .int (nI (min h (hwN (S 0) (S 3)) / hpN (S 0) + 1))), (1, .int (nI (stepN (posN S h) (dirN S (min h (hwN (S 0) (S 3)) / hpN (S 0)))))), (3, .int (nI (h + 1))), (0, .ref (ga G (3 * j + 14)))]) hx hb dX2_retrace_56 hl (k := 1) rfl (inc1 (min h (hwN (S 0) (S 3)) / hpN (S 0))) (by decide) rfl (fun ls hl => ?_)
            refine lv_aload_n hx hb dX2_retrace_59 rfl (lv_at hl 3 rfl) ?_
            refine rd_X2_25 hx hb hown hW hj dX2_retrace_60 ?_
            refine lv_iload_n hx hb dX2_retrace_63 rfl (lv_at hl 2 rfl) ?_
            refine lv_iload_n hx hb dX2_retrace_64 rfl (lv_at hl 1 rfl) ?_
            refine lv_eqi (y := nI (posN S (h + 1))) (by first | exact posN_take q_34 q_43 | exact posN_far q_34 | exact posN_off q_43) ?_
            refine as_trail (k := h + 1) hx hb hW hS hj rfl (by omega) dX2_retrace_65 (fun H locs hW hS => ?_)
            obtain ⟨σ7, hσ7⟩ : ∃ z, z = up2 σw (3 * j + 16) (h + 1) (nI (posN S (h + 1))) := ⟨_, rfl⟩
            rw [← hσ7] at hW
            refine lv_aload_n hx hb dX2_retrace_66 rfl (lv_at hl 3 rfl) ?_
            refine lv_dup hx hb dX2_retrace_67 rfl ?_
            refine rd_X2_28 hx hb hown hW hj dX2_retrace_68 ?_
            refine lv_iconst (v := 1) hx hb dX2_retrace_71 (by decide) ?_
            refine lv_iload_n hx hb dX2_retrace_72 rfl (lv_at hl 1 rfl) ?_
            refine lv_eqi (y := nI (posN S (h + 1))) (by first | exact posN_take q_34 q_43 | exact posN_far q_34 | exact posN_off q_43) ?_
            refine lv_ishl hx hb dX2_retrace_73 ?_
            refine lv_ior hx hb dX2_retrace_74 ?_
            refine wr_X2_28 hx hb hown hW hS hj dX2_retrace_75 (fun H locs hW hS => ?_)
            obtain ⟨σ8, hσ8⟩ : ∃ z, z = up2 σ7 (3 * j + 14) 5 ((σ7 (3 * j + 14) 5) ||| (1 <<< ((nI (posN S (h + 1))) &&& 31))) := ⟨_, rfl⟩
            rw [← hσ8] at hW
            refine lv_iinc (v := nI (h + 1 + 1)) (lv' := [(3, .int (nI (h + 1 + 1))), (2, .int (nI (min h (hwN (S 0) (S 3)) / hpN (S 0) + 1))), (1, .int (nI (stepN (posN S h) (dirN S (min h (hwN (S 0) (S 3)) / hpN (S 0)))))), (0, .ref (ga G (3 * j + 14)))]) hx hb dX2_retrace_78 hl (k := 2) rfl (inc1 (h + 1)) (by decide) rfl (fun ls hl => ?_)
            refine lv_goto (tgt := 23) hx hb dX2_retrace_81 (by decide) ?_
            exact ih_23 (h + 1) _ _ _ _ _ _ (by omega) (by first | exact posN_take q_34 q_43 | exact posN_far q_34 | exact posN_off q_43) (by first | exact stN_take q_34 q_43 | exact stN_far q_34 | exact stN_off q_43) rfl (by omega) hW hS (by subst hσ8; subst hσ7; exact RTP_s hv hw0_23) ls (lv_sub hl [2, 1, 0, 3] rfl)
  exact loop_23 _ 0 _ _ _ _ _ _ (Nat.lt_succ_self _) rfl (by simp; rfl) rfl (by omega) hW hS (by subst hσ2; subst hσ1; exact RTP_0 hv.2.1) ls (lv_sub hl [2, 1, 0, 3] rfl)
set_option maxHeartbeats 4000000 in
set_option maxRecDepth 100000 in
theorem c_X2_stepOrNone (l : Launch) (G : Gam) (σ : St) (j : Nat) (hj : j < 12) (S : Sk) (hv : VS S) (hg : GS σ j S) (n : Nat) (hn : n < 100) : Met l yX2_stepOrNone (w1 yX2_stepOrNone cX2_stepOrNone 2 (some .int)) ({ frames := 0, cells := 0, slots := 0, locals := 0 }) (PcX G σ [.ref (ga G (3 * j + 14)), .int (nI n)]) (vp_Si (fun r => r = (if n < S 3 then nI (S (4 + n)) else -1))) 0 0 (fun _ => False) := by
  refine met_of [.ref (ga G (3 * j + 14)), .int (nI n)] [(0, .ref (ga G (3 * j + 14))), (1, .int (nI n))] (by decide) (Nat.le_of_ble_eq_true rfl) rfl ?_
  intro p e s m below meth c hx hb hr hown hml hlocks hW ls hl
  have hG : GW s := hW.2.2.2.1
  have hv0 := hv.1
  have hv1 := hv.2.1
  have hv3 := hv.2.2.1
  refine lv_iload_n hx hb dX2_stepOrNone_0 rfl (lv_at hl 1 rfl) ?_
  refine lv_if_lt (tgt := 21) hx hb dX2_stepOrNone_1 (by decide) (fun c_1 => ?_) (fun c_1 => ?_)
  · skip
    exact absurd c_1 (nI_pos (by omega))
  · skip
    have q_1 := tN_nlt n 0 c_1 rfl rfl (by omega) (by omega)
    refine lv_iload_n hx hb dX2_stepOrNone_4 rfl (lv_at hl 1 rfl) ?_
    refine lv_aload_n hx hb dX2_stepOrNone_5 rfl (lv_at hl 0 rfl) ?_
    refine rd_X2_18 hx hb hown hW hj dX2_stepOrNone_6 ?_
    refine lv_eqi (y := nI (S 3)) hg.2.2.1 ?_
    refine lv_icmp_ge (tgt := 21) hx hb dX2_stepOrNone_9 (by decide) (fun c_9 => ?_) (fun c_9 => ?_)
    · skip
      have q_9 := tN_le (S 3) n c_9 rfl rfl (by omega) (by omega)
      refine lv_iconst (v := (-1)) hx hb dX2_stepOrNone_21 (by decide) ?_
      exact W.iret (v := (-1)) hx hb hr (fun t9 ht9 hW9 => ⟨_, rfl, by first | exact (if_pos (by omega)).symm | exact (if_neg (by omega)).symm, ht9⟩) (fun q h => by cases h) dX2_stepOrNone_22
    · skip
      have q_9 := tN_nle (S 3) n c_9 rfl rfl (by omega) (by omega)
      refine lv_aload_n hx hb dX2_stepOrNone_12 rfl (lv_at hl 0 rfl) ?_
      refine rd_X2_21 hx hb hown hW hj dX2_stepOrNone_13 ?_
      refine lv_iload_n hx hb dX2_stepOrNone_16 rfl (lv_at hl 1 rfl) ?_
      refine al_way (k := n) hx hb hW hj rfl (by omega) dX2_stepOrNone_17 ?_
      refine lv_eqi (y := nI (S (4 + n))) (hg.2.2.2 n (by omega)) ?_
      refine lv_goto (tgt := 22) hx hb dX2_stepOrNone_18 (by decide) ?_
      exact W.iret (v := nI (S (4 + n))) hx hb hr (fun t9 ht9 hW9 => ⟨_, rfl, by first | exact (if_pos (by omega)).symm | exact (if_neg (by omega)).symm, ht9⟩) (fun q h => by cases h) dX2_stepOrNone_22
set_option maxHeartbeats 4000000 in
set_option maxRecDepth 100000 in
theorem c_X2_isOfKind (l : Launch) (G : Gam) (σ : St) (j : Nat) (hj : j < 12) (S : Sk) (hv : VS S) (hg : GS σ j S) (k : Nat) (hk : k < 5) : Met l yX2_isOfKind (w1 yX2_isOfKind cX2_isOfKind 2 (some .boolean)) ({ frames := 0, cells := 0, slots := 0, locals := 0 }) (PcX G σ [.ref (ga G (3 * j + 14)), .int (nI k)]) (vp_Si (fun r => r = bI (isK (S 0) k))) 0 0 (fun _ => False) := by
  refine met_of [.ref (ga G (3 * j + 14)), .int (nI k)] [(0, .ref (ga G (3 * j + 14))), (1, .int (nI k))] (by decide) (Nat.le_of_ble_eq_true rfl) rfl ?_
  intro p e s m below meth c hx hb hr hown hml hlocks hW ls hl
  have hG : GW s := hW.2.2.2.1
  have hv0 := hv.1
  have hv1 := hv.2.1
  have hv3 := hv.2.2.1
  refine lv_iload_n hx hb dX2_isOfKind_0 rfl (lv_at hl 1 rfl) ?_
  refine lv_if_eq (tgt := 25) hx hb dX2_isOfKind_1 (by decide) (fun c_1 => ?_) (fun c_1 => ?_)
  · skip
    have q_1 := tN_eq k 0 c_1 rfl rfl (by omega) (by omega)
    refine lv_iconst (v := 1) hx hb dX2_isOfKind_25 (by decide) ?_
    refine lv_goto (tgt := 30) hx hb dX2_isOfKind_26 (by decide) ?_
    exact W.zret (v := 1) (ty := .boolean) hx hb hr rfl (fun t9 ht9 hW9 => ⟨_, rfl, by simp_all [isK, bI], ht9⟩) (fun q h => by cases h) dX2_isOfKind_30
  · skip
    have q_1 := tN_ne k 0 c_1 rfl rfl (by omega) (by omega)
    refine lv_iload_n hx hb dX2_isOfKind_4 rfl (lv_at hl 1 rfl) ?_
    refine lv_aload_n hx hb dX2_isOfKind_5 rfl (lv_at hl 0 rfl) ?_
    refine rd_X2_9 hx hb hown hW hj dX2_isOfKind_6 ?_
    refine lv_eqi (y := nI (S 0)) hg.1 ?_
    refine lv_icmp_eq (tgt := 25) hx hb dX2_isOfKind_9 (by decide) (fun c_9 => ?_) (fun c_9 => ?_)
    · skip
      have q_9 := tN_eq k (S 0) c_9 rfl rfl (by omega) (by omega)
      refine lv_iconst (v := 1) hx hb dX2_isOfKind_25 (by decide) ?_
      refine lv_goto (tgt := 30) hx hb dX2_isOfKind_26 (by decide) ?_
      exact W.zret (v := 1) (ty := .boolean) hx hb hr rfl (fun t9 ht9 hW9 => ⟨_, rfl, by simp_all [isK, bI], ht9⟩) (fun q h => by cases h) dX2_isOfKind_30
    · skip
      have q_9 := tN_ne k (S 0) c_9 rfl rfl (by omega) (by omega)
      refine lv_iload_n hx hb dX2_isOfKind_12 rfl (lv_at hl 1 rfl) ?_
      refine lv_iconst (v := 1) hx hb dX2_isOfKind_13 (by decide) ?_
      refine lv_icmp_ne (tgt := 29) hx hb dX2_isOfKind_14 (by decide) (fun c_14 => ?_) (fun c_14 => ?_)
      · skip
        have q_14 := tN_ne k 1 c_14 rfl rfl (by omega) (by omega)
        refine lv_iconst (v := 0) hx hb dX2_isOfKind_29 (by decide) ?_
        exact W.zret (v := 0) (ty := .boolean) hx hb hr rfl (fun t9 ht9 hW9 => ⟨_, rfl, by simp_all [isK, bI], ht9⟩) (fun q h => by cases h) dX2_isOfKind_30
      · skip
        have q_14 := tN_eq k 1 c_14 rfl rfl (by omega) (by omega)
        refine lv_aload_n hx hb dX2_isOfKind_17 rfl (lv_at hl 0 rfl) ?_
        refine rd_X2_9 hx hb hown hW hj dX2_isOfKind_18 ?_
        refine lv_eqi (y := nI (S 0)) hg.1 ?_
        refine lv_iconst (v := 4) hx hb dX2_isOfKind_21 (by decide) ?_
        refine lv_icmp_ne (tgt := 29) hx hb dX2_isOfKind_22 (by decide) (fun c_22 => ?_) (fun c_22 => ?_)
        · skip
          have q_22 := tN_ne (S 0) 4 c_22 rfl rfl (by omega) (by omega)
          refine lv_iconst (v := 0) hx hb dX2_isOfKind_29 (by decide) ?_
          exact W.zret (v := 0) (ty := .boolean) hx hb hr rfl (fun t9 ht9 hW9 => ⟨_, rfl, by simp_all [isK, bI], ht9⟩) (fun q h => by cases h) dX2_isOfKind_30
        · skip
          have q_22 := tN_eq (S 0) 4 c_22 rfl rfl (by omega) (by omega)
          refine lv_iconst (v := 1) hx hb dX2_isOfKind_25 (by decide) ?_
          refine lv_goto (tgt := 30) hx hb dX2_isOfKind_26 (by decide) ?_
          exact W.zret (v := 1) (ty := .boolean) hx hb hr rfl (fun t9 ht9 hW9 => ⟨_, rfl, by simp_all [isK, bI], ht9⟩) (fun q h => by cases h) dX2_isOfKind_30
end
section
theorem mt_min : Cond.static Lib.Math.min.name ∈ lw_tbl ∧ Cond.initialized "java/lang/Math" ∈ lw_tbl ∧ Cond.code Lib.Math.min.name Lib.Math.min.code 2 (some .int) ∈ lw_tbl := ⟨List.mem_of_getElem? (i := 221) (by decide +kernel), List.mem_of_getElem? (i := 44) (by decide +kernel), List.mem_of_getElem? (i := 222) (by decide +kernel)⟩
theorem mt_max : Cond.static Lib.Math.max.name ∈ lw_tbl ∧ Cond.initialized "java/lang/Math" ∈ lw_tbl ∧ Cond.code Lib.Math.max.name Lib.Math.max.code 2 (some .int) ∈ lw_tbl := ⟨List.mem_of_getElem? (i := 218) (by decide +kernel), List.mem_of_getElem? (i := 44) (by decide +kernel), List.mem_of_getElem? (i := 219) (by decide +kernel)⟩
theorem mt_abs : Cond.static Lib.Math.abs.name ∈ lw_tbl ∧ Cond.initialized "java/lang/Math" ∈ lw_tbl ∧ Cond.code Lib.Math.abs.name Lib.Math.abs.code 1 (some .int) ∈ lw_tbl := ⟨List.mem_of_getElem? (i := 451) (by decide +kernel), List.mem_of_getElem? (i := 44) (by decide +kernel), List.mem_of_getElem? (i := 452) (by decide +kernel)⟩
theorem mt_copy : Cond.native arraycopyName ∈ lw_tbl ∧ Cond.static arraycopyName ∈ lw_tbl ∧ Cond.initialized "java/lang/System" ∈ lw_tbl := ⟨List.mem_of_getElem? (i := 529) (by decide +kernel), List.mem_of_getElem? (i := 528) (by decide +kernel), List.mem_of_getElem? (i := 49) (by decide +kernel)⟩
theorem min_nI (a b : Nat) (ha : a < 2 ^ 31) (hb : b < 2 ^ 31) : (if nI b < nI a then nI b else nI a) = nI (min a b) := by
  by_cases h : b < a
  · rw [if_pos ((nI_ltI hb ha).mpr h), Nat.min_eq_right (by omega)]
  · rw [if_neg (fun z => h ((nI_ltI hb ha).mp z)), Nat.min_eq_left (by omega)]
theorem max_nI (a b : Nat) (ha : a < 2 ^ 31) (hb : b < 2 ^ 31) : (if nI a < nI b then nI b else nI a) = nI (max a b) := by
  by_cases h : a < b
  · rw [if_pos ((nI_ltI ha hb).mpr h), Nat.max_eq_right (by omega)]
  · rw [if_neg (fun z => h ((nI_ltI ha hb).mp z)), Nat.max_eq_left (by omega)]
/-- the first n places of a row put into another -/
def cpy2 (σ : St) (i0 i1 n : Nat) : St := fun a b => if a = i1 ∧ b < n then σ i0 b else σ a b
theorem cpy2_ne {σ : St} {i0 i1 n a : Nat} (h : a ≠ i1) : cpy2 σ i0 i1 n a = σ a := by funext b; simp [cpy2, h]
theorem cpy2_at {σ : St} {i0 i1 n b : Nat} (h : b < n) : cpy2 σ i0 i1 n i1 b = σ i0 b := by simp [cpy2, h]
theorem cpy2_row (σ : St) (i0 i1 n : Nat) : cpy2 σ i0 i1 n i1 = va_cpy (σ i0) (σ i1) 0 0 n := by
  funext b
  by_cases h : b < n
  · simp [cpy2, va_cpy, h]
  · simp [cpy2, va_cpy, h]
theorem x_copy {p : Program} {l : Launch} {e : Env} {R : Room} {s : State} {m : MethodId} {args : Array Value} {below : List Frame} {meth : Method} {c : Code} {H : Heap} {locs : List Loc} {cells slots : Nat} {Q : State → Prop} {cc : ByteArray} {pc : Nat} {ls : Array Slot} {rest : List Value} {G : Gam} {σ : St} {H0 : Heap} {own : String} {q index : Nat} (n : Nat) (hx : p.tables.exec = Jvm.exec) (hb : c.code = cc) (hml : c.maxLocals = ls.size) (hown : s.vm.findClass own = some m.cls) (hW : WX G σ s H) (hS : va_S (aX G) H0 H locs) {i0 i1 : Nat} (h0 : i0 < 50) (h1 : i1 < 50) (hc0 : ∀ r, cX G r i0 = .inl (gI G, n, .inl r)) (hc1 : ∀ r, cX G r i1 = .inl (gI G, n, .inl r)) (hn : n < 64) (hlk : lw_tbl[q]? = some (.methodLink own index arraycopyName)) (hframes : 1 ≤ R.frames) (hlocals : (rest.map fun v => v.category).sum + (nativeFrameWords "java/lang/System" "arraycopy" 5 + 11) ≤ R.locals) (hdg : decode cc pc = .ok (.invokestatic index, 3))
    (kk : ∀ (H1 : Heap) (locs1 : List Loc), WX G (cpy2 σ i0 i1 n) s H1 → va_S (aX G) H0 H1 locs1 → W p l e R s m args below meth c H1 locs1 cells slots Q (F0 m (pc + 3) ls rest)) : W p l e R s m args below meth c H locs cells slots Q (F0 m pc ls (.int (nI n) :: .int 0 :: .ref (ga G i1) :: .int 0 :: .ref (ga G i0) :: rest)) := by
  have hG := hW.2.2.2.1
  have e0 : (0 : Int32).toNatClampNeg = 0 := by decide
  have en : (nI n).toNatClampNeg = n := nI_clamp (by omega)
  refine va_copyi (ws := wX G σ) (A := aX G) (f := σ i0) (g := σ i1) (n0 := n) (n1 := n) (ty := .int) hx hb hml hown (hG.use hlk rfl _) (hG _ mt_copy.1 rfl _) (hG _ mt_copy.2.1 rfl _) (hG _ mt_copy.2.2 rfl _) hW.2.1 hW.1 (ww_D hW.2.2.1 _) hS i0 i1 0 0 (by rw [wX, ww_get h0, hc0]) (by rw [wX, ww_get h1, hc1]) rfl rfl rfl (by decide) (by decide) (nI_pos (by omega)) (by rw [e0, en]; omega) (by rw [e0, en]; omega) (fun i _ => rfl) hframes hlocals hdg (fun H1 locs1 g1 _ g3 => kk H1 locs1 ⟨?_, hW.2⟩ g3)
  rw [e0, en, wX, ww_set (g := fun i => cX G (cpy2 σ i0 i1 n i) i) h1 (by show cX G (cpy2 σ i0 i1 n i1) i1 = _; rw [cpy2_row, hc1]) (fun j _ hne => by show cX G (cpy2 σ i0 i1 n j) j = cX G (σ j) j; rw [cpy2_ne hne])] at g1
  exact g1
theorem sub_neg {a b : Nat} (h : a < b) (hb : b < 2 ^ 30) : ¬ 0 ≤ nI a - nI b := by
  rw [Int32.le_iff_toInt_le, pk_sub_toInt (by omega) hb]
  show ¬ (0 : Int) ≤ _
  omega
/-- all outside the stick j stays -/
def FR (σ : St) (j : Nat) (σ' : St) : Prop := ∀ a, a ≠ 3 * j + 14 → a ≠ 3 * j + 15 → a ≠ 3 * j + 16 → σ' a = σ a
/-- a stick's state behind a change of it -/
def NS (σ : St) (j : Nat) (S : Sk) (σ' : St) : Prop := FR σ j σ' ∧ GS σ' j S ∧ GT σ' j S
theorem NS.of {σ σ1 σ' : St} {j : Nat} {S : Sk} (hF : FR σ j σ1) (hg : GS σ1 j S) (h : RT σ1 j S σ') : NS σ j S σ' :=
  ⟨fun a h1 h2 h3 => (h.1 a h1 h3).trans (hF a h1 h2 h3), h.gs hg, h.2.2⟩
end
section
set_option maxHeartbeats 4000000 in
set_option maxRecDepth 100000 in
theorem c_X2_placeAt (l : Launch) (G : Gam) (σ : St) (j : Nat) (hj : j < 12) (S : Sk) (hv : VS S) (hg : GS σ j S) (hgt : GT σ j S) (t L : Nat) (ht : t ≤ 30) (hL : L ≤ 9) : Met l yX2_placeAt (w1 yX2_placeAt cX2_placeAt 4 (some .int)) ({ frames := 0, cells := 0, slots := 0, locals := 0 }) (PcX G σ [.ref (ga G (3 * j + 14)), .int (nI t), .int (nI L)]) (vp_Si (fun r => r = nI (posN S (t - L)))) 0 0 (fun _ => False) := by
  rcases Nat.lt_or_ge t L with hlt | hge
  · skip
    refine met_of [.ref (ga G (3 * j + 14)), .int (nI t), .int (nI L)] [(0, .ref (ga G (3 * j + 14))), (1, .int (nI t)), (2, .int (nI L))] (by decide) (Nat.le_of_ble_eq_true rfl) rfl ?_
    intro p e s m below meth c hx hb hr hown hml hlocks hW ls hl
    have hG : GW s := hW.2.2.2.1
    have hv0 := hv.1
    have hv1 := hv.2.1
    have hv3 := hv.2.2.1
    refine lv_iload_n hx hb dX2_placeAt_0 rfl (lv_at hl 1 rfl) ?_
    refine lv_iload_n hx hb dX2_placeAt_1 rfl (lv_at hl 2 rfl) ?_
    refine lv_isub hx hb dX2_placeAt_2 ?_
    refine lv_istore_n (lv' := [(3, .int ((nI t) - (nI L))), (0, .ref (ga G (3 * j + 14))), (1, .int (nI t)), (2, .int (nI L))]) hx hb dX2_placeAt_3 rfl hl (by decide) rfl (fun ls hl => ?_)
    refine lv_iload_n hx hb dX2_placeAt_4 rfl (lv_at hl 0 rfl) ?_
    refine lv_if_ge (tgt := 13) hx hb dX2_placeAt_5 (by decide) (fun c_5 => ?_) (fun c_5 => ?_)
    · skip
      exact absurd c_5 (sub_neg hlt (by omega))
    · skip
      refine lv_aload_n hx hb dX2_placeAt_8 rfl (lv_at hl 1 rfl) ?_
      refine rd_X2_15 hx hb hown hW hj dX2_placeAt_9 ?_
      refine lv_eqi (y := nI (S 1)) hg.2.1 ?_
      exact W.iret (v := nI (S 1)) hx hb hr (fun t9 ht9 hW9 => ⟨_, rfl, by rw [Nat.sub_eq_zero_of_le (Nat.le_of_lt hlt)]; rfl, ht9⟩) (fun q h => by cases h) dX2_placeAt_12
  · skip
    refine met_of [.ref (ga G (3 * j + 14)), .int (nI t), .int (nI L)] [(0, .ref (ga G (3 * j + 14))), (1, .int (nI t)), (2, .int (nI L))] (by decide) (Nat.le_of_ble_eq_true rfl) rfl ?_
    intro p e s m below meth c hx hb hr hown hml hlocks hW ls hl
    have hG : GW s := hW.2.2.2.1
    have hv0 := hv.1
    have hv1 := hv.2.1
    have hv3 := hv.2.2.1
    refine lv_iload_n hx hb dX2_placeAt_0 rfl (lv_at hl 1 rfl) ?_
    refine lv_iload_n hx hb dX2_placeAt_1 rfl (lv_at hl 2 rfl) ?_
    refine ln_sub t L hx hb rfl rfl (by omega) dX2_placeAt_2 ?_
    refine lv_istore_n (lv' := [(3, .int (nI (t - L))), (0, .ref (ga G (3 * j + 14))), (1, .int (nI t)), (2, .int (nI L))]) hx hb dX2_placeAt_3 rfl hl (by decide) rfl (fun ls hl => ?_)
    refine lv_iload_n hx hb dX2_placeAt_4 rfl (lv_at hl 0 rfl) ?_
    refine lv_if_ge (tgt := 13) hx hb dX2_placeAt_5 (by decide) (fun c_5 => ?_) (fun c_5 => ?_)
    · skip
      have q_5 := tN_le 0 (t - L) c_5 rfl rfl (by omega) (by omega)
      refine lv_aload_n hx hb dX2_placeAt_13 rfl (lv_at hl 1 rfl) ?_
      refine rd_X2_25 hx hb hown hW hj dX2_placeAt_14 ?_
      refine lv_iload_n hx hb dX2_placeAt_17 rfl (lv_at hl 0 rfl) ?_
      refine lv_bipush (v := 30) hx hb dX2_placeAt_18 (by decide) ?_
      refine lv_icmp_gt (tgt := 27) hx hb dX2_placeAt_20 (by decide) (fun c_20 => ?_) (fun c_20 => ?_)
      · skip
        exact absurd (tN_lt 30 (t - L) c_20 rfl rfl (by omega) (by omega)) (by omega)
      · skip
        have q_20 := tN_nlt 30 (t - L) c_20 rfl rfl (by omega) (by omega)
        refine lv_iload_n hx hb dX2_placeAt_23 rfl (lv_at hl 0 rfl) ?_
        refine lv_goto (tgt := 29) hx hb dX2_placeAt_24 (by decide) ?_
        refine al_trail (k := t - L) hx hb hW hj rfl (by omega) dX2_placeAt_29 ?_
        refine lv_eqi (y := nI (posN S (t - L))) (hgt.1 (t - L) (by omega)) ?_
        exact W.iret (v := nI (posN S (t - L))) hx hb hr (fun t9 ht9 hW9 => ⟨_, rfl, rfl, ht9⟩) (fun q h => by cases h) dX2_placeAt_30
    · skip
      exact absurd (nI_pos' (by omega)) c_5
set_option maxHeartbeats 4000000 in
set_option maxRecDepth 100000 in
theorem c_X2_placeBehind (l : Launch) (G : Gam) (σ : St) (j : Nat) (hj : j < 12) (S : Sk) (hv : VS S) (hg : GS σ j S) (n : Nat) (hn : n ≤ S 3) : Met l yX2_placeBehind (w1 yX2_placeBehind cX2_placeBehind 4 (some .int)) ({ frames := 1, cells := 0, slots := 0, locals := 23 }) (PcX G σ [.ref (ga G (3 * j + 14)), .int (nI n)]) (vp_Si (fun r => r = nI (plainN S n))) 0 0 (fun _ => False) := by
  refine met_of [.ref (ga G (3 * j + 14)), .int (nI n)] [(0, .ref (ga G (3 * j + 14))), (1, .int (nI n))] (by decide) (Nat.le_of_ble_eq_true rfl) rfl ?_
  intro p e s m below meth c hx hb hr hown hml hlocks hW ls hl
  have hG : GW s := hW.2.2.2.1
  have hv0 := hv.1
  have hv1 := hv.2.1
  have hv3 := hv.2.2.1
  refine lv_aload_n hx hb dX2_placeBehind_0 rfl (lv_at hl 0 rfl) ?_
  refine rd_X2_15 hx hb hown hW hj dX2_placeBehind_1 ?_
  refine lv_eqi (y := nI (S 1)) hg.2.1 ?_
  refine lv_istore_n (lv' := [(2, .int (nI (S 1))), (0, .ref (ga G (3 * j + 14))), (1, .int (nI n))]) hx hb dX2_placeBehind_4 rfl hl (by decide) rfl (fun ls hl => ?_)
  refine lv_iconst (v := 0) hx hb dX2_placeBehind_5 (by decide) ?_
  refine lv_istore_n (lv' := [(3, .int 0), (2, .int (nI (S 1))), (0, .ref (ga G (3 * j + 14))), (1, .int (nI n))]) hx hb dX2_placeBehind_6 rfl hl (by decide) rfl (fun ls hl => ?_)
  have loop_7 : ∀ (N9 : Nat) (i : Nat) (pl : Int32) (io : Int32), n - i < N9 → pl = nI (plainN S i) → io = nI i → i ≤ n → ∀ ls : Array Slot, lv_has ls 4 [(2, .int pl), (3, .int io), (0, .ref (ga G (3 * j + 14))), (1, .int (nI n))] → W p l e (headSpec (w1 yX2_placeBehind cX2_placeBehind 4 (some .int)) ({ frames := 1, cells := 0, slots := 0, locals := 23 })).room s m [.ref (ga G (3 * j + 14)), .int (nI n)].toArray below meth c s.heap [] 0 0 (MQ below (vp_Si (fun r => r = nI (plainN S n))) [.ref (ga G (3 * j + 14)), .int (nI n)].toArray s 0 0 (fun _ => False)) (F0 m 7 ls []) := by
    intro N9
    induction N9 with
    | zero => intro i pl io hN; exact absurd hN (Nat.not_lt_zero _)
    | succ N9 ih =>
      intro i pl io hN e_pl e_io hi0_7 ls hl
      subst e_pl
      subst e_io
      have ih_7 := ih
      have hpl := plainN_lt hv i (by omega)
      refine lv_iload_n hx hb dX2_placeBehind_7 rfl (lv_at hl 1 rfl) ?_
      refine lv_iload_n hx hb dX2_placeBehind_8 rfl (lv_at hl 3 rfl) ?_
      refine lv_icmp_ge (tgt := 37) hx hb dX2_placeBehind_9 (by decide) (fun c_9 => ?_) (fun c_9 => ?_)
      · skip
        have q_9 := tN_le n i c_9 rfl rfl (by omega) (by omega)
        refine lv_iload_n hx hb dX2_placeBehind_37 rfl (lv_at hl 0 rfl) ?_
        exact W.iret (v := nI (plainN S i)) hx hb hr (fun t9 ht9 hW9 => ⟨_, rfl, (by have h9 : i = n := (by omega); subst h9; rfl), ht9⟩) (fun q h => by cases h) dX2_placeBehind_38
      · skip
        have q_9 := tN_nle n i c_9 rfl rfl (by omega) (by omega)
        refine lv_iload_n hx hb dX2_placeBehind_12 rfl (lv_at hl 1 rfl) ?_
        refine lv_aload_n hx hb dX2_placeBehind_13 rfl (lv_at hl 2 rfl) ?_
        refine rd_X2_18 hx hb hown hW hj dX2_placeBehind_14 ?_
        refine lv_eqi (y := nI (S 3)) hg.2.2.1 ?_
        refine lv_icmp_ge (tgt := 37) hx hb dX2_placeBehind_17 (by decide) (fun c_17 => ?_) (fun c_17 => ?_)
        · skip
          have q_17 := tN_le (S 3) i c_17 rfl rfl (by omega) (by omega)
          refine lv_iload_n hx hb dX2_placeBehind_37 rfl (lv_at hl 0 rfl) ?_
          exact W.iret (v := nI (plainN S i)) hx hb hr (fun t9 ht9 hW9 => ⟨_, rfl, (by have h9 : i = n := (by omega); subst h9; rfl), ht9⟩) (fun q h => by cases h) dX2_placeBehind_38
        · skip
          have q_17 := tN_nle (S 3) i c_17 rfl rfl (by omega) (by omega)
          refine lv_iload_n hx hb dX2_placeBehind_20 rfl (lv_at hl 0 rfl) ?_
          refine lv_aload_n hx hb dX2_placeBehind_21 rfl (lv_at hl 2 rfl) ?_
          refine rd_X2_21 hx hb hown hW hj dX2_placeBehind_22 ?_
          refine lv_iload_n hx hb dX2_placeBehind_25 rfl (lv_at hl 1 rfl) ?_
          refine al_way (k := i) hx hb hW hj rfl (by omega) dX2_placeBehind_26 ?_
          refine lv_eqi (y := nI (S (4 + i))) (hg.2.2.2 i (by omega)) ?_
          refine cn_i [.int (nI (plainN S i)), .int (nI (S (4 + i)))] hx hb hml hown hG v_X3_stepFrom (hW.2.2.2.2.use 17 rfl) (c_X3_stepFrom l (plainN S i) (S (4 + i)) hpl (hv.2.2.2 i (by omega))) (preT _) rfl hl.1 (Nat.le_of_ble_eq_true rfl) dX2_placeBehind_27 ⟨rfl, rfl, Nat.le_of_ble_eq_true rfl, Nat.le_of_ble_eq_true rfl⟩ ⟨Nat.le_of_ble_eq_true rfl, Nat.le_of_ble_eq_true rfl⟩ ?_
          refine lv_istore_n (lv' := [(2, .int (nI (stepN (plainN S i) (S (4 + i))))), (3, .int (nI i)), (0, .ref (ga G (3 * j + 14))), (1, .int (nI n))]) hx hb dX2_placeBehind_30 rfl hl (by decide) rfl (fun ls hl => ?_)
          refine lv_iinc (v := nI (i + 1)) (lv' := [(3, .int (nI (i + 1))), (2, .int (nI (stepN (plainN S i) (S (4 + i))))), (0, .ref (ga G (3 * j + 14))), (1, .int (nI n))]) hx hb dX2_placeBehind_31 hl (k := 1) rfl (inc1 i) (by decide) rfl (fun ls hl => ?_)
          refine lv_goto (tgt := 7) hx hb dX2_placeBehind_34 (by decide) ?_
          exact ih_7 (i + 1) _ _ (by omega) rfl rfl (by omega) ls (lv_sub hl [1, 0, 2, 3] rfl)
  exact loop_7 _ 0 _ _ (Nat.lt_succ_self _) rfl rfl (by omega) ls (lv_sub hl [1, 0, 2, 3] rfl)
set_option maxHeartbeats 4000000 in
set_option maxRecDepth 100000 in
theorem c_X2_startAnew (l : Launch) (G : Gam) (σ : St) (j : Nat) (hj : j < 12) (S : Sk) (hv : VS S) (h3 : S 3 = 0) : Met l yX2_startAnew (w1 yX2_startAnew cX2_startAnew 3 none) ({ frames := 3, cells := 0, slots := 0, locals := 63 }) (PcX G σ [.ref (ga G (3 * j + 14)), .int (nI (S 0)), .int (nI (S 1))]) (QvX G (fun σ9 => NS σ j S σ9)) 0 0 (aX G) := by
  refine met_of [.ref (ga G (3 * j + 14)), .int (nI (S 0)), .int (nI (S 1))] [(0, .ref (ga G (3 * j + 14))), (1, .int (nI (S 0))), (2, .int (nI (S 1)))] (by decide) (Nat.le_of_ble_eq_true rfl) rfl ?_
  intro p e s m below meth c hx hb hr hown hml hlocks hW ls hl
  have hG : GW s := hW.2.2.2.1
  have hS : va_S (aX G) s.heap s.heap [] := va_S.rf
  refine lv_aload_n hx hb dX2_startAnew_0 rfl (lv_at hl 0 rfl) ?_
  refine lv_iload_n hx hb dX2_startAnew_1 rfl (lv_at hl 1 rfl) ?_
  refine wr_X2_9 hx hb hown hW hS hj dX2_startAnew_2 (fun H locs hW hS => ?_)
  obtain ⟨σ1, hσ1⟩ : ∃ z, z = up2 σ (3 * j + 14) 0 (nI (S 0)) := ⟨_, rfl⟩
  rw [← hσ1] at hW
  refine lv_aload_n hx hb dX2_startAnew_5 rfl (lv_at hl 0 rfl) ?_
  refine lv_iload_n hx hb dX2_startAnew_6 rfl (lv_at hl 2 rfl) ?_
  refine wr_X2_15 hx hb hown hW hS hj dX2_startAnew_7 (fun H locs hW hS => ?_)
  obtain ⟨σ2, hσ2⟩ : ∃ z, z = up2 σ1 (3 * j + 14) 1 (nI (S 1)) := ⟨_, rfl⟩
  rw [← hσ2] at hW
  refine lv_aload_n hx hb dX2_startAnew_10 rfl (lv_at hl 0 rfl) ?_
  refine lv_iconst (v := 0) hx hb dX2_startAnew_11 (by decide) ?_
  refine wr_X2_18 hx hb hown hW hS hj dX2_startAnew_12 (fun H locs hW hS => ?_)
  obtain ⟨σ3, hσ3⟩ : ∃ z, z = up2 σ2 (3 * j + 14) 2 0 := ⟨_, rfl⟩
  rw [← hσ3] at hW
  refine lv_aload_n hx hb dX2_startAnew_15 rfl (lv_at hl 0 rfl) ?_
  have hF : FR σ j σ3 := fun a h1 h2 h4 => by subst hσ3; subst hσ2; subst hσ1; rw [up2_ne h1, up2_ne h1, up2_ne h1]
  have hg : GS σ3 j S := by subst hσ3; subst hσ2; subst hσ1; exact ⟨by rw [up2_nf (by omega), up2_nf (by omega), up2_eq], by rw [up2_nf (by omega), up2_eq], by rw [up2_eq, h3]; rfl, fun i hi => absurd hi (by omega)⟩
  refine cw_v (q := 306) [] hx hb hml hown hW.2 hS v_X2_retrace (by decide +kernel) (c_X2_retrace l G σ3 j hj S hv hg) (preK hW hj _) rfl hl.1 (Nat.le_of_ble_eq_true rfl) dX2_startAnew_16 ⟨rfl, rfl, Nat.le_of_ble_eq_true rfl, Nat.le_of_ble_eq_true rfl⟩ ⟨Nat.le_of_ble_eq_true rfl, Nat.le_of_ble_eq_true rfl⟩ (fun σ4 H locs hσ4 hW hS => ?_)
  exact W.vret hx hb hr (fun t9 ht9 hW9 => ⟨⟨σ4, rfl, NS.of hF hg hσ4, (by have h8 := hW.1; rw [← ht9] at h8; exact h8)⟩, hS.F ht9⟩) hS.2.2 dX2_startAnew_19
set_option maxHeartbeats 4000000 in
set_option maxRecDepth 100000 in
theorem c_X2_addStep (l : Launch) (G : Gam) (σ : St) (j : Nat) (hj : j < 12) (S : Sk) (hv : VS S) (hg : GS σ j S) (S' : Sk) (hv' : VS S') (h3 : S 3 < 5) (e0 : S' 0 = S 0) (e1 : S' 1 = S 1) (e3 : S' 3 = S 3 + 1) (e4 : ∀ i, i < S 3 → S' (4 + i) = S (4 + i)) (d : Nat) (hd : S' (4 + S 3) = d) : Met l yX2_addStep (w1 yX2_addStep cX2_addStep 2 none) ({ frames := 3, cells := 0, slots := 0, locals := 63 }) (PcX G σ [.ref (ga G (3 * j + 14)), .int (nI d)]) (QvX G (fun σ9 => NS σ j S' σ9)) 0 0 (aX G) := by
  refine met_of [.ref (ga G (3 * j + 14)), .int (nI d)] [(0, .ref (ga G (3 * j + 14))), (1, .int (nI d))] (by decide) (Nat.le_of_ble_eq_true rfl) rfl ?_
  intro p e s m below meth c hx hb hr hown hml hlocks hW ls hl
  have hG : GW s := hW.2.2.2.1
  have hS : va_S (aX G) s.heap s.heap [] := va_S.rf
  have hv0 := hv.1
  have hv1 := hv.2.1
  have hv3 := hv.2.2.1
  refine lv_aload_n hx hb dX2_addStep_0 rfl (lv_at hl 0 rfl) ?_
  refine rd_X2_18 hx hb hown hW hj dX2_addStep_1 ?_
  refine lv_eqi (y := nI (S 3)) hg.2.2.1 ?_
  refine lv_iconst (v := 5) hx hb dX2_addStep_4 (by decide) ?_
  refine lv_icmp_ge (tgt := 32) hx hb dX2_addStep_5 (by decide) (fun c_5 => ?_) (fun c_5 => ?_)
  · skip
    exact absurd (tN_le 5 (S 3) c_5 rfl rfl (by omega) (by omega)) (by omega)
  · skip
    have q_5 := tN_nle 5 (S 3) c_5 rfl rfl (by omega) (by omega)
    refine lv_aload_n hx hb dX2_addStep_8 rfl (lv_at hl 0 rfl) ?_
    refine rd_X2_21 hx hb hown hW hj dX2_addStep_9 ?_
    refine lv_aload_n hx hb dX2_addStep_12 rfl (lv_at hl 0 rfl) ?_
    refine rd_X2_18 hx hb hown hW hj dX2_addStep_13 ?_
    refine lv_eqi (y := nI (S 3)) hg.2.2.1 ?_
    refine lv_iload_n hx hb dX2_addStep_16 rfl (lv_at hl 1 rfl) ?_
    refine as_way (k := S 3) hx hb hW hS hj rfl (by omega) dX2_addStep_17 (fun H locs hW hS => ?_)
    obtain ⟨σ1, hσ1⟩ : ∃ z, z = up2 σ (3 * j + 15) (S 3) (nI d) := ⟨_, rfl⟩
    rw [← hσ1] at hW
    refine lv_aload_n hx hb dX2_addStep_18 rfl (lv_at hl 0 rfl) ?_
    refine lv_dup hx hb dX2_addStep_19 rfl ?_
    refine rd_X2_18 hx hb hown hW hj dX2_addStep_20 ?_
    refine lv_eqi (y := nI (S 3)) (by subst hσ1; rw [up2_nr (by omega)]; exact hg.2.2.1) ?_
    refine lv_iconst (v := 1) hx hb dX2_addStep_23 (by decide) ?_
    refine ln_add (S 3) 1 hx hb rfl rfl dX2_addStep_24 ?_
    refine wr_X2_18 hx hb hown hW hS hj dX2_addStep_25 (fun H locs hW hS => ?_)
    obtain ⟨σ2, hσ2⟩ : ∃ z, z = up2 σ1 (3 * j + 14) 2 (nI ((S 3) + 1)) := ⟨_, rfl⟩
    rw [← hσ2] at hW
    have hF : FR σ j σ2 := fun a h1 h2 h4 => by subst hσ2; subst hσ1; rw [up2_ne h1, up2_ne h2]
    have hg2 : GS σ2 j S' := by
        subst hσ2; subst hσ1
        refine ⟨?_, ?_, ?_, fun i hi => ?_⟩
        · rw [up2_nf (by omega), up2_nr (by omega), e0]; exact hg.1
        · rw [up2_nf (by omega), up2_nr (by omega), e1]; exact hg.2.1
        · rw [up2_eq, e3]
        · rw [up2_nr (by omega)]
          by_cases q : i = S 3
          · subst q; rw [up2_eq, hd]
          · rw [up2_nf q, hg.2.2.2 i (by omega), e4 i (by omega)]
    refine lv_aload_n hx hb dX2_addStep_28 rfl (lv_at hl 0 rfl) ?_
    refine cw_v (q := 306) [] hx hb hml hown hW.2 hS v_X2_retrace (by decide +kernel) (c_X2_retrace l G σ2 j hj S' hv' hg2) (preK hW hj _) rfl hl.1 (Nat.le_of_ble_eq_true rfl) dX2_addStep_29 ⟨rfl, rfl, Nat.le_of_ble_eq_true rfl, Nat.le_of_ble_eq_true rfl⟩ ⟨Nat.le_of_ble_eq_true rfl, Nat.le_of_ble_eq_true rfl⟩ (fun σ3 H locs hσ3 hW hS => ?_)
    exact W.vret hx hb hr (fun t9 ht9 hW9 => ⟨⟨σ3, rfl, NS.of hF hg2 hσ3, (by have h8 := hW.1; rw [← ht9] at h8; exact h8)⟩, hS.F ht9⟩) hS.2.2 dX2_addStep_32
set_option maxHeartbeats 4000000 in
set_option maxRecDepth 100000 in
theorem c_X2_shortenTo (l : Launch) (G : Gam) (σ : St) (j : Nat) (hj : j < 12) (S : Sk) (hv : VS S) (hg : GS σ j S) (S' : Sk) (hv' : VS S') (e0 : S' 0 = S 0) (e1 : S' 1 = S 1) (n : Nat) (e3 : S' 3 = n) (hn : n ≤ S 3) (e4 : ∀ i, i < n → S' (4 + i) = S (4 + i)) : Met l yX2_shortenTo (w1 yX2_shortenTo cX2_shortenTo 2 none) ({ frames := 3, cells := 0, slots := 0, locals := 63 }) (PcX G σ [.ref (ga G (3 * j + 14)), .int (nI n)]) (QvX G (fun σ9 => NS σ j S' σ9)) 0 0 (aX G) := by
  refine met_of [.ref (ga G (3 * j + 14)), .int (nI n)] [(0, .ref (ga G (3 * j + 14))), (1, .int (nI n))] (by decide) (Nat.le_of_ble_eq_true rfl) rfl ?_
  intro p e s m below meth c hx hb hr hown hml hlocks hW ls hl
  have hG : GW s := hW.2.2.2.1
  have hS : va_S (aX G) s.heap s.heap [] := va_S.rf
  have hv0 := hv.1
  have hv1 := hv.2.1
  have hv3 := hv.2.2.1
  refine lv_aload_n hx hb dX2_shortenTo_0 rfl (lv_at hl 0 rfl) ?_
  refine lv_aload_n hx hb dX2_shortenTo_1 rfl (lv_at hl 0 rfl) ?_
  refine rd_X2_18 hx hb hown hW hj dX2_shortenTo_2 ?_
  refine lv_eqi (y := nI (S 3)) hg.2.2.1 ?_
  refine lv_iload_n hx hb dX2_shortenTo_5 rfl (lv_at hl 1 rfl) ?_
  refine va_mmin (own := RX2) hx hb (hml.trans hl.1.symm) hown (hG.use (i := 402) (by decide +kernel) rfl _) (hG _ mt_min.1 rfl _) (hG _ mt_min.2.1 rfl _) (hG _ mt_min.2.2 rfl _) (Nat.le_of_ble_eq_true rfl) (Nat.le_of_ble_eq_true rfl) (Nat.le_of_ble_eq_true rfl) (Nat.le_of_ble_eq_true rfl) dX2_shortenTo_6 ?_
  refine lv_eqi (y := nI (min (S 3) n)) (min_nI (S 3) n (by omega) (by omega)) ?_
  refine wr_X2_18 hx hb hown hW hS hj dX2_shortenTo_9 (fun H locs hW hS => ?_)
  obtain ⟨σ1, hσ1⟩ : ∃ z, z = up2 σ (3 * j + 14) 2 (nI (min (S 3) n)) := ⟨_, rfl⟩
  rw [← hσ1] at hW
  have hF : FR σ j σ1 := fun a h1 h2 h4 => by subst hσ1; rw [up2_ne h1]
  have hg2 : GS σ1 j S' := by
      subst hσ1
      refine ⟨?_, ?_, ?_, fun i hi => ?_⟩
      · rw [up2_nf (by omega), e0]; exact hg.1
      · rw [up2_nf (by omega), e1]; exact hg.2.1
      · rw [up2_eq, e3, Nat.min_eq_right hn]
      · rw [up2_nr (by omega), hg.2.2.2 i (by omega), e4 i (by omega)]
  refine lv_aload_n hx hb dX2_shortenTo_12 rfl (lv_at hl 0 rfl) ?_
  refine cw_v (q := 306) [] hx hb hml hown hW.2 hS v_X2_retrace (by decide +kernel) (c_X2_retrace l G σ1 j hj S' hv' hg2) (preK hW hj _) rfl hl.1 (Nat.le_of_ble_eq_true rfl) dX2_shortenTo_13 ⟨rfl, rfl, Nat.le_of_ble_eq_true rfl, Nat.le_of_ble_eq_true rfl⟩ ⟨Nat.le_of_ble_eq_true rfl, Nat.le_of_ble_eq_true rfl⟩ (fun σ2 H locs hσ2 hW hS => ?_)
  exact W.vret hx hb hr (fun t9 ht9 hW9 => ⟨⟨σ2, rfl, NS.of hF hg2 hσ2, (by have h8 := hW.1; rw [← ht9] at h8; exact h8)⟩, hS.F ht9⟩) hS.2.2 dX2_shortenTo_16
set_option maxHeartbeats 4000000 in
set_option maxRecDepth 100000 in
theorem c_X2_copyFrom (l : Launch) (G : Gam) (σ : St) (j i : Nat) (hj : j < 12) (hi : i < 12) (hij : i ≠ j) (S : Sk) (hv : VS S) (hg : GS σ i S) : Met l yX2_copyFrom (w1 yX2_copyFrom cX2_copyFrom 2 none) ({ frames := 3, cells := 0, slots := 0, locals := 63 }) (PcX G σ [.ref (ga G (3 * j + 14)), .ref (ga G (3 * i + 14))]) (QvX G (fun σ9 => NS σ j S σ9)) 0 0 (aX G) := by
  refine met_of [.ref (ga G (3 * j + 14)), .ref (ga G (3 * i + 14))] [(0, .ref (ga G (3 * j + 14))), (1, .ref (ga G (3 * i + 14)))] (by decide) (Nat.le_of_ble_eq_true rfl) rfl ?_
  intro p e s m below meth c hx hb hr hown hml hlocks hW ls hl
  have hG : GW s := hW.2.2.2.1
  have hS : va_S (aX G) s.heap s.heap [] := va_S.rf
  have hv0 := hv.1
  have hv1 := hv.2.1
  have hv3 := hv.2.2.1
  refine lv_aload_n hx hb dX2_copyFrom_0 rfl (lv_at hl 0 rfl) ?_
  refine lv_aload_n hx hb dX2_copyFrom_1 rfl (lv_at hl 1 rfl) ?_
  refine rd_X2_9 hx hb hown hW hi dX2_copyFrom_2 ?_
  refine lv_eqi (y := nI (S 0)) hg.1 ?_
  refine wr_X2_9 hx hb hown hW hS hj dX2_copyFrom_5 (fun H locs hW hS => ?_)
  obtain ⟨σ1, hσ1⟩ : ∃ z, z = up2 σ (3 * j + 14) 0 (nI (S 0)) := ⟨_, rfl⟩
  rw [← hσ1] at hW
  refine lv_aload_n hx hb dX2_copyFrom_8 rfl (lv_at hl 0 rfl) ?_
  refine lv_aload_n hx hb dX2_copyFrom_9 rfl (lv_at hl 1 rfl) ?_
  refine rd_X2_15 hx hb hown hW hi dX2_copyFrom_10 ?_
  refine lv_eqi (y := nI (S 1)) (by subst hσ1; rw [up2_nr (by omega)]; exact hg.2.1) ?_
  refine wr_X2_15 hx hb hown hW hS hj dX2_copyFrom_13 (fun H locs hW hS => ?_)
  obtain ⟨σ2, hσ2⟩ : ∃ z, z = up2 σ1 (3 * j + 14) 1 (nI (S 1)) := ⟨_, rfl⟩
  rw [← hσ2] at hW
  refine lv_aload_n hx hb dX2_copyFrom_16 rfl (lv_at hl 0 rfl) ?_
  refine lv_aload_n hx hb dX2_copyFrom_17 rfl (lv_at hl 1 rfl) ?_
  refine rd_X2_18 hx hb hown hW hi dX2_copyFrom_18 ?_
  refine lv_eqi (y := nI (S 3)) (by subst hσ2; subst hσ1; rw [up2_nr (by omega), up2_nr (by omega)]; exact hg.2.2.1) ?_
  refine wr_X2_18 hx hb hown hW hS hj dX2_copyFrom_21 (fun H locs hW hS => ?_)
  obtain ⟨σ3, hσ3⟩ : ∃ z, z = up2 σ2 (3 * j + 14) 2 (nI (S 3)) := ⟨_, rfl⟩
  rw [← hσ3] at hW
  refine lv_aload_n hx hb dX2_copyFrom_24 rfl (lv_at hl 1 rfl) ?_
  refine rd_X2_21 hx hb hown hW hi dX2_copyFrom_25 ?_
  refine lv_iconst (v := 0) hx hb dX2_copyFrom_28 (by decide) ?_
  refine lv_aload_n hx hb dX2_copyFrom_29 rfl (lv_at hl 0 rfl) ?_
  refine rd_X2_21 hx hb hown hW hj dX2_copyFrom_30 ?_
  refine lv_iconst (v := 0) hx hb dX2_copyFrom_33 (by decide) ?_
  refine lv_iconst (v := 5) hx hb dX2_copyFrom_34 (by decide) ?_
  refine x_copy (q := 527) 5 hx hb (hml.trans hl.1.symm) hown hW hS (i0 := 3 * i + 15) (i1 := 3 * j + 15) (by omega) (by omega) (fun r => cX_way hi) (fun r => cX_way hj) (by omega) (by decide +kernel) (Nat.le_of_ble_eq_true rfl) (Nat.le_of_ble_eq_true rfl) dX2_copyFrom_35 (fun H locs hW hS => ?_)
  obtain ⟨σ4, hσ4⟩ : ∃ z, z = cpy2 σ3 (3 * i + 15) (3 * j + 15) 5 := ⟨_, rfl⟩
  rw [← hσ4] at hW
  have hF : FR σ j σ4 := fun a h1 h2 h4 => by subst hσ4; subst hσ3; subst hσ2; subst hσ1; rw [cpy2_ne h2, up2_ne h1, up2_ne h1, up2_ne h1]
  have hg2 : GS σ4 j S := by
      subst hσ4; subst hσ3; subst hσ2; subst hσ1
      refine ⟨?_, ?_, ?_, fun k hk => ?_⟩
      · rw [cpy2_ne (by omega), up2_nf (by omega), up2_nf (by omega), up2_eq]
      · rw [cpy2_ne (by omega), up2_nf (by omega), up2_eq]
      · rw [cpy2_ne (by omega), up2_eq]
      · rw [cpy2_at (by omega), up2_nr (by omega), up2_nr (by omega), up2_nr (by omega)]; exact hg.2.2.2 k hk
  refine lv_aload_n hx hb dX2_copyFrom_38 rfl (lv_at hl 0 rfl) ?_
  refine cw_v (q := 306) [] hx hb hml hown hW.2 hS v_X2_retrace (by decide +kernel) (c_X2_retrace l G σ4 j hj S hv hg2) (preK hW hj _) rfl hl.1 (Nat.le_of_ble_eq_true rfl) dX2_copyFrom_39 ⟨rfl, rfl, Nat.le_of_ble_eq_true rfl, Nat.le_of_ble_eq_true rfl⟩ ⟨Nat.le_of_ble_eq_true rfl, Nat.le_of_ble_eq_true rfl⟩ (fun σ5 H locs hσ5 hW hS => ?_)
  exact W.vret hx hb hr (fun t9 ht9 hW9 => ⟨⟨σ5, rfl, NS.of hF hg2 hσ5, (by have h8 := hW.1; rw [← ht9] at h8; exact h8)⟩, hS.F ht9⟩) hS.2.2 dX2_copyFrom_42
end
section
/-! numbers that the hills' methods answer -/
theorem sl31 : ∀ k, k < 32 → ((nI k &&& 31).toBitVec.smod 32).toNat = k := by decide +kernel
theorem bitT {g i : Nat} (hg : g < 2 ^ 31) (hi : i < 32) : (nI g >>> (nI i &&& 31)) &&& 1 = nI (g / 2 ^ i % 2) := by
  rw [pk_shrN hg _ i (sl31 i hi), pk_andN (k := 1) (by have := Nat.div_le_self g (2 ^ i); omega) (by decide)]
theorem nI_xm (P g : Nat) (hP : P < 2 ^ 31) : (nI P &&& (nI g ^^^ (-1))) = 0 ↔ P &&& g = P := by
  have e : (nI P &&& (nI g ^^^ (-1))) = 0 ↔ nI P &&& nI g = nI P := by
    have m1 : ∀ i, i < 32 → ((-1 : Int32).toBitVec).getLsbD i = true := by decide
    constructor
    · intro h
      apply Int32.toBitVec_inj.1
      apply BitVec.eq_of_getLsbD_eq
      intro i hi
      have h1 := congrArg (fun z : Int32 => z.toBitVec.getLsbD i) h
      simp only [Int32.toBitVec_and, Int32.toBitVec_xor, BitVec.getLsbD_and, BitVec.getLsbD_xor, m1 i hi] at h1 ⊢
      simp only [Int32.toBitVec_zero, BitVec.getLsbD_zero] at h1
      revert h1
      cases (nI P).toBitVec.getLsbD i <;> cases (nI g).toBitVec.getLsbD i <;> simp
    · intro h
      apply Int32.toBitVec_inj.1
      apply BitVec.eq_of_getLsbD_eq
      intro i hi
      have h1 := congrArg (fun z : Int32 => z.toBitVec.getLsbD i) h
      simp only [Int32.toBitVec_and, Int32.toBitVec_xor, BitVec.getLsbD_and, BitVec.getLsbD_xor, m1 i hi] at h1 ⊢
      simp only [Int32.toBitVec_zero, BitVec.getLsbD_zero]
      revert h1
      cases (nI P).toBitVec.getLsbD i <;> cases (nI g).toBitVec.getLsbD i <;> simp
  rw [e, nI_and]
  exact nI_eq (Nat.lt_of_le_of_lt Nat.and_le_left hP) hP
def hasB (x : Int32) (n : Nat) : Bool := decide (¬ x < 0 ∧ ¬ nI n ≤ x)
theorem hasB_t {x : Int32} {n : Nat} (hn : n < 2 ^ 31) (h : hasB x n = true) : ∃ k, k < n ∧ x = nI k := by
  simp only [hasB, decide_eq_true_eq] at h
  rcases pk_ix x hn with q | q | q
  · exact absurd q h.1
  · exact absurd q h.2
  · exact q
theorem hasB_k {k n : Nat} (hk : k < n) (hn : n < 2 ^ 31) : hasB (nI k) n = true := by
  simp only [hasB, decide_eq_true_eq]
  exact ⟨nI_pos (by omega), nI_ge hk hn⟩
abbrev atN (S : Sk) (t : Nat) : Nat := posN S (t - S 2)
def meetN (f g : Nat → Nat) : Nat → Nat
  | 0 => 0
  | t + 1 => meetN f g t + (if f t = g t then 1 else 0)
theorem meetN_y {f g : Nat → Nat} {t : Nat} (h : f t = g t) : meetN f g t + 1 = meetN f g (t + 1) := by rw [meetN, if_pos h]
theorem meetN_n {f g : Nat → Nat} {t : Nat} (h : f t ≠ g t) : meetN f g t = meetN f g (t + 1) := by rw [meetN, if_neg h]; rfl
/-- sums over pairs, as the class goes through them -/
def inN (M : Nat → Nat → Nat) (a : Nat) : Nat → Nat
  | 0 => 0
  | j + 1 => inN M a j + M a (a + 1 + j)
def ouN (M : Nat → Nat → Nat) (n : Nat) : Nat → Nat
  | 0 => 0
  | a + 1 => ouN M n a + inN M a (n - 1 - a)
/-- how often two meet, late by L -/
def meL (S : Nat → Sk) (L : Nat → Nat) (a b : Nat) : Nat := meetN (fun t => posN (S a) (t - L a)) (fun t => posN (S b) (t - L b)) 31
def sumN (f : Nat → Nat) : Nat → Nat
  | 0 => 0
  | i + 1 => sumN f i + f i
def grN (P : Nat → Nat) (g : Nat) : Nat → Nat
  | 0 => 0
  | i + 1 => if g / 2 ^ i % 2 = 1 then grN P g i ||| P i else grN P g i
def onN (x : Nat) : Nat → Nat
  | 0 => 0
  | k + 1 => onN x k + x / 2 ^ k % 2
def popN (x : Nat) : Nat := onN x 16
def oI : Option Nat → Int32
  | none => -1
  | some g => nI g
def btr (g : Nat) : Option Nat → Bool
  | none => true
  | some b => decide (popN g < popN b)
def cvN (P : Nat → Nat) (n W : Nat) : Nat → Option Nat
  | 0 => none
  | g + 1 => if btr g (cvN P n W g) = true ∧ W &&& grN P g n = W then some g else cvN P n W g
theorem cvN_lt {P : Nat → Nat} {n W : Nat} : ∀ {g b : Nat}, cvN P n W g = some b → b < g := by
  intro g
  induction g with
  | zero => intro b h; cases h
  | succ g ih =>
    intro b h
    unfold cvN at h
    split at h
    · cases h; omega
    · have := ih h; omega
def dfN (a b : Nat) : Nat := if b ≤ a then a - b else b - a
def farN (p q : Nat) : Nat := dfN (p / 4) (q / 4) + dfN (p % 4) (q % 4)
theorem far6 : ∀ p, p < 16 → ∀ q, q < 16 → farN p q ≤ 6 := by decide +kernel
def catF (f : Nat → Nat) (P : Nat) : Nat → Nat → Nat
  | 0, t => t
  | k + 1, t => if farN P (f t) ≤ t then t else catF f P k (t + 1)
def catN (f : Nat → Nat) (P : Nat) : Nat := catF f P 6 0
theorem cat_ret {f : Nat → Nat} {P t r : Nat} (h : catF f P (6 - t) t = r) (ht : t ≤ 6) (q : farN P (f t) ≤ t) : r = t := by
  rcases Nat.eq_zero_or_pos (6 - t) with z | z
  · rw [z] at h; exact h.symm
  · obtain ⟨k, hk⟩ : ∃ k, 6 - t = k + 1 := ⟨6 - t - 1, by omega⟩
    rw [hk, catF, if_pos q] at h; exact h.symm
theorem cat_go {f : Nat → Nat} {P t r : Nat} (h : catF f P (6 - t) t = r) (ht : t ≤ 6) (h6 : farN P (f t) ≤ 6) (q : t < farN P (f t)) : t + 1 ≤ 6 ∧ catF f P (6 - (t + 1)) (t + 1) = r := by
  refine ⟨by omega, ?_⟩
  obtain ⟨k, hk⟩ : ∃ k, 6 - t = k + 1 := ⟨6 - t - 1, by omega⟩
  rw [hk, catF, if_neg (by omega)] at h
  rw [show 6 - (t + 1) = k by omega]; exact h
def whN (ok : Nat → Bool) : Nat → Nat
  | 0 => 0
  | i + 1 => if ok i = true then whN ok i ||| 2 ^ i else whN ok i
def okN (f V : Nat → Nat) : Nat → Bool
  | 0 => true
  | i + 1 => okN f V i && decide (f (V (2 * i + 1)) = V (2 * i))
theorem okN_f {f V : Nat → Nat} {i : Nat} (h : f (V (2 * i + 1)) ≠ V (2 * i)) : ∀ {q : Nat}, i < q → okN f V q = false := by
  intro q
  induction q with
  | zero => intro h; omega
  | succ q ih =>
    intro hq
    unfold okN
    by_cases e : i = q
    · subst e; simp [h]
    · rw [ih (by omega)]; rfl
theorem okN_t {f V : Nat → Nat} {i : Nat} (h0 : okN f V i = true) (h : f (V (2 * i + 1)) = V (2 * i)) : okN f V (i + 1) = true := by
  unfold okN; rw [h0]; simp [h]
def tgN (C : Nat) (f : Nat → Nat) (k : Nat) : Nat → Nat
  | 0 => 0
  | i + 1 => tgN C f k i + (if C / 2 ^ i % 2 = 1 ∧ f i = f k then 1 else 0)
def mlN (C : Nat) (f : Nat → Nat) (n : Nat) : Nat → Nat
  | 0 => 0
  | i + 1 => if C / 2 ^ i % 2 = 1 then max (mlN C f n i) (tgN C f i n) else mlN C f n i
def lkN (w : Nat → Nat) : Nat → Nat × Nat
  | 0 => (0, w 0)
  | t + 1 => if w (t + 1) < (lkN w t).2 then (t + 1, w (t + 1)) else lkN w t
theorem tgN_le {C : Nat} {f : Nat → Nat} {k : Nat} : ∀ i, tgN C f k i ≤ i := by
  intro i
  induction i with
  | zero => exact Nat.le_refl _
  | succ i ih => unfold tgN; split <;> omega
theorem mlN_le {C : Nat} {f : Nat → Nat} {n : Nat} : ∀ i, mlN C f n i ≤ n := by
  intro i
  induction i with
  | zero => exact Nat.zero_le _
  | succ i ih =>
    unfold mlN
    split
    · exact Nat.max_le.mpr ⟨ih, tgN_le n⟩
    · exact ih
/-- hills h hold n sticks S, q sights V, ch changes -/
def GH (σ : St) (h n : Nat) (S : Nat → Sk) (q : Nat) (V : Nat → Nat) (ch : Int32) : Prop :=
  (σ (5 * h + 4) 4 = nI n ∧ n ≤ 6) ∧ σ (5 * h + 4) 5 = ch ∧ (σ (5 * h + 4) 6 = nI q ∧ q ≤ 8) ∧
  (∀ k, k < n → VS (S k) ∧ GS σ (6 * h + k) (S k) ∧ GT σ (6 * h + k) (S k) ∧ σ (5 * h + 6) k = nI (S k 2) ∧ S k 2 ≤ 9) ∧
  ∀ i, i < q → σ (5 * h + 7) i = nI (V (2 * i)) ∧ σ (5 * h + 8) i = nI (V (2 * i + 1)) ∧ V (2 * i) < 16 ∧ V (2 * i + 1) ≤ 30
theorem orN_lt {f : Nat → Nat} (h : ∀ t, f t < 16) : ∀ t, orN f t < 2 ^ 16 := by
  intro t
  induction t with
  | zero => exact Nat.two_pow_pos 16
  | succ t ih => exact Nat.or_lt_two_pow ih (Nat.pow_lt_pow_right (by omega) (h t))
theorem grN_lt {P : Nat → Nat} {g n : Nat} (h : ∀ i, i < n → P i < 2 ^ 16) : ∀ i, i ≤ n → grN P g i < 2 ^ 16 := by
  intro i
  induction i with
  | zero => intro _; exact Nat.two_pow_pos 16
  | succ i ih =>
    intro hi
    unfold grN
    split
    · exact Nat.or_lt_two_pow (ih (by omega)) (h i (by omega))
    · exact ih (by omega)
theorem whN_lt {ok : Nat → Bool} : ∀ i, whN ok i < 2 ^ i := by
  intro i
  induction i with
  | zero => exact Nat.one_pos
  | succ i ih =>
    unfold whN
    have h1 : whN ok i < 2 ^ (i + 1) := Nat.lt_of_lt_of_le ih (Nat.pow_le_pow_right (by omega) (by omega))
    split
    · exact Nat.or_lt_two_pow h1 (Nat.pow_lt_pow_right (by omega) (by omega))
    · exact h1
/-! ones of a number: the JDK's bitCount -/
def bcA (x : Nat) : Nat := x - (x / 2 &&& 1431655765)
def bcB (x : Nat) : Nat := (x &&& 858993459) + (x / 4 &&& 858993459)
def bcC (x : Nat) : Nat := (x + x / 16) &&& 252645135
def bcD (x : Nat) : Nat := (x + x / 256) + (x + x / 256) / 65536
def bcN (x : Nat) : Nat := bcD (bcC (bcB (bcA x))) &&& 63
theorem and_256 (x y : Nat) : x &&& y = 256 * (x / 256 &&& y / 256) + (x % 256 &&& y % 256) := by
  have h1 : (x &&& y) / 2 ^ 8 = x / 2 ^ 8 &&& y / 2 ^ 8 := Nat.and_div_two_pow
  have h2 : (x &&& y) % 2 ^ 8 = (x % 2 ^ 8) &&& (y % 2 ^ 8) := Nat.and_mod_two_pow
  have h3 := Nat.div_add_mod (x &&& y) (2 ^ 8)
  rw [h1, h2] at h3
  exact h3.symm
def a8 (y : Nat) : Nat := y - (y / 2 &&& 85)
def b8 (y : Nat) : Nat := (y &&& 51) + (y / 4 &&& 51)
def c8 (y : Nat) : Nat := (y + y / 16) % 16
theorem k85 : ∀ u, u < 2 → ∀ v, v < 128 → (128 * u + v) &&& 85 = v &&& 85 ∧ v &&& 5592405 = v &&& 85 := by decide +kernel
theorem k51 : ∀ u, u < 4 → ∀ v, v < 64 → (64 * u + v) &&& 51 = v &&& 51 ∧ v &&& 3355443 = v &&& 51 := by decide +kernel
theorem k51b : ∀ v, v < 256 → v &&& 3355443 = v &&& 51 := by decide +kernel
theorem k15 : ∀ v, v < 256 → v &&& 986895 = v % 16 ∧ v &&& 15 = v % 16 := by decide +kernel
theorem k8 : ∀ y, y < 256 → c8 (b8 (a8 y)) = onN y 8 ∧ b8 (a8 y) % 16 ≤ 4 ∧ b8 (a8 y) / 16 ≤ 4 ∧ a8 y < 256 ∧ onN y 8 ≤ 8 := by decide +kernel
theorem bcA_s {a b : Nat} (ha : a < 256) (hb : b < 256) : bcA (256 * a + b) = 256 * a8 a + a8 b := by
  unfold bcA a8
  rw [and_256, show (256 * a + b) / 2 / 256 = a / 2 by omega, show (256 * a + b) / 2 % 256 = 128 * (a % 2) + b / 2 by omega]
  rw [show 1431655765 / 256 = 5592405 from rfl, show 1431655765 % 256 = 85 from rfl, (k85 (a % 2) (by omega) (b / 2) (by omega)).1, (k85 0 (by omega) (a / 2) (by omega)).2]
  have h1 : a / 2 &&& 85 ≤ a / 2 := Nat.and_le_left
  have h2 : b / 2 &&& 85 ≤ b / 2 := Nat.and_le_left
  omega
theorem bcB_s {a b : Nat} (ha : a < 256) (hb : b < 256) : bcB (256 * a + b) = 256 * b8 a + b8 b := by
  unfold bcB b8
  rw [and_256 (256 * a + b), and_256 ((256 * a + b) / 4), show (256 * a + b) / 256 = a by omega, show (256 * a + b) % 256 = b by omega, show (256 * a + b) / 4 / 256 = a / 4 by omega, show (256 * a + b) / 4 % 256 = 64 * (a % 4) + b / 4 by omega]
  rw [show 858993459 / 256 = 3355443 from rfl, show 858993459 % 256 = 51 from rfl, (k51 (a % 4) (by omega) (b / 4) (by omega)).1, (k51 0 (by omega) (a / 4) (by omega)).2, k51b a ha]
  omega
theorem bcC_s {a b : Nat} (ha : a % 16 ≤ 4 ∧ a / 16 ≤ 4) (hb : b % 16 ≤ 4 ∧ b / 16 ≤ 4) : bcC (256 * a + b) = 256 * c8 a + c8 b := by
  unfold bcC c8
  rw [and_256, show (256 * a + b + (256 * a + b) / 16) / 256 = a + a / 16 by omega, show (256 * a + b + (256 * a + b) / 16) % 256 = b + b / 16 + 16 * (a % 16) by omega]
  rw [show 252645135 / 256 = 986895 from rfl, show 252645135 % 256 = 15 from rfl, (k15 _ (by omega)).1, (k15 _ (by omega)).2]
  omega
theorem bcD_s {a b : Nat} (ha : a ≤ 8) (hb : b ≤ 8) : bcD (256 * a + b) &&& 63 = a + b := by
  unfold bcD
  rw [show (63 : Nat) = 2 ^ 6 - 1 from rfl, Nat.and_two_pow_sub_one_eq_mod, show (256 * a + b) / 256 = a by omega, show (256 * a + b + a) / 65536 = 0 by omega]
  omega
theorem pop_s {a b : Nat} (ha : a < 256) (hb : b < 256) : popN (256 * a + b) = onN a 8 + onN b 8 := by
  have e0 : (256 * a + b) / 1 % 2 = b / 1 % 2 := by omega
  have e1 : (256 * a + b) / 2 % 2 = b / 2 % 2 := by omega
  have e2 : (256 * a + b) / 4 % 2 = b / 4 % 2 := by omega
  have e3 : (256 * a + b) / 8 % 2 = b / 8 % 2 := by omega
  have e4 : (256 * a + b) / 16 % 2 = b / 16 % 2 := by omega
  have e5 : (256 * a + b) / 32 % 2 = b / 32 % 2 := by omega
  have e6 : (256 * a + b) / 64 % 2 = b / 64 % 2 := by omega
  have e7 : (256 * a + b) / 128 % 2 = b / 128 % 2 := by omega
  have e8 : (256 * a + b) / 256 % 2 = a / 1 % 2 := by omega
  have e9 : (256 * a + b) / 512 % 2 = a / 2 % 2 := by omega
  have e10 : (256 * a + b) / 1024 % 2 = a / 4 % 2 := by omega
  have e11 : (256 * a + b) / 2048 % 2 = a / 8 % 2 := by omega
  have e12 : (256 * a + b) / 4096 % 2 = a / 16 % 2 := by omega
  have e13 : (256 * a + b) / 8192 % 2 = a / 32 % 2 := by omega
  have e14 : (256 * a + b) / 16384 % 2 = a / 64 % 2 := by omega
  have e15 : (256 * a + b) / 32768 % 2 = a / 128 % 2 := by omega
  simp only [popN, onN, Nat.reducePow, e0, e1, e2, e3, e4, e5, e6, e7, e8, e9, e10, e11, e12, e13, e14, e15]
  omega
theorem bc_pop {x : Nat} (h : x < 65536) : bcN x = popN x := by
  have e : 256 * (x / 256) + x % 256 = x := by omega
  have ha : x / 256 < 256 := by omega
  have hb : x % 256 < 256 := by omega
  obtain ⟨p1, p2, p3, p4, p5⟩ := k8 _ ha
  obtain ⟨q1, q2, q3, q4, q5⟩ := k8 _ hb
  rw [← e, pop_s ha hb]
  unfold bcN
  rw [bcA_s ha hb, bcB_s p4 q4, bcC_s ⟨p2, p3⟩ ⟨q2, q3⟩, bcD_s (by rw [p1]; exact p5) (by rw [q1]; exact q5), p1, q1]
end
section
theorem al_any {p : Program} {l : Launch} {e : Env} {R : Room} {s : State} {m : MethodId} {args : Array Value} {below : List Frame} {meth : Method} {c : Code} {H : Heap} {locs : List Loc} {cells slots : Nat} {Q : State → Prop} {cc : ByteArray} {pc : Nat} {ls : Array Slot} {rest : List Value} {G : Gam} {σ : St} {x : Int32} {k i : Nat} (hx : p.tables.exec = Jvm.exec) (hb : c.code = cc) (hW : WX G σ s H) (ha : i < 50 ∧ ∀ r, cX G r i = .inl (gI G, 6, .inl r)) (hxk : x = nI k) (hk : k < 6) (hdg : decode cc pc = .ok (.iaload, 1)) (kk : W p l e R s m args below meth c H locs cells slots Q (F0 m (pc + 1) ls (.int (σ (i) k) :: rest))) : W p l e R s m args below meth c H locs cells slots Q (F0 m pc ls (.int x :: .ref (ga G (i)) :: rest)) :=
  wd_ald (f := fun i => cX G (σ i) i) hx hb hW.2.1 hW.1 0 (i := i) ha.1 (ha.2 _) rfl hxk hk (by omega) hdg kk
theorem abs_far : ∀ a, a < 16 → ∀ b, b < 16 → (if 0 ≤ nI (a / 4) - nI (b / 4) then nI (a / 4) - nI (b / 4) else 0 - (nI (a / 4) - nI (b / 4))) + (if 0 ≤ nI (a % 4) - nI (b % 4) then nI (a % 4) - nI (b % 4) else 0 - (nI (a % 4) - nI (b % 4))) = nI (farN a b) := by decide +kernel
theorem atN_lt {S : Sk} (h : VS S) (t : Nat) : atN S t < 16 := posN_lt h _
set_option maxHeartbeats 4000000 in
set_option maxRecDepth 100000 in
theorem c_J6_bitCount (l : Launch) (x : Nat) (h6 : x < 65536) : Met l yJ6_bitCount_0f7a4 (w1 yJ6_bitCount_0f7a4 cJ6_bitCount_0f7a4 1 (some .int)) ({ frames := 0, cells := 0, slots := 0, locals := 0 }) (PcG [.int (nI x)]) (vp_Si (fun r => r = nI (popN x))) 0 0 (fun _ => False) := by
  refine met_of [.int (nI x)] [(0, .int (nI x))] (by decide) (Nat.le_of_ble_eq_true rfl) rfl ?_
  intro p e s m below meth c hx hb hr hown hml hlocks hW ls hl
  have hG : GW s := hW
  have hA : bcA x ≤ x := Nat.sub_le _ _
  have hB : bcB (bcA x) ≤ 1717986918 := Nat.add_le_add Nat.and_le_right Nat.and_le_right
  have hC : bcC (bcB (bcA x)) ≤ 252645135 := Nat.and_le_right
  refine lv_iload_n hx hb dJ6_bitCount_0f7a4_0 rfl (lv_at hl 0 rfl) ?_
  refine lv_iload_n hx hb dJ6_bitCount_0f7a4_1 rfl (lv_at hl 0 rfl) ?_
  refine lv_iconst (v := 1) hx hb dJ6_bitCount_0f7a4_2 (by decide) ?_
  refine lv_iushr (v := nI (x / 2)) hx hb dJ6_bitCount_0f7a4_3 (pk_ushrN (by omega) 1 1 (by decide)) ?_
  refine lv_ldcw (v := 1431655765) hx hb hown (hG.use (i := 349) (by decide +kernel) rfl _) dJ6_bitCount_0f7a4_4 ?_
  refine lv_iand hx hb dJ6_bitCount_0f7a4_7 ?_
  refine lv_eqi (y := nI ((x / 2) &&& 1431655765)) (nI_and (x / 2) 1431655765) ?_
  refine ln_sub x ((x / 2) &&& 1431655765) hx hb rfl rfl (Nat.le_trans Nat.and_le_left (Nat.div_le_self _ _)) dJ6_bitCount_0f7a4_8 ?_
  refine lv_eqi (y := nI (bcA x)) rfl ?_
  refine lv_istore_n (lv' := [(0, .int (nI (bcA x)))]) hx hb dJ6_bitCount_0f7a4_9 rfl hl (by decide) rfl (fun ls hl => ?_)
  refine lv_iload_n hx hb dJ6_bitCount_0f7a4_10 rfl (lv_at hl 0 rfl) ?_
  refine lv_ldcw (v := 858993459) hx hb hown (hG.use (i := 350) (by decide +kernel) rfl _) dJ6_bitCount_0f7a4_11 ?_
  refine lv_iand hx hb dJ6_bitCount_0f7a4_14 ?_
  refine lv_eqi (y := nI ((bcA x) &&& 858993459)) (nI_and (bcA x) 858993459) ?_
  refine lv_iload_n hx hb dJ6_bitCount_0f7a4_15 rfl (lv_at hl 0 rfl) ?_
  refine lv_iconst (v := 2) hx hb dJ6_bitCount_0f7a4_16 (by decide) ?_
  refine lv_iushr (v := nI ((bcA x) / 4)) hx hb dJ6_bitCount_0f7a4_17 (pk_ushrN (by omega) 2 2 (by decide)) ?_
  refine lv_ldcw (v := 858993459) hx hb hown (hG.use (i := 350) (by decide +kernel) rfl _) dJ6_bitCount_0f7a4_18 ?_
  refine lv_iand hx hb dJ6_bitCount_0f7a4_21 ?_
  refine lv_eqi (y := nI (((bcA x) / 4) &&& 858993459)) (nI_and ((bcA x) / 4) 858993459) ?_
  refine ln_add ((bcA x) &&& 858993459) (((bcA x) / 4) &&& 858993459) hx hb rfl rfl dJ6_bitCount_0f7a4_22 ?_
  refine lv_eqi (y := nI (bcB (bcA x))) rfl ?_
  refine lv_istore_n (lv' := [(0, .int (nI (bcB (bcA x))))]) hx hb dJ6_bitCount_0f7a4_23 rfl hl (by decide) rfl (fun ls hl => ?_)
  refine lv_iload_n hx hb dJ6_bitCount_0f7a4_24 rfl (lv_at hl 0 rfl) ?_
  refine lv_iload_n hx hb dJ6_bitCount_0f7a4_25 rfl (lv_at hl 0 rfl) ?_
  refine lv_iconst (v := 4) hx hb dJ6_bitCount_0f7a4_26 (by decide) ?_
  refine lv_iushr (v := nI ((bcB (bcA x)) / 16)) hx hb dJ6_bitCount_0f7a4_27 (pk_ushrN (by omega) 4 4 (by decide)) ?_
  refine ln_add (bcB (bcA x)) ((bcB (bcA x)) / 16) hx hb rfl rfl dJ6_bitCount_0f7a4_28 ?_
  refine lv_ldcw (v := 252645135) hx hb hown (hG.use (i := 351) (by decide +kernel) rfl _) dJ6_bitCount_0f7a4_29 ?_
  refine lv_iand hx hb dJ6_bitCount_0f7a4_32 ?_
  refine lv_eqi (y := nI (((bcB (bcA x)) + ((bcB (bcA x)) / 16)) &&& 252645135)) (nI_and ((bcB (bcA x)) + ((bcB (bcA x)) / 16)) 252645135) ?_
  refine lv_eqi (y := nI (bcC (bcB (bcA x)))) rfl ?_
  refine lv_istore_n (lv' := [(0, .int (nI (bcC (bcB (bcA x)))))]) hx hb dJ6_bitCount_0f7a4_33 rfl hl (by decide) rfl (fun ls hl => ?_)
  refine lv_iload_n hx hb dJ6_bitCount_0f7a4_34 rfl (lv_at hl 0 rfl) ?_
  refine lv_iload_n hx hb dJ6_bitCount_0f7a4_35 rfl (lv_at hl 0 rfl) ?_
  refine lv_bipush (v := 8) hx hb dJ6_bitCount_0f7a4_36 (by decide) ?_
  refine lv_iushr (v := nI ((bcC (bcB (bcA x))) / 256)) hx hb dJ6_bitCount_0f7a4_38 (pk_ushrN (by omega) 8 8 (by decide)) ?_
  refine ln_add (bcC (bcB (bcA x))) ((bcC (bcB (bcA x))) / 256) hx hb rfl rfl dJ6_bitCount_0f7a4_39 ?_
  refine lv_istore_n (lv' := [(0, .int (nI ((bcC (bcB (bcA x))) + ((bcC (bcB (bcA x))) / 256))))]) hx hb dJ6_bitCount_0f7a4_40 rfl hl (by decide) rfl (fun ls hl => ?_)
  refine lv_iload_n hx hb dJ6_bitCount_0f7a4_41 rfl (lv_at hl 0 rfl) ?_
  refine lv_iload_n hx hb dJ6_bitCount_0f7a4_42 rfl (lv_at hl 0 rfl) ?_
  refine lv_bipush (v := 16) hx hb dJ6_bitCount_0f7a4_43 (by decide) ?_
  refine lv_iushr (v := nI (((bcC (bcB (bcA x))) + ((bcC (bcB (bcA x))) / 256)) / 65536)) hx hb dJ6_bitCount_0f7a4_45 (pk_ushrN (by omega) 16 16 (by decide)) ?_
  refine ln_add ((bcC (bcB (bcA x))) + ((bcC (bcB (bcA x))) / 256)) (((bcC (bcB (bcA x))) + ((bcC (bcB (bcA x))) / 256)) / 65536) hx hb rfl rfl dJ6_bitCount_0f7a4_46 ?_
  refine lv_istore_n (lv' := [(0, .int (nI (((bcC (bcB (bcA x))) + ((bcC (bcB (bcA x))) / 256)) + (((bcC (bcB (bcA x))) + ((bcC (bcB (bcA x))) / 256)) / 65536))))]) hx hb dJ6_bitCount_0f7a4_47 rfl hl (by decide) rfl (fun ls hl => ?_)
  refine lv_iload_n hx hb dJ6_bitCount_0f7a4_48 rfl (lv_at hl 0 rfl) ?_
  refine lv_bipush (v := 63) hx hb dJ6_bitCount_0f7a4_49 (by decide) ?_
  refine lv_iand hx hb dJ6_bitCount_0f7a4_51 ?_
  refine lv_eqi (y := nI ((((bcC (bcB (bcA x))) + ((bcC (bcB (bcA x))) / 256)) + (((bcC (bcB (bcA x))) + ((bcC (bcB (bcA x))) / 256)) / 65536)) &&& 63)) (nI_and (((bcC (bcB (bcA x))) + ((bcC (bcB (bcA x))) / 256)) + (((bcC (bcB (bcA x))) + ((bcC (bcB (bcA x))) / 256)) / 65536)) 63) ?_
  exact W.iret (v := nI ((((bcC (bcB (bcA x))) + ((bcC (bcB (bcA x))) / 256)) + (((bcC (bcB (bcA x))) + ((bcC (bcB (bcA x))) / 256)) / 65536)) &&& 63)) hx hb hr (fun t9 ht9 hW9 => ⟨_, rfl, (show nI (bcN x) = nI (popN x) from congrArg nI (bc_pop h6)), ht9⟩) (fun q h => by cases h) dJ6_bitCount_0f7a4_52
set_option maxHeartbeats 4000000 in
set_option maxRecDepth 100000 in
theorem c_X3_stepsBetween (l : Launch) (a b : Nat) (ha : a < 16) (h2 : b < 16) : Met l yX3_stepsBetween (w1 yX3_stepsBetween cX3_stepsBetween 2 (some .int)) ({ frames := 1, cells := 0, slots := 0, locals := 17 }) (PcG [.int (nI a), .int (nI b)]) (vp_Si (fun r => r = nI (farN a b))) 0 0 (fun _ => False) := by
  refine met_of [.int (nI a), .int (nI b)] [(0, .int (nI a)), (1, .int (nI b))] (by decide) (Nat.le_of_ble_eq_true rfl) rfl ?_
  intro p e s m below meth c hx hb hr hown hml hlocks hW ls hl
  have hG : GW s := hW
  refine lv_iload_n hx hb dX3_stepsBetween_0 rfl (lv_at hl 0 rfl) ?_
  refine lv_iconst (v := 4) hx hb dX3_stepsBetween_1 (by decide) ?_
  refine ln_div a 4 hx hb rfl rfl (by omega) (by omega) (by omega) dX3_stepsBetween_2 ?_
  refine lv_iload_n hx hb dX3_stepsBetween_3 rfl (lv_at hl 1 rfl) ?_
  refine lv_iconst (v := 4) hx hb dX3_stepsBetween_4 (by decide) ?_
  refine ln_div b 4 hx hb rfl rfl (by omega) (by omega) (by omega) dX3_stepsBetween_5 ?_
  refine lv_isub hx hb dX3_stepsBetween_6 ?_
  refine va_mabs (own := RX3) hx hb (hml.trans hl.1.symm) hown (hG.use (i := 450) (by decide +kernel) rfl _) (hG _ mt_abs.1 rfl _) (hG _ mt_abs.2.1 rfl _) (hG _ mt_abs.2.2 rfl _) (Nat.le_of_ble_eq_true rfl) (Nat.le_of_ble_eq_true rfl) (Nat.le_of_ble_eq_true rfl) (Nat.le_of_ble_eq_true rfl) dX3_stepsBetween_7 ?_
  refine lv_iload_n hx hb dX3_stepsBetween_10 rfl (lv_at hl 0 rfl) ?_
  refine lv_iconst (v := 4) hx hb dX3_stepsBetween_11 (by decide) ?_
  refine ln_rem a 4 hx hb rfl rfl (by omega) (by omega) (by omega) dX3_stepsBetween_12 ?_
  refine lv_iload_n hx hb dX3_stepsBetween_13 rfl (lv_at hl 1 rfl) ?_
  refine lv_iconst (v := 4) hx hb dX3_stepsBetween_14 (by decide) ?_
  refine ln_rem b 4 hx hb rfl rfl (by omega) (by omega) (by omega) dX3_stepsBetween_15 ?_
  refine lv_isub hx hb dX3_stepsBetween_16 ?_
  refine va_mabs (own := RX3) hx hb (hml.trans hl.1.symm) hown (hG.use (i := 450) (by decide +kernel) rfl _) (hG _ mt_abs.1 rfl _) (hG _ mt_abs.2.1 rfl _) (hG _ mt_abs.2.2 rfl _) (Nat.le_of_ble_eq_true rfl) (Nat.le_of_ble_eq_true rfl) (Nat.le_of_ble_eq_true rfl) (Nat.le_of_ble_eq_true rfl) dX3_stepsBetween_17 ?_
  refine lv_iadd hx hb dX3_stepsBetween_20 ?_
  exact W.iret (v := (if 0 ≤ ((nI (a / 4)) - (nI (b / 4))) then ((nI (a / 4)) - (nI (b / 4))) else 0 - ((nI (a / 4)) - (nI (b / 4)))) + (if 0 ≤ ((nI (a % 4)) - (nI (b % 4))) then ((nI (a % 4)) - (nI (b % 4))) else 0 - ((nI (a % 4)) - (nI (b % 4))))) hx hb hr (fun t9 ht9 hW9 => ⟨_, rfl, (abs_far a ha b h2), ht9⟩) (fun q h => by cases h) dX3_stepsBetween_21
set_option maxHeartbeats 4000000 in
set_option maxRecDepth 100000 in
theorem c_X0_has (l : Launch) (G : Gam) (σ : St) (h : Nat) (hh : h < 2) (n : Nat) (S : Nat → Sk) (q : Nat) (V : Nat → Nat) (ch : Int32) (hg : GH σ h n S q V ch) (x : Int32) : Met l yX0_has (w1 yX0_has cX0_has 2 (some .boolean)) ({ frames := 0, cells := 0, slots := 0, locals := 0 }) (PcX G σ [.ref (ga G (5 * h + 4)), .int x]) (vp_Si (fun r => r = bI (hasB x n))) 0 0 (fun _ => False) := by
  refine met_of [.ref (ga G (5 * h + 4)), .int x] [(0, .ref (ga G (5 * h + 4))), (1, .int x)] (by decide) (Nat.le_of_ble_eq_true rfl) rfl ?_
  intro p e s m below meth c hx hb hr hown hml hlocks hW ls hl
  have hG : GW s := hW.2.2.2.1
  have hn6 := hg.1.2
  have hq8 := hg.2.2.1.2
  refine lv_iload_n hx hb dX0_has_0 rfl (lv_at hl 1 rfl) ?_
  refine lv_if_lt (tgt := 16) hx hb dX0_has_1 (by decide) (fun c_1 => ?_) (fun c_1 => ?_)
  · skip
    refine lv_iconst (v := 0) hx hb dX0_has_16 (by decide) ?_
    exact W.zret (v := 0) (ty := .boolean) hx hb hr rfl (fun t9 ht9 hW9 => ⟨_, rfl, by simp_all [hasB, bI], ht9⟩) (fun q h => by cases h) dX0_has_17
  · skip
    refine lv_iload_n hx hb dX0_has_4 rfl (lv_at hl 1 rfl) ?_
    refine lv_aload_n hx hb dX0_has_5 rfl (lv_at hl 0 rfl) ?_
    refine rd_X0_31 hx hb hown hW hh dX0_has_6 ?_
    refine lv_eqi (y := nI n) hg.1.1 ?_
    refine lv_icmp_ge (tgt := 16) hx hb dX0_has_9 (by decide) (fun c_9 => ?_) (fun c_9 => ?_)
    · skip
      refine lv_iconst (v := 0) hx hb dX0_has_16 (by decide) ?_
      exact W.zret (v := 0) (ty := .boolean) hx hb hr rfl (fun t9 ht9 hW9 => ⟨_, rfl, by simp_all [hasB, bI], ht9⟩) (fun q h => by cases h) dX0_has_17
    · skip
      refine lv_iconst (v := 1) hx hb dX0_has_12 (by decide) ?_
      refine lv_goto (tgt := 17) hx hb dX0_has_13 (by decide) ?_
      exact W.zret (v := 1) (ty := .boolean) hx hb hr rfl (fun t9 ht9 hW9 => ⟨_, rfl, by simp_all [hasB, bI], ht9⟩) (fun q h => by cases h) dX0_has_17
set_option maxHeartbeats 4000000 in
set_option maxRecDepth 100000 in
theorem c_X0_hasBoth (l : Launch) (G : Gam) (σ : St) (h : Nat) (hh : h < 2) (n : Nat) (S : Nat → Sk) (q : Nat) (V : Nat → Nat) (ch : Int32) (hg : GH σ h n S q V ch) (x y : Int32) : Met l yX0_hasBoth (w1 yX0_hasBoth cX0_hasBoth 3 (some .boolean)) ({ frames := 1, cells := 0, slots := 0, locals := 21 }) (PcX G σ [.ref (ga G (5 * h + 4)), .int x, .int y]) (vp_Si (fun r => r = bI (hasB x n && (hasB y n && decide (¬ x = y))))) 0 0 (fun _ => False) := by
  refine met_of [.ref (ga G (5 * h + 4)), .int x, .int y] [(0, .ref (ga G (5 * h + 4))), (1, .int x), (2, .int y)] (by decide) (Nat.le_of_ble_eq_true rfl) rfl ?_
  intro p e s m below meth c hx hb hr hown hml hlocks hW ls hl
  have hG : GW s := hW.2.2.2.1
  have hn6 := hg.1.2
  have hq8 := hg.2.2.1.2
  refine lv_aload_n hx hb dX0_hasBoth_0 rfl (lv_at hl 0 rfl) ?_
  refine lv_iload_n hx hb dX0_hasBoth_1 rfl (lv_at hl 1 rfl) ?_
  refine cr_i (q := 385) [.int x] hx hb hml hown hG v_X0_has (by decide +kernel) (c_X0_has l G σ h hh n S q V ch hg x) (preH hW hh _) rfl hl.1 (Nat.le_of_ble_eq_true rfl) dX0_hasBoth_2 ⟨rfl, rfl, Nat.le_of_ble_eq_true rfl, Nat.le_of_ble_eq_true rfl⟩ ⟨Nat.le_of_ble_eq_true rfl, Nat.le_of_ble_eq_true rfl⟩ ?_
  refine lv_if_eq (tgt := 25) hx hb dX0_hasBoth_5 (by decide) (fun c_5 => ?_) (fun c_5 => ?_)
  · skip
    have b_5 := bI_0 c_5
    refine lv_iconst (v := 0) hx hb dX0_hasBoth_25 (by decide) ?_
    exact W.zret (v := 0) (ty := .boolean) hx hb hr rfl (fun t9 ht9 hW9 => ⟨_, rfl, by simp_all [bI], ht9⟩) (fun q h => by cases h) dX0_hasBoth_26
  · skip
    have b_5 := bI_1 c_5
    refine lv_aload_n hx hb dX0_hasBoth_8 rfl (lv_at hl 0 rfl) ?_
    refine lv_iload_n hx hb dX0_hasBoth_9 rfl (lv_at hl 2 rfl) ?_
    refine cr_i (q := 385) [.int y] hx hb hml hown hG v_X0_has (by decide +kernel) (c_X0_has l G σ h hh n S q V ch hg y) (preH hW hh _) rfl hl.1 (Nat.le_of_ble_eq_true rfl) dX0_hasBoth_10 ⟨rfl, rfl, Nat.le_of_ble_eq_true rfl, Nat.le_of_ble_eq_true rfl⟩ ⟨Nat.le_of_ble_eq_true rfl, Nat.le_of_ble_eq_true rfl⟩ ?_
    refine lv_if_eq (tgt := 25) hx hb dX0_hasBoth_13 (by decide) (fun c_13 => ?_) (fun c_13 => ?_)
    · skip
      have b_13 := bI_0 c_13
      refine lv_iconst (v := 0) hx hb dX0_hasBoth_25 (by decide) ?_
      exact W.zret (v := 0) (ty := .boolean) hx hb hr rfl (fun t9 ht9 hW9 => ⟨_, rfl, by simp_all [bI], ht9⟩) (fun q h => by cases h) dX0_hasBoth_26
    · skip
      have b_13 := bI_1 c_13
      refine lv_iload_n hx hb dX0_hasBoth_16 rfl (lv_at hl 1 rfl) ?_
      refine lv_iload_n hx hb dX0_hasBoth_17 rfl (lv_at hl 2 rfl) ?_
      refine lv_icmp_eq (tgt := 25) hx hb dX0_hasBoth_18 (by decide) (fun c_18 => ?_) (fun c_18 => ?_)
      · skip
        refine lv_iconst (v := 0) hx hb dX0_hasBoth_25 (by decide) ?_
        exact W.zret (v := 0) (ty := .boolean) hx hb hr rfl (fun t9 ht9 hW9 => ⟨_, rfl, by simp_all [bI], ht9⟩) (fun q h => by cases h) dX0_hasBoth_26
      · skip
        refine lv_iconst (v := 1) hx hb dX0_hasBoth_21 (by decide) ?_
        refine lv_goto (tgt := 26) hx hb dX0_hasBoth_22 (by decide) ?_
        exact W.zret (v := 1) (ty := .boolean) hx hb hr rfl (fun t9 ht9 hW9 => ⟨_, rfl, by simp_all [bI], ht9⟩) (fun q h => by cases h) dX0_hasBoth_26
set_option maxHeartbeats 4000000 in
set_option maxRecDepth 100000 in
theorem c_X0_placeAt (l : Launch) (G : Gam) (σ : St) (h : Nat) (hh : h < 2) (n : Nat) (S : Nat → Sk) (q : Nat) (V : Nat → Nat) (ch : Int32) (hg : GH σ h n S q V ch) (k t : Nat) (hk : k < n) (ht : t ≤ 30) : Met l yX0_placeAt (w1 yX0_placeAt cX0_placeAt 3 (some .int)) ({ frames := 1, cells := 0, slots := 0, locals := 23 }) (PcX G σ [.ref (ga G (5 * h + 4)), .int (nI k), .int (nI t)]) (vp_Si (fun r => r = nI (atN (S k) t))) 0 0 (fun _ => False) := by
  refine met_of [.ref (ga G (5 * h + 4)), .int (nI k), .int (nI t)] [(0, .ref (ga G (5 * h + 4))), (1, .int (nI k)), (2, .int (nI t))] (by decide) (Nat.le_of_ble_eq_true rfl) rfl ?_
  intro p e s m below meth c hx hb hr hown hml hlocks hW ls hl
  have hG : GW s := hW.2.2.2.1
  have hn6 := hg.1.2
  have hq8 := hg.2.2.1.2
  refine lv_aload_n hx hb dX0_placeAt_0 rfl (lv_at hl 0 rfl) ?_
  refine rd_X0_11 hx hb hown hW hh dX0_placeAt_1 ?_
  refine lv_iload_n hx hb dX0_placeAt_4 rfl (lv_at hl 1 rfl) ?_
  refine al_sticks (k := k) hx hb hW hh rfl (by omega) dX0_placeAt_5 ?_
  refine lv_iload_n hx hb dX0_placeAt_6 rfl (lv_at hl 2 rfl) ?_
  refine lv_aload_n hx hb dX0_placeAt_7 rfl (lv_at hl 0 rfl) ?_
  refine rd_X0_18 hx hb hown hW hh dX0_placeAt_8 ?_
  refine lv_iload_n hx hb dX0_placeAt_11 rfl (lv_at hl 1 rfl) ?_
  refine al_lateBy (k := k) hx hb hW hh rfl (by omega) dX0_placeAt_12 ?_
  refine lv_eqi (y := nI (S k 2)) (hg.2.2.2.1 k (by omega)).2.2.2.1 ?_
  refine cr_i (q := 373) [.int (nI t), .int (nI (S k 2))] hx hb hml hown hG v_X2_placeAt (by decide +kernel) (c_X2_placeAt l G σ (6 * h + k) (by omega) (S k) (hg.2.2.2.1 k (by omega)).1 (hg.2.2.2.1 k (by omega)).2.1 (hg.2.2.2.1 k hk).2.2.1 t (S k 2) ht (hg.2.2.2.1 k hk).2.2.2.2) (preK hW (by omega) _) rfl hl.1 (Nat.le_of_ble_eq_true rfl) dX0_placeAt_13 ⟨rfl, rfl, Nat.le_of_ble_eq_true rfl, Nat.le_of_ble_eq_true rfl⟩ ⟨Nat.le_of_ble_eq_true rfl, Nat.le_of_ble_eq_true rfl⟩ ?_
  exact W.iret (v := nI (posN (S k) (t - S k 2))) hx hb hr (fun t9 ht9 hW9 => ⟨_, rfl, rfl, ht9⟩) (fun q h => by cases h) dX0_placeAt_16
set_option maxHeartbeats 4000000 in
set_option maxRecDepth 100000 in
theorem c_X0_hoursTogether (l : Launch) (G : Gam) (σ : St) (h : Nat) (hh : h < 2) (n : Nat) (S : Nat → Sk) (q : Nat) (V : Nat → Nat) (ch : Int32) (hg : GH σ h n S q V ch) (a La b Lb : Nat) (ha : a < n) (h2 : b < n) (hLa : La ≤ 9) (hLb : Lb ≤ 9) : Met l yX0_hoursTogether (w1 yX0_hoursTogether cX0_hoursTogether 7 (some .int)) ({ frames := 1, cells := 0, slots := 0, locals := 23 }) (PcX G σ [.ref (ga G (5 * h + 4)), .int (nI a), .int (nI La), .int (nI b), .int (nI Lb)]) (vp_Si (fun r => r = nI (meetN (fun t => posN (S a) (t - La)) (fun t => posN (S b) (t - Lb)) 31))) 0 0 (fun _ => False) := by
  refine met_of [.ref (ga G (5 * h + 4)), .int (nI a), .int (nI La), .int (nI b), .int (nI Lb)] [(0, .ref (ga G (5 * h + 4))), (1, .int (nI a)), (2, .int (nI La)), (3, .int (nI b)), (4, .int (nI Lb))] (by decide) (Nat.le_of_ble_eq_true rfl) rfl ?_
  intro p e s m below meth c hx hb hr hown hml hlocks hW ls hl
  have hG : GW s := hW.2.2.2.1
  have hn6 := hg.1.2
  have hq8 := hg.2.2.1.2
  refine lv_iconst (v := 0) hx hb dX0_hoursTogether_0 (by decide) ?_
  refine lv_istore (lv' := [(5, .int 0), (0, .ref (ga G (5 * h + 4))), (1, .int (nI a)), (2, .int (nI La)), (3, .int (nI b)), (4, .int (nI Lb))]) hx hb dX0_hoursTogether_1 hl (by decide) rfl (fun ls hl => ?_)
  refine lv_iconst (v := 0) hx hb dX0_hoursTogether_3 (by decide) ?_
  refine lv_istore (lv' := [(6, .int 0), (5, .int 0), (0, .ref (ga G (5 * h + 4))), (1, .int (nI a)), (2, .int (nI La)), (3, .int (nI b)), (4, .int (nI Lb))]) hx hb dX0_hoursTogether_4 hl (by decide) rfl (fun ls hl => ?_)
  have loop_6 : ∀ (N9 : Nat) (t : Nat) (hs9 : Int32) (ho : Int32), 31 - t < N9 → hs9 = nI (meetN (fun t => posN (S a) (t - La)) (fun t => posN (S b) (t - Lb)) t) → ho = nI t → t ≤ 31 → ∀ ls : Array Slot, lv_has ls 7 [(5, .int hs9), (6, .int ho), (0, .ref (ga G (5 * h + 4))), (1, .int (nI a)), (2, .int (nI La)), (3, .int (nI b)), (4, .int (nI Lb))] → W p l e (headSpec (w1 yX0_hoursTogether cX0_hoursTogether 7 (some .int)) ({ frames := 1, cells := 0, slots := 0, locals := 23 })).room s m [.ref (ga G (5 * h + 4)), .int (nI a), .int (nI La), .int (nI b), .int (nI Lb)].toArray below meth c s.heap [] 0 0 (MQ below (vp_Si (fun r => r = nI (meetN (fun t => posN (S a) (t - La)) (fun t => posN (S b) (t - Lb)) 31))) [.ref (ga G (5 * h + 4)), .int (nI a), .int (nI La), .int (nI b), .int (nI Lb)].toArray s 0 0 (fun _ => False)) (F0 m 6 ls []) := by
    intro N9
    induction N9 with
    | zero => intro t hs9 ho hN; exact absurd hN (Nat.not_lt_zero _)
    | succ N9 ih =>
      intro t hs9 ho hN e_hs9 e_ho hi0_6 ls hl
      subst e_hs9
      subst e_ho
      have ih_6 := ih
      have hpa := posN_lt (hg.2.2.2.1 a ha).1 (t - La)
      have hpb := posN_lt (hg.2.2.2.1 b h2).1 (t - Lb)
      refine lv_iload hx hb dX0_hoursTogether_6 (lv_at hl 1 rfl) ?_
      refine lv_bipush (v := 30) hx hb dX0_hoursTogether_8 (by decide) ?_
      refine lv_icmp_gt (tgt := 50) hx hb dX0_hoursTogether_10 (by decide) (fun c_10 => ?_) (fun c_10 => ?_)
      · skip
        have q_10 := tN_lt 30 t c_10 rfl rfl (by omega) (by omega)
        refine lv_iload hx hb dX0_hoursTogether_50 (lv_at hl 0 rfl) ?_
        exact W.iret (v := nI (meetN (fun t => posN (S a) (t - La)) (fun t => posN (S b) (t - Lb)) t)) hx hb hr (fun t9 ht9 hW9 => ⟨_, rfl, (by have h9 : t = 31 := (by omega); subst h9; rfl), ht9⟩) (fun q h => by cases h) dX0_hoursTogether_52
      · skip
        have q_10 := tN_nlt 30 t c_10 rfl rfl (by omega) (by omega)
        refine lv_aload_n hx hb dX0_hoursTogether_13 rfl (lv_at hl 2 rfl) ?_
        refine rd_X0_11 hx hb hown hW hh dX0_hoursTogether_14 ?_
        refine lv_iload_n hx hb dX0_hoursTogether_17 rfl (lv_at hl 3 rfl) ?_
        refine al_sticks (k := a) hx hb hW hh rfl (by omega) dX0_hoursTogether_18 ?_
        refine lv_iload hx hb dX0_hoursTogether_19 (lv_at hl 1 rfl) ?_
        refine lv_iload_n hx hb dX0_hoursTogether_21 rfl (lv_at hl 4 rfl) ?_
        refine cr_i (q := 373) [.int (nI t), .int (nI La)] hx hb hml hown hG v_X2_placeAt (by decide +kernel) (c_X2_placeAt l G σ (6 * h + a) (by omega) (S a) (hg.2.2.2.1 a (by omega)).1 (hg.2.2.2.1 a (by omega)).2.1 (hg.2.2.2.1 a ha).2.2.1 t La (by omega) hLa) (preK hW (by omega) _) rfl hl.1 (Nat.le_of_ble_eq_true rfl) dX0_hoursTogether_22 ⟨rfl, rfl, Nat.le_of_ble_eq_true rfl, Nat.le_of_ble_eq_true rfl⟩ ⟨Nat.le_of_ble_eq_true rfl, Nat.le_of_ble_eq_true rfl⟩ ?_
        refine lv_aload_n hx hb dX0_hoursTogether_25 rfl (lv_at hl 2 rfl) ?_
        refine rd_X0_11 hx hb hown hW hh dX0_hoursTogether_26 ?_
        refine lv_iload_n hx hb dX0_hoursTogether_29 rfl (lv_at hl 5 rfl) ?_
        refine al_sticks (k := b) hx hb hW hh rfl (by omega) dX0_hoursTogether_30 ?_
        refine lv_iload hx hb dX0_hoursTogether_31 (lv_at hl 1 rfl) ?_
        refine lv_iload hx hb dX0_hoursTogether_33 (lv_at hl 6 rfl) ?_
        refine cr_i (q := 373) [.int (nI t), .int (nI Lb)] hx hb hml hown hG v_X2_placeAt (by decide +kernel) (c_X2_placeAt l G σ (6 * h + b) (by omega) (S b) (hg.2.2.2.1 b (by omega)).1 (hg.2.2.2.1 b (by omega)).2.1 (hg.2.2.2.1 b h2).2.2.1 t Lb (by omega) hLb) (preK hW (by omega) _) rfl hl.1 (Nat.le_of_ble_eq_true rfl) dX0_hoursTogether_35 ⟨rfl, rfl, Nat.le_of_ble_eq_true rfl, Nat.le_of_ble_eq_true rfl⟩ ⟨Nat.le_of_ble_eq_true rfl, Nat.le_of_ble_eq_true rfl⟩ ?_
        refine lv_icmp_ne (tgt := 44) hx hb dX0_hoursTogether_38 (by decide) (fun c_38 => ?_) (fun c_38 => ?_)
        · skip
          have q_38 := tN_ne (posN (S a) (t - La)) (posN (S b) (t - Lb)) c_38 rfl rfl (by omega) (by omega)
          refine lv_iinc (v := nI (t + 1)) (lv' := [(6, .int (nI (t + 1))), (5, .int (nI (meetN (fun t => posN (S a) (t - La)) (fun t => posN (S b) (t - Lb)) t))), (0, .ref (ga G (5 * h + 4))), (1, .int (nI a)), (2, .int (nI La)), (3, .int (nI b)), (4, .int (nI Lb))]) hx hb dX0_hoursTogether_44 hl (k := 1) rfl (inc1 t) (by decide) rfl (fun ls hl => ?_)
          refine lv_goto (tgt := 6) hx hb dX0_hoursTogether_47 (by decide) ?_
          exact ih_6 (t + 1) _ _ (by omega) (by first | exact congrArg nI (meetN_y q_38) | exact congrArg nI (meetN_n q_38)) rfl (by omega) ls (lv_sub hl [1, 0, 2, 3, 4, 5, 6] rfl)
        · skip
          have q_38 := tN_eq (posN (S a) (t - La)) (posN (S b) (t - Lb)) c_38 rfl rfl (by omega) (by omega)
          refine lv_iinc (v := nI (meetN (fun t => posN (S a) (t - La)) (fun t => posN (S b) (t - Lb)) t + 1)) (lv' := [(5, .int (nI (meetN (fun t => posN (S a) (t - La)) (fun t => posN (S b) (t - Lb)) t + 1))), (6, .int (nI t)), (0, .ref (ga G (5 * h + 4))), (1, .int (nI a)), (2, .int (nI La)), (3, .int (nI b)), (4, .int (nI Lb))]) hx hb dX0_hoursTogether_41 hl (k := 0) rfl (inc1 (meetN (fun t => posN (S a) (t - La)) (fun t => posN (S b) (t - Lb)) t)) (by decide) rfl (fun ls hl => ?_)
          refine lv_iinc (v := nI (t + 1)) (lv' := [(6, .int (nI (t + 1))), (5, .int (nI (meetN (fun t => posN (S a) (t - La)) (fun t => posN (S b) (t - Lb)) t + 1))), (0, .ref (ga G (5 * h + 4))), (1, .int (nI a)), (2, .int (nI La)), (3, .int (nI b)), (4, .int (nI Lb))]) hx hb dX0_hoursTogether_44 hl (k := 1) rfl (inc1 t) (by decide) rfl (fun ls hl => ?_)
          refine lv_goto (tgt := 6) hx hb dX0_hoursTogether_47 (by decide) ?_
          exact ih_6 (t + 1) _ _ (by omega) (by first | exact congrArg nI (meetN_y q_38) | exact congrArg nI (meetN_n q_38)) rfl (by omega) ls (lv_sub hl [1, 0, 2, 3, 4, 5, 6] rfl)
  exact loop_6 _ 0 _ _ (Nat.lt_succ_self _) rfl rfl (by omega) ls (lv_sub hl [1, 0, 2, 3, 4, 5, 6] rfl)
set_option maxHeartbeats 4000000 in
set_option maxRecDepth 100000 in
theorem c_X0_meetings (l : Launch) (G : Gam) (σ : St) (h : Nat) (hh : h < 2) (n : Nat) (S : Nat → Sk) (q : Nat) (V : Nat → Nat) (ch : Int32) (hg : GH σ h n S q V ch) (i : Nat) (ha : i < 50 ∧ ∀ r, cX G r i = .inl (gI G, 6, .inl r)) (L : Nat → Nat) (hL : ∀ k, k < n → σ (i) k = nI (L k) ∧ L k ≤ 9) : Met l yX0_meetings (w1 yX0_meetings cX0_meetings 5 (some .int)) ({ frames := 2, cells := 0, slots := 0, locals := 49 }) (PcX G σ [.ref (ga G (5 * h + 4)), .ref (ga G i)]) (vp_Si (fun r => r = nI (ouN (meL S L) n n))) 0 0 (fun _ => False) := by
  refine met_of [.ref (ga G (5 * h + 4)), .ref (ga G i)] [(0, .ref (ga G (5 * h + 4))), (1, .ref (ga G i))] (by decide) (Nat.le_of_ble_eq_true rfl) rfl ?_
  intro p e s m below meth c hx hb hr hown hml hlocks hW ls hl
  have hG : GW s := hW.2.2.2.1
  have hn6 := hg.1.2
  have hq8 := hg.2.2.1.2
  refine lv_iconst (v := 0) hx hb dX0_meetings_0 (by decide) ?_
  refine lv_istore_n (lv' := [(2, .int 0), (0, .ref (ga G (5 * h + 4))), (1, .ref (ga G i))]) hx hb dX0_meetings_1 rfl hl (by decide) rfl (fun ls hl => ?_)
  refine lv_iconst (v := 0) hx hb dX0_meetings_2 (by decide) ?_
  refine lv_istore_n (lv' := [(3, .int 0), (2, .int 0), (0, .ref (ga G (5 * h + 4))), (1, .ref (ga G i))]) hx hb dX0_meetings_3 rfl hl (by decide) rfl (fun ls hl => ?_)
  have loop_4 : ∀ (N9 : Nat) (a : Nat) (tt : Int32) (ao : Int32), n - a < N9 → tt = nI (ouN (meL S L) n a) → ao = nI a → a ≤ n → ∀ ls : Array Slot, lv_has ls 5 [(2, .int tt), (3, .int ao), (0, .ref (ga G (5 * h + 4))), (1, .ref (ga G i))] → W p l e (headSpec (w1 yX0_meetings cX0_meetings 5 (some .int)) ({ frames := 2, cells := 0, slots := 0, locals := 49 })).room s m [.ref (ga G (5 * h + 4)), .ref (ga G i)].toArray below meth c s.heap [] 0 0 (MQ below (vp_Si (fun r => r = nI (ouN (meL S L) n n))) [.ref (ga G (5 * h + 4)), .ref (ga G i)].toArray s 0 0 (fun _ => False)) (F0 m 4 ls []) := by
    intro N9
    induction N9 with
    | zero => intro a tt ao hN; exact absurd hN (Nat.not_lt_zero _)
    | succ N9 ih =>
      intro a tt ao hN e_tt e_ao hi0_4 ls hl
      subst e_tt
      subst e_ao
      have ih_4 := ih
      refine lv_iload_n hx hb dX0_meetings_4 rfl (lv_at hl 1 rfl) ?_
      refine lv_aload_n hx hb dX0_meetings_5 rfl (lv_at hl 2 rfl) ?_
      refine rd_X0_31 hx hb hown hW hh dX0_meetings_6 ?_
      refine lv_eqi (y := nI n) hg.1.1 ?_
      refine lv_icmp_ge (tgt := 55) hx hb dX0_meetings_9 (by decide) (fun c_9 => ?_) (fun c_9 => ?_)
      · skip
        have q_9 := tN_le n a c_9 rfl rfl (by omega) (by omega)
        refine lv_iload_n hx hb dX0_meetings_55 rfl (lv_at hl 0 rfl) ?_
        exact W.iret (v := nI (ouN (meL S L) n a)) hx hb hr (fun t9 ht9 hW9 => ⟨_, rfl, (by have h9 : a = n := (by omega); subst h9; rfl), ht9⟩) (fun q h => by cases h) dX0_meetings_56
      · skip
        have q_9 := tN_nle n a c_9 rfl rfl (by omega) (by omega)
        refine lv_iload_n hx hb dX0_meetings_12 rfl (lv_at hl 1 rfl) ?_
        refine lv_iconst (v := 1) hx hb dX0_meetings_13 (by decide) ?_
        refine ln_add a 1 hx hb rfl rfl dX0_meetings_14 ?_
        refine lv_istore (lv' := [(4, .int (nI (a + 1))), (2, .int (nI (ouN (meL S L) n a))), (3, .int (nI a)), (0, .ref (ga G (5 * h + 4))), (1, .ref (ga G i))]) hx hb dX0_meetings_15 hl (by decide) rfl (fun ls hl => ?_)
        have loop_17 : ∀ (N9 : Nat) (j : Nat) (tt : Int32) (bo : Int32), n - j < N9 → tt = nI (ouN (meL S L) n a + inN (meL S L) a j) → bo = nI (a + 1 + j) → a + 1 + j ≤ n → ∀ ls : Array Slot, lv_has ls 5 [(2, .int tt), (4, .int bo), (3, .int (nI a)), (0, .ref (ga G (5 * h + 4))), (1, .ref (ga G i))] → W p l e (headSpec (w1 yX0_meetings cX0_meetings 5 (some .int)) ({ frames := 2, cells := 0, slots := 0, locals := 49 })).room s m [.ref (ga G (5 * h + 4)), .ref (ga G i)].toArray below meth c s.heap [] 0 0 (MQ below (vp_Si (fun r => r = nI (ouN (meL S L) n n))) [.ref (ga G (5 * h + 4)), .ref (ga G i)].toArray s 0 0 (fun _ => False)) (F0 m 17 ls []) := by
          intro N9
          induction N9 with
          | zero => intro j tt bo hN; exact absurd hN (Nat.not_lt_zero _)
          | succ N9 ih =>
            intro j tt bo hN e_tt e_bo hi0_17 ls hl
            subst e_tt
            subst e_bo
            have ih_17 := ih
            refine lv_iload hx hb dX0_meetings_17 (lv_at hl 1 rfl) ?_
            refine lv_aload_n hx hb dX0_meetings_19 rfl (lv_at hl 3 rfl) ?_
            refine rd_X0_31 hx hb hown hW hh dX0_meetings_20 ?_
            refine lv_eqi (y := nI n) hg.1.1 ?_
            refine lv_icmp_ge (tgt := 49) hx hb dX0_meetings_23 (by decide) (fun c_23 => ?_) (fun c_23 => ?_)
            · skip
              have q_23 := tN_le n (a + 1 + j) c_23 rfl rfl (by omega) (by omega)
              refine lv_iinc (v := nI (a + 1)) (lv' := [(3, .int (nI (a + 1))), (2, .int (nI (ouN (meL S L) n a + inN (meL S L) a j))), (4, .int (nI (a + 1 + j))), (0, .ref (ga G (5 * h + 4))), (1, .ref (ga G i))]) hx hb dX0_meetings_49 hl (k := 2) rfl (inc1 a) (by decide) rfl (fun ls hl => ?_)
              refine lv_goto (tgt := 4) hx hb dX0_meetings_52 (by decide) ?_
              exact ih_4 (a + 1) _ _ (by omega) (by have h9 : j = n - 1 - a := (by omega); subst h9; rfl) rfl (by omega) ls (lv_sub hl [1, 0, 3, 4] rfl)
            · skip
              have q_23 := tN_nle n (a + 1 + j) c_23 rfl rfl (by omega) (by omega)
              refine lv_iload_n hx hb dX0_meetings_26 rfl (lv_at hl 0 rfl) ?_
              refine lv_aload_n hx hb dX0_meetings_27 rfl (lv_at hl 3 rfl) ?_
              refine lv_iload_n hx hb dX0_meetings_28 rfl (lv_at hl 2 rfl) ?_
              refine lv_aload_n hx hb dX0_meetings_29 rfl (lv_at hl 4 rfl) ?_
              refine lv_iload_n hx hb dX0_meetings_30 rfl (lv_at hl 2 rfl) ?_
              refine al_any (k := a) hx hb hW ha rfl (by omega) dX0_meetings_31 ?_
              refine lv_eqi (y := nI (L a)) (hL a (by omega)).1 ?_
              refine lv_iload hx hb dX0_meetings_32 (lv_at hl 1 rfl) ?_
              refine lv_aload_n hx hb dX0_meetings_34 rfl (lv_at hl 4 rfl) ?_
              refine lv_iload hx hb dX0_meetings_35 (lv_at hl 1 rfl) ?_
              refine al_any (k := a + 1 + j) hx hb hW ha rfl (by omega) dX0_meetings_37 ?_
              refine lv_eqi (y := nI (L (a + 1 + j))) (hL (a + 1 + j) (by omega)).1 ?_
              refine cr_i (q := 510) [.int (nI a), .int (nI (L a)), .int (nI (a + 1 + j)), .int (nI (L (a + 1 + j)))] hx hb hml hown hG v_X0_hoursTogether (by decide +kernel) (c_X0_hoursTogether l G σ h hh n S q V ch hg a (L a) (a + 1 + j) (L (a + 1 + j)) (by omega) (by omega) (hL a (by omega)).2 (hL (a + 1 + j) (by omega)).2) (preH hW hh _) rfl hl.1 (Nat.le_of_ble_eq_true rfl) dX0_meetings_38 ⟨rfl, rfl, Nat.le_of_ble_eq_true rfl, Nat.le_of_ble_eq_true rfl⟩ ⟨Nat.le_of_ble_eq_true rfl, Nat.le_of_ble_eq_true rfl⟩ ?_
              refine ln_add (ouN (meL S L) n a + inN (meL S L) a j) (meL S L a (a + 1 + j)) hx hb rfl rfl dX0_meetings_41 ?_
              refine lv_istore_n (lv' := [(2, .int (nI ((ouN (meL S L) n a + inN (meL S L) a j) + (meL S L a (a + 1 + j))))), (4, .int (nI (a + 1 + j))), (3, .int (nI a)), (0, .ref (ga G (5 * h + 4))), (1, .ref (ga G i))]) hx hb dX0_meetings_42 rfl hl (by decide) rfl (fun ls hl => ?_)
              refine lv_iinc (v := nI (a + 1 + j + 1)) (lv' := [(4, .int (nI (a + 1 + j + 1))), (2, .int (nI ((ouN (meL S L) n a + inN (meL S L) a j) + (meL S L a (a + 1 + j))))), (3, .int (nI a)), (0, .ref (ga G (5 * h + 4))), (1, .ref (ga G i))]) hx hb dX0_meetings_43 hl (k := 1) rfl (inc1 (a + 1 + j)) (by decide) rfl (fun ls hl => ?_)
              refine lv_goto (tgt := 17) hx hb dX0_meetings_46 (by decide) ?_
              exact ih_17 (j + 1) _ _ (by omega) (by rw [Nat.add_assoc]; rfl) rfl (by omega) ls (lv_sub hl [1, 0, 2, 3, 4] rfl)
        exact loop_17 _ 0 _ _ (Nat.lt_succ_self _) rfl rfl (by omega) ls (lv_sub hl [1, 0, 2, 3, 4] rfl)
  exact loop_4 _ 0 _ _ (Nat.lt_succ_self _) rfl rfl (by omega) ls (lv_sub hl [1, 0, 2, 3] rfl)
set_option maxHeartbeats 4000000 in
set_option maxRecDepth 100000 in
theorem c_X0_stepsOfAll (l : Launch) (G : Gam) (σ : St) (h : Nat) (hh : h < 2) (n : Nat) (S : Nat → Sk) (q : Nat) (V : Nat → Nat) (ch : Int32) (hg : GH σ h n S q V ch) : Met l yX0_stepsOfAll (w1 yX0_stepsOfAll cX0_stepsOfAll 3 (some .int)) ({ frames := 0, cells := 0, slots := 0, locals := 0 }) (PcX G σ [.ref (ga G (5 * h + 4))]) (vp_Si (fun r => r = nI (sumN (fun k => S k 3) n))) 0 0 (fun _ => False) := by
  refine met_of [.ref (ga G (5 * h + 4))] [(0, .ref (ga G (5 * h + 4)))] (by decide) (Nat.le_of_ble_eq_true rfl) rfl ?_
  intro p e s m below meth c hx hb hr hown hml hlocks hW ls hl
  have hG : GW s := hW.2.2.2.1
  have hn6 := hg.1.2
  have hq8 := hg.2.2.1.2
  refine lv_iconst (v := 0) hx hb dX0_stepsOfAll_0 (by decide) ?_
  refine lv_istore_n (lv' := [(1, .int 0), (0, .ref (ga G (5 * h + 4)))]) hx hb dX0_stepsOfAll_1 rfl hl (by decide) rfl (fun ls hl => ?_)
  refine lv_iconst (v := 0) hx hb dX0_stepsOfAll_2 (by decide) ?_
  refine lv_istore_n (lv' := [(2, .int 0), (1, .int 0), (0, .ref (ga G (5 * h + 4)))]) hx hb dX0_stepsOfAll_3 rfl hl (by decide) rfl (fun ls hl => ?_)
  have loop_4 : ∀ (N9 : Nat) (i : Nat) (tt : Int32) (io : Int32), n - i < N9 → tt = nI (sumN (fun k => S k 3) i) → io = nI i → i ≤ n → ∀ ls : Array Slot, lv_has ls 3 [(1, .int tt), (2, .int io), (0, .ref (ga G (5 * h + 4)))] → W p l e (headSpec (w1 yX0_stepsOfAll cX0_stepsOfAll 3 (some .int)) ({ frames := 0, cells := 0, slots := 0, locals := 0 })).room s m [.ref (ga G (5 * h + 4))].toArray below meth c s.heap [] 0 0 (MQ below (vp_Si (fun r => r = nI (sumN (fun k => S k 3) n))) [.ref (ga G (5 * h + 4))].toArray s 0 0 (fun _ => False)) (F0 m 4 ls []) := by
    intro N9
    induction N9 with
    | zero => intro i tt io hN; exact absurd hN (Nat.not_lt_zero _)
    | succ N9 ih =>
      intro i tt io hN e_tt e_io hi0_4 ls hl
      subst e_tt
      subst e_io
      have ih_4 := ih
      refine lv_iload_n hx hb dX0_stepsOfAll_4 rfl (lv_at hl 1 rfl) ?_
      refine lv_aload_n hx hb dX0_stepsOfAll_5 rfl (lv_at hl 2 rfl) ?_
      refine rd_X0_31 hx hb hown hW hh dX0_stepsOfAll_6 ?_
      refine lv_eqi (y := nI n) hg.1.1 ?_
      refine lv_icmp_ge (tgt := 30) hx hb dX0_stepsOfAll_9 (by decide) (fun c_9 => ?_) (fun c_9 => ?_)
      · skip
        have q_9 := tN_le n i c_9 rfl rfl (by omega) (by omega)
        refine lv_iload_n hx hb dX0_stepsOfAll_30 rfl (lv_at hl 0 rfl) ?_
        exact W.iret (v := nI (sumN (fun k => S k 3) i)) hx hb hr (fun t9 ht9 hW9 => ⟨_, rfl, (by have h9 : i = n := (by omega); subst h9; rfl), ht9⟩) (fun q h => by cases h) dX0_stepsOfAll_31
      · skip
        have q_9 := tN_nle n i c_9 rfl rfl (by omega) (by omega)
        refine lv_iload_n hx hb dX0_stepsOfAll_12 rfl (lv_at hl 0 rfl) ?_
        refine lv_aload_n hx hb dX0_stepsOfAll_13 rfl (lv_at hl 2 rfl) ?_
        refine rd_X0_11 hx hb hown hW hh dX0_stepsOfAll_14 ?_
        refine lv_iload_n hx hb dX0_stepsOfAll_17 rfl (lv_at hl 1 rfl) ?_
        refine al_sticks (k := i) hx hb hW hh rfl (by omega) dX0_stepsOfAll_18 ?_
        refine rd_X0_70 hx hb hown hW (by omega) dX0_stepsOfAll_19 ?_
        refine lv_eqi (y := nI (S i 3)) (hg.2.2.2.1 i (by omega)).2.1.2.2.1 ?_
        refine ln_add (sumN (fun k => S k 3) i) (S i 3) hx hb rfl rfl dX0_stepsOfAll_22 ?_
        refine lv_istore_n (lv' := [(1, .int (nI ((sumN (fun k => S k 3) i) + (S i 3)))), (2, .int (nI i)), (0, .ref (ga G (5 * h + 4)))]) hx hb dX0_stepsOfAll_23 rfl hl (by decide) rfl (fun ls hl => ?_)
        refine lv_iinc (v := nI (i + 1)) (lv' := [(2, .int (nI (i + 1))), (1, .int (nI ((sumN (fun k => S k 3) i) + (S i 3)))), (0, .ref (ga G (5 * h + 4)))]) hx hb dX0_stepsOfAll_24 hl (k := 1) rfl (inc1 i) (by decide) rfl (fun ls hl => ?_)
        refine lv_goto (tgt := 4) hx hb dX0_stepsOfAll_27 (by decide) ?_
        exact ih_4 (i + 1) _ _ (by omega) rfl rfl (by omega) ls (lv_sub hl [1, 0, 2] rfl)
  exact loop_4 _ 0 _ _ (Nat.lt_succ_self _) rfl rfl (by omega) ls (lv_sub hl [1, 0, 2] rfl)
set_option maxHeartbeats 4000000 in
set_option maxRecDepth 100000 in
theorem c_X0_placesSeenBy (l : Launch) (G : Gam) (σ : St) (h : Nat) (hh : h < 2) (n : Nat) (S : Nat → Sk) (q : Nat) (V : Nat → Nat) (ch : Int32) (hg : GH σ h n S q V ch) (g : Nat) (h6 : g < 64) : Met l yX0_placesSeenBy (w1 yX0_placesSeenBy cX0_placesSeenBy 4 (some .int)) ({ frames := 0, cells := 0, slots := 0, locals := 0 }) (PcX G σ [.ref (ga G (5 * h + 4)), .int (nI g)]) (vp_Si (fun r => r = nI (grN (fun i => orN (posN (S i)) 31) g n))) 0 0 (fun _ => False) := by
  refine met_of [.ref (ga G (5 * h + 4)), .int (nI g)] [(0, .ref (ga G (5 * h + 4))), (1, .int (nI g))] (by decide) (Nat.le_of_ble_eq_true rfl) rfl ?_
  intro p e s m below meth c hx hb hr hown hml hlocks hW ls hl
  have hG : GW s := hW.2.2.2.1
  have hn6 := hg.1.2
  have hq8 := hg.2.2.1.2
  refine lv_iconst (v := 0) hx hb dX0_placesSeenBy_0 (by decide) ?_
  refine lv_istore_n (lv' := [(2, .int 0), (0, .ref (ga G (5 * h + 4))), (1, .int (nI g))]) hx hb dX0_placesSeenBy_1 rfl hl (by decide) rfl (fun ls hl => ?_)
  refine lv_iconst (v := 0) hx hb dX0_placesSeenBy_2 (by decide) ?_
  refine lv_istore_n (lv' := [(3, .int 0), (2, .int 0), (0, .ref (ga G (5 * h + 4))), (1, .int (nI g))]) hx hb dX0_placesSeenBy_3 rfl hl (by decide) rfl (fun ls hl => ?_)
  have loop_4 : ∀ (N9 : Nat) (i : Nat) (tt : Int32) (io : Int32), n - i < N9 → tt = nI (grN (fun i => orN (posN (S i)) 31) g i) → io = nI i → i ≤ n → ∀ ls : Array Slot, lv_has ls 4 [(2, .int tt), (3, .int io), (0, .ref (ga G (5 * h + 4))), (1, .int (nI g))] → W p l e (headSpec (w1 yX0_placesSeenBy cX0_placesSeenBy 4 (some .int)) ({ frames := 0, cells := 0, slots := 0, locals := 0 })).room s m [.ref (ga G (5 * h + 4)), .int (nI g)].toArray below meth c s.heap [] 0 0 (MQ below (vp_Si (fun r => r = nI (grN (fun i => orN (posN (S i)) 31) g n))) [.ref (ga G (5 * h + 4)), .int (nI g)].toArray s 0 0 (fun _ => False)) (F0 m 4 ls []) := by
    intro N9
    induction N9 with
    | zero => intro i tt io hN; exact absurd hN (Nat.not_lt_zero _)
    | succ N9 ih =>
      intro i tt io hN e_tt e_io hi0_4 ls hl
      subst e_tt
      subst e_io
      have ih_4 := ih
      refine lv_iload_n hx hb dX0_placesSeenBy_4 rfl (lv_at hl 1 rfl) ?_
      refine lv_aload_n hx hb dX0_placesSeenBy_5 rfl (lv_at hl 2 rfl) ?_
      refine rd_X0_31 hx hb hown hW hh dX0_placesSeenBy_6 ?_
      refine lv_eqi (y := nI n) hg.1.1 ?_
      refine lv_icmp_ge (tgt := 39) hx hb dX0_placesSeenBy_9 (by decide) (fun c_9 => ?_) (fun c_9 => ?_)
      · skip
        have q_9 := tN_le n i c_9 rfl rfl (by omega) (by omega)
        refine lv_iload_n hx hb dX0_placesSeenBy_39 rfl (lv_at hl 0 rfl) ?_
        exact W.iret (v := nI (grN (fun i => orN (posN (S i)) 31) g i)) hx hb hr (fun t9 ht9 hW9 => ⟨_, rfl, (by have h9 : i = n := (by omega); subst h9; rfl), ht9⟩) (fun q h => by cases h) dX0_placesSeenBy_40
      · skip
        have q_9 := tN_nle n i c_9 rfl rfl (by omega) (by omega)
        refine lv_iload_n hx hb dX0_placesSeenBy_12 rfl (lv_at hl 3 rfl) ?_
        refine lv_iload_n hx hb dX0_placesSeenBy_13 rfl (lv_at hl 1 rfl) ?_
        refine lv_ishr hx hb dX0_placesSeenBy_14 ?_
        refine lv_iconst (v := 1) hx hb dX0_placesSeenBy_15 (by decide) ?_
        refine lv_iand hx hb dX0_placesSeenBy_16 ?_
        refine lv_eqi (y := nI (g / 2 ^ i % 2)) (bitT (by omega) (by omega)) ?_
        refine lv_iconst (v := 1) hx hb dX0_placesSeenBy_17 (by decide) ?_
        refine lv_icmp_ne (tgt := 33) hx hb dX0_placesSeenBy_18 (by decide) (fun c_18 => ?_) (fun c_18 => ?_)
        · skip
          have q_18 := tN_ne (g / 2 ^ i % 2) 1 c_18 rfl rfl (by omega) (by omega)
          refine lv_iinc (v := nI (i + 1)) (lv' := [(3, .int (nI (i + 1))), (2, .int (nI (grN (fun i => orN (posN (S i)) 31) g i))), (0, .ref (ga G (5 * h + 4))), (1, .int (nI g))]) hx hb dX0_placesSeenBy_33 hl (k := 1) rfl (inc1 i) (by decide) rfl (fun ls hl => ?_)
          refine lv_goto (tgt := 4) hx hb dX0_placesSeenBy_36 (by decide) ?_
          exact ih_4 (i + 1) _ _ (by omega) (by rw [grN]; first | rw [if_pos q_18] | rw [if_neg q_18]) rfl (by omega) ls (lv_sub hl [1, 0, 2, 3] rfl)
        · skip
          have q_18 := tN_eq (g / 2 ^ i % 2) 1 c_18 rfl rfl (by omega) (by omega)
          refine lv_iload_n hx hb dX0_placesSeenBy_21 rfl (lv_at hl 0 rfl) ?_
          refine lv_aload_n hx hb dX0_placesSeenBy_22 rfl (lv_at hl 2 rfl) ?_
          refine rd_X0_11 hx hb hown hW hh dX0_placesSeenBy_23 ?_
          refine lv_iload_n hx hb dX0_placesSeenBy_26 rfl (lv_at hl 1 rfl) ?_
          refine al_sticks (k := i) hx hb hW hh rfl (by omega) dX0_placesSeenBy_27 ?_
          refine rd_X0_94 hx hb hown hW (by omega) dX0_placesSeenBy_28 ?_
          refine lv_eqi (y := nI (orN (posN (S i)) 31)) (hg.2.2.2.1 i (by omega)).2.2.1.2 ?_
          refine lv_ior hx hb dX0_placesSeenBy_31 ?_
          refine lv_eqi (y := nI ((grN (fun i => orN (posN (S i)) 31) g i) ||| (orN (posN (S i)) 31))) (nI_or (grN (fun i => orN (posN (S i)) 31) g i) (orN (posN (S i)) 31)) ?_
          refine lv_istore_n (lv' := [(2, .int (nI ((grN (fun i => orN (posN (S i)) 31) g i) ||| (orN (posN (S i)) 31)))), (3, .int (nI i)), (0, .ref (ga G (5 * h + 4))), (1, .int (nI g))]) hx hb dX0_placesSeenBy_32 rfl hl (by decide) rfl (fun ls hl => ?_)
          refine lv_iinc (v := nI (i + 1)) (lv' := [(3, .int (nI (i + 1))), (2, .int (nI ((grN (fun i => orN (posN (S i)) 31) g i) ||| (orN (posN (S i)) 31)))), (0, .ref (ga G (5 * h + 4))), (1, .int (nI g))]) hx hb dX0_placesSeenBy_33 hl (k := 1) rfl (inc1 i) (by decide) rfl (fun ls hl => ?_)
          refine lv_goto (tgt := 4) hx hb dX0_placesSeenBy_36 (by decide) ?_
          exact ih_4 (i + 1) _ _ (by omega) (by rw [grN]; first | rw [if_pos q_18] | rw [if_neg q_18]) rfl (by omega) ls (lv_sub hl [1, 0, 2, 3] rfl)
  exact loop_4 _ 0 _ _ (Nat.lt_succ_self _) rfl rfl (by omega) ls (lv_sub hl [1, 0, 2, 3] rfl)
set_option maxHeartbeats 4000000 in
set_option maxRecDepth 100000 in
theorem c_X0_placesSeen (l : Launch) (G : Gam) (σ : St) (h : Nat) (hh : h < 2) (n : Nat) (S : Nat → Sk) (q : Nat) (V : Nat → Nat) (ch : Int32) (hg : GH σ h n S q V ch) : Met l yX0_placesSeen (w1 yX0_placesSeen cX0_placesSeen 1 (some .int)) ({ frames := 1, cells := 0, slots := 0, locals := 23 }) (PcX G σ [.ref (ga G (5 * h + 4))]) (vp_Si (fun r => r = nI (grN (fun i => orN (posN (S i)) 31) (2 ^ n - 1) n))) 0 0 (fun _ => False) := by
  refine met_of [.ref (ga G (5 * h + 4))] [(0, .ref (ga G (5 * h + 4)))] (by decide) (Nat.le_of_ble_eq_true rfl) rfl ?_
  intro p e s m below meth c hx hb hr hown hml hlocks hW ls hl
  have hG : GW s := hW.2.2.2.1
  have hn6 := hg.1.2
  have hq8 := hg.2.2.1.2
  have h2n : 2 ^ n ≤ 2 ^ 6 := Nat.pow_le_pow_right (by omega) hn6
  have h1n : 1 ≤ 2 ^ n := Nat.one_le_two_pow
  refine lv_aload_n hx hb dX0_placesSeen_0 rfl (lv_at hl 0 rfl) ?_
  refine lv_iconst (v := 1) hx hb dX0_placesSeen_1 (by decide) ?_
  refine lv_aload_n hx hb dX0_placesSeen_2 rfl (lv_at hl 0 rfl) ?_
  refine rd_X0_31 hx hb hown hW hh dX0_placesSeen_3 ?_
  refine lv_eqi (y := nI n) hg.1.1 ?_
  refine lv_ishl hx hb dX0_placesSeen_6 ?_
  refine lv_eqi (y := nI (2 ^ n)) (bitI n (by omega)) ?_
  refine lv_iconst (v := 1) hx hb dX0_placesSeen_7 (by decide) ?_
  refine ln_sub (2 ^ n) 1 hx hb rfl rfl (by omega) dX0_placesSeen_8 ?_
  refine cr_i (q := 433) [.int (nI ((2 ^ n) - 1))] hx hb hml hown hG v_X0_placesSeenBy (by decide +kernel) (c_X0_placesSeenBy l G σ h hh n S q V ch hg (2 ^ n - 1) (by omega)) (preH hW hh _) rfl hl.1 (Nat.le_of_ble_eq_true rfl) dX0_placesSeen_9 ⟨rfl, rfl, Nat.le_of_ble_eq_true rfl, Nat.le_of_ble_eq_true rfl⟩ ⟨Nat.le_of_ble_eq_true rfl, Nat.le_of_ble_eq_true rfl⟩ ?_
  exact W.iret (v := nI (grN (fun i => orN (posN (S i)) 31) (2 ^ n - 1) n)) hx hb hr (fun t9 ht9 hW9 => ⟨_, rfl, rfl, ht9⟩) (fun q h => by cases h) dX0_placesSeen_12
end
section
theorem onN_le (x : Nat) : ∀ k, onN x k ≤ k := by
  intro k
  induction k with
  | zero => exact Nat.le_refl _
  | succ k ih => unfold onN; omega
theorem popN_le (x : Nat) : popN x ≤ 16 := onN_le x 16
theorem nI_nm1 {b : Nat} (h : b < 2 ^ 31) : ¬ nI b = -1 := fun e => nI_pos h (by rw [e]; decide)
theorem cv_y {P : Nat → Nat} {n W g : Nat} {o : Option Nat} (ho : cvN P n W g = o) (h1 : btr g o = true) (h2 : W &&& grN P g n = W) : nI g = oI (cvN P n W (g + 1)) := by
  rw [cvN, ho, if_pos ⟨h1, h2⟩]; rfl
theorem cv_y0 {P : Nat → Nat} {n W g : Nat} (ho : cvN P n W g = none) (h2 : W &&& grN P g n = W) : nI g = oI (cvN P n W (g + 1)) := cv_y ho rfl h2
theorem cv_y1 {P : Nat → Nat} {n W g b : Nat} (ho : cvN P n W g = some b) (h1 : popN g < popN b) (h2 : W &&& grN P g n = W) : nI g = oI (cvN P n W (g + 1)) := cv_y ho (decide_eq_true h1) h2
theorem cv_n1 {P : Nat → Nat} {n W g : Nat} {o : Option Nat} (ho : cvN P n W g = o) (h1 : btr g o = false) : oI o = oI (cvN P n W (g + 1)) := by
  rw [cvN, ho, if_neg (fun z => by rw [h1] at z; exact absurd z.1 (by decide))]
theorem cv_n2 {P : Nat → Nat} {n W g : Nat} {o : Option Nat} (ho : cvN P n W g = o) (h2 : ¬ W &&& grN P g n = W) : oI o = oI (cvN P n W (g + 1)) := by
  rw [cvN, ho, if_neg (fun z => h2 z.2)]
theorem cv_n3 {P : Nat → Nat} {n W g b : Nat} (ho : cvN P n W g = some b) (h1 : popN b ≤ popN g) : nI b = oI (cvN P n W (g + 1)) := cv_n1 ho (decide_eq_false (Nat.not_lt.mpr h1))
theorem cv_n4 {P : Nat → Nat} {n W g : Nat} (ho : cvN P n W g = none) (h2 : ¬ W &&& grN P g n = W) : (-1 : Int32) = oI (cvN P n W (g + 1)) := cv_n2 ho h2
theorem cv_n5 {P : Nat → Nat} {n W g b : Nat} (ho : cvN P n W g = some b) (h2 : ¬ W &&& grN P g n = W) : nI b = oI (cvN P n W (g + 1)) := cv_n2 ho h2
theorem wh_y {ok : Nat → Bool} {i : Nat} (h : ok i = true) : whN ok i ||| 2 ^ i = whN ok (i + 1) := by rw [whN, if_pos h]
theorem wh_n {ok : Nat → Bool} {i : Nat} (h : ok i = false) : whN ok i = whN ok (i + 1) := by rw [whN, if_neg (by rw [h]; decide)]
theorem tg_y {C : Nat} {f : Nat → Nat} {k i : Nat} (h1 : C / 2 ^ i % 2 = 1) (h2 : f i = f k) : tgN C f k i + 1 = tgN C f k (i + 1) := by rw [tgN, if_pos ⟨h1, h2⟩]
theorem tg_n1 {C : Nat} {f : Nat → Nat} {k i : Nat} (h1 : C / 2 ^ i % 2 ≠ 1) : tgN C f k i = tgN C f k (i + 1) := by rw [tgN, if_neg (fun z => h1 z.1)]; rfl
theorem tg_n2 {C : Nat} {f : Nat → Nat} {k i : Nat} (h2 : f i ≠ f k) : tgN C f k i = tgN C f k (i + 1) := by rw [tgN, if_neg (fun z => h2 z.2)]; rfl
theorem ml_y {C : Nat} {f : Nat → Nat} {n i : Nat} (h1 : C / 2 ^ i % 2 = 1) : max (mlN C f n i) (tgN C f i n) = mlN C f n (i + 1) := by rw [mlN, if_pos h1]
theorem ml_n {C : Nat} {f : Nat → Nat} {n i : Nat} (h1 : C / 2 ^ i % 2 ≠ 1) : mlN C f n i = mlN C f n (i + 1) := by rw [mlN, if_neg h1]
theorem lk_y {w : Nat → Nat} {t : Nat} (h : w (t + 1) < (lkN w t).2) : lkN w (t + 1) = (t + 1, w (t + 1)) := by rw [lkN, if_pos h]
theorem lk_n {w : Nat → Nat} {t : Nat} (h : (lkN w t).2 ≤ w (t + 1)) : lkN w (t + 1) = lkN w t := by rw [lkN, if_neg (by omega)]
theorem lk_le {w : Nat → Nat} {n : Nat} (h : ∀ t, w t ≤ n) : ∀ t, (lkN w t).2 ≤ n := by
  intro t
  induction t with
  | zero => exact h 0
  | succ t ih =>
    unfold lkN
    split
    · exact h _
    · exact ih
theorem p2_64 {n : Nat} (h : n ≤ 6) : 2 ^ n ≤ 64 := (Nat.pow_le_pow_right (by omega) h : 2 ^ n ≤ 2 ^ 6)
set_option maxHeartbeats 4000000 in
set_option maxRecDepth 100000 in
theorem c_X0_fewestSeeing (l : Launch) (G : Gam) (σ : St) (h : Nat) (hh : h < 2) (n : Nat) (S : Nat → Sk) (q : Nat) (V : Nat → Nat) (ch : Int32) (hg : GH σ h n S q V ch) (wd : Nat) (hw6 : wd < 65536) : Met l yX0_fewestSeeing (w1 yX0_fewestSeeing cX0_fewestSeeing 5 (some .int)) ({ frames := 1, cells := 0, slots := 0, locals := 23 }) (PcX G σ [.ref (ga G (5 * h + 4)), .int (nI wd)]) (vp_Si (fun r => r = oI (cvN (fun i => orN (posN (S i)) 31) n wd (2 ^ n)))) 0 0 (fun _ => False) := by
  refine met_of [.ref (ga G (5 * h + 4)), .int (nI wd)] [(0, .ref (ga G (5 * h + 4))), (1, .int (nI wd))] (by decide) (Nat.le_of_ble_eq_true rfl) rfl ?_
  intro p e s m below meth c hx hb hr hown hml hlocks hW ls hl
  have hG : GW s := hW.2.2.2.1
  have hn6 := hg.1.2
  have hq8 := hg.2.2.1.2
  have h2n := p2_64 hn6
  refine lv_iconst (v := (-1)) hx hb dX0_fewestSeeing_0 (by decide) ?_
  refine lv_istore_n (lv' := [(2, .int ((-1))), (0, .ref (ga G (5 * h + 4))), (1, .int (nI wd))]) hx hb dX0_fewestSeeing_1 rfl hl (by decide) rfl (fun ls hl => ?_)
  refine lv_iconst (v := 0) hx hb dX0_fewestSeeing_2 (by decide) ?_
  refine lv_istore_n (lv' := [(3, .int 0), (2, .int ((-1))), (0, .ref (ga G (5 * h + 4))), (1, .int (nI wd))]) hx hb dX0_fewestSeeing_3 rfl hl (by decide) rfl (fun ls hl => ?_)
  have loop_4 : ∀ (N9 : Nat) (g : Nat) (be : Int32) (go : Int32), 2 ^ n - g < N9 → be = oI (cvN (fun i => orN (posN (S i)) 31) n wd g) → go = nI g → g ≤ 2 ^ n → ∀ ls : Array Slot, lv_has ls 5 [(2, .int be), (3, .int go), (0, .ref (ga G (5 * h + 4))), (1, .int (nI wd))] → W p l e (headSpec (w1 yX0_fewestSeeing cX0_fewestSeeing 5 (some .int)) ({ frames := 1, cells := 0, slots := 0, locals := 23 })).room s m [.ref (ga G (5 * h + 4)), .int (nI wd)].toArray below meth c s.heap [] 0 0 (MQ below (vp_Si (fun r => r = oI (cvN (fun i => orN (posN (S i)) 31) n wd (2 ^ n)))) [.ref (ga G (5 * h + 4)), .int (nI wd)].toArray s 0 0 (fun _ => False)) (F0 m 4 ls []) := by
    intro N9
    induction N9 with
    | zero => intro g be go hN; exact absurd hN (Nat.not_lt_zero _)
    | succ N9 ih =>
      intro g be go hN e_be e_go hi0_4 ls hl
      subst e_be
      subst e_go
      have ih_4 := ih
      refine lv_iload_n hx hb dX0_fewestSeeing_4 rfl (lv_at hl 1 rfl) ?_
      refine lv_iconst (v := 1) hx hb dX0_fewestSeeing_5 (by decide) ?_
      refine lv_aload_n hx hb dX0_fewestSeeing_6 rfl (lv_at hl 2 rfl) ?_
      refine rd_X0_31 hx hb hown hW hh dX0_fewestSeeing_7 ?_
      refine lv_eqi (y := nI n) hg.1.1 ?_
      refine lv_ishl hx hb dX0_fewestSeeing_10 ?_
      refine lv_eqi (y := nI (2 ^ n)) (bitI n (by omega)) ?_
      refine lv_icmp_ge (tgt := 62) hx hb dX0_fewestSeeing_11 (by decide) (fun c_11 => ?_) (fun c_11 => ?_)
      · skip
        have q_11 := tN_le (2 ^ n) g c_11 rfl rfl (by omega) (by omega)
        refine lv_iload_n hx hb dX0_fewestSeeing_62 rfl (lv_at hl 0 rfl) ?_
        exact W.iret (v := oI (cvN (fun i => orN (posN (S i)) 31) n wd g)) hx hb hr (fun t9 ht9 hW9 => ⟨_, rfl, (by have h9 : g = 2 ^ n := (by omega); rw [h9]), ht9⟩) (fun q h => by cases h) dX0_fewestSeeing_63
      · skip
        have q_11 := tN_nle (2 ^ n) g c_11 rfl rfl (by omega) (by omega)
        rcases ho : cvN (fun i => orN (posN (S i)) 31) n wd g with _ | b
        · skip
          rw [ho] at hl
          have hl : lv_has ls 5 [(2, .int ((-1))), (3, .int (nI g)), (0, .ref (ga G (5 * h + 4))), (1, .int (nI wd))] := hl
          refine lv_iload_n hx hb dX0_fewestSeeing_14 rfl (lv_at hl 0 rfl) ?_
          refine lv_iconst (v := (-1)) hx hb dX0_fewestSeeing_15 (by decide) ?_
          refine lv_icmp_eq (tgt := 30) hx hb dX0_fewestSeeing_16 (by decide) (fun c_16 => ?_) (fun c_16 => ?_)
          · skip
            refine lv_iconst (v := 1) hx hb dX0_fewestSeeing_30 (by decide) ?_
            refine lv_goto (tgt := 35) hx hb dX0_fewestSeeing_31 (by decide) ?_
            refine lv_istore (lv' := [(4, .int 1), (2, .int ((-1))), (3, .int (nI g)), (0, .ref (ga G (5 * h + 4))), (1, .int (nI wd))]) hx hb dX0_fewestSeeing_35 hl (by decide) rfl (fun ls hl => ?_)
            refine lv_iload hx hb dX0_fewestSeeing_37 (lv_at hl 0 rfl) ?_
            refine lv_if_eq (tgt := 56) hx hb dX0_fewestSeeing_39 (by decide) (fun c_39 => ?_) (fun c_39 => ?_)
            · skip
              exact absurd c_39 (by decide)
            · skip
              refine lv_iload_n hx hb dX0_fewestSeeing_42 rfl (lv_at hl 4 rfl) ?_
              refine lv_aload_n hx hb dX0_fewestSeeing_43 rfl (lv_at hl 3 rfl) ?_
              refine lv_iload_n hx hb dX0_fewestSeeing_44 rfl (lv_at hl 2 rfl) ?_
              refine cr_i (q := 433) [.int (nI g)] hx hb hml hown hG v_X0_placesSeenBy (by decide +kernel) (c_X0_placesSeenBy l G σ h hh n S q V ch hg g (by omega)) (preH hW hh _) rfl hl.1 (Nat.le_of_ble_eq_true rfl) dX0_fewestSeeing_45 ⟨rfl, rfl, Nat.le_of_ble_eq_true rfl, Nat.le_of_ble_eq_true rfl⟩ ⟨Nat.le_of_ble_eq_true rfl, Nat.le_of_ble_eq_true rfl⟩ ?_
              refine lv_iconst (v := (-1)) hx hb dX0_fewestSeeing_48 (by decide) ?_
              refine lv_ixor hx hb dX0_fewestSeeing_49 ?_
              refine lv_iand hx hb dX0_fewestSeeing_50 ?_
              refine lv_if_ne (tgt := 56) hx hb dX0_fewestSeeing_51 (by decide) (fun c_51 => ?_) (fun c_51 => ?_)
              · skip
                have k_51 : ¬ wd &&& grN (fun i => orN (posN (S i)) 31) g n = wd := fun z => c_51 ((nI_xm _ _ (by omega)).mpr z)
                refine lv_iinc (v := nI (g + 1)) (lv' := [(3, .int (nI (g + 1))), (4, .int 1), (2, .int ((-1))), (0, .ref (ga G (5 * h + 4))), (1, .int (nI wd))]) hx hb dX0_fewestSeeing_56 hl (k := 2) rfl (inc1 g) (by decide) rfl (fun ls hl => ?_)
                refine lv_goto (tgt := 4) hx hb dX0_fewestSeeing_59 (by decide) ?_
                exact ih_4 (g + 1) _ _ (by omega) (cv_n4 ho k_51) rfl (by omega) ls (lv_sub hl [2, 0, 3, 4] rfl)
              · skip
                have k_51 := (nI_xm wd (grN (fun i => orN (posN (S i)) 31) g n) (by omega)).mp c_51
                refine lv_iload_n hx hb dX0_fewestSeeing_54 rfl (lv_at hl 2 rfl) ?_
                refine lv_istore_n (lv' := [(2, .int (nI g)), (4, .int 1), (3, .int (nI g)), (0, .ref (ga G (5 * h + 4))), (1, .int (nI wd))]) hx hb dX0_fewestSeeing_55 rfl hl (by decide) rfl (fun ls hl => ?_)
                refine lv_iinc (v := nI (g + 1)) (lv' := [(3, .int (nI (g + 1))), (2, .int (nI g)), (4, .int 1), (0, .ref (ga G (5 * h + 4))), (1, .int (nI wd))]) hx hb dX0_fewestSeeing_56 hl (k := 2) rfl (inc1 g) (by decide) rfl (fun ls hl => ?_)
                refine lv_goto (tgt := 4) hx hb dX0_fewestSeeing_59 (by decide) ?_
                exact ih_4 (g + 1) _ _ (by omega) (cv_y0 ho k_51) rfl (by omega) ls (lv_sub hl [1, 0, 3, 4] rfl)
          · skip
            exact absurd (by decide) c_16
        · skip
          rw [ho] at hl
          have hbg := cvN_lt ho
          have hpb := popN_le b
          have hpg := popN_le g
          have hl : lv_has ls 5 [(2, .int (nI b)), (3, .int (nI g)), (0, .ref (ga G (5 * h + 4))), (1, .int (nI wd))] := hl
          refine lv_iload_n hx hb dX0_fewestSeeing_14 rfl (lv_at hl 0 rfl) ?_
          refine lv_iconst (v := (-1)) hx hb dX0_fewestSeeing_15 (by decide) ?_
          refine lv_icmp_eq (tgt := 30) hx hb dX0_fewestSeeing_16 (by decide) (fun c_16 => ?_) (fun c_16 => ?_)
          · skip
            exact absurd c_16 (nI_nm1 (by omega))
          · skip
            refine lv_iload_n hx hb dX0_fewestSeeing_19 rfl (lv_at hl 1 rfl) ?_
            refine cs_i (q := 432) [.int (nI g)] hx hb hml hown hG v_J6_bitCount_0f7a4 (by decide +kernel) (c_J6_bitCount l g (by omega)) (preG hG _) rfl hl.1 (Nat.le_of_ble_eq_true rfl) dX0_fewestSeeing_20 ⟨rfl, rfl, Nat.le_of_ble_eq_true rfl, Nat.le_of_ble_eq_true rfl⟩ ⟨Nat.le_of_ble_eq_true rfl, Nat.le_of_ble_eq_true rfl⟩ ?_
            refine lv_iload_n hx hb dX0_fewestSeeing_23 rfl (lv_at hl 0 rfl) ?_
            refine cs_i (q := 432) [.int (nI b)] hx hb hml hown hG v_J6_bitCount_0f7a4 (by decide +kernel) (c_J6_bitCount l b (by omega)) (preG hG _) rfl hl.1 (Nat.le_of_ble_eq_true rfl) dX0_fewestSeeing_24 ⟨rfl, rfl, Nat.le_of_ble_eq_true rfl, Nat.le_of_ble_eq_true rfl⟩ ⟨Nat.le_of_ble_eq_true rfl, Nat.le_of_ble_eq_true rfl⟩ ?_
            refine lv_icmp_ge (tgt := 34) hx hb dX0_fewestSeeing_27 (by decide) (fun c_27 => ?_) (fun c_27 => ?_)
            · skip
              have q_27 := tN_le (popN b) (popN g) c_27 rfl rfl (by omega) (by omega)
              refine lv_iconst (v := 0) hx hb dX0_fewestSeeing_34 (by decide) ?_
              refine lv_istore (lv' := [(4, .int 0), (2, .int (nI b)), (3, .int (nI g)), (0, .ref (ga G (5 * h + 4))), (1, .int (nI wd))]) hx hb dX0_fewestSeeing_35 hl (by decide) rfl (fun ls hl => ?_)
              refine lv_iload hx hb dX0_fewestSeeing_37 (lv_at hl 0 rfl) ?_
              refine lv_if_eq (tgt := 56) hx hb dX0_fewestSeeing_39 (by decide) (fun c_39 => ?_) (fun c_39 => ?_)
              · skip
                refine lv_iinc (v := nI (g + 1)) (lv' := [(3, .int (nI (g + 1))), (4, .int 0), (2, .int (nI b)), (0, .ref (ga G (5 * h + 4))), (1, .int (nI wd))]) hx hb dX0_fewestSeeing_56 hl (k := 2) rfl (inc1 g) (by decide) rfl (fun ls hl => ?_)
                refine lv_goto (tgt := 4) hx hb dX0_fewestSeeing_59 (by decide) ?_
                exact ih_4 (g + 1) _ _ (by omega) (cv_n3 ho q_27) rfl (by omega) ls (lv_sub hl [2, 0, 3, 4] rfl)
              · skip
                exact absurd (by decide) c_39
            · skip
              have q_27 := tN_nle (popN b) (popN g) c_27 rfl rfl (by omega) (by omega)
              refine lv_iconst (v := 1) hx hb dX0_fewestSeeing_30 (by decide) ?_
              refine lv_goto (tgt := 35) hx hb dX0_fewestSeeing_31 (by decide) ?_
              refine lv_istore (lv' := [(4, .int 1), (2, .int (nI b)), (3, .int (nI g)), (0, .ref (ga G (5 * h + 4))), (1, .int (nI wd))]) hx hb dX0_fewestSeeing_35 hl (by decide) rfl (fun ls hl => ?_)
              refine lv_iload hx hb dX0_fewestSeeing_37 (lv_at hl 0 rfl) ?_
              refine lv_if_eq (tgt := 56) hx hb dX0_fewestSeeing_39 (by decide) (fun c_39 => ?_) (fun c_39 => ?_)
              · skip
                exact absurd c_39 (by decide)
              · skip
                refine lv_iload_n hx hb dX0_fewestSeeing_42 rfl (lv_at hl 4 rfl) ?_
                refine lv_aload_n hx hb dX0_fewestSeeing_43 rfl (lv_at hl 3 rfl) ?_
                refine lv_iload_n hx hb dX0_fewestSeeing_44 rfl (lv_at hl 2 rfl) ?_
                refine cr_i (q := 433) [.int (nI g)] hx hb hml hown hG v_X0_placesSeenBy (by decide +kernel) (c_X0_placesSeenBy l G σ h hh n S q V ch hg g (by omega)) (preH hW hh _) rfl hl.1 (Nat.le_of_ble_eq_true rfl) dX0_fewestSeeing_45 ⟨rfl, rfl, Nat.le_of_ble_eq_true rfl, Nat.le_of_ble_eq_true rfl⟩ ⟨Nat.le_of_ble_eq_true rfl, Nat.le_of_ble_eq_true rfl⟩ ?_
                refine lv_iconst (v := (-1)) hx hb dX0_fewestSeeing_48 (by decide) ?_
                refine lv_ixor hx hb dX0_fewestSeeing_49 ?_
                refine lv_iand hx hb dX0_fewestSeeing_50 ?_
                refine lv_if_ne (tgt := 56) hx hb dX0_fewestSeeing_51 (by decide) (fun c_51 => ?_) (fun c_51 => ?_)
                · skip
                  have k_51 : ¬ wd &&& grN (fun i => orN (posN (S i)) 31) g n = wd := fun z => c_51 ((nI_xm _ _ (by omega)).mpr z)
                  refine lv_iinc (v := nI (g + 1)) (lv' := [(3, .int (nI (g + 1))), (4, .int 1), (2, .int (nI b)), (0, .ref (ga G (5 * h + 4))), (1, .int (nI wd))]) hx hb dX0_fewestSeeing_56 hl (k := 2) rfl (inc1 g) (by decide) rfl (fun ls hl => ?_)
                  refine lv_goto (tgt := 4) hx hb dX0_fewestSeeing_59 (by decide) ?_
                  exact ih_4 (g + 1) _ _ (by omega) (cv_n5 ho k_51) rfl (by omega) ls (lv_sub hl [2, 0, 3, 4] rfl)
                · skip
                  have k_51 := (nI_xm wd (grN (fun i => orN (posN (S i)) 31) g n) (by omega)).mp c_51
                  refine lv_iload_n hx hb dX0_fewestSeeing_54 rfl (lv_at hl 2 rfl) ?_
                  refine lv_istore_n (lv' := [(2, .int (nI g)), (4, .int 1), (3, .int (nI g)), (0, .ref (ga G (5 * h + 4))), (1, .int (nI wd))]) hx hb dX0_fewestSeeing_55 rfl hl (by decide) rfl (fun ls hl => ?_)
                  refine lv_iinc (v := nI (g + 1)) (lv' := [(3, .int (nI (g + 1))), (2, .int (nI g)), (4, .int 1), (0, .ref (ga G (5 * h + 4))), (1, .int (nI wd))]) hx hb dX0_fewestSeeing_56 hl (k := 2) rfl (inc1 g) (by decide) rfl (fun ls hl => ?_)
                  refine lv_goto (tgt := 4) hx hb dX0_fewestSeeing_59 (by decide) ?_
                  exact ih_4 (g + 1) _ _ (by omega) (cv_y1 ho q_27 k_51) rfl (by omega) ls (lv_sub hl [1, 0, 3, 4] rfl)
  exact loop_4 _ 0 _ _ (Nat.lt_succ_self _) rfl rfl (Nat.zero_le _) ls (lv_sub hl [1, 0, 2, 3] rfl)
set_option maxHeartbeats 4000000 in
set_option maxRecDepth 100000 in
theorem c_X0_firstCatch (l : Launch) (G : Gam) (σ : St) (h : Nat) (hh : h < 2) (n : Nat) (S : Nat → Sk) (q : Nat) (V : Nat → Nat) (ch : Int32) (hg : GH σ h n S q V ch) (P k : Nat) (hP : P < 16) (hk : k < n) : Met l yX0_firstCatch (w1 yX0_firstCatch cX0_firstCatch 4 (some .int)) ({ frames := 2, cells := 0, slots := 0, locals := 45 }) (PcX G σ [.ref (ga G (5 * h + 4)), .int (nI P), .int (nI k)]) (vp_Si (fun r => r = nI (catN (atN (S k)) P))) 0 0 (fun _ => False) := by
  refine met_of [.ref (ga G (5 * h + 4)), .int (nI P), .int (nI k)] [(0, .ref (ga G (5 * h + 4))), (1, .int (nI P)), (2, .int (nI k))] (by decide) (Nat.le_of_ble_eq_true rfl) rfl ?_
  intro p e s m below meth c hx hb hr hown hml hlocks hW ls hl
  have hG : GW s := hW.2.2.2.1
  have hn6 := hg.1.2
  have hq8 := hg.2.2.1.2
  refine lv_iconst (v := 0) hx hb dX0_firstCatch_0 (by decide) ?_
  refine lv_istore_n (lv' := [(3, .int 0), (0, .ref (ga G (5 * h + 4))), (1, .int (nI P)), (2, .int (nI k))]) hx hb dX0_firstCatch_1 rfl hl (by decide) rfl (fun ls hl => ?_)
  have loop_2 : ∀ (N9 : Nat) (t : Nat) (to : Int32), 31 - t < N9 → to = nI t → t ≤ 6 → catF (atN (S k)) P (6 - t) t = catN (atN (S k)) P → ∀ ls : Array Slot, lv_has ls 4 [(3, .int to), (0, .ref (ga G (5 * h + 4))), (1, .int (nI P)), (2, .int (nI k))] → W p l e (headSpec (w1 yX0_firstCatch cX0_firstCatch 4 (some .int)) ({ frames := 2, cells := 0, slots := 0, locals := 45 })).room s m [.ref (ga G (5 * h + 4)), .int (nI P), .int (nI k)].toArray below meth c s.heap [] 0 0 (MQ below (vp_Si (fun r => r = nI (catN (atN (S k)) P))) [.ref (ga G (5 * h + 4)), .int (nI P), .int (nI k)].toArray s 0 0 (fun _ => False)) (F0 m 2 ls []) := by
    intro N9
    induction N9 with
    | zero => intro t to hN; exact absurd hN (Nat.not_lt_zero _)
    | succ N9 ih =>
      intro t to hN e_to hi0_2 hi1_2 ls hl
      subst e_to
      have ih_2 := ih
      have hpl := posN_lt (hg.2.2.2.1 k hk).1 (t - S k 2)
      have hf6 := far6 P hP _ hpl
      refine lv_iload_n hx hb dX0_firstCatch_2 rfl (lv_at hl 0 rfl) ?_
      refine lv_bipush (v := 30) hx hb dX0_firstCatch_3 (by decide) ?_
      refine lv_icmp_gt (tgt := 30) hx hb dX0_firstCatch_5 (by decide) (fun c_5 => ?_) (fun c_5 => ?_)
      · skip
        exact absurd (tN_lt 30 t c_5 rfl rfl (by omega) (by omega)) (by omega)
      · skip
        have q_5 := tN_nlt 30 t c_5 rfl rfl (by omega) (by omega)
        refine lv_iload_n hx hb dX0_firstCatch_8 rfl (lv_at hl 2 rfl) ?_
        refine lv_aload_n hx hb dX0_firstCatch_9 rfl (lv_at hl 1 rfl) ?_
        refine lv_iload_n hx hb dX0_firstCatch_10 rfl (lv_at hl 3 rfl) ?_
        refine lv_iload_n hx hb dX0_firstCatch_11 rfl (lv_at hl 0 rfl) ?_
        refine cr_i (q := 446) [.int (nI k), .int (nI t)] hx hb hml hown hG v_X0_placeAt (by decide +kernel) (c_X0_placeAt l G σ h hh n S q V ch hg k t hk (by omega)) (preH hW hh _) rfl hl.1 (Nat.le_of_ble_eq_true rfl) dX0_firstCatch_12 ⟨rfl, rfl, Nat.le_of_ble_eq_true rfl, Nat.le_of_ble_eq_true rfl⟩ ⟨Nat.le_of_ble_eq_true rfl, Nat.le_of_ble_eq_true rfl⟩ ?_
        refine cn_i [.int (nI P), .int (nI (posN (S k) (t - S k 2)))] hx hb hml hown hG v_X3_stepsBetween (hW.2.2.2.2.use 15 rfl) (c_X3_stepsBetween l P (posN (S k) (t - S k 2)) hP hpl) (preG hG _) rfl hl.1 (Nat.le_of_ble_eq_true rfl) dX0_firstCatch_15 ⟨rfl, rfl, Nat.le_of_ble_eq_true rfl, Nat.le_of_ble_eq_true rfl⟩ ⟨Nat.le_of_ble_eq_true rfl, Nat.le_of_ble_eq_true rfl⟩ ?_
        refine lv_iload_n hx hb dX0_firstCatch_18 rfl (lv_at hl 0 rfl) ?_
        refine lv_icmp_gt (tgt := 24) hx hb dX0_firstCatch_19 (by decide) (fun c_19 => ?_) (fun c_19 => ?_)
        · skip
          have q_19 := tN_lt t (farN P (posN (S k) (t - S k 2))) c_19 rfl rfl (by omega) (by omega)
          refine lv_iinc (v := nI (t + 1)) (lv' := [(3, .int (nI (t + 1))), (0, .ref (ga G (5 * h + 4))), (1, .int (nI P)), (2, .int (nI k))]) hx hb dX0_firstCatch_24 hl (k := 0) rfl (inc1 t) (by decide) rfl (fun ls hl => ?_)
          refine lv_goto (tgt := 2) hx hb dX0_firstCatch_27 (by decide) ?_
          exact ih_2 (t + 1) _ (by omega) rfl (cat_go hi1_2 hi0_2 hf6 q_19).1 (cat_go hi1_2 hi0_2 hf6 q_19).2 ls (lv_sub hl [0, 1, 2, 3] rfl)
        · skip
          have q_19 := tN_nlt t (farN P (posN (S k) (t - S k 2))) c_19 rfl rfl (by omega) (by omega)
          refine lv_iload_n hx hb dX0_firstCatch_22 rfl (lv_at hl 0 rfl) ?_
          exact W.iret (v := nI t) hx hb hr (fun t9 ht9 hW9 => ⟨_, rfl, (congrArg nI (cat_ret hi1_2 hi0_2 q_19).symm), ht9⟩) (fun q h => by cases h) dX0_firstCatch_23
  exact loop_2 _ 0 _ (Nat.lt_succ_self _) rfl (by omega) rfl ls (lv_sub hl [0, 1, 2, 3] rfl)
set_option maxHeartbeats 4000000 in
set_option maxRecDepth 100000 in
theorem c_X0_noteSeen (l : Launch) (G : Gam) (σ : St) (h : Nat) (hh : h < 2) (n : Nat) (S : Nat → Sk) (q : Nat) (V : Nat → Nat) (ch : Int32) (hg : GH σ h n S q V ch) (x y : Nat) : Met l yX0_noteSeen (w1 yX0_noteSeen cX0_noteSeen 3 (some .boolean)) ({ frames := 0, cells := 0, slots := 0, locals := 0 }) (PcX G σ [.ref (ga G (5 * h + 4)), .int (nI x), .int (nI y)]) (QiX G (fun r σ9 => (q < 8 → r = 1 ∧ σ9 = up2 (up2 (up2 σ (5 * h + 7) q (nI x)) (5 * h + 8) q (nI y)) (5 * h + 4) 6 (nI (q + 1))) ∧ (¬ q < 8 → r = 0 ∧ σ9 = σ))) 0 0 (aX G) := by
  refine met_of [.ref (ga G (5 * h + 4)), .int (nI x), .int (nI y)] [(0, .ref (ga G (5 * h + 4))), (1, .int (nI x)), (2, .int (nI y))] (by decide) (Nat.le_of_ble_eq_true rfl) rfl ?_
  intro p e s m below meth c hx hb hr hown hml hlocks hW ls hl
  have hG : GW s := hW.2.2.2.1
  have hS : va_S (aX G) s.heap s.heap [] := va_S.rf
  have hn6 := hg.1.2
  have hq8 := hg.2.2.1.2
  refine lv_aload_n hx hb dX0_noteSeen_0 rfl (lv_at hl 0 rfl) ?_
  refine rd_X0_38 hx hb hown hW hh dX0_noteSeen_1 ?_
  refine lv_eqi (y := nI q) hg.2.2.1.1 ?_
  refine lv_bipush (v := 8) hx hb dX0_noteSeen_4 (by decide) ?_
  refine lv_icmp_lt (tgt := 11) hx hb dX0_noteSeen_6 (by decide) (fun c_6 => ?_) (fun c_6 => ?_)
  · skip
    have q_6 := tN_lt q 8 c_6 rfl rfl (by omega) (by omega)
    refine lv_aload_n hx hb dX0_noteSeen_11 rfl (lv_at hl 0 rfl) ?_
    refine rd_X0_22 hx hb hown hW hh dX0_noteSeen_12 ?_
    refine lv_aload_n hx hb dX0_noteSeen_15 rfl (lv_at hl 0 rfl) ?_
    refine rd_X0_38 hx hb hown hW hh dX0_noteSeen_16 ?_
    refine lv_eqi (y := nI q) hg.2.2.1.1 ?_
    refine lv_iload_n hx hb dX0_noteSeen_19 rfl (lv_at hl 1 rfl) ?_
    refine as_seenP (k := q) hx hb hW hS hh rfl (by omega) dX0_noteSeen_20 (fun H locs hW hS => ?_)
    obtain ⟨σ1, hσ1⟩ : ∃ z, z = up2 σ (5 * h + 7) q (nI x) := ⟨_, rfl⟩
    rw [← hσ1] at hW
    refine lv_aload_n hx hb dX0_noteSeen_21 rfl (lv_at hl 0 rfl) ?_
    refine rd_X0_25 hx hb hown hW hh dX0_noteSeen_22 ?_
    refine lv_aload_n hx hb dX0_noteSeen_25 rfl (lv_at hl 0 rfl) ?_
    refine rd_X0_38 hx hb hown hW hh dX0_noteSeen_26 ?_
    refine lv_eqi (y := nI q) (by subst hσ1; rw [up2_nr (by omega)]; exact hg.2.2.1.1) ?_
    refine lv_iload_n hx hb dX0_noteSeen_29 rfl (lv_at hl 2 rfl) ?_
    refine as_seenH (k := q) hx hb hW hS hh rfl (by omega) dX0_noteSeen_30 (fun H locs hW hS => ?_)
    obtain ⟨σ2, hσ2⟩ : ∃ z, z = up2 σ1 (5 * h + 8) q (nI y) := ⟨_, rfl⟩
    rw [← hσ2] at hW
    refine lv_aload_n hx hb dX0_noteSeen_31 rfl (lv_at hl 0 rfl) ?_
    refine lv_dup hx hb dX0_noteSeen_32 rfl ?_
    refine rd_X0_38 hx hb hown hW hh dX0_noteSeen_33 ?_
    refine lv_eqi (y := nI q) (by subst hσ2; subst hσ1; rw [up2_nr (by omega), up2_nr (by omega)]; exact hg.2.2.1.1) ?_
    refine lv_iconst (v := 1) hx hb dX0_noteSeen_36 (by decide) ?_
    refine ln_add q 1 hx hb rfl rfl dX0_noteSeen_37 ?_
    refine wr_X0_38 hx hb hown hW hS hh dX0_noteSeen_38 (fun H locs hW hS => ?_)
    obtain ⟨σ3, hσ3⟩ : ∃ z, z = up2 σ2 (5 * h + 4) 6 (nI (q + 1)) := ⟨_, rfl⟩
    rw [← hσ3] at hW
    refine lv_iconst (v := 1) hx hb dX0_noteSeen_41 (by decide) ?_
    exact W.zret (v := 1) (ty := .boolean) hx hb hr rfl (fun t9 ht9 hW9 => ⟨⟨_, σ3, rfl, ⟨fun _ => ⟨rfl, by subst hσ3; subst hσ2; subst hσ1; rfl⟩, fun z => absurd q_6 z⟩, (by have h8 := hW.1; rw [← ht9] at h8; exact h8)⟩, hS.F ht9⟩) hS.2.2 dX0_noteSeen_42
  · skip
    have q_6 := tN_nlt q 8 c_6 rfl rfl (by omega) (by omega)
    refine lv_iconst (v := 0) hx hb dX0_noteSeen_9 (by decide) ?_
    exact W.zret (v := 0) (ty := .boolean) hx hb hr rfl (fun t9 ht9 hW9 => ⟨⟨_, σ, rfl, ⟨fun z => absurd z (by omega), fun _ => ⟨rfl, rfl⟩⟩, (by have h8 := hW.1; rw [← ht9] at h8; exact h8)⟩, hS.F ht9⟩) hS.2.2 dX0_noteSeen_10
set_option maxHeartbeats 4000000 in
set_option maxRecDepth 100000 in
theorem c_X0_wasWhereSeen (l : Launch) (G : Gam) (σ : St) (h : Nat) (hh : h < 2) (n : Nat) (S : Nat → Sk) (q : Nat) (V : Nat → Nat) (ch : Int32) (hg : GH σ h n S q V ch) (k : Nat) (hk : k < n) : Met l yX0_wasWhereSeen (w1 yX0_wasWhereSeen cX0_wasWhereSeen 3 (some .boolean)) ({ frames := 2, cells := 0, slots := 0, locals := 45 }) (PcX G σ [.ref (ga G (5 * h + 4)), .int (nI k)]) (vp_Si (fun r => r = bI (okN (atN (S k)) V q))) 0 0 (fun _ => False) := by
  refine met_of [.ref (ga G (5 * h + 4)), .int (nI k)] [(0, .ref (ga G (5 * h + 4))), (1, .int (nI k))] (by decide) (Nat.le_of_ble_eq_true rfl) rfl ?_
  intro p e s m below meth c hx hb hr hown hml hlocks hW ls hl
  have hG : GW s := hW.2.2.2.1
  have hn6 := hg.1.2
  have hq8 := hg.2.2.1.2
  refine lv_iconst (v := 0) hx hb dX0_wasWhereSeen_0 (by decide) ?_
  refine lv_istore_n (lv' := [(2, .int 0), (0, .ref (ga G (5 * h + 4))), (1, .int (nI k))]) hx hb dX0_wasWhereSeen_1 rfl hl (by decide) rfl (fun ls hl => ?_)
  have loop_2 : ∀ (N9 : Nat) (i : Nat) (io : Int32), q - i < N9 → io = nI i → i ≤ q → okN (atN (S k)) V i = true → ∀ ls : Array Slot, lv_has ls 3 [(2, .int io), (0, .ref (ga G (5 * h + 4))), (1, .int (nI k))] → W p l e (headSpec (w1 yX0_wasWhereSeen cX0_wasWhereSeen 3 (some .boolean)) ({ frames := 2, cells := 0, slots := 0, locals := 45 })).room s m [.ref (ga G (5 * h + 4)), .int (nI k)].toArray below meth c s.heap [] 0 0 (MQ below (vp_Si (fun r => r = bI (okN (atN (S k)) V q))) [.ref (ga G (5 * h + 4)), .int (nI k)].toArray s 0 0 (fun _ => False)) (F0 m 2 ls []) := by
    intro N9
    induction N9 with
    | zero => intro i io hN; exact absurd hN (Nat.not_lt_zero _)
    | succ N9 ih =>
      intro i io hN e_io hi0_2 hi1_2 ls hl
      subst e_io
      have ih_2 := ih
      refine lv_iload_n hx hb dX0_wasWhereSeen_2 rfl (lv_at hl 0 rfl) ?_
      refine lv_aload_n hx hb dX0_wasWhereSeen_3 rfl (lv_at hl 1 rfl) ?_
      refine rd_X0_38 hx hb hown hW hh dX0_wasWhereSeen_4 ?_
      refine lv_eqi (y := nI q) hg.2.2.1.1 ?_
      refine lv_icmp_ge (tgt := 38) hx hb dX0_wasWhereSeen_7 (by decide) (fun c_7 => ?_) (fun c_7 => ?_)
      · skip
        have q_7 := tN_le q i c_7 rfl rfl (by omega) (by omega)
        refine lv_iconst (v := 1) hx hb dX0_wasWhereSeen_38 (by decide) ?_
        exact W.zret (v := 1) (ty := .boolean) hx hb hr rfl (fun t9 ht9 hW9 => ⟨_, rfl, (by have h9 : i = q := (by omega); rw [← h9, hi1_2]; rfl), ht9⟩) (fun q h => by cases h) dX0_wasWhereSeen_39
      · skip
        have q_7 := tN_nle q i c_7 rfl rfl (by omega) (by omega)
        have hVi := hg.2.2.2.2 i (by omega)
        have hV1 := hVi.2.2.1
        have hV2 := hVi.2.2.2
        have hpl := posN_lt (hg.2.2.2.1 k hk).1 (V (2 * i + 1) - S k 2)
        refine lv_aload_n hx hb dX0_wasWhereSeen_10 rfl (lv_at hl 1 rfl) ?_
        refine lv_iload_n hx hb dX0_wasWhereSeen_11 rfl (lv_at hl 2 rfl) ?_
        refine lv_aload_n hx hb dX0_wasWhereSeen_12 rfl (lv_at hl 1 rfl) ?_
        refine rd_X0_25 hx hb hown hW hh dX0_wasWhereSeen_13 ?_
        refine lv_iload_n hx hb dX0_wasWhereSeen_16 rfl (lv_at hl 0 rfl) ?_
        refine al_seenH (k := i) hx hb hW hh rfl (by omega) dX0_wasWhereSeen_17 ?_
        refine lv_eqi (y := nI (V (2 * i + 1))) (hg.2.2.2.2 i (by omega)).2.1 ?_
        refine cr_i (q := 446) [.int (nI k), .int (nI (V (2 * i + 1)))] hx hb hml hown hG v_X0_placeAt (by decide +kernel) (c_X0_placeAt l G σ h hh n S q V ch hg k (V (2 * i + 1)) hk hV2) (preH hW hh _) rfl hl.1 (Nat.le_of_ble_eq_true rfl) dX0_wasWhereSeen_18 ⟨rfl, rfl, Nat.le_of_ble_eq_true rfl, Nat.le_of_ble_eq_true rfl⟩ ⟨Nat.le_of_ble_eq_true rfl, Nat.le_of_ble_eq_true rfl⟩ ?_
        refine lv_aload_n hx hb dX0_wasWhereSeen_21 rfl (lv_at hl 1 rfl) ?_
        refine rd_X0_22 hx hb hown hW hh dX0_wasWhereSeen_22 ?_
        refine lv_iload_n hx hb dX0_wasWhereSeen_25 rfl (lv_at hl 0 rfl) ?_
        refine al_seenP (k := i) hx hb hW hh rfl (by omega) dX0_wasWhereSeen_26 ?_
        refine lv_eqi (y := nI (V (2 * i))) (hg.2.2.2.2 i (by omega)).1 ?_
        refine lv_icmp_eq (tgt := 32) hx hb dX0_wasWhereSeen_27 (by decide) (fun c_27 => ?_) (fun c_27 => ?_)
        · skip
          have q_27 := tN_eq (posN (S k) (V (2 * i + 1) - S k 2)) (V (2 * i)) c_27 rfl rfl (by omega) (by omega)
          refine lv_iinc (v := nI (i + 1)) (lv' := [(2, .int (nI (i + 1))), (0, .ref (ga G (5 * h + 4))), (1, .int (nI k))]) hx hb dX0_wasWhereSeen_32 hl (k := 0) rfl (inc1 i) (by decide) rfl (fun ls hl => ?_)
          refine lv_goto (tgt := 2) hx hb dX0_wasWhereSeen_35 (by decide) ?_
          exact ih_2 (i + 1) _ (by omega) rfl (by omega) (okN_t hi1_2 q_27) ls (lv_sub hl [0, 1, 2] rfl)
        · skip
          have q_27 := tN_ne (posN (S k) (V (2 * i + 1) - S k 2)) (V (2 * i)) c_27 rfl rfl (by omega) (by omega)
          refine lv_iconst (v := 0) hx hb dX0_wasWhereSeen_30 (by decide) ?_
          exact W.zret (v := 0) (ty := .boolean) hx hb hr rfl (fun t9 ht9 hW9 => ⟨_, rfl, (by rw [okN_f (f := atN (S k)) (V := V) (i := i) q_27 (by omega)]; rfl), ht9⟩) (fun q h => by cases h) dX0_wasWhereSeen_31
  exact loop_2 _ 0 _ (Nat.lt_succ_self _) rfl (by omega) rfl ls (lv_sub hl [0, 1, 2] rfl)
set_option maxHeartbeats 4000000 in
set_option maxRecDepth 100000 in
theorem c_X0_possible (l : Launch) (G : Gam) (σ : St) (h : Nat) (hh : h < 2) (n : Nat) (S : Nat → Sk) (q : Nat) (V : Nat → Nat) (ch : Int32) (hg : GH σ h n S q V ch) : Met l yX0_possible (w1 yX0_possible cX0_possible 3 (some .int)) ({ frames := 3, cells := 0, slots := 0, locals := 67 }) (PcX G σ [.ref (ga G (5 * h + 4))]) (vp_Si (fun r => r = nI (whN (fun i => okN (atN (S i)) V q) n))) 0 0 (fun _ => False) := by
  refine met_of [.ref (ga G (5 * h + 4))] [(0, .ref (ga G (5 * h + 4)))] (by decide) (Nat.le_of_ble_eq_true rfl) rfl ?_
  intro p e s m below meth c hx hb hr hown hml hlocks hW ls hl
  have hG : GW s := hW.2.2.2.1
  have hn6 := hg.1.2
  have hq8 := hg.2.2.1.2
  refine lv_iconst (v := 0) hx hb dX0_possible_0 (by decide) ?_
  refine lv_istore_n (lv' := [(1, .int 0), (0, .ref (ga G (5 * h + 4)))]) hx hb dX0_possible_1 rfl hl (by decide) rfl (fun ls hl => ?_)
  refine lv_iconst (v := 0) hx hb dX0_possible_2 (by decide) ?_
  refine lv_istore_n (lv' := [(2, .int 0), (1, .int 0), (0, .ref (ga G (5 * h + 4)))]) hx hb dX0_possible_3 rfl hl (by decide) rfl (fun ls hl => ?_)
  have loop_4 : ∀ (N9 : Nat) (i : Nat) (bb : Int32) (io : Int32), n - i < N9 → bb = nI (whN (fun i => okN (atN (S i)) V q) i) → io = nI i → i ≤ n → ∀ ls : Array Slot, lv_has ls 3 [(1, .int bb), (2, .int io), (0, .ref (ga G (5 * h + 4)))] → W p l e (headSpec (w1 yX0_possible cX0_possible 3 (some .int)) ({ frames := 3, cells := 0, slots := 0, locals := 67 })).room s m [.ref (ga G (5 * h + 4))].toArray below meth c s.heap [] 0 0 (MQ below (vp_Si (fun r => r = nI (whN (fun i => okN (atN (S i)) V q) n))) [.ref (ga G (5 * h + 4))].toArray s 0 0 (fun _ => False)) (F0 m 4 ls []) := by
    intro N9
    induction N9 with
    | zero => intro i bb io hN; exact absurd hN (Nat.not_lt_zero _)
    | succ N9 ih =>
      intro i bb io hN e_bb e_io hi0_4 ls hl
      subst e_bb
      subst e_io
      have ih_4 := ih
      refine lv_iload_n hx hb dX0_possible_4 rfl (lv_at hl 1 rfl) ?_
      refine lv_aload_n hx hb dX0_possible_5 rfl (lv_at hl 2 rfl) ?_
      refine rd_X0_31 hx hb hown hW hh dX0_possible_6 ?_
      refine lv_eqi (y := nI n) hg.1.1 ?_
      refine lv_icmp_ge (tgt := 32) hx hb dX0_possible_9 (by decide) (fun c_9 => ?_) (fun c_9 => ?_)
      · skip
        have q_9 := tN_le n i c_9 rfl rfl (by omega) (by omega)
        refine lv_iload_n hx hb dX0_possible_32 rfl (lv_at hl 0 rfl) ?_
        exact W.iret (v := nI (whN (fun i => okN (atN (S i)) V q) i)) hx hb hr (fun t9 ht9 hW9 => ⟨_, rfl, (by have h9 : i = n := (by omega); subst h9; rfl), ht9⟩) (fun q h => by cases h) dX0_possible_33
      · skip
        have q_9 := tN_nle n i c_9 rfl rfl (by omega) (by omega)
        refine lv_aload_n hx hb dX0_possible_12 rfl (lv_at hl 2 rfl) ?_
        refine lv_iload_n hx hb dX0_possible_13 rfl (lv_at hl 1 rfl) ?_
        refine cr_i (q := 473) [.int (nI i)] hx hb hml hown hG v_X0_wasWhereSeen (by decide +kernel) (c_X0_wasWhereSeen l G σ h hh n S q V ch hg i (by omega)) (preH hW hh _) rfl hl.1 (Nat.le_of_ble_eq_true rfl) dX0_possible_14 ⟨rfl, rfl, Nat.le_of_ble_eq_true rfl, Nat.le_of_ble_eq_true rfl⟩ ⟨Nat.le_of_ble_eq_true rfl, Nat.le_of_ble_eq_true rfl⟩ ?_
        refine lv_if_eq (tgt := 26) hx hb dX0_possible_17 (by decide) (fun c_17 => ?_) (fun c_17 => ?_)
        · skip
          have b_17 := bI_0 c_17
          refine lv_iinc (v := nI (i + 1)) (lv' := [(2, .int (nI (i + 1))), (1, .int (nI (whN (fun i => okN (atN (S i)) V q) i))), (0, .ref (ga G (5 * h + 4)))]) hx hb dX0_possible_26 hl (k := 1) rfl (inc1 i) (by decide) rfl (fun ls hl => ?_)
          refine lv_goto (tgt := 4) hx hb dX0_possible_29 (by decide) ?_
          exact ih_4 (i + 1) _ _ (by omega) (by first | exact congrArg nI (wh_y b_17) | exact congrArg nI (wh_n b_17)) rfl (by omega) ls (lv_sub hl [1, 0, 2] rfl)
        · skip
          have b_17 := bI_1 c_17
          refine lv_iload_n hx hb dX0_possible_20 rfl (lv_at hl 0 rfl) ?_
          refine lv_iconst (v := 1) hx hb dX0_possible_21 (by decide) ?_
          refine lv_iload_n hx hb dX0_possible_22 rfl (lv_at hl 1 rfl) ?_
          refine lv_ishl hx hb dX0_possible_23 ?_
          refine lv_eqi (y := nI (2 ^ i)) (bitI i (by omega)) ?_
          refine lv_ior hx hb dX0_possible_24 ?_
          refine lv_eqi (y := nI ((whN (fun i => okN (atN (S i)) V q) i) ||| (2 ^ i))) (nI_or (whN (fun i => okN (atN (S i)) V q) i) (2 ^ i)) ?_
          refine lv_istore_n (lv' := [(1, .int (nI ((whN (fun i => okN (atN (S i)) V q) i) ||| (2 ^ i)))), (2, .int (nI i)), (0, .ref (ga G (5 * h + 4)))]) hx hb dX0_possible_25 rfl hl (by decide) rfl (fun ls hl => ?_)
          refine lv_iinc (v := nI (i + 1)) (lv' := [(2, .int (nI (i + 1))), (1, .int (nI ((whN (fun i => okN (atN (S i)) V q) i) ||| (2 ^ i)))), (0, .ref (ga G (5 * h + 4)))]) hx hb dX0_possible_26 hl (k := 1) rfl (inc1 i) (by decide) rfl (fun ls hl => ?_)
          refine lv_goto (tgt := 4) hx hb dX0_possible_29 (by decide) ?_
          exact ih_4 (i + 1) _ _ (by omega) (by first | exact congrArg nI (wh_y b_17) | exact congrArg nI (wh_n b_17)) rfl (by omega) ls (lv_sub hl [1, 0, 2] rfl)
  exact loop_4 _ 0 _ _ (Nat.lt_succ_self _) rfl rfl (by omega) ls (lv_sub hl [1, 0, 2] rfl)
set_option maxHeartbeats 4000000 in
set_option maxRecDepth 100000 in
theorem c_X0_togetherWith (l : Launch) (G : Gam) (σ : St) (h : Nat) (hh : h < 2) (n : Nat) (S : Nat → Sk) (q : Nat) (V : Nat → Nat) (ch : Int32) (hg : GH σ h n S q V ch) (k C t : Nat) (hk : k < n) (h6 : C < 64) (ht : t ≤ 30) : Met l yX0_togetherWith (w1 yX0_togetherWith cX0_togetherWith 7 (some .int)) ({ frames := 2, cells := 0, slots := 0, locals := 45 }) (PcX G σ [.ref (ga G (5 * h + 4)), .int (nI k), .int (nI C), .int (nI t)]) (vp_Si (fun r => r = nI (tgN C (fun i => atN (S i) t) k n))) 0 0 (fun _ => False) := by
  refine met_of [.ref (ga G (5 * h + 4)), .int (nI k), .int (nI C), .int (nI t)] [(0, .ref (ga G (5 * h + 4))), (1, .int (nI k)), (2, .int (nI C)), (3, .int (nI t))] (by decide) (Nat.le_of_ble_eq_true rfl) rfl ?_
  intro p e s m below meth c hx hb hr hown hml hlocks hW ls hl
  have hG : GW s := hW.2.2.2.1
  have hn6 := hg.1.2
  have hq8 := hg.2.2.1.2
  refine lv_iconst (v := 0) hx hb dX0_togetherWith_0 (by decide) ?_
  refine lv_istore (lv' := [(4, .int 0), (0, .ref (ga G (5 * h + 4))), (1, .int (nI k)), (2, .int (nI C)), (3, .int (nI t))]) hx hb dX0_togetherWith_1 hl (by decide) rfl (fun ls hl => ?_)
  refine lv_iconst (v := 0) hx hb dX0_togetherWith_3 (by decide) ?_
  refine lv_istore (lv' := [(5, .int 0), (4, .int 0), (0, .ref (ga G (5 * h + 4))), (1, .int (nI k)), (2, .int (nI C)), (3, .int (nI t))]) hx hb dX0_togetherWith_4 hl (by decide) rfl (fun ls hl => ?_)
  have loop_6 : ∀ (N9 : Nat) (i : Nat) (tt : Int32) (io : Int32), n - i < N9 → tt = nI (tgN C (fun i => atN (S i) t) k i) → io = nI i → i ≤ n → ∀ ls : Array Slot, lv_has ls 7 [(4, .int tt), (5, .int io), (0, .ref (ga G (5 * h + 4))), (1, .int (nI k)), (2, .int (nI C)), (3, .int (nI t))] → W p l e (headSpec (w1 yX0_togetherWith cX0_togetherWith 7 (some .int)) ({ frames := 2, cells := 0, slots := 0, locals := 45 })).room s m [.ref (ga G (5 * h + 4)), .int (nI k), .int (nI C), .int (nI t)].toArray below meth c s.heap [] 0 0 (MQ below (vp_Si (fun r => r = nI (tgN C (fun i => atN (S i) t) k n))) [.ref (ga G (5 * h + 4)), .int (nI k), .int (nI C), .int (nI t)].toArray s 0 0 (fun _ => False)) (F0 m 6 ls []) := by
    intro N9
    induction N9 with
    | zero => intro i tt io hN; exact absurd hN (Nat.not_lt_zero _)
    | succ N9 ih =>
      intro i tt io hN e_tt e_io hi0_6 ls hl
      subst e_tt
      subst e_io
      have ih_6 := ih
      refine lv_iload hx hb dX0_togetherWith_6 (lv_at hl 1 rfl) ?_
      refine lv_aload_n hx hb dX0_togetherWith_8 rfl (lv_at hl 2 rfl) ?_
      refine rd_X0_31 hx hb hown hW hh dX0_togetherWith_9 ?_
      refine lv_eqi (y := nI n) hg.1.1 ?_
      refine lv_icmp_ge (tgt := 62) hx hb dX0_togetherWith_12 (by decide) (fun c_12 => ?_) (fun c_12 => ?_)
      · skip
        have q_12 := tN_le n i c_12 rfl rfl (by omega) (by omega)
        refine lv_iload hx hb dX0_togetherWith_62 (lv_at hl 0 rfl) ?_
        exact W.iret (v := nI (tgN C (fun i => atN (S i) t) k i)) hx hb hr (fun t9 ht9 hW9 => ⟨_, rfl, (by have h9 : i = n := (by omega); rw [← h9]), ht9⟩) (fun q h => by cases h) dX0_togetherWith_64
      · skip
        have q_12 := tN_nle n i c_12 rfl rfl (by omega) (by omega)
        refine lv_iload_n hx hb dX0_togetherWith_15 rfl (lv_at hl 4 rfl) ?_
        refine lv_iload hx hb dX0_togetherWith_16 (lv_at hl 1 rfl) ?_
        refine lv_ishr hx hb dX0_togetherWith_18 ?_
        refine lv_iconst (v := 1) hx hb dX0_togetherWith_19 (by decide) ?_
        refine lv_iand hx hb dX0_togetherWith_20 ?_
        refine lv_eqi (y := nI (C / 2 ^ i % 2)) (bitT (by omega) (by omega)) ?_
        refine lv_iconst (v := 1) hx hb dX0_togetherWith_21 (by decide) ?_
        refine lv_icmp_ne (tgt := 29) hx hb dX0_togetherWith_22 (by decide) (fun c_22 => ?_) (fun c_22 => ?_)
        · skip
          have q_22 := tN_ne (C / 2 ^ i % 2) 1 c_22 rfl rfl (by omega) (by omega)
          refine lv_iconst (v := 0) hx hb dX0_togetherWith_29 (by decide) ?_
          refine lv_istore (lv' := [(6, .int 0), (4, .int (nI (tgN C (fun i => atN (S i) t) k i))), (5, .int (nI i)), (0, .ref (ga G (5 * h + 4))), (1, .int (nI k)), (2, .int (nI C)), (3, .int (nI t))]) hx hb dX0_togetherWith_30 hl (by decide) rfl (fun ls hl => ?_)
          refine lv_iload hx hb dX0_togetherWith_32 (lv_at hl 0 rfl) ?_
          refine lv_if_eq (tgt := 56) hx hb dX0_togetherWith_34 (by decide) (fun c_34 => ?_) (fun c_34 => ?_)
          · skip
            refine lv_iinc (v := nI (i + 1)) (lv' := [(5, .int (nI (i + 1))), (6, .int 0), (4, .int (nI (tgN C (fun i => atN (S i) t) k i))), (0, .ref (ga G (5 * h + 4))), (1, .int (nI k)), (2, .int (nI C)), (3, .int (nI t))]) hx hb dX0_togetherWith_56 hl (k := 2) rfl (inc1 i) (by decide) rfl (fun ls hl => ?_)
            refine lv_goto (tgt := 6) hx hb dX0_togetherWith_59 (by decide) ?_
            exact ih_6 (i + 1) _ _ (by omega) (by first | exact congrArg nI (tg_y q_22 q_50) | exact congrArg nI (tg_n2 q_50) | exact congrArg nI (tg_n1 q_22)) rfl (by omega) ls (lv_sub hl [2, 0, 3, 4, 5, 6] rfl)
          · skip
            exact absurd (by decide) c_34
        · skip
          have q_22 := tN_eq (C / 2 ^ i % 2) 1 c_22 rfl rfl (by omega) (by omega)
          refine lv_iconst (v := 1) hx hb dX0_togetherWith_25 (by decide) ?_
          refine lv_goto (tgt := 30) hx hb dX0_togetherWith_26 (by decide) ?_
          refine lv_istore (lv' := [(6, .int 1), (4, .int (nI (tgN C (fun i => atN (S i) t) k i))), (5, .int (nI i)), (0, .ref (ga G (5 * h + 4))), (1, .int (nI k)), (2, .int (nI C)), (3, .int (nI t))]) hx hb dX0_togetherWith_30 hl (by decide) rfl (fun ls hl => ?_)
          refine lv_iload hx hb dX0_togetherWith_32 (lv_at hl 0 rfl) ?_
          refine lv_if_eq (tgt := 56) hx hb dX0_togetherWith_34 (by decide) (fun c_34 => ?_) (fun c_34 => ?_)
          · skip
            exact absurd c_34 (by decide)
          · skip
            refine lv_aload_n hx hb dX0_togetherWith_37 rfl (lv_at hl 3 rfl) ?_
            refine lv_iload hx hb dX0_togetherWith_38 (lv_at hl 2 rfl) ?_
            refine lv_iload_n hx hb dX0_togetherWith_40 rfl (lv_at hl 6 rfl) ?_
            refine cr_i (q := 446) [.int (nI i), .int (nI t)] hx hb hml hown hG v_X0_placeAt (by decide +kernel) (c_X0_placeAt l G σ h hh n S q V ch hg i t (by omega) ht) (preH hW hh _) rfl hl.1 (Nat.le_of_ble_eq_true rfl) dX0_togetherWith_41 ⟨rfl, rfl, Nat.le_of_ble_eq_true rfl, Nat.le_of_ble_eq_true rfl⟩ ⟨Nat.le_of_ble_eq_true rfl, Nat.le_of_ble_eq_true rfl⟩ ?_
            refine lv_aload_n hx hb dX0_togetherWith_44 rfl (lv_at hl 3 rfl) ?_
            refine lv_iload_n hx hb dX0_togetherWith_45 rfl (lv_at hl 4 rfl) ?_
            refine lv_iload_n hx hb dX0_togetherWith_46 rfl (lv_at hl 6 rfl) ?_
            refine cr_i (q := 446) [.int (nI k), .int (nI t)] hx hb hml hown hG v_X0_placeAt (by decide +kernel) (c_X0_placeAt l G σ h hh n S q V ch hg k t hk ht) (preH hW hh _) rfl hl.1 (Nat.le_of_ble_eq_true rfl) dX0_togetherWith_47 ⟨rfl, rfl, Nat.le_of_ble_eq_true rfl, Nat.le_of_ble_eq_true rfl⟩ ⟨Nat.le_of_ble_eq_true rfl, Nat.le_of_ble_eq_true rfl⟩ ?_
            refine lv_icmp_ne (tgt := 56) hx hb dX0_togetherWith_50 (by decide) (fun c_50 => ?_) (fun c_50 => ?_)
            · skip
              have q_50 := tN_ne (posN (S i) (t - S i 2)) (posN (S k) (t - S k 2)) c_50 rfl rfl (by have := posN_lt (hg.2.2.2.1 i (by omega)).1 (t - S i 2); omega) (by have := posN_lt (hg.2.2.2.1 k hk).1 (t - S k 2); omega)
              refine lv_iinc (v := nI (i + 1)) (lv' := [(5, .int (nI (i + 1))), (6, .int 1), (4, .int (nI (tgN C (fun i => atN (S i) t) k i))), (0, .ref (ga G (5 * h + 4))), (1, .int (nI k)), (2, .int (nI C)), (3, .int (nI t))]) hx hb dX0_togetherWith_56 hl (k := 2) rfl (inc1 i) (by decide) rfl (fun ls hl => ?_)
              refine lv_goto (tgt := 6) hx hb dX0_togetherWith_59 (by decide) ?_
              exact ih_6 (i + 1) _ _ (by omega) (by first | exact congrArg nI (tg_y q_22 q_50) | exact congrArg nI (tg_n2 q_50) | exact congrArg nI (tg_n1 q_22)) rfl (by omega) ls (lv_sub hl [2, 0, 3, 4, 5, 6] rfl)
            · skip
              have q_50 := tN_eq (posN (S i) (t - S i 2)) (posN (S k) (t - S k 2)) c_50 rfl rfl (by have := posN_lt (hg.2.2.2.1 i (by omega)).1 (t - S i 2); omega) (by have := posN_lt (hg.2.2.2.1 k hk).1 (t - S k 2); omega)
              refine lv_iinc (v := nI (tgN C (fun i => atN (S i) t) k i + 1)) (lv' := [(4, .int (nI (tgN C (fun i => atN (S i) t) k i + 1))), (6, .int 1), (5, .int (nI i)), (0, .ref (ga G (5 * h + 4))), (1, .int (nI k)), (2, .int (nI C)), (3, .int (nI t))]) hx hb dX0_togetherWith_53 hl (k := 1) rfl (inc1 (tgN C (fun i => atN (S i) t) k i)) (by decide) rfl (fun ls hl => ?_)
              refine lv_iinc (v := nI (i + 1)) (lv' := [(5, .int (nI (i + 1))), (4, .int (nI (tgN C (fun i => atN (S i) t) k i + 1))), (6, .int 1), (0, .ref (ga G (5 * h + 4))), (1, .int (nI k)), (2, .int (nI C)), (3, .int (nI t))]) hx hb dX0_togetherWith_56 hl (k := 2) rfl (inc1 i) (by decide) rfl (fun ls hl => ?_)
              refine lv_goto (tgt := 6) hx hb dX0_togetherWith_59 (by decide) ?_
              exact ih_6 (i + 1) _ _ (by omega) (by first | exact congrArg nI (tg_y q_22 q_50) | exact congrArg nI (tg_n2 q_50) | exact congrArg nI (tg_n1 q_22)) rfl (by omega) ls (lv_sub hl [1, 0, 3, 4, 5, 6] rfl)
  exact loop_6 _ 0 _ _ (Nat.lt_succ_self _) rfl rfl (by omega) ls (lv_sub hl [1, 0, 2, 3, 4, 5] rfl)
set_option maxHeartbeats 4000000 in
set_option maxRecDepth 100000 in
theorem c_X0_mostLeft (l : Launch) (G : Gam) (σ : St) (h : Nat) (hh : h < 2) (n : Nat) (S : Nat → Sk) (q : Nat) (V : Nat → Nat) (ch : Int32) (hg : GH σ h n S q V ch) (C t : Nat) (h6 : C < 64) (ht : t ≤ 30) : Met l yX0_mostLeft (w1 yX0_mostLeft cX0_mostLeft 5 (some .int)) ({ frames := 3, cells := 0, slots := 0, locals := 71 }) (PcX G σ [.ref (ga G (5 * h + 4)), .int (nI C), .int (nI t)]) (vp_Si (fun r => r = nI (mlN C (fun i => atN (S i) t) n n))) 0 0 (fun _ => False) := by
  refine met_of [.ref (ga G (5 * h + 4)), .int (nI C), .int (nI t)] [(0, .ref (ga G (5 * h + 4))), (1, .int (nI C)), (2, .int (nI t))] (by decide) (Nat.le_of_ble_eq_true rfl) rfl ?_
  intro p e s m below meth c hx hb hr hown hml hlocks hW ls hl
  have hG : GW s := hW.2.2.2.1
  have hn6 := hg.1.2
  have hq8 := hg.2.2.1.2
  refine lv_iconst (v := 0) hx hb dX0_mostLeft_0 (by decide) ?_
  refine lv_istore_n (lv' := [(3, .int 0), (0, .ref (ga G (5 * h + 4))), (1, .int (nI C)), (2, .int (nI t))]) hx hb dX0_mostLeft_1 rfl hl (by decide) rfl (fun ls hl => ?_)
  refine lv_iconst (v := 0) hx hb dX0_mostLeft_2 (by decide) ?_
  refine lv_istore (lv' := [(4, .int 0), (3, .int 0), (0, .ref (ga G (5 * h + 4))), (1, .int (nI C)), (2, .int (nI t))]) hx hb dX0_mostLeft_3 hl (by decide) rfl (fun ls hl => ?_)
  have loop_5 : ∀ (N9 : Nat) (i : Nat) (mm : Int32) (io : Int32), n - i < N9 → mm = nI (mlN C (fun i => atN (S i) t) n i) → io = nI i → i ≤ n → ∀ ls : Array Slot, lv_has ls 5 [(3, .int mm), (4, .int io), (0, .ref (ga G (5 * h + 4))), (1, .int (nI C)), (2, .int (nI t))] → W p l e (headSpec (w1 yX0_mostLeft cX0_mostLeft 5 (some .int)) ({ frames := 3, cells := 0, slots := 0, locals := 71 })).room s m [.ref (ga G (5 * h + 4)), .int (nI C), .int (nI t)].toArray below meth c s.heap [] 0 0 (MQ below (vp_Si (fun r => r = nI (mlN C (fun i => atN (S i) t) n n))) [.ref (ga G (5 * h + 4)), .int (nI C), .int (nI t)].toArray s 0 0 (fun _ => False)) (F0 m 5 ls []) := by
    intro N9
    induction N9 with
    | zero => intro i mm io hN; exact absurd hN (Nat.not_lt_zero _)
    | succ N9 ih =>
      intro i mm io hN e_mm e_io hi0_5 ls hl
      subst e_mm
      subst e_io
      have ih_5 := ih
      refine lv_iload hx hb dX0_mostLeft_5 (lv_at hl 1 rfl) ?_
      refine lv_aload_n hx hb dX0_mostLeft_7 rfl (lv_at hl 2 rfl) ?_
      refine rd_X0_31 hx hb hown hW hh dX0_mostLeft_8 ?_
      refine lv_eqi (y := nI n) hg.1.1 ?_
      refine lv_icmp_ge (tgt := 43) hx hb dX0_mostLeft_11 (by decide) (fun c_11 => ?_) (fun c_11 => ?_)
      · skip
        have q_11 := tN_le n i c_11 rfl rfl (by omega) (by omega)
        refine lv_iload_n hx hb dX0_mostLeft_43 rfl (lv_at hl 0 rfl) ?_
        exact W.iret (v := nI (mlN C (fun i => atN (S i) t) n i)) hx hb hr (fun t9 ht9 hW9 => ⟨_, rfl, (by have h9 : i = n := (by omega); rw [h9]), ht9⟩) (fun q h => by cases h) dX0_mostLeft_44
      · skip
        have q_11 := tN_nle n i c_11 rfl rfl (by omega) (by omega)
        refine lv_iload_n hx hb dX0_mostLeft_14 rfl (lv_at hl 3 rfl) ?_
        refine lv_iload hx hb dX0_mostLeft_15 (lv_at hl 1 rfl) ?_
        refine lv_ishr hx hb dX0_mostLeft_17 ?_
        refine lv_iconst (v := 1) hx hb dX0_mostLeft_18 (by decide) ?_
        refine lv_iand hx hb dX0_mostLeft_19 ?_
        refine lv_eqi (y := nI (C / 2 ^ i % 2)) (bitT (by omega) (by omega)) ?_
        refine lv_iconst (v := 1) hx hb dX0_mostLeft_20 (by decide) ?_
        refine lv_icmp_ne (tgt := 37) hx hb dX0_mostLeft_21 (by decide) (fun c_21 => ?_) (fun c_21 => ?_)
        · skip
          have q_21 := tN_ne (C / 2 ^ i % 2) 1 c_21 rfl rfl (by omega) (by omega)
          refine lv_iinc (v := nI (i + 1)) (lv' := [(4, .int (nI (i + 1))), (3, .int (nI (mlN C (fun i => atN (S i) t) n i))), (0, .ref (ga G (5 * h + 4))), (1, .int (nI C)), (2, .int (nI t))]) hx hb dX0_mostLeft_37 hl (k := 1) rfl (inc1 i) (by decide) rfl (fun ls hl => ?_)
          refine lv_goto (tgt := 5) hx hb dX0_mostLeft_40 (by decide) ?_
          exact ih_5 (i + 1) _ _ (by omega) (by first | exact congrArg nI (ml_y q_21) | exact congrArg nI (ml_n q_21)) rfl (by omega) ls (lv_sub hl [1, 0, 2, 3, 4] rfl)
        · skip
          have q_21 := tN_eq (C / 2 ^ i % 2) 1 c_21 rfl rfl (by omega) (by omega)
          have hm1 := mlN_le (C := C) (f := (fun i => atN (S i) t)) (n := n) i
          have hm2 := tgN_le (C := C) (f := (fun i => atN (S i) t)) (k := i) n
          refine lv_iload_n hx hb dX0_mostLeft_24 rfl (lv_at hl 0 rfl) ?_
          refine lv_aload_n hx hb dX0_mostLeft_25 rfl (lv_at hl 2 rfl) ?_
          refine lv_iload hx hb dX0_mostLeft_26 (lv_at hl 1 rfl) ?_
          refine lv_iload_n hx hb dX0_mostLeft_28 rfl (lv_at hl 3 rfl) ?_
          refine lv_iload_n hx hb dX0_mostLeft_29 rfl (lv_at hl 4 rfl) ?_
          refine cr_i (q := 490) [.int (nI i), .int (nI C), .int (nI t)] hx hb hml hown hG v_X0_togetherWith (by decide +kernel) (c_X0_togetherWith l G σ h hh n S q V ch hg i C t (by omega) h6 ht) (preH hW hh _) rfl hl.1 (Nat.le_of_ble_eq_true rfl) dX0_mostLeft_30 ⟨rfl, rfl, Nat.le_of_ble_eq_true rfl, Nat.le_of_ble_eq_true rfl⟩ ⟨Nat.le_of_ble_eq_true rfl, Nat.le_of_ble_eq_true rfl⟩ ?_
          refine va_mmax (own := RX0) hx hb (hml.trans hl.1.symm) hown (hG.use (i := 494) (by decide +kernel) rfl _) (hG _ mt_max.1 rfl _) (hG _ mt_max.2.1 rfl _) (hG _ mt_max.2.2 rfl _) (Nat.le_of_ble_eq_true rfl) (Nat.le_of_ble_eq_true rfl) (Nat.le_of_ble_eq_true rfl) (Nat.le_of_ble_eq_true rfl) dX0_mostLeft_33 ?_
          refine lv_eqi (y := nI (max (mlN C (fun i => atN (S i) t) n i) (tgN C (fun i => atN (S i) t) i n))) (max_nI (mlN C (fun i => atN (S i) t) n i) (tgN C (fun i => atN (S i) t) i n) (by omega) (by omega)) ?_
          refine lv_istore_n (lv' := [(3, .int (nI (max (mlN C (fun i => atN (S i) t) n i) (tgN C (fun i => atN (S i) t) i n)))), (4, .int (nI i)), (0, .ref (ga G (5 * h + 4))), (1, .int (nI C)), (2, .int (nI t))]) hx hb dX0_mostLeft_36 rfl hl (by decide) rfl (fun ls hl => ?_)
          refine lv_iinc (v := nI (i + 1)) (lv' := [(4, .int (nI (i + 1))), (3, .int (nI (max (mlN C (fun i => atN (S i) t) n i) (tgN C (fun i => atN (S i) t) i n)))), (0, .ref (ga G (5 * h + 4))), (1, .int (nI C)), (2, .int (nI t))]) hx hb dX0_mostLeft_37 hl (k := 1) rfl (inc1 i) (by decide) rfl (fun ls hl => ?_)
          refine lv_goto (tgt := 5) hx hb dX0_mostLeft_40 (by decide) ?_
          exact ih_5 (i + 1) _ _ (by omega) (by first | exact congrArg nI (ml_y q_21) | exact congrArg nI (ml_n q_21)) rfl (by omega) ls (lv_sub hl [1, 0, 2, 3, 4] rfl)
  exact loop_5 _ 0 _ _ (Nat.lt_succ_self _) rfl rfl (by omega) ls (lv_sub hl [1, 0, 2, 3, 4] rfl)
set_option maxHeartbeats 4000000 in
set_option maxRecDepth 100000 in
theorem c_X0_bestHourToLook (l : Launch) (G : Gam) (σ : St) (h : Nat) (hh : h < 2) (n : Nat) (S : Nat → Sk) (q : Nat) (V : Nat → Nat) (ch : Int32) (hg : GH σ h n S q V ch) : Met l yX0_bestHourToLook (w1 yX0_bestHourToLook cX0_bestHourToLook 6 (some .int)) ({ frames := 4, cells := 0, slots := 0, locals := 95 }) (PcX G σ [.ref (ga G (5 * h + 4))]) (vp_Si (fun r => r = (if whN (fun i => okN (atN (S i)) V q) n = 0 then -1 else nI (lkN (fun t => mlN (whN (fun i => okN (atN (S i)) V q) n) (fun i => atN (S i) t) n n) 30).1))) 0 0 (fun _ => False) := by
  refine met_of [.ref (ga G (5 * h + 4))] [(0, .ref (ga G (5 * h + 4)))] (by decide) (Nat.le_of_ble_eq_true rfl) rfl ?_
  intro p e s m below meth c hx hb hr hown hml hlocks hW ls hl
  have hG : GW s := hW.2.2.2.1
  have hn6 := hg.1.2
  have hq8 := hg.2.2.1.2
  obtain ⟨C, hC⟩ : ∃ C, whN (fun i => okN (atN (S i)) V q) n = C := ⟨_, rfl⟩
  have hC6 : C < 64 := Nat.lt_of_lt_of_le (hC ▸ whN_lt n) (p2_64 hn6)
  refine lv_aload_n hx hb dX0_bestHourToLook_0 rfl (lv_at hl 0 rfl) ?_
  refine cr_i (q := 485) [] hx hb hml hown hG v_X0_possible (by decide +kernel) (c_X0_possible l G σ h hh n S q V ch hg) (preH hW hh _) rfl hl.1 (Nat.le_of_ble_eq_true rfl) dX0_bestHourToLook_1 ⟨rfl, rfl, Nat.le_of_ble_eq_true rfl, Nat.le_of_ble_eq_true rfl⟩ ⟨Nat.le_of_ble_eq_true rfl, Nat.le_of_ble_eq_true rfl⟩ ?_
  refine lv_eqi (y := nI C) (by rw [hC]) ?_
  refine lv_istore_n (lv' := [(1, .int (nI C)), (0, .ref (ga G (5 * h + 4)))]) hx hb dX0_bestHourToLook_4 rfl hl (by decide) rfl (fun ls hl => ?_)
  refine lv_iload_n hx hb dX0_bestHourToLook_5 rfl (lv_at hl 0 rfl) ?_
  refine lv_if_ne (tgt := 11) hx hb dX0_bestHourToLook_6 (by decide) (fun c_6 => ?_) (fun c_6 => ?_)
  · skip
    have q_6 := tN_ne C 0 c_6 rfl rfl (by omega) (by omega)
    refine lv_iconst (v := 0) hx hb dX0_bestHourToLook_11 (by decide) ?_
    refine lv_istore_n (lv' := [(2, .int 0), (1, .int (nI C)), (0, .ref (ga G (5 * h + 4)))]) hx hb dX0_bestHourToLook_12 rfl hl (by decide) rfl (fun ls hl => ?_)
    refine lv_aload_n hx hb dX0_bestHourToLook_13 rfl (lv_at hl 2 rfl) ?_
    refine lv_iload_n hx hb dX0_bestHourToLook_14 rfl (lv_at hl 1 rfl) ?_
    refine lv_iconst (v := 0) hx hb dX0_bestHourToLook_15 (by decide) ?_
    refine cr_i (q := 486) [.int (nI C), .int 0] hx hb hml hown hG v_X0_mostLeft (by decide +kernel) (c_X0_mostLeft l G σ h hh n S q V ch hg C 0 hC6 (by omega)) (preH hW hh _) rfl hl.1 (Nat.le_of_ble_eq_true rfl) dX0_bestHourToLook_16 ⟨rfl, rfl, Nat.le_of_ble_eq_true rfl, Nat.le_of_ble_eq_true rfl⟩ ⟨Nat.le_of_ble_eq_true rfl, Nat.le_of_ble_eq_true rfl⟩ ?_
    refine lv_istore_n (lv' := [(3, .int (nI (mlN C (fun i => atN (S i) (0)) n n))), (2, .int 0), (1, .int (nI C)), (0, .ref (ga G (5 * h + 4)))]) hx hb dX0_bestHourToLook_19 rfl hl (by decide) rfl (fun ls hl => ?_)
    refine lv_iconst (v := 1) hx hb dX0_bestHourToLook_20 (by decide) ?_
    refine lv_istore (lv' := [(4, .int 1), (3, .int (nI (mlN C (fun i => atN (S i) (0)) n n))), (2, .int 0), (1, .int (nI C)), (0, .ref (ga G (5 * h + 4)))]) hx hb dX0_bestHourToLook_21 hl (by decide) rfl (fun ls hl => ?_)
    have loop_23 : ∀ (N9 : Nat) (t : Nat) (be : Int32) (fe : Int32) (ho : Int32), 30 - t < N9 → be = nI ((lkN (fun t => mlN C (fun i => atN (S i) t) n n) t).1) → fe = nI ((lkN (fun t => mlN C (fun i => atN (S i) t) n n) t).2) → ho = nI (t + 1) → t ≤ 30 → ∀ ls : Array Slot, lv_has ls 6 [(2, .int be), (3, .int fe), (4, .int ho), (1, .int (nI C)), (0, .ref (ga G (5 * h + 4)))] → W p l e (headSpec (w1 yX0_bestHourToLook cX0_bestHourToLook 6 (some .int)) ({ frames := 4, cells := 0, slots := 0, locals := 95 })).room s m [.ref (ga G (5 * h + 4))].toArray below meth c s.heap [] 0 0 (MQ below (vp_Si (fun r => r = (if whN (fun i => okN (atN (S i)) V q) n = 0 then -1 else nI (lkN (fun t => mlN (whN (fun i => okN (atN (S i)) V q) n) (fun i => atN (S i) t) n n) 30).1))) [.ref (ga G (5 * h + 4))].toArray s 0 0 (fun _ => False)) (F0 m 23 ls []) := by
      intro N9
      induction N9 with
      | zero => intro t be fe ho hN; exact absurd hN (Nat.not_lt_zero _)
      | succ N9 ih =>
        intro t be fe ho hN e_be e_fe e_ho hi0_23 ls hl
        subst e_be
        subst e_fe
        subst e_ho
        have ih_23 := ih
        have hl2 := lk_le (w := (fun t => mlN C (fun i => atN (S i) t) n n)) (n := n) (fun t => mlN_le n) t
        have hl1 : mlN C (fun i => atN (S i) (t + 1)) n n ≤ n := mlN_le n
        refine lv_iload hx hb dX0_bestHourToLook_23 (lv_at hl 2 rfl) ?_
        refine lv_bipush (v := 30) hx hb dX0_bestHourToLook_25 (by decide) ?_
        refine lv_icmp_gt (tgt := 57) hx hb dX0_bestHourToLook_27 (by decide) (fun c_27 => ?_) (fun c_27 => ?_)
        · skip
          have q_27 := tN_lt 30 (t + 1) c_27 rfl rfl (by omega) (by omega)
          refine lv_iload_n hx hb dX0_bestHourToLook_57 rfl (lv_at hl 0 rfl) ?_
          exact W.iret (v := nI ((lkN (fun t => mlN C (fun i => atN (S i) t) n n) t).1)) hx hb hr (fun t9 ht9 hW9 => ⟨_, rfl, (by have h9 : t = 30 := (by omega); subst h9; show _ = (if _ = 0 then _ else _); rw [hC, if_neg q_6]), ht9⟩) (fun q h => by cases h) dX0_bestHourToLook_58
        · skip
          have q_27 := tN_nlt 30 (t + 1) c_27 rfl rfl (by omega) (by omega)
          refine lv_aload_n hx hb dX0_bestHourToLook_30 rfl (lv_at hl 4 rfl) ?_
          refine lv_iload_n hx hb dX0_bestHourToLook_31 rfl (lv_at hl 3 rfl) ?_
          refine lv_iload hx hb dX0_bestHourToLook_32 (lv_at hl 2 rfl) ?_
          refine cr_i (q := 486) [.int (nI C), .int (nI (t + 1))] hx hb hml hown hG v_X0_mostLeft (by decide +kernel) (c_X0_mostLeft l G σ h hh n S q V ch hg C (t + 1) hC6 (by omega)) (preH hW hh _) rfl hl.1 (Nat.le_of_ble_eq_true rfl) dX0_bestHourToLook_34 ⟨rfl, rfl, Nat.le_of_ble_eq_true rfl, Nat.le_of_ble_eq_true rfl⟩ ⟨Nat.le_of_ble_eq_true rfl, Nat.le_of_ble_eq_true rfl⟩ ?_
          refine lv_istore (lv' := [(5, .int (nI (mlN C (fun i => atN (S i) (t + 1)) n n))), (2, .int (nI ((lkN (fun t => mlN C (fun i => atN (S i) t) n n) t).1))), (3, .int (nI ((lkN (fun t => mlN C (fun i => atN (S i) t) n n) t).2))), (4, .int (nI (t + 1))), (1, .int (nI C)), (0, .ref (ga G (5 * h + 4)))]) hx hb dX0_bestHourToLook_37 hl (by decide) rfl (fun ls hl => ?_)
          refine lv_iload hx hb dX0_bestHourToLook_39 (lv_at hl 0 rfl) ?_
          refine lv_iload_n hx hb dX0_bestHourToLook_41 rfl (lv_at hl 2 rfl) ?_
          refine lv_icmp_ge (tgt := 51) hx hb dX0_bestHourToLook_42 (by decide) (fun c_42 => ?_) (fun c_42 => ?_)
          · skip
            have q_42 := tN_le ((lkN (fun t => mlN C (fun i => atN (S i) t) n n) t).2) (mlN C (fun i => atN (S i) (t + 1)) n n) c_42 rfl rfl (by omega) (by omega)
            refine lv_iinc (v := nI (t + 1 + 1)) (lv' := [(4, .int (nI (t + 1 + 1))), (5, .int (nI (mlN C (fun i => atN (S i) (t + 1)) n n))), (2, .int (nI ((lkN (fun t => mlN C (fun i => atN (S i) t) n n) t).1))), (3, .int (nI ((lkN (fun t => mlN C (fun i => atN (S i) t) n n) t).2))), (1, .int (nI C)), (0, .ref (ga G (5 * h + 4)))]) hx hb dX0_bestHourToLook_51 hl (k := 3) rfl (inc1 (t + 1)) (by decide) rfl (fun ls hl => ?_)
            refine lv_goto (tgt := 23) hx hb dX0_bestHourToLook_54 (by decide) ?_
            exact ih_23 (t + 1) _ _ _ (by omega) (by first | exact congrArg (fun z => nI z.1) (lk_y (w := (fun t => mlN C (fun i => atN (S i) t) n n)) q_42).symm | exact congrArg (fun z => nI z.1) (lk_n (w := (fun t => mlN C (fun i => atN (S i) t) n n)) q_42).symm) (by first | exact congrArg (fun z => nI z.2) (lk_y (w := (fun t => mlN C (fun i => atN (S i) t) n n)) q_42).symm | exact congrArg (fun z => nI z.2) (lk_n (w := (fun t => mlN C (fun i => atN (S i) t) n n)) q_42).symm) rfl (by omega) ls (lv_sub hl [2, 3, 0, 4, 5] rfl)
          · skip
            have q_42 := tN_nle ((lkN (fun t => mlN C (fun i => atN (S i) t) n n) t).2) (mlN C (fun i => atN (S i) (t + 1)) n n) c_42 rfl rfl (by omega) (by omega)
            refine lv_iload hx hb dX0_bestHourToLook_45 (lv_at hl 3 rfl) ?_
            refine lv_istore_n (lv' := [(2, .int (nI (t + 1))), (5, .int (nI (mlN C (fun i => atN (S i) (t + 1)) n n))), (3, .int (nI ((lkN (fun t => mlN C (fun i => atN (S i) t) n n) t).2))), (4, .int (nI (t + 1))), (1, .int (nI C)), (0, .ref (ga G (5 * h + 4)))]) hx hb dX0_bestHourToLook_47 rfl hl (by decide) rfl (fun ls hl => ?_)
            refine lv_iload hx hb dX0_bestHourToLook_48 (lv_at hl 1 rfl) ?_
            refine lv_istore_n (lv' := [(3, .int (nI (mlN C (fun i => atN (S i) (t + 1)) n n))), (2, .int (nI (t + 1))), (5, .int (nI (mlN C (fun i => atN (S i) (t + 1)) n n))), (4, .int (nI (t + 1))), (1, .int (nI C)), (0, .ref (ga G (5 * h + 4)))]) hx hb dX0_bestHourToLook_50 rfl hl (by decide) rfl (fun ls hl => ?_)
            refine lv_iinc (v := nI (t + 1 + 1)) (lv' := [(4, .int (nI (t + 1 + 1))), (3, .int (nI (mlN C (fun i => atN (S i) (t + 1)) n n))), (2, .int (nI (t + 1))), (5, .int (nI (mlN C (fun i => atN (S i) (t + 1)) n n))), (1, .int (nI C)), (0, .ref (ga G (5 * h + 4)))]) hx hb dX0_bestHourToLook_51 hl (k := 3) rfl (inc1 (t + 1)) (by decide) rfl (fun ls hl => ?_)
            refine lv_goto (tgt := 23) hx hb dX0_bestHourToLook_54 (by decide) ?_
            exact ih_23 (t + 1) _ _ _ (by omega) (by first | exact congrArg (fun z => nI z.1) (lk_y (w := (fun t => mlN C (fun i => atN (S i) t) n n)) q_42).symm | exact congrArg (fun z => nI z.1) (lk_n (w := (fun t => mlN C (fun i => atN (S i) t) n n)) q_42).symm) (by first | exact congrArg (fun z => nI z.2) (lk_y (w := (fun t => mlN C (fun i => atN (S i) t) n n)) q_42).symm | exact congrArg (fun z => nI z.2) (lk_n (w := (fun t => mlN C (fun i => atN (S i) t) n n)) q_42).symm) rfl (by omega) ls (lv_sub hl [2, 1, 0, 4, 5] rfl)
    exact loop_23 _ 0 _ _ _ (Nat.lt_succ_self _) rfl rfl rfl (by omega) ls (lv_sub hl [2, 1, 0, 3, 4] rfl)
  · skip
    have q_6 := tN_eq C 0 c_6 rfl rfl (by omega) (by omega)
    refine lv_iconst (v := (-1)) hx hb dX0_bestHourToLook_9 (by decide) ?_
    exact W.iret (v := (-1)) hx hb hr (fun t9 ht9 hW9 => ⟨_, rfl, (by show _ = (if _ = 0 then _ else _); rw [hC, if_pos q_6]), ht9⟩) (fun q h => by cases h) dX0_bestHourToLook_10
end
section
/-- all outside the hills h stays -/
def OutH (h a : Nat) : Prop := (a < 5 * h + 4 ∨ 5 * h + 8 < a) ∧ (a < 18 * h + 14 ∨ 18 * h + 32 ≤ a)
def FH (σ : St) (h : Nat) (σ' : St) : Prop := ∀ a, OutH h a → σ' a = σ a
/-- every stick's cells, used or not, hold a stick -/
def AX (σ : St) : Prop := ∀ j, j < 12 → ∃ S : Sk, VS S ∧ GS σ j S
theorem GS.keep {σ σ' : St} {j : Nat} {S : Sk} (h1 : σ' (3 * j + 14) = σ (3 * j + 14)) (h2 : σ' (3 * j + 15) = σ (3 * j + 15)) (g : GS σ j S) : GS σ' j S := by
  obtain ⟨a, b, c, d⟩ := g
  exact ⟨by rw [h1]; exact a, by rw [h1]; exact b, by rw [h1]; exact c, fun i hi => by rw [h2]; exact d i hi⟩
theorem GT.keep {σ σ' : St} {j : Nat} {S : Sk} (h1 : σ' (3 * j + 14) = σ (3 * j + 14)) (h2 : σ' (3 * j + 16) = σ (3 * j + 16)) (g : GT σ j S) : GT σ' j S := by
  obtain ⟨a, b⟩ := g
  exact ⟨fun t ht => by rw [h2]; exact a t ht, by rw [h1]; exact b⟩
theorem NS.ax {σ σ' : St} {j : Nat} {S : Sk} (hv : VS S) (h : NS σ j S σ') (ha : AX σ) : AX σ' := by
  intro i hi
  by_cases e : i = j
  · subst e; exact ⟨S, hv, h.2.1⟩
  · obtain ⟨S', h1, h2⟩ := ha i hi
    exact ⟨S', h1, h2.keep (h.1 _ (by omega) (by omega) (by omega)) (h.1 _ (by omega) (by omega) (by omega))⟩
theorem NS.fh {σ σ' : St} {h k : Nat} {S : Sk} (hk : k < 6) (n : NS σ (6 * h + k) S σ') : FH σ h σ' := fun a ha => n.1 a (by unfold OutH at ha; omega) (by unfold OutH at ha; omega) (by unfold OutH at ha; omega)
theorem FH.trans {σ σ1 σ2 : St} {h : Nat} (a : FH σ h σ1) (b : FH σ1 h σ2) : FH σ h σ2 := fun x hx => (b x hx).trans (a x hx)
theorem FH.rfl {σ : St} {h : Nat} : FH σ h σ := fun _ _ => Eq.refl _
theorem FH.up {σ σ1 : St} {h i j : Nat} {v : Int32} (a : FH σ h σ1) (hi : ¬ OutH h i) : FH σ h (up2 σ1 i j v) := fun x hx => by
  have hne : x ≠ i := fun e => hi (by rw [← e]; exact hx)
  rw [up2_ne hne]; exact a x hx
/-- a stick S0 stands behind the n others, not late -/
def AE (σ : St) (h n : Nat) (S0 : Sk) (σ' : St) : Prop :=
  (∀ a, a ≠ 5 * h + 4 → a ≠ 5 * h + 6 → a ≠ 3 * (6 * h + n) + 14 → a ≠ 3 * (6 * h + n) + 15 → a ≠ 3 * (6 * h + n) + 16 → σ' a = σ a) ∧ GS σ' (6 * h + n) S0 ∧ GT σ' (6 * h + n) S0 ∧ σ' (5 * h + 6) n = 0 ∧ (∀ x, x ≠ n → σ' (5 * h + 6) x = σ (5 * h + 6) x) ∧ σ' (5 * h + 4) 4 = nI (n + 1) ∧ ∀ f, f ≠ 4 → σ' (5 * h + 4) f = σ (5 * h + 4) f
theorem AE.of {σ σ1 : St} {h n : Nat} {S0 : Sk} (hh : h < 2) (N : NS σ (6 * h + n) S0 σ1) : AE σ h n S0 (up2 (up2 σ1 (5 * h + 6) n 0) (5 * h + 4) 4 (nI (n + 1))) := by
  obtain ⟨f, g, t⟩ := N
  refine ⟨fun a a1 a2 a3 a4 a5 => ?_, g.keep ?_ ?_, t.keep ?_ ?_, ?_, fun x hx => ?_, up2_eq, fun f9 hf => ?_⟩
  · rw [up2_ne a1, up2_ne a2]; exact f a a3 a4 a5
  · rw [up2_ne (by omega), up2_ne (by omega)]
  · rw [up2_ne (by omega), up2_ne (by omega)]
  · rw [up2_ne (by omega), up2_ne (by omega)]
  · rw [up2_ne (by omega), up2_ne (by omega)]
  · rw [up2_nr (by omega), up2_eq]
  · rw [up2_nr (by omega), up2_nf hx, f _ (by omega) (by omega) (by omega)]
  · rw [up2_nf hf, up2_nr (by omega), f _ (by omega) (by omega) (by omega)]
theorem AE.add {σ σ1 σ2 : St} {h n : Nat} {S0 S1 : Sk} (hh : h < 2) (A : AE σ h n S0 σ1) (N : NS σ1 (6 * h + n) S1 σ2) : AE σ h n S1 σ2 := by
  obtain ⟨f, g, t⟩ := N
  obtain ⟨a1, a2, a3, a4, a5, a6, a7⟩ := A
  refine ⟨fun a b1 b2 b3 b4 b5 => (f a b3 b4 b5).trans (a1 a b1 b2 b3 b4 b5), g, t, ?_, fun x hx => ?_, ?_, fun x hx => ?_⟩
  · rw [f _ (by omega) (by omega) (by omega)]; exact a4
  · rw [f _ (by omega) (by omega) (by omega)]; exact a5 x hx
  · rw [f _ (by omega) (by omega) (by omega)]; exact a6
  · rw [f _ (by omega) (by omega) (by omega)]; exact a7 x hx
theorem AE.fh {σ σ' : St} {h n : Nat} {S0 : Sk} (hn : n < 6) (A : AE σ h n S0 σ') : FH σ h σ' := fun a ha => A.1 a (by unfold OutH at ha; omega) (by unfold OutH at ha; omega) (by unfold OutH at ha; omega) (by unfold OutH at ha; omega) (by unfold OutH at ha; omega)
theorem AE.gs {σ σ' : St} {h n j : Nat} {S0 S : Sk} (hh : h < 2) (hj : j < 12) (hn : n < 6) (e : j ≠ 6 * h + n) (A : AE σ h n S0 σ') (g : GS σ j S) : GS σ' j S :=
  g.keep (A.1 _ (by omega) (by omega) (by omega) (by omega) (by omega)) (A.1 _ (by omega) (by omega) (by omega) (by omega) (by omega))
theorem AE.ax {σ σ' : St} {h n : Nat} {S0 : Sk} (hh : h < 2) (hn : n < 6) (hv : VS S0) (A : AE σ h n S0 σ') (ha : AX σ) : AX σ' := by
  intro i hi
  by_cases e : i = 6 * h + n
  · subst e; exact ⟨S0, hv, A.2.1⟩
  · obtain ⟨S', h1, h2⟩ := ha i hi
    exact ⟨S', h1, A.gs hh hi hn e h2⟩
abbrev putS (S : Nat → Sk) (k : Nat) (S1 : Sk) : Nat → Sk := fun i => if i = k then S1 else S i
theorem putS_eq {S : Nat → Sk} {k : Nat} {S1 : Sk} : putS S k S1 k = S1 := if_pos rfl
theorem putS_ne {S : Nat → Sk} {k i : Nat} {S1 : Sk} (h : i ≠ k) : putS S k S1 i = S i := if_neg h
theorem AE.gh {σ σ' : St} {h n q : Nat} {S : Nat → Sk} {V : Nat → Nat} {ch : Int32} {S0 : Sk} (hh : h < 2) (hn : n < 6) (hv : VS S0) (h2 : S0 2 = 0) (A : AE σ h n S0 σ') (g : GH σ h n S q V ch) : GH σ' h (n + 1) (putS S n S0) q V ch := by
  obtain ⟨g1, g2, g3, g4, g5⟩ := g
  have A' := A
  obtain ⟨a1, a2, a3, a4, a5, a6, a7⟩ := A
  refine ⟨⟨a6, by omega⟩, (a7 5 (by omega)).trans g2, ⟨(a7 6 (by omega)).trans g3.1, g3.2⟩, fun k hk => ?_, fun i hi => ?_⟩
  · by_cases e : k = n
    · subst e
      rw [putS_eq]
      exact ⟨hv, a2, a3, by rw [a4, h2]; rfl, by omega⟩
    · rw [putS_ne e]
      obtain ⟨b1, b2, b3, b4, b5⟩ := g4 k (by omega)
      exact ⟨b1, A'.gs hh (by omega) hn (by omega) b2, b3.keep (a1 _ (by omega) (by omega) (by omega) (by omega) (by omega)) (a1 _ (by omega) (by omega) (by omega) (by omega) (by omega)), (a5 k e).trans b4, b5⟩
  · rw [a1 (5 * h + 7) (by omega) (by omega) (by omega) (by omega) (by omega), a1 (5 * h + 8) (by omega) (by omega) (by omega) (by omega) (by omega)]
    exact g5 i hi
theorem GH.set {σ σ' : St} {h n q k : Nat} {S : Nat → Sk} {V : Nat → Nat} {ch : Int32} {S1 : Sk} (hh : h < 2) (hk : k < n) (hv : VS S1) (h2 : S1 2 = S k 2) (N : NS σ (6 * h + k) S1 σ') (g : GH σ h n S q V ch) : GH σ' h n (putS S k S1) q V ch := by
  obtain ⟨g1, g2, g3, g4, g5⟩ := g
  obtain ⟨f, gs, gt⟩ := N
  have hn := g1.2
  refine ⟨⟨by rw [f _ (by omega) (by omega) (by omega)]; exact g1.1, hn⟩, by rw [f _ (by omega) (by omega) (by omega)]; exact g2, ⟨by rw [f _ (by omega) (by omega) (by omega)]; exact g3.1, g3.2⟩, fun i hi => ?_, fun i hi => ?_⟩
  · obtain ⟨b1, b2, b3, b4, b5⟩ := g4 i hi
    by_cases e : i = k
    · subst e
      rw [putS_eq]
      exact ⟨hv, gs, gt, by rw [f _ (by omega) (by omega) (by omega), h2]; exact b4, by rw [h2]; exact b5⟩
    · rw [putS_ne e]
      exact ⟨b1, b2.keep (f _ (by omega) (by omega) (by omega)) (f _ (by omega) (by omega) (by omega)), b3.keep (f _ (by omega) (by omega) (by omega)) (f _ (by omega) (by omega) (by omega)), by rw [f _ (by omega) (by omega) (by omega)]; exact b4, b5⟩
  · rw [f (5 * h + 7) (by omega) (by omega) (by omega), f (5 * h + 8) (by omega) (by omega) (by omega)]
    exact g5 i hi
/-- the parts of a stick that is sawn behind t steps; of the rest the first c -/
def SF (S : Sk) (t : Nat) : Sk := fun f => if f = 3 then t else S f
def SR (S : Sk) (t c : Nat) : Sk := fun f => if f = 0 then S 0 else if f = 1 then plainN S t else if f = 2 then 0 else if f = 3 then c else S (f + t)
theorem SR_4 {S : Sk} {t c i : Nat} : SR S t c (4 + i) = S (4 + (i + t)) := by
  unfold SR
  rw [if_neg (by omega), if_neg (by omega), if_neg (by omega), if_neg (by omega), Nat.add_assoc]
theorem SR_vs {S : Sk} {t c : Nat} (h : VS S) (ht : c + t ≤ S 3) : VS (SR S t c) := by
  refine ⟨h.1, plainN_lt h t (by omega), ?_, fun i hi => ?_⟩
  · show c ≤ 5
    have := h.2.2.1; omega
  · have hi : i < c := hi
    rw [SR_4]; exact h.2.2.2 (i + t) (by omega)
theorem SF_4 {S : Sk} {t i : Nat} : SF S t (4 + i) = S (4 + i) := if_neg (by omega)
theorem SF_vs {S : Sk} {t : Nat} (h : VS S) (ht : t ≤ S 3) : VS (SF S t) := by
  refine ⟨h.1, h.2.1, ?_, fun i hi => ?_⟩
  · show t ≤ 5
    have := h.2.2.1; omega
  · have hi : i < t := hi
    rw [SF_4]; exact h.2.2.2 i (by omega)
/-- while the hills h are put from the hills o: the first i sticks -/
def CY (σ : St) (h o : Nat) (σ' : St) (i : Nat) : Prop :=
  (∀ a, OutH h a → σ' a = σ a) ∧ (∀ a, 5 * h + 4 < a → a ≤ 5 * h + 8 → σ' a = σ a) ∧ (∀ f, f ≠ 4 → σ' (5 * h + 4) f = σ (5 * h + 4) f) ∧ σ' (5 * h + 4) 4 = σ (5 * o + 4) 4 ∧
  (∀ k, k < i → ∀ S : Sk, VS S → GS σ (6 * o + k) S → GS σ' (6 * h + k) S ∧ GT σ' (6 * h + k) S) ∧ (AX σ → AX σ')
theorem GS.same {σ : St} {j : Nat} {S S' : Sk} (g : GS σ j S) (g' : GS σ j S') (h : VS S) (h' : VS S') : S 0 = S' 0 ∧ S 1 = S' 1 ∧ S 3 = S' 3 ∧ ∀ i, i < S 3 → S (4 + i) = S' (4 + i) := by
  have e3 : S 3 = S' 3 := (nI_eq (by have := h.2.2.1; omega) (by have := h'.2.2.1; omega)).mp (g.2.2.1.symm.trans g'.2.2.1)
  refine ⟨(nI_eq (by have := h.1; omega) (by have := h'.1; omega)).mp (g.1.symm.trans g'.1), (nI_eq (by have := h.2.1; omega) (by have := h'.2.1; omega)).mp (g.2.1.symm.trans g'.2.1), e3, fun i hi => ?_⟩
  exact (nI_eq (by have := h.2.2.2 i hi; omega) (by have := h'.2.2.2 i (by omega); omega)).mp ((g.2.2.2 i hi).symm.trans (g'.2.2.2 i (by omega)))
theorem plain_same {S S' : Sk} (e0 : S 0 = S' 0) (e1 : S 1 = S' 1) (e3 : S 3 = S' 3) (e4 : ∀ i, i < S 3 → S (4 + i) = S' (4 + i)) (h : VS S) : ∀ t, posN S t = posN S' t := by
  intro t
  induction t with
  | zero => exact e1
  | succ t ih =>
    unfold posN
    rw [← e0, ← e3, ih]
    split
    · rename_i hc
      have h0 : 0 < S 3 := (Nat.eq_zero_or_pos (S 3)).elim (fun z => by rw [z, hwN_0] at hc; omega) id
      have hd : ∀ x, dirN S x = dirN S' x := by
        intro x
        unfold dirN
        rw [← e0, ← e3, e4 _ (Nat.mod_lt _ h0), e4 (S 3 - 1 - x % S 3) (by have := Nat.mod_lt x h0; omega)]
      rw [hd]
    · rfl
theorem orN_same {f g : Nat → Nat} (h : ∀ t, f t = g t) : ∀ t, orN f t = orN g t := by
  intro t
  induction t with
  | zero => rfl
  | succ t ih => unfold orN; rw [ih, h]
theorem GT.same {σ : St} {j : Nat} {S S' : Sk} (e0 : S 0 = S' 0) (e1 : S 1 = S' 1) (e3 : S 3 = S' 3) (e4 : ∀ i, i < S 3 → S (4 + i) = S' (4 + i)) (h : VS S) (g : GT σ j S) : GT σ j S' := by
  have e := plain_same e0 e1 e3 e4 h
  exact ⟨fun t ht => by rw [← e]; exact g.1 t ht, by rw [g.2, orN_same e]⟩
theorem CY.step {σ σ1 σ2 : St} {h o i : Nat} {S : Sk} (hh : h < 2) (ho : o < 2) (hne : o ≠ h) (hi : i < 6) (hv : VS S) (hg : GS σ1 (6 * o + i) S) (A : CY σ h o σ1 i) (N : NS σ1 (6 * h + i) S σ2) : CY σ h o σ2 (i + 1) := by
  obtain ⟨a1, a2, a3, a4, a5, a6⟩ := A
  obtain ⟨f, gs, gt⟩ := N
  refine ⟨fun a ha => (f a (by unfold OutH at ha; omega) (by unfold OutH at ha; omega) (by unfold OutH at ha; omega)).trans (a1 a ha), fun a b1 b2 => (f a (by omega) (by omega) (by omega)).trans (a2 a b1 b2), fun x hx => by rw [f _ (by omega) (by omega) (by omega)]; exact a3 x hx, by rw [f _ (by omega) (by omega) (by omega)]; exact a4, fun k hk S' hv' hg' => ?_, fun z => NS.ax hv ⟨f, gs, gt⟩ (a6 z)⟩
  by_cases e : k = i
  · subst e
    have hg1 : GS σ (6 * o + k) S := hg.keep (a1 _ (by unfold OutH; omega)).symm (a1 _ (by unfold OutH; omega)).symm
    obtain ⟨e0, e1, e3, e4⟩ := hg1.same hg' hv hv'
    obtain ⟨q1, q2, q3, q4⟩ := gs
    exact ⟨⟨by rw [← e0]; exact q1, by rw [← e1]; exact q2, by rw [← e3]; exact q3, fun i hi => by rw [← e4 i (by omega)]; exact q4 i (by omega)⟩, gt.same e0 e1 e3 e4 hv⟩
  · obtain ⟨b1, b2⟩ := a5 k (by omega) S' hv' hg'
    exact ⟨b1.keep (f _ (by omega) (by omega) (by omega)) (f _ (by omega) (by omega) (by omega)), b2.keep (f _ (by omega) (by omega) (by omega)) (f _ (by omega) (by omega) (by omega))⟩
/-- behind copyFrom -/
def CZ (σ : St) (h o : Nat) (σ' : St) : Prop := FH σ h σ' ∧ (AX σ → AX σ') ∧ ∀ (n : Nat) (S : Nat → Sk) (q : Nat) (V : Nat → Nat) (ch : Int32), GH σ o n S q V ch → GH σ' h n S q V ch
theorem CY.fin {σ σ1 : St} {h o : Nat} (hh : h < 2) (ho : o < 2) (hne : o ≠ h) (A : CY σ h o σ1 6) : CZ σ h o (cpy2 (cpy2 (up2 (up2 (cpy2 σ1 (5 * o + 6) (5 * h + 6) 6) (5 * h + 4) 5 (σ (5 * o + 4) 5)) (5 * h + 4) 6 (σ (5 * o + 4) 6)) (5 * o + 7) (5 * h + 7) 8) (5 * o + 8) (5 * h + 8) 8) := by
  obtain ⟨a1, a2, a3, a4, a5, a6⟩ := A
  have key : ∀ a, a ≠ 5 * h + 4 → a ≠ 5 * h + 6 → a ≠ 5 * h + 7 → a ≠ 5 * h + 8 → (cpy2 (cpy2 (up2 (up2 (cpy2 σ1 (5 * o + 6) (5 * h + 6) 6) (5 * h + 4) 5 (σ (5 * o + 4) 5)) (5 * h + 4) 6 (σ (5 * o + 4) 6)) (5 * o + 7) (5 * h + 7) 8) (5 * o + 8) (5 * h + 8) 8) a = σ1 a := fun a b1 b2 b3 b4 => by
    rw [cpy2_ne b4, cpy2_ne b3, up2_ne b1, up2_ne b1, cpy2_ne b2]
  refine ⟨fun a ha => (key a (by unfold OutH at ha; omega) (by unfold OutH at ha; omega) (by unfold OutH at ha; omega) (by unfold OutH at ha; omega)).trans (a1 a ha), fun z i hi => ?_, fun n S q V ch g => ?_⟩
  · obtain ⟨S, h1, h2⟩ := a6 z i hi
    exact ⟨S, h1, h2.keep (key _ (by omega) (by omega) (by omega) (by omega)) (key _ (by omega) (by omega) (by omega) (by omega))⟩
  · obtain ⟨g1, g2, g3, g4, g5⟩ := g
    have oo : ∀ a, a = 5 * o + 6 ∨ a = 5 * o + 7 ∨ a = 5 * o + 8 → σ1 a = σ a := fun a ha => a1 a (by unfold OutH; omega)
    refine ⟨⟨?_, g1.2⟩, ?_, ⟨?_, g3.2⟩, fun k hk => ?_, fun i hi => ?_⟩
    · rw [cpy2_ne (by omega), cpy2_ne (by omega), up2_nf (by omega), up2_nf (by omega), cpy2_ne (by omega), a4]; exact g1.1
    · rw [cpy2_ne (by omega), cpy2_ne (by omega), up2_nf (by omega), up2_eq]; exact g2
    · rw [cpy2_ne (by omega), cpy2_ne (by omega), up2_eq]; exact g3.1
    · obtain ⟨b1, b2, b3, b4, b5⟩ := g4 k hk
      have hk6 : k < 6 := by have := g1.2; omega
      obtain ⟨c1, c2⟩ := a5 k hk6 (S k) b1 b2
      refine ⟨b1, c1.keep (key _ (by omega) (by omega) (by omega) (by omega)) (key _ (by omega) (by omega) (by omega) (by omega)), c2.keep (key _ (by omega) (by omega) (by omega) (by omega)) (key _ (by omega) (by omega) (by omega) (by omega)), ?_, b5⟩
      rw [cpy2_ne (by omega), cpy2_ne (by omega), up2_ne (by omega), up2_ne (by omega), cpy2_at hk6, oo _ (Or.inl rfl)]; exact b4
    · have hi8 : i < 8 := by have := g3.2; omega
      obtain ⟨b1, b2, b3, b4⟩ := g5 i hi
      refine ⟨?_, ?_, b3, b4⟩
      · rw [cpy2_ne (by omega), cpy2_at hi8, up2_ne (by omega), up2_ne (by omega), cpy2_ne (by omega), oo _ (Or.inr (Or.inl rfl))]; exact b1
      · rw [cpy2_at hi8, cpy2_ne (by omega), up2_ne (by omega), up2_ne (by omega), cpy2_ne (by omega), oo _ (Or.inr (Or.inr rfl))]; exact b2

set_option maxHeartbeats 4000000 in
set_option maxRecDepth 100000 in
theorem c_X0_clear (l : Launch) (G : Gam) (σ : St) (h : Nat) (hh : h < 2) : Met l yX0_clear (w1 yX0_clear cX0_clear 1 none) ({ frames := 0, cells := 0, slots := 0, locals := 0 }) (PcX G σ [.ref (ga G (5 * h + 4))]) (QvX G (fun σ9 => σ9 = up2 (up2 (up2 σ (5 * h + 4) 4 0) (5 * h + 4) 5 0) (5 * h + 4) 6 0)) 0 0 (aX G) := by
  refine met_of [.ref (ga G (5 * h + 4))] [(0, .ref (ga G (5 * h + 4)))] (by decide) (Nat.le_of_ble_eq_true rfl) rfl ?_
  intro p e s m below meth c hx hb hr hown hml hlocks hW ls hl
  have hG : GW s := hW.2.2.2.1
  have hS : va_S (aX G) s.heap s.heap [] := va_S.rf
  refine lv_aload_n hx hb dX0_clear_0 rfl (lv_at hl 0 rfl) ?_
  refine lv_iconst (v := 0) hx hb dX0_clear_1 (by decide) ?_
  refine wr_X0_31 hx hb hown hW hS hh dX0_clear_2 (fun H locs hW hS => ?_)
  obtain ⟨σ1, hσ1⟩ : ∃ z, z = up2 σ (5 * h + 4) 4 0 := ⟨_, rfl⟩
  rw [← hσ1] at hW
  refine lv_aload_n hx hb dX0_clear_5 rfl (lv_at hl 0 rfl) ?_
  refine lv_iconst (v := 0) hx hb dX0_clear_6 (by decide) ?_
  refine wr_X0_35 hx hb hown hW hS hh dX0_clear_7 (fun H locs hW hS => ?_)
  obtain ⟨σ2, hσ2⟩ : ∃ z, z = up2 σ1 (5 * h + 4) 5 0 := ⟨_, rfl⟩
  rw [← hσ2] at hW
  refine lv_aload_n hx hb dX0_clear_10 rfl (lv_at hl 0 rfl) ?_
  refine lv_iconst (v := 0) hx hb dX0_clear_11 (by decide) ?_
  refine wr_X0_38 hx hb hown hW hS hh dX0_clear_12 (fun H locs hW hS => ?_)
  obtain ⟨σ3, hσ3⟩ : ∃ z, z = up2 σ2 (5 * h + 4) 6 0 := ⟨_, rfl⟩
  rw [← hσ3] at hW
  exact W.vret hx hb hr (fun t9 ht9 hW9 => ⟨⟨σ3, rfl, (by subst hσ3; subst hσ2; subst hσ1; rfl), (by have h8 := hW.1; rw [← ht9] at h8; exact h8)⟩, hS.F ht9⟩) hS.2.2 dX0_clear_15
set_option maxHeartbeats 4000000 in
set_option maxRecDepth 100000 in
theorem c_X0_add (l : Launch) (G : Gam) (σ : St) (h : Nat) (hh : h < 2) (n : Nat) (hn : σ (5 * h + 4) 4 = nI n) (h6 : n < 6) (S : Sk) (hv : VS S) (h3 : S 3 = 0) : Met l yX0_add (w1 yX0_add cX0_add 4 (some (.object "StickWays$Stick"))) ({ frames := 4, cells := 0, slots := 0, locals := 85 }) (PcX G σ [.ref (ga G (5 * h + 4)), .int (nI (S 0)), .int (nI (S 1))]) (QrX G (3 * (6 * h + n) + 14) (fun σ9 => AE σ h n S σ9)) 0 0 (aX G) := by
  refine met_of [.ref (ga G (5 * h + 4)), .int (nI (S 0)), .int (nI (S 1))] [(0, .ref (ga G (5 * h + 4))), (1, .int (nI (S 0))), (2, .int (nI (S 1)))] (by decide) (Nat.le_of_ble_eq_true rfl) rfl ?_
  intro p e s m below meth c hx hb hr hown hml hlocks hW ls hl
  have hG : GW s := hW.2.2.2.1
  have hS : va_S (aX G) s.heap s.heap [] := va_S.rf
  refine lv_aload_n hx hb dX0_add_0 rfl (lv_at hl 0 rfl) ?_
  refine rd_X0_31 hx hb hown hW hh dX0_add_1 ?_
  refine lv_eqi (y := nI n) hn ?_
  refine lv_bipush (v := 6) hx hb dX0_add_4 (by decide) ?_
  refine lv_icmp_lt (tgt := 11) hx hb dX0_add_6 (by decide) (fun c_6 => ?_) (fun c_6 => ?_)
  · skip
    have q_6 := tN_lt n 6 c_6 rfl rfl (by omega) (by omega)
    refine lv_aload_n hx hb dX0_add_11 rfl (lv_at hl 0 rfl) ?_
    refine rd_X0_11 hx hb hown hW hh dX0_add_12 ?_
    refine lv_aload_n hx hb dX0_add_15 rfl (lv_at hl 0 rfl) ?_
    refine rd_X0_31 hx hb hown hW hh dX0_add_16 ?_
    refine lv_eqi (y := nI n) hn ?_
    refine al_sticks (k := n) hx hb hW hh rfl (by omega) dX0_add_19 ?_
    refine lv_astore_n (lv' := [(3, .ref (ga G (3 * (6 * h + n) + 14))), (0, .ref (ga G (5 * h + 4))), (1, .int (nI (S 0))), (2, .int (nI (S 1)))]) hx hb dX0_add_20 rfl hl (by decide) rfl (fun ls hl => ?_)
    refine lv_aload_n hx hb dX0_add_21 rfl (lv_at hl 0 rfl) ?_
    refine lv_iload_n hx hb dX0_add_22 rfl (lv_at hl 2 rfl) ?_
    refine lv_iload_n hx hb dX0_add_23 rfl (lv_at hl 3 rfl) ?_
    refine cw_v (q := 302) [.int (nI (S 0)), .int (nI (S 1))] hx hb hml hown hW.2 hS v_X2_startAnew (by decide +kernel) (c_X2_startAnew l G σ (6 * h + n) (by omega) S hv h3) (preK hW (by omega) _) rfl hl.1 (Nat.le_of_ble_eq_true rfl) dX0_add_24 ⟨rfl, rfl, Nat.le_of_ble_eq_true rfl, Nat.le_of_ble_eq_true rfl⟩ ⟨Nat.le_of_ble_eq_true rfl, Nat.le_of_ble_eq_true rfl⟩ (fun σ1 H locs hσ1 hW hS => ?_)
    refine lv_aload_n hx hb dX0_add_27 rfl (lv_at hl 1 rfl) ?_
    refine rd_X0_18 hx hb hown hW hh dX0_add_28 ?_
    refine lv_aload_n hx hb dX0_add_31 rfl (lv_at hl 1 rfl) ?_
    refine rd_X0_31 hx hb hown hW hh dX0_add_32 ?_
    refine lv_eqi (y := nI n) (by rw [hσ1.1 _ (by omega) (by omega) (by omega)]; exact hn) ?_
    refine lv_iconst (v := 0) hx hb dX0_add_35 (by decide) ?_
    refine as_lateBy (k := n) hx hb hW hS hh rfl (by omega) dX0_add_36 (fun H locs hW hS => ?_)
    obtain ⟨σ2, hσ2⟩ : ∃ z, z = up2 σ1 (5 * h + 6) n 0 := ⟨_, rfl⟩
    rw [← hσ2] at hW
    refine lv_aload_n hx hb dX0_add_37 rfl (lv_at hl 1 rfl) ?_
    refine lv_dup hx hb dX0_add_38 rfl ?_
    refine rd_X0_31 hx hb hown hW hh dX0_add_39 ?_
    refine lv_eqi (y := nI n) (by subst hσ2; rw [up2_nr (by omega), hσ1.1 _ (by omega) (by omega) (by omega)]; exact hn) ?_
    refine lv_iconst (v := 1) hx hb dX0_add_42 (by decide) ?_
    refine ln_add n 1 hx hb rfl rfl dX0_add_43 ?_
    refine wr_X0_31 hx hb hown hW hS hh dX0_add_44 (fun H locs hW hS => ?_)
    obtain ⟨σ3, hσ3⟩ : ∃ z, z = up2 σ2 (5 * h + 4) 4 (nI (n + 1)) := ⟨_, rfl⟩
    rw [← hσ3] at hW
    refine lv_aload_n hx hb dX0_add_47 rfl (lv_at hl 0 rfl) ?_
    exact W.aret (v := .ref (ga G (3 * (6 * h + n) + 14))) hx hb hr (Or.inl ⟨_, rfl⟩) (Or.inr ⟨_, rfl⟩) (fun t9 ht9 hW9 => ⟨⟨σ3, _, rfl, (by subst hσ3; subst hσ2; exact AE.of hh hσ1), rfl, (by have h8 := hW.1; rw [← ht9] at h8; exact h8)⟩, hS.F ht9⟩) hS.2.2 dX0_add_48
  · skip
    exact absurd (tN_nlt n 6 c_6 rfl rfl (by omega) (by omega)) (by omega)
set_option maxHeartbeats 4000000 in
set_option maxRecDepth 100000 in
theorem c_X0_divide (l : Launch) (G : Gam) (σ : St) (h : Nat) (hh : h < 2) (n : Nat) (S : Nat → Sk) (q : Nat) (V : Nat → Nat) (ch : Int32) (hg : GH σ h n S q V ch) (k t : Nat) (hk : k < n) (h6 : n < 6) (ht : 1 ≤ t) (ht2 : t < S k 3) : Met l yX0_divide (w1 yX0_divide cX0_divide 6 none) ({ frames := 5, cells := 0, slots := 0, locals := 108 }) (PcX G σ [.ref (ga G (5 * h + 4)), .int (nI k), .int (nI t)]) (QvX G (fun σ9 => GH σ9 h (n + 1) (putS (putS S n (SR (S k) t (S k 3 - t))) k (SF (S k) t)) q V ch ∧ FH σ h σ9 ∧ (AX σ → AX σ9))) 0 0 (aX G) := by
  refine met_of [.ref (ga G (5 * h + 4)), .int (nI k), .int (nI t)] [(0, .ref (ga G (5 * h + 4))), (1, .int (nI k)), (2, .int (nI t))] (by decide) (Nat.le_of_ble_eq_true rfl) rfl ?_
  intro p e s m below meth c hx hb hr hown hml hlocks hW ls hl
  have hG : GW s := hW.2.2.2.1
  have hS : va_S (aX G) s.heap s.heap [] := va_S.rf
  have hn6 := hg.1.2
  have hq8 := hg.2.2.1.2
  have hvk := (hg.2.2.2.1 k hk).1
  have hk5 := hvk.2.2.1
  refine lv_aload_n hx hb dX0_divide_0 rfl (lv_at hl 0 rfl) ?_
  refine rd_X0_11 hx hb hown hW hh dX0_divide_1 ?_
  refine lv_iload_n hx hb dX0_divide_4 rfl (lv_at hl 1 rfl) ?_
  refine al_sticks (k := k) hx hb hW hh rfl (by omega) dX0_divide_5 ?_
  refine lv_astore_n (lv' := [(3, .ref (ga G (3 * (6 * h + k) + 14))), (0, .ref (ga G (5 * h + 4))), (1, .int (nI k)), (2, .int (nI t))]) hx hb dX0_divide_6 rfl hl (by decide) rfl (fun ls hl => ?_)
  refine lv_aload_n hx hb dX0_divide_7 rfl (lv_at hl 1 rfl) ?_
  refine lv_aload_n hx hb dX0_divide_8 rfl (lv_at hl 0 rfl) ?_
  refine rd_X0_59 hx hb hown hW (by omega) dX0_divide_9 ?_
  refine lv_eqi (y := nI (S k 0)) (hg.2.2.2.1 k hk).2.1.1 ?_
  refine lv_aload_n hx hb dX0_divide_12 rfl (lv_at hl 0 rfl) ?_
  refine lv_iload_n hx hb dX0_divide_13 rfl (lv_at hl 3 rfl) ?_
  refine cr_i (q := 411) [.int (nI t)] hx hb hml hown hG v_X2_placeBehind (by decide +kernel) (c_X2_placeBehind l G σ (6 * h + k) (by omega) (S k) (hg.2.2.2.1 k (by omega)).1 (hg.2.2.2.1 k (by omega)).2.1 t (by omega)) (preK hW (by omega) _) rfl hl.1 (Nat.le_of_ble_eq_true rfl) dX0_divide_14 ⟨rfl, rfl, Nat.le_of_ble_eq_true rfl, Nat.le_of_ble_eq_true rfl⟩ ⟨Nat.le_of_ble_eq_true rfl, Nat.le_of_ble_eq_true rfl⟩ ?_
  refine cw_r (q := 415) [.int (nI (S k 0)), .int (nI (plainN (S k) t))] hx hb hml hown hW.2 hS v_X0_add (by decide +kernel) (c_X0_add l G σ h hh n hg.1.1 h6 (SR (S k) t 0) (SR_vs hvk (by omega)) rfl) (preH hW hh _) rfl hl.1 (Nat.le_of_ble_eq_true rfl) dX0_divide_17 ⟨rfl, rfl, Nat.le_of_ble_eq_true rfl, Nat.le_of_ble_eq_true rfl⟩ ⟨Nat.le_of_ble_eq_true rfl, Nat.le_of_ble_eq_true rfl⟩ (fun σ1 H locs hσ1 hW hS => ?_)
  refine lv_astore (lv' := [(4, .ref (ga G (3 * (6 * h + n) + 14))), (3, .ref (ga G (3 * (6 * h + k) + 14))), (0, .ref (ga G (5 * h + 4))), (1, .int (nI k)), (2, .int (nI t))]) hx hb dX0_divide_20 hl (by decide) rfl (fun ls hl => ?_)
  refine lv_aload hx hb dX0_divide_22 (lv_at hl 0 rfl) ?_
  refine lv_ifnonnull (tgt := 28) hx hb dX0_divide_24 (by decide) ?_
  refine lv_iload_n hx hb dX0_divide_28 rfl (lv_at hl 4 rfl) ?_
  refine lv_istore (lv' := [(5, .int (nI t)), (4, .ref (ga G (3 * (6 * h + n) + 14))), (3, .ref (ga G (3 * (6 * h + k) + 14))), (0, .ref (ga G (5 * h + 4))), (1, .int (nI k)), (2, .int (nI t))]) hx hb dX0_divide_29 hl (by decide) rfl (fun ls hl => ?_)
  have loop_31 : ∀ (N9 : Nat) (i : Nat) (io : Int32) (σw : St) (H : Heap) (locs : List Loc), S k 3 - i < N9 → io = nI i → t ≤ i → i ≤ S k 3 → WX G σw s H → va_S (aX G) s.heap H locs → AE σ h n (SR (S k) t (i - t)) σw → ∀ ls : Array Slot, lv_has ls 6 [(5, .int io), (4, .ref (ga G (3 * (6 * h + n) + 14))), (3, .ref (ga G (3 * (6 * h + k) + 14))), (0, .ref (ga G (5 * h + 4))), (1, .int (nI k)), (2, .int (nI t))] → W p l e (headSpec (w1 yX0_divide cX0_divide 6 none) ({ frames := 5, cells := 0, slots := 0, locals := 108 })).room s m [.ref (ga G (5 * h + 4)), .int (nI k), .int (nI t)].toArray below meth c H locs 0 0 (MQ below (QvX G (fun σ9 => GH σ9 h (n + 1) (putS (putS S n (SR (S k) t (S k 3 - t))) k (SF (S k) t)) q V ch ∧ FH σ h σ9 ∧ (AX σ → AX σ9))) [.ref (ga G (5 * h + 4)), .int (nI k), .int (nI t)].toArray s 0 0 (aX G)) (F0 m 31 ls []) := by
    intro N9
    induction N9 with
    | zero => intro i io σw H locs hN; exact absurd hN (Nat.not_lt_zero _)
    | succ N9 ih =>
      intro i io σw H locs hN e_io hi0_31 hi1_31 hW hS hw0_31 ls hl
      subst e_io
      have ih_31 := ih
      have hgk := hw0_31.gs hh (j := 6 * h + k) (by omega) h6 (by omega) (hg.2.2.2.1 k hk).2.1
      refine lv_iload hx hb dX0_divide_31 (lv_at hl 0 rfl) ?_
      refine lv_aload_n hx hb dX0_divide_33 rfl (lv_at hl 2 rfl) ?_
      refine rd_X0_70 hx hb hown hW (by omega) dX0_divide_34 ?_
      refine lv_eqi (y := nI (S k 3)) hgk.2.2.1 ?_
      refine lv_icmp_ge (tgt := 57) hx hb dX0_divide_37 (by decide) (fun c_37 => ?_) (fun c_37 => ?_)
      · skip
        have q_37 := tN_le (S k 3) i c_37 rfl rfl (by omega) (by omega)
        refine lv_aload_n hx hb dX0_divide_57 rfl (lv_at hl 2 rfl) ?_
        refine lv_iload_n hx hb dX0_divide_58 rfl (lv_at hl 5 rfl) ?_
        refine cw_v (q := 418) [.int (nI t)] hx hb hml hown hW.2 hS v_X2_shortenTo (by decide +kernel) (c_X2_shortenTo l G σw (6 * h + k) (by omega) (S k) hvk hgk (SF (S k) t) (SF_vs hvk (by omega)) rfl rfl t rfl (by omega) (fun x _ => SF_4)) (preK hW (by omega) _) rfl hl.1 (Nat.le_of_ble_eq_true rfl) dX0_divide_59 ⟨rfl, rfl, Nat.le_of_ble_eq_true rfl, Nat.le_of_ble_eq_true rfl⟩ ⟨Nat.le_of_ble_eq_true rfl, Nat.le_of_ble_eq_true rfl⟩ (fun σ2 H locs hσ2 hW hS => ?_)
        exact W.vret hx hb hr (fun t9 ht9 hW9 => ⟨⟨σ2, rfl, (by have h9 : i = S k 3 := (by omega); subst h9; have hvr : VS (SR (S k) t (S k 3 - t)) := SR_vs hvk (by omega); exact ⟨GH.set hh (by omega) (SF_vs hvk (by omega)) (by rw [putS_ne (by omega)]; rfl) hσ2 (hw0_31.gh hh h6 hvr rfl hg), (hw0_31.fh h6).trans (NS.fh (by omega) hσ2), fun z => hσ2.ax (SF_vs hvk (by omega)) (hw0_31.ax hh h6 hvr z)⟩), (by have h8 := hW.1; rw [← ht9] at h8; exact h8)⟩, hS.F ht9⟩) hS.2.2 dX0_divide_62
      · skip
        have q_37 := tN_nle (S k 3) i c_37 rfl rfl (by omega) (by omega)
        refine lv_aload hx hb dX0_divide_40 (lv_at hl 1 rfl) ?_
        refine lv_aload_n hx hb dX0_divide_42 rfl (lv_at hl 2 rfl) ?_
        refine lv_iload hx hb dX0_divide_43 (lv_at hl 0 rfl) ?_
        refine cr_i (q := 416) [.int (nI i)] hx hb hml hown hG v_X2_stepOrNone (by decide +kernel) (c_X2_stepOrNone l G σw (6 * h + k) (by omega) (S k) hvk hgk i (by omega)) (preK hW (by omega) _) rfl hl.1 (Nat.le_of_ble_eq_true rfl) dX0_divide_45 ⟨rfl, rfl, Nat.le_of_ble_eq_true rfl, Nat.le_of_ble_eq_true rfl⟩ ⟨Nat.le_of_ble_eq_true rfl, Nat.le_of_ble_eq_true rfl⟩ ?_
        refine lv_eqi (y := nI (S k (4 + i))) (if_pos q_37) ?_
        refine cw_v (q := 417) [.int (nI (S k (4 + i)))] hx hb hml hown hW.2 hS v_X2_addStep (by decide +kernel) (c_X2_addStep l G σw (6 * h + n) (by omega) (SR (S k) t (i - t)) (SR_vs hvk (by omega)) hw0_31.2.1 (SR (S k) t (i + 1 - t)) (SR_vs hvk (by omega)) (by show i - t < 5; omega) rfl rfl (by show i + 1 - t = i - t + 1; omega) (fun x _ => by rw [SR_4, SR_4]) (S k (4 + i)) (by show SR (S k) t (i + 1 - t) (4 + (i - t)) = _; rw [SR_4, Nat.sub_add_cancel hi0_31])) (preK hW (by omega) _) rfl hl.1 (Nat.le_of_ble_eq_true rfl) dX0_divide_48 ⟨rfl, rfl, Nat.le_of_ble_eq_true rfl, Nat.le_of_ble_eq_true rfl⟩ ⟨Nat.le_of_ble_eq_true rfl, Nat.le_of_ble_eq_true rfl⟩ (fun σ3 H locs hσ3 hW hS => ?_)
        refine lv_iinc (v := nI (i + 1)) (lv' := [(5, .int (nI (i + 1))), (4, .ref (ga G (3 * (6 * h + n) + 14))), (3, .ref (ga G (3 * (6 * h + k) + 14))), (0, .ref (ga G (5 * h + 4))), (1, .int (nI k)), (2, .int (nI t))]) hx hb dX0_divide_51 hl (k := 0) rfl (inc1 i) (by decide) rfl (fun ls hl => ?_)
        refine lv_goto (tgt := 31) hx hb dX0_divide_54 (by decide) ?_
        exact ih_31 (i + 1) _ _ _ _ (by omega) rfl (by omega) (by omega) hW hS (hw0_31.add hh hσ3) ls (lv_sub hl [0, 1, 2, 3, 4, 5] rfl)
  exact loop_31 _ t _ _ _ _ (Nat.lt_succ_self _) rfl (Nat.le_refl _) (by omega) hW hS (by rw [Nat.sub_self]; exact hσ1) ls (lv_sub hl [0, 1, 2, 3, 4, 5] rfl)
set_option maxHeartbeats 4000000 in
set_option maxRecDepth 100000 in
theorem c_X0_copyFrom (l : Launch) (G : Gam) (σ : St) (h o : Nat) (hh : h < 2) (ho : o < 2) (hne : o ≠ h) (hax : AX σ) : Met l yX0_copyFrom (w1 yX0_copyFrom cX0_copyFrom 3 none) ({ frames := 4, cells := 0, slots := 0, locals := 84 }) (PcX G σ [.ref (ga G (5 * h + 4)), .ref (ga G (5 * o + 4))]) (QvX G (fun σ9 => CZ σ h o σ9)) 0 0 (aX G) := by
  refine met_of [.ref (ga G (5 * h + 4)), .ref (ga G (5 * o + 4))] [(0, .ref (ga G (5 * h + 4))), (1, .ref (ga G (5 * o + 4)))] (by decide) (Nat.le_of_ble_eq_true rfl) rfl ?_
  intro p e s m below meth c hx hb hr hown hml hlocks hW ls hl
  have hG : GW s := hW.2.2.2.1
  have hS : va_S (aX G) s.heap s.heap [] := va_S.rf
  refine lv_aload_n hx hb dX0_copyFrom_0 rfl (lv_at hl 0 rfl) ?_
  refine lv_aload_n hx hb dX0_copyFrom_1 rfl (lv_at hl 1 rfl) ?_
  refine rd_X0_31 hx hb hown hW ho dX0_copyFrom_2 ?_
  refine wr_X0_31 hx hb hown hW hS hh dX0_copyFrom_5 (fun H locs hW hS => ?_)
  obtain ⟨σ1, hσ1⟩ : ∃ z, z = up2 σ (5 * h + 4) 4 (σ (5 * o + 4) 4) := ⟨_, rfl⟩
  rw [← hσ1] at hW
  refine lv_iconst (v := 0) hx hb dX0_copyFrom_8 (by decide) ?_
  refine lv_istore_n (lv' := [(2, .int 0), (0, .ref (ga G (5 * h + 4))), (1, .ref (ga G (5 * o + 4)))]) hx hb dX0_copyFrom_9 rfl hl (by decide) rfl (fun ls hl => ?_)
  have loop_10 : ∀ (N9 : Nat) (i : Nat) (io : Int32) (σw : St) (H : Heap) (locs : List Loc), 6 - i < N9 → io = nI i → i ≤ 6 → WX G σw s H → va_S (aX G) s.heap H locs → CY σ h o σw i → ∀ ls : Array Slot, lv_has ls 3 [(2, .int io), (0, .ref (ga G (5 * h + 4))), (1, .ref (ga G (5 * o + 4)))] → W p l e (headSpec (w1 yX0_copyFrom cX0_copyFrom 3 none) ({ frames := 4, cells := 0, slots := 0, locals := 84 })).room s m [.ref (ga G (5 * h + 4)), .ref (ga G (5 * o + 4))].toArray below meth c H locs 0 0 (MQ below (QvX G (fun σ9 => CZ σ h o σ9)) [.ref (ga G (5 * h + 4)), .ref (ga G (5 * o + 4))].toArray s 0 0 (aX G)) (F0 m 10 ls []) := by
    intro N9
    induction N9 with
    | zero => intro i io σw H locs hN; exact absurd hN (Nat.not_lt_zero _)
    | succ N9 ih =>
      intro i io σw H locs hN e_io hi0_10 hW hS hw0_10 ls hl
      subst e_io
      have ih_10 := ih
      refine lv_iload_n hx hb dX0_copyFrom_10 rfl (lv_at hl 0 rfl) ?_
      refine lv_bipush (v := 6) hx hb dX0_copyFrom_11 (by decide) ?_
      refine lv_icmp_ge (tgt := 37) hx hb dX0_copyFrom_13 (by decide) (fun c_13 => ?_) (fun c_13 => ?_)
      · skip
        have q_13 := tN_le 6 i c_13 rfl rfl (by omega) (by omega)
        refine lv_aload_n hx hb dX0_copyFrom_37 rfl (lv_at hl 2 rfl) ?_
        refine rd_X0_18 hx hb hown hW ho dX0_copyFrom_38 ?_
        refine lv_iconst (v := 0) hx hb dX0_copyFrom_41 (by decide) ?_
        refine lv_aload_n hx hb dX0_copyFrom_42 rfl (lv_at hl 1 rfl) ?_
        refine rd_X0_18 hx hb hown hW hh dX0_copyFrom_43 ?_
        refine lv_iconst (v := 0) hx hb dX0_copyFrom_46 (by decide) ?_
        refine lv_bipush (v := 6) hx hb dX0_copyFrom_47 (by decide) ?_
        refine x_copy (q := 530) 6 hx hb (hml.trans hl.1.symm) hown hW hS (i0 := 5 * o + 6) (i1 := 5 * h + 6) (by omega) (by omega) (fun r => cX_h6 ho) (fun r => cX_h6 hh) (by omega) (by decide +kernel) (Nat.le_of_ble_eq_true rfl) (Nat.le_of_ble_eq_true rfl) dX0_copyFrom_49 (fun H locs hW hS => ?_)
        obtain ⟨σ2, hσ2⟩ : ∃ z, z = cpy2 σw (5 * o + 6) (5 * h + 6) 6 := ⟨_, rfl⟩
        rw [← hσ2] at hW
        refine lv_aload_n hx hb dX0_copyFrom_52 rfl (lv_at hl 1 rfl) ?_
        refine lv_aload_n hx hb dX0_copyFrom_53 rfl (lv_at hl 2 rfl) ?_
        refine rd_X0_35 hx hb hown hW ho dX0_copyFrom_54 ?_
        refine lv_eqi (y := σ (5 * o + 4) 5) (by subst hσ2; rw [cpy2_ne (by omega), hw0_10.1 _ (by unfold OutH; omega)]) ?_
        refine wr_X0_35 hx hb hown hW hS hh dX0_copyFrom_57 (fun H locs hW hS => ?_)
        obtain ⟨σ3, hσ3⟩ : ∃ z, z = up2 σ2 (5 * h + 4) 5 (σ (5 * o + 4) 5) := ⟨_, rfl⟩
        rw [← hσ3] at hW
        refine lv_aload_n hx hb dX0_copyFrom_60 rfl (lv_at hl 1 rfl) ?_
        refine lv_aload_n hx hb dX0_copyFrom_61 rfl (lv_at hl 2 rfl) ?_
        refine rd_X0_38 hx hb hown hW ho dX0_copyFrom_62 ?_
        refine lv_eqi (y := σ (5 * o + 4) 6) (by subst hσ3; subst hσ2; rw [up2_nr (by omega), cpy2_ne (by omega), hw0_10.1 _ (by unfold OutH; omega)]) ?_
        refine wr_X0_38 hx hb hown hW hS hh dX0_copyFrom_65 (fun H locs hW hS => ?_)
        obtain ⟨σ4, hσ4⟩ : ∃ z, z = up2 σ3 (5 * h + 4) 6 (σ (5 * o + 4) 6) := ⟨_, rfl⟩
        rw [← hσ4] at hW
        refine lv_aload_n hx hb dX0_copyFrom_68 rfl (lv_at hl 2 rfl) ?_
        refine rd_X0_22 hx hb hown hW ho dX0_copyFrom_69 ?_
        refine lv_iconst (v := 0) hx hb dX0_copyFrom_72 (by decide) ?_
        refine lv_aload_n hx hb dX0_copyFrom_73 rfl (lv_at hl 1 rfl) ?_
        refine rd_X0_22 hx hb hown hW hh dX0_copyFrom_74 ?_
        refine lv_iconst (v := 0) hx hb dX0_copyFrom_77 (by decide) ?_
        refine lv_bipush (v := 8) hx hb dX0_copyFrom_78 (by decide) ?_
        refine x_copy (q := 530) 8 hx hb (hml.trans hl.1.symm) hown hW hS (i0 := 5 * o + 7) (i1 := 5 * h + 7) (by omega) (by omega) (fun r => cX_h7 ho) (fun r => cX_h7 hh) (by omega) (by decide +kernel) (Nat.le_of_ble_eq_true rfl) (Nat.le_of_ble_eq_true rfl) dX0_copyFrom_80 (fun H locs hW hS => ?_)
        obtain ⟨σ5, hσ5⟩ : ∃ z, z = cpy2 σ4 (5 * o + 7) (5 * h + 7) 8 := ⟨_, rfl⟩
        rw [← hσ5] at hW
        refine lv_aload_n hx hb dX0_copyFrom_83 rfl (lv_at hl 2 rfl) ?_
        refine rd_X0_25 hx hb hown hW ho dX0_copyFrom_84 ?_
        refine lv_iconst (v := 0) hx hb dX0_copyFrom_87 (by decide) ?_
        refine lv_aload_n hx hb dX0_copyFrom_88 rfl (lv_at hl 1 rfl) ?_
        refine rd_X0_25 hx hb hown hW hh dX0_copyFrom_89 ?_
        refine lv_iconst (v := 0) hx hb dX0_copyFrom_92 (by decide) ?_
        refine lv_bipush (v := 8) hx hb dX0_copyFrom_93 (by decide) ?_
        refine x_copy (q := 530) 8 hx hb (hml.trans hl.1.symm) hown hW hS (i0 := 5 * o + 8) (i1 := 5 * h + 8) (by omega) (by omega) (fun r => cX_h8 ho) (fun r => cX_h8 hh) (by omega) (by decide +kernel) (Nat.le_of_ble_eq_true rfl) (Nat.le_of_ble_eq_true rfl) dX0_copyFrom_95 (fun H locs hW hS => ?_)
        obtain ⟨σ6, hσ6⟩ : ∃ z, z = cpy2 σ5 (5 * o + 8) (5 * h + 8) 8 := ⟨_, rfl⟩
        rw [← hσ6] at hW
        exact W.vret hx hb hr (fun t9 ht9 hW9 => ⟨⟨σ6, rfl, (by have h9 : i = 6 := (by omega); subst h9; subst hσ6; subst hσ5; subst hσ4; subst hσ3; subst hσ2; exact hw0_10.fin hh ho hne), (by have h8 := hW.1; rw [← ht9] at h8; exact h8)⟩, hS.F ht9⟩) hS.2.2 dX0_copyFrom_98
      · skip
        have q_13 := tN_nle 6 i c_13 rfl rfl (by omega) (by omega)
        obtain ⟨Sx, hS1, hS2⟩ := hw0_10.2.2.2.2.2 hax (6 * o + i) (by omega)
        refine lv_aload_n hx hb dX0_copyFrom_16 rfl (lv_at hl 1 rfl) ?_
        refine rd_X0_11 hx hb hown hW hh dX0_copyFrom_17 ?_
        refine lv_iload_n hx hb dX0_copyFrom_20 rfl (lv_at hl 0 rfl) ?_
        refine al_sticks (k := i) hx hb hW hh rfl (by omega) dX0_copyFrom_21 ?_
        refine lv_aload_n hx hb dX0_copyFrom_22 rfl (lv_at hl 2 rfl) ?_
        refine rd_X0_11 hx hb hown hW ho dX0_copyFrom_23 ?_
        refine lv_iload_n hx hb dX0_copyFrom_26 rfl (lv_at hl 0 rfl) ?_
        refine al_sticks (k := i) hx hb hW ho rfl (by omega) dX0_copyFrom_27 ?_
        refine cw_v (q := 523) [.ref (ga G (3 * (6 * o + i) + 14))] hx hb hml hown hW.2 hS v_X2_copyFrom (by decide +kernel) (c_X2_copyFrom l G σw (6 * h + i) (6 * o + i) (by omega) (by omega) (by omega) Sx hS1 hS2) (preK hW (by omega) _) rfl hl.1 (Nat.le_of_ble_eq_true rfl) dX0_copyFrom_28 ⟨rfl, rfl, Nat.le_of_ble_eq_true rfl, Nat.le_of_ble_eq_true rfl⟩ ⟨Nat.le_of_ble_eq_true rfl, Nat.le_of_ble_eq_true rfl⟩ (fun σ7 H locs hσ7 hW hS => ?_)
        refine lv_iinc (v := nI (i + 1)) (lv' := [(2, .int (nI (i + 1))), (0, .ref (ga G (5 * h + 4))), (1, .ref (ga G (5 * o + 4)))]) hx hb dX0_copyFrom_31 hl (k := 0) rfl (inc1 i) (by decide) rfl (fun ls hl => ?_)
        refine lv_goto (tgt := 10) hx hb dX0_copyFrom_34 (by decide) ?_
        exact ih_10 (i + 1) _ _ _ _ (by omega) rfl (by omega) hW hS (hw0_10.step hh ho hne (by omega) hS1 hS2 hσ7) ls (lv_sub hl [0, 1, 2] rfl)
  exact loop_10 _ 0 _ _ _ _ (Nat.lt_succ_self _) rfl (by omega) hW hS (by subst hσ1; exact ⟨fun a ha => up2_ne (by unfold OutH at ha; omega), fun a b1 b2 => up2_ne (by omega), fun f hf => up2_nf hf, up2_eq, fun k hk => absurd hk (by omega), fun z i hi => by obtain ⟨S, h1, h2⟩ := z i hi; exact ⟨S, h1, h2.keep (up2_ne (by omega)) (up2_ne (by omega))⟩⟩) ls (lv_sub hl [0, 1, 2] rfl)
end
section
/-! ===== what each call answers, as both sides have it ===== -/
theorem hasB_c (x : Int32) {n : Nat} (hn : n < 2 ^ 31) : hasB x n = false ∨ ∃ k, k < n ∧ x = nI k := by
  cases h : hasB x n
  · exact Or.inl rfl
  · exact Or.inr (hasB_t hn h)
theorem hB_of {x : Int32} {n : Nat} (h0 : ¬ x < 0) (h1 : ¬ nI n ≤ x) : hasB x n = true := by simp only [hasB, decide_eq_true_eq]; exact ⟨h0, h1⟩
theorem hB_ff {x : Int32} {n : Nat} (h : hasB x n = false) : x < 0 ∨ nI n ≤ x := by
  by_cases h0 : x < 0
  · exact Or.inl h0
  · by_cases h1 : nI n ≤ x
    · exact Or.inr h1
    · rw [hB_of h0 h1] at h; exact absurd h (by decide)
theorem i_lt (x y : Int32) : x < y ↔ x.toInt < y.toInt := Int32.lt_iff_toInt_lt
theorem i_le (x y : Int32) : x ≤ y ↔ x.toInt ≤ y.toInt := Int32.le_iff_toInt_le
/-- x ≤ n as x < n + 1 -/
theorem hB_le {x : Int32} (n : Nat) (hn : n < 1000000) (h0 : ¬ x < 0) (h1 : x ≤ nI n) : hasB x (n + 1) = true := by
  refine hB_of h0 ?_
  rw [i_le] at h1 ⊢
  rw [nI_toInt (by omega)] at h1
  rw [nI_toInt (by omega)]
  omega
theorem hB_lt {x : Int32} (n : Nat) (h0 : ¬ x < 0) (h1 : x < nI n) : hasB x n = true := by
  refine hB_of h0 ?_
  rw [i_le]; rw [i_lt] at h1
  omega
theorem hB_nle {x : Int32} (n : Nat) (hn : n < 1000000) (h0 : ¬ x < 0) (h1 : ¬ nI n < x) : hasB x (n + 1) = true := by
  refine hB_le n hn h0 ?_
  rw [i_le]; rw [i_lt] at h1
  omega
theorem nlt_mono {x : Int32} (n : Nat) (hn : n < 1000000) (h : ¬ x < nI n) : ¬ x < 0 := by
  rw [i_lt] at h ⊢
  rw [nI_toInt (by omega)] at h
  show ¬ x.toInt < 0
  omega
theorem hB_out {x : Int32} (n m : Nat) (hn : m < n) (hn2 : n < 1000000) (h : hasB x n = false) : x.toInt < 0 ∨ (m : Int) < x.toInt := by
  rcases hB_ff h with q | q
  · left; rw [i_lt] at q; exact q
  · right; rw [i_le, nI_toInt (by omega)] at q; omega
theorem hB30 (x : Int32) : decide (¬ x < 0 ∧ ¬ 30 < x) = hasB x 31 := by
  cases h : hasB x 31
  · rcases hB_ff h with q | q
    · simp [q]
    · have : (30 : Int32) < x := by
        rw [i_lt]; rw [i_le] at q
        have e : (nI 31).toInt = 31 := nI_toInt (by omega)
        rw [e] at q
        show (30 : Int) < _
        omega
      simp [this]
  · obtain ⟨k, hk, rfl⟩ := hasB_t (by omega) h
    have h1 : ¬ nI k < 0 := nI_pos (by omega)
    have h2 : ¬ (30 : Int32) < nI k := nI_nlt (a := 30) (b := k) (by omega) (by omega)
    simp [h1, h2]
theorem hB16 (x : Int32) : decide (¬ x < 0 ∧ ¬ 16 ≤ x) = hasB x 16 := rfl
/-- f of the number x is below n, else d -/
def wK (x : Int32) (n : Nat) (f : Nat → Int32) (d : Int32) : Int32 := if hasB x n = true then f x.toNatClampNeg else d
theorem wK_f {x : Int32} {n : Nat} {f : Nat → Int32} {d : Int32} (h : hasB x n = false) : wK x n f d = d := by unfold wK; rw [h]; rfl
theorem wK_k {k n : Nat} {f : Nat → Int32} {d : Int32} (hk : k < n) (hn : n < 2 ^ 31) : wK (nI k) n f d = f k := by
  unfold wK; rw [if_pos (hasB_k hk hn), nI_clamp (by omega)]
/-- the walk is over before hour 30, whatever the lateness -/
theorem posN_end {S : Sk} (h : S 3 ≤ 5) : ∀ t, hwN (S 0) (S 3) ≤ t → posN S t = posN S (hwN (S 0) (S 3)) := by
  intro t
  induction t with
  | zero => intro ht; have : hwN (S 0) (S 3) = 0 := by omega
            rw [this]
  | succ t ih =>
    intro ht
    by_cases e : hwN (S 0) (S 3) = t + 1
    · rw [e]
    · rw [posN, if_neg (fun z => by omega)]; exact ih (by omega)
theorem bit_or (a b i : Nat) : (a ||| b).testBit i = (a.testBit i || b.testBit i) := Nat.testBit_or a b i
theorem orN_bit {f : Nat → Nat} {i : Nat} : ∀ n, (orN f n).testBit i = true ↔ ∃ t, t < n ∧ f t = i := by
  intro n
  induction n with
  | zero => simp [orN]
  | succ n ih =>
    unfold orN
    rw [bit_or, Bool.or_eq_true, ih, Nat.testBit_two_pow, decide_eq_true_eq]
    constructor
    · rintro (⟨t, h1, h2⟩ | h)
      · exact ⟨t, by omega, h2⟩
      · exact ⟨n, by omega, h⟩
    · rintro ⟨t, h1, h2⟩
      by_cases e : t = n
      · subst e; exact Or.inr h2
      · exact Or.inl ⟨t, by omega, h2⟩
theorem orN_at {S : Sk} (h3 : S 3 ≤ 5) (h2 : S 2 ≤ 9) : orN (atN S) 31 = orN (posN S) 31 := by
  have hw := hw_20 (K := S 0) h3
  apply Nat.eq_of_testBit_eq
  intro i
  have key : (orN (atN S) 31).testBit i = true ↔ (orN (posN S) 31).testBit i = true := by
    rw [orN_bit, orN_bit]
    constructor
    · rintro ⟨t, h1, rfl⟩
      exact ⟨t - S 2, by omega, rfl⟩
    · rintro ⟨t, h1, rfl⟩
      by_cases e : t + S 2 < 31
      · exact ⟨t + S 2, e, by show posN S (t + S 2 - S 2) = _; rw [Nat.add_sub_cancel]⟩
      · refine ⟨30, by omega, ?_⟩
        show posN S (30 - S 2) = _
        rw [posN_end h3 (30 - S 2) (by omega), posN_end h3 t (by omega)]
  cases q1 : (orN (atN S) 31).testBit i <;> cases q2 : (orN (posN S) 31).testBit i <;> simp_all
def tellN (S : Sk) : Nat → Int32
  | 0 => nI (S 0)
  | 1 => nI (S 1)
  | 2 => nI (S 3)
  | 3 => nI (S 2)
  | 4 => nI (S 2 + hwN (S 0) (S 3))
  | 5 => nI (posN S 30)
  | 6 => nI (popN (orN (posN S) 31))
  | 7 => -102
  | 8 => -102
  | 9 => -102
  | f + 10 => if f < S 3 then nI (S (4 + f)) else -1
def aStick (n : Nat) (S : Nat → Sk) (x w : Int32) : Int32 := wK x n (fun k => wK w 15 (tellN (S k)) (-102)) (-101)
def aAs (n : Nat) (S : Nat → Sk) (x w : Int32) : Int32 := wK x n (fun k => wK w 5 (fun t => if isK (S k 0) t = true then nI k else -1) (-102)) (-101)
def aAt (n : Nat) (S : Nat → Sk) (x w : Int32) : Int32 := wK x n (fun k => wK w 31 (fun t => nI (atN (S k) t)) (-102)) (-101)
/-- two different sticks -/
def w2 (x y : Int32) (n : Nat) (f : Nat → Nat → Int32) : Int32 := wK x n (fun a => wK y n (fun b => if a = b then -101 else f a b) (-101)) (-101)
def aMeet (n : Nat) (S : Nat → Sk) (x y : Int32) : Int32 := w2 x y n (fun a b => nI (meL S (fun i => S i 2) a b))
def ltF (M : Nat → Nat) : Nat → Nat → Int32
  | 0, _ => -1
  | k + 1, h => if 0 < M h then nI h else ltF M k (h + 1)
def laM (S : Nat → Sk) (a b v : Nat) : Nat := meetN (atN (S a)) (fun t => posN (S b) (t - v)) 31
def aLater (n : Nat) (S : Nat → Sk) (x y : Int32) : Int32 := w2 x y n (fun a b => ltF (laM S a b) 10 0)
def covA (P : Nat → Nat) (n W u : Nat) : Int32 := match cvN P n W (2 ^ n) with
  | none => -1
  | some b => if u = 1 then nI b else nI (popN b)
abbrev PL (S : Nat → Sk) : Nat → Nat := fun i => orN (posN (S i)) 31
def aCover (n : Nat) (S : Nat → Sk) (x w : Int32) : Int32 := wK x 65536 (fun W => wK w 2 (fun u => if n = 0 then -103 else covA (PL S) n W u) (-102)) (-102)
def aCatch (n : Nat) (S : Nat → Sk) (x y : Int32) : Int32 := wK y n (fun k => wK x 16 (fun P => nI (catN (atN (S k)) P)) (-102)) (-101)
abbrev OKf (S : Nat → Sk) (q : Nat) (V : Nat → Nat) : Nat → Bool := fun i => okN (atN (S i)) V q
def aWhose (n : Nat) (S : Nat → Sk) (q : Nat) (V : Nat → Nat) : Int32 := if n = 0 then -103 else nI (whN (OKf S q V) n)
abbrev MLf (S : Nat → Sk) (n C : Nat) : Nat → Nat := fun t => mlN C (fun i => atN (S i) t) n n
def aLook (n : Nat) (S : Nat → Sk) (q : Nat) (V : Nat → Nat) : Int32 := if n = 0 then -103 else if whN (OKf S q V) n = 0 then -1 else nI (lkN (MLf S n (whN (OKf S q V) n)) 30).1
theorem w2_f1 {x y : Int32} {n : Nat} {f : Nat → Nat → Int32} (h : hasB x n = false) : w2 x y n f = -101 := wK_f h
theorem w2_f2 {k n : Nat} {y : Int32} {f : Nat → Nat → Int32} (hk : k < n) (hn : n < 2 ^ 31) (h : hasB y n = false) : w2 (nI k) y n f = -101 := (wK_k hk hn).trans (wK_f h)
theorem w2_e {k n : Nat} {f : Nat → Nat → Int32} (hk : k < n) (hn : n < 2 ^ 31) : w2 (nI k) (nI k) n f = -101 := by
  rw [w2, wK_k hk hn, wK_k hk hn, if_pos rfl]
theorem w2_k {a b n : Nat} {f : Nat → Nat → Int32} (ha : a < n) (hb : b < n) (hn : n < 2 ^ 31) (h : a ≠ b) : w2 (nI a) (nI b) n f = f a b := by
  rw [w2, wK_k ha hn, wK_k hb hn, if_neg h]
end
section
set_option maxHeartbeats 4000000 in
set_option maxRecDepth 100000 in
theorem c_X3_at (l : Launch) (G : Gam) (σ : St) (n : Nat) (S : Nat → Sk) (q : Nat) (V : Nat → Nat) (ch : Int32) (hg : GH σ 0 n S q V ch) (x y : Int32) : Met l yX3_at (w1 yX3_at cX3_at 3 (some .int)) ({ frames := 2, cells := 0, slots := 0, locals := 45 }) (PcX G σ [.ref (ga G 0), .int x, .int y]) (vp_Si (fun r => r = aAt n S x y)) 0 0 (fun _ => False) := by
  have hn6 := hg.1.2
  have hq8 := hg.2.2.1.2
  rcases hasB_c x (n := n) (by omega) with hx0 | ⟨k, hk, rfl⟩
  · skip
    refine met_of [.ref (ga G 0), .int x, .int y] [(0, .ref (ga G 0)), (1, .int x), (2, .int y)] (by decide) (Nat.le_of_ble_eq_true rfl) rfl ?_
    intro p e s m below meth c hx hb hr hown hml hlocks hW ls hl
    have hG : GW s := hW.2.2.2.1
    refine lv_aload_n hx hb dX3_at_0 rfl (lv_at hl 0 rfl) ?_
    refine rd_X3_19 hx hb hown hW dX3_at_1 ?_
    refine lv_iload_n hx hb dX3_at_4 rfl (lv_at hl 1 rfl) ?_
    refine cr_i (q := 337) [.int x] hx hb hml hown hG v_X0_has (by decide +kernel) (c_X0_has l G σ 0 (by omega) n S q V ch hg (x)) (preH hW (show 0 < 2 by omega) _) rfl hl.1 (Nat.le_of_ble_eq_true rfl) dX3_at_5 ⟨rfl, rfl, Nat.le_of_ble_eq_true rfl, Nat.le_of_ble_eq_true rfl⟩ ⟨Nat.le_of_ble_eq_true rfl, Nat.le_of_ble_eq_true rfl⟩ ?_
    refine lv_eqi (y := 0) (by rw [hx0]; rfl) ?_
    refine lv_if_ne (tgt := 14) hx hb dX3_at_8 (by decide) (fun c_8 => ?_) (fun c_8 => ?_)
    · skip
      exact absurd (by decide) c_8
    · skip
      refine lv_bipush (v := (-101)) hx hb dX3_at_11 (by decide) ?_
      exact W.iret (v := (-101)) hx hb hr (fun t9 ht9 hW9 => ⟨_, rfl, (wK_f hx0).symm, ht9⟩) (fun q h => by cases h) dX3_at_13
  · skip
    rcases hasB_c y (n := 31) (by omega) with hy0 | ⟨t, ht, rfl⟩
    · skip
      refine met_of [.ref (ga G 0), .int (nI k), .int y] [(0, .ref (ga G 0)), (1, .int (nI k)), (2, .int y)] (by decide) (Nat.le_of_ble_eq_true rfl) rfl ?_
      intro p e s m below meth c hx hb hr hown hml hlocks hW ls hl
      have hG : GW s := hW.2.2.2.1
      refine lv_aload_n hx hb dX3_at_0 rfl (lv_at hl 0 rfl) ?_
      refine rd_X3_19 hx hb hown hW dX3_at_1 ?_
      refine lv_iload_n hx hb dX3_at_4 rfl (lv_at hl 1 rfl) ?_
      refine cr_i (q := 337) [.int (nI k)] hx hb hml hown hG v_X0_has (by decide +kernel) (c_X0_has l G σ 0 (by omega) n S q V ch hg (nI k)) (preH hW (show 0 < 2 by omega) _) rfl hl.1 (Nat.le_of_ble_eq_true rfl) dX3_at_5 ⟨rfl, rfl, Nat.le_of_ble_eq_true rfl, Nat.le_of_ble_eq_true rfl⟩ ⟨Nat.le_of_ble_eq_true rfl, Nat.le_of_ble_eq_true rfl⟩ ?_
      refine lv_eqi (y := 1) (by rw [hasB_k hk (by omega)]; rfl) ?_
      refine lv_if_ne (tgt := 14) hx hb dX3_at_8 (by decide) (fun c_8 => ?_) (fun c_8 => ?_)
      · skip
        refine lv_iload_n hx hb dX3_at_14 rfl (lv_at hl 2 rfl) ?_
        refine cs_i (q := 366) [.int y] hx hb hml hown hG v_X3_isHour (by decide +kernel) (c_X3_isHour l (y)) (preT _) rfl hl.1 (Nat.le_of_ble_eq_true rfl) dX3_at_15 ⟨rfl, rfl, Nat.le_of_ble_eq_true rfl, Nat.le_of_ble_eq_true rfl⟩ ⟨Nat.le_of_ble_eq_true rfl, Nat.le_of_ble_eq_true rfl⟩ ?_
        refine lv_eqi (y := 0) (by rw [hB30, hy0]; rfl) ?_
        refine lv_if_eq (tgt := 33) hx hb dX3_at_18 (by decide) (fun c_18 => ?_) (fun c_18 => ?_)
        · skip
          refine lv_bipush (v := (-102)) hx hb dX3_at_33 (by decide) ?_
          exact W.iret (v := (-102)) hx hb hr (fun t9 ht9 hW9 => ⟨_, rfl, (by rw [aAt, wK_k hk (by omega), wK_f hy0]), ht9⟩) (fun q h => by cases h) dX3_at_35
        · skip
          exact absurd (by decide) c_18
      · skip
        exact absurd c_8 (by decide)
    · skip
      refine met_of [.ref (ga G 0), .int (nI k), .int (nI t)] [(0, .ref (ga G 0)), (1, .int (nI k)), (2, .int (nI t))] (by decide) (Nat.le_of_ble_eq_true rfl) rfl ?_
      intro p e s m below meth c hx hb hr hown hml hlocks hW ls hl
      have hG : GW s := hW.2.2.2.1
      refine lv_aload_n hx hb dX3_at_0 rfl (lv_at hl 0 rfl) ?_
      refine rd_X3_19 hx hb hown hW dX3_at_1 ?_
      refine lv_iload_n hx hb dX3_at_4 rfl (lv_at hl 1 rfl) ?_
      refine cr_i (q := 337) [.int (nI k)] hx hb hml hown hG v_X0_has (by decide +kernel) (c_X0_has l G σ 0 (by omega) n S q V ch hg (nI k)) (preH hW (show 0 < 2 by omega) _) rfl hl.1 (Nat.le_of_ble_eq_true rfl) dX3_at_5 ⟨rfl, rfl, Nat.le_of_ble_eq_true rfl, Nat.le_of_ble_eq_true rfl⟩ ⟨Nat.le_of_ble_eq_true rfl, Nat.le_of_ble_eq_true rfl⟩ ?_
      refine lv_eqi (y := 1) (by rw [hasB_k hk (by omega)]; rfl) ?_
      refine lv_if_ne (tgt := 14) hx hb dX3_at_8 (by decide) (fun c_8 => ?_) (fun c_8 => ?_)
      · skip
        refine lv_iload_n hx hb dX3_at_14 rfl (lv_at hl 2 rfl) ?_
        refine cs_i (q := 366) [.int (nI t)] hx hb hml hown hG v_X3_isHour (by decide +kernel) (c_X3_isHour l (nI t)) (preT _) rfl hl.1 (Nat.le_of_ble_eq_true rfl) dX3_at_15 ⟨rfl, rfl, Nat.le_of_ble_eq_true rfl, Nat.le_of_ble_eq_true rfl⟩ ⟨Nat.le_of_ble_eq_true rfl, Nat.le_of_ble_eq_true rfl⟩ ?_
        refine lv_eqi (y := 1) (by rw [hB30, hasB_k ht (by omega)]; rfl) ?_
        refine lv_if_eq (tgt := 33) hx hb dX3_at_18 (by decide) (fun c_18 => ?_) (fun c_18 => ?_)
        · skip
          exact absurd c_18 (by decide)
        · skip
          refine lv_aload_n hx hb dX3_at_21 rfl (lv_at hl 0 rfl) ?_
          refine rd_X3_19 hx hb hown hW dX3_at_22 ?_
          refine lv_iload_n hx hb dX3_at_25 rfl (lv_at hl 1 rfl) ?_
          refine lv_iload_n hx hb dX3_at_26 rfl (lv_at hl 2 rfl) ?_
          refine cr_i (q := 369) [.int (nI k), .int (nI t)] hx hb hml hown hG v_X0_placeAt (by decide +kernel) (c_X0_placeAt l G σ 0 (by omega) n S q V ch hg k t hk (by omega)) (preH hW (show 0 < 2 by omega) _) rfl hl.1 (Nat.le_of_ble_eq_true rfl) dX3_at_27 ⟨rfl, rfl, Nat.le_of_ble_eq_true rfl, Nat.le_of_ble_eq_true rfl⟩ ⟨Nat.le_of_ble_eq_true rfl, Nat.le_of_ble_eq_true rfl⟩ ?_
          refine lv_goto (tgt := 35) hx hb dX3_at_30 (by decide) ?_
          exact W.iret (v := nI (posN (S k) (t - S k 2))) hx hb hr (fun t9 ht9 hW9 => ⟨_, rfl, (by rw [aAt, wK_k hk (by omega), wK_k ht (by omega)]), ht9⟩) (fun q h => by cases h) dX3_at_35
      · skip
        exact absurd c_8 (by decide)
set_option maxHeartbeats 4000000 in
set_option maxRecDepth 100000 in
theorem c_X3_meet (l : Launch) (G : Gam) (σ : St) (n : Nat) (S : Nat → Sk) (q : Nat) (V : Nat → Nat) (ch : Int32) (hg : GH σ 0 n S q V ch) (x y : Int32) : Met l yX3_meet (w1 yX3_meet cX3_meet 3 (some .int)) ({ frames := 2, cells := 0, slots := 0, locals := 49 }) (PcX G σ [.ref (ga G 0), .int x, .int y]) (vp_Si (fun r => r = aMeet n S x y)) 0 0 (fun _ => False) := by
  have hn6 := hg.1.2
  have hq8 := hg.2.2.1.2
  rcases hasB_c x (n := n) (by omega) with hx0 | ⟨k, hk, rfl⟩
  · skip
    refine met_of [.ref (ga G 0), .int x, .int y] [(0, .ref (ga G 0)), (1, .int x), (2, .int y)] (by decide) (Nat.le_of_ble_eq_true rfl) rfl ?_
    intro p e s m below meth c hx hb hr hown hml hlocks hW ls hl
    have hG : GW s := hW.2.2.2.1
    refine lv_aload_n hx hb dX3_meet_0 rfl (lv_at hl 0 rfl) ?_
    refine rd_X3_19 hx hb hown hW dX3_meet_1 ?_
    refine lv_iload_n hx hb dX3_meet_4 rfl (lv_at hl 1 rfl) ?_
    refine lv_iload_n hx hb dX3_meet_5 rfl (lv_at hl 2 rfl) ?_
    refine cr_i (q := 381) [.int x, .int y] hx hb hml hown hG v_X0_hasBoth (by decide +kernel) (c_X0_hasBoth l G σ 0 (by omega) n S q V ch hg (x) (y)) (preH hW (show 0 < 2 by omega) _) rfl hl.1 (Nat.le_of_ble_eq_true rfl) dX3_meet_6 ⟨rfl, rfl, Nat.le_of_ble_eq_true rfl, Nat.le_of_ble_eq_true rfl⟩ ⟨Nat.le_of_ble_eq_true rfl, Nat.le_of_ble_eq_true rfl⟩ ?_
    refine lv_eqi (y := 0) (by rw [hx0]; rfl) ?_
    refine lv_if_ne (tgt := 15) hx hb dX3_meet_9 (by decide) (fun c_9 => ?_) (fun c_9 => ?_)
    · skip
      exact absurd (by decide) c_9
    · skip
      refine lv_bipush (v := (-101)) hx hb dX3_meet_12 (by decide) ?_
      exact W.iret (v := (-101)) hx hb hr (fun t9 ht9 hW9 => ⟨_, rfl, (by rw [aMeet, w2_f1 hx0]), ht9⟩) (fun q h => by cases h) dX3_meet_14
  · skip
    rcases hasB_c y (n := n) (by omega) with hy0 | ⟨t, ht, rfl⟩
    · skip
      refine met_of [.ref (ga G 0), .int (nI k), .int y] [(0, .ref (ga G 0)), (1, .int (nI k)), (2, .int y)] (by decide) (Nat.le_of_ble_eq_true rfl) rfl ?_
      intro p e s m below meth c hx hb hr hown hml hlocks hW ls hl
      have hG : GW s := hW.2.2.2.1
      refine lv_aload_n hx hb dX3_meet_0 rfl (lv_at hl 0 rfl) ?_
      refine rd_X3_19 hx hb hown hW dX3_meet_1 ?_
      refine lv_iload_n hx hb dX3_meet_4 rfl (lv_at hl 1 rfl) ?_
      refine lv_iload_n hx hb dX3_meet_5 rfl (lv_at hl 2 rfl) ?_
      refine cr_i (q := 381) [.int (nI k), .int y] hx hb hml hown hG v_X0_hasBoth (by decide +kernel) (c_X0_hasBoth l G σ 0 (by omega) n S q V ch hg (nI k) (y)) (preH hW (show 0 < 2 by omega) _) rfl hl.1 (Nat.le_of_ble_eq_true rfl) dX3_meet_6 ⟨rfl, rfl, Nat.le_of_ble_eq_true rfl, Nat.le_of_ble_eq_true rfl⟩ ⟨Nat.le_of_ble_eq_true rfl, Nat.le_of_ble_eq_true rfl⟩ ?_
      refine lv_eqi (y := 0) (by rw [hy0, hasB_k hk (by omega)]; rfl) ?_
      refine lv_if_ne (tgt := 15) hx hb dX3_meet_9 (by decide) (fun c_9 => ?_) (fun c_9 => ?_)
      · skip
        exact absurd (by decide) c_9
      · skip
        refine lv_bipush (v := (-101)) hx hb dX3_meet_12 (by decide) ?_
        exact W.iret (v := (-101)) hx hb hr (fun t9 ht9 hW9 => ⟨_, rfl, (by rw [aMeet, w2_f2 hk (by omega) hy0]), ht9⟩) (fun q h => by cases h) dX3_meet_14
    · skip
      by_cases hkt : k = t
      · skip
        refine met_of [.ref (ga G 0), .int (nI k), .int (nI t)] [(0, .ref (ga G 0)), (1, .int (nI k)), (2, .int (nI t))] (by decide) (Nat.le_of_ble_eq_true rfl) rfl ?_
        intro p e s m below meth c hx hb hr hown hml hlocks hW ls hl
        have hG : GW s := hW.2.2.2.1
        refine lv_aload_n hx hb dX3_meet_0 rfl (lv_at hl 0 rfl) ?_
        refine rd_X3_19 hx hb hown hW dX3_meet_1 ?_
        refine lv_iload_n hx hb dX3_meet_4 rfl (lv_at hl 1 rfl) ?_
        refine lv_iload_n hx hb dX3_meet_5 rfl (lv_at hl 2 rfl) ?_
        refine cr_i (q := 381) [.int (nI k), .int (nI t)] hx hb hml hown hG v_X0_hasBoth (by decide +kernel) (c_X0_hasBoth l G σ 0 (by omega) n S q V ch hg (nI k) (nI t)) (preH hW (show 0 < 2 by omega) _) rfl hl.1 (Nat.le_of_ble_eq_true rfl) dX3_meet_6 ⟨rfl, rfl, Nat.le_of_ble_eq_true rfl, Nat.le_of_ble_eq_true rfl⟩ ⟨Nat.le_of_ble_eq_true rfl, Nat.le_of_ble_eq_true rfl⟩ ?_
        refine lv_eqi (y := 0) (by subst hkt; simp [bI]) ?_
        refine lv_if_ne (tgt := 15) hx hb dX3_meet_9 (by decide) (fun c_9 => ?_) (fun c_9 => ?_)
        · skip
          exact absurd (by decide) c_9
        · skip
          refine lv_bipush (v := (-101)) hx hb dX3_meet_12 (by decide) ?_
          exact W.iret (v := (-101)) hx hb hr (fun t9 ht9 hW9 => ⟨_, rfl, (by subst hkt; rw [aMeet, w2_e hk (by omega)]), ht9⟩) (fun q h => by cases h) dX3_meet_14
      · skip
        refine met_of [.ref (ga G 0), .int (nI k), .int (nI t)] [(0, .ref (ga G 0)), (1, .int (nI k)), (2, .int (nI t))] (by decide) (Nat.le_of_ble_eq_true rfl) rfl ?_
        intro p e s m below meth c hx hb hr hown hml hlocks hW ls hl
        have hG : GW s := hW.2.2.2.1
        refine lv_aload_n hx hb dX3_meet_0 rfl (lv_at hl 0 rfl) ?_
        refine rd_X3_19 hx hb hown hW dX3_meet_1 ?_
        refine lv_iload_n hx hb dX3_meet_4 rfl (lv_at hl 1 rfl) ?_
        refine lv_iload_n hx hb dX3_meet_5 rfl (lv_at hl 2 rfl) ?_
        refine cr_i (q := 381) [.int (nI k), .int (nI t)] hx hb hml hown hG v_X0_hasBoth (by decide +kernel) (c_X0_hasBoth l G σ 0 (by omega) n S q V ch hg (nI k) (nI t)) (preH hW (show 0 < 2 by omega) _) rfl hl.1 (Nat.le_of_ble_eq_true rfl) dX3_meet_6 ⟨rfl, rfl, Nat.le_of_ble_eq_true rfl, Nat.le_of_ble_eq_true rfl⟩ ⟨Nat.le_of_ble_eq_true rfl, Nat.le_of_ble_eq_true rfl⟩ ?_
        refine lv_eqi (y := 1) (by rw [hasB_k hk (by omega), hasB_k ht (by omega), decide_eq_true (show ¬ nI k = nI t from fun z => hkt ((nI_eq (by omega) (by omega)).mp z))]; rfl) ?_
        refine lv_if_ne (tgt := 15) hx hb dX3_meet_9 (by decide) (fun c_9 => ?_) (fun c_9 => ?_)
        · skip
          refine lv_aload_n hx hb dX3_meet_15 rfl (lv_at hl 0 rfl) ?_
          refine rd_X3_19 hx hb hown hW dX3_meet_16 ?_
          refine lv_iload_n hx hb dX3_meet_19 rfl (lv_at hl 1 rfl) ?_
          refine lv_aload_n hx hb dX3_meet_20 rfl (lv_at hl 0 rfl) ?_
          refine rd_X3_19 hx hb hown hW dX3_meet_21 ?_
          refine rd_X3_83 hx hb hown hW (show 0 < 2 by omega) dX3_meet_24 ?_
          refine lv_iload_n hx hb dX3_meet_27 rfl (lv_at hl 1 rfl) ?_
          refine al_lateBy (k := k) hx hb hW (show 0 < 2 by omega) rfl (by omega) dX3_meet_28 ?_
          refine lv_eqi (y := nI (S k 2)) (hg.2.2.2.1 k (by omega)).2.2.2.1 ?_
          refine lv_iload_n hx hb dX3_meet_29 rfl (lv_at hl 2 rfl) ?_
          refine lv_aload_n hx hb dX3_meet_30 rfl (lv_at hl 0 rfl) ?_
          refine rd_X3_19 hx hb hown hW dX3_meet_31 ?_
          refine rd_X3_83 hx hb hown hW (show 0 < 2 by omega) dX3_meet_34 ?_
          refine lv_iload_n hx hb dX3_meet_37 rfl (lv_at hl 2 rfl) ?_
          refine al_lateBy (k := t) hx hb hW (show 0 < 2 by omega) rfl (by omega) dX3_meet_38 ?_
          refine lv_eqi (y := nI (S t 2)) (hg.2.2.2.1 t (by omega)).2.2.2.1 ?_
          refine cr_i (q := 386) [.int (nI k), .int (nI (S k 2)), .int (nI t), .int (nI (S t 2))] hx hb hml hown hG v_X0_hoursTogether (by decide +kernel) (c_X0_hoursTogether l G σ 0 (by omega) n S q V ch hg k (S k 2) t (S t 2) hk ht (hg.2.2.2.1 k hk).2.2.2.2 (hg.2.2.2.1 t ht).2.2.2.2) (preH hW (show 0 < 2 by omega) _) rfl hl.1 (Nat.le_of_ble_eq_true rfl) dX3_meet_39 ⟨rfl, rfl, Nat.le_of_ble_eq_true rfl, Nat.le_of_ble_eq_true rfl⟩ ⟨Nat.le_of_ble_eq_true rfl, Nat.le_of_ble_eq_true rfl⟩ ?_
          exact W.iret (v := nI (meL S (fun i => S i 2) k t)) hx hb hr (fun t9 ht9 hW9 => ⟨_, rfl, (by rw [aMeet, w2_k hk ht (by omega) hkt]), ht9⟩) (fun q h => by cases h) dX3_meet_42
        · skip
          exact absurd c_9 (by decide)
theorem lt_y {M : Nat → Nat} {h : Nat} {r : Int32} (H : ltF M (10 - h) h = r) (hh : h ≤ 9) (q : 0 < M h) : nI h = r := by
  obtain ⟨k, hk⟩ : ∃ k, 10 - h = k + 1 := ⟨9 - h, by omega⟩
  rw [hk, ltF, if_pos q] at H; exact H
theorem lt_n {M : Nat → Nat} {h : Nat} {r : Int32} (H : ltF M (10 - h) h = r) (hh : h ≤ 9) (q : M h ≤ 0) : ltF M (10 - (h + 1)) (h + 1) = r := by
  obtain ⟨k, hk⟩ : ∃ k, 10 - h = k + 1 := ⟨9 - h, by omega⟩
  rw [hk, ltF, if_neg (by omega)] at H
  rw [show 10 - (h + 1) = k by omega]; exact H
theorem meetN_le {f g : Nat → Nat} : ∀ t, meetN f g t ≤ t := by
  intro t
  induction t with
  | zero => exact Nat.le_refl _
  | succ t ih => unfold meetN; split <;> omega
set_option maxHeartbeats 4000000 in
set_option maxRecDepth 100000 in
theorem c_X3_later (l : Launch) (G : Gam) (σ : St) (n : Nat) (S : Nat → Sk) (q : Nat) (V : Nat → Nat) (ch : Int32) (hg : GH σ 0 n S q V ch) (x y : Int32) : Met l yX3_later (w1 yX3_later cX3_later 4 (some .int)) ({ frames := 2, cells := 0, slots := 0, locals := 49 }) (PcX G σ [.ref (ga G 0), .int x, .int y]) (vp_Si (fun r => r = aLater n S x y)) 0 0 (fun _ => False) := by
  have hn6 := hg.1.2
  have hq8 := hg.2.2.1.2
  rcases hasB_c x (n := n) (by omega) with hx0 | ⟨k, hk, rfl⟩
  · skip
    refine met_of [.ref (ga G 0), .int x, .int y] [(0, .ref (ga G 0)), (1, .int x), (2, .int y)] (by decide) (Nat.le_of_ble_eq_true rfl) rfl ?_
    intro p e s m below meth c hx hb hr hown hml hlocks hW ls hl
    have hG : GW s := hW.2.2.2.1
    refine lv_aload_n hx hb dX3_later_0 rfl (lv_at hl 0 rfl) ?_
    refine rd_X3_19 hx hb hown hW dX3_later_1 ?_
    refine lv_iload_n hx hb dX3_later_4 rfl (lv_at hl 1 rfl) ?_
    refine lv_iload_n hx hb dX3_later_5 rfl (lv_at hl 2 rfl) ?_
    refine cr_i (q := 381) [.int x, .int y] hx hb hml hown hG v_X0_hasBoth (by decide +kernel) (c_X0_hasBoth l G σ 0 (by omega) n S q V ch hg (x) (y)) (preH hW (show 0 < 2 by omega) _) rfl hl.1 (Nat.le_of_ble_eq_true rfl) dX3_later_6 ⟨rfl, rfl, Nat.le_of_ble_eq_true rfl, Nat.le_of_ble_eq_true rfl⟩ ⟨Nat.le_of_ble_eq_true rfl, Nat.le_of_ble_eq_true rfl⟩ ?_
    refine lv_eqi (y := 0) (by rw [hx0]; rfl) ?_
    refine lv_if_ne (tgt := 15) hx hb dX3_later_9 (by decide) (fun c_9 => ?_) (fun c_9 => ?_)
    · skip
      exact absurd (by decide) c_9
    · skip
      refine lv_bipush (v := (-101)) hx hb dX3_later_12 (by decide) ?_
      exact W.iret (v := (-101)) hx hb hr (fun t9 ht9 hW9 => ⟨_, rfl, (by rw [aLater, w2_f1 hx0]), ht9⟩) (fun q h => by cases h) dX3_later_14
  · skip
    rcases hasB_c y (n := n) (by omega) with hy0 | ⟨t, ht, rfl⟩
    · skip
      refine met_of [.ref (ga G 0), .int (nI k), .int y] [(0, .ref (ga G 0)), (1, .int (nI k)), (2, .int y)] (by decide) (Nat.le_of_ble_eq_true rfl) rfl ?_
      intro p e s m below meth c hx hb hr hown hml hlocks hW ls hl
      have hG : GW s := hW.2.2.2.1
      refine lv_aload_n hx hb dX3_later_0 rfl (lv_at hl 0 rfl) ?_
      refine rd_X3_19 hx hb hown hW dX3_later_1 ?_
      refine lv_iload_n hx hb dX3_later_4 rfl (lv_at hl 1 rfl) ?_
      refine lv_iload_n hx hb dX3_later_5 rfl (lv_at hl 2 rfl) ?_
      refine cr_i (q := 381) [.int (nI k), .int y] hx hb hml hown hG v_X0_hasBoth (by decide +kernel) (c_X0_hasBoth l G σ 0 (by omega) n S q V ch hg (nI k) (y)) (preH hW (show 0 < 2 by omega) _) rfl hl.1 (Nat.le_of_ble_eq_true rfl) dX3_later_6 ⟨rfl, rfl, Nat.le_of_ble_eq_true rfl, Nat.le_of_ble_eq_true rfl⟩ ⟨Nat.le_of_ble_eq_true rfl, Nat.le_of_ble_eq_true rfl⟩ ?_
      refine lv_eqi (y := 0) (by rw [hy0, hasB_k hk (by omega)]; rfl) ?_
      refine lv_if_ne (tgt := 15) hx hb dX3_later_9 (by decide) (fun c_9 => ?_) (fun c_9 => ?_)
      · skip
        exact absurd (by decide) c_9
      · skip
        refine lv_bipush (v := (-101)) hx hb dX3_later_12 (by decide) ?_
        exact W.iret (v := (-101)) hx hb hr (fun t9 ht9 hW9 => ⟨_, rfl, (by rw [aLater, w2_f2 hk (by omega) hy0]), ht9⟩) (fun q h => by cases h) dX3_later_14
    · skip
      by_cases hkt : k = t
      · skip
        refine met_of [.ref (ga G 0), .int (nI k), .int (nI t)] [(0, .ref (ga G 0)), (1, .int (nI k)), (2, .int (nI t))] (by decide) (Nat.le_of_ble_eq_true rfl) rfl ?_
        intro p e s m below meth c hx hb hr hown hml hlocks hW ls hl
        have hG : GW s := hW.2.2.2.1
        refine lv_aload_n hx hb dX3_later_0 rfl (lv_at hl 0 rfl) ?_
        refine rd_X3_19 hx hb hown hW dX3_later_1 ?_
        refine lv_iload_n hx hb dX3_later_4 rfl (lv_at hl 1 rfl) ?_
        refine lv_iload_n hx hb dX3_later_5 rfl (lv_at hl 2 rfl) ?_
        refine cr_i (q := 381) [.int (nI k), .int (nI t)] hx hb hml hown hG v_X0_hasBoth (by decide +kernel) (c_X0_hasBoth l G σ 0 (by omega) n S q V ch hg (nI k) (nI t)) (preH hW (show 0 < 2 by omega) _) rfl hl.1 (Nat.le_of_ble_eq_true rfl) dX3_later_6 ⟨rfl, rfl, Nat.le_of_ble_eq_true rfl, Nat.le_of_ble_eq_true rfl⟩ ⟨Nat.le_of_ble_eq_true rfl, Nat.le_of_ble_eq_true rfl⟩ ?_
        refine lv_eqi (y := 0) (by subst hkt; simp [bI]) ?_
        refine lv_if_ne (tgt := 15) hx hb dX3_later_9 (by decide) (fun c_9 => ?_) (fun c_9 => ?_)
        · skip
          exact absurd (by decide) c_9
        · skip
          refine lv_bipush (v := (-101)) hx hb dX3_later_12 (by decide) ?_
          exact W.iret (v := (-101)) hx hb hr (fun t9 ht9 hW9 => ⟨_, rfl, (by subst hkt; rw [aLater, w2_e hk (by omega)]), ht9⟩) (fun q h => by cases h) dX3_later_14
      · skip
        refine met_of [.ref (ga G 0), .int (nI k), .int (nI t)] [(0, .ref (ga G 0)), (1, .int (nI k)), (2, .int (nI t))] (by decide) (Nat.le_of_ble_eq_true rfl) rfl ?_
        intro p e s m below meth c hx hb hr hown hml hlocks hW ls hl
        have hG : GW s := hW.2.2.2.1
        refine lv_aload_n hx hb dX3_later_0 rfl (lv_at hl 0 rfl) ?_
        refine rd_X3_19 hx hb hown hW dX3_later_1 ?_
        refine lv_iload_n hx hb dX3_later_4 rfl (lv_at hl 1 rfl) ?_
        refine lv_iload_n hx hb dX3_later_5 rfl (lv_at hl 2 rfl) ?_
        refine cr_i (q := 381) [.int (nI k), .int (nI t)] hx hb hml hown hG v_X0_hasBoth (by decide +kernel) (c_X0_hasBoth l G σ 0 (by omega) n S q V ch hg (nI k) (nI t)) (preH hW (show 0 < 2 by omega) _) rfl hl.1 (Nat.le_of_ble_eq_true rfl) dX3_later_6 ⟨rfl, rfl, Nat.le_of_ble_eq_true rfl, Nat.le_of_ble_eq_true rfl⟩ ⟨Nat.le_of_ble_eq_true rfl, Nat.le_of_ble_eq_true rfl⟩ ?_
        refine lv_eqi (y := 1) (by rw [hasB_k hk (by omega), hasB_k ht (by omega), decide_eq_true (show ¬ nI k = nI t from fun z => hkt ((nI_eq (by omega) (by omega)).mp z))]; rfl) ?_
        refine lv_if_ne (tgt := 15) hx hb dX3_later_9 (by decide) (fun c_9 => ?_) (fun c_9 => ?_)
        · skip
          refine lv_iconst (v := 0) hx hb dX3_later_15 (by decide) ?_
          refine lv_istore_n (lv' := [(3, .int 0), (0, .ref (ga G 0)), (1, .int (nI k)), (2, .int (nI t))]) hx hb dX3_later_16 rfl hl (by decide) rfl (fun ls hl => ?_)
          have loop_17 : ∀ (N9 : Nat) (v : Nat) (vo : Int32), 10 - v < N9 → vo = nI v → v ≤ 10 → ltF (laM S k t) (10 - v) v = aLater n S (nI k) (nI t) → ∀ ls : Array Slot, lv_has ls 4 [(3, .int vo), (0, .ref (ga G 0)), (1, .int (nI k)), (2, .int (nI t))] → W p l e (headSpec (w1 yX3_later cX3_later 4 (some .int)) ({ frames := 2, cells := 0, slots := 0, locals := 49 })).room s m [.ref (ga G 0), .int (nI k), .int (nI t)].toArray below meth c s.heap [] 0 0 (MQ below (vp_Si (fun r => r = aLater n S (nI k) (nI t))) [.ref (ga G 0), .int (nI k), .int (nI t)].toArray s 0 0 (fun _ => False)) (F0 m 17 ls []) := by
            intro N9
            induction N9 with
            | zero => intro v vo hN; exact absurd hN (Nat.not_lt_zero _)
            | succ N9 ih =>
              intro v vo hN e_vo hi0_17 hi1_17 ls hl
              subst e_vo
              have ih_17 := ih
              have hlm9 : laM S k t v ≤ 31 := meetN_le 31
              refine lv_iload_n hx hb dX3_later_17 rfl (lv_at hl 0 rfl) ?_
              refine lv_bipush (v := 9) hx hb dX3_later_18 (by decide) ?_
              refine lv_icmp_gt (tgt := 53) hx hb dX3_later_20 (by decide) (fun c_20 => ?_) (fun c_20 => ?_)
              · skip
                have q_20 := tN_lt 9 v c_20 rfl rfl (by omega) (by omega)
                refine lv_iconst (v := (-1)) hx hb dX3_later_53 (by decide) ?_
                exact W.iret (v := (-1)) hx hb hr (fun t9 ht9 hW9 => ⟨_, rfl, (by have h9 : v = 10 := (by omega); subst h9; exact hi1_17), ht9⟩) (fun q h => by cases h) dX3_later_54
              · skip
                have q_20 := tN_nlt 9 v c_20 rfl rfl (by omega) (by omega)
                refine lv_aload_n hx hb dX3_later_23 rfl (lv_at hl 1 rfl) ?_
                refine rd_X3_19 hx hb hown hW dX3_later_24 ?_
                refine lv_iload_n hx hb dX3_later_27 rfl (lv_at hl 2 rfl) ?_
                refine lv_aload_n hx hb dX3_later_28 rfl (lv_at hl 1 rfl) ?_
                refine rd_X3_19 hx hb hown hW dX3_later_29 ?_
                refine rd_X3_83 hx hb hown hW (show 0 < 2 by omega) dX3_later_32 ?_
                refine lv_iload_n hx hb dX3_later_35 rfl (lv_at hl 2 rfl) ?_
                refine al_lateBy (k := k) hx hb hW (show 0 < 2 by omega) rfl (by omega) dX3_later_36 ?_
                refine lv_eqi (y := nI (S k 2)) (hg.2.2.2.1 k (by omega)).2.2.2.1 ?_
                refine lv_iload_n hx hb dX3_later_37 rfl (lv_at hl 3 rfl) ?_
                refine lv_iload_n hx hb dX3_later_38 rfl (lv_at hl 0 rfl) ?_
                refine cr_i (q := 386) [.int (nI k), .int (nI (S k 2)), .int (nI t), .int (nI v)] hx hb hml hown hG v_X0_hoursTogether (by decide +kernel) (c_X0_hoursTogether l G σ 0 (by omega) n S q V ch hg k (S k 2) t v hk ht (hg.2.2.2.1 k hk).2.2.2.2 (by omega)) (preH hW (show 0 < 2 by omega) _) rfl hl.1 (Nat.le_of_ble_eq_true rfl) dX3_later_39 ⟨rfl, rfl, Nat.le_of_ble_eq_true rfl, Nat.le_of_ble_eq_true rfl⟩ ⟨Nat.le_of_ble_eq_true rfl, Nat.le_of_ble_eq_true rfl⟩ ?_
                refine lv_if_le (tgt := 47) hx hb dX3_later_42 (by decide) (fun c_42 => ?_) (fun c_42 => ?_)
                · skip
                  have q_42 := tN_le (laM S k t v) 0 c_42 rfl rfl (by omega) (by omega)
                  refine lv_iinc (v := nI (v + 1)) (lv' := [(3, .int (nI (v + 1))), (0, .ref (ga G 0)), (1, .int (nI k)), (2, .int (nI t))]) hx hb dX3_later_47 hl (k := 0) rfl (inc1 v) (by decide) rfl (fun ls hl => ?_)
                  refine lv_goto (tgt := 17) hx hb dX3_later_50 (by decide) ?_
                  exact ih_17 (v + 1) _ (by omega) rfl (by omega) (lt_n hi1_17 (by omega) q_42) ls (lv_sub hl [0, 1, 2, 3] rfl)
                · skip
                  have q_42 := tN_nle (laM S k t v) 0 c_42 rfl rfl (by omega) (by omega)
                  refine lv_iload_n hx hb dX3_later_45 rfl (lv_at hl 0 rfl) ?_
                  exact W.iret (v := nI v) hx hb hr (fun t9 ht9 hW9 => ⟨_, rfl, (lt_y hi1_17 (by omega) q_42), ht9⟩) (fun q h => by cases h) dX3_later_46
          exact loop_17 _ 0 _ (Nat.lt_succ_self _) rfl (by omega) (by rw [aLater, w2_k hk ht (by omega) hkt]) ls (lv_sub hl [0, 1, 2, 3] rfl)
        · skip
          exact absurd c_9 (by decide)
set_option maxHeartbeats 4000000 in
set_option maxRecDepth 100000 in
theorem c_X3_catches (l : Launch) (G : Gam) (σ : St) (n : Nat) (S : Nat → Sk) (q : Nat) (V : Nat → Nat) (ch : Int32) (hg : GH σ 0 n S q V ch) (x y : Int32) : Met l yX3_catches (w1 yX3_catches cX3_catches 3 (some .int)) ({ frames := 3, cells := 0, slots := 0, locals := 68 }) (PcX G σ [.ref (ga G 0), .int x, .int y]) (vp_Si (fun r => r = aCatch n S x y)) 0 0 (fun _ => False) := by
  have hn6 := hg.1.2
  have hq8 := hg.2.2.1.2
  rcases hasB_c y (n := n) (by omega) with hy0 | ⟨k, hk, rfl⟩
  · skip
    refine met_of [.ref (ga G 0), .int x, .int y] [(0, .ref (ga G 0)), (1, .int x), (2, .int y)] (by decide) (Nat.le_of_ble_eq_true rfl) rfl ?_
    intro p e s m below meth c hx hb hr hown hml hlocks hW ls hl
    have hG : GW s := hW.2.2.2.1
    refine lv_aload_n hx hb dX3_catches_0 rfl (lv_at hl 0 rfl) ?_
    refine rd_X3_19 hx hb hown hW dX3_catches_1 ?_
    refine lv_iload_n hx hb dX3_catches_4 rfl (lv_at hl 2 rfl) ?_
    refine cr_i (q := 337) [.int y] hx hb hml hown hG v_X0_has (by decide +kernel) (c_X0_has l G σ 0 (by omega) n S q V ch hg (y)) (preH hW (show 0 < 2 by omega) _) rfl hl.1 (Nat.le_of_ble_eq_true rfl) dX3_catches_5 ⟨rfl, rfl, Nat.le_of_ble_eq_true rfl, Nat.le_of_ble_eq_true rfl⟩ ⟨Nat.le_of_ble_eq_true rfl, Nat.le_of_ble_eq_true rfl⟩ ?_
    refine lv_eqi (y := 0) (by rw [hy0]; rfl) ?_
    refine lv_if_ne (tgt := 14) hx hb dX3_catches_8 (by decide) (fun c_8 => ?_) (fun c_8 => ?_)
    · skip
      exact absurd (by decide) c_8
    · skip
      refine lv_bipush (v := (-101)) hx hb dX3_catches_11 (by decide) ?_
      exact W.iret (v := (-101)) hx hb hr (fun t9 ht9 hW9 => ⟨_, rfl, (wK_f hy0).symm, ht9⟩) (fun q h => by cases h) dX3_catches_13
  · skip
    rcases hasB_c x (n := 16) (by omega) with hx0 | ⟨t, ht, rfl⟩
    · skip
      refine met_of [.ref (ga G 0), .int x, .int (nI k)] [(0, .ref (ga G 0)), (1, .int x), (2, .int (nI k))] (by decide) (Nat.le_of_ble_eq_true rfl) rfl ?_
      intro p e s m below meth c hx hb hr hown hml hlocks hW ls hl
      have hG : GW s := hW.2.2.2.1
      refine lv_aload_n hx hb dX3_catches_0 rfl (lv_at hl 0 rfl) ?_
      refine rd_X3_19 hx hb hown hW dX3_catches_1 ?_
      refine lv_iload_n hx hb dX3_catches_4 rfl (lv_at hl 2 rfl) ?_
      refine cr_i (q := 337) [.int (nI k)] hx hb hml hown hG v_X0_has (by decide +kernel) (c_X0_has l G σ 0 (by omega) n S q V ch hg (nI k)) (preH hW (show 0 < 2 by omega) _) rfl hl.1 (Nat.le_of_ble_eq_true rfl) dX3_catches_5 ⟨rfl, rfl, Nat.le_of_ble_eq_true rfl, Nat.le_of_ble_eq_true rfl⟩ ⟨Nat.le_of_ble_eq_true rfl, Nat.le_of_ble_eq_true rfl⟩ ?_
      refine lv_eqi (y := 1) (by rw [hasB_k hk (by omega)]; rfl) ?_
      refine lv_if_ne (tgt := 14) hx hb dX3_catches_8 (by decide) (fun c_8 => ?_) (fun c_8 => ?_)
      · skip
        refine lv_iload_n hx hb dX3_catches_14 rfl (lv_at hl 1 rfl) ?_
        refine cs_i (q := 441) [.int x] hx hb hml hown hG v_X3_isPlace (by decide +kernel) (c_X3_isPlace l (x)) (preT _) rfl hl.1 (Nat.le_of_ble_eq_true rfl) dX3_catches_15 ⟨rfl, rfl, Nat.le_of_ble_eq_true rfl, Nat.le_of_ble_eq_true rfl⟩ ⟨Nat.le_of_ble_eq_true rfl, Nat.le_of_ble_eq_true rfl⟩ ?_
        refine lv_eqi (y := 0) (by rw [hB16, hx0]; rfl) ?_
        refine lv_if_eq (tgt := 33) hx hb dX3_catches_18 (by decide) (fun c_18 => ?_) (fun c_18 => ?_)
        · skip
          refine lv_bipush (v := (-102)) hx hb dX3_catches_33 (by decide) ?_
          exact W.iret (v := (-102)) hx hb hr (fun t9 ht9 hW9 => ⟨_, rfl, (by rw [aCatch, wK_k hk (by omega), wK_f hx0]), ht9⟩) (fun q h => by cases h) dX3_catches_35
        · skip
          exact absurd (by decide) c_18
      · skip
        exact absurd c_8 (by decide)
    · skip
      refine met_of [.ref (ga G 0), .int (nI t), .int (nI k)] [(0, .ref (ga G 0)), (1, .int (nI t)), (2, .int (nI k))] (by decide) (Nat.le_of_ble_eq_true rfl) rfl ?_
      intro p e s m below meth c hx hb hr hown hml hlocks hW ls hl
      have hG : GW s := hW.2.2.2.1
      refine lv_aload_n hx hb dX3_catches_0 rfl (lv_at hl 0 rfl) ?_
      refine rd_X3_19 hx hb hown hW dX3_catches_1 ?_
      refine lv_iload_n hx hb dX3_catches_4 rfl (lv_at hl 2 rfl) ?_
      refine cr_i (q := 337) [.int (nI k)] hx hb hml hown hG v_X0_has (by decide +kernel) (c_X0_has l G σ 0 (by omega) n S q V ch hg (nI k)) (preH hW (show 0 < 2 by omega) _) rfl hl.1 (Nat.le_of_ble_eq_true rfl) dX3_catches_5 ⟨rfl, rfl, Nat.le_of_ble_eq_true rfl, Nat.le_of_ble_eq_true rfl⟩ ⟨Nat.le_of_ble_eq_true rfl, Nat.le_of_ble_eq_true rfl⟩ ?_
      refine lv_eqi (y := 1) (by rw [hasB_k hk (by omega)]; rfl) ?_
      refine lv_if_ne (tgt := 14) hx hb dX3_catches_8 (by decide) (fun c_8 => ?_) (fun c_8 => ?_)
      · skip
        refine lv_iload_n hx hb dX3_catches_14 rfl (lv_at hl 1 rfl) ?_
        refine cs_i (q := 441) [.int (nI t)] hx hb hml hown hG v_X3_isPlace (by decide +kernel) (c_X3_isPlace l (nI t)) (preT _) rfl hl.1 (Nat.le_of_ble_eq_true rfl) dX3_catches_15 ⟨rfl, rfl, Nat.le_of_ble_eq_true rfl, Nat.le_of_ble_eq_true rfl⟩ ⟨Nat.le_of_ble_eq_true rfl, Nat.le_of_ble_eq_true rfl⟩ ?_
        refine lv_eqi (y := 1) (by rw [hB16, hasB_k ht (by omega)]; rfl) ?_
        refine lv_if_eq (tgt := 33) hx hb dX3_catches_18 (by decide) (fun c_18 => ?_) (fun c_18 => ?_)
        · skip
          exact absurd c_18 (by decide)
        · skip
          refine lv_aload_n hx hb dX3_catches_21 rfl (lv_at hl 0 rfl) ?_
          refine rd_X3_19 hx hb hown hW dX3_catches_22 ?_
          refine lv_iload_n hx hb dX3_catches_25 rfl (lv_at hl 1 rfl) ?_
          refine lv_iload_n hx hb dX3_catches_26 rfl (lv_at hl 2 rfl) ?_
          refine cr_i (q := 442) [.int (nI t), .int (nI k)] hx hb hml hown hG v_X0_firstCatch (by decide +kernel) (c_X0_firstCatch l G σ 0 (by omega) n S q V ch hg t k ht hk) (preH hW (show 0 < 2 by omega) _) rfl hl.1 (Nat.le_of_ble_eq_true rfl) dX3_catches_27 ⟨rfl, rfl, Nat.le_of_ble_eq_true rfl, Nat.le_of_ble_eq_true rfl⟩ ⟨Nat.le_of_ble_eq_true rfl, Nat.le_of_ble_eq_true rfl⟩ ?_
          refine lv_goto (tgt := 35) hx hb dX3_catches_30 (by decide) ?_
          exact W.iret (v := nI (catN (atN (S k)) t)) hx hb hr (fun t9 ht9 hW9 => ⟨_, rfl, (by rw [aCatch, wK_k hk (by omega), wK_k ht (by omega)]), ht9⟩) (fun q h => by cases h) dX3_catches_35
      · skip
        exact absurd c_8 (by decide)
end
section
/-- f of the number x is below n, else d -/
def wG {α : Type} (x : Int32) (n : Nat) (f : Nat → α) (d : α) : α := if hasB x n = true then f x.toNatClampNeg else d
theorem wG_f {α : Type} {x : Int32} {n : Nat} {f : Nat → α} {d : α} (h : hasB x n = false) : wG x n f d = d := by unfold wG; rw [h]; rfl
theorem wG_k {α : Type} {k n : Nat} {f : Nat → α} {d : α} (hk : k < n) (hn : n < 2 ^ 31) : wG (nI k) n f d = f k := by
  unfold wG; rw [if_pos (hasB_k hk hn), nI_clamp (by omega)]
theorem covA_n {P : Nat → Nat} {n W u : Nat} (ho : cvN P n W (2 ^ n) = none) : covA P n W u = -1 := by unfold covA; rw [ho]
theorem covA_1 {P : Nat → Nat} {n W u b : Nat} (ho : cvN P n W (2 ^ n) = some b) (h : u = 1) : covA P n W u = nI b := by unfold covA; rw [ho]; exact if_pos h
theorem covA_0 {P : Nat → Nat} {n W u b : Nat} (ho : cvN P n W (2 ^ n) = some b) (h : u ≠ 1) : covA P n W u = nI (popN b) := by unfold covA; rw [ho]; exact if_neg h
abbrev Dt : Type := Int32 × Nat × (Nat → Sk) × Int32
def setL (S : Sk) (t : Nat) : Sk := fun f => if f = 2 then t else S f
def dLate (n : Nat) (S : Nat → Sk) (ch : Int32) (x y : Int32) : Dt := wG x n (fun k => wG y 10 (fun t => (nI (S k 2), n, putS S k (setL (S k) t), ch + 1)) (-102, n, S, ch)) (-101, n, S, ch)
def dCut (n : Nat) (S : Nat → Sk) (ch : Int32) (x y : Int32) : Dt := wG x n (fun k => wG y (S k 3 + 1) (fun t => if t = 0 then (-102, n, S, ch) else (nI (S k 3), n, putS S k (SF (S k) t), ch + 1)) (-102, n, S, ch)) (-101, n, S, ch)
def dSaw (n : Nat) (S : Nat → Sk) (ch : Int32) (x y : Int32) : Dt := wG x n (fun k => wG y (S k 3) (fun t => if t = 0 then (-102, n, S, ch) else if n = 6 then (-104, n, S, ch) else (nI n, n + 1, putS (putS S n (SR (S k) t (S k 3 - t))) k (SF (S k) t), ch + 1)) (-102, n, S, ch)) (-101, n, S, ch)
def setV (V : Nat → Nat) (q a t : Nat) : Nat → Nat := fun i => if i = 2 * q then a else if i = 2 * q + 1 then t else V i
def dSee (q : Nat) (V : Nat → Nat) (x y : Int32) : Int32 × Nat × (Nat → Nat) := wG x 16 (fun a => wG y 31 (fun t => if q < 8 then (nI (q + 1), q + 1, setV V q a t) else (-104, q, V)) (-102, q, V)) (-102, q, V)
/-- behind a change of the hills 0 -/
def Chg (σ σ' : St) (n : Nat) (S : Nat → Sk) (q : Nat) (V : Nat → Nat) (ch : Int32) : Prop := GH σ' 0 n S q V ch ∧ FH σ 0 σ' ∧ (AX σ → AX σ')
theorem Chg.same {σ : St} {n : Nat} {S : Nat → Sk} {q : Nat} {V : Nat → Nat} {ch : Int32} (g : GH σ 0 n S q V ch) : Chg σ σ n S q V ch := ⟨g, FH.rfl, fun z => z⟩
theorem Dp {σ σ' : St} {q : Nat} {V : Nat → Nat} {D d : Dt} {r : Int32} (e : D = d) (hr : r = d.1) (h : Chg σ σ' d.2.1 d.2.2.1 q V d.2.2.2) : r = D.1 ∧ Chg σ σ' D.2.1 D.2.2.1 q V D.2.2.2 := by subst e; exact ⟨hr, h⟩
theorem Dq {σ σ' : St} {n : Nat} {S : Nat → Sk} {ch : Int32} {D d : Int32 × Nat × (Nat → Nat)} {r : Int32} (e : D = d) (hr : r = d.1) (h : Chg σ σ' n S d.2.1 d.2.2 ch) : r = D.1 ∧ Chg σ σ' n S D.2.1 D.2.2 ch := by subst e; exact ⟨hr, h⟩
/-- a row of the hills h that no stick's cells lie in changes: the sticks' cells stay -/
theorem AX.up {σ : St} {i j : Nat} {v : Int32} (hi : i < 14) (h : AX σ) : AX (up2 σ i j v) := by
  intro k hk
  obtain ⟨S, h1, h2⟩ := h k hk
  exact ⟨S, h1, h2.keep (up2_ne (by omega)) (up2_ne (by omega))⟩
theorem GH.keep1 {σ σ' : St} {h n : Nat} {S : Nat → Sk} {q : Nat} {V : Nat → Nat} {ch : Int32} (hh : h < 2) (e : ∀ a, ¬ OutH h a → σ' a = σ a) (g : GH σ h n S q V ch) : GH σ' h n S q V ch := by
  obtain ⟨g1, g2, g3, g4, g5⟩ := g
  have e4 : σ' (5 * h + 4) = σ (5 * h + 4) := e _ (by unfold OutH; omega)
  have e6 : σ' (5 * h + 6) = σ (5 * h + 6) := e _ (by unfold OutH; omega)
  have e7 : σ' (5 * h + 7) = σ (5 * h + 7) := e _ (by unfold OutH; omega)
  have e8 : σ' (5 * h + 8) = σ (5 * h + 8) := e _ (by unfold OutH; omega)
  have hn := g1.2
  refine ⟨⟨by rw [e4]; exact g1.1, g1.2⟩, by rw [e4]; exact g2, ⟨by rw [e4]; exact g3.1, g3.2⟩, fun k hk => ?_, fun i hi => by rw [e7, e8]; exact g5 i hi⟩
  obtain ⟨b1, b2, b3, b4, b5⟩ := g4 k hk
  exact ⟨b1, b2.keep (e _ (by unfold OutH; omega)) (e _ (by unfold OutH; omega)), b3.keep (e _ (by unfold OutH; omega)) (e _ (by unfold OutH; omega)), by rw [e6]; exact b4, b5⟩
theorem GH.chg {σ : St} {h n : Nat} {S : Nat → Sk} {q : Nat} {V : Nat → Nat} {ch v : Int32} (g : GH σ h n S q V ch) : GH (up2 σ (5 * h + 4) 5 v) h n S q V v := by
  obtain ⟨g1, g2, g3, g4, g5⟩ := g
  refine ⟨⟨by rw [up2_nf (by omega)]; exact g1.1, g1.2⟩, up2_eq, ⟨by rw [up2_nf (by omega)]; exact g3.1, g3.2⟩, fun k hk => ?_, fun i hi => by rw [up2_ne (by omega), up2_ne (by omega)]; exact g5 i hi⟩
  obtain ⟨b1, b2, b3, b4, b5⟩ := g4 k hk
  exact ⟨b1, b2.keep (up2_ne (by omega)) (up2_ne (by omega)), b3.keep (up2_ne (by omega)) (up2_ne (by omega)), by rw [up2_ne (by omega)]; exact b4, b5⟩
theorem setL_vs {S : Sk} {t : Nat} (h : VS S) : VS (setL S t) := ⟨h.1, h.2.1, h.2.2.1, fun i hi => by
  have e : setL S t (4 + i) = S (4 + i) := if_neg (by omega)
  rw [e]; exact h.2.2.2 i hi⟩
theorem setL_pos {S : Sk} {t : Nat} (h : VS S) (u : Nat) : posN (setL S t) u = posN S u := (plain_same (S := S) (S' := setL S t) rfl rfl rfl (fun i _ => (show setL S t (4 + i) = S (4 + i) from if_neg (by omega)).symm) h u).symm
theorem GH.late {σ : St} {h n k t : Nat} {S : Nat → Sk} {q : Nat} {V : Nat → Nat} {ch : Int32} (hh : h < 2) (hk : k < n) (ht : t ≤ 9) (g : GH σ h n S q V ch) : GH (up2 σ (5 * h + 6) k (nI t)) h n (putS S k (setL (S k) t)) q V ch := by
  obtain ⟨g1, g2, g3, g4, g5⟩ := g
  refine ⟨⟨by rw [up2_nr (by omega)]; exact g1.1, g1.2⟩, by rw [up2_nr (by omega)]; exact g2, ⟨by rw [up2_nr (by omega)]; exact g3.1, g3.2⟩, fun i hi => ?_, fun i hi => by rw [up2_ne (by omega), up2_ne (by omega)]; exact g5 i hi⟩
  obtain ⟨b1, b2, b3, b4, b5⟩ := g4 i hi
  have c2 : GS (up2 σ (5 * h + 6) k (nI t)) (6 * h + i) (S i) := b2.keep (up2_ne (by omega)) (up2_ne (by omega))
  have c3 : GT (up2 σ (5 * h + 6) k (nI t)) (6 * h + i) (S i) := b3.keep (up2_ne (by omega)) (up2_ne (by omega))
  by_cases e : i = k
  · subst e
    rw [putS_eq]
    refine ⟨setL_vs b1, ⟨c2.1, c2.2.1, c2.2.2.1, fun x hx => ?_⟩, ⟨fun u hu => by rw [setL_pos b1]; exact c3.1 u hu, ?_⟩, ?_, ht⟩
    · have e : setL (S i) t (4 + x) = S i (4 + x) := if_neg (by omega)
      rw [e]; exact c2.2.2.2 x hx
    · rw [c3.2, orN_same (fun u => (setL_pos b1 (t := t) u).symm)]
    · rw [up2_eq]; rfl
  · rw [putS_ne e]
    exact ⟨b1, c2, c3, by rw [up2_nf e]; exact b4, b5⟩
theorem GH.see {σ : St} {h n a t : Nat} {S : Nat → Sk} {q : Nat} {V : Nat → Nat} {ch : Int32} (hh : h < 2) (hq : q < 8) (ha : a < 16) (ht : t ≤ 30) (g : GH σ h n S q V ch) : GH (up2 (up2 (up2 σ (5 * h + 7) q (nI a)) (5 * h + 8) q (nI t)) (5 * h + 4) 6 (nI (q + 1))) h n S (q + 1) (setV V q a t) ch := by
  obtain ⟨g1, g2, g3, g4, g5⟩ := g
  refine ⟨⟨by rw [up2_nf (by omega), up2_nr (by omega), up2_nr (by omega)]; exact g1.1, g1.2⟩, by rw [up2_nf (by omega), up2_nr (by omega), up2_nr (by omega)]; exact g2, ⟨up2_eq, by omega⟩, fun k hk => ?_, fun i hi => ?_⟩
  · obtain ⟨b1, b2, b3, b4, b5⟩ := g4 k hk
    have hn := g1.2
    have e : ∀ z, z ≠ 5 * h + 7 → z ≠ 5 * h + 8 → z ≠ 5 * h + 4 → (up2 (up2 (up2 σ (5 * h + 7) q (nI a)) (5 * h + 8) q (nI t)) (5 * h + 4) 6 (nI (q + 1))) z = σ z := fun z z1 z2 z3 => by rw [up2_ne z3, up2_ne z2, up2_ne z1]
    exact ⟨b1, b2.keep (e _ (by omega) (by omega) (by omega)) (e _ (by omega) (by omega) (by omega)), b3.keep (e _ (by omega) (by omega) (by omega)) (e _ (by omega) (by omega) (by omega)), by rw [e _ (by omega) (by omega) (by omega)]; exact b4, b5⟩
  · by_cases e : i = q
    · subst e
      have v1 : setV V i a t (2 * i) = a := if_pos rfl
      have v2 : setV V i a t (2 * i + 1) = t := by unfold setV; rw [if_neg (by omega), if_pos rfl]
      rw [v1, v2]
      exact ⟨by rw [up2_nr (by omega), up2_nr (by omega), up2_eq], by rw [up2_nr (by omega), up2_eq], ha, ht⟩
    · obtain ⟨b1, b2, b3, b4⟩ := g5 i (by omega)
      have v1 : setV V q a t (2 * i) = V (2 * i) := by unfold setV; rw [if_neg (by omega), if_neg (by omega)]
      have v2 : setV V q a t (2 * i + 1) = V (2 * i + 1) := by unfold setV; rw [if_neg (by omega), if_neg (by omega)]
      rw [v1, v2]
      exact ⟨by rw [up2_nr (by omega), up2_nr (by omega), up2_nf e]; exact b1, by rw [up2_nr (by omega), up2_nf e, up2_nr (by omega)]; exact b2, b3, b4⟩
theorem FHup {σ : St} {i j : Nat} {v : Int32} (hi : 4 ≤ i) (h2 : i ≤ 8) : FH σ 0 (up2 σ i j v) := fun a ha => up2_ne (by unfold OutH at ha; omega)
set_option maxHeartbeats 4000000 in
set_option maxRecDepth 100000 in
theorem c_X3_whose (l : Launch) (G : Gam) (σ : St) (n : Nat) (S : Nat → Sk) (q : Nat) (V : Nat → Nat) (ch : Int32) (hg : GH σ 0 n S q V ch) : Met l yX3_whose (w1 yX3_whose cX3_whose 1 (some .int)) ({ frames := 4, cells := 0, slots := 0, locals := 89 }) (PcX G σ [.ref (ga G 0)]) (vp_Si (fun r => r = aWhose n S q V)) 0 0 (fun _ => False) := by
  refine met_of [.ref (ga G 0)] [(0, .ref (ga G 0))] (by decide) (Nat.le_of_ble_eq_true rfl) rfl ?_
  intro p e s m below meth c hx hb hr hown hml hlocks hW ls hl
  have hG : GW s := hW.2.2.2.1
  have hn6 := hg.1.2
  have hq8 := hg.2.2.1.2
  refine lv_aload_n hx hb dX3_whose_0 rfl (lv_at hl 0 rfl) ?_
  refine rd_X3_19 hx hb hown hW dX3_whose_1 ?_
  refine rd_X3_57 hx hb hown hW (show 0 < 2 by omega) dX3_whose_4 ?_
  refine lv_eqi (y := nI n) hg.1.1 ?_
  refine lv_if_ne (tgt := 15) hx hb dX3_whose_7 (by decide) (fun c_7 => ?_) (fun c_7 => ?_)
  · skip
    have q_7 := tN_ne n 0 c_7 rfl rfl (by omega) (by omega)
    refine lv_aload_n hx hb dX3_whose_15 rfl (lv_at hl 0 rfl) ?_
    refine rd_X3_19 hx hb hown hW dX3_whose_16 ?_
    refine cr_i (q := 469) [] hx hb hml hown hG v_X0_possible (by decide +kernel) (c_X0_possible l G σ 0 (by omega) n S q V ch hg) (preH hW (show 0 < 2 by omega) _) rfl hl.1 (Nat.le_of_ble_eq_true rfl) dX3_whose_19 ⟨rfl, rfl, Nat.le_of_ble_eq_true rfl, Nat.le_of_ble_eq_true rfl⟩ ⟨Nat.le_of_ble_eq_true rfl, Nat.le_of_ble_eq_true rfl⟩ ?_
    exact W.iret (v := nI (whN (OKf S q V) n)) hx hb hr (fun t9 ht9 hW9 => ⟨_, rfl, (by first | rw [aWhose, if_pos q_7] | rw [aWhose, if_neg q_7]), ht9⟩) (fun q h => by cases h) dX3_whose_22
  · skip
    have q_7 := tN_eq n 0 c_7 rfl rfl (by omega) (by omega)
    refine lv_bipush (v := (-103)) hx hb dX3_whose_10 (by decide) ?_
    refine lv_goto (tgt := 22) hx hb dX3_whose_12 (by decide) ?_
    exact W.iret (v := (-103)) hx hb hr (fun t9 ht9 hW9 => ⟨_, rfl, (by first | rw [aWhose, if_pos q_7] | rw [aWhose, if_neg q_7]), ht9⟩) (fun q h => by cases h) dX3_whose_22
set_option maxHeartbeats 4000000 in
set_option maxRecDepth 100000 in
theorem c_X3_look (l : Launch) (G : Gam) (σ : St) (n : Nat) (S : Nat → Sk) (q : Nat) (V : Nat → Nat) (ch : Int32) (hg : GH σ 0 n S q V ch) : Met l yX3_look (w1 yX3_look cX3_look 1 (some .int)) ({ frames := 5, cells := 0, slots := 0, locals := 120 }) (PcX G σ [.ref (ga G 0)]) (vp_Si (fun r => r = aLook n S q V)) 0 0 (fun _ => False) := by
  refine met_of [.ref (ga G 0)] [(0, .ref (ga G 0))] (by decide) (Nat.le_of_ble_eq_true rfl) rfl ?_
  intro p e s m below meth c hx hb hr hown hml hlocks hW ls hl
  have hG : GW s := hW.2.2.2.1
  have hn6 := hg.1.2
  have hq8 := hg.2.2.1.2
  refine lv_aload_n hx hb dX3_look_0 rfl (lv_at hl 0 rfl) ?_
  refine rd_X3_19 hx hb hown hW dX3_look_1 ?_
  refine rd_X3_57 hx hb hown hW (show 0 < 2 by omega) dX3_look_4 ?_
  refine lv_eqi (y := nI n) hg.1.1 ?_
  refine lv_if_ne (tgt := 15) hx hb dX3_look_7 (by decide) (fun c_7 => ?_) (fun c_7 => ?_)
  · skip
    have q_7 := tN_ne n 0 c_7 rfl rfl (by omega) (by omega)
    refine lv_aload_n hx hb dX3_look_15 rfl (lv_at hl 0 rfl) ?_
    refine rd_X3_19 hx hb hown hW dX3_look_16 ?_
    refine cr_i (q := 481) [] hx hb hml hown hG v_X0_bestHourToLook (by decide +kernel) (c_X0_bestHourToLook l G σ 0 (by omega) n S q V ch hg) (preH hW (show 0 < 2 by omega) _) rfl hl.1 (Nat.le_of_ble_eq_true rfl) dX3_look_19 ⟨rfl, rfl, Nat.le_of_ble_eq_true rfl, Nat.le_of_ble_eq_true rfl⟩ ⟨Nat.le_of_ble_eq_true rfl, Nat.le_of_ble_eq_true rfl⟩ ?_
    exact W.iret (v := (if whN (OKf S q V) n = 0 then -1 else nI (lkN (MLf S n (whN (OKf S q V) n)) 30).1)) hx hb hr (fun t9 ht9 hW9 => ⟨_, rfl, (by first | rw [aLook, if_pos q_7] | rw [aLook, if_neg q_7]), ht9⟩) (fun q h => by cases h) dX3_look_22
  · skip
    have q_7 := tN_eq n 0 c_7 rfl rfl (by omega) (by omega)
    refine lv_bipush (v := (-103)) hx hb dX3_look_10 (by decide) ?_
    refine lv_goto (tgt := 22) hx hb dX3_look_12 (by decide) ?_
    exact W.iret (v := (-103)) hx hb hr (fun t9 ht9 hW9 => ⟨_, rfl, (by first | rw [aLook, if_pos q_7] | rw [aLook, if_neg q_7]), ht9⟩) (fun q h => by cases h) dX3_look_22
set_option maxHeartbeats 4000000 in
set_option maxRecDepth 100000 in
theorem c_X3_forget (l : Launch) (G : Gam) (σ : St) (n : Nat) (S : Nat → Sk) (q : Nat) (V : Nat → Nat) (ch : Int32) (hg : GH σ 0 n S q V ch) : Met l yX3_forget (w1 yX3_forget cX3_forget 2 (some .int)) ({ frames := 0, cells := 0, slots := 0, locals := 0 }) (PcX G σ [.ref (ga G 0)]) (QiX G (fun r σ9 => r = nI q ∧ Chg σ σ9 n S 0 V ch)) 0 0 (aX G) := by
  refine met_of [.ref (ga G 0)] [(0, .ref (ga G 0))] (by decide) (Nat.le_of_ble_eq_true rfl) rfl ?_
  intro p e s m below meth c hx hb hr hown hml hlocks hW ls hl
  have hG : GW s := hW.2.2.2.1
  have hS : va_S (aX G) s.heap s.heap [] := va_S.rf
  refine lv_aload_n hx hb dX3_forget_0 rfl (lv_at hl 0 rfl) ?_
  refine rd_X3_19 hx hb hown hW dX3_forget_1 ?_
  refine rd_X3_148 hx hb hown hW (show 0 < 2 by omega) dX3_forget_4 ?_
  refine lv_eqi (y := nI q) hg.2.2.1.1 ?_
  refine lv_istore_n (lv' := [(1, .int (nI q)), (0, .ref (ga G 0))]) hx hb dX3_forget_7 rfl hl (by decide) rfl (fun ls hl => ?_)
  refine lv_aload_n hx hb dX3_forget_8 rfl (lv_at hl 1 rfl) ?_
  refine rd_X3_19 hx hb hown hW dX3_forget_9 ?_
  refine lv_iconst (v := 0) hx hb dX3_forget_12 (by decide) ?_
  refine wr_X3_148 hx hb hown hW hS (show 0 < 2 by omega) dX3_forget_13 (fun H locs hW hS => ?_)
  obtain ⟨σ1, hσ1⟩ : ∃ z, z = up2 σ (5 * 0 + 4) 6 0 := ⟨_, rfl⟩
  rw [← hσ1] at hW
  refine lv_iload_n hx hb dX3_forget_16 rfl (lv_at hl 0 rfl) ?_
  exact W.iret (v := nI q) hx hb hr (fun t9 ht9 hW9 => ⟨⟨_, σ1, rfl, ⟨rfl, by subst hσ1; exact ⟨⟨⟨by rw [up2_nf (by omega)]; exact hg.1.1, hg.1.2⟩, by rw [up2_nf (by omega)]; exact hg.2.1, ⟨up2_eq, by omega⟩, fun k hk => by obtain ⟨b1, b2, b3, b4, b5⟩ := hg.2.2.2.1 k hk; exact ⟨b1, b2.keep (up2_ne (by omega)) (up2_ne (by omega)), b3.keep (up2_ne (by omega)) (up2_ne (by omega)), by rw [up2_ne (by omega)]; exact b4, b5⟩, fun i hi => absurd hi (by omega)⟩, FHup (by omega) (by omega), AX.up (by omega)⟩⟩, (by have h8 := hW.1; rw [← ht9] at h8; exact h8)⟩, hS.F ht9⟩) hS.2.2 dX3_forget_17
set_option maxHeartbeats 4000000 in
set_option maxRecDepth 100000 in
theorem c_X3_cover (l : Launch) (G : Gam) (σ : St) (n : Nat) (S : Nat → Sk) (q : Nat) (V : Nat → Nat) (ch : Int32) (hg : GH σ 0 n S q V ch) (x y : Int32) : Met l yX3_cover (w1 yX3_cover cX3_cover 4 (some .int)) ({ frames := 2, cells := 0, slots := 0, locals := 47 }) (PcX G σ [.ref (ga G 0), .int x, .int y]) (vp_Si (fun r => r = aCover n S x y)) 0 0 (fun _ => False) := by
  have hn6 := hg.1.2
  have hq8 := hg.2.2.1.2
  have h2n := p2_64 hn6
  rcases hasB_c x (n := 65536) (by omega) with hx0 | ⟨k, hk, rfl⟩
  · skip
    refine met_of [.ref (ga G 0), .int x, .int y] [(0, .ref (ga G 0)), (1, .int x), (2, .int y)] (by decide) (Nat.le_of_ble_eq_true rfl) rfl ?_
    intro p e s m below meth c hx hb hr hown hml hlocks hW ls hl
    have hG : GW s := hW.2.2.2.1
    refine lv_iload_n hx hb dX3_cover_0 rfl (lv_at hl 1 rfl) ?_
    refine lv_if_lt (tgt := 19) hx hb dX3_cover_1 (by decide) (fun c_1 => ?_) (fun c_1 => ?_)
    · skip
      refine lv_bipush (v := (-102)) hx hb dX3_cover_19 (by decide) ?_
      exact W.iret (v := (-102)) hx hb hr (fun t9 ht9 hW9 => ⟨_, rfl, (wK_f hx0).symm, ht9⟩) (fun q h => by cases h) dX3_cover_21
    · skip
      refine lv_iload_n hx hb dX3_cover_4 rfl (lv_at hl 1 rfl) ?_
      refine lv_ldc (v := 65536) hx hb hown (hG.use (i := 427) (by decide +kernel) rfl _) dX3_cover_5 ?_
      refine lv_icmp_ge (tgt := 19) hx hb dX3_cover_7 (by decide) (fun c_7 => ?_) (fun c_7 => ?_)
      · skip
        refine lv_bipush (v := (-102)) hx hb dX3_cover_19 (by decide) ?_
        exact W.iret (v := (-102)) hx hb hr (fun t9 ht9 hW9 => ⟨_, rfl, (wK_f hx0).symm, ht9⟩) (fun q h => by cases h) dX3_cover_21
      · skip
        exact absurd (hB_of c_1 c_7) (by rw [hx0]; decide)
  · skip
    rcases hasB_c y (n := 2) (by omega) with hy0 | ⟨t, ht, rfl⟩
    · skip
      refine met_of [.ref (ga G 0), .int (nI k), .int y] [(0, .ref (ga G 0)), (1, .int (nI k)), (2, .int y)] (by decide) (Nat.le_of_ble_eq_true rfl) rfl ?_
      intro p e s m below meth c hx hb hr hown hml hlocks hW ls hl
      have hG : GW s := hW.2.2.2.1
      refine lv_iload_n hx hb dX3_cover_0 rfl (lv_at hl 1 rfl) ?_
      refine lv_if_lt (tgt := 19) hx hb dX3_cover_1 (by decide) (fun c_1 => ?_) (fun c_1 => ?_)
      · skip
        exact absurd c_1 (nI_pos (by omega))
      · skip
        have q_1 := tN_nlt k 0 c_1 rfl rfl (by omega) (by omega)
        refine lv_iload_n hx hb dX3_cover_4 rfl (lv_at hl 1 rfl) ?_
        refine lv_ldc (v := 65536) hx hb hown (hG.use (i := 427) (by decide +kernel) rfl _) dX3_cover_5 ?_
        refine lv_icmp_ge (tgt := 19) hx hb dX3_cover_7 (by decide) (fun c_7 => ?_) (fun c_7 => ?_)
        · skip
          exact absurd (tN_le 65536 k c_7 rfl rfl (by omega) (by omega)) (by omega)
        · skip
          have q_7 := tN_nle 65536 k c_7 rfl rfl (by omega) (by omega)
          refine lv_iload_n hx hb dX3_cover_10 rfl (lv_at hl 2 rfl) ?_
          refine lv_if_lt (tgt := 19) hx hb dX3_cover_11 (by decide) (fun c_11 => ?_) (fun c_11 => ?_)
          · skip
            refine lv_bipush (v := (-102)) hx hb dX3_cover_19 (by decide) ?_
            exact W.iret (v := (-102)) hx hb hr (fun t9 ht9 hW9 => ⟨_, rfl, (by rw [aCover, wK_k hk (by omega), wK_f hy0]), ht9⟩) (fun q h => by cases h) dX3_cover_21
          · skip
            refine lv_iload_n hx hb dX3_cover_14 rfl (lv_at hl 2 rfl) ?_
            refine lv_iconst (v := 1) hx hb dX3_cover_15 (by decide) ?_
            refine lv_icmp_le (tgt := 22) hx hb dX3_cover_16 (by decide) (fun c_16 => ?_) (fun c_16 => ?_)
            · skip
              exact absurd (hB_le 1 (by omega) c_11 c_16) (by rw [hy0]; decide)
            · skip
              refine lv_bipush (v := (-102)) hx hb dX3_cover_19 (by decide) ?_
              exact W.iret (v := (-102)) hx hb hr (fun t9 ht9 hW9 => ⟨_, rfl, (by rw [aCover, wK_k hk (by omega), wK_f hy0]), ht9⟩) (fun q h => by cases h) dX3_cover_21
    · skip
      refine met_of [.ref (ga G 0), .int (nI k), .int (nI t)] [(0, .ref (ga G 0)), (1, .int (nI k)), (2, .int (nI t))] (by decide) (Nat.le_of_ble_eq_true rfl) rfl ?_
      intro p e s m below meth c hx hb hr hown hml hlocks hW ls hl
      have hG : GW s := hW.2.2.2.1
      refine lv_iload_n hx hb dX3_cover_0 rfl (lv_at hl 1 rfl) ?_
      refine lv_if_lt (tgt := 19) hx hb dX3_cover_1 (by decide) (fun c_1 => ?_) (fun c_1 => ?_)
      · skip
        exact absurd c_1 (nI_pos (by omega))
      · skip
        have q_1 := tN_nlt k 0 c_1 rfl rfl (by omega) (by omega)
        refine lv_iload_n hx hb dX3_cover_4 rfl (lv_at hl 1 rfl) ?_
        refine lv_ldc (v := 65536) hx hb hown (hG.use (i := 427) (by decide +kernel) rfl _) dX3_cover_5 ?_
        refine lv_icmp_ge (tgt := 19) hx hb dX3_cover_7 (by decide) (fun c_7 => ?_) (fun c_7 => ?_)
        · skip
          exact absurd (tN_le 65536 k c_7 rfl rfl (by omega) (by omega)) (by omega)
        · skip
          have q_7 := tN_nle 65536 k c_7 rfl rfl (by omega) (by omega)
          refine lv_iload_n hx hb dX3_cover_10 rfl (lv_at hl 2 rfl) ?_
          refine lv_if_lt (tgt := 19) hx hb dX3_cover_11 (by decide) (fun c_11 => ?_) (fun c_11 => ?_)
          · skip
            exact absurd c_11 (nI_pos (by omega))
          · skip
            have q_11 := tN_nlt t 0 c_11 rfl rfl (by omega) (by omega)
            refine lv_iload_n hx hb dX3_cover_14 rfl (lv_at hl 2 rfl) ?_
            refine lv_iconst (v := 1) hx hb dX3_cover_15 (by decide) ?_
            refine lv_icmp_le (tgt := 22) hx hb dX3_cover_16 (by decide) (fun c_16 => ?_) (fun c_16 => ?_)
            · skip
              have q_16 := tN_le t 1 c_16 rfl rfl (by omega) (by omega)
              refine lv_aload_n hx hb dX3_cover_22 rfl (lv_at hl 0 rfl) ?_
              refine rd_X3_19 hx hb hown hW dX3_cover_23 ?_
              refine rd_X3_57 hx hb hown hW (show 0 < 2 by omega) dX3_cover_26 ?_
              refine lv_eqi (y := nI n) hg.1.1 ?_
              refine lv_if_ne (tgt := 35) hx hb dX3_cover_29 (by decide) (fun c_29 => ?_) (fun c_29 => ?_)
              · skip
                have q_29 := tN_ne n 0 c_29 rfl rfl (by omega) (by omega)
                refine lv_aload_n hx hb dX3_cover_35 rfl (lv_at hl 0 rfl) ?_
                refine rd_X3_19 hx hb hown hW dX3_cover_36 ?_
                refine lv_iload_n hx hb dX3_cover_39 rfl (lv_at hl 1 rfl) ?_
                refine cr_i (q := 428) [.int (nI k)] hx hb hml hown hG v_X0_fewestSeeing (by decide +kernel) (c_X0_fewestSeeing l G σ 0 (by omega) n S q V ch hg k hk) (preH hW (show 0 < 2 by omega) _) rfl hl.1 (Nat.le_of_ble_eq_true rfl) dX3_cover_40 ⟨rfl, rfl, Nat.le_of_ble_eq_true rfl, Nat.le_of_ble_eq_true rfl⟩ ⟨Nat.le_of_ble_eq_true rfl, Nat.le_of_ble_eq_true rfl⟩ ?_
                refine lv_istore_n (lv' := [(3, .int (oI (cvN (PL S) n k (2 ^ n)))), (0, .ref (ga G 0)), (1, .int (nI k)), (2, .int (nI t))]) hx hb dX3_cover_43 rfl hl (by decide) rfl (fun ls hl => ?_)
                rcases ho : cvN (PL S) n k (2 ^ n) with _ | b
                · skip
                  rw [ho] at hl
                  have hl : lv_has ls 4 [(3, .int ((-1))), (0, .ref (ga G 0)), (1, .int (nI k)), (2, .int (nI t))] := hl
                  refine lv_iload_n hx hb dX3_cover_44 rfl (lv_at hl 3 rfl) ?_
                  refine lv_iconst (v := 1) hx hb dX3_cover_45 (by decide) ?_
                  refine lv_icmp_eq (tgt := 54) hx hb dX3_cover_46 (by decide) (fun c_46 => ?_) (fun c_46 => ?_)
                  · skip
                    have q_46 := tN_eq t 1 c_46 rfl rfl (by omega) (by omega)
                    refine lv_iload_n hx hb dX3_cover_54 rfl (lv_at hl 0 rfl) ?_
                    refine lv_goto (tgt := 62) hx hb dX3_cover_55 (by decide) ?_
                    exact W.iret (v := (-1)) hx hb hr (fun t9 ht9 hW9 => ⟨_, rfl, (by rw [aCover, wK_k hk (by omega), wK_k ht (by omega)]; exact ((if_neg q_29).trans (covA_n ho)).symm), ht9⟩) (fun q h => by cases h) dX3_cover_62
                  · skip
                    have q_46 := tN_ne t 1 c_46 rfl rfl (by omega) (by omega)
                    refine lv_iload_n hx hb dX3_cover_49 rfl (lv_at hl 0 rfl) ?_
                    refine lv_iconst (v := (-1)) hx hb dX3_cover_50 (by decide) ?_
                    refine lv_icmp_ne (tgt := 58) hx hb dX3_cover_51 (by decide) (fun c_51 => ?_) (fun c_51 => ?_)
                    · skip
                      exact absurd (by decide) c_51
                    · skip
                      refine lv_iload_n hx hb dX3_cover_54 rfl (lv_at hl 0 rfl) ?_
                      refine lv_goto (tgt := 62) hx hb dX3_cover_55 (by decide) ?_
                      exact W.iret (v := (-1)) hx hb hr (fun t9 ht9 hW9 => ⟨_, rfl, (by rw [aCover, wK_k hk (by omega), wK_k ht (by omega)]; exact ((if_neg q_29).trans (covA_n ho)).symm), ht9⟩) (fun q h => by cases h) dX3_cover_62
                · skip
                  rw [ho] at hl
                  have hbg := cvN_lt ho
                  have hl : lv_has ls 4 [(3, .int (nI b)), (0, .ref (ga G 0)), (1, .int (nI k)), (2, .int (nI t))] := hl
                  refine lv_iload_n hx hb dX3_cover_44 rfl (lv_at hl 3 rfl) ?_
                  refine lv_iconst (v := 1) hx hb dX3_cover_45 (by decide) ?_
                  refine lv_icmp_eq (tgt := 54) hx hb dX3_cover_46 (by decide) (fun c_46 => ?_) (fun c_46 => ?_)
                  · skip
                    have q_46 := tN_eq t 1 c_46 rfl rfl (by omega) (by omega)
                    refine lv_iload_n hx hb dX3_cover_54 rfl (lv_at hl 0 rfl) ?_
                    refine lv_goto (tgt := 62) hx hb dX3_cover_55 (by decide) ?_
                    exact W.iret (v := nI b) hx hb hr (fun t9 ht9 hW9 => ⟨_, rfl, (by rw [aCover, wK_k hk (by omega), wK_k ht (by omega)]; exact ((if_neg q_29).trans (covA_1 ho q_46)).symm), ht9⟩) (fun q h => by cases h) dX3_cover_62
                  · skip
                    have q_46 := tN_ne t 1 c_46 rfl rfl (by omega) (by omega)
                    refine lv_iload_n hx hb dX3_cover_49 rfl (lv_at hl 0 rfl) ?_
                    refine lv_iconst (v := (-1)) hx hb dX3_cover_50 (by decide) ?_
                    refine lv_icmp_ne (tgt := 58) hx hb dX3_cover_51 (by decide) (fun c_51 => ?_) (fun c_51 => ?_)
                    · skip
                      refine lv_iload_n hx hb dX3_cover_58 rfl (lv_at hl 0 rfl) ?_
                      refine cs_i (q := 346) [.int (nI b)] hx hb hml hown hG v_J6_bitCount_0f7a4 (by decide +kernel) (c_J6_bitCount l b (by omega)) (preG hG _) rfl hl.1 (Nat.le_of_ble_eq_true rfl) dX3_cover_59 ⟨rfl, rfl, Nat.le_of_ble_eq_true rfl, Nat.le_of_ble_eq_true rfl⟩ ⟨Nat.le_of_ble_eq_true rfl, Nat.le_of_ble_eq_true rfl⟩ ?_
                      exact W.iret (v := nI (popN b)) hx hb hr (fun t9 ht9 hW9 => ⟨_, rfl, (by rw [aCover, wK_k hk (by omega), wK_k ht (by omega)]; exact ((if_neg q_29).trans (covA_0 ho q_46)).symm), ht9⟩) (fun q h => by cases h) dX3_cover_62
                    · skip
                      exact absurd c_51 (nI_nm1 (by omega))
              · skip
                have q_29 := tN_eq n 0 c_29 rfl rfl (by omega) (by omega)
                refine lv_bipush (v := (-103)) hx hb dX3_cover_32 (by decide) ?_
                exact W.iret (v := (-103)) hx hb hr (fun t9 ht9 hW9 => ⟨_, rfl, (by rw [aCover, wK_k hk (by omega), wK_k ht (by omega)]; exact (if_pos q_29).symm), ht9⟩) (fun q h => by cases h) dX3_cover_34
            · skip
              exact absurd (tN_nle t 1 c_16 rfl rfl (by omega) (by omega)) (by omega)
set_option maxHeartbeats 4000000 in
set_option maxRecDepth 100000 in
theorem c_X3_late (l : Launch) (G : Gam) (σ : St) (n : Nat) (S : Nat → Sk) (q : Nat) (V : Nat → Nat) (ch : Int32) (hg : GH σ 0 n S q V ch) (x y : Int32) : Met l yX3_late (w1 yX3_late cX3_late 4 (some .int)) ({ frames := 1, cells := 0, slots := 0, locals := 21 }) (PcX G σ [.ref (ga G 0), .int x, .int y]) (QiX G (fun r σ9 => r = (dLate n S ch x y).1 ∧ Chg σ σ9 (dLate n S ch x y).2.1 (dLate n S ch x y).2.2.1 q V (dLate n S ch x y).2.2.2)) 0 0 (aX G) := by
  have hn6 := hg.1.2
  have hq8 := hg.2.2.1.2
  rcases hasB_c x (n := n) (by omega) with hx0 | ⟨k, hk, rfl⟩
  · skip
    refine met_of [.ref (ga G 0), .int x, .int y] [(0, .ref (ga G 0)), (1, .int x), (2, .int y)] (by decide) (Nat.le_of_ble_eq_true rfl) rfl ?_
    intro p e s m below meth c hx hb hr hown hml hlocks hW ls hl
    have hG : GW s := hW.2.2.2.1
    have hS : va_S (aX G) s.heap s.heap [] := va_S.rf
    refine lv_aload_n hx hb dX3_late_0 rfl (lv_at hl 0 rfl) ?_
    refine rd_X3_19 hx hb hown hW dX3_late_1 ?_
    refine lv_iload_n hx hb dX3_late_4 rfl (lv_at hl 1 rfl) ?_
    refine cr_i (q := 337) [.int x] hx hb hml hown hG v_X0_has (by decide +kernel) (c_X0_has l G σ 0 (by omega) n S q V ch hg (x)) (preH hW (show 0 < 2 by omega) _) rfl hl.1 (Nat.le_of_ble_eq_true rfl) dX3_late_5 ⟨rfl, rfl, Nat.le_of_ble_eq_true rfl, Nat.le_of_ble_eq_true rfl⟩ ⟨Nat.le_of_ble_eq_true rfl, Nat.le_of_ble_eq_true rfl⟩ ?_
    refine lv_eqi (y := 0) (by rw [hx0]; rfl) ?_
    refine lv_if_ne (tgt := 14) hx hb dX3_late_8 (by decide) (fun c_8 => ?_) (fun c_8 => ?_)
    · skip
      exact absurd (by decide) c_8
    · skip
      refine lv_bipush (v := (-101)) hx hb dX3_late_11 (by decide) ?_
      exact W.iret (v := (-101)) hx hb hr (fun t9 ht9 hW9 => ⟨⟨_, σ, rfl, (Dp (wG_f hx0) rfl (Chg.same hg)), (by have h8 := hW.1; rw [← ht9] at h8; exact h8)⟩, hS.F ht9⟩) hS.2.2 dX3_late_13
  · skip
    rcases hasB_c y (n := 10) (by omega) with hy0 | ⟨t, ht, rfl⟩
    · skip
      refine met_of [.ref (ga G 0), .int (nI k), .int y] [(0, .ref (ga G 0)), (1, .int (nI k)), (2, .int y)] (by decide) (Nat.le_of_ble_eq_true rfl) rfl ?_
      intro p e s m below meth c hx hb hr hown hml hlocks hW ls hl
      have hG : GW s := hW.2.2.2.1
      have hS : va_S (aX G) s.heap s.heap [] := va_S.rf
      refine lv_aload_n hx hb dX3_late_0 rfl (lv_at hl 0 rfl) ?_
      refine rd_X3_19 hx hb hown hW dX3_late_1 ?_
      refine lv_iload_n hx hb dX3_late_4 rfl (lv_at hl 1 rfl) ?_
      refine cr_i (q := 337) [.int (nI k)] hx hb hml hown hG v_X0_has (by decide +kernel) (c_X0_has l G σ 0 (by omega) n S q V ch hg (nI k)) (preH hW (show 0 < 2 by omega) _) rfl hl.1 (Nat.le_of_ble_eq_true rfl) dX3_late_5 ⟨rfl, rfl, Nat.le_of_ble_eq_true rfl, Nat.le_of_ble_eq_true rfl⟩ ⟨Nat.le_of_ble_eq_true rfl, Nat.le_of_ble_eq_true rfl⟩ ?_
      refine lv_eqi (y := 1) (by rw [hasB_k hk (by omega)]; rfl) ?_
      refine lv_if_ne (tgt := 14) hx hb dX3_late_8 (by decide) (fun c_8 => ?_) (fun c_8 => ?_)
      · skip
        refine lv_iload_n hx hb dX3_late_14 rfl (lv_at hl 2 rfl) ?_
        refine lv_if_lt (tgt := 24) hx hb dX3_late_15 (by decide) (fun c_15 => ?_) (fun c_15 => ?_)
        · skip
          refine lv_bipush (v := (-102)) hx hb dX3_late_24 (by decide) ?_
          exact W.iret (v := (-102)) hx hb hr (fun t9 ht9 hW9 => ⟨⟨_, σ, rfl, (Dp ((wG_k hk (by omega)).trans (wG_f hy0)) rfl (Chg.same hg)), (by have h8 := hW.1; rw [← ht9] at h8; exact h8)⟩, hS.F ht9⟩) hS.2.2 dX3_late_26
        · skip
          refine lv_iload_n hx hb dX3_late_18 rfl (lv_at hl 2 rfl) ?_
          refine lv_bipush (v := 9) hx hb dX3_late_19 (by decide) ?_
          refine lv_icmp_le (tgt := 27) hx hb dX3_late_21 (by decide) (fun c_21 => ?_) (fun c_21 => ?_)
          · skip
            exact absurd (hB_le 9 (by omega) c_15 c_21) (by rw [hy0]; decide)
          · skip
            refine lv_bipush (v := (-102)) hx hb dX3_late_24 (by decide) ?_
            exact W.iret (v := (-102)) hx hb hr (fun t9 ht9 hW9 => ⟨⟨_, σ, rfl, (Dp ((wG_k hk (by omega)).trans (wG_f hy0)) rfl (Chg.same hg)), (by have h8 := hW.1; rw [← ht9] at h8; exact h8)⟩, hS.F ht9⟩) hS.2.2 dX3_late_26
      · skip
        exact absurd c_8 (by decide)
    · skip
      refine met_of [.ref (ga G 0), .int (nI k), .int (nI t)] [(0, .ref (ga G 0)), (1, .int (nI k)), (2, .int (nI t))] (by decide) (Nat.le_of_ble_eq_true rfl) rfl ?_
      intro p e s m below meth c hx hb hr hown hml hlocks hW ls hl
      have hG : GW s := hW.2.2.2.1
      have hS : va_S (aX G) s.heap s.heap [] := va_S.rf
      refine lv_aload_n hx hb dX3_late_0 rfl (lv_at hl 0 rfl) ?_
      refine rd_X3_19 hx hb hown hW dX3_late_1 ?_
      refine lv_iload_n hx hb dX3_late_4 rfl (lv_at hl 1 rfl) ?_
      refine cr_i (q := 337) [.int (nI k)] hx hb hml hown hG v_X0_has (by decide +kernel) (c_X0_has l G σ 0 (by omega) n S q V ch hg (nI k)) (preH hW (show 0 < 2 by omega) _) rfl hl.1 (Nat.le_of_ble_eq_true rfl) dX3_late_5 ⟨rfl, rfl, Nat.le_of_ble_eq_true rfl, Nat.le_of_ble_eq_true rfl⟩ ⟨Nat.le_of_ble_eq_true rfl, Nat.le_of_ble_eq_true rfl⟩ ?_
      refine lv_eqi (y := 1) (by rw [hasB_k hk (by omega)]; rfl) ?_
      refine lv_if_ne (tgt := 14) hx hb dX3_late_8 (by decide) (fun c_8 => ?_) (fun c_8 => ?_)
      · skip
        refine lv_iload_n hx hb dX3_late_14 rfl (lv_at hl 2 rfl) ?_
        refine lv_if_lt (tgt := 24) hx hb dX3_late_15 (by decide) (fun c_15 => ?_) (fun c_15 => ?_)
        · skip
          exact absurd c_15 (nI_pos (by omega))
        · skip
          have q_15 := tN_nlt t 0 c_15 rfl rfl (by omega) (by omega)
          refine lv_iload_n hx hb dX3_late_18 rfl (lv_at hl 2 rfl) ?_
          refine lv_bipush (v := 9) hx hb dX3_late_19 (by decide) ?_
          refine lv_icmp_le (tgt := 27) hx hb dX3_late_21 (by decide) (fun c_21 => ?_) (fun c_21 => ?_)
          · skip
            have q_21 := tN_le t 9 c_21 rfl rfl (by omega) (by omega)
            refine lv_aload_n hx hb dX3_late_27 rfl (lv_at hl 0 rfl) ?_
            refine rd_X3_19 hx hb hown hW dX3_late_28 ?_
            refine rd_X3_83 hx hb hown hW (show 0 < 2 by omega) dX3_late_31 ?_
            refine lv_iload_n hx hb dX3_late_34 rfl (lv_at hl 1 rfl) ?_
            refine al_lateBy (k := k) hx hb hW (show 0 < 2 by omega) rfl (by omega) dX3_late_35 ?_
            refine lv_eqi (y := nI (S k 2)) (hg.2.2.2.1 k (by omega)).2.2.2.1 ?_
            refine lv_istore_n (lv' := [(3, .int (nI (S k 2))), (0, .ref (ga G 0)), (1, .int (nI k)), (2, .int (nI t))]) hx hb dX3_late_36 rfl hl (by decide) rfl (fun ls hl => ?_)
            refine lv_aload_n hx hb dX3_late_37 rfl (lv_at hl 1 rfl) ?_
            refine rd_X3_19 hx hb hown hW dX3_late_38 ?_
            refine rd_X3_83 hx hb hown hW (show 0 < 2 by omega) dX3_late_41 ?_
            refine lv_iload_n hx hb dX3_late_44 rfl (lv_at hl 2 rfl) ?_
            refine lv_iload_n hx hb dX3_late_45 rfl (lv_at hl 3 rfl) ?_
            refine as_lateBy (k := k) hx hb hW hS (show 0 < 2 by omega) rfl (by omega) dX3_late_46 (fun H locs hW hS => ?_)
            obtain ⟨σ1, hσ1⟩ : ∃ z, z = up2 σ (5 * 0 + 6) k (nI t) := ⟨_, rfl⟩
            rw [← hσ1] at hW
            refine lv_aload_n hx hb dX3_late_47 rfl (lv_at hl 1 rfl) ?_
            refine rd_X3_19 hx hb hown hW dX3_late_48 ?_
            refine lv_dup hx hb dX3_late_51 rfl ?_
            refine rd_X3_124 hx hb hown hW (show 0 < 2 by omega) dX3_late_52 ?_
            refine lv_eqi (y := ch) (by subst hσ1; rw [up2_nr (by omega)]; exact hg.2.1) ?_
            refine lv_iconst (v := 1) hx hb dX3_late_55 (by decide) ?_
            refine lv_iadd hx hb dX3_late_56 ?_
            refine wr_X3_124 hx hb hown hW hS (show 0 < 2 by omega) dX3_late_57 (fun H locs hW hS => ?_)
            obtain ⟨σ2, hσ2⟩ : ∃ z, z = up2 σ1 (5 * 0 + 4) 5 (ch + 1) := ⟨_, rfl⟩
            rw [← hσ2] at hW
            refine lv_iload_n hx hb dX3_late_60 rfl (lv_at hl 0 rfl) ?_
            exact W.iret (v := nI (S k 2)) hx hb hr (fun t9 ht9 hW9 => ⟨⟨_, σ2, rfl, (Dp ((wG_k hk (by omega)).trans (wG_k ht (by omega))) rfl (by subst hσ2; subst hσ1; exact ⟨(hg.late (by omega) hk (by omega)).chg, (FHup (by omega) (by omega)).trans (FHup (by omega) (by omega)), fun z => (z.up (by omega)).up (by omega)⟩)), (by have h8 := hW.1; rw [← ht9] at h8; exact h8)⟩, hS.F ht9⟩) hS.2.2 dX3_late_61
          · skip
            exact absurd (tN_nle t 9 c_21 rfl rfl (by omega) (by omega)) (by omega)
      · skip
        exact absurd c_8 (by decide)
set_option maxHeartbeats 4000000 in
set_option maxRecDepth 100000 in
theorem c_X3_cut (l : Launch) (G : Gam) (σ : St) (n : Nat) (S : Nat → Sk) (q : Nat) (V : Nat → Nat) (ch : Int32) (hg : GH σ 0 n S q V ch) (x y : Int32) : Met l yX3_cut (w1 yX3_cut cX3_cut 4 (some .int)) ({ frames := 4, cells := 0, slots := 0, locals := 84 }) (PcX G σ [.ref (ga G 0), .int x, .int y]) (QiX G (fun r σ9 => r = (dCut n S ch x y).1 ∧ Chg σ σ9 (dCut n S ch x y).2.1 (dCut n S ch x y).2.2.1 q V (dCut n S ch x y).2.2.2)) 0 0 (aX G) := by
  have hn6 := hg.1.2
  have hq8 := hg.2.2.1.2
  rcases hasB_c x (n := n) (by omega) with hx0 | ⟨k, hk, rfl⟩
  · skip
    refine met_of [.ref (ga G 0), .int x, .int y] [(0, .ref (ga G 0)), (1, .int x), (2, .int y)] (by decide) (Nat.le_of_ble_eq_true rfl) rfl ?_
    intro p e s m below meth c hx hb hr hown hml hlocks hW ls hl
    have hG : GW s := hW.2.2.2.1
    have hS : va_S (aX G) s.heap s.heap [] := va_S.rf
    refine lv_aload_n hx hb dX3_cut_0 rfl (lv_at hl 0 rfl) ?_
    refine rd_X3_19 hx hb hown hW dX3_cut_1 ?_
    refine lv_iload_n hx hb dX3_cut_4 rfl (lv_at hl 1 rfl) ?_
    refine cr_i (q := 337) [.int x] hx hb hml hown hG v_X0_has (by decide +kernel) (c_X0_has l G σ 0 (by omega) n S q V ch hg (x)) (preH hW (show 0 < 2 by omega) _) rfl hl.1 (Nat.le_of_ble_eq_true rfl) dX3_cut_5 ⟨rfl, rfl, Nat.le_of_ble_eq_true rfl, Nat.le_of_ble_eq_true rfl⟩ ⟨Nat.le_of_ble_eq_true rfl, Nat.le_of_ble_eq_true rfl⟩ ?_
    refine lv_eqi (y := 0) (by rw [hx0]; rfl) ?_
    refine lv_if_ne (tgt := 14) hx hb dX3_cut_8 (by decide) (fun c_8 => ?_) (fun c_8 => ?_)
    · skip
      exact absurd (by decide) c_8
    · skip
      refine lv_bipush (v := (-101)) hx hb dX3_cut_11 (by decide) ?_
      exact W.iret (v := (-101)) hx hb hr (fun t9 ht9 hW9 => ⟨⟨_, σ, rfl, (Dp (wG_f hx0) rfl (Chg.same hg)), (by have h8 := hW.1; rw [← ht9] at h8; exact h8)⟩, hS.F ht9⟩) hS.2.2 dX3_cut_13
  · skip
    have hk5 := (hg.2.2.2.1 k hk).1.2.2.1
    rcases hasB_c y (n := S k 3 + 1) (by omega) with hy0 | ⟨t, ht, rfl⟩
    · skip
      refine met_of [.ref (ga G 0), .int (nI k), .int y] [(0, .ref (ga G 0)), (1, .int (nI k)), (2, .int y)] (by decide) (Nat.le_of_ble_eq_true rfl) rfl ?_
      intro p e s m below meth c hx hb hr hown hml hlocks hW ls hl
      have hG : GW s := hW.2.2.2.1
      have hS : va_S (aX G) s.heap s.heap [] := va_S.rf
      refine lv_aload_n hx hb dX3_cut_0 rfl (lv_at hl 0 rfl) ?_
      refine rd_X3_19 hx hb hown hW dX3_cut_1 ?_
      refine lv_iload_n hx hb dX3_cut_4 rfl (lv_at hl 1 rfl) ?_
      refine cr_i (q := 337) [.int (nI k)] hx hb hml hown hG v_X0_has (by decide +kernel) (c_X0_has l G σ 0 (by omega) n S q V ch hg (nI k)) (preH hW (show 0 < 2 by omega) _) rfl hl.1 (Nat.le_of_ble_eq_true rfl) dX3_cut_5 ⟨rfl, rfl, Nat.le_of_ble_eq_true rfl, Nat.le_of_ble_eq_true rfl⟩ ⟨Nat.le_of_ble_eq_true rfl, Nat.le_of_ble_eq_true rfl⟩ ?_
      refine lv_eqi (y := 1) (by rw [hasB_k hk (by omega)]; rfl) ?_
      refine lv_if_ne (tgt := 14) hx hb dX3_cut_8 (by decide) (fun c_8 => ?_) (fun c_8 => ?_)
      · skip
        refine lv_aload_n hx hb dX3_cut_14 rfl (lv_at hl 0 rfl) ?_
        refine rd_X3_19 hx hb hown hW dX3_cut_15 ?_
        refine rd_X3_64 hx hb hown hW (show 0 < 2 by omega) dX3_cut_18 ?_
        refine lv_iload_n hx hb dX3_cut_21 rfl (lv_at hl 1 rfl) ?_
        refine al_sticks (k := k) hx hb hW (show 0 < 2 by omega) rfl (by omega) dX3_cut_22 ?_
        refine rd_X3_80 hx hb hown hW (by omega) dX3_cut_23 ?_
        refine lv_eqi (y := nI (S k 3)) (hg.2.2.2.1 k (by omega)).2.1.2.2.1 ?_
        refine lv_istore_n (lv' := [(3, .int (nI (S k 3))), (0, .ref (ga G 0)), (1, .int (nI k)), (2, .int y)]) hx hb dX3_cut_26 rfl hl (by decide) rfl (fun ls hl => ?_)
        refine lv_iload_n hx hb dX3_cut_27 rfl (lv_at hl 3 rfl) ?_
        refine lv_iconst (v := 1) hx hb dX3_cut_28 (by decide) ?_
        refine lv_icmp_lt (tgt := 37) hx hb dX3_cut_29 (by decide) (fun c_29 => ?_) (fun c_29 => ?_)
        · skip
          refine lv_bipush (v := (-102)) hx hb dX3_cut_37 (by decide) ?_
          exact W.iret (v := (-102)) hx hb hr (fun t9 ht9 hW9 => ⟨⟨_, σ, rfl, (Dp ((wG_k hk (by omega)).trans (wG_f hy0)) rfl (Chg.same hg)), (by have h8 := hW.1; rw [← ht9] at h8; exact h8)⟩, hS.F ht9⟩) hS.2.2 dX3_cut_39
        · skip
          refine lv_iload_n hx hb dX3_cut_32 rfl (lv_at hl 3 rfl) ?_
          refine lv_iload_n hx hb dX3_cut_33 rfl (lv_at hl 0 rfl) ?_
          refine lv_icmp_le (tgt := 40) hx hb dX3_cut_34 (by decide) (fun c_34 => ?_) (fun c_34 => ?_)
          · skip
            exact absurd (hB_le (S k 3) (by omega) (nlt_mono 1 (by omega) c_29) c_34) (by rw [hy0]; decide)
          · skip
            refine lv_bipush (v := (-102)) hx hb dX3_cut_37 (by decide) ?_
            exact W.iret (v := (-102)) hx hb hr (fun t9 ht9 hW9 => ⟨⟨_, σ, rfl, (Dp ((wG_k hk (by omega)).trans (wG_f hy0)) rfl (Chg.same hg)), (by have h8 := hW.1; rw [← ht9] at h8; exact h8)⟩, hS.F ht9⟩) hS.2.2 dX3_cut_39
      · skip
        exact absurd c_8 (by decide)
    · skip
      refine met_of [.ref (ga G 0), .int (nI k), .int (nI t)] [(0, .ref (ga G 0)), (1, .int (nI k)), (2, .int (nI t))] (by decide) (Nat.le_of_ble_eq_true rfl) rfl ?_
      intro p e s m below meth c hx hb hr hown hml hlocks hW ls hl
      have hG : GW s := hW.2.2.2.1
      have hS : va_S (aX G) s.heap s.heap [] := va_S.rf
      refine lv_aload_n hx hb dX3_cut_0 rfl (lv_at hl 0 rfl) ?_
      refine rd_X3_19 hx hb hown hW dX3_cut_1 ?_
      refine lv_iload_n hx hb dX3_cut_4 rfl (lv_at hl 1 rfl) ?_
      refine cr_i (q := 337) [.int (nI k)] hx hb hml hown hG v_X0_has (by decide +kernel) (c_X0_has l G σ 0 (by omega) n S q V ch hg (nI k)) (preH hW (show 0 < 2 by omega) _) rfl hl.1 (Nat.le_of_ble_eq_true rfl) dX3_cut_5 ⟨rfl, rfl, Nat.le_of_ble_eq_true rfl, Nat.le_of_ble_eq_true rfl⟩ ⟨Nat.le_of_ble_eq_true rfl, Nat.le_of_ble_eq_true rfl⟩ ?_
      refine lv_eqi (y := 1) (by rw [hasB_k hk (by omega)]; rfl) ?_
      refine lv_if_ne (tgt := 14) hx hb dX3_cut_8 (by decide) (fun c_8 => ?_) (fun c_8 => ?_)
      · skip
        refine lv_aload_n hx hb dX3_cut_14 rfl (lv_at hl 0 rfl) ?_
        refine rd_X3_19 hx hb hown hW dX3_cut_15 ?_
        refine rd_X3_64 hx hb hown hW (show 0 < 2 by omega) dX3_cut_18 ?_
        refine lv_iload_n hx hb dX3_cut_21 rfl (lv_at hl 1 rfl) ?_
        refine al_sticks (k := k) hx hb hW (show 0 < 2 by omega) rfl (by omega) dX3_cut_22 ?_
        refine rd_X3_80 hx hb hown hW (by omega) dX3_cut_23 ?_
        refine lv_eqi (y := nI (S k 3)) (hg.2.2.2.1 k (by omega)).2.1.2.2.1 ?_
        refine lv_istore_n (lv' := [(3, .int (nI (S k 3))), (0, .ref (ga G 0)), (1, .int (nI k)), (2, .int (nI t))]) hx hb dX3_cut_26 rfl hl (by decide) rfl (fun ls hl => ?_)
        refine lv_iload_n hx hb dX3_cut_27 rfl (lv_at hl 3 rfl) ?_
        refine lv_iconst (v := 1) hx hb dX3_cut_28 (by decide) ?_
        refine lv_icmp_lt (tgt := 37) hx hb dX3_cut_29 (by decide) (fun c_29 => ?_) (fun c_29 => ?_)
        · skip
          have q_29 := tN_lt t 1 c_29 rfl rfl (by omega) (by omega)
          refine lv_bipush (v := (-102)) hx hb dX3_cut_37 (by decide) ?_
          exact W.iret (v := (-102)) hx hb hr (fun t9 ht9 hW9 => ⟨⟨_, σ, rfl, (Dp ((wG_k hk (by omega)).trans ((wG_k ht (by omega)).trans (if_pos (by omega)))) rfl (Chg.same hg)), (by have h8 := hW.1; rw [← ht9] at h8; exact h8)⟩, hS.F ht9⟩) hS.2.2 dX3_cut_39
        · skip
          have q_29 := tN_nlt t 1 c_29 rfl rfl (by omega) (by omega)
          refine lv_iload_n hx hb dX3_cut_32 rfl (lv_at hl 3 rfl) ?_
          refine lv_iload_n hx hb dX3_cut_33 rfl (lv_at hl 0 rfl) ?_
          refine lv_icmp_le (tgt := 40) hx hb dX3_cut_34 (by decide) (fun c_34 => ?_) (fun c_34 => ?_)
          · skip
            have q_34 := tN_le t (S k 3) c_34 rfl rfl (by omega) (by omega)
            refine lv_aload_n hx hb dX3_cut_40 rfl (lv_at hl 1 rfl) ?_
            refine rd_X3_19 hx hb hown hW dX3_cut_41 ?_
            refine rd_X3_64 hx hb hown hW (show 0 < 2 by omega) dX3_cut_44 ?_
            refine lv_iload_n hx hb dX3_cut_47 rfl (lv_at hl 2 rfl) ?_
            refine al_sticks (k := k) hx hb hW (show 0 < 2 by omega) rfl (by omega) dX3_cut_48 ?_
            refine lv_iload_n hx hb dX3_cut_49 rfl (lv_at hl 3 rfl) ?_
            refine cw_v (q := 398) [.int (nI t)] hx hb hml hown hW.2 hS v_X2_shortenTo (by decide +kernel) (c_X2_shortenTo l G σ (6 * 0 + k) (by omega) (S k) (hg.2.2.2.1 k hk).1 (hg.2.2.2.1 k hk).2.1 (SF (S k) t) (SF_vs (hg.2.2.2.1 k hk).1 (by omega)) rfl rfl t rfl (by omega) (fun z9 _ => SF_4)) (preK hW (by omega) _) rfl hl.1 (Nat.le_of_ble_eq_true rfl) dX3_cut_50 ⟨rfl, rfl, Nat.le_of_ble_eq_true rfl, Nat.le_of_ble_eq_true rfl⟩ ⟨Nat.le_of_ble_eq_true rfl, Nat.le_of_ble_eq_true rfl⟩ (fun σ1 H locs hσ1 hW hS => ?_)
            refine lv_aload_n hx hb dX3_cut_53 rfl (lv_at hl 1 rfl) ?_
            refine rd_X3_19 hx hb hown hW dX3_cut_54 ?_
            refine lv_dup hx hb dX3_cut_57 rfl ?_
            refine rd_X3_124 hx hb hown hW (show 0 < 2 by omega) dX3_cut_58 ?_
            refine lv_eqi (y := ch) (by rw [hσ1.1 _ (by omega) (by omega) (by omega)]; exact hg.2.1) ?_
            refine lv_iconst (v := 1) hx hb dX3_cut_61 (by decide) ?_
            refine lv_iadd hx hb dX3_cut_62 ?_
            refine wr_X3_124 hx hb hown hW hS (show 0 < 2 by omega) dX3_cut_63 (fun H locs hW hS => ?_)
            obtain ⟨σ2, hσ2⟩ : ∃ z, z = up2 σ1 (5 * 0 + 4) 5 (ch + 1) := ⟨_, rfl⟩
            rw [← hσ2] at hW
            refine lv_iload_n hx hb dX3_cut_66 rfl (lv_at hl 0 rfl) ?_
            exact W.iret (v := nI (S k 3)) hx hb hr (fun t9 ht9 hW9 => ⟨⟨_, σ2, rfl, (Dp ((wG_k hk (by omega)).trans ((wG_k ht (by omega)).trans (if_neg (by omega)))) rfl (by subst hσ2; exact ⟨(GH.set (h := 0) (k := k) (S1 := SF (S k) t) (by omega) hk (SF_vs (hg.2.2.2.1 k hk).1 (by omega)) rfl hσ1 hg).chg, (NS.fh (h := 0) (k := k) (by omega) hσ1).trans (FHup (by omega) (by omega)), fun z => (NS.ax (S := SF (S k) t) (SF_vs (hg.2.2.2.1 k hk).1 (by omega)) hσ1 z).up (by omega)⟩)), (by have h8 := hW.1; rw [← ht9] at h8; exact h8)⟩, hS.F ht9⟩) hS.2.2 dX3_cut_67
          · skip
            exact absurd (tN_nle t (S k 3) c_34 rfl rfl (by omega) (by omega)) (by omega)
      · skip
        exact absurd c_8 (by decide)
set_option maxHeartbeats 4000000 in
set_option maxRecDepth 100000 in
theorem c_X3_saw (l : Launch) (G : Gam) (σ : St) (n : Nat) (S : Nat → Sk) (q : Nat) (V : Nat → Nat) (ch : Int32) (hg : GH σ 0 n S q V ch) (x y : Int32) : Met l yX3_saw (w1 yX3_saw cX3_saw 3 (some .int)) ({ frames := 6, cells := 0, slots := 0, locals := 133 }) (PcX G σ [.ref (ga G 0), .int x, .int y]) (QiX G (fun r σ9 => r = (dSaw n S ch x y).1 ∧ Chg σ σ9 (dSaw n S ch x y).2.1 (dSaw n S ch x y).2.2.1 q V (dSaw n S ch x y).2.2.2)) 0 0 (aX G) := by
  have hn6 := hg.1.2
  have hq8 := hg.2.2.1.2
  rcases hasB_c x (n := n) (by omega) with hx0 | ⟨k, hk, rfl⟩
  · skip
    refine met_of [.ref (ga G 0), .int x, .int y] [(0, .ref (ga G 0)), (1, .int x), (2, .int y)] (by decide) (Nat.le_of_ble_eq_true rfl) rfl ?_
    intro p e s m below meth c hx hb hr hown hml hlocks hW ls hl
    have hG : GW s := hW.2.2.2.1
    have hS : va_S (aX G) s.heap s.heap [] := va_S.rf
    refine lv_aload_n hx hb dX3_saw_0 rfl (lv_at hl 0 rfl) ?_
    refine rd_X3_19 hx hb hown hW dX3_saw_1 ?_
    refine lv_iload_n hx hb dX3_saw_4 rfl (lv_at hl 1 rfl) ?_
    refine cr_i (q := 337) [.int x] hx hb hml hown hG v_X0_has (by decide +kernel) (c_X0_has l G σ 0 (by omega) n S q V ch hg (x)) (preH hW (show 0 < 2 by omega) _) rfl hl.1 (Nat.le_of_ble_eq_true rfl) dX3_saw_5 ⟨rfl, rfl, Nat.le_of_ble_eq_true rfl, Nat.le_of_ble_eq_true rfl⟩ ⟨Nat.le_of_ble_eq_true rfl, Nat.le_of_ble_eq_true rfl⟩ ?_
    refine lv_eqi (y := 0) (by rw [hx0]; rfl) ?_
    refine lv_if_ne (tgt := 14) hx hb dX3_saw_8 (by decide) (fun c_8 => ?_) (fun c_8 => ?_)
    · skip
      exact absurd (by decide) c_8
    · skip
      refine lv_bipush (v := (-101)) hx hb dX3_saw_11 (by decide) ?_
      exact W.iret (v := (-101)) hx hb hr (fun t9 ht9 hW9 => ⟨⟨_, σ, rfl, (Dp (wG_f hx0) rfl (Chg.same hg)), (by have h8 := hW.1; rw [← ht9] at h8; exact h8)⟩, hS.F ht9⟩) hS.2.2 dX3_saw_13
  · skip
    have hk5 := (hg.2.2.2.1 k hk).1.2.2.1
    rcases hasB_c y (n := S k 3) (by omega) with hy0 | ⟨t, ht, rfl⟩
    · skip
      refine met_of [.ref (ga G 0), .int (nI k), .int y] [(0, .ref (ga G 0)), (1, .int (nI k)), (2, .int y)] (by decide) (Nat.le_of_ble_eq_true rfl) rfl ?_
      intro p e s m below meth c hx hb hr hown hml hlocks hW ls hl
      have hG : GW s := hW.2.2.2.1
      have hS : va_S (aX G) s.heap s.heap [] := va_S.rf
      refine lv_aload_n hx hb dX3_saw_0 rfl (lv_at hl 0 rfl) ?_
      refine rd_X3_19 hx hb hown hW dX3_saw_1 ?_
      refine lv_iload_n hx hb dX3_saw_4 rfl (lv_at hl 1 rfl) ?_
      refine cr_i (q := 337) [.int (nI k)] hx hb hml hown hG v_X0_has (by decide +kernel) (c_X0_has l G σ 0 (by omega) n S q V ch hg (nI k)) (preH hW (show 0 < 2 by omega) _) rfl hl.1 (Nat.le_of_ble_eq_true rfl) dX3_saw_5 ⟨rfl, rfl, Nat.le_of_ble_eq_true rfl, Nat.le_of_ble_eq_true rfl⟩ ⟨Nat.le_of_ble_eq_true rfl, Nat.le_of_ble_eq_true rfl⟩ ?_
      refine lv_eqi (y := 1) (by rw [hasB_k hk (by omega)]; rfl) ?_
      refine lv_if_ne (tgt := 14) hx hb dX3_saw_8 (by decide) (fun c_8 => ?_) (fun c_8 => ?_)
      · skip
        refine lv_iload_n hx hb dX3_saw_14 rfl (lv_at hl 2 rfl) ?_
        refine lv_iconst (v := 1) hx hb dX3_saw_15 (by decide) ?_
        refine lv_icmp_lt (tgt := 35) hx hb dX3_saw_16 (by decide) (fun c_16 => ?_) (fun c_16 => ?_)
        · skip
          refine lv_bipush (v := (-102)) hx hb dX3_saw_35 (by decide) ?_
          exact W.iret (v := (-102)) hx hb hr (fun t9 ht9 hW9 => ⟨⟨_, σ, rfl, (Dp ((wG_k hk (by omega)).trans (wG_f hy0)) rfl (Chg.same hg)), (by have h8 := hW.1; rw [← ht9] at h8; exact h8)⟩, hS.F ht9⟩) hS.2.2 dX3_saw_37
        · skip
          refine lv_iload_n hx hb dX3_saw_19 rfl (lv_at hl 2 rfl) ?_
          refine lv_aload_n hx hb dX3_saw_20 rfl (lv_at hl 0 rfl) ?_
          refine rd_X3_19 hx hb hown hW dX3_saw_21 ?_
          refine rd_X3_64 hx hb hown hW (show 0 < 2 by omega) dX3_saw_24 ?_
          refine lv_iload_n hx hb dX3_saw_27 rfl (lv_at hl 1 rfl) ?_
          refine al_sticks (k := k) hx hb hW (show 0 < 2 by omega) rfl (by omega) dX3_saw_28 ?_
          refine rd_X3_80 hx hb hown hW (by omega) dX3_saw_29 ?_
          refine lv_eqi (y := nI (S k 3)) (hg.2.2.2.1 k (by omega)).2.1.2.2.1 ?_
          refine lv_icmp_lt (tgt := 38) hx hb dX3_saw_32 (by decide) (fun c_32 => ?_) (fun c_32 => ?_)
          · skip
            exact absurd (hB_lt (S k 3) (nlt_mono 1 (by omega) c_16) c_32) (by rw [hy0]; decide)
          · skip
            refine lv_bipush (v := (-102)) hx hb dX3_saw_35 (by decide) ?_
            exact W.iret (v := (-102)) hx hb hr (fun t9 ht9 hW9 => ⟨⟨_, σ, rfl, (Dp ((wG_k hk (by omega)).trans (wG_f hy0)) rfl (Chg.same hg)), (by have h8 := hW.1; rw [← ht9] at h8; exact h8)⟩, hS.F ht9⟩) hS.2.2 dX3_saw_37
      · skip
        exact absurd c_8 (by decide)
    · skip
      refine met_of [.ref (ga G 0), .int (nI k), .int (nI t)] [(0, .ref (ga G 0)), (1, .int (nI k)), (2, .int (nI t))] (by decide) (Nat.le_of_ble_eq_true rfl) rfl ?_
      intro p e s m below meth c hx hb hr hown hml hlocks hW ls hl
      have hG : GW s := hW.2.2.2.1
      have hS : va_S (aX G) s.heap s.heap [] := va_S.rf
      refine lv_aload_n hx hb dX3_saw_0 rfl (lv_at hl 0 rfl) ?_
      refine rd_X3_19 hx hb hown hW dX3_saw_1 ?_
      refine lv_iload_n hx hb dX3_saw_4 rfl (lv_at hl 1 rfl) ?_
      refine cr_i (q := 337) [.int (nI k)] hx hb hml hown hG v_X0_has (by decide +kernel) (c_X0_has l G σ 0 (by omega) n S q V ch hg (nI k)) (preH hW (show 0 < 2 by omega) _) rfl hl.1 (Nat.le_of_ble_eq_true rfl) dX3_saw_5 ⟨rfl, rfl, Nat.le_of_ble_eq_true rfl, Nat.le_of_ble_eq_true rfl⟩ ⟨Nat.le_of_ble_eq_true rfl, Nat.le_of_ble_eq_true rfl⟩ ?_
      refine lv_eqi (y := 1) (by rw [hasB_k hk (by omega)]; rfl) ?_
      refine lv_if_ne (tgt := 14) hx hb dX3_saw_8 (by decide) (fun c_8 => ?_) (fun c_8 => ?_)
      · skip
        refine lv_iload_n hx hb dX3_saw_14 rfl (lv_at hl 2 rfl) ?_
        refine lv_iconst (v := 1) hx hb dX3_saw_15 (by decide) ?_
        refine lv_icmp_lt (tgt := 35) hx hb dX3_saw_16 (by decide) (fun c_16 => ?_) (fun c_16 => ?_)
        · skip
          have q_16 := tN_lt t 1 c_16 rfl rfl (by omega) (by omega)
          refine lv_bipush (v := (-102)) hx hb dX3_saw_35 (by decide) ?_
          exact W.iret (v := (-102)) hx hb hr (fun t9 ht9 hW9 => ⟨⟨_, σ, rfl, (Dp ((wG_k hk (by omega)).trans ((wG_k ht (by omega)).trans (if_pos (by omega)))) rfl (Chg.same hg)), (by have h8 := hW.1; rw [← ht9] at h8; exact h8)⟩, hS.F ht9⟩) hS.2.2 dX3_saw_37
        · skip
          have q_16 := tN_nlt t 1 c_16 rfl rfl (by omega) (by omega)
          refine lv_iload_n hx hb dX3_saw_19 rfl (lv_at hl 2 rfl) ?_
          refine lv_aload_n hx hb dX3_saw_20 rfl (lv_at hl 0 rfl) ?_
          refine rd_X3_19 hx hb hown hW dX3_saw_21 ?_
          refine rd_X3_64 hx hb hown hW (show 0 < 2 by omega) dX3_saw_24 ?_
          refine lv_iload_n hx hb dX3_saw_27 rfl (lv_at hl 1 rfl) ?_
          refine al_sticks (k := k) hx hb hW (show 0 < 2 by omega) rfl (by omega) dX3_saw_28 ?_
          refine rd_X3_80 hx hb hown hW (by omega) dX3_saw_29 ?_
          refine lv_eqi (y := nI (S k 3)) (hg.2.2.2.1 k (by omega)).2.1.2.2.1 ?_
          refine lv_icmp_lt (tgt := 38) hx hb dX3_saw_32 (by decide) (fun c_32 => ?_) (fun c_32 => ?_)
          · skip
            have q_32 := tN_lt t (S k 3) c_32 rfl rfl (by omega) (by omega)
            refine lv_aload_n hx hb dX3_saw_38 rfl (lv_at hl 0 rfl) ?_
            refine rd_X3_19 hx hb hown hW dX3_saw_39 ?_
            refine rd_X3_57 hx hb hown hW (show 0 < 2 by omega) dX3_saw_42 ?_
            refine lv_eqi (y := nI n) hg.1.1 ?_
            refine lv_bipush (v := 6) hx hb dX3_saw_45 (by decide) ?_
            refine lv_icmp_lt (tgt := 53) hx hb dX3_saw_47 (by decide) (fun c_47 => ?_) (fun c_47 => ?_)
            · skip
              have q_47 := tN_lt n 6 c_47 rfl rfl (by omega) (by omega)
              refine lv_aload_n hx hb dX3_saw_53 rfl (lv_at hl 0 rfl) ?_
              refine rd_X3_19 hx hb hown hW dX3_saw_54 ?_
              refine lv_iload_n hx hb dX3_saw_57 rfl (lv_at hl 1 rfl) ?_
              refine lv_iload_n hx hb dX3_saw_58 rfl (lv_at hl 2 rfl) ?_
              refine cw_v (q := 407) [.int (nI k), .int (nI t)] hx hb hml hown hW.2 hS v_X0_divide (by decide +kernel) (c_X0_divide l G σ 0 (by omega) n S q V ch hg k t hk q_47 q_16 ht) (preH hW (show 0 < 2 by omega) _) rfl hl.1 (Nat.le_of_ble_eq_true rfl) dX3_saw_59 ⟨rfl, rfl, Nat.le_of_ble_eq_true rfl, Nat.le_of_ble_eq_true rfl⟩ ⟨Nat.le_of_ble_eq_true rfl, Nat.le_of_ble_eq_true rfl⟩ (fun σ1 H locs hσ1 hW hS => ?_)
              refine lv_aload_n hx hb dX3_saw_62 rfl (lv_at hl 0 rfl) ?_
              refine rd_X3_19 hx hb hown hW dX3_saw_63 ?_
              refine lv_dup hx hb dX3_saw_66 rfl ?_
              refine rd_X3_124 hx hb hown hW (show 0 < 2 by omega) dX3_saw_67 ?_
              refine lv_eqi (y := ch) hσ1.1.2.1 ?_
              refine lv_iconst (v := 1) hx hb dX3_saw_70 (by decide) ?_
              refine lv_iadd hx hb dX3_saw_71 ?_
              refine wr_X3_124 hx hb hown hW hS (show 0 < 2 by omega) dX3_saw_72 (fun H locs hW hS => ?_)
              obtain ⟨σ2, hσ2⟩ : ∃ z, z = up2 σ1 (5 * 0 + 4) 5 (ch + 1) := ⟨_, rfl⟩
              rw [← hσ2] at hW
              refine lv_aload_n hx hb dX3_saw_75 rfl (lv_at hl 0 rfl) ?_
              refine rd_X3_19 hx hb hown hW dX3_saw_76 ?_
              refine rd_X3_57 hx hb hown hW (show 0 < 2 by omega) dX3_saw_79 ?_
              refine lv_eqi (y := nI (n + 1)) (by subst hσ2; rw [up2_nf (by omega)]; exact hσ1.1.1.1) ?_
              refine lv_iconst (v := 1) hx hb dX3_saw_82 (by decide) ?_
              refine ln_sub (n + 1) 1 hx hb rfl rfl (by omega) dX3_saw_83 ?_
              exact W.iret (v := nI ((n + 1) - 1)) hx hb hr (fun t9 ht9 hW9 => ⟨⟨_, σ2, rfl, (Dp ((wG_k hk (by omega)).trans ((wG_k ht (by omega)).trans ((if_neg (by omega)).trans (if_neg (by omega))))) rfl (by subst hσ2; exact ⟨hσ1.1.chg, hσ1.2.1.trans (FHup (by omega) (by omega)), fun z => (hσ1.2.2 z).up (by omega)⟩)), (by have h8 := hW.1; rw [← ht9] at h8; exact h8)⟩, hS.F ht9⟩) hS.2.2 dX3_saw_84
            · skip
              have q_47 := tN_nlt n 6 c_47 rfl rfl (by omega) (by omega)
              refine lv_bipush (v := (-104)) hx hb dX3_saw_50 (by decide) ?_
              exact W.iret (v := (-104)) hx hb hr (fun t9 ht9 hW9 => ⟨⟨_, σ, rfl, (Dp ((wG_k hk (by omega)).trans ((wG_k ht (by omega)).trans ((if_neg (by omega)).trans (if_pos (by omega))))) rfl (Chg.same hg)), (by have h8 := hW.1; rw [← ht9] at h8; exact h8)⟩, hS.F ht9⟩) hS.2.2 dX3_saw_52
          · skip
            exact absurd (tN_nlt t (S k 3) c_32 rfl rfl (by omega) (by omega)) (by omega)
      · skip
        exact absurd c_8 (by decide)
set_option maxHeartbeats 4000000 in
set_option maxRecDepth 100000 in
theorem c_X3_see (l : Launch) (G : Gam) (σ : St) (n : Nat) (S : Nat → Sk) (q : Nat) (V : Nat → Nat) (ch : Int32) (hg : GH σ 0 n S q V ch) (x y : Int32) : Met l yX3_see (w1 yX3_see cX3_see 3 (some .int)) ({ frames := 1, cells := 0, slots := 0, locals := 22 }) (PcX G σ [.ref (ga G 0), .int x, .int y]) (QiX G (fun r σ9 => r = (dSee q V x y).1 ∧ Chg σ σ9 n S (dSee q V x y).2.1 (dSee q V x y).2.2 ch)) 0 0 (aX G) := by
  have hn6 := hg.1.2
  have hq8 := hg.2.2.1.2
  rcases hasB_c x (n := 16) (by omega) with hx0 | ⟨k, hk, rfl⟩
  · skip
    refine met_of [.ref (ga G 0), .int x, .int y] [(0, .ref (ga G 0)), (1, .int x), (2, .int y)] (by decide) (Nat.le_of_ble_eq_true rfl) rfl ?_
    intro p e s m below meth c hx hb hr hown hml hlocks hW ls hl
    have hG : GW s := hW.2.2.2.1
    have hS : va_S (aX G) s.heap s.heap [] := va_S.rf
    refine lv_iload_n hx hb dX3_see_0 rfl (lv_at hl 1 rfl) ?_
    refine cs_i (q := 441) [.int x] hx hb hml hown hG v_X3_isPlace (by decide +kernel) (c_X3_isPlace l (x)) (preT _) rfl hl.1 (Nat.le_of_ble_eq_true rfl) dX3_see_1 ⟨rfl, rfl, Nat.le_of_ble_eq_true rfl, Nat.le_of_ble_eq_true rfl⟩ ⟨Nat.le_of_ble_eq_true rfl, Nat.le_of_ble_eq_true rfl⟩ ?_
    refine lv_eqi (y := 0) (by rw [hB16, hx0]; rfl) ?_
    refine lv_if_eq (tgt := 14) hx hb dX3_see_4 (by decide) (fun c_4 => ?_) (fun c_4 => ?_)
    · skip
      refine lv_bipush (v := (-102)) hx hb dX3_see_14 (by decide) ?_
      exact W.iret (v := (-102)) hx hb hr (fun t9 ht9 hW9 => ⟨⟨_, σ, rfl, (Dq (wG_f hx0) rfl (Chg.same hg)), (by have h8 := hW.1; rw [← ht9] at h8; exact h8)⟩, hS.F ht9⟩) hS.2.2 dX3_see_16
    · skip
      exact absurd (by decide) c_4
  · skip
    rcases hasB_c y (n := 31) (by omega) with hy0 | ⟨t, ht, rfl⟩
    · skip
      refine met_of [.ref (ga G 0), .int (nI k), .int y] [(0, .ref (ga G 0)), (1, .int (nI k)), (2, .int y)] (by decide) (Nat.le_of_ble_eq_true rfl) rfl ?_
      intro p e s m below meth c hx hb hr hown hml hlocks hW ls hl
      have hG : GW s := hW.2.2.2.1
      have hS : va_S (aX G) s.heap s.heap [] := va_S.rf
      refine lv_iload_n hx hb dX3_see_0 rfl (lv_at hl 1 rfl) ?_
      refine cs_i (q := 441) [.int (nI k)] hx hb hml hown hG v_X3_isPlace (by decide +kernel) (c_X3_isPlace l (nI k)) (preT _) rfl hl.1 (Nat.le_of_ble_eq_true rfl) dX3_see_1 ⟨rfl, rfl, Nat.le_of_ble_eq_true rfl, Nat.le_of_ble_eq_true rfl⟩ ⟨Nat.le_of_ble_eq_true rfl, Nat.le_of_ble_eq_true rfl⟩ ?_
      refine lv_eqi (y := 1) (by rw [hB16, hasB_k hk (by omega)]; rfl) ?_
      refine lv_if_eq (tgt := 14) hx hb dX3_see_4 (by decide) (fun c_4 => ?_) (fun c_4 => ?_)
      · skip
        exact absurd c_4 (by decide)
      · skip
        refine lv_iload_n hx hb dX3_see_7 rfl (lv_at hl 2 rfl) ?_
        refine cs_i (q := 366) [.int y] hx hb hml hown hG v_X3_isHour (by decide +kernel) (c_X3_isHour l (y)) (preT _) rfl hl.1 (Nat.le_of_ble_eq_true rfl) dX3_see_8 ⟨rfl, rfl, Nat.le_of_ble_eq_true rfl, Nat.le_of_ble_eq_true rfl⟩ ⟨Nat.le_of_ble_eq_true rfl, Nat.le_of_ble_eq_true rfl⟩ ?_
        refine lv_eqi (y := 0) (by rw [hB30, hy0]; rfl) ?_
        refine lv_if_ne (tgt := 17) hx hb dX3_see_11 (by decide) (fun c_11 => ?_) (fun c_11 => ?_)
        · skip
          exact absurd (by decide) c_11
        · skip
          refine lv_bipush (v := (-102)) hx hb dX3_see_14 (by decide) ?_
          exact W.iret (v := (-102)) hx hb hr (fun t9 ht9 hW9 => ⟨⟨_, σ, rfl, (Dq ((wG_k hk (by omega)).trans (wG_f hy0)) rfl (Chg.same hg)), (by have h8 := hW.1; rw [← ht9] at h8; exact h8)⟩, hS.F ht9⟩) hS.2.2 dX3_see_16
    · skip
      refine met_of [.ref (ga G 0), .int (nI k), .int (nI t)] [(0, .ref (ga G 0)), (1, .int (nI k)), (2, .int (nI t))] (by decide) (Nat.le_of_ble_eq_true rfl) rfl ?_
      intro p e s m below meth c hx hb hr hown hml hlocks hW ls hl
      have hG : GW s := hW.2.2.2.1
      have hS : va_S (aX G) s.heap s.heap [] := va_S.rf
      refine lv_iload_n hx hb dX3_see_0 rfl (lv_at hl 1 rfl) ?_
      refine cs_i (q := 441) [.int (nI k)] hx hb hml hown hG v_X3_isPlace (by decide +kernel) (c_X3_isPlace l (nI k)) (preT _) rfl hl.1 (Nat.le_of_ble_eq_true rfl) dX3_see_1 ⟨rfl, rfl, Nat.le_of_ble_eq_true rfl, Nat.le_of_ble_eq_true rfl⟩ ⟨Nat.le_of_ble_eq_true rfl, Nat.le_of_ble_eq_true rfl⟩ ?_
      refine lv_eqi (y := 1) (by rw [hB16, hasB_k hk (by omega)]; rfl) ?_
      refine lv_if_eq (tgt := 14) hx hb dX3_see_4 (by decide) (fun c_4 => ?_) (fun c_4 => ?_)
      · skip
        exact absurd c_4 (by decide)
      · skip
        refine lv_iload_n hx hb dX3_see_7 rfl (lv_at hl 2 rfl) ?_
        refine cs_i (q := 366) [.int (nI t)] hx hb hml hown hG v_X3_isHour (by decide +kernel) (c_X3_isHour l (nI t)) (preT _) rfl hl.1 (Nat.le_of_ble_eq_true rfl) dX3_see_8 ⟨rfl, rfl, Nat.le_of_ble_eq_true rfl, Nat.le_of_ble_eq_true rfl⟩ ⟨Nat.le_of_ble_eq_true rfl, Nat.le_of_ble_eq_true rfl⟩ ?_
        refine lv_eqi (y := 1) (by rw [hB30, hasB_k ht (by omega)]; rfl) ?_
        refine lv_if_ne (tgt := 17) hx hb dX3_see_11 (by decide) (fun c_11 => ?_) (fun c_11 => ?_)
        · skip
          refine lv_aload_n hx hb dX3_see_17 rfl (lv_at hl 0 rfl) ?_
          refine rd_X3_19 hx hb hown hW dX3_see_18 ?_
          refine lv_iload_n hx hb dX3_see_21 rfl (lv_at hl 1 rfl) ?_
          refine lv_iload_n hx hb dX3_see_22 rfl (lv_at hl 2 rfl) ?_
          refine cw_i (q := 457) [.int (nI k), .int (nI t)] hx hb hml hown hW.2 hS v_X0_noteSeen (by decide +kernel) (c_X0_noteSeen l G σ 0 (by omega) n S q V ch hg k t) (preH hW (show 0 < 2 by omega) _) rfl hl.1 (Nat.le_of_ble_eq_true rfl) dX3_see_23 ⟨rfl, rfl, Nat.le_of_ble_eq_true rfl, Nat.le_of_ble_eq_true rfl⟩ ⟨Nat.le_of_ble_eq_true rfl, Nat.le_of_ble_eq_true rfl⟩ (fun r_23 σ1 H locs hσ1 hW hS => ?_)
          by_cases hq9 : q < 8
          · skip
            obtain ⟨hr1, hs1⟩ := hσ1.1 hq9
            subst hr1
            refine lv_if_eq (tgt := 39) hx hb dX3_see_26 (by decide) (fun c_26 => ?_) (fun c_26 => ?_)
            · skip
              exact absurd c_26 (by decide)
            · skip
              refine lv_aload_n hx hb dX3_see_29 rfl (lv_at hl 0 rfl) ?_
              refine rd_X3_19 hx hb hown hW dX3_see_30 ?_
              refine rd_X3_148 hx hb hown hW (show 0 < 2 by omega) dX3_see_33 ?_
              refine lv_eqi (y := nI (q + 1)) (by rw [hs1, up2_eq]) ?_
              refine lv_goto (tgt := 41) hx hb dX3_see_36 (by decide) ?_
              exact W.iret (v := nI (q + 1)) hx hb hr (fun t9 ht9 hW9 => ⟨⟨_, σ1, rfl, (Dq ((wG_k hk (by omega)).trans ((wG_k ht (by omega)).trans (if_pos hq9))) rfl (by rw [hs1]; exact ⟨hg.see (by omega) hq9 hk (by omega), ((FHup (by omega) (by omega)).trans (FHup (by omega) (by omega))).trans (FHup (by omega) (by omega)), fun z => ((z.up (by omega)).up (by omega)).up (by omega)⟩)), (by have h8 := hW.1; rw [← ht9] at h8; exact h8)⟩, hS.F ht9⟩) hS.2.2 dX3_see_41
          · skip
            obtain ⟨hr1, hs1⟩ := hσ1.2 hq9
            subst hr1
            refine lv_if_eq (tgt := 39) hx hb dX3_see_26 (by decide) (fun c_26 => ?_) (fun c_26 => ?_)
            · skip
              refine lv_bipush (v := (-104)) hx hb dX3_see_39 (by decide) ?_
              exact W.iret (v := (-104)) hx hb hr (fun t9 ht9 hW9 => ⟨⟨_, σ1, rfl, (Dq ((wG_k hk (by omega)).trans ((wG_k ht (by omega)).trans (if_neg hq9))) rfl (by rw [hs1]; exact Chg.same hg)), (by have h8 := hW.1; rw [← ht9] at h8; exact h8)⟩, hS.F ht9⟩) hS.2.2 dX3_see_41
            · skip
              exact absurd (by decide) c_26
        · skip
          exact absurd c_11 (by decide)
end
