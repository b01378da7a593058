section
/-- a private method of a class that the tables say can be made, by its rows of tables_1 -/
def lw_okq (q : MethodName × Nat) : Prop := (q.1.cls ≠ "java/lang/invoke/MethodHandle" ∧ q.1.cls ≠ "java/lang/invoke/VarHandle") ∧ Cond.instantiable q.1.cls q.2 ∈ tables_1 ∧ Cond.privateMethod q.1 ∈ tables_1 ∧ Cond.instanceMethod q.1 ∈ tables_1
theorem lw_p0 : lw_okq (⟨"StiltYard$Scene", "backToStart", "()V"⟩, 7) := ⟨⟨by decide +kernel, by decide +kernel⟩, List.mem_of_getElem? (i := 38) (by decide +kernel), List.mem_of_getElem? (i := 333) (by decide +kernel), List.mem_of_getElem? (i := 334) (by decide +kernel)⟩
theorem lw_p1 : lw_okq (⟨"StiltYard$Heard", "allows", "(LStiltYard$Ground;I)Z"⟩, 5) := ⟨⟨by decide +kernel, by decide +kernel⟩, List.mem_of_getElem? (i := 57) (by decide +kernel), List.mem_of_getElem? (i := 361) (by decide +kernel), List.mem_of_getElem? (i := 362) (by decide +kernel)⟩
theorem lw_p2 : lw_okq (⟨"StiltYard", "hasYard", "()Z"⟩, 11) := ⟨⟨by decide +kernel, by decide +kernel⟩, List.mem_of_getElem? (i := 16) (by decide +kernel), List.mem_of_getElem? (i := 396) (by decide +kernel), List.mem_of_getElem? (i := 397) (by decide +kernel)⟩
theorem lw_p3 : lw_okq (⟨"StiltYard", "refusalOfStep", "(I)I"⟩, 11) := ⟨⟨by decide +kernel, by decide +kernel⟩, List.mem_of_getElem? (i := 16) (by decide +kernel), List.mem_of_getElem? (i := 408) (by decide +kernel), List.mem_of_getElem? (i := 409) (by decide +kernel)⟩
theorem lw_p4 : lw_okq (⟨"StiltYard$Route", "reach", "(IIIII)V"⟩, 6) := ⟨⟨by decide +kernel, by decide +kernel⟩, List.mem_of_getElem? (i := 111) (by decide +kernel), List.mem_of_getElem? (i := 442) (by decide +kernel), List.mem_of_getElem? (i := 443) (by decide +kernel)⟩
theorem lw_p5 : lw_okq (⟨"StiltYard$Route", "stepsOf", "(I)I"⟩, 6) := ⟨⟨by decide +kernel, by decide +kernel⟩, List.mem_of_getElem? (i := 111) (by decide +kernel), List.mem_of_getElem? (i := 449) (by decide +kernel), List.mem_of_getElem? (i := 450) (by decide +kernel)⟩
theorem lw_p6 : lw_okq (⟨"StiltYard$Route", "goOn", "(LStiltYard$Ground;III)V"⟩, 6) := ⟨⟨by decide +kernel, by decide +kernel⟩, List.mem_of_getElem? (i := 111) (by decide +kernel), List.mem_of_getElem? (i := 454) (by decide +kernel), List.mem_of_getElem? (i := 455) (by decide +kernel)⟩
theorem lw_p7 : lw_okq (⟨"StiltYard", "greatestHeight", "()I"⟩, 11) := ⟨⟨by decide +kernel, by decide +kernel⟩, List.mem_of_getElem? (i := 16) (by decide +kernel), List.mem_of_getElem? (i := 468) (by decide +kernel), List.mem_of_getElem? (i := 469) (by decide +kernel)⟩
theorem lw_p8 : lw_okq (⟨"StiltYard", "findMend", "()V"⟩, 11) := ⟨⟨by decide +kernel, by decide +kernel⟩, List.mem_of_getElem? (i := 16) (by decide +kernel), List.mem_of_getElem? (i := 476) (by decide +kernel), List.mem_of_getElem? (i := 477) (by decide +kernel)⟩
theorem lw_p9 : lw_okq (⟨"StiltYardModel", "read", "()I"⟩, 34) := ⟨⟨by decide +kernel, by decide +kernel⟩, List.mem_of_getElem? (i := 560) (by decide +kernel), List.mem_of_getElem? (i := 684) (by decide +kernel), List.mem_of_getElem? (i := 685) (by decide +kernel)⟩
theorem lw_p10 : lw_okq (⟨"StiltYardModel", "at", "(I)I"⟩, 34) := ⟨⟨by decide +kernel, by decide +kernel⟩, List.mem_of_getElem? (i := 560) (by decide +kernel), List.mem_of_getElem? (i := 688) (by decide +kernel), List.mem_of_getElem? (i := 689) (by decide +kernel)⟩
theorem lw_p11 : lw_okq (⟨"StiltYardModel", "isPlace", "(I)Z"⟩, 34) := ⟨⟨by decide +kernel, by decide +kernel⟩, List.mem_of_getElem? (i := 560) (by decide +kernel), List.mem_of_getElem? (i := 703) (by decide +kernel), List.mem_of_getElem? (i := 704) (by decide +kernel)⟩
theorem lw_p12 : lw_okq (⟨"StiltYardModel", "placeNow", "(II)I"⟩, 34) := ⟨⟨by decide +kernel, by decide +kernel⟩, List.mem_of_getElem? (i := 560) (by decide +kernel), List.mem_of_getElem? (i := 707) (by decide +kernel), List.mem_of_getElem? (i := 708) (by decide +kernel)⟩
theorem lw_p13 : lw_okq (⟨"StiltYardModel", "swayBy", "(III)I"⟩, 34) := ⟨⟨by decide +kernel, by decide +kernel⟩, List.mem_of_getElem? (i := 560) (by decide +kernel), List.mem_of_getElem? (i := 711) (by decide +kernel), List.mem_of_getElem? (i := 712) (by decide +kernel)⟩
theorem lw_p14 : lw_okq (⟨"StiltYardModel", "tryAt", "(I)I"⟩, 34) := ⟨⟨by decide +kernel, by decide +kernel⟩, List.mem_of_getElem? (i := 560) (by decide +kernel), List.mem_of_getElem? (i := 715) (by decide +kernel), List.mem_of_getElem? (i := 716) (by decide +kernel)⟩
theorem lw_p15 : lw_okq (⟨"StiltYardModel", "heightsNow", "()I"⟩, 34) := ⟨⟨by decide +kernel, by decide +kernel⟩, List.mem_of_getElem? (i := 560) (by decide +kernel), List.mem_of_getElem? (i := 719) (by decide +kernel), List.mem_of_getElem? (i := 720) (by decide +kernel)⟩
def lw_privs_1 : List (MethodName × Nat) := [(⟨"StiltYard$Scene", "backToStart", "()V"⟩, 7), (⟨"StiltYard$Heard", "allows", "(LStiltYard$Ground;I)Z"⟩, 5), (⟨"StiltYard", "hasYard", "()Z"⟩, 11), (⟨"StiltYard", "refusalOfStep", "(I)I"⟩, 11), (⟨"StiltYard$Route", "reach", "(IIIII)V"⟩, 6), (⟨"StiltYard$Route", "stepsOf", "(I)I"⟩, 6), (⟨"StiltYard$Route", "goOn", "(LStiltYard$Ground;III)V"⟩, 6), (⟨"StiltYard", "greatestHeight", "()I"⟩, 11), (⟨"StiltYard", "findMend", "()V"⟩, 11), (⟨"StiltYardModel", "read", "()I"⟩, 34), (⟨"StiltYardModel", "at", "(I)I"⟩, 34), (⟨"StiltYardModel", "isPlace", "(I)Z"⟩, 34), (⟨"StiltYardModel", "placeNow", "(II)I"⟩, 34), (⟨"StiltYardModel", "swayBy", "(III)I"⟩, 34), (⟨"StiltYardModel", "tryAt", "(I)I"⟩, 34), (⟨"StiltYardModel", "heightsNow", "()I"⟩, 34)]
theorem lw_r1 : ∀ q ∈ lw_privs_1, lw_okq q := List.forall_mem_cons.mpr ⟨lw_p0, List.forall_mem_cons.mpr ⟨lw_p1, List.forall_mem_cons.mpr ⟨lw_p2, List.forall_mem_cons.mpr ⟨lw_p3, List.forall_mem_cons.mpr ⟨lw_p4, List.forall_mem_cons.mpr ⟨lw_p5, List.forall_mem_cons.mpr ⟨lw_p6, List.forall_mem_cons.mpr ⟨lw_p7, List.forall_mem_cons.mpr ⟨lw_p8, List.forall_mem_cons.mpr ⟨lw_p9, List.forall_mem_cons.mpr ⟨lw_p10, List.forall_mem_cons.mpr ⟨lw_p11, List.forall_mem_cons.mpr ⟨lw_p12, List.forall_mem_cons.mpr ⟨lw_p13, List.forall_mem_cons.mpr ⟨lw_p14, List.forall_mem_cons.mpr ⟨lw_p15, fun _ h => absurd h List.not_mem_nil⟩⟩⟩⟩⟩⟩⟩⟩⟩⟩⟩⟩⟩⟩⟩⟩
theorem lw_p16 : lw_okq (⟨"StiltYardModel", "goes", "(I)Z"⟩, 34) := ⟨⟨by decide +kernel, by decide +kernel⟩, List.mem_of_getElem? (i := 560) (by decide +kernel), List.mem_of_getElem? (i := 746) (by decide +kernel), List.mem_of_getElem? (i := 747) (by decide +kernel)⟩
theorem lw_p17 : lw_okq (⟨"StiltYardModel", "quickNow", "(I)I"⟩, 34) := ⟨⟨by decide +kernel, by decide +kernel⟩, List.mem_of_getElem? (i := 560) (by decide +kernel), List.mem_of_getElem? (i := 758) (by decide +kernel), List.mem_of_getElem? (i := 759) (by decide +kernel)⟩
theorem lw_p18 : lw_okq (⟨"StiltYardModel", "layFew", "(I)V"⟩, 34) := ⟨⟨by decide +kernel, by decide +kernel⟩, List.mem_of_getElem? (i := 560) (by decide +kernel), List.mem_of_getElem? (i := 762) (by decide +kernel), List.mem_of_getElem? (i := 763) (by decide +kernel)⟩
theorem lw_p19 : lw_okq (⟨"StiltYardModel", "isShorter", "(III)Z"⟩, 34) := ⟨⟨by decide +kernel, by decide +kernel⟩, List.mem_of_getElem? (i := 560) (by decide +kernel), List.mem_of_getElem? (i := 766) (by decide +kernel), List.mem_of_getElem? (i := 767) (by decide +kernel)⟩
theorem lw_p20 : lw_okq (⟨"StiltYardModel", "fewBy", "(IIII)I"⟩, 34) := ⟨⟨by decide +kernel, by decide +kernel⟩, List.mem_of_getElem? (i := 560) (by decide +kernel), List.mem_of_getElem? (i := 770) (by decide +kernel), List.mem_of_getElem? (i := 771) (by decide +kernel)⟩
theorem lw_p21 : lw_okq (⟨"StiltYardModel", "highNow", "()I"⟩, 34) := ⟨⟨by decide +kernel, by decide +kernel⟩, List.mem_of_getElem? (i := 560) (by decide +kernel), List.mem_of_getElem? (i := 778) (by decide +kernel), List.mem_of_getElem? (i := 779) (by decide +kernel)⟩
theorem lw_p22 : lw_okq (⟨"StiltYardModel", "fewWith", "(I)I"⟩, 34) := ⟨⟨by decide +kernel, by decide +kernel⟩, List.mem_of_getElem? (i := 560) (by decide +kernel), List.mem_of_getElem? (i := 782) (by decide +kernel), List.mem_of_getElem? (i := 783) (by decide +kernel)⟩
theorem lw_p23 : lw_okq (⟨"StiltYardModel", "mendNow", "(I)I"⟩, 34) := ⟨⟨by decide +kernel, by decide +kernel⟩, List.mem_of_getElem? (i := 560) (by decide +kernel), List.mem_of_getElem? (i := 790) (by decide +kernel), List.mem_of_getElem? (i := 791) (by decide +kernel)⟩
theorem lw_p24 : lw_okq (⟨"StiltYardModel", "racesNow", "(III)I"⟩, 34) := ⟨⟨by decide +kernel, by decide +kernel⟩, List.mem_of_getElem? (i := 560) (by decide +kernel), List.mem_of_getElem? (i := 810) (by decide +kernel), List.mem_of_getElem? (i := 811) (by decide +kernel)⟩
theorem lw_p25 : lw_okq (⟨"StiltYardModel", "draw", "(I)I"⟩, 34) := ⟨⟨by decide +kernel, by decide +kernel⟩, List.mem_of_getElem? (i := 560) (by decide +kernel), List.mem_of_getElem? (i := 814) (by decide +kernel), List.mem_of_getElem? (i := 815) (by decide +kernel)⟩
theorem lw_p26 : lw_okq (⟨"StiltYardModel", "howMany", "(I)I"⟩, 34) := ⟨⟨by decide +kernel, by decide +kernel⟩, List.mem_of_getElem? (i := 560) (by decide +kernel), List.mem_of_getElem? (i := 834) (by decide +kernel), List.mem_of_getElem? (i := 835) (by decide +kernel)⟩
theorem lw_p27 : lw_okq (⟨"StiltYardModel", "plain", "()I"⟩, 34) := ⟨⟨by decide +kernel, by decide +kernel⟩, List.mem_of_getElem? (i := 560) (by decide +kernel), List.mem_of_getElem? (i := 838) (by decide +kernel), List.mem_of_getElem? (i := 839) (by decide +kernel)⟩
theorem lw_p28 : lw_okq (⟨"StiltYardModel", "mix", "(J)V"⟩, 34) := ⟨⟨by decide +kernel, by decide +kernel⟩, List.mem_of_getElem? (i := 560) (by decide +kernel), List.mem_of_getElem? (i := 847) (by decide +kernel), List.mem_of_getElem? (i := 848) (by decide +kernel)⟩
def lw_privs_2 : List (MethodName × Nat) := [(⟨"StiltYardModel", "goes", "(I)Z"⟩, 34), (⟨"StiltYardModel", "quickNow", "(I)I"⟩, 34), (⟨"StiltYardModel", "layFew", "(I)V"⟩, 34), (⟨"StiltYardModel", "isShorter", "(III)Z"⟩, 34), (⟨"StiltYardModel", "fewBy", "(IIII)I"⟩, 34), (⟨"StiltYardModel", "highNow", "()I"⟩, 34), (⟨"StiltYardModel", "fewWith", "(I)I"⟩, 34), (⟨"StiltYardModel", "mendNow", "(I)I"⟩, 34), (⟨"StiltYardModel", "racesNow", "(III)I"⟩, 34), (⟨"StiltYardModel", "draw", "(I)I"⟩, 34), (⟨"StiltYardModel", "howMany", "(I)I"⟩, 34), (⟨"StiltYardModel", "plain", "()I"⟩, 34), (⟨"StiltYardModel", "mix", "(J)V"⟩, 34)]
theorem lw_r2 : ∀ q ∈ lw_privs_2, lw_okq q := List.forall_mem_cons.mpr ⟨lw_p16, List.forall_mem_cons.mpr ⟨lw_p17, List.forall_mem_cons.mpr ⟨lw_p18, List.forall_mem_cons.mpr ⟨lw_p19, List.forall_mem_cons.mpr ⟨lw_p20, List.forall_mem_cons.mpr ⟨lw_p21, List.forall_mem_cons.mpr ⟨lw_p22, List.forall_mem_cons.mpr ⟨lw_p23, List.forall_mem_cons.mpr ⟨lw_p24, List.forall_mem_cons.mpr ⟨lw_p25, List.forall_mem_cons.mpr ⟨lw_p26, List.forall_mem_cons.mpr ⟨lw_p27, List.forall_mem_cons.mpr ⟨lw_p28, fun _ h => absurd h List.not_mem_nil⟩⟩⟩⟩⟩⟩⟩⟩⟩⟩⟩⟩⟩
def lw_privs : List (MethodName × Nat) := lw_privs_1 ++ (lw_privs_2)
def lw_tbl : List Cond := k2_sels lw_privs ++ tables_1
theorem lw_privs_ok : ∀ q ∈ lw_privs, lw_okq q := by
  show ∀ q ∈ lw_privs_1 ++ (lw_privs_2), lw_okq q
  exact List.forall_mem_append.mpr ⟨lw_r1, lw_r2⟩
end
section
def RX0 : String := "StiltYard$Ground"
def TX0 : u_T := fun k => match k with
  | 0 => ("StiltYard$Ground", "kinds", "[I", true)
  | _ => ("StiltYard$Ground", "places", "I", false)
def tyX0 : Nat → FieldType := fun k => match k with
  | 0 => .array .int
  | _ => .int
theorem nmX0 : ∀ a, a < 2 → ∀ b, b < 2 → a ≠ b → (TX0 a).2.1 ≠ (TX0 b).2.1 := by decide +kernel
theorem tyX0_ok : ∀ k, k < 2 → parseFieldDescriptor (TX0 k).2.2.1 = some (tyX0 k) := by decide +kernel
abbrev cX0_init : ByteArray := prog_2_method_1_code
def yX0_init : MethodName := ⟨RX0, "<init>", "()V"⟩
abbrev cX0_places : ByteArray := prog_2_method_2_code
def yX0_places : MethodName := ⟨RX0, "places", "()I"⟩
abbrev cX0_has : ByteArray := prog_2_method_3_code
def yX0_has : MethodName := ⟨RX0, "has", "(I)Z"⟩
abbrev cX0_kindAt : ByteArray := prog_2_method_4_code
def yX0_kindAt : MethodName := ⟨RX0, "kindAt", "(I)I"⟩
abbrev cX0_put : ByteArray := prog_2_method_5_code
def yX0_put : MethodName := ⟨RX0, "put", "(II)I"⟩
abbrev cX0_plainPlaces : ByteArray := prog_2_method_6_code
def yX0_plainPlaces : MethodName := ⟨RX0, "plainPlaces", "()I"⟩
abbrev cX0_read : ByteArray := prog_2_method_7_code
def yX0_read : MethodName := ⟨RX0, "read", "(LStiltYard$Page;)V"⟩
abbrev cX0_copyFrom : ByteArray := prog_2_method_8_code
def yX0_copyFrom : MethodName := ⟨RX0, "copyFrom", "(LStiltYard$Ground;)V"⟩
def RX1 : String := "StiltYard$Heard"
def TX1 : u_T := fun k => match k with
  | 0 => ("StiltYard$Heard", "places", "[I", true)
  | 1 => ("StiltYard$Heard", "fars", "[I", true)
  | 2 => ("StiltYard$Heard", "sways", "[I", true)
  | 3 => ("StiltYard$Heard", "falls", "[Z", true)
  | _ => ("StiltYard$Heard", "size", "I", false)
def tyX1 : Nat → FieldType := fun k => match k with
  | 0 => .array .int
  | 1 => .array .int
  | 2 => .array .int
  | 3 => .array .boolean
  | _ => .int
theorem nmX1 : ∀ a, a < 5 → ∀ b, b < 5 → a ≠ b → (TX1 a).2.1 ≠ (TX1 b).2.1 := by decide +kernel
theorem tyX1_ok : ∀ k, k < 5 → parseFieldDescriptor (TX1 k).2.2.1 = some (tyX1 k) := by decide +kernel
abbrev cX1_init : ByteArray := prog_3_method_1_code
def yX1_init : MethodName := ⟨RX1, "<init>", "()V"⟩
abbrev cX1_size : ByteArray := prog_3_method_2_code
def yX1_size : MethodName := ⟨RX1, "size", "()I"⟩
abbrev cX1_append : ByteArray := prog_3_method_3_code
def yX1_append : MethodName := ⟨RX1, "append", "(IIIZ)Z"⟩
abbrev cX1_clear : ByteArray := prog_3_method_4_code
def yX1_clear : MethodName := ⟨RX1, "clear", "()I"⟩
abbrev cX1_copyFrom : ByteArray := prog_3_method_5_code
def yX1_copyFrom : MethodName := ⟨RX1, "copyFrom", "(LStiltYard$Heard;)V"⟩
abbrev cX1_heightBits : ByteArray := prog_3_method_6_code
def yX1_heightBits : MethodName := ⟨RX1, "heightBits", "(LStiltYard$Ground;)I"⟩
abbrev cX1_allows : ByteArray := prog_3_method_7_code
def yX1_allows : MethodName := ⟨RX1, "allows", "(LStiltYard$Ground;I)Z"⟩
abbrev cX1_bestTry : ByteArray := prog_3_method_8_code
def yX1_bestTry : MethodName := ⟨RX1, "bestTry", "(LStiltYard$Ground;I)I"⟩
abbrev cX1_leftAtWorst : ByteArray := prog_3_method_9_code
def yX1_leftAtWorst : MethodName := ⟨RX1, "leftAtWorst", "(II)I"⟩
def RX2 : String := "StiltYard$Kind"
def TX2 : u_T := fun k => match k with
  | _ => ("", "", "", false)
def tyX2 : Nat → FieldType := fun k => match k with
  | _ => .int
theorem nmX2 : ∀ a, a < 0 → ∀ b, b < 0 → a ≠ b → (TX2 a).2.1 ≠ (TX2 b).2.1 := by decide +kernel
theorem tyX2_ok : ∀ k, k < 0 → parseFieldDescriptor (TX2 k).2.2.1 = some (tyX2 k) := by decide +kernel
abbrev cX2_isKind : ByteArray := prog_4_method_2_code
def yX2_isKind : MethodName := ⟨RX2, "isKind", "(I)Z"⟩
abbrev cX2_ofLetter : ByteArray := prog_4_method_3_code
def yX2_ofLetter : MethodName := ⟨RX2, "ofLetter", "(I)I"⟩
abbrev cX2_isA : ByteArray := prog_4_method_4_code
def yX2_isA : MethodName := ⟨RX2, "isA", "(II)Z"⟩
abbrev cX2_growth : ByteArray := prog_4_method_5_code
def yX2_growth : MethodName := ⟨RX2, "growth", "(II)I"⟩
abbrev cX2_onSpot : ByteArray := prog_4_method_6_code
def yX2_onSpot : MethodName := ⟨RX2, "onSpot", "(I)I"⟩
abbrev cX2_swayAfter : ByteArray := prog_4_method_7_code
def yX2_swayAfter : MethodName := ⟨RX2, "swayAfter", "(III)I"⟩
def RX3 : String := "StiltYard$Page"
def TX3 : u_T := fun k => match k with
  | 0 => ("StiltYard$Page", "codes", "[I", true)
  | _ => ("StiltYard$Page", "size", "I", false)
def tyX3 : Nat → FieldType := fun k => match k with
  | 0 => .array .int
  | _ => .int
theorem nmX3 : ∀ a, a < 2 → ∀ b, b < 2 → a ≠ b → (TX3 a).2.1 ≠ (TX3 b).2.1 := by decide +kernel
theorem tyX3_ok : ∀ k, k < 2 → parseFieldDescriptor (TX3 k).2.2.1 = some (tyX3 k) := by decide +kernel
abbrev cX3_init : ByteArray := prog_5_method_1_code
def yX3_init : MethodName := ⟨RX3, "<init>", "()V"⟩
abbrev cX3_size : ByteArray := prog_5_method_2_code
def yX3_size : MethodName := ⟨RX3, "size", "()I"⟩
abbrev cX3_codeAt : ByteArray := prog_5_method_3_code
def yX3_codeAt : MethodName := ⟨RX3, "codeAt", "(I)I"⟩
abbrev cX3_append : ByteArray := prog_5_method_4_code
def yX3_append : MethodName := ⟨RX3, "append", "(I)Z"⟩
abbrev cX3_clear : ByteArray := prog_5_method_5_code
def yX3_clear : MethodName := ⟨RX3, "clear", "()I"⟩
abbrev cX3_placesAhead : ByteArray := prog_5_method_6_code
def yX3_placesAhead : MethodName := ⟨RX3, "placesAhead", "()I"⟩
abbrev cX3_firstWrong : ByteArray := prog_5_method_7_code
def yX3_firstWrong : MethodName := ⟨RX3, "firstWrong", "()I"⟩
abbrev cX3_isWhole : ByteArray := prog_5_method_8_code
def yX3_isWhole : MethodName := ⟨RX3, "isWhole", "()Z"⟩
abbrev cX3_height : ByteArray := prog_5_method_9_code
def yX3_height : MethodName := ⟨RX3, "height", "()I"⟩
def RX4 : String := "StiltYard$Route"
def TX4 : u_T := fun k => match k with
  | 0 => ("StiltYard$Route", "queue", "[I", true)
  | 1 => ("StiltYard$Route", "stepsTo", "[I", true)
  | 2 => ("StiltYard$Route", "cameFrom", "[I", true)
  | 3 => ("StiltYard$Route", "cameBy", "[I", true)
  | 4 => ("StiltYard$Route", "queued", "I", false)
  | _ => ("StiltYard$Route", "end", "I", false)
def tyX4 : Nat → FieldType := fun k => match k with
  | 0 => .array .int
  | 1 => .array .int
  | 2 => .array .int
  | 3 => .array .int
  | 4 => .int
  | _ => .int
theorem nmX4 : ∀ a, a < 6 → ∀ b, b < 6 → a ≠ b → (TX4 a).2.1 ≠ (TX4 b).2.1 := by decide +kernel
theorem tyX4_ok : ∀ k, k < 6 → parseFieldDescriptor (TX4 k).2.2.1 = some (tyX4 k) := by decide +kernel
abbrev cX4_init : ByteArray := prog_6_method_1_code
def yX4_init : MethodName := ⟨RX4, "<init>", "()V"⟩
abbrev cX4_fewest : ByteArray := prog_6_method_2_code
def yX4_fewest : MethodName := ⟨RX4, "fewest", "(LStiltYard$Ground;III)I"⟩
abbrev cX4_farOfStep : ByteArray := prog_6_method_3_code
def yX4_farOfStep : MethodName := ⟨RX4, "farOfStep", "(I)I"⟩
abbrev cX4_goOn : ByteArray := prog_6_method_4_code
def yX4_goOn : MethodName := ⟨RX4, "goOn", "(LStiltYard$Ground;III)V"⟩
abbrev cX4_reach : ByteArray := prog_6_method_5_code
def yX4_reach : MethodName := ⟨RX4, "reach", "(IIIII)V"⟩
abbrev cX4_stepsOf : ByteArray := prog_6_method_6_code
def yX4_stepsOf : MethodName := ⟨RX4, "stepsOf", "(I)I"⟩
abbrev cX4_isSpot : ByteArray := prog_6_method_7_code
def yX4_isSpot : MethodName := ⟨RX4, "isSpot", "(I)Z"⟩
def RX5 : String := "StiltYard$Scene"
def TX5 : u_T := fun k => match k with
  | 0 => ("StiltYard$Scene", "ground", "LStiltYard$Ground;", true)
  | 1 => ("StiltYard$Scene", "heard", "LStiltYard$Heard;", true)
  | 2 => ("StiltYard$Scene", "height", "I", false)
  | 3 => ("StiltYard$Scene", "place", "I", false)
  | 4 => ("StiltYard$Scene", "sway", "I", false)
  | 5 => ("StiltYard$Scene", "steps", "I", false)
  | _ => ("StiltYard$Scene", "falls", "I", false)
def tyX5 : Nat → FieldType := fun k => match k with
  | 0 => .object "StiltYard$Ground"
  | 1 => .object "StiltYard$Heard"
  | 2 => .int
  | 3 => .int
  | 4 => .int
  | 5 => .int
  | _ => .int
theorem nmX5 : ∀ a, a < 7 → ∀ b, b < 7 → a ≠ b → (TX5 a).2.1 ≠ (TX5 b).2.1 := by decide +kernel
theorem tyX5_ok : ∀ k, k < 7 → parseFieldDescriptor (TX5 k).2.2.1 = some (tyX5 k) := by decide +kernel
abbrev cX5_init : ByteArray := prog_7_method_1_code
def yX5_init : MethodName := ⟨RX5, "<init>", "()V"⟩
abbrev cX5_begin : ByteArray := prog_7_method_2_code
def yX5_begin : MethodName := ⟨RX5, "begin", "(LStiltYard$Page;)V"⟩
abbrev cX5_copyFrom : ByteArray := prog_7_method_3_code
def yX5_copyFrom : MethodName := ⟨RX5, "copyFrom", "(LStiltYard$Scene;)V"⟩
abbrev cX5_changeHeight : ByteArray := prog_7_method_4_code
def yX5_changeHeight : MethodName := ⟨RX5, "changeHeight", "(I)I"⟩
abbrev cX5_swayBy : ByteArray := prog_7_method_5_code
def yX5_swayBy : MethodName := ⟨RX5, "swayBy", "(I)I"⟩
abbrev cX5_go : ByteArray := prog_7_method_6_code
def yX5_go : MethodName := ⟨RX5, "go", "(I)Z"⟩
abbrev cX5_race : ByteArray := prog_7_method_7_code
def yX5_race : MethodName := ⟨RX5, "race", "(II)I"⟩
abbrev cX5_backToStart : ByteArray := prog_7_method_8_code
def yX5_backToStart : MethodName := ⟨RX5, "backToStart", "()V"⟩
def RX6 : String := "StiltYard"
def TX6 : u_T := fun k => match k with
  | 0 => ("StiltYard", "page", "LStiltYard$Page;", true)
  | 1 => ("StiltYard", "now", "LStiltYard$Scene;", true)
  | 2 => ("StiltYard", "kept", "LStiltYard$Scene;", true)
  | 3 => ("StiltYard", "raced", "LStiltYard$Scene;", true)
  | 4 => ("StiltYard", "mended", "LStiltYard$Ground;", true)
  | 5 => ("StiltYard", "route", "LStiltYard$Route;", true)
  | 6 => ("StiltYard", "isKept", "Z", false)
  | 7 => ("StiltYard", "yardsRead", "I", false)
  | 8 => ("StiltYard", "quicks", "I", false)
  | 9 => ("StiltYard", "mendPlace", "I", false)
  | _ => ("StiltYard", "mendSteps", "I", false)
def tyX6 : Nat → FieldType := fun k => match k with
  | 0 => .object "StiltYard$Page"
  | 1 => .object "StiltYard$Scene"
  | 2 => .object "StiltYard$Scene"
  | 3 => .object "StiltYard$Scene"
  | 4 => .object "StiltYard$Ground"
  | 5 => .object "StiltYard$Route"
  | 6 => .boolean
  | 7 => .int
  | 8 => .int
  | 9 => .int
  | _ => .int
theorem nmX6 : ∀ a, a < 11 → ∀ b, b < 11 → a ≠ b → (TX6 a).2.1 ≠ (TX6 b).2.1 := by decide +kernel
theorem tyX6_ok : ∀ k, k < 11 → parseFieldDescriptor (TX6 k).2.2.1 = some (tyX6 k) := by decide +kernel
abbrev cX6_init : ByteArray := prog_1_method_1_code
def yX6_init : MethodName := ⟨RX6, "<init>", "()V"⟩
abbrev cX6_letter : ByteArray := prog_1_method_2_code
def yX6_letter : MethodName := ⟨RX6, "letter", "(I)I"⟩
abbrev cX6_blank : ByteArray := prog_1_method_3_code
def yX6_blank : MethodName := ⟨RX6, "blank", "()I"⟩
abbrev cX6_fault : ByteArray := prog_1_method_4_code
def yX6_fault : MethodName := ⟨RX6, "fault", "()I"⟩
abbrev cX6_yard : ByteArray := prog_1_method_5_code
def yX6_yard : MethodName := ⟨RX6, "yard", "()I"⟩
abbrev cX6_about : ByteArray := prog_1_method_6_code
def yX6_about : MethodName := ⟨RX6, "about", "(II)I"⟩
abbrev cX6_as : ByteArray := prog_1_method_7_code
def yX6_as : MethodName := ⟨RX6, "as", "(II)I"⟩
abbrev cX6_lay : ByteArray := prog_1_method_8_code
def yX6_lay : MethodName := ⟨RX6, "lay", "(II)I"⟩
abbrev cX6_blocks : ByteArray := prog_1_method_9_code
def yX6_blocks : MethodName := ⟨RX6, "blocks", "(I)I"⟩
abbrev cX6_step : ByteArray := prog_1_method_10_code
def yX6_step : MethodName := ⟨RX6, "step", "(I)I"⟩
abbrev cX6_would : ByteArray := prog_1_method_11_code
def yX6_would : MethodName := ⟨RX6, "would", "(I)I"⟩
abbrev cX6_quick : ByteArray := prog_1_method_12_code
def yX6_quick : MethodName := ⟨RX6, "quick", "(I)I"⟩
abbrev cX6_high : ByteArray := prog_1_method_13_code
def yX6_high : MethodName := ⟨RX6, "high", "()I"⟩
abbrev cX6_mend : ByteArray := prog_1_method_14_code
def yX6_mend : MethodName := ⟨RX6, "mend", "(I)I"⟩
abbrev cX6_hear : ByteArray := prog_1_method_15_code
def yX6_hear : MethodName := ⟨RX6, "hear", "(IIIZ)I"⟩
abbrev cX6_forget : ByteArray := prog_1_method_16_code
def yX6_forget : MethodName := ⟨RX6, "forget", "()I"⟩
abbrev cX6_heights : ByteArray := prog_1_method_17_code
def yX6_heights : MethodName := ⟨RX6, "heights", "()I"⟩
abbrev cX6_races : ByteArray := prog_1_method_18_code
def yX6_races : MethodName := ⟨RX6, "races", "(III)I"⟩
abbrev cX6_image : ByteArray := prog_1_method_19_code
def yX6_image : MethodName := ⟨RX6, "image", "()I"⟩
abbrev cX6_restore : ByteArray := prog_1_method_20_code
def yX6_restore : MethodName := ⟨RX6, "restore", "()I"⟩
abbrev cX6_count : ByteArray := prog_1_method_21_code
def yX6_count : MethodName := ⟨RX6, "count", "(I)I"⟩
abbrev cX6_digest : ByteArray := prog_1_method_22_code
def yX6_digest : MethodName := ⟨RX6, "digest", "()J"⟩
abbrev cX6_hasYard : ByteArray := prog_1_method_23_code
def yX6_hasYard : MethodName := ⟨RX6, "hasYard", "()Z"⟩
abbrev cX6_refusalOfStep : ByteArray := prog_1_method_24_code
def yX6_refusalOfStep : MethodName := ⟨RX6, "refusalOfStep", "(I)I"⟩
abbrev cX6_greatestHeight : ByteArray := prog_1_method_25_code
def yX6_greatestHeight : MethodName := ⟨RX6, "greatestHeight", "()I"⟩
abbrev cX6_findMend : ByteArray := prog_1_method_26_code
def yX6_findMend : MethodName := ⟨RX6, "findMend", "()V"⟩
abbrev cX6_bearable : ByteArray := prog_1_method_27_code
def yX6_bearable : MethodName := ⟨RX6, "bearable", "(I)I"⟩
def RX7 : String := "StiltYardModel"
def TX7 : u_T := fun k => match k with
  | 0 => ("StiltYardModel", "yards", "I", false)
  | 1 => ("StiltYardModel", "places", "I", false)
  | 2 => ("StiltYardModel", "kindOf", "[I", true)
  | 3 => ("StiltYardModel", "height", "I", false)
  | 4 => ("StiltYardModel", "place", "I", false)
  | 5 => ("StiltYardModel", "sway", "I", false)
  | 6 => ("StiltYardModel", "steps", "I", false)
  | 7 => ("StiltYardModel", "falls", "I", false)
  | 8 => ("StiltYardModel", "heard", "I", false)
  | 9 => ("StiltYardModel", "heardPlace", "[I", true)
  | 10 => ("StiltYardModel", "heardFar", "[I", true)
  | 11 => ("StiltYardModel", "heardSway", "[I", true)
  | 12 => ("StiltYardModel", "heardFell", "[I", true)
  | 13 => ("StiltYardModel", "asks", "I", false)
  | 14 => ("StiltYardModel", "pageLength", "I", false)
  | 15 => ("StiltYardModel", "page", "[B", true)
  | 16 => ("StiltYardModel", "isWhole", "Z", false)
  | 17 => ("StiltYardModel", "newMany", "I", false)
  | 18 => ("StiltYardModel", "fewFrom", "[I", true)
  | 19 => ("StiltYardModel", "seedNow", "J", false)
  | 20 => ("StiltYardModel", "isKept", "Z", false)
  | 21 => ("StiltYardModel", "keptYard", "I", false)
  | 22 => ("StiltYardModel", "keptHeight", "I", false)
  | 23 => ("StiltYardModel", "keptPlace", "I", false)
  | 24 => ("StiltYardModel", "keptSway", "I", false)
  | 25 => ("StiltYardModel", "keptSteps", "I", false)
  | 26 => ("StiltYardModel", "keptFalls", "I", false)
  | 27 => ("StiltYardModel", "keptHeard", "I", false)
  | 28 => ("StiltYardModel", "keptKind", "[I", true)
  | 29 => ("StiltYardModel", "keptHeardPlace", "[I", true)
  | 30 => ("StiltYardModel", "keptFar", "[I", true)
  | 31 => ("StiltYardModel", "keptHeardSway", "[I", true)
  | 32 => ("StiltYardModel", "keptFell", "[I", true)
  | _ => ("StiltYardModel", "h", "J", false)
def tyX7 : Nat → FieldType := fun k => match k with
  | 0 => .int
  | 1 => .int
  | 2 => .array .int
  | 3 => .int
  | 4 => .int
  | 5 => .int
  | 6 => .int
  | 7 => .int
  | 8 => .int
  | 9 => .array .int
  | 10 => .array .int
  | 11 => .array .int
  | 12 => .array .int
  | 13 => .int
  | 14 => .int
  | 15 => .array .byte
  | 16 => .boolean
  | 17 => .int
  | 18 => .array .int
  | 19 => .long
  | 20 => .boolean
  | 21 => .int
  | 22 => .int
  | 23 => .int
  | 24 => .int
  | 25 => .int
  | 26 => .int
  | 27 => .int
  | 28 => .array .int
  | 29 => .array .int
  | 30 => .array .int
  | 31 => .array .int
  | 32 => .array .int
  | _ => .long
theorem nmX7 : ∀ a, a < 34 → ∀ b, b < 34 → a ≠ b → (TX7 a).2.1 ≠ (TX7 b).2.1 := by decide +kernel
theorem tyX7_ok : ∀ k, k < 34 → parseFieldDescriptor (TX7 k).2.2.1 = some (tyX7 k) := by decide +kernel
abbrev cX7_init : ByteArray := prog_9_method_1_code
def yX7_init : MethodName := ⟨RX7, "<init>", "()V"⟩
abbrev cX7_within : ByteArray := prog_9_method_3_code
def yX7_within : MethodName := ⟨RX7, "within", "(III)Z"⟩
abbrev cX7_isIn : ByteArray := prog_9_method_4_code
def yX7_isIn : MethodName := ⟨RX7, "isIn", "(II)Z"⟩
abbrev cX7_letter : ByteArray := prog_9_method_5_code
def yX7_letter : MethodName := ⟨RX7, "letter", "(I)I"⟩
abbrev cX7_blank : ByteArray := prog_9_method_6_code
def yX7_blank : MethodName := ⟨RX7, "blank", "()I"⟩
abbrev cX7_kindBy : ByteArray := prog_9_method_7_code
def yX7_kindBy : MethodName := ⟨RX7, "kindBy", "(I)I"⟩
abbrev cX7_at : ByteArray := prog_9_method_8_code
def yX7_at : MethodName := ⟨RX7, "at", "(I)I"⟩
abbrev cX7_read : ByteArray := prog_9_method_9_code
def yX7_read : MethodName := ⟨RX7, "read", "()I"⟩
abbrev cX7_fault : ByteArray := prog_9_method_10_code
def yX7_fault : MethodName := ⟨RX7, "fault", "()I"⟩
abbrev cX7_yard : ByteArray := prog_9_method_11_code
def yX7_yard : MethodName := ⟨RX7, "yard", "()I"⟩
abbrev cX7_isPlace : ByteArray := prog_9_method_12_code
def yX7_isPlace : MethodName := ⟨RX7, "isPlace", "(I)Z"⟩
abbrev cX7_swayBy : ByteArray := prog_9_method_13_code
def yX7_swayBy : MethodName := ⟨RX7, "swayBy", "(III)I"⟩
abbrev cX7_bears : ByteArray := prog_9_method_14_code
def yX7_bears : MethodName := ⟨RX7, "bears", "(I)I"⟩
abbrev cX7_placeNow : ByteArray := prog_9_method_15_code
def yX7_placeNow : MethodName := ⟨RX7, "placeNow", "(II)I"⟩
abbrev cX7_about : ByteArray := prog_9_method_16_code
def yX7_about : MethodName := ⟨RX7, "about", "(II)I"⟩
abbrev cX7_as : ByteArray := prog_9_method_17_code
def yX7_as : MethodName := ⟨RX7, "as", "(II)I"⟩
abbrev cX7_lay : ByteArray := prog_9_method_18_code
def yX7_lay : MethodName := ⟨RX7, "lay", "(II)I"⟩
abbrev cX7_blocks : ByteArray := prog_9_method_19_code
def yX7_blocks : MethodName := ⟨RX7, "blocks", "(I)I"⟩
abbrev cX7_goes : ByteArray := prog_9_method_20_code
def yX7_goes : MethodName := ⟨RX7, "goes", "(I)Z"⟩
abbrev cX7_step : ByteArray := prog_9_method_21_code
def yX7_step : MethodName := ⟨RX7, "step", "(I)I"⟩
abbrev cX7_would : ByteArray := prog_9_method_22_code
def yX7_would : MethodName := ⟨RX7, "would", "(I)I"⟩
abbrev cX7_fewBy : ByteArray := prog_9_method_23_code
def yX7_fewBy : MethodName := ⟨RX7, "fewBy", "(IIII)I"⟩
abbrev cX7_isShorter : ByteArray := prog_9_method_24_code
def yX7_isShorter : MethodName := ⟨RX7, "isShorter", "(III)Z"⟩
abbrev cX7_layFew : ByteArray := prog_9_method_25_code
def yX7_layFew : MethodName := ⟨RX7, "layFew", "(I)V"⟩
abbrev cX7_fewWith : ByteArray := prog_9_method_26_code
def yX7_fewWith : MethodName := ⟨RX7, "fewWith", "(I)I"⟩
abbrev cX7_quickNow : ByteArray := prog_9_method_27_code
def yX7_quickNow : MethodName := ⟨RX7, "quickNow", "(I)I"⟩
abbrev cX7_quick : ByteArray := prog_9_method_28_code
def yX7_quick : MethodName := ⟨RX7, "quick", "(I)I"⟩
abbrev cX7_highNow : ByteArray := prog_9_method_29_code
def yX7_highNow : MethodName := ⟨RX7, "highNow", "()I"⟩
abbrev cX7_high : ByteArray := prog_9_method_30_code
def yX7_high : MethodName := ⟨RX7, "high", "()I"⟩
abbrev cX7_mendNow : ByteArray := prog_9_method_31_code
def yX7_mendNow : MethodName := ⟨RX7, "mendNow", "(I)I"⟩
abbrev cX7_mend : ByteArray := prog_9_method_32_code
def yX7_mend : MethodName := ⟨RX7, "mend", "(I)I"⟩
abbrev cX7_hear : ByteArray := prog_9_method_33_code
def yX7_hear : MethodName := ⟨RX7, "hear", "(IIIZ)I"⟩
abbrev cX7_forget : ByteArray := prog_9_method_34_code
def yX7_forget : MethodName := ⟨RX7, "forget", "()I"⟩
abbrev cX7_heightsNow : ByteArray := prog_9_method_35_code
def yX7_heightsNow : MethodName := ⟨RX7, "heightsNow", "()I"⟩
abbrev cX7_heights : ByteArray := prog_9_method_36_code
def yX7_heights : MethodName := ⟨RX7, "heights", "()I"⟩
abbrev cX7_tryAt : ByteArray := prog_9_method_37_code
def yX7_tryAt : MethodName := ⟨RX7, "tryAt", "(I)I"⟩
abbrev cX7_draw : ByteArray := prog_9_method_38_code
def yX7_draw : MethodName := ⟨RX7, "draw", "(I)I"⟩
abbrev cX7_racesNow : ByteArray := prog_9_method_39_code
def yX7_racesNow : MethodName := ⟨RX7, "racesNow", "(III)I"⟩
abbrev cX7_races : ByteArray := prog_9_method_40_code
def yX7_races : MethodName := ⟨RX7, "races", "(III)I"⟩
abbrev cX7_image : ByteArray := prog_9_method_41_code
def yX7_image : MethodName := ⟨RX7, "image", "()I"⟩
abbrev cX7_restore : ByteArray := prog_9_method_42_code
def yX7_restore : MethodName := ⟨RX7, "restore", "()I"⟩
abbrev cX7_plain : ByteArray := prog_9_method_43_code
def yX7_plain : MethodName := ⟨RX7, "plain", "()I"⟩
abbrev cX7_howMany : ByteArray := prog_9_method_44_code
def yX7_howMany : MethodName := ⟨RX7, "howMany", "(I)I"⟩
abbrev cX7_count : ByteArray := prog_9_method_45_code
def yX7_count : MethodName := ⟨RX7, "count", "(I)I"⟩
abbrev cX7_mix : ByteArray := prog_9_method_46_code
def yX7_mix : MethodName := ⟨RX7, "mix", "(J)V"⟩
abbrev cX7_digest : ByteArray := prog_9_method_47_code
def yX7_digest : MethodName := ⟨RX7, "digest", "()J"⟩
def RJ11 : String := "java/lang/Character"
def TJ11 : u_T := fun k => match k with
  | _ => ("", "", "", false)
def tyJ11 : Nat → FieldType := fun k => match k with
  | _ => .int
abbrev cJ11_isValidCodePoint_9a6ad : ByteArray := prog_10_method_11_code
def yJ11_isValidCodePoint_9a6ad : MethodName := ⟨RJ11, "isValidCodePoint", "(I)Z"⟩
abbrev cJ11_highSurrogate_5068e : ByteArray := prog_10_method_28_code
def yJ11_highSurrogate_5068e : MethodName := ⟨RJ11, "highSurrogate", "(I)C"⟩
abbrev cJ11_lowSurrogate_5068e : ByteArray := prog_10_method_29_code
def yJ11_lowSurrogate_5068e : MethodName := ⟨RJ11, "lowSurrogate", "(I)C"⟩
def RJ9 : String := "java/lang/Math"
def TJ9 : u_T := fun k => match k with
  | _ => ("", "", "", false)
def tyJ9 : Nat → FieldType := fun k => match k with
  | _ => .int
abbrev cJ9_max_7cf53 : ByteArray := prog_11_method_65_code
def yJ9_max_7cf53 : MethodName := ⟨RJ9, "max", "(II)I"⟩
abbrev cJ9_min_7cf53 : ByteArray := prog_11_method_69_code
def yJ9_min_7cf53 : MethodName := ⟨RJ9, "min", "(II)I"⟩
def RJ0 : String := "java/lang/String"
def TJ0 : u_T := fun k => match k with
  | _ => ("", "", "", false)
def tyJ0 : Nat → FieldType := fun k => match k with
  | _ => .int
abbrev cJ0_length_8abf5 : ByteArray := prog_12_method_54_code
def yJ0_length_8abf5 : MethodName := ⟨RJ0, "length", "()I"⟩
abbrev cJ0_indexOf_0f7a4 : ByteArray := prog_12_method_79_code
def yJ0_indexOf_0f7a4 : MethodName := ⟨RJ0, "indexOf", "(I)I"⟩
abbrev cJ0_indexOf_7cf53 : ByteArray := prog_12_method_80_code
def yJ0_indexOf_7cf53 : MethodName := ⟨RJ0, "indexOf", "(II)I"⟩
abbrev cJ0_coder_7d493 : ByteArray := prog_12_method_152_code
def yJ0_coder_7d493 : MethodName := ⟨RJ0, "coder", "()B"⟩
abbrev cJ0_isLatin1_aae02 : ByteArray := prog_12_method_154_code
def yJ0_isLatin1_aae02 : MethodName := ⟨RJ0, "isLatin1", "()Z"⟩
abbrev cJ0_checkBoundsBeginEnd_23922 : ByteArray := prog_12_method_158_code
def yJ0_checkBoundsBeginEnd_23922 : MethodName := ⟨RJ0, "checkBoundsBeginEnd", "(III)V"⟩
def RJ1 : String := "java/lang/StringLatin1"
def TJ1 : u_T := fun k => match k with
  | _ => ("", "", "", false)
def tyJ1 : Nat → FieldType := fun k => match k with
  | _ => .int
abbrev cJ1_canEncode_9a6ad : ByteArray := prog_13_method_4_code
def yJ1_canEncode_9a6ad : MethodName := ⟨RJ1, "canEncode", "(I)Z"⟩
abbrev cJ1_indexOf_4cfef : ByteArray := prog_13_method_22_code
def yJ1_indexOf_4cfef : MethodName := ⟨RJ1, "indexOf", "([BIII)I"⟩
abbrev cJ1_indexOfChar_4cfef : ByteArray := prog_13_method_23_code
def yJ1_indexOfChar_4cfef : MethodName := ⟨RJ1, "indexOfChar", "([BIII)I"⟩
def RJ2 : String := "java/lang/StringUTF16"
def TJ2 : u_T := fun k => match k with
  | _ => ("", "", "", false)
def tyJ2 : Nat → FieldType := fun k => match k with
  | _ => .int
abbrev cJ2_getChar_3b067 : ByteArray := prog_14_method_5_code
def yJ2_getChar_3b067 : MethodName := ⟨RJ2, "getChar", "([BI)C"⟩
abbrev cJ2_length_9d52b : ByteArray := prog_14_method_6_code
def yJ2_length_9d52b : MethodName := ⟨RJ2, "length", "([B)I"⟩
abbrev cJ2_indexOf_4cfef : ByteArray := prog_14_method_40_code
def yJ2_indexOf_4cfef : MethodName := ⟨RJ2, "indexOf", "([BIII)I"⟩
abbrev cJ2_indexOfChar_4cfef : ByteArray := prog_14_method_47_code
def yJ2_indexOfChar_4cfef : MethodName := ⟨RJ2, "indexOfChar", "([BIII)I"⟩
abbrev cJ2_indexOfCharUnsafe_4cfef : ByteArray := prog_14_method_48_code
def yJ2_indexOfCharUnsafe_4cfef : MethodName := ⟨RJ2, "indexOfCharUnsafe", "([BIII)I"⟩
abbrev cJ2_indexOfSupplementary_4cfef : ByteArray := prog_14_method_49_code
def yJ2_indexOfSupplementary_4cfef : MethodName := ⟨RJ2, "indexOfSupplementary", "([BIII)I"⟩
abbrev cJ2_checkBoundsBeginEnd_d044e : ByteArray := prog_14_method_93_code
def yJ2_checkBoundsBeginEnd_d044e : MethodName := ⟨RJ2, "checkBoundsBeginEnd", "(II[B)V"⟩
def RJ3 : String := "jdk/internal/util/Preconditions"
def TJ3 : u_T := fun k => match k with
  | _ => ("", "", "", false)
def tyJ3 : Nat → FieldType := fun k => match k with
  | _ => .int
abbrev cJ3_checkFromToIndex_8c36e : ByteArray := prog_15_method_12_code
def yJ3_checkFromToIndex_8c36e : MethodName := ⟨RJ3, "checkFromToIndex", "(IIILjava/util/function/BiFunction;)I"⟩
def RL : String := "StiltYardLaw"
abbrev cL_law : ByteArray := code
def yL_law : MethodName := ⟨RL, "law", "([I)Z"⟩
abbrev vwCl : List vw_C := [(RX0, TX0, 2), (RX1, TX1, 5), (RX3, TX3, 2), (RX4, TX4, 6), (RX5, TX5, 7), (RX6, TX6, 11), (RX7, TX7, 34)]
end
section
theorem dX0_init_0 : decode cX0_init 0 = .ok (.aload_n 0, 1) := by decide +kernel
theorem dX0_init_1 : decode cX0_init 1 = .ok (.invokespecial 3, 3) := by decide +kernel
theorem dX0_init_4 : decode cX0_init 4 = .ok (.aload_n 0, 1) := by decide +kernel
theorem dX0_init_5 : decode cX0_init 5 = .ok (.bipush 12, 2) := by decide +kernel
theorem dX0_init_7 : decode cX0_init 7 = .ok (.newarray .int, 2) := by decide +kernel
theorem dX0_init_9 : decode cX0_init 9 = .ok (.putfield 9, 3) := by decide +kernel
theorem dX0_init_12 : decode cX0_init 12 = .ok (.aload_n 0, 1) := by decide +kernel
theorem dX0_init_13 : decode cX0_init 13 = .ok (.iconst 0, 1) := by decide +kernel
theorem dX0_init_14 : decode cX0_init 14 = .ok (.putfield 15, 3) := by decide +kernel
theorem dX0_init_17 : decode cX0_init 17 = .ok (.return_, 1) := by decide +kernel
theorem dX0_places_0 : decode cX0_places 0 = .ok (.aload_n 0, 1) := by decide +kernel
theorem dX0_places_1 : decode cX0_places 1 = .ok (.getfield 15, 3) := by decide +kernel
theorem dX0_places_4 : decode cX0_places 4 = .ok (.ireturn, 1) := by decide +kernel
theorem dX0_has_0 : decode cX0_has 0 = .ok (.iload_n 1, 1) := by decide +kernel
theorem dX0_has_1 : decode cX0_has 1 = .ok (.ifCond .lt 21, 3) := by decide +kernel
theorem dX0_has_4 : decode cX0_has 4 = .ok (.iload_n 1, 1) := by decide +kernel
theorem dX0_has_5 : decode cX0_has 5 = .ok (.aload_n 0, 1) := by decide +kernel
theorem dX0_has_6 : decode cX0_has 6 = .ok (.getfield 15, 3) := by decide +kernel
theorem dX0_has_9 : decode cX0_has 9 = .ok (.if_icmp .ge 13, 3) := by decide +kernel
theorem dX0_has_12 : decode cX0_has 12 = .ok (.iload_n 1, 1) := by decide +kernel
theorem dX0_has_13 : decode cX0_has 13 = .ok (.bipush 12, 2) := by decide +kernel
theorem dX0_has_15 : decode cX0_has 15 = .ok (.if_icmp .ge 7, 3) := by decide +kernel
theorem dX0_has_18 : decode cX0_has 18 = .ok (.iconst 1, 1) := by decide +kernel
theorem dX0_has_19 : decode cX0_has 19 = .ok (.goto 4, 3) := by decide +kernel
theorem dX0_has_22 : decode cX0_has 22 = .ok (.iconst 0, 1) := by decide +kernel
theorem dX0_has_23 : decode cX0_has 23 = .ok (.ireturn, 1) := by decide +kernel
theorem dX0_kindAt_0 : decode cX0_kindAt 0 = .ok (.aload_n 0, 1) := by decide +kernel
theorem dX0_kindAt_1 : decode cX0_kindAt 1 = .ok (.iload_n 1, 1) := by decide +kernel
theorem dX0_kindAt_2 : decode cX0_kindAt 2 = .ok (.invokevirtual 19, 3) := by decide +kernel
theorem dX0_kindAt_5 : decode cX0_kindAt 5 = .ok (.ifCond .eq 12, 3) := by decide +kernel
theorem dX0_kindAt_8 : decode cX0_kindAt 8 = .ok (.aload_n 0, 1) := by decide +kernel
theorem dX0_kindAt_9 : decode cX0_kindAt 9 = .ok (.getfield 9, 3) := by decide +kernel
theorem dX0_kindAt_12 : decode cX0_kindAt 12 = .ok (.iload_n 1, 1) := by decide +kernel
theorem dX0_kindAt_13 : decode cX0_kindAt 13 = .ok (.iaload, 1) := by decide +kernel
theorem dX0_kindAt_14 : decode cX0_kindAt 14 = .ok (.goto 4, 3) := by decide +kernel
theorem dX0_kindAt_17 : decode cX0_kindAt 17 = .ok (.iconst 0, 1) := by decide +kernel
theorem dX0_kindAt_18 : decode cX0_kindAt 18 = .ok (.ireturn, 1) := by decide +kernel
theorem dX0_put_0 : decode cX0_put 0 = .ok (.aload_n 0, 1) := by decide +kernel
theorem dX0_put_1 : decode cX0_put 1 = .ok (.iload_n 1, 1) := by decide +kernel
theorem dX0_put_2 : decode cX0_put 2 = .ok (.invokevirtual 19, 3) := by decide +kernel
theorem dX0_put_5 : decode cX0_put 5 = .ok (.ifCond .ne 5, 3) := by decide +kernel
theorem dX0_put_8 : decode cX0_put 8 = .ok (.iconst 0, 1) := by decide +kernel
theorem dX0_put_9 : decode cX0_put 9 = .ok (.ireturn, 1) := by decide +kernel
theorem dX0_put_10 : decode cX0_put 10 = .ok (.aload_n 0, 1) := by decide +kernel
theorem dX0_put_11 : decode cX0_put 11 = .ok (.getfield 9, 3) := by decide +kernel
theorem dX0_put_14 : decode cX0_put 14 = .ok (.iload_n 1, 1) := by decide +kernel
theorem dX0_put_15 : decode cX0_put 15 = .ok (.iaload, 1) := by decide +kernel
theorem dX0_put_16 : decode cX0_put 16 = .ok (.istore_n 3, 1) := by decide +kernel
theorem dX0_put_17 : decode cX0_put 17 = .ok (.aload_n 0, 1) := by decide +kernel
theorem dX0_put_18 : decode cX0_put 18 = .ok (.getfield 9, 3) := by decide +kernel
theorem dX0_put_21 : decode cX0_put 21 = .ok (.iload_n 1, 1) := by decide +kernel
theorem dX0_put_22 : decode cX0_put 22 = .ok (.iload_n 2, 1) := by decide +kernel
theorem dX0_put_23 : decode cX0_put 23 = .ok (.iastore, 1) := by decide +kernel
theorem dX0_put_24 : decode cX0_put 24 = .ok (.iload_n 3, 1) := by decide +kernel
theorem dX0_put_25 : decode cX0_put 25 = .ok (.ireturn, 1) := by decide +kernel
theorem dX0_plainPlaces_0 : decode cX0_plainPlaces 0 = .ok (.iconst 0, 1) := by decide +kernel
theorem dX0_plainPlaces_1 : decode cX0_plainPlaces 1 = .ok (.istore_n 1, 1) := by decide +kernel
theorem dX0_plainPlaces_2 : decode cX0_plainPlaces 2 = .ok (.iconst 0, 1) := by decide +kernel
theorem dX0_plainPlaces_3 : decode cX0_plainPlaces 3 = .ok (.istore_n 2, 1) := by decide +kernel
theorem dX0_plainPlaces_4 : decode cX0_plainPlaces 4 = .ok (.iload_n 2, 1) := by decide +kernel
theorem dX0_plainPlaces_5 : decode cX0_plainPlaces 5 = .ok (.aload_n 0, 1) := by decide +kernel
theorem dX0_plainPlaces_6 : decode cX0_plainPlaces 6 = .ok (.getfield 15, 3) := by decide +kernel
theorem dX0_plainPlaces_9 : decode cX0_plainPlaces 9 = .ok (.if_icmp .ge 20, 3) := by decide +kernel
theorem dX0_plainPlaces_12 : decode cX0_plainPlaces 12 = .ok (.aload_n 0, 1) := by decide +kernel
theorem dX0_plainPlaces_13 : decode cX0_plainPlaces 13 = .ok (.iload_n 2, 1) := by decide +kernel
theorem dX0_plainPlaces_14 : decode cX0_plainPlaces 14 = .ok (.invokevirtual 25, 3) := by decide +kernel
theorem dX0_plainPlaces_17 : decode cX0_plainPlaces 17 = .ok (.ifCond .ne 6, 3) := by decide +kernel
theorem dX0_plainPlaces_20 : decode cX0_plainPlaces 20 = .ok (.iinc 1 1, 3) := by decide +kernel
theorem dX0_plainPlaces_23 : decode cX0_plainPlaces 23 = .ok (.iinc 2 1, 3) := by decide +kernel
theorem dX0_plainPlaces_26 : decode cX0_plainPlaces 26 = .ok (.goto (-22), 3) := by decide +kernel
theorem dX0_plainPlaces_29 : decode cX0_plainPlaces 29 = .ok (.iload_n 1, 1) := by decide +kernel
theorem dX0_plainPlaces_30 : decode cX0_plainPlaces 30 = .ok (.ireturn, 1) := by decide +kernel
theorem dX0_read_0 : decode cX0_read 0 = .ok (.aload_n 0, 1) := by decide +kernel
theorem dX0_read_1 : decode cX0_read 1 = .ok (.aload_n 1, 1) := by decide +kernel
theorem dX0_read_2 : decode cX0_read 2 = .ok (.invokevirtual 29, 3) := by decide +kernel
theorem dX0_read_5 : decode cX0_read 5 = .ok (.putfield 15, 3) := by decide +kernel
theorem dX0_read_8 : decode cX0_read 8 = .ok (.iconst 0, 1) := by decide +kernel
theorem dX0_read_9 : decode cX0_read 9 = .ok (.istore_n 2, 1) := by decide +kernel
theorem dX0_read_10 : decode cX0_read 10 = .ok (.iload_n 2, 1) := by decide +kernel
theorem dX0_read_11 : decode cX0_read 11 = .ok (.aload_n 0, 1) := by decide +kernel
theorem dX0_read_12 : decode cX0_read 12 = .ok (.getfield 15, 3) := by decide +kernel
theorem dX0_read_15 : decode cX0_read 15 = .ok (.if_icmp .ge 23, 3) := by decide +kernel
theorem dX0_read_18 : decode cX0_read 18 = .ok (.aload_n 0, 1) := by decide +kernel
theorem dX0_read_19 : decode cX0_read 19 = .ok (.iload_n 2, 1) := by decide +kernel
theorem dX0_read_20 : decode cX0_read 20 = .ok (.aload_n 1, 1) := by decide +kernel
theorem dX0_read_21 : decode cX0_read 21 = .ok (.iload_n 2, 1) := by decide +kernel
theorem dX0_read_22 : decode cX0_read 22 = .ok (.invokevirtual 35, 3) := by decide +kernel
theorem dX0_read_25 : decode cX0_read 25 = .ok (.invokestatic 38, 3) := by decide +kernel
theorem dX0_read_28 : decode cX0_read 28 = .ok (.invokevirtual 41, 3) := by decide +kernel
theorem dX0_read_31 : decode cX0_read 31 = .ok (.pop, 1) := by decide +kernel
theorem dX0_read_32 : decode cX0_read 32 = .ok (.iinc 2 1, 3) := by decide +kernel
theorem dX0_read_35 : decode cX0_read 35 = .ok (.goto (-25), 3) := by decide +kernel
theorem dX0_read_38 : decode cX0_read 38 = .ok (.return_, 1) := by decide +kernel
theorem dX0_copyFrom_0 : decode cX0_copyFrom 0 = .ok (.aload_n 0, 1) := by decide +kernel
theorem dX0_copyFrom_1 : decode cX0_copyFrom 1 = .ok (.aload_n 1, 1) := by decide +kernel
theorem dX0_copyFrom_2 : decode cX0_copyFrom 2 = .ok (.getfield 15, 3) := by decide +kernel
theorem dX0_copyFrom_5 : decode cX0_copyFrom 5 = .ok (.putfield 15, 3) := by decide +kernel
theorem dX0_copyFrom_8 : decode cX0_copyFrom 8 = .ok (.iconst 0, 1) := by decide +kernel
theorem dX0_copyFrom_9 : decode cX0_copyFrom 9 = .ok (.istore_n 2, 1) := by decide +kernel
theorem dX0_copyFrom_10 : decode cX0_copyFrom 10 = .ok (.iload_n 2, 1) := by decide +kernel
theorem dX0_copyFrom_11 : decode cX0_copyFrom 11 = .ok (.aload_n 0, 1) := by decide +kernel
theorem dX0_copyFrom_12 : decode cX0_copyFrom 12 = .ok (.getfield 15, 3) := by decide +kernel
theorem dX0_copyFrom_15 : decode cX0_copyFrom 15 = .ok (.if_icmp .ge 20, 3) := by decide +kernel
theorem dX0_copyFrom_18 : decode cX0_copyFrom 18 = .ok (.aload_n 0, 1) := by decide +kernel
theorem dX0_copyFrom_19 : decode cX0_copyFrom 19 = .ok (.iload_n 2, 1) := by decide +kernel
theorem dX0_copyFrom_20 : decode cX0_copyFrom 20 = .ok (.aload_n 1, 1) := by decide +kernel
theorem dX0_copyFrom_21 : decode cX0_copyFrom 21 = .ok (.iload_n 2, 1) := by decide +kernel
theorem dX0_copyFrom_22 : decode cX0_copyFrom 22 = .ok (.invokevirtual 25, 3) := by decide +kernel
theorem dX0_copyFrom_25 : decode cX0_copyFrom 25 = .ok (.invokevirtual 41, 3) := by decide +kernel
theorem dX0_copyFrom_28 : decode cX0_copyFrom 28 = .ok (.pop, 1) := by decide +kernel
theorem dX0_copyFrom_29 : decode cX0_copyFrom 29 = .ok (.iinc 2 1, 3) := by decide +kernel
theorem dX0_copyFrom_32 : decode cX0_copyFrom 32 = .ok (.goto (-22), 3) := by decide +kernel
theorem dX0_copyFrom_35 : decode cX0_copyFrom 35 = .ok (.return_, 1) := by decide +kernel
theorem dX1_init_0 : decode cX1_init 0 = .ok (.aload_n 0, 1) := by decide +kernel
theorem dX1_init_1 : decode cX1_init 1 = .ok (.invokespecial 3, 3) := by decide +kernel
theorem dX1_init_4 : decode cX1_init 4 = .ok (.aload_n 0, 1) := by decide +kernel
theorem dX1_init_5 : decode cX1_init 5 = .ok (.bipush 6, 2) := by decide +kernel
theorem dX1_init_7 : decode cX1_init 7 = .ok (.newarray .int, 2) := by decide +kernel
theorem dX1_init_9 : decode cX1_init 9 = .ok (.putfield 11, 3) := by decide +kernel
theorem dX1_init_12 : decode cX1_init 12 = .ok (.aload_n 0, 1) := by decide +kernel
theorem dX1_init_13 : decode cX1_init 13 = .ok (.bipush 6, 2) := by decide +kernel
theorem dX1_init_15 : decode cX1_init 15 = .ok (.newarray .int, 2) := by decide +kernel
theorem dX1_init_17 : decode cX1_init 17 = .ok (.putfield 15, 3) := by decide +kernel
theorem dX1_init_20 : decode cX1_init 20 = .ok (.aload_n 0, 1) := by decide +kernel
theorem dX1_init_21 : decode cX1_init 21 = .ok (.bipush 6, 2) := by decide +kernel
theorem dX1_init_23 : decode cX1_init 23 = .ok (.newarray .int, 2) := by decide +kernel
theorem dX1_init_25 : decode cX1_init 25 = .ok (.putfield 18, 3) := by decide +kernel
theorem dX1_init_28 : decode cX1_init 28 = .ok (.aload_n 0, 1) := by decide +kernel
theorem dX1_init_29 : decode cX1_init 29 = .ok (.bipush 6, 2) := by decide +kernel
theorem dX1_init_31 : decode cX1_init 31 = .ok (.newarray .boolean, 2) := by decide +kernel
theorem dX1_init_33 : decode cX1_init 33 = .ok (.putfield 21, 3) := by decide +kernel
theorem dX1_init_36 : decode cX1_init 36 = .ok (.aload_n 0, 1) := by decide +kernel
theorem dX1_init_37 : decode cX1_init 37 = .ok (.iconst 0, 1) := by decide +kernel
theorem dX1_init_38 : decode cX1_init 38 = .ok (.putfield 25, 3) := by decide +kernel
theorem dX1_init_41 : decode cX1_init 41 = .ok (.return_, 1) := by decide +kernel
theorem dX1_size_0 : decode cX1_size 0 = .ok (.aload_n 0, 1) := by decide +kernel
theorem dX1_size_1 : decode cX1_size 1 = .ok (.getfield 25, 3) := by decide +kernel
theorem dX1_size_4 : decode cX1_size 4 = .ok (.ireturn, 1) := by decide +kernel
theorem dX1_append_0 : decode cX1_append 0 = .ok (.aload_n 0, 1) := by decide +kernel
theorem dX1_append_1 : decode cX1_append 1 = .ok (.getfield 25, 3) := by decide +kernel
theorem dX1_append_4 : decode cX1_append 4 = .ok (.ifCond .lt 12, 3) := by decide +kernel
theorem dX1_append_7 : decode cX1_append 7 = .ok (.aload_n 0, 1) := by decide +kernel
theorem dX1_append_8 : decode cX1_append 8 = .ok (.getfield 25, 3) := by decide +kernel
theorem dX1_append_11 : decode cX1_append 11 = .ok (.bipush 6, 2) := by decide +kernel
theorem dX1_append_13 : decode cX1_append 13 = .ok (.if_icmp .lt 5, 3) := by decide +kernel
theorem dX1_append_16 : decode cX1_append 16 = .ok (.iconst 0, 1) := by decide +kernel
theorem dX1_append_17 : decode cX1_append 17 = .ok (.ireturn, 1) := by decide +kernel
theorem dX1_append_18 : decode cX1_append 18 = .ok (.aload_n 0, 1) := by decide +kernel
theorem dX1_append_19 : decode cX1_append 19 = .ok (.getfield 11, 3) := by decide +kernel
theorem dX1_append_22 : decode cX1_append 22 = .ok (.aload_n 0, 1) := by decide +kernel
theorem dX1_append_23 : decode cX1_append 23 = .ok (.getfield 25, 3) := by decide +kernel
theorem dX1_append_26 : decode cX1_append 26 = .ok (.iload_n 1, 1) := by decide +kernel
theorem dX1_append_27 : decode cX1_append 27 = .ok (.iastore, 1) := by decide +kernel
theorem dX1_append_28 : decode cX1_append 28 = .ok (.aload_n 0, 1) := by decide +kernel
theorem dX1_append_29 : decode cX1_append 29 = .ok (.getfield 15, 3) := by decide +kernel
theorem dX1_append_32 : decode cX1_append 32 = .ok (.aload_n 0, 1) := by decide +kernel
theorem dX1_append_33 : decode cX1_append 33 = .ok (.getfield 25, 3) := by decide +kernel
theorem dX1_append_36 : decode cX1_append 36 = .ok (.iload_n 2, 1) := by decide +kernel
theorem dX1_append_37 : decode cX1_append 37 = .ok (.iastore, 1) := by decide +kernel
theorem dX1_append_38 : decode cX1_append 38 = .ok (.aload_n 0, 1) := by decide +kernel
theorem dX1_append_39 : decode cX1_append 39 = .ok (.getfield 18, 3) := by decide +kernel
theorem dX1_append_42 : decode cX1_append 42 = .ok (.aload_n 0, 1) := by decide +kernel
theorem dX1_append_43 : decode cX1_append 43 = .ok (.getfield 25, 3) := by decide +kernel
theorem dX1_append_46 : decode cX1_append 46 = .ok (.iload_n 3, 1) := by decide +kernel
theorem dX1_append_47 : decode cX1_append 47 = .ok (.iastore, 1) := by decide +kernel
theorem dX1_append_48 : decode cX1_append 48 = .ok (.aload_n 0, 1) := by decide +kernel
theorem dX1_append_49 : decode cX1_append 49 = .ok (.getfield 21, 3) := by decide +kernel
theorem dX1_append_52 : decode cX1_append 52 = .ok (.aload_n 0, 1) := by decide +kernel
theorem dX1_append_53 : decode cX1_append 53 = .ok (.getfield 25, 3) := by decide +kernel
theorem dX1_append_56 : decode cX1_append 56 = .ok (.iload 4, 2) := by decide +kernel
theorem dX1_append_58 : decode cX1_append 58 = .ok (.bastore, 1) := by decide +kernel
theorem dX1_append_59 : decode cX1_append 59 = .ok (.aload_n 0, 1) := by decide +kernel
theorem dX1_append_60 : decode cX1_append 60 = .ok (.dup, 1) := by decide +kernel
theorem dX1_append_61 : decode cX1_append 61 = .ok (.getfield 25, 3) := by decide +kernel
theorem dX1_append_64 : decode cX1_append 64 = .ok (.iconst 1, 1) := by decide +kernel
theorem dX1_append_65 : decode cX1_append 65 = .ok (.iadd, 1) := by decide +kernel
theorem dX1_append_66 : decode cX1_append 66 = .ok (.putfield 25, 3) := by decide +kernel
theorem dX1_append_69 : decode cX1_append 69 = .ok (.iconst 1, 1) := by decide +kernel
theorem dX1_append_70 : decode cX1_append 70 = .ok (.ireturn, 1) := by decide +kernel
theorem dX1_clear_0 : decode cX1_clear 0 = .ok (.aload_n 0, 1) := by decide +kernel
theorem dX1_clear_1 : decode cX1_clear 1 = .ok (.getfield 25, 3) := by decide +kernel
theorem dX1_clear_4 : decode cX1_clear 4 = .ok (.istore_n 1, 1) := by decide +kernel
theorem dX1_clear_5 : decode cX1_clear 5 = .ok (.aload_n 0, 1) := by decide +kernel
theorem dX1_clear_6 : decode cX1_clear 6 = .ok (.iconst 0, 1) := by decide +kernel
theorem dX1_clear_7 : decode cX1_clear 7 = .ok (.putfield 25, 3) := by decide +kernel
theorem dX1_clear_10 : decode cX1_clear 10 = .ok (.iload_n 1, 1) := by decide +kernel
theorem dX1_clear_11 : decode cX1_clear 11 = .ok (.ireturn, 1) := by decide +kernel
theorem dX1_copyFrom_0 : decode cX1_copyFrom 0 = .ok (.aload_n 0, 1) := by decide +kernel
theorem dX1_copyFrom_1 : decode cX1_copyFrom 1 = .ok (.iconst 0, 1) := by decide +kernel
theorem dX1_copyFrom_2 : decode cX1_copyFrom 2 = .ok (.putfield 25, 3) := by decide +kernel
theorem dX1_copyFrom_5 : decode cX1_copyFrom 5 = .ok (.iconst 0, 1) := by decide +kernel
theorem dX1_copyFrom_6 : decode cX1_copyFrom 6 = .ok (.istore_n 2, 1) := by decide +kernel
theorem dX1_copyFrom_7 : decode cX1_copyFrom 7 = .ok (.iload_n 2, 1) := by decide +kernel
theorem dX1_copyFrom_8 : decode cX1_copyFrom 8 = .ok (.aload_n 1, 1) := by decide +kernel
theorem dX1_copyFrom_9 : decode cX1_copyFrom 9 = .ok (.getfield 25, 3) := by decide +kernel
theorem dX1_copyFrom_12 : decode cX1_copyFrom 12 = .ok (.if_icmp .ge 44, 3) := by decide +kernel
theorem dX1_copyFrom_15 : decode cX1_copyFrom 15 = .ok (.iload_n 2, 1) := by decide +kernel
theorem dX1_copyFrom_16 : decode cX1_copyFrom 16 = .ok (.bipush 6, 2) := by decide +kernel
theorem dX1_copyFrom_18 : decode cX1_copyFrom 18 = .ok (.if_icmp .ge 38, 3) := by decide +kernel
theorem dX1_copyFrom_21 : decode cX1_copyFrom 21 = .ok (.aload_n 0, 1) := by decide +kernel
theorem dX1_copyFrom_22 : decode cX1_copyFrom 22 = .ok (.aload_n 1, 1) := by decide +kernel
theorem dX1_copyFrom_23 : decode cX1_copyFrom 23 = .ok (.getfield 11, 3) := by decide +kernel
theorem dX1_copyFrom_26 : decode cX1_copyFrom 26 = .ok (.iload_n 2, 1) := by decide +kernel
theorem dX1_copyFrom_27 : decode cX1_copyFrom 27 = .ok (.iaload, 1) := by decide +kernel
theorem dX1_copyFrom_28 : decode cX1_copyFrom 28 = .ok (.aload_n 1, 1) := by decide +kernel
theorem dX1_copyFrom_29 : decode cX1_copyFrom 29 = .ok (.getfield 15, 3) := by decide +kernel
theorem dX1_copyFrom_32 : decode cX1_copyFrom 32 = .ok (.iload_n 2, 1) := by decide +kernel
theorem dX1_copyFrom_33 : decode cX1_copyFrom 33 = .ok (.iaload, 1) := by decide +kernel
theorem dX1_copyFrom_34 : decode cX1_copyFrom 34 = .ok (.aload_n 1, 1) := by decide +kernel
theorem dX1_copyFrom_35 : decode cX1_copyFrom 35 = .ok (.getfield 18, 3) := by decide +kernel
theorem dX1_copyFrom_38 : decode cX1_copyFrom 38 = .ok (.iload_n 2, 1) := by decide +kernel
theorem dX1_copyFrom_39 : decode cX1_copyFrom 39 = .ok (.iaload, 1) := by decide +kernel
theorem dX1_copyFrom_40 : decode cX1_copyFrom 40 = .ok (.aload_n 1, 1) := by decide +kernel
theorem dX1_copyFrom_41 : decode cX1_copyFrom 41 = .ok (.getfield 21, 3) := by decide +kernel
theorem dX1_copyFrom_44 : decode cX1_copyFrom 44 = .ok (.iload_n 2, 1) := by decide +kernel
theorem dX1_copyFrom_45 : decode cX1_copyFrom 45 = .ok (.baload, 1) := by decide +kernel
theorem dX1_copyFrom_46 : decode cX1_copyFrom 46 = .ok (.invokevirtual 29, 3) := by decide +kernel
theorem dX1_copyFrom_49 : decode cX1_copyFrom 49 = .ok (.pop, 1) := by decide +kernel
theorem dX1_copyFrom_50 : decode cX1_copyFrom 50 = .ok (.iinc 2 1, 3) := by decide +kernel
theorem dX1_copyFrom_53 : decode cX1_copyFrom 53 = .ok (.goto (-46), 3) := by decide +kernel
theorem dX1_copyFrom_56 : decode cX1_copyFrom 56 = .ok (.return_, 1) := by decide +kernel
theorem dX1_heightBits_0 : decode cX1_heightBits 0 = .ok (.iconst 0, 1) := by decide +kernel
theorem dX1_heightBits_1 : decode cX1_heightBits 1 = .ok (.istore_n 2, 1) := by decide +kernel
theorem dX1_heightBits_2 : decode cX1_heightBits 2 = .ok (.iconst 1, 1) := by decide +kernel
theorem dX1_heightBits_3 : decode cX1_heightBits 3 = .ok (.istore_n 3, 1) := by decide +kernel
theorem dX1_heightBits_4 : decode cX1_heightBits 4 = .ok (.iload_n 3, 1) := by decide +kernel
theorem dX1_heightBits_5 : decode cX1_heightBits 5 = .ok (.bipush 9, 2) := by decide +kernel
theorem dX1_heightBits_7 : decode cX1_heightBits 7 = .ok (.if_icmp .gt 26, 3) := by decide +kernel
theorem dX1_heightBits_10 : decode cX1_heightBits 10 = .ok (.aload_n 0, 1) := by decide +kernel
theorem dX1_heightBits_11 : decode cX1_heightBits 11 = .ok (.aload_n 1, 1) := by decide +kernel
theorem dX1_heightBits_12 : decode cX1_heightBits 12 = .ok (.iload_n 3, 1) := by decide +kernel
theorem dX1_heightBits_13 : decode cX1_heightBits 13 = .ok (.invokevirtual 33, 3) := by decide +kernel
theorem dX1_heightBits_16 : decode cX1_heightBits 16 = .ok (.ifCond .eq 11, 3) := by decide +kernel
theorem dX1_heightBits_19 : decode cX1_heightBits 19 = .ok (.iload_n 2, 1) := by decide +kernel
theorem dX1_heightBits_20 : decode cX1_heightBits 20 = .ok (.iconst 1, 1) := by decide +kernel
theorem dX1_heightBits_21 : decode cX1_heightBits 21 = .ok (.iload_n 3, 1) := by decide +kernel
theorem dX1_heightBits_22 : decode cX1_heightBits 22 = .ok (.iconst 1, 1) := by decide +kernel
theorem dX1_heightBits_23 : decode cX1_heightBits 23 = .ok (.isub, 1) := by decide +kernel
theorem dX1_heightBits_24 : decode cX1_heightBits 24 = .ok (.ishl, 1) := by decide +kernel
theorem dX1_heightBits_25 : decode cX1_heightBits 25 = .ok (.ior, 1) := by decide +kernel
theorem dX1_heightBits_26 : decode cX1_heightBits 26 = .ok (.istore_n 2, 1) := by decide +kernel
theorem dX1_heightBits_27 : decode cX1_heightBits 27 = .ok (.iinc 3 1, 3) := by decide +kernel
theorem dX1_heightBits_30 : decode cX1_heightBits 30 = .ok (.goto (-26), 3) := by decide +kernel
theorem dX1_heightBits_33 : decode cX1_heightBits 33 = .ok (.iload_n 2, 1) := by decide +kernel
theorem dX1_heightBits_34 : decode cX1_heightBits 34 = .ok (.ireturn, 1) := by decide +kernel
theorem dX1_allows_0 : decode cX1_allows 0 = .ok (.iconst 0, 1) := by decide +kernel
theorem dX1_allows_1 : decode cX1_allows 1 = .ok (.istore_n 3, 1) := by decide +kernel
theorem dX1_allows_2 : decode cX1_allows 2 = .ok (.iload_n 3, 1) := by decide +kernel
theorem dX1_allows_3 : decode cX1_allows 3 = .ok (.aload_n 0, 1) := by decide +kernel
theorem dX1_allows_4 : decode cX1_allows 4 = .ok (.getfield 25, 3) := by decide +kernel
theorem dX1_allows_7 : decode cX1_allows 7 = .ok (.if_icmp .ge 68, 3) := by decide +kernel
theorem dX1_allows_10 : decode cX1_allows 10 = .ok (.iload_n 3, 1) := by decide +kernel
theorem dX1_allows_11 : decode cX1_allows 11 = .ok (.bipush 6, 2) := by decide +kernel
theorem dX1_allows_13 : decode cX1_allows 13 = .ok (.if_icmp .ge 62, 3) := by decide +kernel
theorem dX1_allows_16 : decode cX1_allows 16 = .ok (.aload_n 0, 1) := by decide +kernel
theorem dX1_allows_17 : decode cX1_allows 17 = .ok (.getfield 18, 3) := by decide +kernel
theorem dX1_allows_20 : decode cX1_allows 20 = .ok (.iload_n 3, 1) := by decide +kernel
theorem dX1_allows_21 : decode cX1_allows 21 = .ok (.iaload, 1) := by decide +kernel
theorem dX1_allows_22 : decode cX1_allows 22 = .ok (.aload_n 1, 1) := by decide +kernel
theorem dX1_allows_23 : decode cX1_allows 23 = .ok (.aload_n 0, 1) := by decide +kernel
theorem dX1_allows_24 : decode cX1_allows 24 = .ok (.getfield 11, 3) := by decide +kernel
theorem dX1_allows_27 : decode cX1_allows 27 = .ok (.iload_n 3, 1) := by decide +kernel
theorem dX1_allows_28 : decode cX1_allows 28 = .ok (.iaload, 1) := by decide +kernel
theorem dX1_allows_29 : decode cX1_allows 29 = .ok (.invokevirtual 37, 3) := by decide +kernel
theorem dX1_allows_32 : decode cX1_allows 32 = .ok (.aload_n 0, 1) := by decide +kernel
theorem dX1_allows_33 : decode cX1_allows 33 = .ok (.getfield 15, 3) := by decide +kernel
theorem dX1_allows_36 : decode cX1_allows 36 = .ok (.iload_n 3, 1) := by decide +kernel
theorem dX1_allows_37 : decode cX1_allows 37 = .ok (.iaload, 1) := by decide +kernel
theorem dX1_allows_38 : decode cX1_allows 38 = .ok (.invokestatic 43, 3) := by decide +kernel
theorem dX1_allows_41 : decode cX1_allows 41 = .ok (.iadd, 1) := by decide +kernel
theorem dX1_allows_42 : decode cX1_allows 42 = .ok (.istore 4, 2) := by decide +kernel
theorem dX1_allows_44 : decode cX1_allows 44 = .ok (.aload_n 0, 1) := by decide +kernel
theorem dX1_allows_45 : decode cX1_allows 45 = .ok (.getfield 21, 3) := by decide +kernel
theorem dX1_allows_48 : decode cX1_allows 48 = .ok (.iload_n 3, 1) := by decide +kernel
theorem dX1_allows_49 : decode cX1_allows 49 = .ok (.baload, 1) := by decide +kernel
theorem dX1_allows_50 : decode cX1_allows 50 = .ok (.iload 4, 2) := by decide +kernel
theorem dX1_allows_52 : decode cX1_allows 52 = .ok (.iload_n 2, 1) := by decide +kernel
theorem dX1_allows_53 : decode cX1_allows 53 = .ok (.invokestatic 49, 3) := by decide +kernel
theorem dX1_allows_56 : decode cX1_allows 56 = .ok (.if_icmp .le 7, 3) := by decide +kernel
theorem dX1_allows_59 : decode cX1_allows 59 = .ok (.iconst 1, 1) := by decide +kernel
theorem dX1_allows_60 : decode cX1_allows 60 = .ok (.goto 4, 3) := by decide +kernel
theorem dX1_allows_63 : decode cX1_allows 63 = .ok (.iconst 0, 1) := by decide +kernel
theorem dX1_allows_64 : decode cX1_allows 64 = .ok (.if_icmp .eq 5, 3) := by decide +kernel
theorem dX1_allows_67 : decode cX1_allows 67 = .ok (.iconst 0, 1) := by decide +kernel
theorem dX1_allows_68 : decode cX1_allows 68 = .ok (.ireturn, 1) := by decide +kernel
theorem dX1_allows_69 : decode cX1_allows 69 = .ok (.iinc 3 1, 3) := by decide +kernel
theorem dX1_allows_72 : decode cX1_allows 72 = .ok (.goto (-70), 3) := by decide +kernel
theorem dX1_allows_75 : decode cX1_allows 75 = .ok (.iconst 1, 1) := by decide +kernel
theorem dX1_allows_76 : decode cX1_allows 76 = .ok (.ireturn, 1) := by decide +kernel
theorem dX1_bestTry_0 : decode cX1_bestTry 0 = .ok (.aload_n 0, 1) := by decide +kernel
theorem dX1_bestTry_1 : decode cX1_bestTry 1 = .ok (.aload_n 1, 1) := by decide +kernel
theorem dX1_bestTry_2 : decode cX1_bestTry 2 = .ok (.invokevirtual 52, 3) := by decide +kernel
theorem dX1_bestTry_5 : decode cX1_bestTry 5 = .ok (.istore_n 3, 1) := by decide +kernel
theorem dX1_bestTry_6 : decode cX1_bestTry 6 = .ok (.iload_n 3, 1) := by decide +kernel
theorem dX1_bestTry_7 : decode cX1_bestTry 7 = .ok (.ifCond .ne 5, 3) := by decide +kernel
theorem dX1_bestTry_10 : decode cX1_bestTry 10 = .ok (.iconst (-1), 1) := by decide +kernel
theorem dX1_bestTry_11 : decode cX1_bestTry 11 = .ok (.ireturn, 1) := by decide +kernel
theorem dX1_bestTry_12 : decode cX1_bestTry 12 = .ok (.aload_n 1, 1) := by decide +kernel
theorem dX1_bestTry_13 : decode cX1_bestTry 13 = .ok (.iload_n 2, 1) := by decide +kernel
theorem dX1_bestTry_14 : decode cX1_bestTry 14 = .ok (.invokevirtual 37, 3) := by decide +kernel
theorem dX1_bestTry_17 : decode cX1_bestTry 17 = .ok (.iconst 1, 1) := by decide +kernel
theorem dX1_bestTry_18 : decode cX1_bestTry 18 = .ok (.invokestatic 43, 3) := by decide +kernel
theorem dX1_bestTry_21 : decode cX1_bestTry 21 = .ok (.istore 4, 2) := by decide +kernel
theorem dX1_bestTry_23 : decode cX1_bestTry 23 = .ok (.iconst 0, 1) := by decide +kernel
theorem dX1_bestTry_24 : decode cX1_bestTry 24 = .ok (.istore 5, 2) := by decide +kernel
theorem dX1_bestTry_26 : decode cX1_bestTry 26 = .ok (.bipush 10, 2) := by decide +kernel
theorem dX1_bestTry_28 : decode cX1_bestTry 28 = .ok (.istore 6, 2) := by decide +kernel
theorem dX1_bestTry_30 : decode cX1_bestTry 30 = .ok (.iconst 0, 1) := by decide +kernel
theorem dX1_bestTry_31 : decode cX1_bestTry 31 = .ok (.istore 7, 2) := by decide +kernel
theorem dX1_bestTry_33 : decode cX1_bestTry 33 = .ok (.iload 7, 2) := by decide +kernel
theorem dX1_bestTry_35 : decode cX1_bestTry 35 = .ok (.bipush 12, 2) := by decide +kernel
theorem dX1_bestTry_37 : decode cX1_bestTry 37 = .ok (.if_icmp .ge 35, 3) := by decide +kernel
theorem dX1_bestTry_40 : decode cX1_bestTry 40 = .ok (.iload_n 3, 1) := by decide +kernel
theorem dX1_bestTry_41 : decode cX1_bestTry 41 = .ok (.iload 7, 2) := by decide +kernel
theorem dX1_bestTry_43 : decode cX1_bestTry 43 = .ok (.iload 4, 2) := by decide +kernel
theorem dX1_bestTry_45 : decode cX1_bestTry 45 = .ok (.iadd, 1) := by decide +kernel
theorem dX1_bestTry_46 : decode cX1_bestTry 46 = .ok (.invokestatic 56, 3) := by decide +kernel
theorem dX1_bestTry_49 : decode cX1_bestTry 49 = .ok (.istore 8, 2) := by decide +kernel
theorem dX1_bestTry_51 : decode cX1_bestTry 51 = .ok (.iload 8, 2) := by decide +kernel
theorem dX1_bestTry_53 : decode cX1_bestTry 53 = .ok (.iload 6, 2) := by decide +kernel
theorem dX1_bestTry_55 : decode cX1_bestTry 55 = .ok (.if_icmp .ge 11, 3) := by decide +kernel
theorem dX1_bestTry_58 : decode cX1_bestTry 58 = .ok (.iload 8, 2) := by decide +kernel
theorem dX1_bestTry_60 : decode cX1_bestTry 60 = .ok (.istore 6, 2) := by decide +kernel
theorem dX1_bestTry_62 : decode cX1_bestTry 62 = .ok (.iload 7, 2) := by decide +kernel
theorem dX1_bestTry_64 : decode cX1_bestTry 64 = .ok (.istore 5, 2) := by decide +kernel
theorem dX1_bestTry_66 : decode cX1_bestTry 66 = .ok (.iinc 7 1, 3) := by decide +kernel
theorem dX1_bestTry_69 : decode cX1_bestTry 69 = .ok (.goto (-36), 3) := by decide +kernel
theorem dX1_bestTry_72 : decode cX1_bestTry 72 = .ok (.iload 5, 2) := by decide +kernel
theorem dX1_bestTry_74 : decode cX1_bestTry 74 = .ok (.ireturn, 1) := by decide +kernel
theorem dX1_leftAtWorst_0 : decode cX1_leftAtWorst 0 = .ok (.iconst 0, 1) := by decide +kernel
theorem dX1_leftAtWorst_1 : decode cX1_leftAtWorst 1 = .ok (.istore_n 2, 1) := by decide +kernel
theorem dX1_leftAtWorst_2 : decode cX1_leftAtWorst 2 = .ok (.iconst 0, 1) := by decide +kernel
theorem dX1_leftAtWorst_3 : decode cX1_leftAtWorst 3 = .ok (.istore_n 3, 1) := by decide +kernel
theorem dX1_leftAtWorst_4 : decode cX1_leftAtWorst 4 = .ok (.iconst 1, 1) := by decide +kernel
theorem dX1_leftAtWorst_5 : decode cX1_leftAtWorst 5 = .ok (.istore 4, 2) := by decide +kernel
theorem dX1_leftAtWorst_7 : decode cX1_leftAtWorst 7 = .ok (.iload 4, 2) := by decide +kernel
theorem dX1_leftAtWorst_9 : decode cX1_leftAtWorst 9 = .ok (.bipush 9, 2) := by decide +kernel
theorem dX1_leftAtWorst_11 : decode cX1_leftAtWorst 11 = .ok (.if_icmp .gt 41, 3) := by decide +kernel
theorem dX1_leftAtWorst_14 : decode cX1_leftAtWorst 14 = .ok (.iload_n 0, 1) := by decide +kernel
theorem dX1_leftAtWorst_15 : decode cX1_leftAtWorst 15 = .ok (.iload 4, 2) := by decide +kernel
theorem dX1_leftAtWorst_17 : decode cX1_leftAtWorst 17 = .ok (.iconst 1, 1) := by decide +kernel
theorem dX1_leftAtWorst_18 : decode cX1_leftAtWorst 18 = .ok (.isub, 1) := by decide +kernel
theorem dX1_leftAtWorst_19 : decode cX1_leftAtWorst 19 = .ok (.ishr, 1) := by decide +kernel
theorem dX1_leftAtWorst_20 : decode cX1_leftAtWorst 20 = .ok (.iconst 1, 1) := by decide +kernel
theorem dX1_leftAtWorst_21 : decode cX1_leftAtWorst 21 = .ok (.iand, 1) := by decide +kernel
theorem dX1_leftAtWorst_22 : decode cX1_leftAtWorst 22 = .ok (.ifCond .ne 6, 3) := by decide +kernel
theorem dX1_leftAtWorst_25 : decode cX1_leftAtWorst 25 = .ok (.goto 21, 3) := by decide +kernel
theorem dX1_leftAtWorst_28 : decode cX1_leftAtWorst 28 = .ok (.iload_n 1, 1) := by decide +kernel
theorem dX1_leftAtWorst_29 : decode cX1_leftAtWorst 29 = .ok (.iload 4, 2) := by decide +kernel
theorem dX1_leftAtWorst_31 : decode cX1_leftAtWorst 31 = .ok (.invokestatic 49, 3) := by decide +kernel
theorem dX1_leftAtWorst_34 : decode cX1_leftAtWorst 34 = .ok (.if_icmp .le 9, 3) := by decide +kernel
theorem dX1_leftAtWorst_37 : decode cX1_leftAtWorst 37 = .ok (.iinc 2 1, 3) := by decide +kernel
theorem dX1_leftAtWorst_40 : decode cX1_leftAtWorst 40 = .ok (.goto 6, 3) := by decide +kernel
theorem dX1_leftAtWorst_43 : decode cX1_leftAtWorst 43 = .ok (.iinc 3 1, 3) := by decide +kernel
theorem dX1_leftAtWorst_46 : decode cX1_leftAtWorst 46 = .ok (.iinc 4 1, 3) := by decide +kernel
theorem dX1_leftAtWorst_49 : decode cX1_leftAtWorst 49 = .ok (.goto (-42), 3) := by decide +kernel
theorem dX1_leftAtWorst_52 : decode cX1_leftAtWorst 52 = .ok (.iload_n 2, 1) := by decide +kernel
theorem dX1_leftAtWorst_53 : decode cX1_leftAtWorst 53 = .ok (.iload_n 3, 1) := by decide +kernel
theorem dX1_leftAtWorst_54 : decode cX1_leftAtWorst 54 = .ok (.invokestatic 59, 3) := by decide +kernel
theorem dX1_leftAtWorst_57 : decode cX1_leftAtWorst 57 = .ok (.ireturn, 1) := by decide +kernel
theorem dX2_isKind_0 : decode cX2_isKind 0 = .ok (.iload_n 0, 1) := by decide +kernel
theorem dX2_isKind_1 : decode cX2_isKind 1 = .ok (.ifCond .lt 12, 3) := by decide +kernel
theorem dX2_isKind_4 : decode cX2_isKind 4 = .ok (.iload_n 0, 1) := by decide +kernel
theorem dX2_isKind_5 : decode cX2_isKind 5 = .ok (.iconst 4, 1) := by decide +kernel
theorem dX2_isKind_6 : decode cX2_isKind 6 = .ok (.if_icmp .gt 7, 3) := by decide +kernel
theorem dX2_isKind_9 : decode cX2_isKind 9 = .ok (.iconst 1, 1) := by decide +kernel
theorem dX2_isKind_10 : decode cX2_isKind 10 = .ok (.goto 4, 3) := by decide +kernel
theorem dX2_isKind_13 : decode cX2_isKind 13 = .ok (.iconst 0, 1) := by decide +kernel
theorem dX2_isKind_14 : decode cX2_isKind 14 = .ok (.ireturn, 1) := by decide +kernel
theorem dX2_ofLetter_0 : decode cX2_ofLetter 0 = .ok (.ldc 9, 2) := by decide +kernel
theorem dX2_ofLetter_2 : decode cX2_ofLetter 2 = .ok (.iload_n 0, 1) := by decide +kernel
theorem dX2_ofLetter_3 : decode cX2_ofLetter 3 = .ok (.i2c, 1) := by decide +kernel
theorem dX2_ofLetter_4 : decode cX2_ofLetter 4 = .ok (.invokevirtual 11, 3) := by decide +kernel
theorem dX2_ofLetter_7 : decode cX2_ofLetter 7 = .ok (.ireturn, 1) := by decide +kernel
theorem dX2_isA_0 : decode cX2_isA 0 = .ok (.iload_n 1, 1) := by decide +kernel
theorem dX2_isA_1 : decode cX2_isA 1 = .ok (.ifCond .eq 18, 3) := by decide +kernel
theorem dX2_isA_4 : decode cX2_isA 4 = .ok (.iload_n 0, 1) := by decide +kernel
theorem dX2_isA_5 : decode cX2_isA 5 = .ok (.iload_n 1, 1) := by decide +kernel
theorem dX2_isA_6 : decode cX2_isA 6 = .ok (.if_icmp .eq 13, 3) := by decide +kernel
theorem dX2_isA_9 : decode cX2_isA 9 = .ok (.iload_n 1, 1) := by decide +kernel
theorem dX2_isA_10 : decode cX2_isA 10 = .ok (.iconst 1, 1) := by decide +kernel
theorem dX2_isA_11 : decode cX2_isA 11 = .ok (.if_icmp .ne 12, 3) := by decide +kernel
theorem dX2_isA_14 : decode cX2_isA 14 = .ok (.iload_n 0, 1) := by decide +kernel
theorem dX2_isA_15 : decode cX2_isA 15 = .ok (.iconst 4, 1) := by decide +kernel
theorem dX2_isA_16 : decode cX2_isA 16 = .ok (.if_icmp .ne 7, 3) := by decide +kernel
theorem dX2_isA_19 : decode cX2_isA 19 = .ok (.iconst 1, 1) := by decide +kernel
theorem dX2_isA_20 : decode cX2_isA 20 = .ok (.goto 4, 3) := by decide +kernel
theorem dX2_isA_23 : decode cX2_isA 23 = .ok (.iconst 0, 1) := by decide +kernel
theorem dX2_isA_24 : decode cX2_isA 24 = .ok (.ireturn, 1) := by decide +kernel
theorem dX2_growth_0 : decode cX2_growth 0 = .ok (.iload_n 0, 1) := by decide +kernel
theorem dX2_growth_1 : decode cX2_growth 1 = .ok (.tableswitch 43 1 4 #[31, 35, 39, 35], 31) := by decide +kernel
theorem dX2_growth_32 : decode cX2_growth 32 = .ok (.iload_n 1, 1) := by decide +kernel
theorem dX2_growth_33 : decode cX2_growth 33 = .ok (.iconst 1, 1) := by decide +kernel
theorem dX2_growth_34 : decode cX2_growth 34 = .ok (.iadd, 1) := by decide +kernel
theorem dX2_growth_35 : decode cX2_growth 35 = .ok (.ireturn, 1) := by decide +kernel
theorem dX2_growth_36 : decode cX2_growth 36 = .ok (.iload_n 1, 1) := by decide +kernel
theorem dX2_growth_37 : decode cX2_growth 37 = .ok (.iconst 2, 1) := by decide +kernel
theorem dX2_growth_38 : decode cX2_growth 38 = .ok (.iadd, 1) := by decide +kernel
theorem dX2_growth_39 : decode cX2_growth 39 = .ok (.ireturn, 1) := by decide +kernel
theorem dX2_growth_40 : decode cX2_growth 40 = .ok (.iload_n 1, 1) := by decide +kernel
theorem dX2_growth_41 : decode cX2_growth 41 = .ok (.iload_n 1, 1) := by decide +kernel
theorem dX2_growth_42 : decode cX2_growth 42 = .ok (.iadd, 1) := by decide +kernel
theorem dX2_growth_43 : decode cX2_growth 43 = .ok (.ireturn, 1) := by decide +kernel
theorem dX2_growth_44 : decode cX2_growth 44 = .ok (.iload_n 1, 1) := by decide +kernel
theorem dX2_growth_45 : decode cX2_growth 45 = .ok (.ireturn, 1) := by decide +kernel
theorem dX2_onSpot_0 : decode cX2_onSpot 0 = .ok (.iload_n 0, 1) := by decide +kernel
theorem dX2_onSpot_1 : decode cX2_onSpot 1 = .ok (.tableswitch 37 1 4 #[31, 37, 33, 35], 31) := by decide +kernel
theorem dX2_onSpot_32 : decode cX2_onSpot 32 = .ok (.iconst (-1), 1) := by decide +kernel
theorem dX2_onSpot_33 : decode cX2_onSpot 33 = .ok (.ireturn, 1) := by decide +kernel
theorem dX2_onSpot_34 : decode cX2_onSpot 34 = .ok (.iconst 1, 1) := by decide +kernel
theorem dX2_onSpot_35 : decode cX2_onSpot 35 = .ok (.ireturn, 1) := by decide +kernel
theorem dX2_onSpot_36 : decode cX2_onSpot 36 = .ok (.iconst 0, 1) := by decide +kernel
theorem dX2_onSpot_37 : decode cX2_onSpot 37 = .ok (.ireturn, 1) := by decide +kernel
theorem dX2_onSpot_38 : decode cX2_onSpot 38 = .ok (.bipush (-2), 2) := by decide +kernel
theorem dX2_onSpot_40 : decode cX2_onSpot 40 = .ok (.ireturn, 1) := by decide +kernel
theorem dX2_swayAfter_0 : decode cX2_swayAfter 0 = .ok (.iload_n 2, 1) := by decide +kernel
theorem dX2_swayAfter_1 : decode cX2_swayAfter 1 = .ok (.ifCond .ne 16, 3) := by decide +kernel
theorem dX2_swayAfter_4 : decode cX2_swayAfter 4 = .ok (.iconst 0, 1) := by decide +kernel
theorem dX2_swayAfter_5 : decode cX2_swayAfter 5 = .ok (.iload_n 1, 1) := by decide +kernel
theorem dX2_swayAfter_6 : decode cX2_swayAfter 6 = .ok (.iload_n 0, 1) := by decide +kernel
theorem dX2_swayAfter_7 : decode cX2_swayAfter 7 = .ok (.invokestatic 17, 3) := by decide +kernel
theorem dX2_swayAfter_10 : decode cX2_swayAfter 10 = .ok (.iadd, 1) := by decide +kernel
theorem dX2_swayAfter_11 : decode cX2_swayAfter 11 = .ok (.invokestatic 20, 3) := by decide +kernel
theorem dX2_swayAfter_14 : decode cX2_swayAfter 14 = .ok (.goto 10, 3) := by decide +kernel
theorem dX2_swayAfter_17 : decode cX2_swayAfter 17 = .ok (.iload_n 1, 1) := by decide +kernel
theorem dX2_swayAfter_18 : decode cX2_swayAfter 18 = .ok (.iload_n 0, 1) := by decide +kernel
theorem dX2_swayAfter_19 : decode cX2_swayAfter 19 = .ok (.iload_n 2, 1) := by decide +kernel
theorem dX2_swayAfter_20 : decode cX2_swayAfter 20 = .ok (.invokestatic 26, 3) := by decide +kernel
theorem dX2_swayAfter_23 : decode cX2_swayAfter 23 = .ok (.iadd, 1) := by decide +kernel
theorem dX2_swayAfter_24 : decode cX2_swayAfter 24 = .ok (.ireturn, 1) := by decide +kernel
theorem dX3_init_0 : decode cX3_init 0 = .ok (.aload_n 0, 1) := by decide +kernel
theorem dX3_init_1 : decode cX3_init 1 = .ok (.invokespecial 3, 3) := by decide +kernel
theorem dX3_init_4 : decode cX3_init 4 = .ok (.aload_n 0, 1) := by decide +kernel
theorem dX3_init_5 : decode cX3_init 5 = .ok (.bipush 16, 2) := by decide +kernel
theorem dX3_init_7 : decode cX3_init 7 = .ok (.newarray .int, 2) := by decide +kernel
theorem dX3_init_9 : decode cX3_init 9 = .ok (.putfield 11, 3) := by decide +kernel
theorem dX3_init_12 : decode cX3_init 12 = .ok (.aload_n 0, 1) := by decide +kernel
theorem dX3_init_13 : decode cX3_init 13 = .ok (.iconst 0, 1) := by decide +kernel
theorem dX3_init_14 : decode cX3_init 14 = .ok (.putfield 15, 3) := by decide +kernel
theorem dX3_init_17 : decode cX3_init 17 = .ok (.return_, 1) := by decide +kernel
theorem dX3_size_0 : decode cX3_size 0 = .ok (.aload_n 0, 1) := by decide +kernel
theorem dX3_size_1 : decode cX3_size 1 = .ok (.getfield 15, 3) := by decide +kernel
theorem dX3_size_4 : decode cX3_size 4 = .ok (.ireturn, 1) := by decide +kernel
theorem dX3_codeAt_0 : decode cX3_codeAt 0 = .ok (.iload_n 1, 1) := by decide +kernel
theorem dX3_codeAt_1 : decode cX3_codeAt 1 = .ok (.ifCond .lt 26, 3) := by decide +kernel
theorem dX3_codeAt_4 : decode cX3_codeAt 4 = .ok (.iload_n 1, 1) := by decide +kernel
theorem dX3_codeAt_5 : decode cX3_codeAt 5 = .ok (.aload_n 0, 1) := by decide +kernel
theorem dX3_codeAt_6 : decode cX3_codeAt 6 = .ok (.getfield 15, 3) := by decide +kernel
theorem dX3_codeAt_9 : decode cX3_codeAt 9 = .ok (.if_icmp .ge 18, 3) := by decide +kernel
theorem dX3_codeAt_12 : decode cX3_codeAt 12 = .ok (.iload_n 1, 1) := by decide +kernel
theorem dX3_codeAt_13 : decode cX3_codeAt 13 = .ok (.bipush 16, 2) := by decide +kernel
theorem dX3_codeAt_15 : decode cX3_codeAt 15 = .ok (.if_icmp .ge 12, 3) := by decide +kernel
theorem dX3_codeAt_18 : decode cX3_codeAt 18 = .ok (.aload_n 0, 1) := by decide +kernel
theorem dX3_codeAt_19 : decode cX3_codeAt 19 = .ok (.getfield 11, 3) := by decide +kernel
theorem dX3_codeAt_22 : decode cX3_codeAt 22 = .ok (.iload_n 1, 1) := by decide +kernel
theorem dX3_codeAt_23 : decode cX3_codeAt 23 = .ok (.iaload, 1) := by decide +kernel
theorem dX3_codeAt_24 : decode cX3_codeAt 24 = .ok (.goto 4, 3) := by decide +kernel
theorem dX3_codeAt_27 : decode cX3_codeAt 27 = .ok (.iconst 0, 1) := by decide +kernel
theorem dX3_codeAt_28 : decode cX3_codeAt 28 = .ok (.ireturn, 1) := by decide +kernel
theorem dX3_append_0 : decode cX3_append 0 = .ok (.aload_n 0, 1) := by decide +kernel
theorem dX3_append_1 : decode cX3_append 1 = .ok (.getfield 15, 3) := by decide +kernel
theorem dX3_append_4 : decode cX3_append 4 = .ok (.ifCond .lt 12, 3) := by decide +kernel
theorem dX3_append_7 : decode cX3_append 7 = .ok (.aload_n 0, 1) := by decide +kernel
theorem dX3_append_8 : decode cX3_append 8 = .ok (.getfield 15, 3) := by decide +kernel
theorem dX3_append_11 : decode cX3_append 11 = .ok (.bipush 16, 2) := by decide +kernel
theorem dX3_append_13 : decode cX3_append 13 = .ok (.if_icmp .lt 5, 3) := by decide +kernel
theorem dX3_append_16 : decode cX3_append 16 = .ok (.iconst 0, 1) := by decide +kernel
theorem dX3_append_17 : decode cX3_append 17 = .ok (.ireturn, 1) := by decide +kernel
theorem dX3_append_18 : decode cX3_append 18 = .ok (.aload_n 0, 1) := by decide +kernel
theorem dX3_append_19 : decode cX3_append 19 = .ok (.getfield 11, 3) := by decide +kernel
theorem dX3_append_22 : decode cX3_append 22 = .ok (.aload_n 0, 1) := by decide +kernel
theorem dX3_append_23 : decode cX3_append 23 = .ok (.getfield 15, 3) := by decide +kernel
theorem dX3_append_26 : decode cX3_append 26 = .ok (.iload_n 1, 1) := by decide +kernel
theorem dX3_append_27 : decode cX3_append 27 = .ok (.iastore, 1) := by decide +kernel
theorem dX3_append_28 : decode cX3_append 28 = .ok (.aload_n 0, 1) := by decide +kernel
theorem dX3_append_29 : decode cX3_append 29 = .ok (.dup, 1) := by decide +kernel
theorem dX3_append_30 : decode cX3_append 30 = .ok (.getfield 15, 3) := by decide +kernel
theorem dX3_append_33 : decode cX3_append 33 = .ok (.iconst 1, 1) := by decide +kernel
theorem dX3_append_34 : decode cX3_append 34 = .ok (.iadd, 1) := by decide +kernel
theorem dX3_append_35 : decode cX3_append 35 = .ok (.putfield 15, 3) := by decide +kernel
theorem dX3_append_38 : decode cX3_append 38 = .ok (.iconst 1, 1) := by decide +kernel
theorem dX3_append_39 : decode cX3_append 39 = .ok (.ireturn, 1) := by decide +kernel
theorem dX3_clear_0 : decode cX3_clear 0 = .ok (.aload_n 0, 1) := by decide +kernel
theorem dX3_clear_1 : decode cX3_clear 1 = .ok (.getfield 15, 3) := by decide +kernel
theorem dX3_clear_4 : decode cX3_clear 4 = .ok (.istore_n 1, 1) := by decide +kernel
theorem dX3_clear_5 : decode cX3_clear 5 = .ok (.aload_n 0, 1) := by decide +kernel
theorem dX3_clear_6 : decode cX3_clear 6 = .ok (.iconst 0, 1) := by decide +kernel
theorem dX3_clear_7 : decode cX3_clear 7 = .ok (.putfield 15, 3) := by decide +kernel
theorem dX3_clear_10 : decode cX3_clear 10 = .ok (.iload_n 1, 1) := by decide +kernel
theorem dX3_clear_11 : decode cX3_clear 11 = .ok (.ireturn, 1) := by decide +kernel
theorem dX3_placesAhead_0 : decode cX3_placesAhead 0 = .ok (.iconst 0, 1) := by decide +kernel
theorem dX3_placesAhead_1 : decode cX3_placesAhead 1 = .ok (.istore_n 1, 1) := by decide +kernel
theorem dX3_placesAhead_2 : decode cX3_placesAhead 2 = .ok (.iload_n 1, 1) := by decide +kernel
theorem dX3_placesAhead_3 : decode cX3_placesAhead 3 = .ok (.aload_n 0, 1) := by decide +kernel
theorem dX3_placesAhead_4 : decode cX3_placesAhead 4 = .ok (.getfield 15, 3) := by decide +kernel
theorem dX3_placesAhead_7 : decode cX3_placesAhead 7 = .ok (.if_icmp .ge 27, 3) := by decide +kernel
theorem dX3_placesAhead_10 : decode cX3_placesAhead 10 = .ok (.iload_n 1, 1) := by decide +kernel
theorem dX3_placesAhead_11 : decode cX3_placesAhead 11 = .ok (.bipush 12, 2) := by decide +kernel
theorem dX3_placesAhead_13 : decode cX3_placesAhead 13 = .ok (.if_icmp .ge 21, 3) := by decide +kernel
theorem dX3_placesAhead_16 : decode cX3_placesAhead 16 = .ok (.aload_n 0, 1) := by decide +kernel
theorem dX3_placesAhead_17 : decode cX3_placesAhead 17 = .ok (.iload_n 1, 1) := by decide +kernel
theorem dX3_placesAhead_18 : decode cX3_placesAhead 18 = .ok (.invokevirtual 19, 3) := by decide +kernel
theorem dX3_placesAhead_21 : decode cX3_placesAhead 21 = .ok (.invokestatic 23, 3) := by decide +kernel
theorem dX3_placesAhead_24 : decode cX3_placesAhead 24 = .ok (.iconst (-1), 1) := by decide +kernel
theorem dX3_placesAhead_25 : decode cX3_placesAhead 25 = .ok (.if_icmp .eq 9, 3) := by decide +kernel
theorem dX3_placesAhead_28 : decode cX3_placesAhead 28 = .ok (.iinc 1 1, 3) := by decide +kernel
theorem dX3_placesAhead_31 : decode cX3_placesAhead 31 = .ok (.goto (-29), 3) := by decide +kernel
theorem dX3_placesAhead_34 : decode cX3_placesAhead 34 = .ok (.iload_n 1, 1) := by decide +kernel
theorem dX3_placesAhead_35 : decode cX3_placesAhead 35 = .ok (.ireturn, 1) := by decide +kernel
theorem dX3_firstWrong_0 : decode cX3_firstWrong 0 = .ok (.aload_n 0, 1) := by decide +kernel
theorem dX3_firstWrong_1 : decode cX3_firstWrong 1 = .ok (.invokevirtual 28, 3) := by decide +kernel
theorem dX3_firstWrong_4 : decode cX3_firstWrong 4 = .ok (.istore_n 1, 1) := by decide +kernel
theorem dX3_firstWrong_5 : decode cX3_firstWrong 5 = .ok (.iload_n 1, 1) := by decide +kernel
theorem dX3_firstWrong_6 : decode cX3_firstWrong 6 = .ok (.aload_n 0, 1) := by decide +kernel
theorem dX3_firstWrong_7 : decode cX3_firstWrong 7 = .ok (.getfield 15, 3) := by decide +kernel
theorem dX3_firstWrong_10 : decode cX3_firstWrong 10 = .ok (.if_icmp .ge 18, 3) := by decide +kernel
theorem dX3_firstWrong_13 : decode cX3_firstWrong 13 = .ok (.iload_n 1, 1) := by decide +kernel
theorem dX3_firstWrong_14 : decode cX3_firstWrong 14 = .ok (.iconst 4, 1) := by decide +kernel
theorem dX3_firstWrong_15 : decode cX3_firstWrong 15 = .ok (.if_icmp .lt 13, 3) := by decide +kernel
theorem dX3_firstWrong_18 : decode cX3_firstWrong 18 = .ok (.aload_n 0, 1) := by decide +kernel
theorem dX3_firstWrong_19 : decode cX3_firstWrong 19 = .ok (.iload_n 1, 1) := by decide +kernel
theorem dX3_firstWrong_20 : decode cX3_firstWrong 20 = .ok (.invokevirtual 19, 3) := by decide +kernel
theorem dX3_firstWrong_23 : decode cX3_firstWrong 23 = .ok (.bipush 59, 2) := by decide +kernel
theorem dX3_firstWrong_25 : decode cX3_firstWrong 25 = .ok (.if_icmp .eq 5, 3) := by decide +kernel
theorem dX3_firstWrong_28 : decode cX3_firstWrong 28 = .ok (.iload_n 1, 1) := by decide +kernel
theorem dX3_firstWrong_29 : decode cX3_firstWrong 29 = .ok (.ireturn, 1) := by decide +kernel
theorem dX3_firstWrong_30 : decode cX3_firstWrong 30 = .ok (.iload_n 1, 1) := by decide +kernel
theorem dX3_firstWrong_31 : decode cX3_firstWrong 31 = .ok (.iconst 1, 1) := by decide +kernel
theorem dX3_firstWrong_32 : decode cX3_firstWrong 32 = .ok (.iadd, 1) := by decide +kernel
theorem dX3_firstWrong_33 : decode cX3_firstWrong 33 = .ok (.istore_n 2, 1) := by decide +kernel
theorem dX3_firstWrong_34 : decode cX3_firstWrong 34 = .ok (.iload_n 2, 1) := by decide +kernel
theorem dX3_firstWrong_35 : decode cX3_firstWrong 35 = .ok (.aload_n 0, 1) := by decide +kernel
theorem dX3_firstWrong_36 : decode cX3_firstWrong 36 = .ok (.getfield 15, 3) := by decide +kernel
theorem dX3_firstWrong_39 : decode cX3_firstWrong 39 = .ok (.if_icmp .ge 23, 3) := by decide +kernel
theorem dX3_firstWrong_42 : decode cX3_firstWrong 42 = .ok (.aload_n 0, 1) := by decide +kernel
theorem dX3_firstWrong_43 : decode cX3_firstWrong 43 = .ok (.iload_n 2, 1) := by decide +kernel
theorem dX3_firstWrong_44 : decode cX3_firstWrong 44 = .ok (.invokevirtual 19, 3) := by decide +kernel
theorem dX3_firstWrong_47 : decode cX3_firstWrong 47 = .ok (.bipush 49, 2) := by decide +kernel
theorem dX3_firstWrong_49 : decode cX3_firstWrong 49 = .ok (.if_icmp .lt 13, 3) := by decide +kernel
theorem dX3_firstWrong_52 : decode cX3_firstWrong 52 = .ok (.aload_n 0, 1) := by decide +kernel
theorem dX3_firstWrong_53 : decode cX3_firstWrong 53 = .ok (.iload_n 2, 1) := by decide +kernel
theorem dX3_firstWrong_54 : decode cX3_firstWrong 54 = .ok (.invokevirtual 19, 3) := by decide +kernel
theorem dX3_firstWrong_57 : decode cX3_firstWrong 57 = .ok (.bipush 57, 2) := by decide +kernel
theorem dX3_firstWrong_59 : decode cX3_firstWrong 59 = .ok (.if_icmp .le 5, 3) := by decide +kernel
theorem dX3_firstWrong_62 : decode cX3_firstWrong 62 = .ok (.iload_n 2, 1) := by decide +kernel
theorem dX3_firstWrong_63 : decode cX3_firstWrong 63 = .ok (.ireturn, 1) := by decide +kernel
theorem dX3_firstWrong_64 : decode cX3_firstWrong 64 = .ok (.iload_n 2, 1) := by decide +kernel
theorem dX3_firstWrong_65 : decode cX3_firstWrong 65 = .ok (.iconst 1, 1) := by decide +kernel
theorem dX3_firstWrong_66 : decode cX3_firstWrong 66 = .ok (.iadd, 1) := by decide +kernel
theorem dX3_firstWrong_67 : decode cX3_firstWrong 67 = .ok (.ireturn, 1) := by decide +kernel
theorem dX3_isWhole_0 : decode cX3_isWhole 0 = .ok (.aload_n 0, 1) := by decide +kernel
theorem dX3_isWhole_1 : decode cX3_isWhole 1 = .ok (.invokevirtual 28, 3) := by decide +kernel
theorem dX3_isWhole_4 : decode cX3_isWhole 4 = .ok (.istore_n 1, 1) := by decide +kernel
theorem dX3_isWhole_5 : decode cX3_isWhole 5 = .ok (.aload_n 0, 1) := by decide +kernel
theorem dX3_isWhole_6 : decode cX3_isWhole 6 = .ok (.getfield 15, 3) := by decide +kernel
theorem dX3_isWhole_9 : decode cX3_isWhole 9 = .ok (.iload_n 1, 1) := by decide +kernel
theorem dX3_isWhole_10 : decode cX3_isWhole 10 = .ok (.iconst 2, 1) := by decide +kernel
theorem dX3_isWhole_11 : decode cX3_isWhole 11 = .ok (.iadd, 1) := by decide +kernel
theorem dX3_isWhole_12 : decode cX3_isWhole 12 = .ok (.if_icmp .ne 18, 3) := by decide +kernel
theorem dX3_isWhole_15 : decode cX3_isWhole 15 = .ok (.aload_n 0, 1) := by decide +kernel
theorem dX3_isWhole_16 : decode cX3_isWhole 16 = .ok (.invokevirtual 32, 3) := by decide +kernel
theorem dX3_isWhole_19 : decode cX3_isWhole 19 = .ok (.aload_n 0, 1) := by decide +kernel
theorem dX3_isWhole_20 : decode cX3_isWhole 20 = .ok (.getfield 15, 3) := by decide +kernel
theorem dX3_isWhole_23 : decode cX3_isWhole 23 = .ok (.if_icmp .ne 7, 3) := by decide +kernel
theorem dX3_isWhole_26 : decode cX3_isWhole 26 = .ok (.iconst 1, 1) := by decide +kernel
theorem dX3_isWhole_27 : decode cX3_isWhole 27 = .ok (.goto 4, 3) := by decide +kernel
theorem dX3_isWhole_30 : decode cX3_isWhole 30 = .ok (.iconst 0, 1) := by decide +kernel
theorem dX3_isWhole_31 : decode cX3_isWhole 31 = .ok (.ireturn, 1) := by decide +kernel
theorem dX3_height_0 : decode cX3_height 0 = .ok (.aload_n 0, 1) := by decide +kernel
theorem dX3_height_1 : decode cX3_height 1 = .ok (.aload_n 0, 1) := by decide +kernel
theorem dX3_height_2 : decode cX3_height 2 = .ok (.getfield 15, 3) := by decide +kernel
theorem dX3_height_5 : decode cX3_height 5 = .ok (.iconst 1, 1) := by decide +kernel
theorem dX3_height_6 : decode cX3_height 6 = .ok (.isub, 1) := by decide +kernel
theorem dX3_height_7 : decode cX3_height 7 = .ok (.invokevirtual 19, 3) := by decide +kernel
theorem dX3_height_10 : decode cX3_height 10 = .ok (.bipush 48, 2) := by decide +kernel
theorem dX3_height_12 : decode cX3_height 12 = .ok (.isub, 1) := by decide +kernel
theorem dX3_height_13 : decode cX3_height 13 = .ok (.ireturn, 1) := by decide +kernel
theorem dX4_init_0 : decode cX4_init 0 = .ok (.aload_n 0, 1) := by decide +kernel
theorem dX4_init_1 : decode cX4_init 1 = .ok (.invokespecial 3, 3) := by decide +kernel
theorem dX4_init_4 : decode cX4_init 4 = .ok (.aload_n 0, 1) := by decide +kernel
theorem dX4_init_5 : decode cX4_init 5 = .ok (.sipush 144, 3) := by decide +kernel
theorem dX4_init_8 : decode cX4_init 8 = .ok (.newarray .int, 2) := by decide +kernel
theorem dX4_init_10 : decode cX4_init 10 = .ok (.putfield 11, 3) := by decide +kernel
theorem dX4_init_13 : decode cX4_init 13 = .ok (.aload_n 0, 1) := by decide +kernel
theorem dX4_init_14 : decode cX4_init 14 = .ok (.sipush 144, 3) := by decide +kernel
theorem dX4_init_17 : decode cX4_init 17 = .ok (.newarray .int, 2) := by decide +kernel
theorem dX4_init_19 : decode cX4_init 19 = .ok (.putfield 15, 3) := by decide +kernel
theorem dX4_init_22 : decode cX4_init 22 = .ok (.aload_n 0, 1) := by decide +kernel
theorem dX4_init_23 : decode cX4_init 23 = .ok (.sipush 144, 3) := by decide +kernel
theorem dX4_init_26 : decode cX4_init 26 = .ok (.newarray .int, 2) := by decide +kernel
theorem dX4_init_28 : decode cX4_init 28 = .ok (.putfield 18, 3) := by decide +kernel
theorem dX4_init_31 : decode cX4_init 31 = .ok (.aload_n 0, 1) := by decide +kernel
theorem dX4_init_32 : decode cX4_init 32 = .ok (.sipush 144, 3) := by decide +kernel
theorem dX4_init_35 : decode cX4_init 35 = .ok (.newarray .int, 2) := by decide +kernel
theorem dX4_init_37 : decode cX4_init 37 = .ok (.putfield 21, 3) := by decide +kernel
theorem dX4_init_40 : decode cX4_init 40 = .ok (.aload_n 0, 1) := by decide +kernel
theorem dX4_init_41 : decode cX4_init 41 = .ok (.iconst 0, 1) := by decide +kernel
theorem dX4_init_42 : decode cX4_init 42 = .ok (.putfield 24, 3) := by decide +kernel
theorem dX4_init_45 : decode cX4_init 45 = .ok (.aload_n 0, 1) := by decide +kernel
theorem dX4_init_46 : decode cX4_init 46 = .ok (.iconst (-1), 1) := by decide +kernel
theorem dX4_init_47 : decode cX4_init 47 = .ok (.putfield 28, 3) := by decide +kernel
theorem dX4_init_50 : decode cX4_init 50 = .ok (.return_, 1) := by decide +kernel
theorem dX4_fewest_0 : decode cX4_fewest 0 = .ok (.aload_n 0, 1) := by decide +kernel
theorem dX4_fewest_1 : decode cX4_fewest 1 = .ok (.iconst 0, 1) := by decide +kernel
theorem dX4_fewest_2 : decode cX4_fewest 2 = .ok (.putfield 24, 3) := by decide +kernel
theorem dX4_fewest_5 : decode cX4_fewest 5 = .ok (.aload_n 0, 1) := by decide +kernel
theorem dX4_fewest_6 : decode cX4_fewest 6 = .ok (.iconst (-1), 1) := by decide +kernel
theorem dX4_fewest_7 : decode cX4_fewest 7 = .ok (.putfield 28, 3) := by decide +kernel
theorem dX4_fewest_10 : decode cX4_fewest 10 = .ok (.iconst 0, 1) := by decide +kernel
theorem dX4_fewest_11 : decode cX4_fewest 11 = .ok (.istore 5, 2) := by decide +kernel
theorem dX4_fewest_13 : decode cX4_fewest 13 = .ok (.iload 5, 2) := by decide +kernel
theorem dX4_fewest_15 : decode cX4_fewest 15 = .ok (.sipush 144, 3) := by decide +kernel
theorem dX4_fewest_18 : decode cX4_fewest 18 = .ok (.if_icmp .ge 17, 3) := by decide +kernel
theorem dX4_fewest_21 : decode cX4_fewest 21 = .ok (.aload_n 0, 1) := by decide +kernel
theorem dX4_fewest_22 : decode cX4_fewest 22 = .ok (.getfield 15, 3) := by decide +kernel
theorem dX4_fewest_25 : decode cX4_fewest 25 = .ok (.iload 5, 2) := by decide +kernel
theorem dX4_fewest_27 : decode cX4_fewest 27 = .ok (.iconst (-1), 1) := by decide +kernel
theorem dX4_fewest_28 : decode cX4_fewest 28 = .ok (.iastore, 1) := by decide +kernel
theorem dX4_fewest_29 : decode cX4_fewest 29 = .ok (.iinc 5 1, 3) := by decide +kernel
theorem dX4_fewest_32 : decode cX4_fewest 32 = .ok (.goto (-19), 3) := by decide +kernel
theorem dX4_fewest_35 : decode cX4_fewest 35 = .ok (.aload_n 1, 1) := by decide +kernel
theorem dX4_fewest_36 : decode cX4_fewest 36 = .ok (.invokevirtual 31, 3) := by decide +kernel
theorem dX4_fewest_39 : decode cX4_fewest 39 = .ok (.iconst 1, 1) := by decide +kernel
theorem dX4_fewest_40 : decode cX4_fewest 40 = .ok (.isub, 1) := by decide +kernel
theorem dX4_fewest_41 : decode cX4_fewest 41 = .ok (.istore 5, 2) := by decide +kernel
theorem dX4_fewest_43 : decode cX4_fewest 43 = .ok (.aload_n 0, 1) := by decide +kernel
theorem dX4_fewest_44 : decode cX4_fewest 44 = .ok (.iload_n 3, 1) := by decide +kernel
theorem dX4_fewest_45 : decode cX4_fewest 45 = .ok (.iload 4, 2) := by decide +kernel
theorem dX4_fewest_47 : decode cX4_fewest 47 = .ok (.iconst (-1), 1) := by decide +kernel
theorem dX4_fewest_48 : decode cX4_fewest 48 = .ok (.iconst 0, 1) := by decide +kernel
theorem dX4_fewest_49 : decode cX4_fewest 49 = .ok (.iload 5, 2) := by decide +kernel
theorem dX4_fewest_51 : decode cX4_fewest 51 = .ok (.invokevirtual 37, 3) := by decide +kernel
theorem dX4_fewest_54 : decode cX4_fewest 54 = .ok (.iconst 0, 1) := by decide +kernel
theorem dX4_fewest_55 : decode cX4_fewest 55 = .ok (.istore 6, 2) := by decide +kernel
theorem dX4_fewest_57 : decode cX4_fewest 57 = .ok (.iload 6, 2) := by decide +kernel
theorem dX4_fewest_59 : decode cX4_fewest 59 = .ok (.aload_n 0, 1) := by decide +kernel
theorem dX4_fewest_60 : decode cX4_fewest 60 = .ok (.getfield 24, 3) := by decide +kernel
theorem dX4_fewest_63 : decode cX4_fewest 63 = .ok (.if_icmp .ge 43, 3) := by decide +kernel
theorem dX4_fewest_66 : decode cX4_fewest 66 = .ok (.iload 6, 2) := by decide +kernel
theorem dX4_fewest_68 : decode cX4_fewest 68 = .ok (.sipush 144, 3) := by decide +kernel
theorem dX4_fewest_71 : decode cX4_fewest 71 = .ok (.if_icmp .ge 35, 3) := by decide +kernel
theorem dX4_fewest_74 : decode cX4_fewest 74 = .ok (.aload_n 0, 1) := by decide +kernel
theorem dX4_fewest_75 : decode cX4_fewest 75 = .ok (.getfield 28, 3) := by decide +kernel
theorem dX4_fewest_78 : decode cX4_fewest 78 = .ok (.iconst (-1), 1) := by decide +kernel
theorem dX4_fewest_79 : decode cX4_fewest 79 = .ok (.if_icmp .ne 27, 3) := by decide +kernel
theorem dX4_fewest_82 : decode cX4_fewest 82 = .ok (.aload_n 0, 1) := by decide +kernel
theorem dX4_fewest_83 : decode cX4_fewest 83 = .ok (.aload_n 1, 1) := by decide +kernel
theorem dX4_fewest_84 : decode cX4_fewest 84 = .ok (.iload_n 2, 1) := by decide +kernel
theorem dX4_fewest_85 : decode cX4_fewest 85 = .ok (.invokestatic 41, 3) := by decide +kernel
theorem dX4_fewest_88 : decode cX4_fewest 88 = .ok (.aload_n 0, 1) := by decide +kernel
theorem dX4_fewest_89 : decode cX4_fewest 89 = .ok (.getfield 11, 3) := by decide +kernel
theorem dX4_fewest_92 : decode cX4_fewest 92 = .ok (.iload 6, 2) := by decide +kernel
theorem dX4_fewest_94 : decode cX4_fewest 94 = .ok (.iaload, 1) := by decide +kernel
theorem dX4_fewest_95 : decode cX4_fewest 95 = .ok (.iload 5, 2) := by decide +kernel
theorem dX4_fewest_97 : decode cX4_fewest 97 = .ok (.invokevirtual 45, 3) := by decide +kernel
theorem dX4_fewest_100 : decode cX4_fewest 100 = .ok (.iinc 6 1, 3) := by decide +kernel
theorem dX4_fewest_103 : decode cX4_fewest 103 = .ok (.goto (-46), 3) := by decide +kernel
theorem dX4_fewest_106 : decode cX4_fewest 106 = .ok (.aload_n 0, 1) := by decide +kernel
theorem dX4_fewest_107 : decode cX4_fewest 107 = .ok (.aload_n 0, 1) := by decide +kernel
theorem dX4_fewest_108 : decode cX4_fewest 108 = .ok (.getfield 28, 3) := by decide +kernel
theorem dX4_fewest_111 : decode cX4_fewest 111 = .ok (.invokevirtual 49, 3) := by decide +kernel
theorem dX4_fewest_114 : decode cX4_fewest 114 = .ok (.ireturn, 1) := by decide +kernel
theorem dX4_farOfStep_0 : decode cX4_farOfStep 0 = .ok (.aload_n 0, 1) := by decide +kernel
theorem dX4_farOfStep_1 : decode cX4_farOfStep 1 = .ok (.getfield 28, 3) := by decide +kernel
theorem dX4_farOfStep_4 : decode cX4_farOfStep 4 = .ok (.istore_n 2, 1) := by decide +kernel
theorem dX4_farOfStep_5 : decode cX4_farOfStep 5 = .ok (.aload_n 0, 1) := by decide +kernel
theorem dX4_farOfStep_6 : decode cX4_farOfStep 6 = .ok (.aload_n 0, 1) := by decide +kernel
theorem dX4_farOfStep_7 : decode cX4_farOfStep 7 = .ok (.getfield 28, 3) := by decide +kernel
theorem dX4_farOfStep_10 : decode cX4_farOfStep 10 = .ok (.invokevirtual 49, 3) := by decide +kernel
theorem dX4_farOfStep_13 : decode cX4_farOfStep 13 = .ok (.istore_n 3, 1) := by decide +kernel
theorem dX4_farOfStep_14 : decode cX4_farOfStep 14 = .ok (.iload_n 3, 1) := by decide +kernel
theorem dX4_farOfStep_15 : decode cX4_farOfStep 15 = .ok (.iload_n 1, 1) := by decide +kernel
theorem dX4_farOfStep_16 : decode cX4_farOfStep 16 = .ok (.if_icmp .le 23, 3) := by decide +kernel
theorem dX4_farOfStep_19 : decode cX4_farOfStep 19 = .ok (.iload_n 2, 1) := by decide +kernel
theorem dX4_farOfStep_20 : decode cX4_farOfStep 20 = .ok (.invokestatic 52, 3) := by decide +kernel
theorem dX4_farOfStep_23 : decode cX4_farOfStep 23 = .ok (.ifCond .eq 16, 3) := by decide +kernel
theorem dX4_farOfStep_26 : decode cX4_farOfStep 26 = .ok (.aload_n 0, 1) := by decide +kernel
theorem dX4_farOfStep_27 : decode cX4_farOfStep 27 = .ok (.getfield 18, 3) := by decide +kernel
theorem dX4_farOfStep_30 : decode cX4_farOfStep 30 = .ok (.iload_n 2, 1) := by decide +kernel
theorem dX4_farOfStep_31 : decode cX4_farOfStep 31 = .ok (.iaload, 1) := by decide +kernel
theorem dX4_farOfStep_32 : decode cX4_farOfStep 32 = .ok (.istore_n 2, 1) := by decide +kernel
theorem dX4_farOfStep_33 : decode cX4_farOfStep 33 = .ok (.iinc 3 (-1), 3) := by decide +kernel
theorem dX4_farOfStep_36 : decode cX4_farOfStep 36 = .ok (.goto (-22), 3) := by decide +kernel
theorem dX4_farOfStep_39 : decode cX4_farOfStep 39 = .ok (.iload_n 1, 1) := by decide +kernel
theorem dX4_farOfStep_40 : decode cX4_farOfStep 40 = .ok (.iconst 1, 1) := by decide +kernel
theorem dX4_farOfStep_41 : decode cX4_farOfStep 41 = .ok (.if_icmp .lt 29, 3) := by decide +kernel
theorem dX4_farOfStep_44 : decode cX4_farOfStep 44 = .ok (.iload_n 2, 1) := by decide +kernel
theorem dX4_farOfStep_45 : decode cX4_farOfStep 45 = .ok (.invokestatic 52, 3) := by decide +kernel
theorem dX4_farOfStep_48 : decode cX4_farOfStep 48 = .ok (.ifCond .eq 22, 3) := by decide +kernel
theorem dX4_farOfStep_51 : decode cX4_farOfStep 51 = .ok (.aload_n 0, 1) := by decide +kernel
theorem dX4_farOfStep_52 : decode cX4_farOfStep 52 = .ok (.getfield 15, 3) := by decide +kernel
theorem dX4_farOfStep_55 : decode cX4_farOfStep 55 = .ok (.iload_n 2, 1) := by decide +kernel
theorem dX4_farOfStep_56 : decode cX4_farOfStep 56 = .ok (.iaload, 1) := by decide +kernel
theorem dX4_farOfStep_57 : decode cX4_farOfStep 57 = .ok (.iload_n 1, 1) := by decide +kernel
theorem dX4_farOfStep_58 : decode cX4_farOfStep 58 = .ok (.if_icmp .ne 12, 3) := by decide +kernel
theorem dX4_farOfStep_61 : decode cX4_farOfStep 61 = .ok (.aload_n 0, 1) := by decide +kernel
theorem dX4_farOfStep_62 : decode cX4_farOfStep 62 = .ok (.getfield 21, 3) := by decide +kernel
theorem dX4_farOfStep_65 : decode cX4_farOfStep 65 = .ok (.iload_n 2, 1) := by decide +kernel
theorem dX4_farOfStep_66 : decode cX4_farOfStep 66 = .ok (.iaload, 1) := by decide +kernel
theorem dX4_farOfStep_67 : decode cX4_farOfStep 67 = .ok (.goto 4, 3) := by decide +kernel
end
section
theorem dX4_farOfStep_70 : decode cX4_farOfStep 70 = .ok (.iconst (-1), 1) := by decide +kernel
theorem dX4_farOfStep_71 : decode cX4_farOfStep 71 = .ok (.ireturn, 1) := by decide +kernel
theorem dX4_goOn_0 : decode cX4_goOn 0 = .ok (.aload_n 0, 1) := by decide +kernel
theorem dX4_goOn_1 : decode cX4_goOn 1 = .ok (.iload_n 3, 1) := by decide +kernel
theorem dX4_goOn_2 : decode cX4_goOn 2 = .ok (.invokevirtual 49, 3) := by decide +kernel
theorem dX4_goOn_5 : decode cX4_goOn 5 = .ok (.bipush 40, 2) := by decide +kernel
theorem dX4_goOn_7 : decode cX4_goOn 7 = .ok (.if_icmp .lt 4, 3) := by decide +kernel
theorem dX4_goOn_10 : decode cX4_goOn 10 = .ok (.return_, 1) := by decide +kernel
theorem dX4_goOn_11 : decode cX4_goOn 11 = .ok (.iload_n 3, 1) := by decide +kernel
theorem dX4_goOn_12 : decode cX4_goOn 12 = .ok (.bipush 12, 2) := by decide +kernel
theorem dX4_goOn_14 : decode cX4_goOn 14 = .ok (.idiv, 1) := by decide +kernel
theorem dX4_goOn_15 : decode cX4_goOn 15 = .ok (.istore 5, 2) := by decide +kernel
theorem dX4_goOn_17 : decode cX4_goOn 17 = .ok (.iload_n 3, 1) := by decide +kernel
theorem dX4_goOn_18 : decode cX4_goOn 18 = .ok (.bipush 12, 2) := by decide +kernel
theorem dX4_goOn_20 : decode cX4_goOn 20 = .ok (.irem, 1) := by decide +kernel
theorem dX4_goOn_21 : decode cX4_goOn 21 = .ok (.istore 6, 2) := by decide +kernel
theorem dX4_goOn_23 : decode cX4_goOn 23 = .ok (.iconst 0, 1) := by decide +kernel
theorem dX4_goOn_24 : decode cX4_goOn 24 = .ok (.istore 7, 2) := by decide +kernel
theorem dX4_goOn_26 : decode cX4_goOn 26 = .ok (.iload 7, 2) := by decide +kernel
theorem dX4_goOn_28 : decode cX4_goOn 28 = .ok (.iconst 3, 1) := by decide +kernel
theorem dX4_goOn_29 : decode cX4_goOn 29 = .ok (.if_icmp .gt 67, 3) := by decide +kernel
theorem dX4_goOn_32 : decode cX4_goOn 32 = .ok (.iload 5, 2) := by decide +kernel
theorem dX4_goOn_34 : decode cX4_goOn 34 = .ok (.iload 7, 2) := by decide +kernel
theorem dX4_goOn_36 : decode cX4_goOn 36 = .ok (.iadd, 1) := by decide +kernel
theorem dX4_goOn_37 : decode cX4_goOn 37 = .ok (.iload 4, 2) := by decide +kernel
theorem dX4_goOn_39 : decode cX4_goOn 39 = .ok (.if_icmp .gt 57, 3) := by decide +kernel
theorem dX4_goOn_42 : decode cX4_goOn 42 = .ok (.aload_n 0, 1) := by decide +kernel
theorem dX4_goOn_43 : decode cX4_goOn 43 = .ok (.getfield 28, 3) := by decide +kernel
theorem dX4_goOn_46 : decode cX4_goOn 46 = .ok (.iconst (-1), 1) := by decide +kernel
theorem dX4_goOn_47 : decode cX4_goOn 47 = .ok (.if_icmp .ne 49, 3) := by decide +kernel
theorem dX4_goOn_50 : decode cX4_goOn 50 = .ok (.aload_n 1, 1) := by decide +kernel
theorem dX4_goOn_51 : decode cX4_goOn 51 = .ok (.iload 5, 2) := by decide +kernel
theorem dX4_goOn_53 : decode cX4_goOn 53 = .ok (.iload 7, 2) := by decide +kernel
theorem dX4_goOn_55 : decode cX4_goOn 55 = .ok (.iadd, 1) := by decide +kernel
theorem dX4_goOn_56 : decode cX4_goOn 56 = .ok (.invokevirtual 56, 3) := by decide +kernel
theorem dX4_goOn_59 : decode cX4_goOn 59 = .ok (.iload 6, 2) := by decide +kernel
theorem dX4_goOn_61 : decode cX4_goOn 61 = .ok (.iload 7, 2) := by decide +kernel
theorem dX4_goOn_63 : decode cX4_goOn 63 = .ok (.invokestatic 59, 3) := by decide +kernel
theorem dX4_goOn_66 : decode cX4_goOn 66 = .ok (.istore 8, 2) := by decide +kernel
theorem dX4_goOn_68 : decode cX4_goOn 68 = .ok (.iload 8, 2) := by decide +kernel
theorem dX4_goOn_70 : decode cX4_goOn 70 = .ok (.iload_n 2, 1) := by decide +kernel
theorem dX4_goOn_71 : decode cX4_goOn 71 = .ok (.if_icmp .gt 19, 3) := by decide +kernel
theorem dX4_goOn_74 : decode cX4_goOn 74 = .ok (.aload_n 0, 1) := by decide +kernel
theorem dX4_goOn_75 : decode cX4_goOn 75 = .ok (.iload 5, 2) := by decide +kernel
theorem dX4_goOn_77 : decode cX4_goOn 77 = .ok (.iload 7, 2) := by decide +kernel
theorem dX4_goOn_79 : decode cX4_goOn 79 = .ok (.iadd, 1) := by decide +kernel
theorem dX4_goOn_80 : decode cX4_goOn 80 = .ok (.iload 8, 2) := by decide +kernel
theorem dX4_goOn_82 : decode cX4_goOn 82 = .ok (.iload_n 3, 1) := by decide +kernel
theorem dX4_goOn_83 : decode cX4_goOn 83 = .ok (.iload 7, 2) := by decide +kernel
theorem dX4_goOn_85 : decode cX4_goOn 85 = .ok (.iload 4, 2) := by decide +kernel
theorem dX4_goOn_87 : decode cX4_goOn 87 = .ok (.invokevirtual 37, 3) := by decide +kernel
theorem dX4_goOn_90 : decode cX4_goOn 90 = .ok (.iinc 7 1, 3) := by decide +kernel
theorem dX4_goOn_93 : decode cX4_goOn 93 = .ok (.goto (-67), 3) := by decide +kernel
theorem dX4_goOn_96 : decode cX4_goOn 96 = .ok (.return_, 1) := by decide +kernel
theorem dX4_reach_0 : decode cX4_reach 0 = .ok (.iload_n 1, 1) := by decide +kernel
theorem dX4_reach_1 : decode cX4_reach 1 = .ok (.bipush 12, 2) := by decide +kernel
theorem dX4_reach_3 : decode cX4_reach 3 = .ok (.imul, 1) := by decide +kernel
theorem dX4_reach_4 : decode cX4_reach 4 = .ok (.iload_n 2, 1) := by decide +kernel
theorem dX4_reach_5 : decode cX4_reach 5 = .ok (.iadd, 1) := by decide +kernel
theorem dX4_reach_6 : decode cX4_reach 6 = .ok (.istore 6, 2) := by decide +kernel
theorem dX4_reach_8 : decode cX4_reach 8 = .ok (.iload 6, 2) := by decide +kernel
theorem dX4_reach_10 : decode cX4_reach 10 = .ok (.invokestatic 52, 3) := by decide +kernel
theorem dX4_reach_13 : decode cX4_reach 13 = .ok (.ifCond .eq 31, 3) := by decide +kernel
theorem dX4_reach_16 : decode cX4_reach 16 = .ok (.aload_n 0, 1) := by decide +kernel
theorem dX4_reach_17 : decode cX4_reach 17 = .ok (.getfield 15, 3) := by decide +kernel
theorem dX4_reach_20 : decode cX4_reach 20 = .ok (.iload 6, 2) := by decide +kernel
theorem dX4_reach_22 : decode cX4_reach 22 = .ok (.iaload, 1) := by decide +kernel
theorem dX4_reach_23 : decode cX4_reach 23 = .ok (.iconst (-1), 1) := by decide +kernel
theorem dX4_reach_24 : decode cX4_reach 24 = .ok (.if_icmp .ne 20, 3) := by decide +kernel
theorem dX4_reach_27 : decode cX4_reach 27 = .ok (.aload_n 0, 1) := by decide +kernel
theorem dX4_reach_28 : decode cX4_reach 28 = .ok (.getfield 24, 3) := by decide +kernel
theorem dX4_reach_31 : decode cX4_reach 31 = .ok (.ifCond .lt 13, 3) := by decide +kernel
theorem dX4_reach_34 : decode cX4_reach 34 = .ok (.aload_n 0, 1) := by decide +kernel
theorem dX4_reach_35 : decode cX4_reach 35 = .ok (.getfield 24, 3) := by decide +kernel
theorem dX4_reach_38 : decode cX4_reach 38 = .ok (.sipush 144, 3) := by decide +kernel
theorem dX4_reach_41 : decode cX4_reach 41 = .ok (.if_icmp .lt 4, 3) := by decide +kernel
theorem dX4_reach_44 : decode cX4_reach 44 = .ok (.return_, 1) := by decide +kernel
theorem dX4_reach_45 : decode cX4_reach 45 = .ok (.aload_n 0, 1) := by decide +kernel
theorem dX4_reach_46 : decode cX4_reach 46 = .ok (.getfield 15, 3) := by decide +kernel
theorem dX4_reach_49 : decode cX4_reach 49 = .ok (.iload 6, 2) := by decide +kernel
theorem dX4_reach_51 : decode cX4_reach 51 = .ok (.aload_n 0, 1) := by decide +kernel
theorem dX4_reach_52 : decode cX4_reach 52 = .ok (.iload_n 3, 1) := by decide +kernel
theorem dX4_reach_53 : decode cX4_reach 53 = .ok (.invokevirtual 49, 3) := by decide +kernel
theorem dX4_reach_56 : decode cX4_reach 56 = .ok (.iconst 1, 1) := by decide +kernel
theorem dX4_reach_57 : decode cX4_reach 57 = .ok (.iadd, 1) := by decide +kernel
theorem dX4_reach_58 : decode cX4_reach 58 = .ok (.iastore, 1) := by decide +kernel
theorem dX4_reach_59 : decode cX4_reach 59 = .ok (.aload_n 0, 1) := by decide +kernel
theorem dX4_reach_60 : decode cX4_reach 60 = .ok (.getfield 18, 3) := by decide +kernel
theorem dX4_reach_63 : decode cX4_reach 63 = .ok (.iload 6, 2) := by decide +kernel
theorem dX4_reach_65 : decode cX4_reach 65 = .ok (.iload_n 3, 1) := by decide +kernel
theorem dX4_reach_66 : decode cX4_reach 66 = .ok (.iastore, 1) := by decide +kernel
theorem dX4_reach_67 : decode cX4_reach 67 = .ok (.aload_n 0, 1) := by decide +kernel
theorem dX4_reach_68 : decode cX4_reach 68 = .ok (.getfield 21, 3) := by decide +kernel
theorem dX4_reach_71 : decode cX4_reach 71 = .ok (.iload 6, 2) := by decide +kernel
theorem dX4_reach_73 : decode cX4_reach 73 = .ok (.iload 4, 2) := by decide +kernel
theorem dX4_reach_75 : decode cX4_reach 75 = .ok (.iastore, 1) := by decide +kernel
theorem dX4_reach_76 : decode cX4_reach 76 = .ok (.aload_n 0, 1) := by decide +kernel
theorem dX4_reach_77 : decode cX4_reach 77 = .ok (.getfield 11, 3) := by decide +kernel
theorem dX4_reach_80 : decode cX4_reach 80 = .ok (.aload_n 0, 1) := by decide +kernel
theorem dX4_reach_81 : decode cX4_reach 81 = .ok (.getfield 24, 3) := by decide +kernel
theorem dX4_reach_84 : decode cX4_reach 84 = .ok (.iload 6, 2) := by decide +kernel
theorem dX4_reach_86 : decode cX4_reach 86 = .ok (.iastore, 1) := by decide +kernel
theorem dX4_reach_87 : decode cX4_reach 87 = .ok (.aload_n 0, 1) := by decide +kernel
theorem dX4_reach_88 : decode cX4_reach 88 = .ok (.dup, 1) := by decide +kernel
theorem dX4_reach_89 : decode cX4_reach 89 = .ok (.getfield 24, 3) := by decide +kernel
theorem dX4_reach_92 : decode cX4_reach 92 = .ok (.iconst 1, 1) := by decide +kernel
theorem dX4_reach_93 : decode cX4_reach 93 = .ok (.iadd, 1) := by decide +kernel
theorem dX4_reach_94 : decode cX4_reach 94 = .ok (.putfield 24, 3) := by decide +kernel
theorem dX4_reach_97 : decode cX4_reach 97 = .ok (.iload_n 1, 1) := by decide +kernel
theorem dX4_reach_98 : decode cX4_reach 98 = .ok (.iload 5, 2) := by decide +kernel
theorem dX4_reach_100 : decode cX4_reach 100 = .ok (.if_icmp .ne 9, 3) := by decide +kernel
theorem dX4_reach_103 : decode cX4_reach 103 = .ok (.aload_n 0, 1) := by decide +kernel
theorem dX4_reach_104 : decode cX4_reach 104 = .ok (.iload 6, 2) := by decide +kernel
theorem dX4_reach_106 : decode cX4_reach 106 = .ok (.putfield 28, 3) := by decide +kernel
theorem dX4_reach_109 : decode cX4_reach 109 = .ok (.return_, 1) := by decide +kernel
theorem dX4_stepsOf_0 : decode cX4_stepsOf 0 = .ok (.iload_n 1, 1) := by decide +kernel
theorem dX4_stepsOf_1 : decode cX4_stepsOf 1 = .ok (.invokestatic 52, 3) := by decide +kernel
theorem dX4_stepsOf_4 : decode cX4_stepsOf 4 = .ok (.ifCond .eq 12, 3) := by decide +kernel
theorem dX4_stepsOf_7 : decode cX4_stepsOf 7 = .ok (.aload_n 0, 1) := by decide +kernel
theorem dX4_stepsOf_8 : decode cX4_stepsOf 8 = .ok (.getfield 15, 3) := by decide +kernel
theorem dX4_stepsOf_11 : decode cX4_stepsOf 11 = .ok (.iload_n 1, 1) := by decide +kernel
theorem dX4_stepsOf_12 : decode cX4_stepsOf 12 = .ok (.iaload, 1) := by decide +kernel
theorem dX4_stepsOf_13 : decode cX4_stepsOf 13 = .ok (.goto 4, 3) := by decide +kernel
theorem dX4_stepsOf_16 : decode cX4_stepsOf 16 = .ok (.iconst (-1), 1) := by decide +kernel
theorem dX4_stepsOf_17 : decode cX4_stepsOf 17 = .ok (.ireturn, 1) := by decide +kernel
theorem dX4_isSpot_0 : decode cX4_isSpot 0 = .ok (.iload_n 0, 1) := by decide +kernel
theorem dX4_isSpot_1 : decode cX4_isSpot 1 = .ok (.ifCond .lt 14, 3) := by decide +kernel
theorem dX4_isSpot_4 : decode cX4_isSpot 4 = .ok (.iload_n 0, 1) := by decide +kernel
theorem dX4_isSpot_5 : decode cX4_isSpot 5 = .ok (.sipush 144, 3) := by decide +kernel
theorem dX4_isSpot_8 : decode cX4_isSpot 8 = .ok (.if_icmp .ge 7, 3) := by decide +kernel
theorem dX4_isSpot_11 : decode cX4_isSpot 11 = .ok (.iconst 1, 1) := by decide +kernel
theorem dX4_isSpot_12 : decode cX4_isSpot 12 = .ok (.goto 4, 3) := by decide +kernel
theorem dX4_isSpot_15 : decode cX4_isSpot 15 = .ok (.iconst 0, 1) := by decide +kernel
theorem dX4_isSpot_16 : decode cX4_isSpot 16 = .ok (.ireturn, 1) := by decide +kernel
theorem dX5_init_0 : decode cX5_init 0 = .ok (.aload_n 0, 1) := by decide +kernel
theorem dX5_init_1 : decode cX5_init 1 = .ok (.invokespecial 1, 3) := by decide +kernel
theorem dX5_init_4 : decode cX5_init 4 = .ok (.aload_n 0, 1) := by decide +kernel
theorem dX5_init_5 : decode cX5_init 5 = .ok (.new 7, 3) := by decide +kernel
theorem dX5_init_8 : decode cX5_init 8 = .ok (.dup, 1) := by decide +kernel
theorem dX5_init_9 : decode cX5_init 9 = .ok (.invokespecial 9, 3) := by decide +kernel
theorem dX5_init_12 : decode cX5_init 12 = .ok (.putfield 10, 3) := by decide +kernel
theorem dX5_init_15 : decode cX5_init 15 = .ok (.aload_n 0, 1) := by decide +kernel
theorem dX5_init_16 : decode cX5_init 16 = .ok (.new 16, 3) := by decide +kernel
theorem dX5_init_19 : decode cX5_init 19 = .ok (.dup, 1) := by decide +kernel
theorem dX5_init_20 : decode cX5_init 20 = .ok (.invokespecial 18, 3) := by decide +kernel
theorem dX5_init_23 : decode cX5_init 23 = .ok (.putfield 19, 3) := by decide +kernel
theorem dX5_init_26 : decode cX5_init 26 = .ok (.aload_n 0, 1) := by decide +kernel
theorem dX5_init_27 : decode cX5_init 27 = .ok (.iconst 0, 1) := by decide +kernel
theorem dX5_init_28 : decode cX5_init 28 = .ok (.putfield 23, 3) := by decide +kernel
theorem dX5_init_31 : decode cX5_init 31 = .ok (.aload_n 0, 1) := by decide +kernel
theorem dX5_init_32 : decode cX5_init 32 = .ok (.iconst 0, 1) := by decide +kernel
theorem dX5_init_33 : decode cX5_init 33 = .ok (.putfield 27, 3) := by decide +kernel
theorem dX5_init_36 : decode cX5_init 36 = .ok (.aload_n 0, 1) := by decide +kernel
theorem dX5_init_37 : decode cX5_init 37 = .ok (.iconst 0, 1) := by decide +kernel
theorem dX5_init_38 : decode cX5_init 38 = .ok (.putfield 30, 3) := by decide +kernel
theorem dX5_init_41 : decode cX5_init 41 = .ok (.aload_n 0, 1) := by decide +kernel
theorem dX5_init_42 : decode cX5_init 42 = .ok (.iconst 0, 1) := by decide +kernel
theorem dX5_init_43 : decode cX5_init 43 = .ok (.putfield 33, 3) := by decide +kernel
theorem dX5_init_46 : decode cX5_init 46 = .ok (.aload_n 0, 1) := by decide +kernel
theorem dX5_init_47 : decode cX5_init 47 = .ok (.iconst 0, 1) := by decide +kernel
theorem dX5_init_48 : decode cX5_init 48 = .ok (.putfield 36, 3) := by decide +kernel
theorem dX5_init_51 : decode cX5_init 51 = .ok (.return_, 1) := by decide +kernel
theorem dX5_begin_0 : decode cX5_begin 0 = .ok (.aload_n 0, 1) := by decide +kernel
theorem dX5_begin_1 : decode cX5_begin 1 = .ok (.getfield 10, 3) := by decide +kernel
theorem dX5_begin_4 : decode cX5_begin 4 = .ok (.aload_n 1, 1) := by decide +kernel
theorem dX5_begin_5 : decode cX5_begin 5 = .ok (.invokevirtual 39, 3) := by decide +kernel
theorem dX5_begin_8 : decode cX5_begin 8 = .ok (.aload_n 0, 1) := by decide +kernel
theorem dX5_begin_9 : decode cX5_begin 9 = .ok (.getfield 19, 3) := by decide +kernel
theorem dX5_begin_12 : decode cX5_begin 12 = .ok (.invokevirtual 43, 3) := by decide +kernel
theorem dX5_begin_15 : decode cX5_begin 15 = .ok (.pop, 1) := by decide +kernel
theorem dX5_begin_16 : decode cX5_begin 16 = .ok (.aload_n 0, 1) := by decide +kernel
theorem dX5_begin_17 : decode cX5_begin 17 = .ok (.aload_n 1, 1) := by decide +kernel
theorem dX5_begin_18 : decode cX5_begin 18 = .ok (.invokevirtual 47, 3) := by decide +kernel
theorem dX5_begin_21 : decode cX5_begin 21 = .ok (.putfield 23, 3) := by decide +kernel
theorem dX5_begin_24 : decode cX5_begin 24 = .ok (.aload_n 0, 1) := by decide +kernel
theorem dX5_begin_25 : decode cX5_begin 25 = .ok (.iconst 0, 1) := by decide +kernel
theorem dX5_begin_26 : decode cX5_begin 26 = .ok (.putfield 33, 3) := by decide +kernel
theorem dX5_begin_29 : decode cX5_begin 29 = .ok (.aload_n 0, 1) := by decide +kernel
theorem dX5_begin_30 : decode cX5_begin 30 = .ok (.iconst 0, 1) := by decide +kernel
theorem dX5_begin_31 : decode cX5_begin 31 = .ok (.putfield 36, 3) := by decide +kernel
theorem dX5_begin_34 : decode cX5_begin 34 = .ok (.aload_n 0, 1) := by decide +kernel
theorem dX5_begin_35 : decode cX5_begin 35 = .ok (.invokevirtual 51, 3) := by decide +kernel
theorem dX5_begin_38 : decode cX5_begin 38 = .ok (.return_, 1) := by decide +kernel
theorem dX5_copyFrom_0 : decode cX5_copyFrom 0 = .ok (.aload_n 0, 1) := by decide +kernel
theorem dX5_copyFrom_1 : decode cX5_copyFrom 1 = .ok (.getfield 10, 3) := by decide +kernel
theorem dX5_copyFrom_4 : decode cX5_copyFrom 4 = .ok (.aload_n 1, 1) := by decide +kernel
theorem dX5_copyFrom_5 : decode cX5_copyFrom 5 = .ok (.getfield 10, 3) := by decide +kernel
theorem dX5_copyFrom_8 : decode cX5_copyFrom 8 = .ok (.invokevirtual 54, 3) := by decide +kernel
theorem dX5_copyFrom_11 : decode cX5_copyFrom 11 = .ok (.aload_n 0, 1) := by decide +kernel
theorem dX5_copyFrom_12 : decode cX5_copyFrom 12 = .ok (.getfield 19, 3) := by decide +kernel
theorem dX5_copyFrom_15 : decode cX5_copyFrom 15 = .ok (.aload_n 1, 1) := by decide +kernel
theorem dX5_copyFrom_16 : decode cX5_copyFrom 16 = .ok (.getfield 19, 3) := by decide +kernel
theorem dX5_copyFrom_19 : decode cX5_copyFrom 19 = .ok (.invokevirtual 58, 3) := by decide +kernel
theorem dX5_copyFrom_22 : decode cX5_copyFrom 22 = .ok (.aload_n 0, 1) := by decide +kernel
theorem dX5_copyFrom_23 : decode cX5_copyFrom 23 = .ok (.aload_n 1, 1) := by decide +kernel
theorem dX5_copyFrom_24 : decode cX5_copyFrom 24 = .ok (.getfield 23, 3) := by decide +kernel
theorem dX5_copyFrom_27 : decode cX5_copyFrom 27 = .ok (.putfield 23, 3) := by decide +kernel
theorem dX5_copyFrom_30 : decode cX5_copyFrom 30 = .ok (.aload_n 0, 1) := by decide +kernel
theorem dX5_copyFrom_31 : decode cX5_copyFrom 31 = .ok (.aload_n 1, 1) := by decide +kernel
theorem dX5_copyFrom_32 : decode cX5_copyFrom 32 = .ok (.getfield 27, 3) := by decide +kernel
theorem dX5_copyFrom_35 : decode cX5_copyFrom 35 = .ok (.putfield 27, 3) := by decide +kernel
theorem dX5_copyFrom_38 : decode cX5_copyFrom 38 = .ok (.aload_n 0, 1) := by decide +kernel
theorem dX5_copyFrom_39 : decode cX5_copyFrom 39 = .ok (.aload_n 1, 1) := by decide +kernel
theorem dX5_copyFrom_40 : decode cX5_copyFrom 40 = .ok (.getfield 30, 3) := by decide +kernel
theorem dX5_copyFrom_43 : decode cX5_copyFrom 43 = .ok (.putfield 30, 3) := by decide +kernel
theorem dX5_copyFrom_46 : decode cX5_copyFrom 46 = .ok (.aload_n 0, 1) := by decide +kernel
theorem dX5_copyFrom_47 : decode cX5_copyFrom 47 = .ok (.aload_n 1, 1) := by decide +kernel
theorem dX5_copyFrom_48 : decode cX5_copyFrom 48 = .ok (.getfield 33, 3) := by decide +kernel
theorem dX5_copyFrom_51 : decode cX5_copyFrom 51 = .ok (.putfield 33, 3) := by decide +kernel
theorem dX5_copyFrom_54 : decode cX5_copyFrom 54 = .ok (.aload_n 0, 1) := by decide +kernel
theorem dX5_copyFrom_55 : decode cX5_copyFrom 55 = .ok (.aload_n 1, 1) := by decide +kernel
theorem dX5_copyFrom_56 : decode cX5_copyFrom 56 = .ok (.getfield 36, 3) := by decide +kernel
theorem dX5_copyFrom_59 : decode cX5_copyFrom 59 = .ok (.putfield 36, 3) := by decide +kernel
theorem dX5_copyFrom_62 : decode cX5_copyFrom 62 = .ok (.return_, 1) := by decide +kernel
theorem dX5_changeHeight_0 : decode cX5_changeHeight 0 = .ok (.aload_n 0, 1) := by decide +kernel
theorem dX5_changeHeight_1 : decode cX5_changeHeight 1 = .ok (.getfield 23, 3) := by decide +kernel
theorem dX5_changeHeight_4 : decode cX5_changeHeight 4 = .ok (.istore_n 2, 1) := by decide +kernel
theorem dX5_changeHeight_5 : decode cX5_changeHeight 5 = .ok (.aload_n 0, 1) := by decide +kernel
theorem dX5_changeHeight_6 : decode cX5_changeHeight 6 = .ok (.iload_n 1, 1) := by decide +kernel
theorem dX5_changeHeight_7 : decode cX5_changeHeight 7 = .ok (.putfield 23, 3) := by decide +kernel
theorem dX5_changeHeight_10 : decode cX5_changeHeight 10 = .ok (.aload_n 0, 1) := by decide +kernel
theorem dX5_changeHeight_11 : decode cX5_changeHeight 11 = .ok (.invokevirtual 51, 3) := by decide +kernel
theorem dX5_changeHeight_14 : decode cX5_changeHeight 14 = .ok (.iload_n 2, 1) := by decide +kernel
theorem dX5_changeHeight_15 : decode cX5_changeHeight 15 = .ok (.ireturn, 1) := by decide +kernel
theorem dX5_swayBy_0 : decode cX5_swayBy 0 = .ok (.aload_n 0, 1) := by decide +kernel
theorem dX5_swayBy_1 : decode cX5_swayBy 1 = .ok (.getfield 10, 3) := by decide +kernel
theorem dX5_swayBy_4 : decode cX5_swayBy 4 = .ok (.aload_n 0, 1) := by decide +kernel
theorem dX5_swayBy_5 : decode cX5_swayBy 5 = .ok (.getfield 27, 3) := by decide +kernel
theorem dX5_swayBy_8 : decode cX5_swayBy 8 = .ok (.iload_n 1, 1) := by decide +kernel
theorem dX5_swayBy_9 : decode cX5_swayBy 9 = .ok (.iadd, 1) := by decide +kernel
theorem dX5_swayBy_10 : decode cX5_swayBy 10 = .ok (.invokevirtual 61, 3) := by decide +kernel
theorem dX5_swayBy_13 : decode cX5_swayBy 13 = .ok (.aload_n 0, 1) := by decide +kernel
theorem dX5_swayBy_14 : decode cX5_swayBy 14 = .ok (.getfield 30, 3) := by decide +kernel
theorem dX5_swayBy_17 : decode cX5_swayBy 17 = .ok (.iload_n 1, 1) := by decide +kernel
theorem dX5_swayBy_18 : decode cX5_swayBy 18 = .ok (.invokestatic 65, 3) := by decide +kernel
theorem dX5_swayBy_21 : decode cX5_swayBy 21 = .ok (.ireturn, 1) := by decide +kernel
theorem dX5_go_0 : decode cX5_go 0 = .ok (.aload_n 0, 1) := by decide +kernel
theorem dX5_go_1 : decode cX5_go 1 = .ok (.iload_n 1, 1) := by decide +kernel
theorem dX5_go_2 : decode cX5_go 2 = .ok (.invokevirtual 71, 3) := by decide +kernel
theorem dX5_go_5 : decode cX5_go 5 = .ok (.istore_n 2, 1) := by decide +kernel
theorem dX5_go_6 : decode cX5_go 6 = .ok (.aload_n 0, 1) := by decide +kernel
theorem dX5_go_7 : decode cX5_go 7 = .ok (.dup, 1) := by decide +kernel
theorem dX5_go_8 : decode cX5_go 8 = .ok (.getfield 33, 3) := by decide +kernel
theorem dX5_go_11 : decode cX5_go 11 = .ok (.iconst 1, 1) := by decide +kernel
theorem dX5_go_12 : decode cX5_go 12 = .ok (.iadd, 1) := by decide +kernel
theorem dX5_go_13 : decode cX5_go 13 = .ok (.putfield 33, 3) := by decide +kernel
theorem dX5_go_16 : decode cX5_go 16 = .ok (.iload_n 2, 1) := by decide +kernel
theorem dX5_go_17 : decode cX5_go 17 = .ok (.aload_n 0, 1) := by decide +kernel
theorem dX5_go_18 : decode cX5_go 18 = .ok (.getfield 23, 3) := by decide +kernel
theorem dX5_go_21 : decode cX5_go 21 = .ok (.invokestatic 74, 3) := by decide +kernel
theorem dX5_go_24 : decode cX5_go 24 = .ok (.if_icmp .le 19, 3) := by decide +kernel
theorem dX5_go_27 : decode cX5_go 27 = .ok (.aload_n 0, 1) := by decide +kernel
theorem dX5_go_28 : decode cX5_go 28 = .ok (.dup, 1) := by decide +kernel
theorem dX5_go_29 : decode cX5_go 29 = .ok (.getfield 36, 3) := by decide +kernel
theorem dX5_go_32 : decode cX5_go 32 = .ok (.iconst 1, 1) := by decide +kernel
theorem dX5_go_33 : decode cX5_go 33 = .ok (.iadd, 1) := by decide +kernel
theorem dX5_go_34 : decode cX5_go 34 = .ok (.putfield 36, 3) := by decide +kernel
theorem dX5_go_37 : decode cX5_go 37 = .ok (.aload_n 0, 1) := by decide +kernel
theorem dX5_go_38 : decode cX5_go 38 = .ok (.invokevirtual 51, 3) := by decide +kernel
theorem dX5_go_41 : decode cX5_go 41 = .ok (.iconst 0, 1) := by decide +kernel
theorem dX5_go_42 : decode cX5_go 42 = .ok (.ireturn, 1) := by decide +kernel
theorem dX5_go_43 : decode cX5_go 43 = .ok (.aload_n 0, 1) := by decide +kernel
theorem dX5_go_44 : decode cX5_go 44 = .ok (.dup, 1) := by decide +kernel
theorem dX5_go_45 : decode cX5_go 45 = .ok (.getfield 27, 3) := by decide +kernel
theorem dX5_go_48 : decode cX5_go 48 = .ok (.iload_n 1, 1) := by decide +kernel
theorem dX5_go_49 : decode cX5_go 49 = .ok (.iadd, 1) := by decide +kernel
theorem dX5_go_50 : decode cX5_go 50 = .ok (.putfield 27, 3) := by decide +kernel
theorem dX5_go_53 : decode cX5_go 53 = .ok (.aload_n 0, 1) := by decide +kernel
theorem dX5_go_54 : decode cX5_go 54 = .ok (.iload_n 2, 1) := by decide +kernel
theorem dX5_go_55 : decode cX5_go 55 = .ok (.putfield 30, 3) := by decide +kernel
theorem dX5_go_58 : decode cX5_go 58 = .ok (.iconst 1, 1) := by decide +kernel
theorem dX5_go_59 : decode cX5_go 59 = .ok (.ireturn, 1) := by decide +kernel
theorem dX5_race_0 : decode cX5_race 0 = .ok (.iload_n 2, 1) := by decide +kernel
theorem dX5_race_1 : decode cX5_race 1 = .ok (.i2l, 1) := by decide +kernel
theorem dX5_race_2 : decode cX5_race 2 = .ok (.lstore_n 3, 1) := by decide +kernel
theorem dX5_race_3 : decode cX5_race 3 = .ok (.iconst 0, 1) := by decide +kernel
theorem dX5_race_4 : decode cX5_race 4 = .ok (.istore 5, 2) := by decide +kernel
theorem dX5_race_6 : decode cX5_race 6 = .ok (.iload 5, 2) := by decide +kernel
theorem dX5_race_8 : decode cX5_race 8 = .ok (.iload_n 1, 1) := by decide +kernel
theorem dX5_race_9 : decode cX5_race 9 = .ok (.if_icmp .ge 58, 3) := by decide +kernel
theorem dX5_race_12 : decode cX5_race 12 = .ok (.ldc2_w 79, 3) := by decide +kernel
theorem dX5_race_15 : decode cX5_race 15 = .ok (.lload_n 3, 1) := by decide +kernel
theorem dX5_race_16 : decode cX5_race 16 = .ok (.lmul, 1) := by decide +kernel
theorem dX5_race_17 : decode cX5_race 17 = .ok (.ldc2_w 81, 3) := by decide +kernel
theorem dX5_race_20 : decode cX5_race 20 = .ok (.ladd, 1) := by decide +kernel
theorem dX5_race_21 : decode cX5_race 21 = .ok (.ldc2_w 83, 3) := by decide +kernel
theorem dX5_race_24 : decode cX5_race 24 = .ok (.land, 1) := by decide +kernel
theorem dX5_race_25 : decode cX5_race 25 = .ok (.lstore_n 3, 1) := by decide +kernel
theorem dX5_race_26 : decode cX5_race 26 = .ok (.lload_n 3, 1) := by decide +kernel
theorem dX5_race_27 : decode cX5_race 27 = .ok (.bipush 16, 2) := by decide +kernel
theorem dX5_race_29 : decode cX5_race 29 = .ok (.lshr, 1) := by decide +kernel
theorem dX5_race_30 : decode cX5_race 30 = .ok (.ldc2_w 85, 3) := by decide +kernel
theorem dX5_race_33 : decode cX5_race 33 = .ok (.land, 1) := by decide +kernel
theorem dX5_race_34 : decode cX5_race 34 = .ok (.l2i, 1) := by decide +kernel
theorem dX5_race_35 : decode cX5_race 35 = .ok (.istore 6, 2) := by decide +kernel
theorem dX5_race_37 : decode cX5_race 37 = .ok (.aload_n 0, 1) := by decide +kernel
theorem dX5_race_38 : decode cX5_race 38 = .ok (.iload 6, 2) := by decide +kernel
theorem dX5_race_40 : decode cX5_race 40 = .ok (.aload_n 0, 1) := by decide +kernel
theorem dX5_race_41 : decode cX5_race 41 = .ok (.getfield 10, 3) := by decide +kernel
theorem dX5_race_44 : decode cX5_race 44 = .ok (.invokevirtual 87, 3) := by decide +kernel
theorem dX5_race_47 : decode cX5_race 47 = .ok (.iconst 1, 1) := by decide +kernel
theorem dX5_race_48 : decode cX5_race 48 = .ok (.isub, 1) := by decide +kernel
theorem dX5_race_49 : decode cX5_race 49 = .ok (.aload_n 0, 1) := by decide +kernel
theorem dX5_race_50 : decode cX5_race 50 = .ok (.getfield 27, 3) := by decide +kernel
theorem dX5_race_53 : decode cX5_race 53 = .ok (.isub, 1) := by decide +kernel
theorem dX5_race_54 : decode cX5_race 54 = .ok (.invokestatic 90, 3) := by decide +kernel
theorem dX5_race_57 : decode cX5_race 57 = .ok (.invokevirtual 96, 3) := by decide +kernel
theorem dX5_race_60 : decode cX5_race 60 = .ok (.pop, 1) := by decide +kernel
theorem dX5_race_61 : decode cX5_race 61 = .ok (.iinc 5 1, 3) := by decide +kernel
theorem dX5_race_64 : decode cX5_race 64 = .ok (.goto (-58), 3) := by decide +kernel
theorem dX5_race_67 : decode cX5_race 67 = .ok (.lload_n 3, 1) := by decide +kernel
theorem dX5_race_68 : decode cX5_race 68 = .ok (.l2i, 1) := by decide +kernel
theorem dX5_race_69 : decode cX5_race 69 = .ok (.ireturn, 1) := by decide +kernel
theorem dX5_backToStart_0 : decode cX5_backToStart 0 = .ok (.aload_n 0, 1) := by decide +kernel
theorem dX5_backToStart_1 : decode cX5_backToStart 1 = .ok (.iconst 0, 1) := by decide +kernel
theorem dX5_backToStart_2 : decode cX5_backToStart 2 = .ok (.putfield 27, 3) := by decide +kernel
theorem dX5_backToStart_5 : decode cX5_backToStart 5 = .ok (.aload_n 0, 1) := by decide +kernel
theorem dX5_backToStart_6 : decode cX5_backToStart 6 = .ok (.iconst 0, 1) := by decide +kernel
theorem dX5_backToStart_7 : decode cX5_backToStart 7 = .ok (.putfield 30, 3) := by decide +kernel
theorem dX5_backToStart_10 : decode cX5_backToStart 10 = .ok (.return_, 1) := by decide +kernel
theorem dX6_init_0 : decode cX6_init 0 = .ok (.aload_n 0, 1) := by decide +kernel
theorem dX6_init_1 : decode cX6_init 1 = .ok (.invokespecial 1, 3) := by decide +kernel
theorem dX6_init_4 : decode cX6_init 4 = .ok (.aload_n 0, 1) := by decide +kernel
theorem dX6_init_5 : decode cX6_init 5 = .ok (.new 7, 3) := by decide +kernel
theorem dX6_init_8 : decode cX6_init 8 = .ok (.dup, 1) := by decide +kernel
theorem dX6_init_9 : decode cX6_init 9 = .ok (.invokespecial 9, 3) := by decide +kernel
theorem dX6_init_12 : decode cX6_init 12 = .ok (.putfield 10, 3) := by decide +kernel
theorem dX6_init_15 : decode cX6_init 15 = .ok (.aload_n 0, 1) := by decide +kernel
theorem dX6_init_16 : decode cX6_init 16 = .ok (.new 16, 3) := by decide +kernel
theorem dX6_init_19 : decode cX6_init 19 = .ok (.dup, 1) := by decide +kernel
theorem dX6_init_20 : decode cX6_init 20 = .ok (.invokespecial 18, 3) := by decide +kernel
theorem dX6_init_23 : decode cX6_init 23 = .ok (.putfield 19, 3) := by decide +kernel
theorem dX6_init_26 : decode cX6_init 26 = .ok (.aload_n 0, 1) := by decide +kernel
theorem dX6_init_27 : decode cX6_init 27 = .ok (.new 16, 3) := by decide +kernel
theorem dX6_init_30 : decode cX6_init 30 = .ok (.dup, 1) := by decide +kernel
theorem dX6_init_31 : decode cX6_init 31 = .ok (.invokespecial 18, 3) := by decide +kernel
theorem dX6_init_34 : decode cX6_init 34 = .ok (.putfield 23, 3) := by decide +kernel
theorem dX6_init_37 : decode cX6_init 37 = .ok (.aload_n 0, 1) := by decide +kernel
theorem dX6_init_38 : decode cX6_init 38 = .ok (.new 16, 3) := by decide +kernel
theorem dX6_init_41 : decode cX6_init 41 = .ok (.dup, 1) := by decide +kernel
theorem dX6_init_42 : decode cX6_init 42 = .ok (.invokespecial 18, 3) := by decide +kernel
theorem dX6_init_45 : decode cX6_init 45 = .ok (.putfield 26, 3) := by decide +kernel
theorem dX6_init_48 : decode cX6_init 48 = .ok (.aload_n 0, 1) := by decide +kernel
theorem dX6_init_49 : decode cX6_init 49 = .ok (.new 29, 3) := by decide +kernel
theorem dX6_init_52 : decode cX6_init 52 = .ok (.dup, 1) := by decide +kernel
theorem dX6_init_53 : decode cX6_init 53 = .ok (.invokespecial 31, 3) := by decide +kernel
theorem dX6_init_56 : decode cX6_init 56 = .ok (.putfield 32, 3) := by decide +kernel
theorem dX6_init_59 : decode cX6_init 59 = .ok (.aload_n 0, 1) := by decide +kernel
theorem dX6_init_60 : decode cX6_init 60 = .ok (.new 36, 3) := by decide +kernel
theorem dX6_init_63 : decode cX6_init 63 = .ok (.dup, 1) := by decide +kernel
theorem dX6_init_64 : decode cX6_init 64 = .ok (.invokespecial 38, 3) := by decide +kernel
theorem dX6_init_67 : decode cX6_init 67 = .ok (.putfield 39, 3) := by decide +kernel
theorem dX6_init_70 : decode cX6_init 70 = .ok (.aload_n 0, 1) := by decide +kernel
theorem dX6_init_71 : decode cX6_init 71 = .ok (.iconst 0, 1) := by decide +kernel
theorem dX6_init_72 : decode cX6_init 72 = .ok (.putfield 43, 3) := by decide +kernel
theorem dX6_init_75 : decode cX6_init 75 = .ok (.aload_n 0, 1) := by decide +kernel
theorem dX6_init_76 : decode cX6_init 76 = .ok (.iconst 0, 1) := by decide +kernel
theorem dX6_init_77 : decode cX6_init 77 = .ok (.putfield 47, 3) := by decide +kernel
theorem dX6_init_80 : decode cX6_init 80 = .ok (.aload_n 0, 1) := by decide +kernel
theorem dX6_init_81 : decode cX6_init 81 = .ok (.iconst 0, 1) := by decide +kernel
theorem dX6_init_82 : decode cX6_init 82 = .ok (.putfield 51, 3) := by decide +kernel
theorem dX6_init_85 : decode cX6_init 85 = .ok (.aload_n 0, 1) := by decide +kernel
theorem dX6_init_86 : decode cX6_init 86 = .ok (.iconst (-1), 1) := by decide +kernel
theorem dX6_init_87 : decode cX6_init 87 = .ok (.putfield 54, 3) := by decide +kernel
theorem dX6_init_90 : decode cX6_init 90 = .ok (.aload_n 0, 1) := by decide +kernel
theorem dX6_init_91 : decode cX6_init 91 = .ok (.iconst (-1), 1) := by decide +kernel
theorem dX6_init_92 : decode cX6_init 92 = .ok (.putfield 57, 3) := by decide +kernel
theorem dX6_init_95 : decode cX6_init 95 = .ok (.return_, 1) := by decide +kernel
theorem dX6_letter_0 : decode cX6_letter 0 = .ok (.iload_n 1, 1) := by decide +kernel
theorem dX6_letter_1 : decode cX6_letter 1 = .ok (.bipush 32, 2) := by decide +kernel
theorem dX6_letter_3 : decode cX6_letter 3 = .ok (.if_icmp .lt 9, 3) := by decide +kernel
theorem dX6_letter_6 : decode cX6_letter 6 = .ok (.iload_n 1, 1) := by decide +kernel
theorem dX6_letter_7 : decode cX6_letter 7 = .ok (.bipush 126, 2) := by decide +kernel
theorem dX6_letter_9 : decode cX6_letter 9 = .ok (.if_icmp .le 6, 3) := by decide +kernel
theorem dX6_letter_12 : decode cX6_letter 12 = .ok (.bipush (-102), 2) := by decide +kernel
theorem dX6_letter_14 : decode cX6_letter 14 = .ok (.ireturn, 1) := by decide +kernel
theorem dX6_letter_15 : decode cX6_letter 15 = .ok (.aload_n 0, 1) := by decide +kernel
theorem dX6_letter_16 : decode cX6_letter 16 = .ok (.getfield 10, 3) := by decide +kernel
theorem dX6_letter_19 : decode cX6_letter 19 = .ok (.iload_n 1, 1) := by decide +kernel
theorem dX6_letter_20 : decode cX6_letter 20 = .ok (.invokevirtual 60, 3) := by decide +kernel
theorem dX6_letter_23 : decode cX6_letter 23 = .ok (.ifCond .eq 13, 3) := by decide +kernel
theorem dX6_letter_26 : decode cX6_letter 26 = .ok (.aload_n 0, 1) := by decide +kernel
theorem dX6_letter_27 : decode cX6_letter 27 = .ok (.getfield 10, 3) := by decide +kernel
theorem dX6_letter_30 : decode cX6_letter 30 = .ok (.invokevirtual 64, 3) := by decide +kernel
theorem dX6_letter_33 : decode cX6_letter 33 = .ok (.goto 5, 3) := by decide +kernel
theorem dX6_letter_36 : decode cX6_letter 36 = .ok (.bipush (-104), 2) := by decide +kernel
theorem dX6_letter_38 : decode cX6_letter 38 = .ok (.ireturn, 1) := by decide +kernel
theorem dX6_blank_0 : decode cX6_blank 0 = .ok (.aload_n 0, 1) := by decide +kernel
theorem dX6_blank_1 : decode cX6_blank 1 = .ok (.getfield 10, 3) := by decide +kernel
theorem dX6_blank_4 : decode cX6_blank 4 = .ok (.invokevirtual 68, 3) := by decide +kernel
theorem dX6_blank_7 : decode cX6_blank 7 = .ok (.ireturn, 1) := by decide +kernel
theorem dX6_fault_0 : decode cX6_fault 0 = .ok (.aload_n 0, 1) := by decide +kernel
theorem dX6_fault_1 : decode cX6_fault 1 = .ok (.getfield 10, 3) := by decide +kernel
theorem dX6_fault_4 : decode cX6_fault 4 = .ok (.invokevirtual 71, 3) := by decide +kernel
theorem dX6_fault_7 : decode cX6_fault 7 = .ok (.ireturn, 1) := by decide +kernel
theorem dX6_yard_0 : decode cX6_yard 0 = .ok (.aload_n 0, 1) := by decide +kernel
theorem dX6_yard_1 : decode cX6_yard 1 = .ok (.getfield 10, 3) := by decide +kernel
theorem dX6_yard_4 : decode cX6_yard 4 = .ok (.invokevirtual 74, 3) := by decide +kernel
theorem dX6_yard_7 : decode cX6_yard 7 = .ok (.ifCond .ne 6, 3) := by decide +kernel
theorem dX6_yard_10 : decode cX6_yard 10 = .ok (.bipush (-103), 2) := by decide +kernel
theorem dX6_yard_12 : decode cX6_yard 12 = .ok (.ireturn, 1) := by decide +kernel
theorem dX6_yard_13 : decode cX6_yard 13 = .ok (.aload_n 0, 1) := by decide +kernel
theorem dX6_yard_14 : decode cX6_yard 14 = .ok (.getfield 19, 3) := by decide +kernel
theorem dX6_yard_17 : decode cX6_yard 17 = .ok (.aload_n 0, 1) := by decide +kernel
theorem dX6_yard_18 : decode cX6_yard 18 = .ok (.getfield 10, 3) := by decide +kernel
theorem dX6_yard_21 : decode cX6_yard 21 = .ok (.invokevirtual 78, 3) := by decide +kernel
theorem dX6_yard_24 : decode cX6_yard 24 = .ok (.aload_n 0, 1) := by decide +kernel
theorem dX6_yard_25 : decode cX6_yard 25 = .ok (.getfield 10, 3) := by decide +kernel
theorem dX6_yard_28 : decode cX6_yard 28 = .ok (.invokevirtual 68, 3) := by decide +kernel
theorem dX6_yard_31 : decode cX6_yard 31 = .ok (.pop, 1) := by decide +kernel
theorem dX6_yard_32 : decode cX6_yard 32 = .ok (.aload_n 0, 1) := by decide +kernel
theorem dX6_yard_33 : decode cX6_yard 33 = .ok (.iconst 0, 1) := by decide +kernel
theorem dX6_yard_34 : decode cX6_yard 34 = .ok (.putfield 43, 3) := by decide +kernel
theorem dX6_yard_37 : decode cX6_yard 37 = .ok (.aload_n 0, 1) := by decide +kernel
theorem dX6_yard_38 : decode cX6_yard 38 = .ok (.dup, 1) := by decide +kernel
theorem dX6_yard_39 : decode cX6_yard 39 = .ok (.getfield 47, 3) := by decide +kernel
theorem dX6_yard_42 : decode cX6_yard 42 = .ok (.iconst 1, 1) := by decide +kernel
theorem dX6_yard_43 : decode cX6_yard 43 = .ok (.iadd, 1) := by decide +kernel
theorem dX6_yard_44 : decode cX6_yard 44 = .ok (.putfield 47, 3) := by decide +kernel
theorem dX6_yard_47 : decode cX6_yard 47 = .ok (.aload_n 0, 1) := by decide +kernel
theorem dX6_yard_48 : decode cX6_yard 48 = .ok (.getfield 19, 3) := by decide +kernel
theorem dX6_yard_51 : decode cX6_yard 51 = .ok (.getfield 82, 3) := by decide +kernel
theorem dX6_yard_54 : decode cX6_yard 54 = .ok (.invokevirtual 85, 3) := by decide +kernel
theorem dX6_yard_57 : decode cX6_yard 57 = .ok (.ireturn, 1) := by decide +kernel
theorem dX6_about_0 : decode cX6_about 0 = .ok (.aload_n 0, 1) := by decide +kernel
theorem dX6_about_1 : decode cX6_about 1 = .ok (.getfield 19, 3) := by decide +kernel
theorem dX6_about_4 : decode cX6_about 4 = .ok (.getfield 82, 3) := by decide +kernel
theorem dX6_about_7 : decode cX6_about 7 = .ok (.iload_n 1, 1) := by decide +kernel
theorem dX6_about_8 : decode cX6_about 8 = .ok (.invokevirtual 88, 3) := by decide +kernel
theorem dX6_about_11 : decode cX6_about 11 = .ok (.ifCond .ne 6, 3) := by decide +kernel
theorem dX6_about_14 : decode cX6_about 14 = .ok (.bipush (-101), 2) := by decide +kernel
theorem dX6_about_16 : decode cX6_about 16 = .ok (.ireturn, 1) := by decide +kernel
theorem dX6_about_17 : decode cX6_about 17 = .ok (.iload_n 2, 1) := by decide +kernel
theorem dX6_about_18 : decode cX6_about 18 = .ok (.ifCond .lt 9, 3) := by decide +kernel
theorem dX6_about_21 : decode cX6_about 21 = .ok (.iload_n 2, 1) := by decide +kernel
theorem dX6_about_22 : decode cX6_about 22 = .ok (.bipush 6, 2) := by decide +kernel
theorem dX6_about_24 : decode cX6_about 24 = .ok (.if_icmp .lt 6, 3) := by decide +kernel
theorem dX6_about_27 : decode cX6_about 27 = .ok (.bipush (-102), 2) := by decide +kernel
theorem dX6_about_29 : decode cX6_about 29 = .ok (.ireturn, 1) := by decide +kernel
theorem dX6_about_30 : decode cX6_about 30 = .ok (.aload_n 0, 1) := by decide +kernel
theorem dX6_about_31 : decode cX6_about 31 = .ok (.getfield 19, 3) := by decide +kernel
theorem dX6_about_34 : decode cX6_about 34 = .ok (.getfield 82, 3) := by decide +kernel
theorem dX6_about_37 : decode cX6_about 37 = .ok (.iload_n 1, 1) := by decide +kernel
theorem dX6_about_38 : decode cX6_about 38 = .ok (.invokevirtual 91, 3) := by decide +kernel
theorem dX6_about_41 : decode cX6_about 41 = .ok (.istore_n 3, 1) := by decide +kernel
theorem dX6_about_42 : decode cX6_about 42 = .ok (.iload_n 2, 1) := by decide +kernel
theorem dX6_about_43 : decode cX6_about 43 = .ok (.lookupswitch 61 #[(0, 33), (4, 35), (5, 42)], 33) := by decide +kernel
theorem dX6_about_76 : decode cX6_about 76 = .ok (.iload_n 3, 1) := by decide +kernel
theorem dX6_about_77 : decode cX6_about 77 = .ok (.ireturn, 1) := by decide +kernel
theorem dX6_about_78 : decode cX6_about 78 = .ok (.iload_n 3, 1) := by decide +kernel
theorem dX6_about_79 : decode cX6_about 79 = .ok (.invokestatic 95, 3) := by decide +kernel
theorem dX6_about_82 : decode cX6_about 82 = .ok (.iconst 2, 1) := by decide +kernel
theorem dX6_about_83 : decode cX6_about 83 = .ok (.iadd, 1) := by decide +kernel
theorem dX6_about_84 : decode cX6_about 84 = .ok (.ireturn, 1) := by decide +kernel
theorem dX6_about_85 : decode cX6_about 85 = .ok (.aload_n 0, 1) := by decide +kernel
theorem dX6_about_86 : decode cX6_about 86 = .ok (.getfield 19, 3) := by decide +kernel
theorem dX6_about_89 : decode cX6_about 89 = .ok (.getfield 100, 3) := by decide +kernel
theorem dX6_about_92 : decode cX6_about 92 = .ok (.aload_n 0, 1) := by decide +kernel
theorem dX6_about_93 : decode cX6_about 93 = .ok (.getfield 19, 3) := by decide +kernel
theorem dX6_about_96 : decode cX6_about 96 = .ok (.getfield 82, 3) := by decide +kernel
theorem dX6_about_99 : decode cX6_about 99 = .ok (.iload_n 1, 1) := by decide +kernel
theorem dX6_about_100 : decode cX6_about 100 = .ok (.invokevirtual 104, 3) := by decide +kernel
theorem dX6_about_103 : decode cX6_about 103 = .ok (.ireturn, 1) := by decide +kernel
theorem dX6_about_104 : decode cX6_about 104 = .ok (.iload_n 3, 1) := by decide +kernel
theorem dX6_about_105 : decode cX6_about 105 = .ok (.iload_n 2, 1) := by decide +kernel
theorem dX6_about_106 : decode cX6_about 106 = .ok (.invokestatic 110, 3) := by decide +kernel
theorem dX6_about_109 : decode cX6_about 109 = .ok (.ireturn, 1) := by decide +kernel
theorem dX6_as_0 : decode cX6_as 0 = .ok (.aload_n 0, 1) := by decide +kernel
theorem dX6_as_1 : decode cX6_as 1 = .ok (.getfield 19, 3) := by decide +kernel
theorem dX6_as_4 : decode cX6_as 4 = .ok (.getfield 82, 3) := by decide +kernel
theorem dX6_as_7 : decode cX6_as 7 = .ok (.iload_n 1, 1) := by decide +kernel
theorem dX6_as_8 : decode cX6_as 8 = .ok (.invokevirtual 88, 3) := by decide +kernel
theorem dX6_as_11 : decode cX6_as 11 = .ok (.ifCond .ne 6, 3) := by decide +kernel
theorem dX6_as_14 : decode cX6_as 14 = .ok (.bipush (-101), 2) := by decide +kernel
theorem dX6_as_16 : decode cX6_as 16 = .ok (.ireturn, 1) := by decide +kernel
theorem dX6_as_17 : decode cX6_as 17 = .ok (.iload_n 2, 1) := by decide +kernel
theorem dX6_as_18 : decode cX6_as 18 = .ok (.invokestatic 114, 3) := by decide +kernel
theorem dX6_as_21 : decode cX6_as 21 = .ok (.ifCond .ne 6, 3) := by decide +kernel
theorem dX6_as_24 : decode cX6_as 24 = .ok (.bipush (-102), 2) := by decide +kernel
theorem dX6_as_26 : decode cX6_as 26 = .ok (.ireturn, 1) := by decide +kernel
theorem dX6_as_27 : decode cX6_as 27 = .ok (.aload_n 0, 1) := by decide +kernel
theorem dX6_as_28 : decode cX6_as 28 = .ok (.getfield 19, 3) := by decide +kernel
theorem dX6_as_31 : decode cX6_as 31 = .ok (.getfield 82, 3) := by decide +kernel
theorem dX6_as_34 : decode cX6_as 34 = .ok (.iload_n 1, 1) := by decide +kernel
theorem dX6_as_35 : decode cX6_as 35 = .ok (.invokevirtual 91, 3) := by decide +kernel
theorem dX6_as_38 : decode cX6_as 38 = .ok (.iload_n 2, 1) := by decide +kernel
theorem dX6_as_39 : decode cX6_as 39 = .ok (.invokestatic 117, 3) := by decide +kernel
theorem dX6_as_42 : decode cX6_as 42 = .ok (.ifCond .eq 7, 3) := by decide +kernel
theorem dX6_as_45 : decode cX6_as 45 = .ok (.iload_n 1, 1) := by decide +kernel
theorem dX6_as_46 : decode cX6_as 46 = .ok (.goto 4, 3) := by decide +kernel
theorem dX6_as_49 : decode cX6_as 49 = .ok (.iconst (-1), 1) := by decide +kernel
theorem dX6_as_50 : decode cX6_as 50 = .ok (.ireturn, 1) := by decide +kernel
theorem dX6_lay_0 : decode cX6_lay 0 = .ok (.aload_n 0, 1) := by decide +kernel
theorem dX6_lay_1 : decode cX6_lay 1 = .ok (.getfield 19, 3) := by decide +kernel
theorem dX6_lay_4 : decode cX6_lay 4 = .ok (.getfield 82, 3) := by decide +kernel
theorem dX6_lay_7 : decode cX6_lay 7 = .ok (.iload_n 1, 1) := by decide +kernel
theorem dX6_lay_8 : decode cX6_lay 8 = .ok (.invokevirtual 88, 3) := by decide +kernel
theorem dX6_lay_11 : decode cX6_lay 11 = .ok (.ifCond .ne 6, 3) := by decide +kernel
theorem dX6_lay_14 : decode cX6_lay 14 = .ok (.bipush (-101), 2) := by decide +kernel
theorem dX6_lay_16 : decode cX6_lay 16 = .ok (.ireturn, 1) := by decide +kernel
theorem dX6_lay_17 : decode cX6_lay 17 = .ok (.iload_n 2, 1) := by decide +kernel
theorem dX6_lay_18 : decode cX6_lay 18 = .ok (.invokestatic 114, 3) := by decide +kernel
theorem dX6_lay_21 : decode cX6_lay 21 = .ok (.ifCond .ne 6, 3) := by decide +kernel
theorem dX6_lay_24 : decode cX6_lay 24 = .ok (.bipush (-102), 2) := by decide +kernel
theorem dX6_lay_26 : decode cX6_lay 26 = .ok (.ireturn, 1) := by decide +kernel
theorem dX6_lay_27 : decode cX6_lay 27 = .ok (.aload_n 0, 1) := by decide +kernel
theorem dX6_lay_28 : decode cX6_lay 28 = .ok (.getfield 19, 3) := by decide +kernel
theorem dX6_lay_31 : decode cX6_lay 31 = .ok (.getfield 82, 3) := by decide +kernel
theorem dX6_lay_34 : decode cX6_lay 34 = .ok (.iload_n 1, 1) := by decide +kernel
theorem dX6_lay_35 : decode cX6_lay 35 = .ok (.iload_n 2, 1) := by decide +kernel
theorem dX6_lay_36 : decode cX6_lay 36 = .ok (.invokevirtual 121, 3) := by decide +kernel
theorem dX6_lay_39 : decode cX6_lay 39 = .ok (.ireturn, 1) := by decide +kernel
theorem dX6_blocks_0 : decode cX6_blocks 0 = .ok (.iload_n 1, 1) := by decide +kernel
theorem dX6_blocks_1 : decode cX6_blocks 1 = .ok (.iconst 1, 1) := by decide +kernel
theorem dX6_blocks_2 : decode cX6_blocks 2 = .ok (.if_icmp .lt 9, 3) := by decide +kernel
theorem dX6_blocks_5 : decode cX6_blocks 5 = .ok (.iload_n 1, 1) := by decide +kernel
theorem dX6_blocks_6 : decode cX6_blocks 6 = .ok (.bipush 9, 2) := by decide +kernel
theorem dX6_blocks_8 : decode cX6_blocks 8 = .ok (.if_icmp .le 6, 3) := by decide +kernel
theorem dX6_blocks_11 : decode cX6_blocks 11 = .ok (.bipush (-102), 2) := by decide +kernel
theorem dX6_blocks_13 : decode cX6_blocks 13 = .ok (.ireturn, 1) := by decide +kernel
theorem dX6_blocks_14 : decode cX6_blocks 14 = .ok (.aload_n 0, 1) := by decide +kernel
theorem dX6_blocks_15 : decode cX6_blocks 15 = .ok (.invokevirtual 124, 3) := by decide +kernel
theorem dX6_blocks_18 : decode cX6_blocks 18 = .ok (.ifCond .ne 6, 3) := by decide +kernel
theorem dX6_blocks_21 : decode cX6_blocks 21 = .ok (.bipush (-103), 2) := by decide +kernel
theorem dX6_blocks_23 : decode cX6_blocks 23 = .ok (.ireturn, 1) := by decide +kernel
theorem dX6_blocks_24 : decode cX6_blocks 24 = .ok (.aload_n 0, 1) := by decide +kernel
theorem dX6_blocks_25 : decode cX6_blocks 25 = .ok (.getfield 19, 3) := by decide +kernel
theorem dX6_blocks_28 : decode cX6_blocks 28 = .ok (.iload_n 1, 1) := by decide +kernel
theorem dX6_blocks_29 : decode cX6_blocks 29 = .ok (.invokevirtual 127, 3) := by decide +kernel
theorem dX6_blocks_32 : decode cX6_blocks 32 = .ok (.ireturn, 1) := by decide +kernel
theorem dX6_step_0 : decode cX6_step 0 = .ok (.aload_n 0, 1) := by decide +kernel
theorem dX6_step_1 : decode cX6_step 1 = .ok (.iload_n 1, 1) := by decide +kernel
theorem dX6_step_2 : decode cX6_step 2 = .ok (.invokevirtual 130, 3) := by decide +kernel
theorem dX6_step_5 : decode cX6_step 5 = .ok (.istore_n 2, 1) := by decide +kernel
theorem dX6_step_6 : decode cX6_step 6 = .ok (.iload_n 2, 1) := by decide +kernel
theorem dX6_step_7 : decode cX6_step 7 = .ok (.ifCond .eq 5, 3) := by decide +kernel
theorem dX6_step_10 : decode cX6_step 10 = .ok (.iload_n 2, 1) := by decide +kernel
theorem dX6_step_11 : decode cX6_step 11 = .ok (.ireturn, 1) := by decide +kernel
theorem dX6_step_12 : decode cX6_step 12 = .ok (.aload_n 0, 1) := by decide +kernel
theorem dX6_step_13 : decode cX6_step 13 = .ok (.getfield 19, 3) := by decide +kernel
theorem dX6_step_16 : decode cX6_step 16 = .ok (.iload_n 1, 1) := by decide +kernel
theorem dX6_step_17 : decode cX6_step 17 = .ok (.invokevirtual 133, 3) := by decide +kernel
theorem dX6_step_20 : decode cX6_step 20 = .ok (.ifCond .eq 13, 3) := by decide +kernel
theorem dX6_step_23 : decode cX6_step 23 = .ok (.aload_n 0, 1) := by decide +kernel
theorem dX6_step_24 : decode cX6_step 24 = .ok (.getfield 19, 3) := by decide +kernel
theorem dX6_step_27 : decode cX6_step 27 = .ok (.getfield 136, 3) := by decide +kernel
theorem dX6_step_30 : decode cX6_step 30 = .ok (.goto 4, 3) := by decide +kernel
theorem dX6_step_33 : decode cX6_step 33 = .ok (.iconst (-1), 1) := by decide +kernel
theorem dX6_step_34 : decode cX6_step 34 = .ok (.ireturn, 1) := by decide +kernel
theorem dX6_would_0 : decode cX6_would 0 = .ok (.aload_n 0, 1) := by decide +kernel
theorem dX6_would_1 : decode cX6_would 1 = .ok (.iload_n 1, 1) := by decide +kernel
theorem dX6_would_2 : decode cX6_would 2 = .ok (.invokevirtual 130, 3) := by decide +kernel
theorem dX6_would_5 : decode cX6_would 5 = .ok (.istore_n 2, 1) := by decide +kernel
theorem dX6_would_6 : decode cX6_would 6 = .ok (.iload_n 2, 1) := by decide +kernel
theorem dX6_would_7 : decode cX6_would 7 = .ok (.ifCond .eq 7, 3) := by decide +kernel
theorem dX6_would_10 : decode cX6_would 10 = .ok (.iload_n 2, 1) := by decide +kernel
theorem dX6_would_11 : decode cX6_would 11 = .ok (.goto 11, 3) := by decide +kernel
theorem dX6_would_14 : decode cX6_would 14 = .ok (.aload_n 0, 1) := by decide +kernel
theorem dX6_would_15 : decode cX6_would 15 = .ok (.getfield 19, 3) := by decide +kernel
theorem dX6_would_18 : decode cX6_would 18 = .ok (.iload_n 1, 1) := by decide +kernel
theorem dX6_would_19 : decode cX6_would 19 = .ok (.invokevirtual 139, 3) := by decide +kernel
theorem dX6_would_22 : decode cX6_would 22 = .ok (.ireturn, 1) := by decide +kernel
theorem dX6_quick_0 : decode cX6_quick 0 = .ok (.iload_n 1, 1) := by decide +kernel
theorem dX6_quick_1 : decode cX6_quick 1 = .ok (.ifCond .eq 18, 3) := by decide +kernel
theorem dX6_quick_4 : decode cX6_quick 4 = .ok (.iload_n 1, 1) := by decide +kernel
theorem dX6_quick_5 : decode cX6_quick 5 = .ok (.bipush 10, 2) := by decide +kernel
theorem dX6_quick_7 : decode cX6_quick 7 = .ok (.if_icmp .lt 9, 3) := by decide +kernel
theorem dX6_quick_10 : decode cX6_quick 10 = .ok (.iload_n 1, 1) := by decide +kernel
theorem dX6_quick_11 : decode cX6_quick 11 = .ok (.bipush 13, 2) := by decide +kernel
theorem dX6_quick_13 : decode cX6_quick 13 = .ok (.if_icmp .le 6, 3) := by decide +kernel
theorem dX6_quick_16 : decode cX6_quick 16 = .ok (.bipush (-102), 2) := by decide +kernel
theorem dX6_quick_18 : decode cX6_quick 18 = .ok (.ireturn, 1) := by decide +kernel
theorem dX6_quick_19 : decode cX6_quick 19 = .ok (.aload_n 0, 1) := by decide +kernel
theorem dX6_quick_20 : decode cX6_quick 20 = .ok (.invokevirtual 124, 3) := by decide +kernel
theorem dX6_quick_23 : decode cX6_quick 23 = .ok (.ifCond .eq 12, 3) := by decide +kernel
theorem dX6_quick_26 : decode cX6_quick 26 = .ok (.aload_n 0, 1) := by decide +kernel
theorem dX6_quick_27 : decode cX6_quick 27 = .ok (.getfield 51, 3) := by decide +kernel
theorem dX6_quick_30 : decode cX6_quick 30 = .ok (.bipush 40, 2) := by decide +kernel
theorem dX6_quick_32 : decode cX6_quick 32 = .ok (.if_icmp .lt 6, 3) := by decide +kernel
theorem dX6_quick_35 : decode cX6_quick 35 = .ok (.bipush (-103), 2) := by decide +kernel
theorem dX6_quick_37 : decode cX6_quick 37 = .ok (.ireturn, 1) := by decide +kernel
theorem dX6_quick_38 : decode cX6_quick 38 = .ok (.aload_n 0, 1) := by decide +kernel
theorem dX6_quick_39 : decode cX6_quick 39 = .ok (.dup, 1) := by decide +kernel
theorem dX6_quick_40 : decode cX6_quick 40 = .ok (.getfield 51, 3) := by decide +kernel
theorem dX6_quick_43 : decode cX6_quick 43 = .ok (.iconst 1, 1) := by decide +kernel
theorem dX6_quick_44 : decode cX6_quick 44 = .ok (.iadd, 1) := by decide +kernel
theorem dX6_quick_45 : decode cX6_quick 45 = .ok (.putfield 51, 3) := by decide +kernel
theorem dX6_quick_48 : decode cX6_quick 48 = .ok (.aload_n 0, 1) := by decide +kernel
theorem dX6_quick_49 : decode cX6_quick 49 = .ok (.getfield 39, 3) := by decide +kernel
theorem dX6_quick_52 : decode cX6_quick 52 = .ok (.aload_n 0, 1) := by decide +kernel
theorem dX6_quick_53 : decode cX6_quick 53 = .ok (.getfield 19, 3) := by decide +kernel
theorem dX6_quick_56 : decode cX6_quick 56 = .ok (.getfield 82, 3) := by decide +kernel
theorem dX6_quick_59 : decode cX6_quick 59 = .ok (.aload_n 0, 1) := by decide +kernel
theorem dX6_quick_60 : decode cX6_quick 60 = .ok (.getfield 19, 3) := by decide +kernel
theorem dX6_quick_63 : decode cX6_quick 63 = .ok (.getfield 142, 3) := by decide +kernel
theorem dX6_quick_66 : decode cX6_quick 66 = .ok (.aload_n 0, 1) := by decide +kernel
theorem dX6_quick_67 : decode cX6_quick 67 = .ok (.getfield 19, 3) := by decide +kernel
theorem dX6_quick_70 : decode cX6_quick 70 = .ok (.getfield 136, 3) := by decide +kernel
theorem dX6_quick_73 : decode cX6_quick 73 = .ok (.aload_n 0, 1) := by decide +kernel
theorem dX6_quick_74 : decode cX6_quick 74 = .ok (.getfield 19, 3) := by decide +kernel
theorem dX6_quick_77 : decode cX6_quick 77 = .ok (.getfield 145, 3) := by decide +kernel
theorem dX6_quick_80 : decode cX6_quick 80 = .ok (.invokevirtual 148, 3) := by decide +kernel
theorem dX6_quick_83 : decode cX6_quick 83 = .ok (.istore_n 2, 1) := by decide +kernel
theorem dX6_quick_84 : decode cX6_quick 84 = .ok (.iload_n 1, 1) := by decide +kernel
theorem dX6_quick_85 : decode cX6_quick 85 = .ok (.ifCond .ne 7, 3) := by decide +kernel
theorem dX6_quick_88 : decode cX6_quick 88 = .ok (.iload_n 2, 1) := by decide +kernel
theorem dX6_quick_89 : decode cX6_quick 89 = .ok (.goto 14, 3) := by decide +kernel
theorem dX6_quick_92 : decode cX6_quick 92 = .ok (.aload_n 0, 1) := by decide +kernel
theorem dX6_quick_93 : decode cX6_quick 93 = .ok (.getfield 39, 3) := by decide +kernel
theorem dX6_quick_96 : decode cX6_quick 96 = .ok (.iload_n 1, 1) := by decide +kernel
theorem dX6_quick_97 : decode cX6_quick 97 = .ok (.bipush 9, 2) := by decide +kernel
theorem dX6_quick_99 : decode cX6_quick 99 = .ok (.isub, 1) := by decide +kernel
theorem dX6_quick_100 : decode cX6_quick 100 = .ok (.invokevirtual 152, 3) := by decide +kernel
theorem dX6_quick_103 : decode cX6_quick 103 = .ok (.ireturn, 1) := by decide +kernel
theorem dX6_high_0 : decode cX6_high 0 = .ok (.aload_n 0, 1) := by decide +kernel
theorem dX6_high_1 : decode cX6_high 1 = .ok (.invokevirtual 124, 3) := by decide +kernel
theorem dX6_high_4 : decode cX6_high 4 = .ok (.ifCond .eq 10, 3) := by decide +kernel
theorem dX6_high_7 : decode cX6_high 7 = .ok (.aload_n 0, 1) := by decide +kernel
theorem dX6_high_8 : decode cX6_high 8 = .ok (.invokevirtual 155, 3) := by decide +kernel
theorem dX6_high_11 : decode cX6_high 11 = .ok (.goto 5, 3) := by decide +kernel
theorem dX6_high_14 : decode cX6_high 14 = .ok (.bipush (-103), 2) := by decide +kernel
theorem dX6_high_16 : decode cX6_high 16 = .ok (.ireturn, 1) := by decide +kernel
theorem dX6_mend_0 : decode cX6_mend 0 = .ok (.iload_n 1, 1) := by decide +kernel
theorem dX6_mend_1 : decode cX6_mend 1 = .ok (.ifCond .eq 11, 3) := by decide +kernel
theorem dX6_mend_4 : decode cX6_mend 4 = .ok (.iload_n 1, 1) := by decide +kernel
theorem dX6_mend_5 : decode cX6_mend 5 = .ok (.iconst 1, 1) := by decide +kernel
theorem dX6_mend_6 : decode cX6_mend 6 = .ok (.if_icmp .eq 6, 3) := by decide +kernel
theorem dX6_mend_9 : decode cX6_mend 9 = .ok (.bipush (-102), 2) := by decide +kernel
theorem dX6_mend_11 : decode cX6_mend 11 = .ok (.ireturn, 1) := by decide +kernel
theorem dX6_mend_12 : decode cX6_mend 12 = .ok (.aload_n 0, 1) := by decide +kernel
theorem dX6_mend_13 : decode cX6_mend 13 = .ok (.invokevirtual 124, 3) := by decide +kernel
theorem dX6_mend_16 : decode cX6_mend 16 = .ok (.ifCond .ne 6, 3) := by decide +kernel
theorem dX6_mend_19 : decode cX6_mend 19 = .ok (.bipush (-103), 2) := by decide +kernel
theorem dX6_mend_21 : decode cX6_mend 21 = .ok (.ireturn, 1) := by decide +kernel
theorem dX6_mend_22 : decode cX6_mend 22 = .ok (.aload_n 0, 1) := by decide +kernel
theorem dX6_mend_23 : decode cX6_mend 23 = .ok (.invokevirtual 158, 3) := by decide +kernel
theorem dX6_mend_26 : decode cX6_mend 26 = .ok (.iload_n 1, 1) := by decide +kernel
theorem dX6_mend_27 : decode cX6_mend 27 = .ok (.ifCond .ne 10, 3) := by decide +kernel
theorem dX6_mend_30 : decode cX6_mend 30 = .ok (.aload_n 0, 1) := by decide +kernel
theorem dX6_mend_31 : decode cX6_mend 31 = .ok (.getfield 54, 3) := by decide +kernel
theorem dX6_mend_34 : decode cX6_mend 34 = .ok (.goto 7, 3) := by decide +kernel
theorem dX6_mend_37 : decode cX6_mend 37 = .ok (.aload_n 0, 1) := by decide +kernel
theorem dX6_mend_38 : decode cX6_mend 38 = .ok (.getfield 57, 3) := by decide +kernel
theorem dX6_mend_41 : decode cX6_mend 41 = .ok (.ireturn, 1) := by decide +kernel
theorem dX6_hear_0 : decode cX6_hear 0 = .ok (.aload_n 0, 1) := by decide +kernel
theorem dX6_hear_1 : decode cX6_hear 1 = .ok (.getfield 19, 3) := by decide +kernel
theorem dX6_hear_4 : decode cX6_hear 4 = .ok (.getfield 82, 3) := by decide +kernel
theorem dX6_hear_7 : decode cX6_hear 7 = .ok (.iload_n 1, 1) := by decide +kernel
theorem dX6_hear_8 : decode cX6_hear 8 = .ok (.invokevirtual 88, 3) := by decide +kernel
theorem dX6_hear_11 : decode cX6_hear 11 = .ok (.ifCond .ne 6, 3) := by decide +kernel
theorem dX6_hear_14 : decode cX6_hear 14 = .ok (.bipush (-101), 2) := by decide +kernel
theorem dX6_hear_16 : decode cX6_hear 16 = .ok (.ireturn, 1) := by decide +kernel
theorem dX6_hear_17 : decode cX6_hear 17 = .ok (.iload_n 2, 1) := by decide +kernel
theorem dX6_hear_18 : decode cX6_hear 18 = .ok (.iconst 1, 1) := by decide +kernel
theorem dX6_hear_19 : decode cX6_hear 19 = .ok (.if_icmp .lt 18, 3) := by decide +kernel
theorem dX6_hear_22 : decode cX6_hear 22 = .ok (.iload_n 2, 1) := by decide +kernel
theorem dX6_hear_23 : decode cX6_hear 23 = .ok (.iconst 3, 1) := by decide +kernel
theorem dX6_hear_24 : decode cX6_hear 24 = .ok (.if_icmp .gt 13, 3) := by decide +kernel
theorem dX6_hear_27 : decode cX6_hear 27 = .ok (.iload_n 3, 1) := by decide +kernel
theorem dX6_hear_28 : decode cX6_hear 28 = .ok (.ifCond .lt 9, 3) := by decide +kernel
theorem dX6_hear_31 : decode cX6_hear 31 = .ok (.iload_n 3, 1) := by decide +kernel
theorem dX6_hear_32 : decode cX6_hear 32 = .ok (.bipush 12, 2) := by decide +kernel
theorem dX6_hear_34 : decode cX6_hear 34 = .ok (.if_icmp .lt 6, 3) := by decide +kernel
theorem dX6_hear_37 : decode cX6_hear 37 = .ok (.bipush (-102), 2) := by decide +kernel
theorem dX6_hear_39 : decode cX6_hear 39 = .ok (.ireturn, 1) := by decide +kernel
theorem dX6_hear_40 : decode cX6_hear 40 = .ok (.aload_n 0, 1) := by decide +kernel
theorem dX6_hear_41 : decode cX6_hear 41 = .ok (.getfield 19, 3) := by decide +kernel
theorem dX6_hear_44 : decode cX6_hear 44 = .ok (.getfield 100, 3) := by decide +kernel
theorem dX6_hear_47 : decode cX6_hear 47 = .ok (.iload_n 1, 1) := by decide +kernel
theorem dX6_hear_48 : decode cX6_hear 48 = .ok (.iload_n 2, 1) := by decide +kernel
theorem dX6_hear_49 : decode cX6_hear 49 = .ok (.iload_n 3, 1) := by decide +kernel
theorem dX6_hear_50 : decode cX6_hear 50 = .ok (.iload 4, 2) := by decide +kernel
theorem dX6_hear_52 : decode cX6_hear 52 = .ok (.invokevirtual 161, 3) := by decide +kernel
theorem dX6_hear_55 : decode cX6_hear 55 = .ok (.ifCond .eq 16, 3) := by decide +kernel
theorem dX6_hear_58 : decode cX6_hear 58 = .ok (.aload_n 0, 1) := by decide +kernel
theorem dX6_hear_59 : decode cX6_hear 59 = .ok (.getfield 19, 3) := by decide +kernel
theorem dX6_hear_62 : decode cX6_hear 62 = .ok (.getfield 100, 3) := by decide +kernel
theorem dX6_hear_65 : decode cX6_hear 65 = .ok (.invokevirtual 164, 3) := by decide +kernel
theorem dX6_hear_68 : decode cX6_hear 68 = .ok (.goto 5, 3) := by decide +kernel
theorem dX6_hear_71 : decode cX6_hear 71 = .ok (.bipush (-104), 2) := by decide +kernel
theorem dX6_hear_73 : decode cX6_hear 73 = .ok (.ireturn, 1) := by decide +kernel
theorem dX6_forget_0 : decode cX6_forget 0 = .ok (.aload_n 0, 1) := by decide +kernel
theorem dX6_forget_1 : decode cX6_forget 1 = .ok (.getfield 19, 3) := by decide +kernel
theorem dX6_forget_4 : decode cX6_forget 4 = .ok (.getfield 100, 3) := by decide +kernel
theorem dX6_forget_7 : decode cX6_forget 7 = .ok (.invokevirtual 165, 3) := by decide +kernel
theorem dX6_forget_10 : decode cX6_forget 10 = .ok (.ireturn, 1) := by decide +kernel
theorem dX6_heights_0 : decode cX6_heights 0 = .ok (.aload_n 0, 1) := by decide +kernel
theorem dX6_heights_1 : decode cX6_heights 1 = .ok (.invokevirtual 124, 3) := by decide +kernel
theorem dX6_heights_4 : decode cX6_heights 4 = .ok (.ifCond .eq 23, 3) := by decide +kernel
theorem dX6_heights_7 : decode cX6_heights 7 = .ok (.aload_n 0, 1) := by decide +kernel
theorem dX6_heights_8 : decode cX6_heights 8 = .ok (.getfield 19, 3) := by decide +kernel
theorem dX6_heights_11 : decode cX6_heights 11 = .ok (.getfield 100, 3) := by decide +kernel
theorem dX6_heights_14 : decode cX6_heights 14 = .ok (.aload_n 0, 1) := by decide +kernel
theorem dX6_heights_15 : decode cX6_heights 15 = .ok (.getfield 19, 3) := by decide +kernel
theorem dX6_heights_18 : decode cX6_heights 18 = .ok (.getfield 82, 3) := by decide +kernel
theorem dX6_heights_21 : decode cX6_heights 21 = .ok (.invokevirtual 166, 3) := by decide +kernel
theorem dX6_heights_24 : decode cX6_heights 24 = .ok (.goto 5, 3) := by decide +kernel
theorem dX6_heights_27 : decode cX6_heights 27 = .ok (.bipush (-103), 2) := by decide +kernel
theorem dX6_heights_29 : decode cX6_heights 29 = .ok (.ireturn, 1) := by decide +kernel
theorem dX6_races_0 : decode cX6_races 0 = .ok (.iload_n 1, 1) := by decide +kernel
end
section
theorem dX6_races_1 : decode cX6_races 1 = .ok (.iconst 1, 1) := by decide +kernel
theorem dX6_races_2 : decode cX6_races 2 = .ok (.if_icmp .lt 22, 3) := by decide +kernel
theorem dX6_races_5 : decode cX6_races 5 = .ok (.iload_n 1, 1) := by decide +kernel
theorem dX6_races_6 : decode cX6_races 6 = .ok (.bipush 60, 2) := by decide +kernel
theorem dX6_races_8 : decode cX6_races 8 = .ok (.if_icmp .gt 16, 3) := by decide +kernel
theorem dX6_races_11 : decode cX6_races 11 = .ok (.iload_n 2, 1) := by decide +kernel
theorem dX6_races_12 : decode cX6_races 12 = .ok (.ifCond .lt 12, 3) := by decide +kernel
theorem dX6_races_15 : decode cX6_races 15 = .ok (.iload_n 3, 1) := by decide +kernel
theorem dX6_races_16 : decode cX6_races 16 = .ok (.ifCond .lt 8, 3) := by decide +kernel
theorem dX6_races_19 : decode cX6_races 19 = .ok (.iload_n 3, 1) := by decide +kernel
theorem dX6_races_20 : decode cX6_races 20 = .ok (.iconst 2, 1) := by decide +kernel
theorem dX6_races_21 : decode cX6_races 21 = .ok (.if_icmp .le 6, 3) := by decide +kernel
theorem dX6_races_24 : decode cX6_races 24 = .ok (.bipush (-102), 2) := by decide +kernel
theorem dX6_races_26 : decode cX6_races 26 = .ok (.ireturn, 1) := by decide +kernel
theorem dX6_races_27 : decode cX6_races 27 = .ok (.aload_n 0, 1) := by decide +kernel
theorem dX6_races_28 : decode cX6_races 28 = .ok (.invokevirtual 124, 3) := by decide +kernel
theorem dX6_races_31 : decode cX6_races 31 = .ok (.ifCond .ne 6, 3) := by decide +kernel
theorem dX6_races_34 : decode cX6_races 34 = .ok (.bipush (-103), 2) := by decide +kernel
theorem dX6_races_36 : decode cX6_races 36 = .ok (.ireturn, 1) := by decide +kernel
theorem dX6_races_37 : decode cX6_races 37 = .ok (.aload_n 0, 1) := by decide +kernel
theorem dX6_races_38 : decode cX6_races 38 = .ok (.getfield 26, 3) := by decide +kernel
theorem dX6_races_41 : decode cX6_races 41 = .ok (.aload_n 0, 1) := by decide +kernel
theorem dX6_races_42 : decode cX6_races 42 = .ok (.getfield 19, 3) := by decide +kernel
theorem dX6_races_45 : decode cX6_races 45 = .ok (.invokevirtual 170, 3) := by decide +kernel
theorem dX6_races_48 : decode cX6_races 48 = .ok (.aload_n 0, 1) := by decide +kernel
theorem dX6_races_49 : decode cX6_races 49 = .ok (.getfield 26, 3) := by decide +kernel
theorem dX6_races_52 : decode cX6_races 52 = .ok (.iload_n 1, 1) := by decide +kernel
theorem dX6_races_53 : decode cX6_races 53 = .ok (.iload_n 2, 1) := by decide +kernel
theorem dX6_races_54 : decode cX6_races 54 = .ok (.invokevirtual 174, 3) := by decide +kernel
theorem dX6_races_57 : decode cX6_races 57 = .ok (.istore 4, 2) := by decide +kernel
theorem dX6_races_59 : decode cX6_races 59 = .ok (.iload_n 3, 1) := by decide +kernel
theorem dX6_races_60 : decode cX6_races 60 = .ok (.lookupswitch 52 #[(0, 28), (1, 44)], 28) := by decide +kernel
theorem dX6_races_88 : decode cX6_races 88 = .ok (.aload_n 0, 1) := by decide +kernel
theorem dX6_races_89 : decode cX6_races 89 = .ok (.getfield 26, 3) := by decide +kernel
theorem dX6_races_92 : decode cX6_races 92 = .ok (.getfield 177, 3) := by decide +kernel
theorem dX6_races_95 : decode cX6_races 95 = .ok (.aload_n 0, 1) := by decide +kernel
theorem dX6_races_96 : decode cX6_races 96 = .ok (.getfield 19, 3) := by decide +kernel
theorem dX6_races_99 : decode cX6_races 99 = .ok (.getfield 177, 3) := by decide +kernel
theorem dX6_races_102 : decode cX6_races 102 = .ok (.isub, 1) := by decide +kernel
theorem dX6_races_103 : decode cX6_races 103 = .ok (.ireturn, 1) := by decide +kernel
theorem dX6_races_104 : decode cX6_races 104 = .ok (.aload_n 0, 1) := by decide +kernel
theorem dX6_races_105 : decode cX6_races 105 = .ok (.getfield 26, 3) := by decide +kernel
theorem dX6_races_108 : decode cX6_races 108 = .ok (.getfield 136, 3) := by decide +kernel
theorem dX6_races_111 : decode cX6_races 111 = .ok (.ireturn, 1) := by decide +kernel
theorem dX6_races_112 : decode cX6_races 112 = .ok (.iload 4, 2) := by decide +kernel
theorem dX6_races_114 : decode cX6_races 114 = .ok (.ireturn, 1) := by decide +kernel
theorem dX6_image_0 : decode cX6_image 0 = .ok (.aload_n 0, 1) := by decide +kernel
theorem dX6_image_1 : decode cX6_image 1 = .ok (.invokevirtual 124, 3) := by decide +kernel
theorem dX6_image_4 : decode cX6_image 4 = .ok (.ifCond .ne 6, 3) := by decide +kernel
theorem dX6_image_7 : decode cX6_image 7 = .ok (.bipush (-103), 2) := by decide +kernel
theorem dX6_image_9 : decode cX6_image 9 = .ok (.ireturn, 1) := by decide +kernel
theorem dX6_image_10 : decode cX6_image 10 = .ok (.aload_n 0, 1) := by decide +kernel
theorem dX6_image_11 : decode cX6_image 11 = .ok (.getfield 23, 3) := by decide +kernel
theorem dX6_image_14 : decode cX6_image 14 = .ok (.aload_n 0, 1) := by decide +kernel
theorem dX6_image_15 : decode cX6_image 15 = .ok (.getfield 19, 3) := by decide +kernel
theorem dX6_image_18 : decode cX6_image 18 = .ok (.invokevirtual 170, 3) := by decide +kernel
theorem dX6_image_21 : decode cX6_image 21 = .ok (.aload_n 0, 1) := by decide +kernel
theorem dX6_image_22 : decode cX6_image 22 = .ok (.iconst 1, 1) := by decide +kernel
theorem dX6_image_23 : decode cX6_image 23 = .ok (.putfield 43, 3) := by decide +kernel
theorem dX6_image_26 : decode cX6_image 26 = .ok (.aload_n 0, 1) := by decide +kernel
theorem dX6_image_27 : decode cX6_image 27 = .ok (.getfield 23, 3) := by decide +kernel
theorem dX6_image_30 : decode cX6_image 30 = .ok (.getfield 180, 3) := by decide +kernel
theorem dX6_image_33 : decode cX6_image 33 = .ok (.ireturn, 1) := by decide +kernel
theorem dX6_restore_0 : decode cX6_restore 0 = .ok (.aload_n 0, 1) := by decide +kernel
theorem dX6_restore_1 : decode cX6_restore 1 = .ok (.getfield 43, 3) := by decide +kernel
theorem dX6_restore_4 : decode cX6_restore 4 = .ok (.ifCond .ne 6, 3) := by decide +kernel
theorem dX6_restore_7 : decode cX6_restore 7 = .ok (.bipush (-103), 2) := by decide +kernel
theorem dX6_restore_9 : decode cX6_restore 9 = .ok (.ireturn, 1) := by decide +kernel
theorem dX6_restore_10 : decode cX6_restore 10 = .ok (.aload_n 0, 1) := by decide +kernel
theorem dX6_restore_11 : decode cX6_restore 11 = .ok (.getfield 19, 3) := by decide +kernel
theorem dX6_restore_14 : decode cX6_restore 14 = .ok (.aload_n 0, 1) := by decide +kernel
theorem dX6_restore_15 : decode cX6_restore 15 = .ok (.getfield 23, 3) := by decide +kernel
theorem dX6_restore_18 : decode cX6_restore 18 = .ok (.invokevirtual 170, 3) := by decide +kernel
theorem dX6_restore_21 : decode cX6_restore 21 = .ok (.aload_n 0, 1) := by decide +kernel
theorem dX6_restore_22 : decode cX6_restore 22 = .ok (.getfield 19, 3) := by decide +kernel
theorem dX6_restore_25 : decode cX6_restore 25 = .ok (.getfield 180, 3) := by decide +kernel
theorem dX6_restore_28 : decode cX6_restore 28 = .ok (.ireturn, 1) := by decide +kernel
theorem dX6_count_0 : decode cX6_count 0 = .ok (.iload_n 1, 1) := by decide +kernel
theorem dX6_count_1 : decode cX6_count 1 = .ok (.tableswitch 176 0 11 #[63, 74, 82, 90, 98, 106, 114, 136, 147, 158, 166, 171], 63) := by decide +kernel
theorem dX6_count_64 : decode cX6_count 64 = .ok (.aload_n 0, 1) := by decide +kernel
theorem dX6_count_65 : decode cX6_count 65 = .ok (.getfield 19, 3) := by decide +kernel
theorem dX6_count_68 : decode cX6_count 68 = .ok (.getfield 82, 3) := by decide +kernel
theorem dX6_count_71 : decode cX6_count 71 = .ok (.invokevirtual 85, 3) := by decide +kernel
theorem dX6_count_74 : decode cX6_count 74 = .ok (.ireturn, 1) := by decide +kernel
theorem dX6_count_75 : decode cX6_count 75 = .ok (.aload_n 0, 1) := by decide +kernel
theorem dX6_count_76 : decode cX6_count 76 = .ok (.getfield 19, 3) := by decide +kernel
theorem dX6_count_79 : decode cX6_count 79 = .ok (.getfield 142, 3) := by decide +kernel
theorem dX6_count_82 : decode cX6_count 82 = .ok (.ireturn, 1) := by decide +kernel
theorem dX6_count_83 : decode cX6_count 83 = .ok (.aload_n 0, 1) := by decide +kernel
theorem dX6_count_84 : decode cX6_count 84 = .ok (.getfield 19, 3) := by decide +kernel
theorem dX6_count_87 : decode cX6_count 87 = .ok (.getfield 136, 3) := by decide +kernel
theorem dX6_count_90 : decode cX6_count 90 = .ok (.ireturn, 1) := by decide +kernel
theorem dX6_count_91 : decode cX6_count 91 = .ok (.aload_n 0, 1) := by decide +kernel
theorem dX6_count_92 : decode cX6_count 92 = .ok (.getfield 19, 3) := by decide +kernel
theorem dX6_count_95 : decode cX6_count 95 = .ok (.getfield 145, 3) := by decide +kernel
theorem dX6_count_98 : decode cX6_count 98 = .ok (.ireturn, 1) := by decide +kernel
theorem dX6_count_99 : decode cX6_count 99 = .ok (.aload_n 0, 1) := by decide +kernel
theorem dX6_count_100 : decode cX6_count 100 = .ok (.getfield 19, 3) := by decide +kernel
theorem dX6_count_103 : decode cX6_count 103 = .ok (.getfield 180, 3) := by decide +kernel
theorem dX6_count_106 : decode cX6_count 106 = .ok (.ireturn, 1) := by decide +kernel
theorem dX6_count_107 : decode cX6_count 107 = .ok (.aload_n 0, 1) := by decide +kernel
theorem dX6_count_108 : decode cX6_count 108 = .ok (.getfield 19, 3) := by decide +kernel
theorem dX6_count_111 : decode cX6_count 111 = .ok (.getfield 177, 3) := by decide +kernel
theorem dX6_count_114 : decode cX6_count 114 = .ok (.ireturn, 1) := by decide +kernel
theorem dX6_count_115 : decode cX6_count 115 = .ok (.aload_n 0, 1) := by decide +kernel
theorem dX6_count_116 : decode cX6_count 116 = .ok (.invokevirtual 124, 3) := by decide +kernel
theorem dX6_count_119 : decode cX6_count 119 = .ok (.ifCond .eq 16, 3) := by decide +kernel
theorem dX6_count_122 : decode cX6_count 122 = .ok (.aload_n 0, 1) := by decide +kernel
theorem dX6_count_123 : decode cX6_count 123 = .ok (.getfield 19, 3) := by decide +kernel
theorem dX6_count_126 : decode cX6_count 126 = .ok (.getfield 142, 3) := by decide +kernel
theorem dX6_count_129 : decode cX6_count 129 = .ok (.invokestatic 183, 3) := by decide +kernel
theorem dX6_count_132 : decode cX6_count 132 = .ok (.goto 4, 3) := by decide +kernel
theorem dX6_count_135 : decode cX6_count 135 = .ok (.iconst 0, 1) := by decide +kernel
theorem dX6_count_136 : decode cX6_count 136 = .ok (.ireturn, 1) := by decide +kernel
theorem dX6_count_137 : decode cX6_count 137 = .ok (.aload_n 0, 1) := by decide +kernel
theorem dX6_count_138 : decode cX6_count 138 = .ok (.getfield 19, 3) := by decide +kernel
theorem dX6_count_141 : decode cX6_count 141 = .ok (.getfield 82, 3) := by decide +kernel
theorem dX6_count_144 : decode cX6_count 144 = .ok (.invokevirtual 186, 3) := by decide +kernel
theorem dX6_count_147 : decode cX6_count 147 = .ok (.ireturn, 1) := by decide +kernel
theorem dX6_count_148 : decode cX6_count 148 = .ok (.aload_n 0, 1) := by decide +kernel
theorem dX6_count_149 : decode cX6_count 149 = .ok (.getfield 19, 3) := by decide +kernel
theorem dX6_count_152 : decode cX6_count 152 = .ok (.getfield 100, 3) := by decide +kernel
theorem dX6_count_155 : decode cX6_count 155 = .ok (.invokevirtual 164, 3) := by decide +kernel
theorem dX6_count_158 : decode cX6_count 158 = .ok (.ireturn, 1) := by decide +kernel
theorem dX6_count_159 : decode cX6_count 159 = .ok (.aload_n 0, 1) := by decide +kernel
theorem dX6_count_160 : decode cX6_count 160 = .ok (.getfield 10, 3) := by decide +kernel
theorem dX6_count_163 : decode cX6_count 163 = .ok (.invokevirtual 64, 3) := by decide +kernel
theorem dX6_count_166 : decode cX6_count 166 = .ok (.ireturn, 1) := by decide +kernel
theorem dX6_count_167 : decode cX6_count 167 = .ok (.aload_n 0, 1) := by decide +kernel
theorem dX6_count_168 : decode cX6_count 168 = .ok (.getfield 47, 3) := by decide +kernel
theorem dX6_count_171 : decode cX6_count 171 = .ok (.ireturn, 1) := by decide +kernel
theorem dX6_count_172 : decode cX6_count 172 = .ok (.aload_n 0, 1) := by decide +kernel
theorem dX6_count_173 : decode cX6_count 173 = .ok (.getfield 51, 3) := by decide +kernel
theorem dX6_count_176 : decode cX6_count 176 = .ok (.ireturn, 1) := by decide +kernel
theorem dX6_count_177 : decode cX6_count 177 = .ok (.bipush (-102), 2) := by decide +kernel
theorem dX6_count_179 : decode cX6_count 179 = .ok (.ireturn, 1) := by decide +kernel
theorem dX6_digest_0 : decode cX6_digest 0 = .ok (.ldc2_w 189, 3) := by decide +kernel
theorem dX6_digest_3 : decode cX6_digest 3 = .ok (.lstore_n 1, 1) := by decide +kernel
theorem dX6_digest_4 : decode cX6_digest 4 = .ok (.iconst 0, 1) := by decide +kernel
theorem dX6_digest_5 : decode cX6_digest 5 = .ok (.istore_n 3, 1) := by decide +kernel
theorem dX6_digest_6 : decode cX6_digest 6 = .ok (.iload_n 3, 1) := by decide +kernel
theorem dX6_digest_7 : decode cX6_digest 7 = .ok (.aload_n 0, 1) := by decide +kernel
theorem dX6_digest_8 : decode cX6_digest 8 = .ok (.getfield 19, 3) := by decide +kernel
theorem dX6_digest_11 : decode cX6_digest 11 = .ok (.getfield 82, 3) := by decide +kernel
theorem dX6_digest_14 : decode cX6_digest 14 = .ok (.invokevirtual 85, 3) := by decide +kernel
theorem dX6_digest_17 : decode cX6_digest 17 = .ok (.if_icmp .ge 40, 3) := by decide +kernel
theorem dX6_digest_20 : decode cX6_digest 20 = .ok (.iconst 0, 1) := by decide +kernel
theorem dX6_digest_21 : decode cX6_digest 21 = .ok (.istore 4, 2) := by decide +kernel
theorem dX6_digest_23 : decode cX6_digest 23 = .ok (.iload 4, 2) := by decide +kernel
theorem dX6_digest_25 : decode cX6_digest 25 = .ok (.bipush 6, 2) := by decide +kernel
theorem dX6_digest_27 : decode cX6_digest 27 = .ok (.if_icmp .ge 24, 3) := by decide +kernel
theorem dX6_digest_30 : decode cX6_digest 30 = .ok (.ldc2_w 191, 3) := by decide +kernel
theorem dX6_digest_33 : decode cX6_digest 33 = .ok (.lload_n 1, 1) := by decide +kernel
theorem dX6_digest_34 : decode cX6_digest 34 = .ok (.lmul, 1) := by decide +kernel
theorem dX6_digest_35 : decode cX6_digest 35 = .ok (.aload_n 0, 1) := by decide +kernel
theorem dX6_digest_36 : decode cX6_digest 36 = .ok (.iload_n 3, 1) := by decide +kernel
theorem dX6_digest_37 : decode cX6_digest 37 = .ok (.iload 4, 2) := by decide +kernel
theorem dX6_digest_39 : decode cX6_digest 39 = .ok (.invokevirtual 193, 3) := by decide +kernel
theorem dX6_digest_42 : decode cX6_digest 42 = .ok (.i2l, 1) := by decide +kernel
theorem dX6_digest_43 : decode cX6_digest 43 = .ok (.ladd, 1) := by decide +kernel
theorem dX6_digest_44 : decode cX6_digest 44 = .ok (.lstore_n 1, 1) := by decide +kernel
theorem dX6_digest_45 : decode cX6_digest 45 = .ok (.iinc 4 1, 3) := by decide +kernel
theorem dX6_digest_48 : decode cX6_digest 48 = .ok (.goto (-25), 3) := by decide +kernel
theorem dX6_digest_51 : decode cX6_digest 51 = .ok (.iinc 3 1, 3) := by decide +kernel
theorem dX6_digest_54 : decode cX6_digest 54 = .ok (.goto (-48), 3) := by decide +kernel
theorem dX6_digest_57 : decode cX6_digest 57 = .ok (.aload_n 0, 1) := by decide +kernel
theorem dX6_digest_58 : decode cX6_digest 58 = .ok (.invokevirtual 124, 3) := by decide +kernel
theorem dX6_digest_61 : decode cX6_digest 61 = .ok (.ifCond .eq 68, 3) := by decide +kernel
theorem dX6_digest_64 : decode cX6_digest 64 = .ok (.aload_n 0, 1) := by decide +kernel
theorem dX6_digest_65 : decode cX6_digest 65 = .ok (.invokevirtual 158, 3) := by decide +kernel
theorem dX6_digest_68 : decode cX6_digest 68 = .ok (.ldc2_w 191, 3) := by decide +kernel
theorem dX6_digest_71 : decode cX6_digest 71 = .ok (.lload_n 1, 1) := by decide +kernel
theorem dX6_digest_72 : decode cX6_digest 72 = .ok (.lmul, 1) := by decide +kernel
theorem dX6_digest_73 : decode cX6_digest 73 = .ok (.aload_n 0, 1) := by decide +kernel
theorem dX6_digest_74 : decode cX6_digest 74 = .ok (.iconst 0, 1) := by decide +kernel
theorem dX6_digest_75 : decode cX6_digest 75 = .ok (.invokevirtual 196, 3) := by decide +kernel
theorem dX6_digest_78 : decode cX6_digest 78 = .ok (.i2l, 1) := by decide +kernel
theorem dX6_digest_79 : decode cX6_digest 79 = .ok (.ladd, 1) := by decide +kernel
theorem dX6_digest_80 : decode cX6_digest 80 = .ok (.lstore_n 1, 1) := by decide +kernel
theorem dX6_digest_81 : decode cX6_digest 81 = .ok (.ldc2_w 191, 3) := by decide +kernel
theorem dX6_digest_84 : decode cX6_digest 84 = .ok (.lload_n 1, 1) := by decide +kernel
theorem dX6_digest_85 : decode cX6_digest 85 = .ok (.lmul, 1) := by decide +kernel
theorem dX6_digest_86 : decode cX6_digest 86 = .ok (.aload_n 0, 1) := by decide +kernel
theorem dX6_digest_87 : decode cX6_digest 87 = .ok (.invokevirtual 155, 3) := by decide +kernel
theorem dX6_digest_90 : decode cX6_digest 90 = .ok (.i2l, 1) := by decide +kernel
theorem dX6_digest_91 : decode cX6_digest 91 = .ok (.ladd, 1) := by decide +kernel
theorem dX6_digest_92 : decode cX6_digest 92 = .ok (.lstore_n 1, 1) := by decide +kernel
theorem dX6_digest_93 : decode cX6_digest 93 = .ok (.ldc2_w 191, 3) := by decide +kernel
theorem dX6_digest_96 : decode cX6_digest 96 = .ok (.lload_n 1, 1) := by decide +kernel
theorem dX6_digest_97 : decode cX6_digest 97 = .ok (.lmul, 1) := by decide +kernel
theorem dX6_digest_98 : decode cX6_digest 98 = .ok (.aload_n 0, 1) := by decide +kernel
theorem dX6_digest_99 : decode cX6_digest 99 = .ok (.getfield 54, 3) := by decide +kernel
theorem dX6_digest_102 : decode cX6_digest 102 = .ok (.i2l, 1) := by decide +kernel
theorem dX6_digest_103 : decode cX6_digest 103 = .ok (.ladd, 1) := by decide +kernel
theorem dX6_digest_104 : decode cX6_digest 104 = .ok (.lstore_n 1, 1) := by decide +kernel
theorem dX6_digest_105 : decode cX6_digest 105 = .ok (.ldc2_w 191, 3) := by decide +kernel
theorem dX6_digest_108 : decode cX6_digest 108 = .ok (.lload_n 1, 1) := by decide +kernel
theorem dX6_digest_109 : decode cX6_digest 109 = .ok (.lmul, 1) := by decide +kernel
theorem dX6_digest_110 : decode cX6_digest 110 = .ok (.aload_n 0, 1) := by decide +kernel
theorem dX6_digest_111 : decode cX6_digest 111 = .ok (.getfield 57, 3) := by decide +kernel
theorem dX6_digest_114 : decode cX6_digest 114 = .ok (.i2l, 1) := by decide +kernel
theorem dX6_digest_115 : decode cX6_digest 115 = .ok (.ladd, 1) := by decide +kernel
theorem dX6_digest_116 : decode cX6_digest 116 = .ok (.lstore_n 1, 1) := by decide +kernel
theorem dX6_digest_117 : decode cX6_digest 117 = .ok (.ldc2_w 191, 3) := by decide +kernel
theorem dX6_digest_120 : decode cX6_digest 120 = .ok (.lload_n 1, 1) := by decide +kernel
theorem dX6_digest_121 : decode cX6_digest 121 = .ok (.lmul, 1) := by decide +kernel
theorem dX6_digest_122 : decode cX6_digest 122 = .ok (.aload_n 0, 1) := by decide +kernel
theorem dX6_digest_123 : decode cX6_digest 123 = .ok (.invokevirtual 199, 3) := by decide +kernel
theorem dX6_digest_126 : decode cX6_digest 126 = .ok (.i2l, 1) := by decide +kernel
theorem dX6_digest_127 : decode cX6_digest 127 = .ok (.ladd, 1) := by decide +kernel
theorem dX6_digest_128 : decode cX6_digest 128 = .ok (.lstore_n 1, 1) := by decide +kernel
theorem dX6_digest_129 : decode cX6_digest 129 = .ok (.iconst 0, 1) := by decide +kernel
theorem dX6_digest_130 : decode cX6_digest 130 = .ok (.istore_n 3, 1) := by decide +kernel
theorem dX6_digest_131 : decode cX6_digest 131 = .ok (.iload_n 3, 1) := by decide +kernel
theorem dX6_digest_132 : decode cX6_digest 132 = .ok (.aload_n 0, 1) := by decide +kernel
theorem dX6_digest_133 : decode cX6_digest 133 = .ok (.getfield 10, 3) := by decide +kernel
theorem dX6_digest_136 : decode cX6_digest 136 = .ok (.invokevirtual 64, 3) := by decide +kernel
theorem dX6_digest_139 : decode cX6_digest 139 = .ok (.if_icmp .ge 25, 3) := by decide +kernel
theorem dX6_digest_142 : decode cX6_digest 142 = .ok (.ldc2_w 191, 3) := by decide +kernel
theorem dX6_digest_145 : decode cX6_digest 145 = .ok (.lload_n 1, 1) := by decide +kernel
theorem dX6_digest_146 : decode cX6_digest 146 = .ok (.lmul, 1) := by decide +kernel
theorem dX6_digest_147 : decode cX6_digest 147 = .ok (.aload_n 0, 1) := by decide +kernel
theorem dX6_digest_148 : decode cX6_digest 148 = .ok (.getfield 10, 3) := by decide +kernel
theorem dX6_digest_151 : decode cX6_digest 151 = .ok (.iload_n 3, 1) := by decide +kernel
theorem dX6_digest_152 : decode cX6_digest 152 = .ok (.invokevirtual 202, 3) := by decide +kernel
theorem dX6_digest_155 : decode cX6_digest 155 = .ok (.i2l, 1) := by decide +kernel
theorem dX6_digest_156 : decode cX6_digest 156 = .ok (.ladd, 1) := by decide +kernel
theorem dX6_digest_157 : decode cX6_digest 157 = .ok (.lstore_n 1, 1) := by decide +kernel
theorem dX6_digest_158 : decode cX6_digest 158 = .ok (.iinc 3 1, 3) := by decide +kernel
theorem dX6_digest_161 : decode cX6_digest 161 = .ok (.goto (-30), 3) := by decide +kernel
theorem dX6_digest_164 : decode cX6_digest 164 = .ok (.iconst 0, 1) := by decide +kernel
theorem dX6_digest_165 : decode cX6_digest 165 = .ok (.istore_n 3, 1) := by decide +kernel
theorem dX6_digest_166 : decode cX6_digest 166 = .ok (.iload_n 3, 1) := by decide +kernel
theorem dX6_digest_167 : decode cX6_digest 167 = .ok (.bipush 12, 2) := by decide +kernel
theorem dX6_digest_169 : decode cX6_digest 169 = .ok (.if_icmp .ge 22, 3) := by decide +kernel
theorem dX6_digest_172 : decode cX6_digest 172 = .ok (.ldc2_w 191, 3) := by decide +kernel
theorem dX6_digest_175 : decode cX6_digest 175 = .ok (.lload_n 1, 1) := by decide +kernel
theorem dX6_digest_176 : decode cX6_digest 176 = .ok (.lmul, 1) := by decide +kernel
theorem dX6_digest_177 : decode cX6_digest 177 = .ok (.aload_n 0, 1) := by decide +kernel
theorem dX6_digest_178 : decode cX6_digest 178 = .ok (.iload_n 3, 1) := by decide +kernel
theorem dX6_digest_179 : decode cX6_digest 179 = .ok (.invokevirtual 205, 3) := by decide +kernel
theorem dX6_digest_182 : decode cX6_digest 182 = .ok (.i2l, 1) := by decide +kernel
theorem dX6_digest_183 : decode cX6_digest 183 = .ok (.ladd, 1) := by decide +kernel
theorem dX6_digest_184 : decode cX6_digest 184 = .ok (.lstore_n 1, 1) := by decide +kernel
theorem dX6_digest_185 : decode cX6_digest 185 = .ok (.iinc 3 1, 3) := by decide +kernel
theorem dX6_digest_188 : decode cX6_digest 188 = .ok (.goto (-22), 3) := by decide +kernel
theorem dX6_digest_191 : decode cX6_digest 191 = .ok (.lload_n 1, 1) := by decide +kernel
theorem dX6_digest_192 : decode cX6_digest 192 = .ok (.lreturn, 1) := by decide +kernel
theorem dX6_hasYard_0 : decode cX6_hasYard 0 = .ok (.aload_n 0, 1) := by decide +kernel
theorem dX6_hasYard_1 : decode cX6_hasYard 1 = .ok (.getfield 19, 3) := by decide +kernel
theorem dX6_hasYard_4 : decode cX6_hasYard 4 = .ok (.getfield 82, 3) := by decide +kernel
theorem dX6_hasYard_7 : decode cX6_hasYard 7 = .ok (.invokevirtual 85, 3) := by decide +kernel
theorem dX6_hasYard_10 : decode cX6_hasYard 10 = .ok (.ifCond .le 7, 3) := by decide +kernel
theorem dX6_hasYard_13 : decode cX6_hasYard 13 = .ok (.iconst 1, 1) := by decide +kernel
theorem dX6_hasYard_14 : decode cX6_hasYard 14 = .ok (.goto 4, 3) := by decide +kernel
theorem dX6_hasYard_17 : decode cX6_hasYard 17 = .ok (.iconst 0, 1) := by decide +kernel
theorem dX6_hasYard_18 : decode cX6_hasYard 18 = .ok (.ireturn, 1) := by decide +kernel
theorem dX6_refusalOfStep_0 : decode cX6_refusalOfStep 0 = .ok (.iload_n 1, 1) := by decide +kernel
theorem dX6_refusalOfStep_1 : decode cX6_refusalOfStep 1 = .ok (.ifCond .lt 8, 3) := by decide +kernel
theorem dX6_refusalOfStep_4 : decode cX6_refusalOfStep 4 = .ok (.iload_n 1, 1) := by decide +kernel
theorem dX6_refusalOfStep_5 : decode cX6_refusalOfStep 5 = .ok (.iconst 3, 1) := by decide +kernel
theorem dX6_refusalOfStep_6 : decode cX6_refusalOfStep 6 = .ok (.if_icmp .le 6, 3) := by decide +kernel
theorem dX6_refusalOfStep_9 : decode cX6_refusalOfStep 9 = .ok (.bipush (-102), 2) := by decide +kernel
theorem dX6_refusalOfStep_11 : decode cX6_refusalOfStep 11 = .ok (.ireturn, 1) := by decide +kernel
theorem dX6_refusalOfStep_12 : decode cX6_refusalOfStep 12 = .ok (.aload_n 0, 1) := by decide +kernel
theorem dX6_refusalOfStep_13 : decode cX6_refusalOfStep 13 = .ok (.getfield 19, 3) := by decide +kernel
theorem dX6_refusalOfStep_16 : decode cX6_refusalOfStep 16 = .ok (.getfield 82, 3) := by decide +kernel
theorem dX6_refusalOfStep_19 : decode cX6_refusalOfStep 19 = .ok (.aload_n 0, 1) := by decide +kernel
theorem dX6_refusalOfStep_20 : decode cX6_refusalOfStep 20 = .ok (.getfield 19, 3) := by decide +kernel
theorem dX6_refusalOfStep_23 : decode cX6_refusalOfStep 23 = .ok (.getfield 136, 3) := by decide +kernel
theorem dX6_refusalOfStep_26 : decode cX6_refusalOfStep 26 = .ok (.iload_n 1, 1) := by decide +kernel
theorem dX6_refusalOfStep_27 : decode cX6_refusalOfStep 27 = .ok (.iadd, 1) := by decide +kernel
theorem dX6_refusalOfStep_28 : decode cX6_refusalOfStep 28 = .ok (.invokevirtual 88, 3) := by decide +kernel
theorem dX6_refusalOfStep_31 : decode cX6_refusalOfStep 31 = .ok (.ifCond .eq 7, 3) := by decide +kernel
theorem dX6_refusalOfStep_34 : decode cX6_refusalOfStep 34 = .ok (.iconst 0, 1) := by decide +kernel
theorem dX6_refusalOfStep_35 : decode cX6_refusalOfStep 35 = .ok (.goto 5, 3) := by decide +kernel
theorem dX6_refusalOfStep_38 : decode cX6_refusalOfStep 38 = .ok (.bipush (-103), 2) := by decide +kernel
theorem dX6_refusalOfStep_40 : decode cX6_refusalOfStep 40 = .ok (.ireturn, 1) := by decide +kernel
theorem dX6_greatestHeight_0 : decode cX6_greatestHeight 0 = .ok (.bipush 9, 2) := by decide +kernel
theorem dX6_greatestHeight_2 : decode cX6_greatestHeight 2 = .ok (.istore_n 1, 1) := by decide +kernel
theorem dX6_greatestHeight_3 : decode cX6_greatestHeight 3 = .ok (.iload_n 1, 1) := by decide +kernel
theorem dX6_greatestHeight_4 : decode cX6_greatestHeight 4 = .ok (.iconst 1, 1) := by decide +kernel
theorem dX6_greatestHeight_5 : decode cX6_greatestHeight 5 = .ok (.if_icmp .lt 32, 3) := by decide +kernel
theorem dX6_greatestHeight_8 : decode cX6_greatestHeight 8 = .ok (.aload_n 0, 1) := by decide +kernel
theorem dX6_greatestHeight_9 : decode cX6_greatestHeight 9 = .ok (.getfield 39, 3) := by decide +kernel
theorem dX6_greatestHeight_12 : decode cX6_greatestHeight 12 = .ok (.aload_n 0, 1) := by decide +kernel
theorem dX6_greatestHeight_13 : decode cX6_greatestHeight 13 = .ok (.getfield 19, 3) := by decide +kernel
theorem dX6_greatestHeight_16 : decode cX6_greatestHeight 16 = .ok (.getfield 82, 3) := by decide +kernel
theorem dX6_greatestHeight_19 : decode cX6_greatestHeight 19 = .ok (.iload_n 1, 1) := by decide +kernel
theorem dX6_greatestHeight_20 : decode cX6_greatestHeight 20 = .ok (.iconst 0, 1) := by decide +kernel
theorem dX6_greatestHeight_21 : decode cX6_greatestHeight 21 = .ok (.iconst 0, 1) := by decide +kernel
theorem dX6_greatestHeight_22 : decode cX6_greatestHeight 22 = .ok (.invokevirtual 148, 3) := by decide +kernel
theorem dX6_greatestHeight_25 : decode cX6_greatestHeight 25 = .ok (.iconst (-1), 1) := by decide +kernel
theorem dX6_greatestHeight_26 : decode cX6_greatestHeight 26 = .ok (.if_icmp .eq 5, 3) := by decide +kernel
theorem dX6_greatestHeight_29 : decode cX6_greatestHeight 29 = .ok (.iload_n 1, 1) := by decide +kernel
theorem dX6_greatestHeight_30 : decode cX6_greatestHeight 30 = .ok (.ireturn, 1) := by decide +kernel
theorem dX6_greatestHeight_31 : decode cX6_greatestHeight 31 = .ok (.iinc 1 (-1), 3) := by decide +kernel
theorem dX6_greatestHeight_34 : decode cX6_greatestHeight 34 = .ok (.goto (-31), 3) := by decide +kernel
theorem dX6_greatestHeight_37 : decode cX6_greatestHeight 37 = .ok (.iconst (-1), 1) := by decide +kernel
theorem dX6_greatestHeight_38 : decode cX6_greatestHeight 38 = .ok (.ireturn, 1) := by decide +kernel
theorem dX6_findMend_0 : decode cX6_findMend 0 = .ok (.aload_n 0, 1) := by decide +kernel
theorem dX6_findMend_1 : decode cX6_findMend 1 = .ok (.iconst (-1), 1) := by decide +kernel
theorem dX6_findMend_2 : decode cX6_findMend 2 = .ok (.putfield 54, 3) := by decide +kernel
theorem dX6_findMend_5 : decode cX6_findMend 5 = .ok (.aload_n 0, 1) := by decide +kernel
theorem dX6_findMend_6 : decode cX6_findMend 6 = .ok (.iconst (-1), 1) := by decide +kernel
theorem dX6_findMend_7 : decode cX6_findMend 7 = .ok (.putfield 57, 3) := by decide +kernel
theorem dX6_findMend_10 : decode cX6_findMend 10 = .ok (.aload_n 0, 1) := by decide +kernel
theorem dX6_findMend_11 : decode cX6_findMend 11 = .ok (.getfield 39, 3) := by decide +kernel
theorem dX6_findMend_14 : decode cX6_findMend 14 = .ok (.aload_n 0, 1) := by decide +kernel
theorem dX6_findMend_15 : decode cX6_findMend 15 = .ok (.getfield 19, 3) := by decide +kernel
theorem dX6_findMend_18 : decode cX6_findMend 18 = .ok (.getfield 82, 3) := by decide +kernel
theorem dX6_findMend_21 : decode cX6_findMend 21 = .ok (.aload_n 0, 1) := by decide +kernel
theorem dX6_findMend_22 : decode cX6_findMend 22 = .ok (.getfield 19, 3) := by decide +kernel
theorem dX6_findMend_25 : decode cX6_findMend 25 = .ok (.getfield 142, 3) := by decide +kernel
theorem dX6_findMend_28 : decode cX6_findMend 28 = .ok (.iconst 0, 1) := by decide +kernel
theorem dX6_findMend_29 : decode cX6_findMend 29 = .ok (.iconst 0, 1) := by decide +kernel
theorem dX6_findMend_30 : decode cX6_findMend 30 = .ok (.invokevirtual 148, 3) := by decide +kernel
theorem dX6_findMend_33 : decode cX6_findMend 33 = .ok (.istore_n 1, 1) := by decide +kernel
theorem dX6_findMend_34 : decode cX6_findMend 34 = .ok (.aload_n 0, 1) := by decide +kernel
theorem dX6_findMend_35 : decode cX6_findMend 35 = .ok (.getfield 32, 3) := by decide +kernel
theorem dX6_findMend_38 : decode cX6_findMend 38 = .ok (.aload_n 0, 1) := by decide +kernel
theorem dX6_findMend_39 : decode cX6_findMend 39 = .ok (.getfield 19, 3) := by decide +kernel
theorem dX6_findMend_42 : decode cX6_findMend 42 = .ok (.getfield 82, 3) := by decide +kernel
theorem dX6_findMend_45 : decode cX6_findMend 45 = .ok (.invokevirtual 208, 3) := by decide +kernel
theorem dX6_findMend_48 : decode cX6_findMend 48 = .ok (.iconst 0, 1) := by decide +kernel
theorem dX6_findMend_49 : decode cX6_findMend 49 = .ok (.istore_n 2, 1) := by decide +kernel
theorem dX6_findMend_50 : decode cX6_findMend 50 = .ok (.iload_n 2, 1) := by decide +kernel
theorem dX6_findMend_51 : decode cX6_findMend 51 = .ok (.aload_n 0, 1) := by decide +kernel
theorem dX6_findMend_52 : decode cX6_findMend 52 = .ok (.getfield 32, 3) := by decide +kernel
theorem dX6_findMend_55 : decode cX6_findMend 55 = .ok (.invokevirtual 85, 3) := by decide +kernel
theorem dX6_findMend_58 : decode cX6_findMend 58 = .ok (.if_icmp .ge 82, 3) := by decide +kernel
theorem dX6_findMend_61 : decode cX6_findMend 61 = .ok (.aload_n 0, 1) := by decide +kernel
theorem dX6_findMend_62 : decode cX6_findMend 62 = .ok (.getfield 32, 3) := by decide +kernel
theorem dX6_findMend_65 : decode cX6_findMend 65 = .ok (.iload_n 2, 1) := by decide +kernel
theorem dX6_findMend_66 : decode cX6_findMend 66 = .ok (.iconst 0, 1) := by decide +kernel
theorem dX6_findMend_67 : decode cX6_findMend 67 = .ok (.invokevirtual 121, 3) := by decide +kernel
theorem dX6_findMend_70 : decode cX6_findMend 70 = .ok (.istore_n 3, 1) := by decide +kernel
theorem dX6_findMend_71 : decode cX6_findMend 71 = .ok (.aload_n 0, 1) := by decide +kernel
theorem dX6_findMend_72 : decode cX6_findMend 72 = .ok (.getfield 39, 3) := by decide +kernel
theorem dX6_findMend_75 : decode cX6_findMend 75 = .ok (.aload_n 0, 1) := by decide +kernel
theorem dX6_findMend_76 : decode cX6_findMend 76 = .ok (.getfield 32, 3) := by decide +kernel
theorem dX6_findMend_79 : decode cX6_findMend 79 = .ok (.aload_n 0, 1) := by decide +kernel
theorem dX6_findMend_80 : decode cX6_findMend 80 = .ok (.getfield 19, 3) := by decide +kernel
theorem dX6_findMend_83 : decode cX6_findMend 83 = .ok (.getfield 142, 3) := by decide +kernel
theorem dX6_findMend_86 : decode cX6_findMend 86 = .ok (.iconst 0, 1) := by decide +kernel
theorem dX6_findMend_87 : decode cX6_findMend 87 = .ok (.iconst 0, 1) := by decide +kernel
theorem dX6_findMend_88 : decode cX6_findMend 88 = .ok (.invokevirtual 148, 3) := by decide +kernel
theorem dX6_findMend_91 : decode cX6_findMend 91 = .ok (.istore 4, 2) := by decide +kernel
theorem dX6_findMend_93 : decode cX6_findMend 93 = .ok (.aload_n 0, 1) := by decide +kernel
theorem dX6_findMend_94 : decode cX6_findMend 94 = .ok (.getfield 32, 3) := by decide +kernel
theorem dX6_findMend_97 : decode cX6_findMend 97 = .ok (.iload_n 2, 1) := by decide +kernel
theorem dX6_findMend_98 : decode cX6_findMend 98 = .ok (.iload_n 3, 1) := by decide +kernel
theorem dX6_findMend_99 : decode cX6_findMend 99 = .ok (.invokevirtual 121, 3) := by decide +kernel
theorem dX6_findMend_102 : decode cX6_findMend 102 = .ok (.pop, 1) := by decide +kernel
theorem dX6_findMend_103 : decode cX6_findMend 103 = .ok (.iload 4, 2) := by decide +kernel
theorem dX6_findMend_105 : decode cX6_findMend 105 = .ok (.iconst (-1), 1) := by decide +kernel
theorem dX6_findMend_106 : decode cX6_findMend 106 = .ok (.if_icmp .eq 28, 3) := by decide +kernel
theorem dX6_findMend_109 : decode cX6_findMend 109 = .ok (.iload_n 1, 1) := by decide +kernel
theorem dX6_findMend_110 : decode cX6_findMend 110 = .ok (.iconst (-1), 1) := by decide +kernel
theorem dX6_findMend_111 : decode cX6_findMend 111 = .ok (.if_icmp .eq 9, 3) := by decide +kernel
theorem dX6_findMend_114 : decode cX6_findMend 114 = .ok (.iload 4, 2) := by decide +kernel
theorem dX6_findMend_116 : decode cX6_findMend 116 = .ok (.iload_n 1, 1) := by decide +kernel
theorem dX6_findMend_117 : decode cX6_findMend 117 = .ok (.if_icmp .ge 17, 3) := by decide +kernel
theorem dX6_findMend_120 : decode cX6_findMend 120 = .ok (.iload 4, 2) := by decide +kernel
theorem dX6_findMend_122 : decode cX6_findMend 122 = .ok (.istore_n 1, 1) := by decide +kernel
theorem dX6_findMend_123 : decode cX6_findMend 123 = .ok (.aload_n 0, 1) := by decide +kernel
theorem dX6_findMend_124 : decode cX6_findMend 124 = .ok (.iload_n 2, 1) := by decide +kernel
theorem dX6_findMend_125 : decode cX6_findMend 125 = .ok (.putfield 54, 3) := by decide +kernel
theorem dX6_findMend_128 : decode cX6_findMend 128 = .ok (.aload_n 0, 1) := by decide +kernel
theorem dX6_findMend_129 : decode cX6_findMend 129 = .ok (.iload 4, 2) := by decide +kernel
theorem dX6_findMend_131 : decode cX6_findMend 131 = .ok (.putfield 57, 3) := by decide +kernel
theorem dX6_findMend_134 : decode cX6_findMend 134 = .ok (.iinc 2 1, 3) := by decide +kernel
theorem dX6_findMend_137 : decode cX6_findMend 137 = .ok (.goto (-87), 3) := by decide +kernel
theorem dX6_findMend_140 : decode cX6_findMend 140 = .ok (.return_, 1) := by decide +kernel
theorem dX6_bearable_0 : decode cX6_bearable 0 = .ok (.bipush 12, 2) := by decide +kernel
theorem dX6_bearable_2 : decode cX6_bearable 2 = .ok (.iload_n 0, 1) := by decide +kernel
theorem dX6_bearable_3 : decode cX6_bearable 3 = .ok (.isub, 1) := by decide +kernel
theorem dX6_bearable_4 : decode cX6_bearable 4 = .ok (.ireturn, 1) := by decide +kernel
theorem dX7_init_0 : decode cX7_init 0 = .ok (.aload_n 0, 1) := by decide +kernel
theorem dX7_init_1 : decode cX7_init 1 = .ok (.invokespecial 1, 3) := by decide +kernel
theorem dX7_init_4 : decode cX7_init 4 = .ok (.aload_n 0, 1) := by decide +kernel
theorem dX7_init_5 : decode cX7_init 5 = .ok (.bipush 12, 2) := by decide +kernel
theorem dX7_init_7 : decode cX7_init 7 = .ok (.newarray .int, 2) := by decide +kernel
theorem dX7_init_9 : decode cX7_init 9 = .ok (.putfield 7, 3) := by decide +kernel
theorem dX7_init_12 : decode cX7_init 12 = .ok (.aload_n 0, 1) := by decide +kernel
theorem dX7_init_13 : decode cX7_init 13 = .ok (.bipush 6, 2) := by decide +kernel
theorem dX7_init_15 : decode cX7_init 15 = .ok (.newarray .int, 2) := by decide +kernel
theorem dX7_init_17 : decode cX7_init 17 = .ok (.putfield 13, 3) := by decide +kernel
theorem dX7_init_20 : decode cX7_init 20 = .ok (.aload_n 0, 1) := by decide +kernel
theorem dX7_init_21 : decode cX7_init 21 = .ok (.bipush 6, 2) := by decide +kernel
theorem dX7_init_23 : decode cX7_init 23 = .ok (.newarray .int, 2) := by decide +kernel
theorem dX7_init_25 : decode cX7_init 25 = .ok (.putfield 16, 3) := by decide +kernel
theorem dX7_init_28 : decode cX7_init 28 = .ok (.aload_n 0, 1) := by decide +kernel
theorem dX7_init_29 : decode cX7_init 29 = .ok (.bipush 6, 2) := by decide +kernel
theorem dX7_init_31 : decode cX7_init 31 = .ok (.newarray .int, 2) := by decide +kernel
theorem dX7_init_33 : decode cX7_init 33 = .ok (.putfield 19, 3) := by decide +kernel
theorem dX7_init_36 : decode cX7_init 36 = .ok (.aload_n 0, 1) := by decide +kernel
theorem dX7_init_37 : decode cX7_init 37 = .ok (.bipush 6, 2) := by decide +kernel
theorem dX7_init_39 : decode cX7_init 39 = .ok (.newarray .int, 2) := by decide +kernel
theorem dX7_init_41 : decode cX7_init 41 = .ok (.putfield 22, 3) := by decide +kernel
theorem dX7_init_44 : decode cX7_init 44 = .ok (.aload_n 0, 1) := by decide +kernel
theorem dX7_init_45 : decode cX7_init 45 = .ok (.bipush 16, 2) := by decide +kernel
theorem dX7_init_47 : decode cX7_init 47 = .ok (.newarray .byte, 2) := by decide +kernel
theorem dX7_init_49 : decode cX7_init 49 = .ok (.putfield 25, 3) := by decide +kernel
theorem dX7_init_52 : decode cX7_init 52 = .ok (.aload_n 0, 1) := by decide +kernel
theorem dX7_init_53 : decode cX7_init 53 = .ok (.sipush 144, 3) := by decide +kernel
theorem dX7_init_56 : decode cX7_init 56 = .ok (.newarray .int, 2) := by decide +kernel
theorem dX7_init_58 : decode cX7_init 58 = .ok (.putfield 29, 3) := by decide +kernel
theorem dX7_init_61 : decode cX7_init 61 = .ok (.aload_n 0, 1) := by decide +kernel
theorem dX7_init_62 : decode cX7_init 62 = .ok (.bipush 12, 2) := by decide +kernel
theorem dX7_init_64 : decode cX7_init 64 = .ok (.newarray .int, 2) := by decide +kernel
theorem dX7_init_66 : decode cX7_init 66 = .ok (.putfield 32, 3) := by decide +kernel
theorem dX7_init_69 : decode cX7_init 69 = .ok (.aload_n 0, 1) := by decide +kernel
theorem dX7_init_70 : decode cX7_init 70 = .ok (.bipush 6, 2) := by decide +kernel
theorem dX7_init_72 : decode cX7_init 72 = .ok (.newarray .int, 2) := by decide +kernel
theorem dX7_init_74 : decode cX7_init 74 = .ok (.putfield 35, 3) := by decide +kernel
theorem dX7_init_77 : decode cX7_init 77 = .ok (.aload_n 0, 1) := by decide +kernel
theorem dX7_init_78 : decode cX7_init 78 = .ok (.bipush 6, 2) := by decide +kernel
theorem dX7_init_80 : decode cX7_init 80 = .ok (.newarray .int, 2) := by decide +kernel
theorem dX7_init_82 : decode cX7_init 82 = .ok (.putfield 38, 3) := by decide +kernel
theorem dX7_init_85 : decode cX7_init 85 = .ok (.aload_n 0, 1) := by decide +kernel
theorem dX7_init_86 : decode cX7_init 86 = .ok (.bipush 6, 2) := by decide +kernel
theorem dX7_init_88 : decode cX7_init 88 = .ok (.newarray .int, 2) := by decide +kernel
theorem dX7_init_90 : decode cX7_init 90 = .ok (.putfield 41, 3) := by decide +kernel
theorem dX7_init_93 : decode cX7_init 93 = .ok (.aload_n 0, 1) := by decide +kernel
theorem dX7_init_94 : decode cX7_init 94 = .ok (.bipush 6, 2) := by decide +kernel
theorem dX7_init_96 : decode cX7_init 96 = .ok (.newarray .int, 2) := by decide +kernel
theorem dX7_init_98 : decode cX7_init 98 = .ok (.putfield 44, 3) := by decide +kernel
theorem dX7_init_101 : decode cX7_init 101 = .ok (.return_, 1) := by decide +kernel
theorem dX7_within_0 : decode cX7_within 0 = .ok (.iload_n 0, 1) := by decide +kernel
theorem dX7_within_1 : decode cX7_within 1 = .ok (.iload_n 1, 1) := by decide +kernel
theorem dX7_within_2 : decode cX7_within 2 = .ok (.if_icmp .lt 12, 3) := by decide +kernel
theorem dX7_within_5 : decode cX7_within 5 = .ok (.iload_n 0, 1) := by decide +kernel
theorem dX7_within_6 : decode cX7_within 6 = .ok (.iload_n 2, 1) := by decide +kernel
theorem dX7_within_7 : decode cX7_within 7 = .ok (.if_icmp .gt 7, 3) := by decide +kernel
theorem dX7_within_10 : decode cX7_within 10 = .ok (.iconst 1, 1) := by decide +kernel
theorem dX7_within_11 : decode cX7_within 11 = .ok (.goto 4, 3) := by decide +kernel
theorem dX7_within_14 : decode cX7_within 14 = .ok (.iconst 0, 1) := by decide +kernel
theorem dX7_within_15 : decode cX7_within 15 = .ok (.ireturn, 1) := by decide +kernel
theorem dX7_isIn_0 : decode cX7_isIn 0 = .ok (.iload_n 0, 1) := by decide +kernel
theorem dX7_isIn_1 : decode cX7_isIn 1 = .ok (.iload_n 1, 1) := by decide +kernel
theorem dX7_isIn_2 : decode cX7_isIn 2 = .ok (.ishr, 1) := by decide +kernel
theorem dX7_isIn_3 : decode cX7_isIn 3 = .ok (.iconst 1, 1) := by decide +kernel
theorem dX7_isIn_4 : decode cX7_isIn 4 = .ok (.iand, 1) := by decide +kernel
theorem dX7_isIn_5 : decode cX7_isIn 5 = .ok (.iconst 1, 1) := by decide +kernel
theorem dX7_isIn_6 : decode cX7_isIn 6 = .ok (.if_icmp .ne 7, 3) := by decide +kernel
theorem dX7_isIn_9 : decode cX7_isIn 9 = .ok (.iconst 1, 1) := by decide +kernel
theorem dX7_isIn_10 : decode cX7_isIn 10 = .ok (.goto 4, 3) := by decide +kernel
theorem dX7_isIn_13 : decode cX7_isIn 13 = .ok (.iconst 0, 1) := by decide +kernel
theorem dX7_isIn_14 : decode cX7_isIn 14 = .ok (.ireturn, 1) := by decide +kernel
theorem dX7_letter_0 : decode cX7_letter 0 = .ok (.iload_n 1, 1) := by decide +kernel
theorem dX7_letter_1 : decode cX7_letter 1 = .ok (.bipush 32, 2) := by decide +kernel
theorem dX7_letter_3 : decode cX7_letter 3 = .ok (.bipush 126, 2) := by decide +kernel
theorem dX7_letter_5 : decode cX7_letter 5 = .ok (.invokestatic 47, 3) := by decide +kernel
theorem dX7_letter_8 : decode cX7_letter 8 = .ok (.ifCond .ne 6, 3) := by decide +kernel
theorem dX7_letter_11 : decode cX7_letter 11 = .ok (.bipush (-102), 2) := by decide +kernel
theorem dX7_letter_13 : decode cX7_letter 13 = .ok (.ireturn, 1) := by decide +kernel
theorem dX7_letter_14 : decode cX7_letter 14 = .ok (.aload_n 0, 1) := by decide +kernel
theorem dX7_letter_15 : decode cX7_letter 15 = .ok (.getfield 51, 3) := by decide +kernel
theorem dX7_letter_18 : decode cX7_letter 18 = .ok (.bipush 16, 2) := by decide +kernel
theorem dX7_letter_20 : decode cX7_letter 20 = .ok (.if_icmp .ne 6, 3) := by decide +kernel
theorem dX7_letter_23 : decode cX7_letter 23 = .ok (.bipush (-104), 2) := by decide +kernel
theorem dX7_letter_25 : decode cX7_letter 25 = .ok (.ireturn, 1) := by decide +kernel
theorem dX7_letter_26 : decode cX7_letter 26 = .ok (.aload_n 0, 1) := by decide +kernel
theorem dX7_letter_27 : decode cX7_letter 27 = .ok (.getfield 25, 3) := by decide +kernel
theorem dX7_letter_30 : decode cX7_letter 30 = .ok (.aload_n 0, 1) := by decide +kernel
theorem dX7_letter_31 : decode cX7_letter 31 = .ok (.getfield 51, 3) := by decide +kernel
theorem dX7_letter_34 : decode cX7_letter 34 = .ok (.iload_n 1, 1) := by decide +kernel
theorem dX7_letter_35 : decode cX7_letter 35 = .ok (.i2b, 1) := by decide +kernel
theorem dX7_letter_36 : decode cX7_letter 36 = .ok (.bastore, 1) := by decide +kernel
theorem dX7_letter_37 : decode cX7_letter 37 = .ok (.aload_n 0, 1) := by decide +kernel
theorem dX7_letter_38 : decode cX7_letter 38 = .ok (.dup, 1) := by decide +kernel
theorem dX7_letter_39 : decode cX7_letter 39 = .ok (.getfield 51, 3) := by decide +kernel
theorem dX7_letter_42 : decode cX7_letter 42 = .ok (.iconst 1, 1) := by decide +kernel
theorem dX7_letter_43 : decode cX7_letter 43 = .ok (.iadd, 1) := by decide +kernel
theorem dX7_letter_44 : decode cX7_letter 44 = .ok (.putfield 51, 3) := by decide +kernel
theorem dX7_letter_47 : decode cX7_letter 47 = .ok (.aload_n 0, 1) := by decide +kernel
theorem dX7_letter_48 : decode cX7_letter 48 = .ok (.getfield 51, 3) := by decide +kernel
theorem dX7_letter_51 : decode cX7_letter 51 = .ok (.ireturn, 1) := by decide +kernel
theorem dX7_blank_0 : decode cX7_blank 0 = .ok (.aload_n 0, 1) := by decide +kernel
theorem dX7_blank_1 : decode cX7_blank 1 = .ok (.getfield 51, 3) := by decide +kernel
theorem dX7_blank_4 : decode cX7_blank 4 = .ok (.istore_n 1, 1) := by decide +kernel
theorem dX7_blank_5 : decode cX7_blank 5 = .ok (.aload_n 0, 1) := by decide +kernel
theorem dX7_blank_6 : decode cX7_blank 6 = .ok (.iconst 0, 1) := by decide +kernel
theorem dX7_blank_7 : decode cX7_blank 7 = .ok (.putfield 51, 3) := by decide +kernel
theorem dX7_blank_10 : decode cX7_blank 10 = .ok (.iload_n 1, 1) := by decide +kernel
theorem dX7_blank_11 : decode cX7_blank 11 = .ok (.ireturn, 1) := by decide +kernel
theorem dX7_kindBy_0 : decode cX7_kindBy 0 = .ok (.iload_n 0, 1) := by decide +kernel
theorem dX7_kindBy_1 : decode cX7_kindBy 1 = .ok (.tableswitch 85 98 112 #[81, 85, 85, 85, 85, 79, 85, 85, 85, 85, 77, 85, 85, 83, 75], 75) := by decide +kernel
theorem dX7_kindBy_76 : decode cX7_kindBy 76 = .ok (.iconst 0, 1) := by decide +kernel
theorem dX7_kindBy_77 : decode cX7_kindBy 77 = .ok (.ireturn, 1) := by decide +kernel
theorem dX7_kindBy_78 : decode cX7_kindBy 78 = .ok (.iconst 1, 1) := by decide +kernel
theorem dX7_kindBy_79 : decode cX7_kindBy 79 = .ok (.ireturn, 1) := by decide +kernel
theorem dX7_kindBy_80 : decode cX7_kindBy 80 = .ok (.iconst 2, 1) := by decide +kernel
theorem dX7_kindBy_81 : decode cX7_kindBy 81 = .ok (.ireturn, 1) := by decide +kernel
theorem dX7_kindBy_82 : decode cX7_kindBy 82 = .ok (.iconst 3, 1) := by decide +kernel
theorem dX7_kindBy_83 : decode cX7_kindBy 83 = .ok (.ireturn, 1) := by decide +kernel
theorem dX7_kindBy_84 : decode cX7_kindBy 84 = .ok (.iconst 4, 1) := by decide +kernel
theorem dX7_kindBy_85 : decode cX7_kindBy 85 = .ok (.ireturn, 1) := by decide +kernel
theorem dX7_kindBy_86 : decode cX7_kindBy 86 = .ok (.iconst (-1), 1) := by decide +kernel
theorem dX7_kindBy_87 : decode cX7_kindBy 87 = .ok (.ireturn, 1) := by decide +kernel
theorem dX7_at_0 : decode cX7_at 0 = .ok (.iload_n 1, 1) := by decide +kernel
theorem dX7_at_1 : decode cX7_at 1 = .ok (.aload_n 0, 1) := by decide +kernel
theorem dX7_at_2 : decode cX7_at 2 = .ok (.getfield 51, 3) := by decide +kernel
theorem dX7_at_5 : decode cX7_at 5 = .ok (.if_icmp .ge 12, 3) := by decide +kernel
theorem dX7_at_8 : decode cX7_at 8 = .ok (.aload_n 0, 1) := by decide +kernel
theorem dX7_at_9 : decode cX7_at 9 = .ok (.getfield 25, 3) := by decide +kernel
theorem dX7_at_12 : decode cX7_at 12 = .ok (.iload_n 1, 1) := by decide +kernel
theorem dX7_at_13 : decode cX7_at 13 = .ok (.baload, 1) := by decide +kernel
theorem dX7_at_14 : decode cX7_at 14 = .ok (.goto 4, 3) := by decide +kernel
theorem dX7_at_17 : decode cX7_at 17 = .ok (.iconst 0, 1) := by decide +kernel
theorem dX7_at_18 : decode cX7_at 18 = .ok (.ireturn, 1) := by decide +kernel
theorem dX7_read_0 : decode cX7_read 0 = .ok (.aload_n 0, 1) := by decide +kernel
theorem dX7_read_1 : decode cX7_read 1 = .ok (.iconst 0, 1) := by decide +kernel
theorem dX7_read_2 : decode cX7_read 2 = .ok (.putfield 55, 3) := by decide +kernel
theorem dX7_read_5 : decode cX7_read 5 = .ok (.iconst 0, 1) := by decide +kernel
theorem dX7_read_6 : decode cX7_read 6 = .ok (.istore_n 1, 1) := by decide +kernel
theorem dX7_read_7 : decode cX7_read 7 = .ok (.iload_n 1, 1) := by decide +kernel
theorem dX7_read_8 : decode cX7_read 8 = .ok (.bipush 12, 2) := by decide +kernel
theorem dX7_read_10 : decode cX7_read 10 = .ok (.if_icmp .ge 21, 3) := by decide +kernel
theorem dX7_read_13 : decode cX7_read 13 = .ok (.aload_n 0, 1) := by decide +kernel
theorem dX7_read_14 : decode cX7_read 14 = .ok (.iload_n 1, 1) := by decide +kernel
theorem dX7_read_15 : decode cX7_read 15 = .ok (.invokevirtual 59, 3) := by decide +kernel
theorem dX7_read_18 : decode cX7_read 18 = .ok (.invokestatic 63, 3) := by decide +kernel
theorem dX7_read_21 : decode cX7_read 21 = .ok (.iconst (-1), 1) := by decide +kernel
theorem dX7_read_22 : decode cX7_read 22 = .ok (.if_icmp .eq 9, 3) := by decide +kernel
theorem dX7_read_25 : decode cX7_read 25 = .ok (.iinc 1 1, 3) := by decide +kernel
theorem dX7_read_28 : decode cX7_read 28 = .ok (.goto (-21), 3) := by decide +kernel
theorem dX7_read_31 : decode cX7_read 31 = .ok (.aload_n 0, 1) := by decide +kernel
theorem dX7_read_32 : decode cX7_read 32 = .ok (.iload_n 1, 1) := by decide +kernel
theorem dX7_read_33 : decode cX7_read 33 = .ok (.putfield 66, 3) := by decide +kernel
theorem dX7_read_36 : decode cX7_read 36 = .ok (.iload_n 1, 1) := by decide +kernel
theorem dX7_read_37 : decode cX7_read 37 = .ok (.iconst 4, 1) := by decide +kernel
theorem dX7_read_38 : decode cX7_read 38 = .ok (.if_icmp .lt 13, 3) := by decide +kernel
theorem dX7_read_41 : decode cX7_read 41 = .ok (.aload_n 0, 1) := by decide +kernel
theorem dX7_read_42 : decode cX7_read 42 = .ok (.iload_n 1, 1) := by decide +kernel
theorem dX7_read_43 : decode cX7_read 43 = .ok (.invokevirtual 59, 3) := by decide +kernel
theorem dX7_read_46 : decode cX7_read 46 = .ok (.bipush 59, 2) := by decide +kernel
theorem dX7_read_48 : decode cX7_read 48 = .ok (.if_icmp .eq 5, 3) := by decide +kernel
theorem dX7_read_51 : decode cX7_read 51 = .ok (.iload_n 1, 1) := by decide +kernel
theorem dX7_read_52 : decode cX7_read 52 = .ok (.ireturn, 1) := by decide +kernel
theorem dX7_read_53 : decode cX7_read 53 = .ok (.aload_n 0, 1) := by decide +kernel
theorem dX7_read_54 : decode cX7_read 54 = .ok (.iload_n 1, 1) := by decide +kernel
theorem dX7_read_55 : decode cX7_read 55 = .ok (.iconst 1, 1) := by decide +kernel
theorem dX7_read_56 : decode cX7_read 56 = .ok (.iadd, 1) := by decide +kernel
theorem dX7_read_57 : decode cX7_read 57 = .ok (.invokevirtual 59, 3) := by decide +kernel
theorem dX7_read_60 : decode cX7_read 60 = .ok (.bipush 48, 2) := by decide +kernel
theorem dX7_read_62 : decode cX7_read 62 = .ok (.isub, 1) := by decide +kernel
theorem dX7_read_63 : decode cX7_read 63 = .ok (.iconst 1, 1) := by decide +kernel
theorem dX7_read_64 : decode cX7_read 64 = .ok (.bipush 9, 2) := by decide +kernel
theorem dX7_read_66 : decode cX7_read 66 = .ok (.invokestatic 47, 3) := by decide +kernel
theorem dX7_read_69 : decode cX7_read 69 = .ok (.istore_n 2, 1) := by decide +kernel
theorem dX7_read_70 : decode cX7_read 70 = .ok (.aload_n 0, 1) := by decide +kernel
theorem dX7_read_71 : decode cX7_read 71 = .ok (.iload_n 2, 1) := by decide +kernel
theorem dX7_read_72 : decode cX7_read 72 = .ok (.ifCond .eq 17, 3) := by decide +kernel
theorem dX7_read_75 : decode cX7_read 75 = .ok (.iload_n 1, 1) := by decide +kernel
theorem dX7_read_76 : decode cX7_read 76 = .ok (.iconst 2, 1) := by decide +kernel
theorem dX7_read_77 : decode cX7_read 77 = .ok (.iadd, 1) := by decide +kernel
theorem dX7_read_78 : decode cX7_read 78 = .ok (.aload_n 0, 1) := by decide +kernel
theorem dX7_read_79 : decode cX7_read 79 = .ok (.getfield 51, 3) := by decide +kernel
theorem dX7_read_82 : decode cX7_read 82 = .ok (.if_icmp .ne 7, 3) := by decide +kernel
theorem dX7_read_85 : decode cX7_read 85 = .ok (.iconst 1, 1) := by decide +kernel
theorem dX7_read_86 : decode cX7_read 86 = .ok (.goto 4, 3) := by decide +kernel
theorem dX7_read_89 : decode cX7_read 89 = .ok (.iconst 0, 1) := by decide +kernel
theorem dX7_read_90 : decode cX7_read 90 = .ok (.putfield 55, 3) := by decide +kernel
theorem dX7_read_93 : decode cX7_read 93 = .ok (.iload_n 2, 1) := by decide +kernel
theorem dX7_read_94 : decode cX7_read 94 = .ok (.ifCond .eq 9, 3) := by decide +kernel
theorem dX7_read_97 : decode cX7_read 97 = .ok (.iload_n 1, 1) := by decide +kernel
theorem dX7_read_98 : decode cX7_read 98 = .ok (.iconst 2, 1) := by decide +kernel
theorem dX7_read_99 : decode cX7_read 99 = .ok (.iadd, 1) := by decide +kernel
theorem dX7_read_100 : decode cX7_read 100 = .ok (.goto 6, 3) := by decide +kernel
theorem dX7_read_103 : decode cX7_read 103 = .ok (.iload_n 1, 1) := by decide +kernel
theorem dX7_read_104 : decode cX7_read 104 = .ok (.iconst 1, 1) := by decide +kernel
theorem dX7_read_105 : decode cX7_read 105 = .ok (.iadd, 1) := by decide +kernel
theorem dX7_read_106 : decode cX7_read 106 = .ok (.ireturn, 1) := by decide +kernel
theorem dX7_fault_0 : decode cX7_fault 0 = .ok (.aload_n 0, 1) := by decide +kernel
theorem dX7_fault_1 : decode cX7_fault 1 = .ok (.invokevirtual 69, 3) := by decide +kernel
theorem dX7_fault_4 : decode cX7_fault 4 = .ok (.ireturn, 1) := by decide +kernel
theorem dX7_yard_0 : decode cX7_yard 0 = .ok (.aload_n 0, 1) := by decide +kernel
theorem dX7_yard_1 : decode cX7_yard 1 = .ok (.invokevirtual 69, 3) := by decide +kernel
theorem dX7_yard_4 : decode cX7_yard 4 = .ok (.istore_n 1, 1) := by decide +kernel
theorem dX7_yard_5 : decode cX7_yard 5 = .ok (.aload_n 0, 1) := by decide +kernel
theorem dX7_yard_6 : decode cX7_yard 6 = .ok (.getfield 55, 3) := by decide +kernel
theorem dX7_yard_9 : decode cX7_yard 9 = .ok (.ifCond .ne 6, 3) := by decide +kernel
theorem dX7_yard_12 : decode cX7_yard 12 = .ok (.bipush (-103), 2) := by decide +kernel
theorem dX7_yard_14 : decode cX7_yard 14 = .ok (.ireturn, 1) := by decide +kernel
theorem dX7_yard_15 : decode cX7_yard 15 = .ok (.aload_n 0, 1) := by decide +kernel
theorem dX7_yard_16 : decode cX7_yard 16 = .ok (.aload_n 0, 1) := by decide +kernel
theorem dX7_yard_17 : decode cX7_yard 17 = .ok (.getfield 66, 3) := by decide +kernel
theorem dX7_yard_20 : decode cX7_yard 20 = .ok (.putfield 73, 3) := by decide +kernel
theorem dX7_yard_23 : decode cX7_yard 23 = .ok (.iconst 0, 1) := by decide +kernel
theorem dX7_yard_24 : decode cX7_yard 24 = .ok (.istore_n 2, 1) := by decide +kernel
theorem dX7_yard_25 : decode cX7_yard 25 = .ok (.iload_n 2, 1) := by decide +kernel
theorem dX7_yard_26 : decode cX7_yard 26 = .ok (.aload_n 0, 1) := by decide +kernel
theorem dX7_yard_27 : decode cX7_yard 27 = .ok (.getfield 73, 3) := by decide +kernel
theorem dX7_yard_30 : decode cX7_yard 30 = .ok (.if_icmp .ge 24, 3) := by decide +kernel
theorem dX7_yard_33 : decode cX7_yard 33 = .ok (.aload_n 0, 1) := by decide +kernel
theorem dX7_yard_34 : decode cX7_yard 34 = .ok (.getfield 7, 3) := by decide +kernel
theorem dX7_yard_37 : decode cX7_yard 37 = .ok (.iload_n 2, 1) := by decide +kernel
theorem dX7_yard_38 : decode cX7_yard 38 = .ok (.aload_n 0, 1) := by decide +kernel
theorem dX7_yard_39 : decode cX7_yard 39 = .ok (.getfield 25, 3) := by decide +kernel
theorem dX7_yard_42 : decode cX7_yard 42 = .ok (.iload_n 2, 1) := by decide +kernel
theorem dX7_yard_43 : decode cX7_yard 43 = .ok (.baload, 1) := by decide +kernel
theorem dX7_yard_44 : decode cX7_yard 44 = .ok (.invokestatic 63, 3) := by decide +kernel
theorem dX7_yard_47 : decode cX7_yard 47 = .ok (.iastore, 1) := by decide +kernel
theorem dX7_yard_48 : decode cX7_yard 48 = .ok (.iinc 2 1, 3) := by decide +kernel
theorem dX7_yard_51 : decode cX7_yard 51 = .ok (.goto (-26), 3) := by decide +kernel
theorem dX7_yard_54 : decode cX7_yard 54 = .ok (.aload_n 0, 1) := by decide +kernel
theorem dX7_yard_55 : decode cX7_yard 55 = .ok (.aload_n 0, 1) := by decide +kernel
theorem dX7_yard_56 : decode cX7_yard 56 = .ok (.getfield 25, 3) := by decide +kernel
theorem dX7_yard_59 : decode cX7_yard 59 = .ok (.iload_n 1, 1) := by decide +kernel
theorem dX7_yard_60 : decode cX7_yard 60 = .ok (.iconst 1, 1) := by decide +kernel
theorem dX7_yard_61 : decode cX7_yard 61 = .ok (.isub, 1) := by decide +kernel
theorem dX7_yard_62 : decode cX7_yard 62 = .ok (.baload, 1) := by decide +kernel
theorem dX7_yard_63 : decode cX7_yard 63 = .ok (.bipush 48, 2) := by decide +kernel
theorem dX7_yard_65 : decode cX7_yard 65 = .ok (.isub, 1) := by decide +kernel
theorem dX7_yard_66 : decode cX7_yard 66 = .ok (.putfield 76, 3) := by decide +kernel
theorem dX7_yard_69 : decode cX7_yard 69 = .ok (.aload_n 0, 1) := by decide +kernel
theorem dX7_yard_70 : decode cX7_yard 70 = .ok (.dup, 1) := by decide +kernel
theorem dX7_yard_71 : decode cX7_yard 71 = .ok (.getfield 79, 3) := by decide +kernel
theorem dX7_yard_74 : decode cX7_yard 74 = .ok (.iconst 1, 1) := by decide +kernel
theorem dX7_yard_75 : decode cX7_yard 75 = .ok (.iadd, 1) := by decide +kernel
theorem dX7_yard_76 : decode cX7_yard 76 = .ok (.putfield 79, 3) := by decide +kernel
theorem dX7_yard_79 : decode cX7_yard 79 = .ok (.aload_n 0, 1) := by decide +kernel
theorem dX7_yard_80 : decode cX7_yard 80 = .ok (.iconst 0, 1) := by decide +kernel
theorem dX7_yard_81 : decode cX7_yard 81 = .ok (.putfield 82, 3) := by decide +kernel
theorem dX7_yard_84 : decode cX7_yard 84 = .ok (.aload_n 0, 1) := by decide +kernel
theorem dX7_yard_85 : decode cX7_yard 85 = .ok (.iconst 0, 1) := by decide +kernel
theorem dX7_yard_86 : decode cX7_yard 86 = .ok (.putfield 85, 3) := by decide +kernel
theorem dX7_yard_89 : decode cX7_yard 89 = .ok (.aload_n 0, 1) := by decide +kernel
theorem dX7_yard_90 : decode cX7_yard 90 = .ok (.iconst 0, 1) := by decide +kernel
theorem dX7_yard_91 : decode cX7_yard 91 = .ok (.putfield 88, 3) := by decide +kernel
theorem dX7_yard_94 : decode cX7_yard 94 = .ok (.aload_n 0, 1) := by decide +kernel
theorem dX7_yard_95 : decode cX7_yard 95 = .ok (.iconst 0, 1) := by decide +kernel
theorem dX7_yard_96 : decode cX7_yard 96 = .ok (.putfield 91, 3) := by decide +kernel
theorem dX7_yard_99 : decode cX7_yard 99 = .ok (.aload_n 0, 1) := by decide +kernel
theorem dX7_yard_100 : decode cX7_yard 100 = .ok (.iconst 0, 1) := by decide +kernel
theorem dX7_yard_101 : decode cX7_yard 101 = .ok (.putfield 94, 3) := by decide +kernel
theorem dX7_yard_104 : decode cX7_yard 104 = .ok (.aload_n 0, 1) := by decide +kernel
theorem dX7_yard_105 : decode cX7_yard 105 = .ok (.iconst 0, 1) := by decide +kernel
theorem dX7_yard_106 : decode cX7_yard 106 = .ok (.putfield 51, 3) := by decide +kernel
theorem dX7_yard_109 : decode cX7_yard 109 = .ok (.aload_n 0, 1) := by decide +kernel
theorem dX7_yard_110 : decode cX7_yard 110 = .ok (.getfield 73, 3) := by decide +kernel
theorem dX7_yard_113 : decode cX7_yard 113 = .ok (.ireturn, 1) := by decide +kernel
theorem dX7_isPlace_0 : decode cX7_isPlace 0 = .ok (.iload_n 1, 1) := by decide +kernel
theorem dX7_isPlace_1 : decode cX7_isPlace 1 = .ok (.iconst 0, 1) := by decide +kernel
theorem dX7_isPlace_2 : decode cX7_isPlace 2 = .ok (.aload_n 0, 1) := by decide +kernel
theorem dX7_isPlace_3 : decode cX7_isPlace 3 = .ok (.getfield 73, 3) := by decide +kernel
theorem dX7_isPlace_6 : decode cX7_isPlace 6 = .ok (.iconst 1, 1) := by decide +kernel
theorem dX7_isPlace_7 : decode cX7_isPlace 7 = .ok (.isub, 1) := by decide +kernel
theorem dX7_isPlace_8 : decode cX7_isPlace 8 = .ok (.invokestatic 47, 3) := by decide +kernel
theorem dX7_isPlace_11 : decode cX7_isPlace 11 = .ok (.ireturn, 1) := by decide +kernel
theorem dX7_swayBy_0 : decode cX7_swayBy 0 = .ok (.aload_n 0, 1) := by decide +kernel
theorem dX7_swayBy_1 : decode cX7_swayBy 1 = .ok (.getfield 7, 3) := by decide +kernel
theorem dX7_swayBy_4 : decode cX7_swayBy 4 = .ok (.iload_n 1, 1) := by decide +kernel
theorem dX7_swayBy_5 : decode cX7_swayBy 5 = .ok (.iaload, 1) := by decide +kernel
theorem dX7_swayBy_6 : decode cX7_swayBy 6 = .ok (.istore 4, 2) := by decide +kernel
theorem dX7_swayBy_8 : decode cX7_swayBy 8 = .ok (.iload_n 2, 1) := by decide +kernel
theorem dX7_swayBy_9 : decode cX7_swayBy 9 = .ok (.ifCond .le 45, 3) := by decide +kernel
theorem dX7_swayBy_12 : decode cX7_swayBy 12 = .ok (.iload_n 3, 1) := by decide +kernel
theorem dX7_swayBy_13 : decode cX7_swayBy 13 = .ok (.iload_n 2, 1) := by decide +kernel
theorem dX7_swayBy_14 : decode cX7_swayBy 14 = .ok (.iadd, 1) := by decide +kernel
theorem dX7_swayBy_15 : decode cX7_swayBy 15 = .ok (.iload 4, 2) := by decide +kernel
theorem dX7_swayBy_17 : decode cX7_swayBy 17 = .ok (.iconst 1, 1) := by decide +kernel
theorem dX7_swayBy_18 : decode cX7_swayBy 18 = .ok (.if_icmp .ne 7, 3) := by decide +kernel
theorem dX7_swayBy_21 : decode cX7_swayBy 21 = .ok (.iconst 1, 1) := by decide +kernel
theorem dX7_swayBy_22 : decode cX7_swayBy 22 = .ok (.goto 30, 3) := by decide +kernel
theorem dX7_swayBy_25 : decode cX7_swayBy 25 = .ok (.iload 4, 2) := by decide +kernel
theorem dX7_swayBy_27 : decode cX7_swayBy 27 = .ok (.iconst 2, 1) := by decide +kernel
theorem dX7_swayBy_28 : decode cX7_swayBy 28 = .ok (.if_icmp .eq 9, 3) := by decide +kernel
theorem dX7_swayBy_31 : decode cX7_swayBy 31 = .ok (.iload 4, 2) := by decide +kernel
theorem dX7_swayBy_33 : decode cX7_swayBy 33 = .ok (.iconst 4, 1) := by decide +kernel
theorem dX7_swayBy_34 : decode cX7_swayBy 34 = .ok (.if_icmp .ne 7, 3) := by decide +kernel
theorem dX7_swayBy_37 : decode cX7_swayBy 37 = .ok (.iconst 2, 1) := by decide +kernel
theorem dX7_swayBy_38 : decode cX7_swayBy 38 = .ok (.goto 14, 3) := by decide +kernel
theorem dX7_swayBy_41 : decode cX7_swayBy 41 = .ok (.iload 4, 2) := by decide +kernel
theorem dX7_swayBy_43 : decode cX7_swayBy 43 = .ok (.iconst 3, 1) := by decide +kernel
theorem dX7_swayBy_44 : decode cX7_swayBy 44 = .ok (.if_icmp .ne 7, 3) := by decide +kernel
theorem dX7_swayBy_47 : decode cX7_swayBy 47 = .ok (.iload_n 2, 1) := by decide +kernel
theorem dX7_swayBy_48 : decode cX7_swayBy 48 = .ok (.goto 4, 3) := by decide +kernel
theorem dX7_swayBy_51 : decode cX7_swayBy 51 = .ok (.iconst 0, 1) := by decide +kernel
theorem dX7_swayBy_52 : decode cX7_swayBy 52 = .ok (.iadd, 1) := by decide +kernel
theorem dX7_swayBy_53 : decode cX7_swayBy 53 = .ok (.ireturn, 1) := by decide +kernel
theorem dX7_swayBy_54 : decode cX7_swayBy 54 = .ok (.iload 4, 2) := by decide +kernel
theorem dX7_swayBy_56 : decode cX7_swayBy 56 = .ok (.iconst 1, 1) := by decide +kernel
theorem dX7_swayBy_57 : decode cX7_swayBy 57 = .ok (.if_icmp .ne 7, 3) := by decide +kernel
theorem dX7_swayBy_60 : decode cX7_swayBy 60 = .ok (.iconst (-1), 1) := by decide +kernel
theorem dX7_swayBy_61 : decode cX7_swayBy 61 = .ok (.goto 25, 3) := by decide +kernel
theorem dX7_swayBy_64 : decode cX7_swayBy 64 = .ok (.iload 4, 2) := by decide +kernel
theorem dX7_swayBy_66 : decode cX7_swayBy 66 = .ok (.iconst 4, 1) := by decide +kernel
theorem dX7_swayBy_67 : decode cX7_swayBy 67 = .ok (.if_icmp .ne 7, 3) := by decide +kernel
theorem dX7_swayBy_70 : decode cX7_swayBy 70 = .ok (.iconst 0, 1) := by decide +kernel
theorem dX7_swayBy_71 : decode cX7_swayBy 71 = .ok (.goto 15, 3) := by decide +kernel
theorem dX7_swayBy_74 : decode cX7_swayBy 74 = .ok (.iload 4, 2) := by decide +kernel
theorem dX7_swayBy_76 : decode cX7_swayBy 76 = .ok (.iconst 3, 1) := by decide +kernel
theorem dX7_swayBy_77 : decode cX7_swayBy 77 = .ok (.if_icmp .ne 7, 3) := by decide +kernel
theorem dX7_swayBy_80 : decode cX7_swayBy 80 = .ok (.iconst 1, 1) := by decide +kernel
theorem dX7_swayBy_81 : decode cX7_swayBy 81 = .ok (.goto 5, 3) := by decide +kernel
theorem dX7_swayBy_84 : decode cX7_swayBy 84 = .ok (.bipush (-2), 2) := by decide +kernel
theorem dX7_swayBy_86 : decode cX7_swayBy 86 = .ok (.istore 5, 2) := by decide +kernel
end
section
theorem dX7_swayBy_88 : decode cX7_swayBy 88 = .ok (.iload_n 3, 1) := by decide +kernel
theorem dX7_swayBy_89 : decode cX7_swayBy 89 = .ok (.iload 5, 2) := by decide +kernel
theorem dX7_swayBy_91 : decode cX7_swayBy 91 = .ok (.iadd, 1) := by decide +kernel
theorem dX7_swayBy_92 : decode cX7_swayBy 92 = .ok (.ifCond .ge 7, 3) := by decide +kernel
theorem dX7_swayBy_95 : decode cX7_swayBy 95 = .ok (.iconst 0, 1) := by decide +kernel
theorem dX7_swayBy_96 : decode cX7_swayBy 96 = .ok (.goto 7, 3) := by decide +kernel
theorem dX7_swayBy_99 : decode cX7_swayBy 99 = .ok (.iload_n 3, 1) := by decide +kernel
theorem dX7_swayBy_100 : decode cX7_swayBy 100 = .ok (.iload 5, 2) := by decide +kernel
theorem dX7_swayBy_102 : decode cX7_swayBy 102 = .ok (.iadd, 1) := by decide +kernel
theorem dX7_swayBy_103 : decode cX7_swayBy 103 = .ok (.ireturn, 1) := by decide +kernel
theorem dX7_bears_0 : decode cX7_bears 0 = .ok (.bipush 12, 2) := by decide +kernel
theorem dX7_bears_2 : decode cX7_bears 2 = .ok (.iload_n 0, 1) := by decide +kernel
theorem dX7_bears_3 : decode cX7_bears 3 = .ok (.isub, 1) := by decide +kernel
theorem dX7_bears_4 : decode cX7_bears 4 = .ok (.ireturn, 1) := by decide +kernel
theorem dX7_placeNow_0 : decode cX7_placeNow 0 = .ok (.iload_n 2, 1) := by decide +kernel
theorem dX7_placeNow_1 : decode cX7_placeNow 1 = .ok (.tableswitch 64 0 4 #[35, 42, 42, 42, 50], 35) := by decide +kernel
theorem dX7_placeNow_36 : decode cX7_placeNow 36 = .ok (.aload_n 0, 1) := by decide +kernel
theorem dX7_placeNow_37 : decode cX7_placeNow 37 = .ok (.getfield 7, 3) := by decide +kernel
theorem dX7_placeNow_40 : decode cX7_placeNow 40 = .ok (.iload_n 1, 1) := by decide +kernel
theorem dX7_placeNow_41 : decode cX7_placeNow 41 = .ok (.iaload, 1) := by decide +kernel
theorem dX7_placeNow_42 : decode cX7_placeNow 42 = .ok (.ireturn, 1) := by decide +kernel
theorem dX7_placeNow_43 : decode cX7_placeNow 43 = .ok (.aload_n 0, 1) := by decide +kernel
theorem dX7_placeNow_44 : decode cX7_placeNow 44 = .ok (.iload_n 1, 1) := by decide +kernel
theorem dX7_placeNow_45 : decode cX7_placeNow 45 = .ok (.iload_n 2, 1) := by decide +kernel
theorem dX7_placeNow_46 : decode cX7_placeNow 46 = .ok (.iconst 0, 1) := by decide +kernel
theorem dX7_placeNow_47 : decode cX7_placeNow 47 = .ok (.invokevirtual 97, 3) := by decide +kernel
theorem dX7_placeNow_50 : decode cX7_placeNow 50 = .ok (.ireturn, 1) := by decide +kernel
theorem dX7_placeNow_51 : decode cX7_placeNow 51 = .ok (.aload_n 0, 1) := by decide +kernel
theorem dX7_placeNow_52 : decode cX7_placeNow 52 = .ok (.iload_n 1, 1) := by decide +kernel
theorem dX7_placeNow_53 : decode cX7_placeNow 53 = .ok (.iconst 0, 1) := by decide +kernel
theorem dX7_placeNow_54 : decode cX7_placeNow 54 = .ok (.bipush 12, 2) := by decide +kernel
theorem dX7_placeNow_56 : decode cX7_placeNow 56 = .ok (.invokevirtual 97, 3) := by decide +kernel
theorem dX7_placeNow_59 : decode cX7_placeNow 59 = .ok (.bipush 12, 2) := by decide +kernel
theorem dX7_placeNow_61 : decode cX7_placeNow 61 = .ok (.isub, 1) := by decide +kernel
theorem dX7_placeNow_62 : decode cX7_placeNow 62 = .ok (.iconst 2, 1) := by decide +kernel
theorem dX7_placeNow_63 : decode cX7_placeNow 63 = .ok (.iadd, 1) := by decide +kernel
theorem dX7_placeNow_64 : decode cX7_placeNow 64 = .ok (.ireturn, 1) := by decide +kernel
theorem dX7_placeNow_65 : decode cX7_placeNow 65 = .ok (.aload_n 0, 1) := by decide +kernel
theorem dX7_placeNow_66 : decode cX7_placeNow 66 = .ok (.iload_n 1, 1) := by decide +kernel
theorem dX7_placeNow_67 : decode cX7_placeNow 67 = .ok (.invokevirtual 101, 3) := by decide +kernel
theorem dX7_placeNow_70 : decode cX7_placeNow 70 = .ok (.ireturn, 1) := by decide +kernel
theorem dX7_about_0 : decode cX7_about 0 = .ok (.aload_n 0, 1) := by decide +kernel
theorem dX7_about_1 : decode cX7_about 1 = .ok (.iload_n 1, 1) := by decide +kernel
theorem dX7_about_2 : decode cX7_about 2 = .ok (.invokevirtual 104, 3) := by decide +kernel
theorem dX7_about_5 : decode cX7_about 5 = .ok (.ifCond .ne 8, 3) := by decide +kernel
theorem dX7_about_8 : decode cX7_about 8 = .ok (.bipush (-101), 2) := by decide +kernel
theorem dX7_about_10 : decode cX7_about 10 = .ok (.goto 23, 3) := by decide +kernel
theorem dX7_about_13 : decode cX7_about 13 = .ok (.iload_n 2, 1) := by decide +kernel
theorem dX7_about_14 : decode cX7_about 14 = .ok (.iconst 0, 1) := by decide +kernel
theorem dX7_about_15 : decode cX7_about 15 = .ok (.iconst 5, 1) := by decide +kernel
theorem dX7_about_16 : decode cX7_about 16 = .ok (.invokestatic 47, 3) := by decide +kernel
theorem dX7_about_19 : decode cX7_about 19 = .ok (.ifCond .eq 12, 3) := by decide +kernel
theorem dX7_about_22 : decode cX7_about 22 = .ok (.aload_n 0, 1) := by decide +kernel
theorem dX7_about_23 : decode cX7_about 23 = .ok (.iload_n 1, 1) := by decide +kernel
theorem dX7_about_24 : decode cX7_about 24 = .ok (.iload_n 2, 1) := by decide +kernel
theorem dX7_about_25 : decode cX7_about 25 = .ok (.invokevirtual 108, 3) := by decide +kernel
theorem dX7_about_28 : decode cX7_about 28 = .ok (.goto 5, 3) := by decide +kernel
theorem dX7_about_31 : decode cX7_about 31 = .ok (.bipush (-102), 2) := by decide +kernel
theorem dX7_about_33 : decode cX7_about 33 = .ok (.ireturn, 1) := by decide +kernel
theorem dX7_as_0 : decode cX7_as 0 = .ok (.aload_n 0, 1) := by decide +kernel
theorem dX7_as_1 : decode cX7_as 1 = .ok (.iload_n 1, 1) := by decide +kernel
theorem dX7_as_2 : decode cX7_as 2 = .ok (.invokevirtual 104, 3) := by decide +kernel
theorem dX7_as_5 : decode cX7_as 5 = .ok (.ifCond .ne 6, 3) := by decide +kernel
theorem dX7_as_8 : decode cX7_as 8 = .ok (.bipush (-101), 2) := by decide +kernel
theorem dX7_as_10 : decode cX7_as 10 = .ok (.ireturn, 1) := by decide +kernel
theorem dX7_as_11 : decode cX7_as 11 = .ok (.iload_n 2, 1) := by decide +kernel
theorem dX7_as_12 : decode cX7_as 12 = .ok (.iconst 0, 1) := by decide +kernel
theorem dX7_as_13 : decode cX7_as 13 = .ok (.iconst 4, 1) := by decide +kernel
theorem dX7_as_14 : decode cX7_as 14 = .ok (.invokestatic 47, 3) := by decide +kernel
theorem dX7_as_17 : decode cX7_as 17 = .ok (.ifCond .ne 6, 3) := by decide +kernel
theorem dX7_as_20 : decode cX7_as 20 = .ok (.bipush (-102), 2) := by decide +kernel
theorem dX7_as_22 : decode cX7_as 22 = .ok (.ireturn, 1) := by decide +kernel
theorem dX7_as_23 : decode cX7_as 23 = .ok (.aload_n 0, 1) := by decide +kernel
theorem dX7_as_24 : decode cX7_as 24 = .ok (.getfield 7, 3) := by decide +kernel
theorem dX7_as_27 : decode cX7_as 27 = .ok (.iload_n 1, 1) := by decide +kernel
theorem dX7_as_28 : decode cX7_as 28 = .ok (.iaload, 1) := by decide +kernel
theorem dX7_as_29 : decode cX7_as 29 = .ok (.istore_n 3, 1) := by decide +kernel
theorem dX7_as_30 : decode cX7_as 30 = .ok (.iload_n 2, 1) := by decide +kernel
theorem dX7_as_31 : decode cX7_as 31 = .ok (.ifCond .eq 18, 3) := by decide +kernel
theorem dX7_as_34 : decode cX7_as 34 = .ok (.iload_n 3, 1) := by decide +kernel
theorem dX7_as_35 : decode cX7_as 35 = .ok (.iload_n 2, 1) := by decide +kernel
theorem dX7_as_36 : decode cX7_as 36 = .ok (.if_icmp .eq 13, 3) := by decide +kernel
theorem dX7_as_39 : decode cX7_as 39 = .ok (.iload_n 2, 1) := by decide +kernel
theorem dX7_as_40 : decode cX7_as 40 = .ok (.iconst 1, 1) := by decide +kernel
theorem dX7_as_41 : decode cX7_as 41 = .ok (.if_icmp .ne 12, 3) := by decide +kernel
theorem dX7_as_44 : decode cX7_as 44 = .ok (.iload_n 3, 1) := by decide +kernel
theorem dX7_as_45 : decode cX7_as 45 = .ok (.iconst 4, 1) := by decide +kernel
theorem dX7_as_46 : decode cX7_as 46 = .ok (.if_icmp .ne 7, 3) := by decide +kernel
theorem dX7_as_49 : decode cX7_as 49 = .ok (.iload_n 1, 1) := by decide +kernel
theorem dX7_as_50 : decode cX7_as 50 = .ok (.goto 4, 3) := by decide +kernel
theorem dX7_as_53 : decode cX7_as 53 = .ok (.iconst (-1), 1) := by decide +kernel
theorem dX7_as_54 : decode cX7_as 54 = .ok (.ireturn, 1) := by decide +kernel
theorem dX7_lay_0 : decode cX7_lay 0 = .ok (.aload_n 0, 1) := by decide +kernel
theorem dX7_lay_1 : decode cX7_lay 1 = .ok (.iload_n 1, 1) := by decide +kernel
theorem dX7_lay_2 : decode cX7_lay 2 = .ok (.invokevirtual 104, 3) := by decide +kernel
theorem dX7_lay_5 : decode cX7_lay 5 = .ok (.ifCond .ne 6, 3) := by decide +kernel
theorem dX7_lay_8 : decode cX7_lay 8 = .ok (.bipush (-101), 2) := by decide +kernel
theorem dX7_lay_10 : decode cX7_lay 10 = .ok (.ireturn, 1) := by decide +kernel
theorem dX7_lay_11 : decode cX7_lay 11 = .ok (.iload_n 2, 1) := by decide +kernel
theorem dX7_lay_12 : decode cX7_lay 12 = .ok (.iconst 0, 1) := by decide +kernel
theorem dX7_lay_13 : decode cX7_lay 13 = .ok (.iconst 4, 1) := by decide +kernel
theorem dX7_lay_14 : decode cX7_lay 14 = .ok (.invokestatic 47, 3) := by decide +kernel
theorem dX7_lay_17 : decode cX7_lay 17 = .ok (.ifCond .ne 6, 3) := by decide +kernel
theorem dX7_lay_20 : decode cX7_lay 20 = .ok (.bipush (-102), 2) := by decide +kernel
theorem dX7_lay_22 : decode cX7_lay 22 = .ok (.ireturn, 1) := by decide +kernel
theorem dX7_lay_23 : decode cX7_lay 23 = .ok (.aload_n 0, 1) := by decide +kernel
theorem dX7_lay_24 : decode cX7_lay 24 = .ok (.getfield 7, 3) := by decide +kernel
theorem dX7_lay_27 : decode cX7_lay 27 = .ok (.iload_n 1, 1) := by decide +kernel
theorem dX7_lay_28 : decode cX7_lay 28 = .ok (.iaload, 1) := by decide +kernel
theorem dX7_lay_29 : decode cX7_lay 29 = .ok (.istore_n 3, 1) := by decide +kernel
theorem dX7_lay_30 : decode cX7_lay 30 = .ok (.aload_n 0, 1) := by decide +kernel
theorem dX7_lay_31 : decode cX7_lay 31 = .ok (.getfield 7, 3) := by decide +kernel
theorem dX7_lay_34 : decode cX7_lay 34 = .ok (.iload_n 1, 1) := by decide +kernel
theorem dX7_lay_35 : decode cX7_lay 35 = .ok (.iload_n 2, 1) := by decide +kernel
theorem dX7_lay_36 : decode cX7_lay 36 = .ok (.iastore, 1) := by decide +kernel
theorem dX7_lay_37 : decode cX7_lay 37 = .ok (.iload_n 3, 1) := by decide +kernel
theorem dX7_lay_38 : decode cX7_lay 38 = .ok (.ireturn, 1) := by decide +kernel
theorem dX7_blocks_0 : decode cX7_blocks 0 = .ok (.iload_n 1, 1) := by decide +kernel
theorem dX7_blocks_1 : decode cX7_blocks 1 = .ok (.iconst 1, 1) := by decide +kernel
theorem dX7_blocks_2 : decode cX7_blocks 2 = .ok (.bipush 9, 2) := by decide +kernel
theorem dX7_blocks_4 : decode cX7_blocks 4 = .ok (.invokestatic 47, 3) := by decide +kernel
theorem dX7_blocks_7 : decode cX7_blocks 7 = .ok (.ifCond .ne 6, 3) := by decide +kernel
theorem dX7_blocks_10 : decode cX7_blocks 10 = .ok (.bipush (-102), 2) := by decide +kernel
theorem dX7_blocks_12 : decode cX7_blocks 12 = .ok (.ireturn, 1) := by decide +kernel
theorem dX7_blocks_13 : decode cX7_blocks 13 = .ok (.aload_n 0, 1) := by decide +kernel
theorem dX7_blocks_14 : decode cX7_blocks 14 = .ok (.getfield 73, 3) := by decide +kernel
theorem dX7_blocks_17 : decode cX7_blocks 17 = .ok (.ifCond .ne 6, 3) := by decide +kernel
theorem dX7_blocks_20 : decode cX7_blocks 20 = .ok (.bipush (-103), 2) := by decide +kernel
theorem dX7_blocks_22 : decode cX7_blocks 22 = .ok (.ireturn, 1) := by decide +kernel
theorem dX7_blocks_23 : decode cX7_blocks 23 = .ok (.aload_n 0, 1) := by decide +kernel
theorem dX7_blocks_24 : decode cX7_blocks 24 = .ok (.getfield 76, 3) := by decide +kernel
theorem dX7_blocks_27 : decode cX7_blocks 27 = .ok (.istore_n 2, 1) := by decide +kernel
theorem dX7_blocks_28 : decode cX7_blocks 28 = .ok (.aload_n 0, 1) := by decide +kernel
theorem dX7_blocks_29 : decode cX7_blocks 29 = .ok (.iload_n 1, 1) := by decide +kernel
theorem dX7_blocks_30 : decode cX7_blocks 30 = .ok (.putfield 76, 3) := by decide +kernel
theorem dX7_blocks_33 : decode cX7_blocks 33 = .ok (.aload_n 0, 1) := by decide +kernel
theorem dX7_blocks_34 : decode cX7_blocks 34 = .ok (.iconst 0, 1) := by decide +kernel
theorem dX7_blocks_35 : decode cX7_blocks 35 = .ok (.putfield 82, 3) := by decide +kernel
theorem dX7_blocks_38 : decode cX7_blocks 38 = .ok (.aload_n 0, 1) := by decide +kernel
theorem dX7_blocks_39 : decode cX7_blocks 39 = .ok (.iconst 0, 1) := by decide +kernel
theorem dX7_blocks_40 : decode cX7_blocks 40 = .ok (.putfield 85, 3) := by decide +kernel
theorem dX7_blocks_43 : decode cX7_blocks 43 = .ok (.iload_n 2, 1) := by decide +kernel
theorem dX7_blocks_44 : decode cX7_blocks 44 = .ok (.ireturn, 1) := by decide +kernel
theorem dX7_goes_0 : decode cX7_goes 0 = .ok (.aload_n 0, 1) := by decide +kernel
theorem dX7_goes_1 : decode cX7_goes 1 = .ok (.aload_n 0, 1) := by decide +kernel
theorem dX7_goes_2 : decode cX7_goes 2 = .ok (.getfield 82, 3) := by decide +kernel
theorem dX7_goes_5 : decode cX7_goes 5 = .ok (.iload_n 1, 1) := by decide +kernel
theorem dX7_goes_6 : decode cX7_goes 6 = .ok (.iadd, 1) := by decide +kernel
theorem dX7_goes_7 : decode cX7_goes 7 = .ok (.iload_n 1, 1) := by decide +kernel
theorem dX7_goes_8 : decode cX7_goes 8 = .ok (.aload_n 0, 1) := by decide +kernel
theorem dX7_goes_9 : decode cX7_goes 9 = .ok (.getfield 85, 3) := by decide +kernel
theorem dX7_goes_12 : decode cX7_goes 12 = .ok (.invokevirtual 97, 3) := by decide +kernel
theorem dX7_goes_15 : decode cX7_goes 15 = .ok (.istore_n 2, 1) := by decide +kernel
theorem dX7_goes_16 : decode cX7_goes 16 = .ok (.iload_n 2, 1) := by decide +kernel
theorem dX7_goes_17 : decode cX7_goes 17 = .ok (.aload_n 0, 1) := by decide +kernel
theorem dX7_goes_18 : decode cX7_goes 18 = .ok (.getfield 76, 3) := by decide +kernel
theorem dX7_goes_21 : decode cX7_goes 21 = .ok (.invokestatic 112, 3) := by decide +kernel
theorem dX7_goes_24 : decode cX7_goes 24 = .ok (.if_icmp .gt 7, 3) := by decide +kernel
theorem dX7_goes_27 : decode cX7_goes 27 = .ok (.iconst 1, 1) := by decide +kernel
theorem dX7_goes_28 : decode cX7_goes 28 = .ok (.goto 4, 3) := by decide +kernel
theorem dX7_goes_31 : decode cX7_goes 31 = .ok (.iconst 0, 1) := by decide +kernel
theorem dX7_goes_32 : decode cX7_goes 32 = .ok (.istore_n 3, 1) := by decide +kernel
theorem dX7_goes_33 : decode cX7_goes 33 = .ok (.aload_n 0, 1) := by decide +kernel
theorem dX7_goes_34 : decode cX7_goes 34 = .ok (.iload_n 3, 1) := by decide +kernel
theorem dX7_goes_35 : decode cX7_goes 35 = .ok (.ifCond .eq 12, 3) := by decide +kernel
theorem dX7_goes_38 : decode cX7_goes 38 = .ok (.aload_n 0, 1) := by decide +kernel
theorem dX7_goes_39 : decode cX7_goes 39 = .ok (.getfield 82, 3) := by decide +kernel
theorem dX7_goes_42 : decode cX7_goes 42 = .ok (.iload_n 1, 1) := by decide +kernel
theorem dX7_goes_43 : decode cX7_goes 43 = .ok (.iadd, 1) := by decide +kernel
theorem dX7_goes_44 : decode cX7_goes 44 = .ok (.goto 4, 3) := by decide +kernel
theorem dX7_goes_47 : decode cX7_goes 47 = .ok (.iconst 0, 1) := by decide +kernel
theorem dX7_goes_48 : decode cX7_goes 48 = .ok (.putfield 82, 3) := by decide +kernel
theorem dX7_goes_51 : decode cX7_goes 51 = .ok (.aload_n 0, 1) := by decide +kernel
theorem dX7_goes_52 : decode cX7_goes 52 = .ok (.iload_n 3, 1) := by decide +kernel
theorem dX7_goes_53 : decode cX7_goes 53 = .ok (.ifCond .eq 7, 3) := by decide +kernel
theorem dX7_goes_56 : decode cX7_goes 56 = .ok (.iload_n 2, 1) := by decide +kernel
theorem dX7_goes_57 : decode cX7_goes 57 = .ok (.goto 4, 3) := by decide +kernel
theorem dX7_goes_60 : decode cX7_goes 60 = .ok (.iconst 0, 1) := by decide +kernel
theorem dX7_goes_61 : decode cX7_goes 61 = .ok (.putfield 85, 3) := by decide +kernel
theorem dX7_goes_64 : decode cX7_goes 64 = .ok (.iload_n 3, 1) := by decide +kernel
theorem dX7_goes_65 : decode cX7_goes 65 = .ok (.ireturn, 1) := by decide +kernel
theorem dX7_step_0 : decode cX7_step 0 = .ok (.iload_n 1, 1) := by decide +kernel
theorem dX7_step_1 : decode cX7_step 1 = .ok (.iconst 0, 1) := by decide +kernel
theorem dX7_step_2 : decode cX7_step 2 = .ok (.iconst 3, 1) := by decide +kernel
theorem dX7_step_3 : decode cX7_step 3 = .ok (.invokestatic 47, 3) := by decide +kernel
theorem dX7_step_6 : decode cX7_step 6 = .ok (.ifCond .ne 6, 3) := by decide +kernel
theorem dX7_step_9 : decode cX7_step 9 = .ok (.bipush (-102), 2) := by decide +kernel
theorem dX7_step_11 : decode cX7_step 11 = .ok (.ireturn, 1) := by decide +kernel
theorem dX7_step_12 : decode cX7_step 12 = .ok (.aload_n 0, 1) := by decide +kernel
theorem dX7_step_13 : decode cX7_step 13 = .ok (.aload_n 0, 1) := by decide +kernel
theorem dX7_step_14 : decode cX7_step 14 = .ok (.getfield 82, 3) := by decide +kernel
theorem dX7_step_17 : decode cX7_step 17 = .ok (.iload_n 1, 1) := by decide +kernel
theorem dX7_step_18 : decode cX7_step 18 = .ok (.iadd, 1) := by decide +kernel
theorem dX7_step_19 : decode cX7_step 19 = .ok (.invokevirtual 104, 3) := by decide +kernel
theorem dX7_step_22 : decode cX7_step 22 = .ok (.ifCond .ne 6, 3) := by decide +kernel
theorem dX7_step_25 : decode cX7_step 25 = .ok (.bipush (-103), 2) := by decide +kernel
theorem dX7_step_27 : decode cX7_step 27 = .ok (.ireturn, 1) := by decide +kernel
theorem dX7_step_28 : decode cX7_step 28 = .ok (.aload_n 0, 1) := by decide +kernel
theorem dX7_step_29 : decode cX7_step 29 = .ok (.dup, 1) := by decide +kernel
theorem dX7_step_30 : decode cX7_step 30 = .ok (.getfield 88, 3) := by decide +kernel
theorem dX7_step_33 : decode cX7_step 33 = .ok (.iconst 1, 1) := by decide +kernel
theorem dX7_step_34 : decode cX7_step 34 = .ok (.iadd, 1) := by decide +kernel
theorem dX7_step_35 : decode cX7_step 35 = .ok (.putfield 88, 3) := by decide +kernel
theorem dX7_step_38 : decode cX7_step 38 = .ok (.aload_n 0, 1) := by decide +kernel
theorem dX7_step_39 : decode cX7_step 39 = .ok (.iload_n 1, 1) := by decide +kernel
theorem dX7_step_40 : decode cX7_step 40 = .ok (.invokevirtual 115, 3) := by decide +kernel
theorem dX7_step_43 : decode cX7_step 43 = .ok (.ifCond .eq 8, 3) := by decide +kernel
theorem dX7_step_46 : decode cX7_step 46 = .ok (.aload_n 0, 1) := by decide +kernel
theorem dX7_step_47 : decode cX7_step 47 = .ok (.getfield 82, 3) := by decide +kernel
theorem dX7_step_50 : decode cX7_step 50 = .ok (.ireturn, 1) := by decide +kernel
theorem dX7_step_51 : decode cX7_step 51 = .ok (.aload_n 0, 1) := by decide +kernel
theorem dX7_step_52 : decode cX7_step 52 = .ok (.dup, 1) := by decide +kernel
theorem dX7_step_53 : decode cX7_step 53 = .ok (.getfield 91, 3) := by decide +kernel
theorem dX7_step_56 : decode cX7_step 56 = .ok (.iconst 1, 1) := by decide +kernel
theorem dX7_step_57 : decode cX7_step 57 = .ok (.iadd, 1) := by decide +kernel
theorem dX7_step_58 : decode cX7_step 58 = .ok (.putfield 91, 3) := by decide +kernel
theorem dX7_step_61 : decode cX7_step 61 = .ok (.iconst (-1), 1) := by decide +kernel
theorem dX7_step_62 : decode cX7_step 62 = .ok (.ireturn, 1) := by decide +kernel
theorem dX7_would_0 : decode cX7_would 0 = .ok (.iload_n 1, 1) := by decide +kernel
theorem dX7_would_1 : decode cX7_would 1 = .ok (.iconst 0, 1) := by decide +kernel
theorem dX7_would_2 : decode cX7_would 2 = .ok (.iconst 3, 1) := by decide +kernel
theorem dX7_would_3 : decode cX7_would 3 = .ok (.invokestatic 47, 3) := by decide +kernel
theorem dX7_would_6 : decode cX7_would 6 = .ok (.ifCond .ne 6, 3) := by decide +kernel
theorem dX7_would_9 : decode cX7_would 9 = .ok (.bipush (-102), 2) := by decide +kernel
theorem dX7_would_11 : decode cX7_would 11 = .ok (.ireturn, 1) := by decide +kernel
theorem dX7_would_12 : decode cX7_would 12 = .ok (.aload_n 0, 1) := by decide +kernel
theorem dX7_would_13 : decode cX7_would 13 = .ok (.aload_n 0, 1) := by decide +kernel
theorem dX7_would_14 : decode cX7_would 14 = .ok (.getfield 82, 3) := by decide +kernel
theorem dX7_would_17 : decode cX7_would 17 = .ok (.iload_n 1, 1) := by decide +kernel
theorem dX7_would_18 : decode cX7_would 18 = .ok (.iadd, 1) := by decide +kernel
theorem dX7_would_19 : decode cX7_would 19 = .ok (.invokevirtual 104, 3) := by decide +kernel
theorem dX7_would_22 : decode cX7_would 22 = .ok (.ifCond .eq 21, 3) := by decide +kernel
theorem dX7_would_25 : decode cX7_would 25 = .ok (.aload_n 0, 1) := by decide +kernel
theorem dX7_would_26 : decode cX7_would 26 = .ok (.aload_n 0, 1) := by decide +kernel
theorem dX7_would_27 : decode cX7_would 27 = .ok (.getfield 82, 3) := by decide +kernel
theorem dX7_would_30 : decode cX7_would 30 = .ok (.iload_n 1, 1) := by decide +kernel
theorem dX7_would_31 : decode cX7_would 31 = .ok (.iadd, 1) := by decide +kernel
theorem dX7_would_32 : decode cX7_would 32 = .ok (.iload_n 1, 1) := by decide +kernel
theorem dX7_would_33 : decode cX7_would 33 = .ok (.aload_n 0, 1) := by decide +kernel
theorem dX7_would_34 : decode cX7_would 34 = .ok (.getfield 85, 3) := by decide +kernel
theorem dX7_would_37 : decode cX7_would 37 = .ok (.invokevirtual 97, 3) := by decide +kernel
theorem dX7_would_40 : decode cX7_would 40 = .ok (.goto 5, 3) := by decide +kernel
theorem dX7_would_43 : decode cX7_would 43 = .ok (.bipush (-103), 2) := by decide +kernel
theorem dX7_would_45 : decode cX7_would 45 = .ok (.ireturn, 1) := by decide +kernel
theorem dX7_fewBy_0 : decode cX7_fewBy 0 = .ok (.aload_n 0, 1) := by decide +kernel
theorem dX7_fewBy_1 : decode cX7_fewBy 1 = .ok (.iload_n 1, 1) := by decide +kernel
theorem dX7_fewBy_2 : decode cX7_fewBy 2 = .ok (.iload_n 3, 1) := by decide +kernel
theorem dX7_fewBy_3 : decode cX7_fewBy 3 = .ok (.iadd, 1) := by decide +kernel
theorem dX7_fewBy_4 : decode cX7_fewBy 4 = .ok (.invokevirtual 104, 3) := by decide +kernel
theorem dX7_fewBy_7 : decode cX7_fewBy 7 = .ok (.ifCond .ne 6, 3) := by decide +kernel
theorem dX7_fewBy_10 : decode cX7_fewBy 10 = .ok (.ldc 118, 2) := by decide +kernel
theorem dX7_fewBy_12 : decode cX7_fewBy 12 = .ok (.ireturn, 1) := by decide +kernel
theorem dX7_fewBy_13 : decode cX7_fewBy 13 = .ok (.aload_n 0, 1) := by decide +kernel
theorem dX7_fewBy_14 : decode cX7_fewBy 14 = .ok (.iload_n 1, 1) := by decide +kernel
theorem dX7_fewBy_15 : decode cX7_fewBy 15 = .ok (.iload_n 3, 1) := by decide +kernel
theorem dX7_fewBy_16 : decode cX7_fewBy 16 = .ok (.iadd, 1) := by decide +kernel
theorem dX7_fewBy_17 : decode cX7_fewBy 17 = .ok (.iload_n 3, 1) := by decide +kernel
theorem dX7_fewBy_18 : decode cX7_fewBy 18 = .ok (.iload_n 2, 1) := by decide +kernel
theorem dX7_fewBy_19 : decode cX7_fewBy 19 = .ok (.invokevirtual 97, 3) := by decide +kernel
theorem dX7_fewBy_22 : decode cX7_fewBy 22 = .ok (.istore 5, 2) := by decide +kernel
theorem dX7_fewBy_24 : decode cX7_fewBy 24 = .ok (.iload 5, 2) := by decide +kernel
theorem dX7_fewBy_26 : decode cX7_fewBy 26 = .ok (.iload 4, 2) := by decide +kernel
theorem dX7_fewBy_28 : decode cX7_fewBy 28 = .ok (.if_icmp .le 8, 3) := by decide +kernel
theorem dX7_fewBy_31 : decode cX7_fewBy 31 = .ok (.ldc 118, 2) := by decide +kernel
theorem dX7_fewBy_33 : decode cX7_fewBy 33 = .ok (.goto 19, 3) := by decide +kernel
theorem dX7_fewBy_36 : decode cX7_fewBy 36 = .ok (.aload_n 0, 1) := by decide +kernel
theorem dX7_fewBy_37 : decode cX7_fewBy 37 = .ok (.getfield 29, 3) := by decide +kernel
theorem dX7_fewBy_40 : decode cX7_fewBy 40 = .ok (.bipush 12, 2) := by decide +kernel
theorem dX7_fewBy_42 : decode cX7_fewBy 42 = .ok (.iload_n 1, 1) := by decide +kernel
theorem dX7_fewBy_43 : decode cX7_fewBy 43 = .ok (.iload_n 3, 1) := by decide +kernel
theorem dX7_fewBy_44 : decode cX7_fewBy 44 = .ok (.iadd, 1) := by decide +kernel
theorem dX7_fewBy_45 : decode cX7_fewBy 45 = .ok (.imul, 1) := by decide +kernel
theorem dX7_fewBy_46 : decode cX7_fewBy 46 = .ok (.iload 5, 2) := by decide +kernel
theorem dX7_fewBy_48 : decode cX7_fewBy 48 = .ok (.iadd, 1) := by decide +kernel
theorem dX7_fewBy_49 : decode cX7_fewBy 49 = .ok (.iaload, 1) := by decide +kernel
theorem dX7_fewBy_50 : decode cX7_fewBy 50 = .ok (.iconst 1, 1) := by decide +kernel
theorem dX7_fewBy_51 : decode cX7_fewBy 51 = .ok (.iadd, 1) := by decide +kernel
theorem dX7_fewBy_52 : decode cX7_fewBy 52 = .ok (.ireturn, 1) := by decide +kernel
theorem dX7_isShorter_0 : decode cX7_isShorter 0 = .ok (.aload_n 0, 1) := by decide +kernel
theorem dX7_isShorter_1 : decode cX7_isShorter 1 = .ok (.getfield 29, 3) := by decide +kernel
theorem dX7_isShorter_4 : decode cX7_isShorter 4 = .ok (.bipush 12, 2) := by decide +kernel
theorem dX7_isShorter_6 : decode cX7_isShorter 6 = .ok (.iload_n 1, 1) := by decide +kernel
theorem dX7_isShorter_7 : decode cX7_isShorter 7 = .ok (.imul, 1) := by decide +kernel
theorem dX7_isShorter_8 : decode cX7_isShorter 8 = .ok (.iload_n 2, 1) := by decide +kernel
theorem dX7_isShorter_9 : decode cX7_isShorter 9 = .ok (.iadd, 1) := by decide +kernel
theorem dX7_isShorter_10 : decode cX7_isShorter 10 = .ok (.iaload, 1) := by decide +kernel
theorem dX7_isShorter_11 : decode cX7_isShorter 11 = .ok (.istore 4, 2) := by decide +kernel
theorem dX7_isShorter_13 : decode cX7_isShorter 13 = .ok (.iconst 0, 1) := by decide +kernel
theorem dX7_isShorter_14 : decode cX7_isShorter 14 = .ok (.istore 5, 2) := by decide +kernel
theorem dX7_isShorter_16 : decode cX7_isShorter 16 = .ok (.iload 5, 2) := by decide +kernel
theorem dX7_isShorter_18 : decode cX7_isShorter 18 = .ok (.iconst 3, 1) := by decide +kernel
theorem dX7_isShorter_19 : decode cX7_isShorter 19 = .ok (.if_icmp .gt 63, 3) := by decide +kernel
theorem dX7_isShorter_22 : decode cX7_isShorter 22 = .ok (.aload_n 0, 1) := by decide +kernel
theorem dX7_isShorter_23 : decode cX7_isShorter 23 = .ok (.iload_n 1, 1) := by decide +kernel
theorem dX7_isShorter_24 : decode cX7_isShorter 24 = .ok (.iload_n 2, 1) := by decide +kernel
theorem dX7_isShorter_25 : decode cX7_isShorter 25 = .ok (.iload 5, 2) := by decide +kernel
theorem dX7_isShorter_27 : decode cX7_isShorter 27 = .ok (.iload_n 3, 1) := by decide +kernel
theorem dX7_isShorter_28 : decode cX7_isShorter 28 = .ok (.invokevirtual 119, 3) := by decide +kernel
theorem dX7_isShorter_31 : decode cX7_isShorter 31 = .ok (.istore 6, 2) := by decide +kernel
theorem dX7_isShorter_33 : decode cX7_isShorter 33 = .ok (.aload_n 0, 1) := by decide +kernel
theorem dX7_isShorter_34 : decode cX7_isShorter 34 = .ok (.getfield 29, 3) := by decide +kernel
theorem dX7_isShorter_37 : decode cX7_isShorter 37 = .ok (.bipush 12, 2) := by decide +kernel
theorem dX7_isShorter_39 : decode cX7_isShorter 39 = .ok (.iload_n 1, 1) := by decide +kernel
theorem dX7_isShorter_40 : decode cX7_isShorter 40 = .ok (.imul, 1) := by decide +kernel
theorem dX7_isShorter_41 : decode cX7_isShorter 41 = .ok (.iload_n 2, 1) := by decide +kernel
theorem dX7_isShorter_42 : decode cX7_isShorter 42 = .ok (.iadd, 1) := by decide +kernel
theorem dX7_isShorter_43 : decode cX7_isShorter 43 = .ok (.iload 6, 2) := by decide +kernel
theorem dX7_isShorter_45 : decode cX7_isShorter 45 = .ok (.aload_n 0, 1) := by decide +kernel
theorem dX7_isShorter_46 : decode cX7_isShorter 46 = .ok (.getfield 29, 3) := by decide +kernel
theorem dX7_isShorter_49 : decode cX7_isShorter 49 = .ok (.bipush 12, 2) := by decide +kernel
theorem dX7_isShorter_51 : decode cX7_isShorter 51 = .ok (.iload_n 1, 1) := by decide +kernel
theorem dX7_isShorter_52 : decode cX7_isShorter 52 = .ok (.imul, 1) := by decide +kernel
theorem dX7_isShorter_53 : decode cX7_isShorter 53 = .ok (.iload_n 2, 1) := by decide +kernel
theorem dX7_isShorter_54 : decode cX7_isShorter 54 = .ok (.iadd, 1) := by decide +kernel
theorem dX7_isShorter_55 : decode cX7_isShorter 55 = .ok (.iaload, 1) := by decide +kernel
theorem dX7_isShorter_56 : decode cX7_isShorter 56 = .ok (.if_icmp .ge 8, 3) := by decide +kernel
theorem dX7_isShorter_59 : decode cX7_isShorter 59 = .ok (.iload 6, 2) := by decide +kernel
theorem dX7_isShorter_61 : decode cX7_isShorter 61 = .ok (.goto 14, 3) := by decide +kernel
theorem dX7_isShorter_64 : decode cX7_isShorter 64 = .ok (.aload_n 0, 1) := by decide +kernel
theorem dX7_isShorter_65 : decode cX7_isShorter 65 = .ok (.getfield 29, 3) := by decide +kernel
theorem dX7_isShorter_68 : decode cX7_isShorter 68 = .ok (.bipush 12, 2) := by decide +kernel
theorem dX7_isShorter_70 : decode cX7_isShorter 70 = .ok (.iload_n 1, 1) := by decide +kernel
theorem dX7_isShorter_71 : decode cX7_isShorter 71 = .ok (.imul, 1) := by decide +kernel
theorem dX7_isShorter_72 : decode cX7_isShorter 72 = .ok (.iload_n 2, 1) := by decide +kernel
theorem dX7_isShorter_73 : decode cX7_isShorter 73 = .ok (.iadd, 1) := by decide +kernel
theorem dX7_isShorter_74 : decode cX7_isShorter 74 = .ok (.iaload, 1) := by decide +kernel
theorem dX7_isShorter_75 : decode cX7_isShorter 75 = .ok (.iastore, 1) := by decide +kernel
theorem dX7_isShorter_76 : decode cX7_isShorter 76 = .ok (.iinc 5 1, 3) := by decide +kernel
theorem dX7_isShorter_79 : decode cX7_isShorter 79 = .ok (.goto (-63), 3) := by decide +kernel
theorem dX7_isShorter_82 : decode cX7_isShorter 82 = .ok (.aload_n 0, 1) := by decide +kernel
theorem dX7_isShorter_83 : decode cX7_isShorter 83 = .ok (.getfield 29, 3) := by decide +kernel
theorem dX7_isShorter_86 : decode cX7_isShorter 86 = .ok (.bipush 12, 2) := by decide +kernel
theorem dX7_isShorter_88 : decode cX7_isShorter 88 = .ok (.iload_n 1, 1) := by decide +kernel
theorem dX7_isShorter_89 : decode cX7_isShorter 89 = .ok (.imul, 1) := by decide +kernel
theorem dX7_isShorter_90 : decode cX7_isShorter 90 = .ok (.iload_n 2, 1) := by decide +kernel
theorem dX7_isShorter_91 : decode cX7_isShorter 91 = .ok (.iadd, 1) := by decide +kernel
theorem dX7_isShorter_92 : decode cX7_isShorter 92 = .ok (.iaload, 1) := by decide +kernel
theorem dX7_isShorter_93 : decode cX7_isShorter 93 = .ok (.iload 4, 2) := by decide +kernel
theorem dX7_isShorter_95 : decode cX7_isShorter 95 = .ok (.if_icmp .ge 7, 3) := by decide +kernel
theorem dX7_isShorter_98 : decode cX7_isShorter 98 = .ok (.iconst 1, 1) := by decide +kernel
theorem dX7_isShorter_99 : decode cX7_isShorter 99 = .ok (.goto 4, 3) := by decide +kernel
theorem dX7_isShorter_102 : decode cX7_isShorter 102 = .ok (.iconst 0, 1) := by decide +kernel
theorem dX7_isShorter_103 : decode cX7_isShorter 103 = .ok (.ireturn, 1) := by decide +kernel
theorem dX7_layFew_0 : decode cX7_layFew 0 = .ok (.iconst 0, 1) := by decide +kernel
theorem dX7_layFew_1 : decode cX7_layFew 1 = .ok (.istore_n 2, 1) := by decide +kernel
theorem dX7_layFew_2 : decode cX7_layFew 2 = .ok (.iload_n 2, 1) := by decide +kernel
theorem dX7_layFew_3 : decode cX7_layFew 3 = .ok (.sipush 144, 3) := by decide +kernel
theorem dX7_layFew_6 : decode cX7_layFew 6 = .ok (.if_icmp .ge 34, 3) := by decide +kernel
theorem dX7_layFew_9 : decode cX7_layFew 9 = .ok (.aload_n 0, 1) := by decide +kernel
theorem dX7_layFew_10 : decode cX7_layFew 10 = .ok (.getfield 29, 3) := by decide +kernel
theorem dX7_layFew_13 : decode cX7_layFew 13 = .ok (.iload_n 2, 1) := by decide +kernel
theorem dX7_layFew_14 : decode cX7_layFew 14 = .ok (.iload_n 2, 1) := by decide +kernel
theorem dX7_layFew_15 : decode cX7_layFew 15 = .ok (.bipush 12, 2) := by decide +kernel
theorem dX7_layFew_17 : decode cX7_layFew 17 = .ok (.idiv, 1) := by decide +kernel
theorem dX7_layFew_18 : decode cX7_layFew 18 = .ok (.aload_n 0, 1) := by decide +kernel
theorem dX7_layFew_19 : decode cX7_layFew 19 = .ok (.getfield 73, 3) := by decide +kernel
theorem dX7_layFew_22 : decode cX7_layFew 22 = .ok (.iconst 1, 1) := by decide +kernel
theorem dX7_layFew_23 : decode cX7_layFew 23 = .ok (.isub, 1) := by decide +kernel
theorem dX7_layFew_24 : decode cX7_layFew 24 = .ok (.if_icmp .ne 7, 3) := by decide +kernel
theorem dX7_layFew_27 : decode cX7_layFew 27 = .ok (.iconst 0, 1) := by decide +kernel
theorem dX7_layFew_28 : decode cX7_layFew 28 = .ok (.goto 5, 3) := by decide +kernel
theorem dX7_layFew_31 : decode cX7_layFew 31 = .ok (.ldc 118, 2) := by decide +kernel
theorem dX7_layFew_33 : decode cX7_layFew 33 = .ok (.iastore, 1) := by decide +kernel
theorem dX7_layFew_34 : decode cX7_layFew 34 = .ok (.iinc 2 1, 3) := by decide +kernel
theorem dX7_layFew_37 : decode cX7_layFew 37 = .ok (.goto (-35), 3) := by decide +kernel
theorem dX7_layFew_40 : decode cX7_layFew 40 = .ok (.iconst 1, 1) := by decide +kernel
theorem dX7_layFew_41 : decode cX7_layFew 41 = .ok (.istore_n 2, 1) := by decide +kernel
theorem dX7_layFew_42 : decode cX7_layFew 42 = .ok (.iload_n 2, 1) := by decide +kernel
theorem dX7_layFew_43 : decode cX7_layFew 43 = .ok (.ifCond .eq 67, 3) := by decide +kernel
theorem dX7_layFew_46 : decode cX7_layFew 46 = .ok (.iconst 0, 1) := by decide +kernel
theorem dX7_layFew_47 : decode cX7_layFew 47 = .ok (.istore_n 2, 1) := by decide +kernel
theorem dX7_layFew_48 : decode cX7_layFew 48 = .ok (.aload_n 0, 1) := by decide +kernel
theorem dX7_layFew_49 : decode cX7_layFew 49 = .ok (.getfield 73, 3) := by decide +kernel
theorem dX7_layFew_52 : decode cX7_layFew 52 = .ok (.iconst 2, 1) := by decide +kernel
theorem dX7_layFew_53 : decode cX7_layFew 53 = .ok (.isub, 1) := by decide +kernel
theorem dX7_layFew_54 : decode cX7_layFew 54 = .ok (.istore_n 3, 1) := by decide +kernel
theorem dX7_layFew_55 : decode cX7_layFew 55 = .ok (.iload_n 3, 1) := by decide +kernel
theorem dX7_layFew_56 : decode cX7_layFew 56 = .ok (.ifCond .lt 51, 3) := by decide +kernel
theorem dX7_layFew_59 : decode cX7_layFew 59 = .ok (.iconst 0, 1) := by decide +kernel
theorem dX7_layFew_60 : decode cX7_layFew 60 = .ok (.istore 4, 2) := by decide +kernel
theorem dX7_layFew_62 : decode cX7_layFew 62 = .ok (.iload 4, 2) := by decide +kernel
theorem dX7_layFew_64 : decode cX7_layFew 64 = .ok (.iload_n 1, 1) := by decide +kernel
theorem dX7_layFew_65 : decode cX7_layFew 65 = .ok (.invokestatic 112, 3) := by decide +kernel
theorem dX7_layFew_68 : decode cX7_layFew 68 = .ok (.if_icmp .gt 33, 3) := by decide +kernel
theorem dX7_layFew_71 : decode cX7_layFew 71 = .ok (.aload_n 0, 1) := by decide +kernel
theorem dX7_layFew_72 : decode cX7_layFew 72 = .ok (.iload_n 3, 1) := by decide +kernel
theorem dX7_layFew_73 : decode cX7_layFew 73 = .ok (.iload 4, 2) := by decide +kernel
theorem dX7_layFew_75 : decode cX7_layFew 75 = .ok (.iload_n 1, 1) := by decide +kernel
theorem dX7_layFew_76 : decode cX7_layFew 76 = .ok (.invokestatic 112, 3) := by decide +kernel
theorem dX7_layFew_79 : decode cX7_layFew 79 = .ok (.invokevirtual 123, 3) := by decide +kernel
theorem dX7_layFew_82 : decode cX7_layFew 82 = .ok (.ifCond .ne 7, 3) := by decide +kernel
theorem dX7_layFew_85 : decode cX7_layFew 85 = .ok (.iload_n 2, 1) := by decide +kernel
theorem dX7_layFew_86 : decode cX7_layFew 86 = .ok (.ifCond .eq 7, 3) := by decide +kernel
theorem dX7_layFew_89 : decode cX7_layFew 89 = .ok (.iconst 1, 1) := by decide +kernel
theorem dX7_layFew_90 : decode cX7_layFew 90 = .ok (.goto 4, 3) := by decide +kernel
theorem dX7_layFew_93 : decode cX7_layFew 93 = .ok (.iconst 0, 1) := by decide +kernel
theorem dX7_layFew_94 : decode cX7_layFew 94 = .ok (.istore_n 2, 1) := by decide +kernel
theorem dX7_layFew_95 : decode cX7_layFew 95 = .ok (.iinc 4 1, 3) := by decide +kernel
theorem dX7_layFew_98 : decode cX7_layFew 98 = .ok (.goto (-36), 3) := by decide +kernel
theorem dX7_layFew_101 : decode cX7_layFew 101 = .ok (.iinc 3 (-1), 3) := by decide +kernel
theorem dX7_layFew_104 : decode cX7_layFew 104 = .ok (.goto (-49), 3) := by decide +kernel
theorem dX7_layFew_107 : decode cX7_layFew 107 = .ok (.goto (-65), 3) := by decide +kernel
theorem dX7_layFew_110 : decode cX7_layFew 110 = .ok (.return_, 1) := by decide +kernel
theorem dX7_fewWith_0 : decode cX7_fewWith 0 = .ok (.aload_n 0, 1) := by decide +kernel
theorem dX7_fewWith_1 : decode cX7_fewWith 1 = .ok (.iload_n 1, 1) := by decide +kernel
theorem dX7_fewWith_2 : decode cX7_fewWith 2 = .ok (.invokevirtual 126, 3) := by decide +kernel
theorem dX7_fewWith_5 : decode cX7_fewWith 5 = .ok (.aload_n 0, 1) := by decide +kernel
theorem dX7_fewWith_6 : decode cX7_fewWith 6 = .ok (.getfield 29, 3) := by decide +kernel
theorem dX7_fewWith_9 : decode cX7_fewWith 9 = .ok (.iconst 0, 1) := by decide +kernel
theorem dX7_fewWith_10 : decode cX7_fewWith 10 = .ok (.iaload, 1) := by decide +kernel
theorem dX7_fewWith_11 : decode cX7_fewWith 11 = .ok (.bipush 40, 2) := by decide +kernel
theorem dX7_fewWith_13 : decode cX7_fewWith 13 = .ok (.if_icmp .le 8, 3) := by decide +kernel
theorem dX7_fewWith_16 : decode cX7_fewWith 16 = .ok (.ldc 118, 2) := by decide +kernel
theorem dX7_fewWith_18 : decode cX7_fewWith 18 = .ok (.goto 9, 3) := by decide +kernel
theorem dX7_fewWith_21 : decode cX7_fewWith 21 = .ok (.aload_n 0, 1) := by decide +kernel
theorem dX7_fewWith_22 : decode cX7_fewWith 22 = .ok (.getfield 29, 3) := by decide +kernel
theorem dX7_fewWith_25 : decode cX7_fewWith 25 = .ok (.iconst 0, 1) := by decide +kernel
theorem dX7_fewWith_26 : decode cX7_fewWith 26 = .ok (.iaload, 1) := by decide +kernel
theorem dX7_fewWith_27 : decode cX7_fewWith 27 = .ok (.ireturn, 1) := by decide +kernel
theorem dX7_quickNow_0 : decode cX7_quickNow 0 = .ok (.aload_n 0, 1) := by decide +kernel
theorem dX7_quickNow_1 : decode cX7_quickNow 1 = .ok (.aload_n 0, 1) := by decide +kernel
theorem dX7_quickNow_2 : decode cX7_quickNow 2 = .ok (.getfield 76, 3) := by decide +kernel
theorem dX7_quickNow_5 : decode cX7_quickNow 5 = .ok (.invokevirtual 126, 3) := by decide +kernel
theorem dX7_quickNow_8 : decode cX7_quickNow 8 = .ok (.aload_n 0, 1) := by decide +kernel
theorem dX7_quickNow_9 : decode cX7_quickNow 9 = .ok (.getfield 29, 3) := by decide +kernel
theorem dX7_quickNow_12 : decode cX7_quickNow 12 = .ok (.bipush 12, 2) := by decide +kernel
theorem dX7_quickNow_14 : decode cX7_quickNow 14 = .ok (.aload_n 0, 1) := by decide +kernel
theorem dX7_quickNow_15 : decode cX7_quickNow 15 = .ok (.getfield 82, 3) := by decide +kernel
theorem dX7_quickNow_18 : decode cX7_quickNow 18 = .ok (.imul, 1) := by decide +kernel
theorem dX7_quickNow_19 : decode cX7_quickNow 19 = .ok (.aload_n 0, 1) := by decide +kernel
theorem dX7_quickNow_20 : decode cX7_quickNow 20 = .ok (.getfield 85, 3) := by decide +kernel
theorem dX7_quickNow_23 : decode cX7_quickNow 23 = .ok (.iadd, 1) := by decide +kernel
theorem dX7_quickNow_24 : decode cX7_quickNow 24 = .ok (.iaload, 1) := by decide +kernel
theorem dX7_quickNow_25 : decode cX7_quickNow 25 = .ok (.istore_n 2, 1) := by decide +kernel
theorem dX7_quickNow_26 : decode cX7_quickNow 26 = .ok (.iload_n 2, 1) := by decide +kernel
theorem dX7_quickNow_27 : decode cX7_quickNow 27 = .ok (.bipush 40, 2) := by decide +kernel
theorem dX7_quickNow_29 : decode cX7_quickNow 29 = .ok (.if_icmp .gt 7, 3) := by decide +kernel
theorem dX7_quickNow_32 : decode cX7_quickNow 32 = .ok (.iload_n 1, 1) := by decide +kernel
theorem dX7_quickNow_33 : decode cX7_quickNow 33 = .ok (.ifCond .ne 15, 3) := by decide +kernel
theorem dX7_quickNow_36 : decode cX7_quickNow 36 = .ok (.iload_n 2, 1) := by decide +kernel
theorem dX7_quickNow_37 : decode cX7_quickNow 37 = .ok (.bipush 40, 2) := by decide +kernel
theorem dX7_quickNow_39 : decode cX7_quickNow 39 = .ok (.if_icmp .le 7, 3) := by decide +kernel
theorem dX7_quickNow_42 : decode cX7_quickNow 42 = .ok (.iconst (-1), 1) := by decide +kernel
theorem dX7_quickNow_43 : decode cX7_quickNow 43 = .ok (.goto 4, 3) := by decide +kernel
theorem dX7_quickNow_46 : decode cX7_quickNow 46 = .ok (.iload_n 2, 1) := by decide +kernel
theorem dX7_quickNow_47 : decode cX7_quickNow 47 = .ok (.ireturn, 1) := by decide +kernel
theorem dX7_quickNow_48 : decode cX7_quickNow 48 = .ok (.aload_n 0, 1) := by decide +kernel
theorem dX7_quickNow_49 : decode cX7_quickNow 49 = .ok (.getfield 82, 3) := by decide +kernel
theorem dX7_quickNow_52 : decode cX7_quickNow 52 = .ok (.istore_n 3, 1) := by decide +kernel
theorem dX7_quickNow_53 : decode cX7_quickNow 53 = .ok (.aload_n 0, 1) := by decide +kernel
theorem dX7_quickNow_54 : decode cX7_quickNow 54 = .ok (.getfield 85, 3) := by decide +kernel
theorem dX7_quickNow_57 : decode cX7_quickNow 57 = .ok (.istore 4, 2) := by decide +kernel
theorem dX7_quickNow_59 : decode cX7_quickNow 59 = .ok (.iconst (-1), 1) := by decide +kernel
theorem dX7_quickNow_60 : decode cX7_quickNow 60 = .ok (.istore 5, 2) := by decide +kernel
theorem dX7_quickNow_62 : decode cX7_quickNow 62 = .ok (.iconst 0, 1) := by decide +kernel
theorem dX7_quickNow_63 : decode cX7_quickNow 63 = .ok (.istore 6, 2) := by decide +kernel
theorem dX7_quickNow_65 : decode cX7_quickNow 65 = .ok (.iload 6, 2) := by decide +kernel
theorem dX7_quickNow_67 : decode cX7_quickNow 67 = .ok (.iload_n 1, 1) := by decide +kernel
theorem dX7_quickNow_68 : decode cX7_quickNow 68 = .ok (.bipush 10, 2) := by decide +kernel
theorem dX7_quickNow_70 : decode cX7_quickNow 70 = .ok (.isub, 1) := by decide +kernel
theorem dX7_quickNow_71 : decode cX7_quickNow 71 = .ok (.if_icmp .gt 78, 3) := by decide +kernel
theorem dX7_quickNow_74 : decode cX7_quickNow 74 = .ok (.iload_n 3, 1) := by decide +kernel
theorem dX7_quickNow_75 : decode cX7_quickNow 75 = .ok (.aload_n 0, 1) := by decide +kernel
theorem dX7_quickNow_76 : decode cX7_quickNow 76 = .ok (.getfield 73, 3) := by decide +kernel
theorem dX7_quickNow_79 : decode cX7_quickNow 79 = .ok (.iconst 1, 1) := by decide +kernel
theorem dX7_quickNow_80 : decode cX7_quickNow 80 = .ok (.isub, 1) := by decide +kernel
theorem dX7_quickNow_81 : decode cX7_quickNow 81 = .ok (.if_icmp .ge 68, 3) := by decide +kernel
theorem dX7_quickNow_84 : decode cX7_quickNow 84 = .ok (.iconst 0, 1) := by decide +kernel
theorem dX7_quickNow_85 : decode cX7_quickNow 85 = .ok (.istore 5, 2) := by decide +kernel
theorem dX7_quickNow_87 : decode cX7_quickNow 87 = .ok (.aload_n 0, 1) := by decide +kernel
theorem dX7_quickNow_88 : decode cX7_quickNow 88 = .ok (.iload_n 3, 1) := by decide +kernel
theorem dX7_quickNow_89 : decode cX7_quickNow 89 = .ok (.iload 4, 2) := by decide +kernel
theorem dX7_quickNow_91 : decode cX7_quickNow 91 = .ok (.iload 5, 2) := by decide +kernel
theorem dX7_quickNow_93 : decode cX7_quickNow 93 = .ok (.aload_n 0, 1) := by decide +kernel
theorem dX7_quickNow_94 : decode cX7_quickNow 94 = .ok (.getfield 76, 3) := by decide +kernel
theorem dX7_quickNow_97 : decode cX7_quickNow 97 = .ok (.invokestatic 112, 3) := by decide +kernel
theorem dX7_quickNow_100 : decode cX7_quickNow 100 = .ok (.invokevirtual 119, 3) := by decide +kernel
theorem dX7_quickNow_103 : decode cX7_quickNow 103 = .ok (.aload_n 0, 1) := by decide +kernel
theorem dX7_quickNow_104 : decode cX7_quickNow 104 = .ok (.getfield 29, 3) := by decide +kernel
theorem dX7_quickNow_107 : decode cX7_quickNow 107 = .ok (.bipush 12, 2) := by decide +kernel
theorem dX7_quickNow_109 : decode cX7_quickNow 109 = .ok (.iload_n 3, 1) := by decide +kernel
theorem dX7_quickNow_110 : decode cX7_quickNow 110 = .ok (.imul, 1) := by decide +kernel
theorem dX7_quickNow_111 : decode cX7_quickNow 111 = .ok (.iload 4, 2) := by decide +kernel
theorem dX7_quickNow_113 : decode cX7_quickNow 113 = .ok (.iadd, 1) := by decide +kernel
theorem dX7_quickNow_114 : decode cX7_quickNow 114 = .ok (.iaload, 1) := by decide +kernel
theorem dX7_quickNow_115 : decode cX7_quickNow 115 = .ok (.if_icmp .eq 9, 3) := by decide +kernel
theorem dX7_quickNow_118 : decode cX7_quickNow 118 = .ok (.iinc 5 1, 3) := by decide +kernel
theorem dX7_quickNow_121 : decode cX7_quickNow 121 = .ok (.goto (-34), 3) := by decide +kernel
theorem dX7_quickNow_124 : decode cX7_quickNow 124 = .ok (.aload_n 0, 1) := by decide +kernel
theorem dX7_quickNow_125 : decode cX7_quickNow 125 = .ok (.iload_n 3, 1) := by decide +kernel
theorem dX7_quickNow_126 : decode cX7_quickNow 126 = .ok (.iload 5, 2) := by decide +kernel
theorem dX7_quickNow_128 : decode cX7_quickNow 128 = .ok (.iadd, 1) := by decide +kernel
theorem dX7_quickNow_129 : decode cX7_quickNow 129 = .ok (.iload 5, 2) := by decide +kernel
theorem dX7_quickNow_131 : decode cX7_quickNow 131 = .ok (.iload 4, 2) := by decide +kernel
theorem dX7_quickNow_133 : decode cX7_quickNow 133 = .ok (.invokevirtual 97, 3) := by decide +kernel
theorem dX7_quickNow_136 : decode cX7_quickNow 136 = .ok (.istore 4, 2) := by decide +kernel
theorem dX7_quickNow_138 : decode cX7_quickNow 138 = .ok (.iload_n 3, 1) := by decide +kernel
theorem dX7_quickNow_139 : decode cX7_quickNow 139 = .ok (.iload 5, 2) := by decide +kernel
theorem dX7_quickNow_141 : decode cX7_quickNow 141 = .ok (.iadd, 1) := by decide +kernel
theorem dX7_quickNow_142 : decode cX7_quickNow 142 = .ok (.istore_n 3, 1) := by decide +kernel
theorem dX7_quickNow_143 : decode cX7_quickNow 143 = .ok (.iinc 6 1, 3) := by decide +kernel
theorem dX7_quickNow_146 : decode cX7_quickNow 146 = .ok (.goto (-81), 3) := by decide +kernel
theorem dX7_quickNow_149 : decode cX7_quickNow 149 = .ok (.iload_n 1, 1) := by decide +kernel
theorem dX7_quickNow_150 : decode cX7_quickNow 150 = .ok (.bipush 10, 2) := by decide +kernel
theorem dX7_quickNow_152 : decode cX7_quickNow 152 = .ok (.isub, 1) := by decide +kernel
theorem dX7_quickNow_153 : decode cX7_quickNow 153 = .ok (.iload_n 2, 1) := by decide +kernel
theorem dX7_quickNow_154 : decode cX7_quickNow 154 = .ok (.if_icmp .ge 8, 3) := by decide +kernel
theorem dX7_quickNow_157 : decode cX7_quickNow 157 = .ok (.iload 5, 2) := by decide +kernel
theorem dX7_quickNow_159 : decode cX7_quickNow 159 = .ok (.goto 4, 3) := by decide +kernel
theorem dX7_quickNow_162 : decode cX7_quickNow 162 = .ok (.iconst (-1), 1) := by decide +kernel
theorem dX7_quickNow_163 : decode cX7_quickNow 163 = .ok (.ireturn, 1) := by decide +kernel
theorem dX7_quick_0 : decode cX7_quick 0 = .ok (.iload_n 1, 1) := by decide +kernel
theorem dX7_quick_1 : decode cX7_quick 1 = .ok (.ifCond .eq 17, 3) := by decide +kernel
theorem dX7_quick_4 : decode cX7_quick 4 = .ok (.iload_n 1, 1) := by decide +kernel
theorem dX7_quick_5 : decode cX7_quick 5 = .ok (.bipush 10, 2) := by decide +kernel
theorem dX7_quick_7 : decode cX7_quick 7 = .ok (.bipush 13, 2) := by decide +kernel
theorem dX7_quick_9 : decode cX7_quick 9 = .ok (.invokestatic 47, 3) := by decide +kernel
theorem dX7_quick_12 : decode cX7_quick 12 = .ok (.ifCond .ne 6, 3) := by decide +kernel
theorem dX7_quick_15 : decode cX7_quick 15 = .ok (.bipush (-102), 2) := by decide +kernel
theorem dX7_quick_17 : decode cX7_quick 17 = .ok (.ireturn, 1) := by decide +kernel
theorem dX7_quick_18 : decode cX7_quick 18 = .ok (.aload_n 0, 1) := by decide +kernel
theorem dX7_quick_19 : decode cX7_quick 19 = .ok (.getfield 73, 3) := by decide +kernel
theorem dX7_quick_22 : decode cX7_quick 22 = .ok (.ifCond .eq 12, 3) := by decide +kernel
theorem dX7_quick_25 : decode cX7_quick 25 = .ok (.aload_n 0, 1) := by decide +kernel
theorem dX7_quick_26 : decode cX7_quick 26 = .ok (.getfield 130, 3) := by decide +kernel
theorem dX7_quick_29 : decode cX7_quick 29 = .ok (.bipush 40, 2) := by decide +kernel
theorem dX7_quick_31 : decode cX7_quick 31 = .ok (.if_icmp .ne 6, 3) := by decide +kernel
theorem dX7_quick_34 : decode cX7_quick 34 = .ok (.bipush (-103), 2) := by decide +kernel
theorem dX7_quick_36 : decode cX7_quick 36 = .ok (.ireturn, 1) := by decide +kernel
theorem dX7_quick_37 : decode cX7_quick 37 = .ok (.aload_n 0, 1) := by decide +kernel
theorem dX7_quick_38 : decode cX7_quick 38 = .ok (.dup, 1) := by decide +kernel
theorem dX7_quick_39 : decode cX7_quick 39 = .ok (.getfield 130, 3) := by decide +kernel
theorem dX7_quick_42 : decode cX7_quick 42 = .ok (.iconst 1, 1) := by decide +kernel
theorem dX7_quick_43 : decode cX7_quick 43 = .ok (.iadd, 1) := by decide +kernel
theorem dX7_quick_44 : decode cX7_quick 44 = .ok (.putfield 130, 3) := by decide +kernel
theorem dX7_quick_47 : decode cX7_quick 47 = .ok (.aload_n 0, 1) := by decide +kernel
theorem dX7_quick_48 : decode cX7_quick 48 = .ok (.iload_n 1, 1) := by decide +kernel
theorem dX7_quick_49 : decode cX7_quick 49 = .ok (.invokevirtual 133, 3) := by decide +kernel
theorem dX7_quick_52 : decode cX7_quick 52 = .ok (.ireturn, 1) := by decide +kernel
theorem dX7_highNow_0 : decode cX7_highNow 0 = .ok (.iconst (-1), 1) := by decide +kernel
theorem dX7_highNow_1 : decode cX7_highNow 1 = .ok (.istore_n 1, 1) := by decide +kernel
theorem dX7_highNow_2 : decode cX7_highNow 2 = .ok (.iconst 1, 1) := by decide +kernel
theorem dX7_highNow_3 : decode cX7_highNow 3 = .ok (.istore_n 2, 1) := by decide +kernel
theorem dX7_highNow_4 : decode cX7_highNow 4 = .ok (.iload_n 2, 1) := by decide +kernel
theorem dX7_highNow_5 : decode cX7_highNow 5 = .ok (.bipush 9, 2) := by decide +kernel
theorem dX7_highNow_7 : decode cX7_highNow 7 = .ok (.if_icmp .gt 25, 3) := by decide +kernel
theorem dX7_highNow_10 : decode cX7_highNow 10 = .ok (.aload_n 0, 1) := by decide +kernel
theorem dX7_highNow_11 : decode cX7_highNow 11 = .ok (.iload_n 2, 1) := by decide +kernel
theorem dX7_highNow_12 : decode cX7_highNow 12 = .ok (.invokevirtual 136, 3) := by decide +kernel
theorem dX7_highNow_15 : decode cX7_highNow 15 = .ok (.ldc 118, 2) := by decide +kernel
theorem dX7_highNow_17 : decode cX7_highNow 17 = .ok (.if_icmp .ne 7, 3) := by decide +kernel
theorem dX7_highNow_20 : decode cX7_highNow 20 = .ok (.iload_n 1, 1) := by decide +kernel
theorem dX7_highNow_21 : decode cX7_highNow 21 = .ok (.goto 4, 3) := by decide +kernel
theorem dX7_highNow_24 : decode cX7_highNow 24 = .ok (.iload_n 2, 1) := by decide +kernel
theorem dX7_highNow_25 : decode cX7_highNow 25 = .ok (.istore_n 1, 1) := by decide +kernel
theorem dX7_highNow_26 : decode cX7_highNow 26 = .ok (.iinc 2 1, 3) := by decide +kernel
theorem dX7_highNow_29 : decode cX7_highNow 29 = .ok (.goto (-25), 3) := by decide +kernel
theorem dX7_highNow_32 : decode cX7_highNow 32 = .ok (.iload_n 1, 1) := by decide +kernel
theorem dX7_highNow_33 : decode cX7_highNow 33 = .ok (.ireturn, 1) := by decide +kernel
theorem dX7_high_0 : decode cX7_high 0 = .ok (.aload_n 0, 1) := by decide +kernel
theorem dX7_high_1 : decode cX7_high 1 = .ok (.getfield 73, 3) := by decide +kernel
theorem dX7_high_4 : decode cX7_high 4 = .ok (.ifCond .ne 8, 3) := by decide +kernel
theorem dX7_high_7 : decode cX7_high 7 = .ok (.bipush (-103), 2) := by decide +kernel
theorem dX7_high_9 : decode cX7_high 9 = .ok (.goto 7, 3) := by decide +kernel
theorem dX7_high_12 : decode cX7_high 12 = .ok (.aload_n 0, 1) := by decide +kernel
theorem dX7_high_13 : decode cX7_high 13 = .ok (.invokevirtual 139, 3) := by decide +kernel
theorem dX7_high_16 : decode cX7_high 16 = .ok (.ireturn, 1) := by decide +kernel
theorem dX7_mendNow_0 : decode cX7_mendNow 0 = .ok (.iconst (-1), 1) := by decide +kernel
theorem dX7_mendNow_1 : decode cX7_mendNow 1 = .ok (.istore_n 2, 1) := by decide +kernel
theorem dX7_mendNow_2 : decode cX7_mendNow 2 = .ok (.aload_n 0, 1) := by decide +kernel
theorem dX7_mendNow_3 : decode cX7_mendNow 3 = .ok (.aload_n 0, 1) := by decide +kernel
theorem dX7_mendNow_4 : decode cX7_mendNow 4 = .ok (.getfield 76, 3) := by decide +kernel
theorem dX7_mendNow_7 : decode cX7_mendNow 7 = .ok (.invokevirtual 136, 3) := by decide +kernel
theorem dX7_mendNow_10 : decode cX7_mendNow 10 = .ok (.istore_n 3, 1) := by decide +kernel
theorem dX7_mendNow_11 : decode cX7_mendNow 11 = .ok (.iconst 0, 1) := by decide +kernel
theorem dX7_mendNow_12 : decode cX7_mendNow 12 = .ok (.istore 4, 2) := by decide +kernel
theorem dX7_mendNow_14 : decode cX7_mendNow 14 = .ok (.iload 4, 2) := by decide +kernel
theorem dX7_mendNow_16 : decode cX7_mendNow 16 = .ok (.aload_n 0, 1) := by decide +kernel
theorem dX7_mendNow_17 : decode cX7_mendNow 17 = .ok (.getfield 73, 3) := by decide +kernel
theorem dX7_mendNow_20 : decode cX7_mendNow 20 = .ok (.if_icmp .ge 71, 3) := by decide +kernel
theorem dX7_mendNow_23 : decode cX7_mendNow 23 = .ok (.aload_n 0, 1) := by decide +kernel
theorem dX7_mendNow_24 : decode cX7_mendNow 24 = .ok (.getfield 7, 3) := by decide +kernel
theorem dX7_mendNow_27 : decode cX7_mendNow 27 = .ok (.iload 4, 2) := by decide +kernel
theorem dX7_mendNow_29 : decode cX7_mendNow 29 = .ok (.iaload, 1) := by decide +kernel
theorem dX7_mendNow_30 : decode cX7_mendNow 30 = .ok (.istore 5, 2) := by decide +kernel
theorem dX7_mendNow_32 : decode cX7_mendNow 32 = .ok (.aload_n 0, 1) := by decide +kernel
theorem dX7_mendNow_33 : decode cX7_mendNow 33 = .ok (.getfield 7, 3) := by decide +kernel
theorem dX7_mendNow_36 : decode cX7_mendNow 36 = .ok (.iload 4, 2) := by decide +kernel
theorem dX7_mendNow_38 : decode cX7_mendNow 38 = .ok (.iconst 0, 1) := by decide +kernel
theorem dX7_mendNow_39 : decode cX7_mendNow 39 = .ok (.iastore, 1) := by decide +kernel
theorem dX7_mendNow_40 : decode cX7_mendNow 40 = .ok (.aload_n 0, 1) := by decide +kernel
theorem dX7_mendNow_41 : decode cX7_mendNow 41 = .ok (.aload_n 0, 1) := by decide +kernel
theorem dX7_mendNow_42 : decode cX7_mendNow 42 = .ok (.getfield 76, 3) := by decide +kernel
theorem dX7_mendNow_45 : decode cX7_mendNow 45 = .ok (.invokevirtual 136, 3) := by decide +kernel
theorem dX7_mendNow_48 : decode cX7_mendNow 48 = .ok (.istore 6, 2) := by decide +kernel
theorem dX7_mendNow_50 : decode cX7_mendNow 50 = .ok (.aload_n 0, 1) := by decide +kernel
theorem dX7_mendNow_51 : decode cX7_mendNow 51 = .ok (.getfield 7, 3) := by decide +kernel
theorem dX7_mendNow_54 : decode cX7_mendNow 54 = .ok (.iload 4, 2) := by decide +kernel
theorem dX7_mendNow_56 : decode cX7_mendNow 56 = .ok (.iload 5, 2) := by decide +kernel
theorem dX7_mendNow_58 : decode cX7_mendNow 58 = .ok (.iastore, 1) := by decide +kernel
theorem dX7_mendNow_59 : decode cX7_mendNow 59 = .ok (.iload 6, 2) := by decide +kernel
theorem dX7_mendNow_61 : decode cX7_mendNow 61 = .ok (.iload_n 3, 1) := by decide +kernel
theorem dX7_mendNow_62 : decode cX7_mendNow 62 = .ok (.if_icmp .ge 8, 3) := by decide +kernel
theorem dX7_mendNow_65 : decode cX7_mendNow 65 = .ok (.iload 4, 2) := by decide +kernel
theorem dX7_mendNow_67 : decode cX7_mendNow 67 = .ok (.goto 4, 3) := by decide +kernel
theorem dX7_mendNow_70 : decode cX7_mendNow 70 = .ok (.iload_n 2, 1) := by decide +kernel
theorem dX7_mendNow_71 : decode cX7_mendNow 71 = .ok (.istore_n 2, 1) := by decide +kernel
theorem dX7_mendNow_72 : decode cX7_mendNow 72 = .ok (.iload 6, 2) := by decide +kernel
theorem dX7_mendNow_74 : decode cX7_mendNow 74 = .ok (.iload_n 3, 1) := by decide +kernel
theorem dX7_mendNow_75 : decode cX7_mendNow 75 = .ok (.if_icmp .ge 8, 3) := by decide +kernel
theorem dX7_mendNow_78 : decode cX7_mendNow 78 = .ok (.iload 6, 2) := by decide +kernel
theorem dX7_mendNow_80 : decode cX7_mendNow 80 = .ok (.goto 4, 3) := by decide +kernel
theorem dX7_mendNow_83 : decode cX7_mendNow 83 = .ok (.iload_n 3, 1) := by decide +kernel
theorem dX7_mendNow_84 : decode cX7_mendNow 84 = .ok (.istore_n 3, 1) := by decide +kernel
theorem dX7_mendNow_85 : decode cX7_mendNow 85 = .ok (.iinc 4 1, 3) := by decide +kernel
theorem dX7_mendNow_88 : decode cX7_mendNow 88 = .ok (.goto (-74), 3) := by decide +kernel
theorem dX7_mendNow_91 : decode cX7_mendNow 91 = .ok (.iload_n 2, 1) := by decide +kernel
theorem dX7_mendNow_92 : decode cX7_mendNow 92 = .ok (.iconst (-1), 1) := by decide +kernel
theorem dX7_mendNow_93 : decode cX7_mendNow 93 = .ok (.if_icmp .eq 7, 3) := by decide +kernel
theorem dX7_mendNow_96 : decode cX7_mendNow 96 = .ok (.iload_n 1, 1) := by decide +kernel
theorem dX7_mendNow_97 : decode cX7_mendNow 97 = .ok (.ifCond .ne 7, 3) := by decide +kernel
theorem dX7_mendNow_100 : decode cX7_mendNow 100 = .ok (.iload_n 2, 1) := by decide +kernel
theorem dX7_mendNow_101 : decode cX7_mendNow 101 = .ok (.goto 4, 3) := by decide +kernel
theorem dX7_mendNow_104 : decode cX7_mendNow 104 = .ok (.iload_n 3, 1) := by decide +kernel
theorem dX7_mendNow_105 : decode cX7_mendNow 105 = .ok (.ireturn, 1) := by decide +kernel
theorem dX7_mend_0 : decode cX7_mend 0 = .ok (.iload_n 1, 1) := by decide +kernel
theorem dX7_mend_1 : decode cX7_mend 1 = .ok (.iconst 0, 1) := by decide +kernel
theorem dX7_mend_2 : decode cX7_mend 2 = .ok (.iconst 1, 1) := by decide +kernel
theorem dX7_mend_3 : decode cX7_mend 3 = .ok (.invokestatic 47, 3) := by decide +kernel
theorem dX7_mend_6 : decode cX7_mend 6 = .ok (.ifCond .ne 6, 3) := by decide +kernel
theorem dX7_mend_9 : decode cX7_mend 9 = .ok (.bipush (-102), 2) := by decide +kernel
theorem dX7_mend_11 : decode cX7_mend 11 = .ok (.ireturn, 1) := by decide +kernel
theorem dX7_mend_12 : decode cX7_mend 12 = .ok (.aload_n 0, 1) := by decide +kernel
theorem dX7_mend_13 : decode cX7_mend 13 = .ok (.getfield 73, 3) := by decide +kernel
theorem dX7_mend_16 : decode cX7_mend 16 = .ok (.ifCond .ne 8, 3) := by decide +kernel
theorem dX7_mend_19 : decode cX7_mend 19 = .ok (.bipush (-103), 2) := by decide +kernel
theorem dX7_mend_21 : decode cX7_mend 21 = .ok (.goto 8, 3) := by decide +kernel
theorem dX7_mend_24 : decode cX7_mend 24 = .ok (.aload_n 0, 1) := by decide +kernel
theorem dX7_mend_25 : decode cX7_mend 25 = .ok (.iload_n 1, 1) := by decide +kernel
theorem dX7_mend_26 : decode cX7_mend 26 = .ok (.invokevirtual 142, 3) := by decide +kernel
theorem dX7_mend_29 : decode cX7_mend 29 = .ok (.ireturn, 1) := by decide +kernel
theorem dX7_hear_0 : decode cX7_hear 0 = .ok (.aload_n 0, 1) := by decide +kernel
theorem dX7_hear_1 : decode cX7_hear 1 = .ok (.iload_n 1, 1) := by decide +kernel
theorem dX7_hear_2 : decode cX7_hear 2 = .ok (.invokevirtual 104, 3) := by decide +kernel
theorem dX7_hear_5 : decode cX7_hear 5 = .ok (.ifCond .ne 6, 3) := by decide +kernel
theorem dX7_hear_8 : decode cX7_hear 8 = .ok (.bipush (-101), 2) := by decide +kernel
theorem dX7_hear_10 : decode cX7_hear 10 = .ok (.ireturn, 1) := by decide +kernel
theorem dX7_hear_11 : decode cX7_hear 11 = .ok (.iload_n 2, 1) := by decide +kernel
theorem dX7_hear_12 : decode cX7_hear 12 = .ok (.iconst 1, 1) := by decide +kernel
theorem dX7_hear_13 : decode cX7_hear 13 = .ok (.iconst 3, 1) := by decide +kernel
theorem dX7_hear_14 : decode cX7_hear 14 = .ok (.invokestatic 47, 3) := by decide +kernel
theorem dX7_hear_17 : decode cX7_hear 17 = .ok (.ifCond .eq 13, 3) := by decide +kernel
theorem dX7_hear_20 : decode cX7_hear 20 = .ok (.iload_n 3, 1) := by decide +kernel
theorem dX7_hear_21 : decode cX7_hear 21 = .ok (.iconst 0, 1) := by decide +kernel
theorem dX7_hear_22 : decode cX7_hear 22 = .ok (.bipush 11, 2) := by decide +kernel
theorem dX7_hear_24 : decode cX7_hear 24 = .ok (.invokestatic 47, 3) := by decide +kernel
theorem dX7_hear_27 : decode cX7_hear 27 = .ok (.ifCond .ne 6, 3) := by decide +kernel
theorem dX7_hear_30 : decode cX7_hear 30 = .ok (.bipush (-102), 2) := by decide +kernel
theorem dX7_hear_32 : decode cX7_hear 32 = .ok (.ireturn, 1) := by decide +kernel
theorem dX7_hear_33 : decode cX7_hear 33 = .ok (.aload_n 0, 1) := by decide +kernel
theorem dX7_hear_34 : decode cX7_hear 34 = .ok (.getfield 94, 3) := by decide +kernel
theorem dX7_hear_37 : decode cX7_hear 37 = .ok (.bipush 6, 2) := by decide +kernel
theorem dX7_hear_39 : decode cX7_hear 39 = .ok (.if_icmp .ne 6, 3) := by decide +kernel
theorem dX7_hear_42 : decode cX7_hear 42 = .ok (.bipush (-104), 2) := by decide +kernel
theorem dX7_hear_44 : decode cX7_hear 44 = .ok (.ireturn, 1) := by decide +kernel
theorem dX7_hear_45 : decode cX7_hear 45 = .ok (.aload_n 0, 1) := by decide +kernel
theorem dX7_hear_46 : decode cX7_hear 46 = .ok (.getfield 13, 3) := by decide +kernel
theorem dX7_hear_49 : decode cX7_hear 49 = .ok (.aload_n 0, 1) := by decide +kernel
theorem dX7_hear_50 : decode cX7_hear 50 = .ok (.getfield 94, 3) := by decide +kernel
theorem dX7_hear_53 : decode cX7_hear 53 = .ok (.iload_n 1, 1) := by decide +kernel
theorem dX7_hear_54 : decode cX7_hear 54 = .ok (.iastore, 1) := by decide +kernel
theorem dX7_hear_55 : decode cX7_hear 55 = .ok (.aload_n 0, 1) := by decide +kernel
theorem dX7_hear_56 : decode cX7_hear 56 = .ok (.getfield 16, 3) := by decide +kernel
theorem dX7_hear_59 : decode cX7_hear 59 = .ok (.aload_n 0, 1) := by decide +kernel
theorem dX7_hear_60 : decode cX7_hear 60 = .ok (.getfield 94, 3) := by decide +kernel
theorem dX7_hear_63 : decode cX7_hear 63 = .ok (.iload_n 2, 1) := by decide +kernel
theorem dX7_hear_64 : decode cX7_hear 64 = .ok (.iastore, 1) := by decide +kernel
theorem dX7_hear_65 : decode cX7_hear 65 = .ok (.aload_n 0, 1) := by decide +kernel
theorem dX7_hear_66 : decode cX7_hear 66 = .ok (.getfield 19, 3) := by decide +kernel
theorem dX7_hear_69 : decode cX7_hear 69 = .ok (.aload_n 0, 1) := by decide +kernel
theorem dX7_hear_70 : decode cX7_hear 70 = .ok (.getfield 94, 3) := by decide +kernel
theorem dX7_hear_73 : decode cX7_hear 73 = .ok (.iload_n 3, 1) := by decide +kernel
theorem dX7_hear_74 : decode cX7_hear 74 = .ok (.iastore, 1) := by decide +kernel
theorem dX7_hear_75 : decode cX7_hear 75 = .ok (.aload_n 0, 1) := by decide +kernel
theorem dX7_hear_76 : decode cX7_hear 76 = .ok (.getfield 22, 3) := by decide +kernel
theorem dX7_hear_79 : decode cX7_hear 79 = .ok (.aload_n 0, 1) := by decide +kernel
theorem dX7_hear_80 : decode cX7_hear 80 = .ok (.getfield 94, 3) := by decide +kernel
theorem dX7_hear_83 : decode cX7_hear 83 = .ok (.iload 4, 2) := by decide +kernel
theorem dX7_hear_85 : decode cX7_hear 85 = .ok (.ifCond .eq 7, 3) := by decide +kernel
theorem dX7_hear_88 : decode cX7_hear 88 = .ok (.iconst 1, 1) := by decide +kernel
theorem dX7_hear_89 : decode cX7_hear 89 = .ok (.goto 4, 3) := by decide +kernel
theorem dX7_hear_92 : decode cX7_hear 92 = .ok (.iconst 0, 1) := by decide +kernel
theorem dX7_hear_93 : decode cX7_hear 93 = .ok (.iastore, 1) := by decide +kernel
theorem dX7_hear_94 : decode cX7_hear 94 = .ok (.aload_n 0, 1) := by decide +kernel
theorem dX7_hear_95 : decode cX7_hear 95 = .ok (.dup, 1) := by decide +kernel
theorem dX7_hear_96 : decode cX7_hear 96 = .ok (.getfield 94, 3) := by decide +kernel
theorem dX7_hear_99 : decode cX7_hear 99 = .ok (.iconst 1, 1) := by decide +kernel
theorem dX7_hear_100 : decode cX7_hear 100 = .ok (.iadd, 1) := by decide +kernel
theorem dX7_hear_101 : decode cX7_hear 101 = .ok (.putfield 94, 3) := by decide +kernel
theorem dX7_hear_104 : decode cX7_hear 104 = .ok (.aload_n 0, 1) := by decide +kernel
end
section
theorem dX7_hear_105 : decode cX7_hear 105 = .ok (.getfield 94, 3) := by decide +kernel
theorem dX7_hear_108 : decode cX7_hear 108 = .ok (.ireturn, 1) := by decide +kernel
theorem dX7_forget_0 : decode cX7_forget 0 = .ok (.aload_n 0, 1) := by decide +kernel
theorem dX7_forget_1 : decode cX7_forget 1 = .ok (.getfield 94, 3) := by decide +kernel
theorem dX7_forget_4 : decode cX7_forget 4 = .ok (.istore_n 1, 1) := by decide +kernel
theorem dX7_forget_5 : decode cX7_forget 5 = .ok (.aload_n 0, 1) := by decide +kernel
theorem dX7_forget_6 : decode cX7_forget 6 = .ok (.iconst 0, 1) := by decide +kernel
theorem dX7_forget_7 : decode cX7_forget 7 = .ok (.putfield 94, 3) := by decide +kernel
theorem dX7_forget_10 : decode cX7_forget 10 = .ok (.iload_n 1, 1) := by decide +kernel
theorem dX7_forget_11 : decode cX7_forget 11 = .ok (.ireturn, 1) := by decide +kernel
theorem dX7_heightsNow_0 : decode cX7_heightsNow 0 = .ok (.iconst 0, 1) := by decide +kernel
theorem dX7_heightsNow_1 : decode cX7_heightsNow 1 = .ok (.istore_n 1, 1) := by decide +kernel
theorem dX7_heightsNow_2 : decode cX7_heightsNow 2 = .ok (.iconst 1, 1) := by decide +kernel
theorem dX7_heightsNow_3 : decode cX7_heightsNow 3 = .ok (.istore_n 2, 1) := by decide +kernel
theorem dX7_heightsNow_4 : decode cX7_heightsNow 4 = .ok (.iload_n 2, 1) := by decide +kernel
theorem dX7_heightsNow_5 : decode cX7_heightsNow 5 = .ok (.bipush 9, 2) := by decide +kernel
theorem dX7_heightsNow_7 : decode cX7_heightsNow 7 = .ok (.if_icmp .gt 111, 3) := by decide +kernel
theorem dX7_heightsNow_10 : decode cX7_heightsNow 10 = .ok (.iconst 1, 1) := by decide +kernel
theorem dX7_heightsNow_11 : decode cX7_heightsNow 11 = .ok (.istore_n 3, 1) := by decide +kernel
theorem dX7_heightsNow_12 : decode cX7_heightsNow 12 = .ok (.iconst 0, 1) := by decide +kernel
theorem dX7_heightsNow_13 : decode cX7_heightsNow 13 = .ok (.istore 4, 2) := by decide +kernel
theorem dX7_heightsNow_15 : decode cX7_heightsNow 15 = .ok (.iload 4, 2) := by decide +kernel
theorem dX7_heightsNow_17 : decode cX7_heightsNow 17 = .ok (.aload_n 0, 1) := by decide +kernel
theorem dX7_heightsNow_18 : decode cX7_heightsNow 18 = .ok (.getfield 94, 3) := by decide +kernel
theorem dX7_heightsNow_21 : decode cX7_heightsNow 21 = .ok (.if_icmp .ge 75, 3) := by decide +kernel
theorem dX7_heightsNow_24 : decode cX7_heightsNow 24 = .ok (.iload_n 3, 1) := by decide +kernel
theorem dX7_heightsNow_25 : decode cX7_heightsNow 25 = .ok (.ifCond .eq 63, 3) := by decide +kernel
theorem dX7_heightsNow_28 : decode cX7_heightsNow 28 = .ok (.aload_n 0, 1) := by decide +kernel
theorem dX7_heightsNow_29 : decode cX7_heightsNow 29 = .ok (.aload_n 0, 1) := by decide +kernel
theorem dX7_heightsNow_30 : decode cX7_heightsNow 30 = .ok (.getfield 13, 3) := by decide +kernel
theorem dX7_heightsNow_33 : decode cX7_heightsNow 33 = .ok (.iload 4, 2) := by decide +kernel
theorem dX7_heightsNow_35 : decode cX7_heightsNow 35 = .ok (.iaload, 1) := by decide +kernel
theorem dX7_heightsNow_36 : decode cX7_heightsNow 36 = .ok (.aload_n 0, 1) := by decide +kernel
theorem dX7_heightsNow_37 : decode cX7_heightsNow 37 = .ok (.getfield 16, 3) := by decide +kernel
theorem dX7_heightsNow_40 : decode cX7_heightsNow 40 = .ok (.iload 4, 2) := by decide +kernel
theorem dX7_heightsNow_42 : decode cX7_heightsNow 42 = .ok (.iaload, 1) := by decide +kernel
theorem dX7_heightsNow_43 : decode cX7_heightsNow 43 = .ok (.aload_n 0, 1) := by decide +kernel
theorem dX7_heightsNow_44 : decode cX7_heightsNow 44 = .ok (.getfield 19, 3) := by decide +kernel
theorem dX7_heightsNow_47 : decode cX7_heightsNow 47 = .ok (.iload 4, 2) := by decide +kernel
theorem dX7_heightsNow_49 : decode cX7_heightsNow 49 = .ok (.iaload, 1) := by decide +kernel
theorem dX7_heightsNow_50 : decode cX7_heightsNow 50 = .ok (.invokevirtual 97, 3) := by decide +kernel
theorem dX7_heightsNow_53 : decode cX7_heightsNow 53 = .ok (.iload_n 2, 1) := by decide +kernel
theorem dX7_heightsNow_54 : decode cX7_heightsNow 54 = .ok (.invokestatic 112, 3) := by decide +kernel
theorem dX7_heightsNow_57 : decode cX7_heightsNow 57 = .ok (.if_icmp .le 7, 3) := by decide +kernel
theorem dX7_heightsNow_60 : decode cX7_heightsNow 60 = .ok (.iconst 1, 1) := by decide +kernel
theorem dX7_heightsNow_61 : decode cX7_heightsNow 61 = .ok (.goto 4, 3) := by decide +kernel
theorem dX7_heightsNow_64 : decode cX7_heightsNow 64 = .ok (.iconst 0, 1) := by decide +kernel
theorem dX7_heightsNow_65 : decode cX7_heightsNow 65 = .ok (.aload_n 0, 1) := by decide +kernel
theorem dX7_heightsNow_66 : decode cX7_heightsNow 66 = .ok (.getfield 22, 3) := by decide +kernel
theorem dX7_heightsNow_69 : decode cX7_heightsNow 69 = .ok (.iload 4, 2) := by decide +kernel
theorem dX7_heightsNow_71 : decode cX7_heightsNow 71 = .ok (.iaload, 1) := by decide +kernel
theorem dX7_heightsNow_72 : decode cX7_heightsNow 72 = .ok (.iconst 1, 1) := by decide +kernel
theorem dX7_heightsNow_73 : decode cX7_heightsNow 73 = .ok (.if_icmp .ne 7, 3) := by decide +kernel
theorem dX7_heightsNow_76 : decode cX7_heightsNow 76 = .ok (.iconst 1, 1) := by decide +kernel
theorem dX7_heightsNow_77 : decode cX7_heightsNow 77 = .ok (.goto 4, 3) := by decide +kernel
theorem dX7_heightsNow_80 : decode cX7_heightsNow 80 = .ok (.iconst 0, 1) := by decide +kernel
theorem dX7_heightsNow_81 : decode cX7_heightsNow 81 = .ok (.if_icmp .ne 7, 3) := by decide +kernel
theorem dX7_heightsNow_84 : decode cX7_heightsNow 84 = .ok (.iconst 1, 1) := by decide +kernel
theorem dX7_heightsNow_85 : decode cX7_heightsNow 85 = .ok (.goto 4, 3) := by decide +kernel
theorem dX7_heightsNow_88 : decode cX7_heightsNow 88 = .ok (.iconst 0, 1) := by decide +kernel
theorem dX7_heightsNow_89 : decode cX7_heightsNow 89 = .ok (.istore_n 3, 1) := by decide +kernel
theorem dX7_heightsNow_90 : decode cX7_heightsNow 90 = .ok (.iinc 4 1, 3) := by decide +kernel
theorem dX7_heightsNow_93 : decode cX7_heightsNow 93 = .ok (.goto (-78), 3) := by decide +kernel
theorem dX7_heightsNow_96 : decode cX7_heightsNow 96 = .ok (.iload_n 1, 1) := by decide +kernel
theorem dX7_heightsNow_97 : decode cX7_heightsNow 97 = .ok (.iload_n 3, 1) := by decide +kernel
theorem dX7_heightsNow_98 : decode cX7_heightsNow 98 = .ok (.ifCond .eq 11, 3) := by decide +kernel
theorem dX7_heightsNow_101 : decode cX7_heightsNow 101 = .ok (.iconst 1, 1) := by decide +kernel
theorem dX7_heightsNow_102 : decode cX7_heightsNow 102 = .ok (.iload_n 2, 1) := by decide +kernel
theorem dX7_heightsNow_103 : decode cX7_heightsNow 103 = .ok (.iconst 1, 1) := by decide +kernel
theorem dX7_heightsNow_104 : decode cX7_heightsNow 104 = .ok (.isub, 1) := by decide +kernel
theorem dX7_heightsNow_105 : decode cX7_heightsNow 105 = .ok (.ishl, 1) := by decide +kernel
theorem dX7_heightsNow_106 : decode cX7_heightsNow 106 = .ok (.goto 4, 3) := by decide +kernel
theorem dX7_heightsNow_109 : decode cX7_heightsNow 109 = .ok (.iconst 0, 1) := by decide +kernel
theorem dX7_heightsNow_110 : decode cX7_heightsNow 110 = .ok (.ior, 1) := by decide +kernel
theorem dX7_heightsNow_111 : decode cX7_heightsNow 111 = .ok (.istore_n 1, 1) := by decide +kernel
theorem dX7_heightsNow_112 : decode cX7_heightsNow 112 = .ok (.iinc 2 1, 3) := by decide +kernel
theorem dX7_heightsNow_115 : decode cX7_heightsNow 115 = .ok (.goto (-111), 3) := by decide +kernel
theorem dX7_heightsNow_118 : decode cX7_heightsNow 118 = .ok (.iload_n 1, 1) := by decide +kernel
theorem dX7_heightsNow_119 : decode cX7_heightsNow 119 = .ok (.ireturn, 1) := by decide +kernel
theorem dX7_heights_0 : decode cX7_heights 0 = .ok (.aload_n 0, 1) := by decide +kernel
theorem dX7_heights_1 : decode cX7_heights 1 = .ok (.getfield 73, 3) := by decide +kernel
theorem dX7_heights_4 : decode cX7_heights 4 = .ok (.ifCond .ne 8, 3) := by decide +kernel
theorem dX7_heights_7 : decode cX7_heights 7 = .ok (.bipush (-103), 2) := by decide +kernel
theorem dX7_heights_9 : decode cX7_heights 9 = .ok (.goto 7, 3) := by decide +kernel
theorem dX7_heights_12 : decode cX7_heights 12 = .ok (.aload_n 0, 1) := by decide +kernel
theorem dX7_heights_13 : decode cX7_heights 13 = .ok (.invokevirtual 145, 3) := by decide +kernel
theorem dX7_heights_16 : decode cX7_heights 16 = .ok (.ireturn, 1) := by decide +kernel
theorem dX7_tryAt_0 : decode cX7_tryAt 0 = .ok (.aload_n 0, 1) := by decide +kernel
theorem dX7_tryAt_1 : decode cX7_tryAt 1 = .ok (.invokevirtual 145, 3) := by decide +kernel
theorem dX7_tryAt_4 : decode cX7_tryAt 4 = .ok (.istore_n 2, 1) := by decide +kernel
theorem dX7_tryAt_5 : decode cX7_tryAt 5 = .ok (.iconst (-1), 1) := by decide +kernel
theorem dX7_tryAt_6 : decode cX7_tryAt 6 = .ok (.istore_n 3, 1) := by decide +kernel
theorem dX7_tryAt_7 : decode cX7_tryAt 7 = .ok (.ldc 118, 2) := by decide +kernel
theorem dX7_tryAt_9 : decode cX7_tryAt 9 = .ok (.istore 4, 2) := by decide +kernel
theorem dX7_tryAt_11 : decode cX7_tryAt 11 = .ok (.iconst 0, 1) := by decide +kernel
theorem dX7_tryAt_12 : decode cX7_tryAt 12 = .ok (.istore 5, 2) := by decide +kernel
theorem dX7_tryAt_14 : decode cX7_tryAt 14 = .ok (.iload 5, 2) := by decide +kernel
theorem dX7_tryAt_16 : decode cX7_tryAt 16 = .ok (.bipush 11, 2) := by decide +kernel
theorem dX7_tryAt_18 : decode cX7_tryAt 18 = .ok (.if_icmp .gt 137, 3) := by decide +kernel
theorem dX7_tryAt_21 : decode cX7_tryAt 21 = .ok (.iload_n 2, 1) := by decide +kernel
theorem dX7_tryAt_22 : decode cX7_tryAt 22 = .ok (.ifCond .eq 133, 3) := by decide +kernel
theorem dX7_tryAt_25 : decode cX7_tryAt 25 = .ok (.iconst 0, 1) := by decide +kernel
theorem dX7_tryAt_26 : decode cX7_tryAt 26 = .ok (.istore 6, 2) := by decide +kernel
theorem dX7_tryAt_28 : decode cX7_tryAt 28 = .ok (.iconst 0, 1) := by decide +kernel
theorem dX7_tryAt_29 : decode cX7_tryAt 29 = .ok (.istore 7, 2) := by decide +kernel
theorem dX7_tryAt_31 : decode cX7_tryAt 31 = .ok (.iconst 1, 1) := by decide +kernel
theorem dX7_tryAt_32 : decode cX7_tryAt 32 = .ok (.istore 8, 2) := by decide +kernel
theorem dX7_tryAt_34 : decode cX7_tryAt 34 = .ok (.iload 8, 2) := by decide +kernel
theorem dX7_tryAt_36 : decode cX7_tryAt 36 = .ok (.bipush 9, 2) := by decide +kernel
theorem dX7_tryAt_38 : decode cX7_tryAt 38 = .ok (.if_icmp .gt 59, 3) := by decide +kernel
theorem dX7_tryAt_41 : decode cX7_tryAt 41 = .ok (.iload 7, 2) := by decide +kernel
theorem dX7_tryAt_43 : decode cX7_tryAt 43 = .ok (.iload_n 2, 1) := by decide +kernel
theorem dX7_tryAt_44 : decode cX7_tryAt 44 = .ok (.iload 8, 2) := by decide +kernel
theorem dX7_tryAt_46 : decode cX7_tryAt 46 = .ok (.iconst 1, 1) := by decide +kernel
theorem dX7_tryAt_47 : decode cX7_tryAt 47 = .ok (.isub, 1) := by decide +kernel
theorem dX7_tryAt_48 : decode cX7_tryAt 48 = .ok (.ishr, 1) := by decide +kernel
theorem dX7_tryAt_49 : decode cX7_tryAt 49 = .ok (.iconst 1, 1) := by decide +kernel
theorem dX7_tryAt_50 : decode cX7_tryAt 50 = .ok (.iand, 1) := by decide +kernel
theorem dX7_tryAt_51 : decode cX7_tryAt 51 = .ok (.iadd, 1) := by decide +kernel
theorem dX7_tryAt_52 : decode cX7_tryAt 52 = .ok (.istore 7, 2) := by decide +kernel
theorem dX7_tryAt_54 : decode cX7_tryAt 54 = .ok (.iload 6, 2) := by decide +kernel
theorem dX7_tryAt_56 : decode cX7_tryAt 56 = .ok (.iload_n 2, 1) := by decide +kernel
theorem dX7_tryAt_57 : decode cX7_tryAt 57 = .ok (.iload 8, 2) := by decide +kernel
theorem dX7_tryAt_59 : decode cX7_tryAt 59 = .ok (.iconst 1, 1) := by decide +kernel
theorem dX7_tryAt_60 : decode cX7_tryAt 60 = .ok (.isub, 1) := by decide +kernel
theorem dX7_tryAt_61 : decode cX7_tryAt 61 = .ok (.invokestatic 148, 3) := by decide +kernel
theorem dX7_tryAt_64 : decode cX7_tryAt 64 = .ok (.ifCond .eq 23, 3) := by decide +kernel
theorem dX7_tryAt_67 : decode cX7_tryAt 67 = .ok (.aload_n 0, 1) := by decide +kernel
theorem dX7_tryAt_68 : decode cX7_tryAt 68 = .ok (.iload_n 1, 1) := by decide +kernel
theorem dX7_tryAt_69 : decode cX7_tryAt 69 = .ok (.iconst 1, 1) := by decide +kernel
theorem dX7_tryAt_70 : decode cX7_tryAt 70 = .ok (.iload 5, 2) := by decide +kernel
theorem dX7_tryAt_72 : decode cX7_tryAt 72 = .ok (.invokevirtual 97, 3) := by decide +kernel
theorem dX7_tryAt_75 : decode cX7_tryAt 75 = .ok (.iload 8, 2) := by decide +kernel
theorem dX7_tryAt_77 : decode cX7_tryAt 77 = .ok (.invokestatic 112, 3) := by decide +kernel
theorem dX7_tryAt_80 : decode cX7_tryAt 80 = .ok (.if_icmp .le 7, 3) := by decide +kernel
theorem dX7_tryAt_83 : decode cX7_tryAt 83 = .ok (.iconst 1, 1) := by decide +kernel
theorem dX7_tryAt_84 : decode cX7_tryAt 84 = .ok (.goto 4, 3) := by decide +kernel
theorem dX7_tryAt_87 : decode cX7_tryAt 87 = .ok (.iconst 0, 1) := by decide +kernel
theorem dX7_tryAt_88 : decode cX7_tryAt 88 = .ok (.iadd, 1) := by decide +kernel
theorem dX7_tryAt_89 : decode cX7_tryAt 89 = .ok (.istore 6, 2) := by decide +kernel
theorem dX7_tryAt_91 : decode cX7_tryAt 91 = .ok (.iinc 8 1, 3) := by decide +kernel
theorem dX7_tryAt_94 : decode cX7_tryAt 94 = .ok (.goto (-60), 3) := by decide +kernel
theorem dX7_tryAt_97 : decode cX7_tryAt 97 = .ok (.iload 6, 2) := by decide +kernel
theorem dX7_tryAt_99 : decode cX7_tryAt 99 = .ok (.iload 7, 2) := by decide +kernel
theorem dX7_tryAt_101 : decode cX7_tryAt 101 = .ok (.iload 6, 2) := by decide +kernel
theorem dX7_tryAt_103 : decode cX7_tryAt 103 = .ok (.isub, 1) := by decide +kernel
theorem dX7_tryAt_104 : decode cX7_tryAt 104 = .ok (.if_icmp .le 8, 3) := by decide +kernel
theorem dX7_tryAt_107 : decode cX7_tryAt 107 = .ok (.iload 6, 2) := by decide +kernel
theorem dX7_tryAt_109 : decode cX7_tryAt 109 = .ok (.goto 8, 3) := by decide +kernel
theorem dX7_tryAt_112 : decode cX7_tryAt 112 = .ok (.iload 7, 2) := by decide +kernel
theorem dX7_tryAt_114 : decode cX7_tryAt 114 = .ok (.iload 6, 2) := by decide +kernel
theorem dX7_tryAt_116 : decode cX7_tryAt 116 = .ok (.isub, 1) := by decide +kernel
theorem dX7_tryAt_117 : decode cX7_tryAt 117 = .ok (.istore 8, 2) := by decide +kernel
theorem dX7_tryAt_119 : decode cX7_tryAt 119 = .ok (.iload 8, 2) := by decide +kernel
theorem dX7_tryAt_121 : decode cX7_tryAt 121 = .ok (.iload 4, 2) := by decide +kernel
theorem dX7_tryAt_123 : decode cX7_tryAt 123 = .ok (.if_icmp .ge 8, 3) := by decide +kernel
theorem dX7_tryAt_126 : decode cX7_tryAt 126 = .ok (.iload 5, 2) := by decide +kernel
theorem dX7_tryAt_128 : decode cX7_tryAt 128 = .ok (.goto 4, 3) := by decide +kernel
theorem dX7_tryAt_131 : decode cX7_tryAt 131 = .ok (.iload_n 3, 1) := by decide +kernel
theorem dX7_tryAt_132 : decode cX7_tryAt 132 = .ok (.istore_n 3, 1) := by decide +kernel
theorem dX7_tryAt_133 : decode cX7_tryAt 133 = .ok (.iload 8, 2) := by decide +kernel
theorem dX7_tryAt_135 : decode cX7_tryAt 135 = .ok (.iload 4, 2) := by decide +kernel
theorem dX7_tryAt_137 : decode cX7_tryAt 137 = .ok (.if_icmp .ge 8, 3) := by decide +kernel
theorem dX7_tryAt_140 : decode cX7_tryAt 140 = .ok (.iload 8, 2) := by decide +kernel
theorem dX7_tryAt_142 : decode cX7_tryAt 142 = .ok (.goto 5, 3) := by decide +kernel
theorem dX7_tryAt_145 : decode cX7_tryAt 145 = .ok (.iload 4, 2) := by decide +kernel
theorem dX7_tryAt_147 : decode cX7_tryAt 147 = .ok (.istore 4, 2) := by decide +kernel
theorem dX7_tryAt_149 : decode cX7_tryAt 149 = .ok (.iinc 5 1, 3) := by decide +kernel
theorem dX7_tryAt_152 : decode cX7_tryAt 152 = .ok (.goto (-138), 3) := by decide +kernel
theorem dX7_tryAt_155 : decode cX7_tryAt 155 = .ok (.iload_n 3, 1) := by decide +kernel
theorem dX7_tryAt_156 : decode cX7_tryAt 156 = .ok (.ireturn, 1) := by decide +kernel
theorem dX7_draw_0 : decode cX7_draw 0 = .ok (.aload_n 0, 1) := by decide +kernel
theorem dX7_draw_1 : decode cX7_draw 1 = .ok (.ldc2_w 152, 3) := by decide +kernel
theorem dX7_draw_4 : decode cX7_draw 4 = .ok (.aload_n 0, 1) := by decide +kernel
theorem dX7_draw_5 : decode cX7_draw 5 = .ok (.getfield 154, 3) := by decide +kernel
theorem dX7_draw_8 : decode cX7_draw 8 = .ok (.lmul, 1) := by decide +kernel
theorem dX7_draw_9 : decode cX7_draw 9 = .ok (.ldc2_w 158, 3) := by decide +kernel
theorem dX7_draw_12 : decode cX7_draw 12 = .ok (.ladd, 1) := by decide +kernel
theorem dX7_draw_13 : decode cX7_draw 13 = .ok (.ldc2_w 160, 3) := by decide +kernel
theorem dX7_draw_16 : decode cX7_draw 16 = .ok (.land, 1) := by decide +kernel
theorem dX7_draw_17 : decode cX7_draw 17 = .ok (.putfield 154, 3) := by decide +kernel
theorem dX7_draw_20 : decode cX7_draw 20 = .ok (.aload_n 0, 1) := by decide +kernel
theorem dX7_draw_21 : decode cX7_draw 21 = .ok (.getfield 154, 3) := by decide +kernel
theorem dX7_draw_24 : decode cX7_draw 24 = .ok (.ldc2_w 162, 3) := by decide +kernel
theorem dX7_draw_27 : decode cX7_draw 27 = .ok (.ldiv, 1) := by decide +kernel
theorem dX7_draw_28 : decode cX7_draw 28 = .ok (.iload_n 1, 1) := by decide +kernel
theorem dX7_draw_29 : decode cX7_draw 29 = .ok (.i2l, 1) := by decide +kernel
theorem dX7_draw_30 : decode cX7_draw 30 = .ok (.lrem, 1) := by decide +kernel
theorem dX7_draw_31 : decode cX7_draw 31 = .ok (.l2i, 1) := by decide +kernel
theorem dX7_draw_32 : decode cX7_draw 32 = .ok (.ireturn, 1) := by decide +kernel
theorem dX7_racesNow_0 : decode cX7_racesNow 0 = .ok (.aload_n 0, 1) := by decide +kernel
theorem dX7_racesNow_1 : decode cX7_racesNow 1 = .ok (.getfield 82, 3) := by decide +kernel
theorem dX7_racesNow_4 : decode cX7_racesNow 4 = .ok (.istore 4, 2) := by decide +kernel
theorem dX7_racesNow_6 : decode cX7_racesNow 6 = .ok (.aload_n 0, 1) := by decide +kernel
theorem dX7_racesNow_7 : decode cX7_racesNow 7 = .ok (.getfield 85, 3) := by decide +kernel
theorem dX7_racesNow_10 : decode cX7_racesNow 10 = .ok (.istore 5, 2) := by decide +kernel
theorem dX7_racesNow_12 : decode cX7_racesNow 12 = .ok (.aload_n 0, 1) := by decide +kernel
theorem dX7_racesNow_13 : decode cX7_racesNow 13 = .ok (.iload_n 2, 1) := by decide +kernel
theorem dX7_racesNow_14 : decode cX7_racesNow 14 = .ok (.i2l, 1) := by decide +kernel
theorem dX7_racesNow_15 : decode cX7_racesNow 15 = .ok (.putfield 154, 3) := by decide +kernel
theorem dX7_racesNow_18 : decode cX7_racesNow 18 = .ok (.iconst 0, 1) := by decide +kernel
theorem dX7_racesNow_19 : decode cX7_racesNow 19 = .ok (.istore 6, 2) := by decide +kernel
theorem dX7_racesNow_21 : decode cX7_racesNow 21 = .ok (.iconst 0, 1) := by decide +kernel
theorem dX7_racesNow_22 : decode cX7_racesNow 22 = .ok (.istore 7, 2) := by decide +kernel
theorem dX7_racesNow_24 : decode cX7_racesNow 24 = .ok (.iload 7, 2) := by decide +kernel
theorem dX7_racesNow_26 : decode cX7_racesNow 26 = .ok (.iload_n 1, 1) := by decide +kernel
theorem dX7_racesNow_27 : decode cX7_racesNow 27 = .ok (.if_icmp .ge 60, 3) := by decide +kernel
theorem dX7_racesNow_30 : decode cX7_racesNow 30 = .ok (.aload_n 0, 1) := by decide +kernel
theorem dX7_racesNow_31 : decode cX7_racesNow 31 = .ok (.iconst 4, 1) := by decide +kernel
theorem dX7_racesNow_32 : decode cX7_racesNow 32 = .ok (.invokevirtual 164, 3) := by decide +kernel
theorem dX7_racesNow_35 : decode cX7_racesNow 35 = .ok (.istore 8, 2) := by decide +kernel
theorem dX7_racesNow_37 : decode cX7_racesNow 37 = .ok (.aload_n 0, 1) := by decide +kernel
theorem dX7_racesNow_38 : decode cX7_racesNow 38 = .ok (.getfield 73, 3) := by decide +kernel
theorem dX7_racesNow_41 : decode cX7_racesNow 41 = .ok (.iconst 1, 1) := by decide +kernel
theorem dX7_racesNow_42 : decode cX7_racesNow 42 = .ok (.isub, 1) := by decide +kernel
theorem dX7_racesNow_43 : decode cX7_racesNow 43 = .ok (.aload_n 0, 1) := by decide +kernel
theorem dX7_racesNow_44 : decode cX7_racesNow 44 = .ok (.getfield 82, 3) := by decide +kernel
theorem dX7_racesNow_47 : decode cX7_racesNow 47 = .ok (.isub, 1) := by decide +kernel
theorem dX7_racesNow_48 : decode cX7_racesNow 48 = .ok (.istore 9, 2) := by decide +kernel
theorem dX7_racesNow_50 : decode cX7_racesNow 50 = .ok (.iload 6, 2) := by decide +kernel
theorem dX7_racesNow_52 : decode cX7_racesNow 52 = .ok (.aload_n 0, 1) := by decide +kernel
theorem dX7_racesNow_53 : decode cX7_racesNow 53 = .ok (.iload 8, 2) := by decide +kernel
theorem dX7_racesNow_55 : decode cX7_racesNow 55 = .ok (.iload 9, 2) := by decide +kernel
theorem dX7_racesNow_57 : decode cX7_racesNow 57 = .ok (.if_icmp .ge 8, 3) := by decide +kernel
theorem dX7_racesNow_60 : decode cX7_racesNow 60 = .ok (.iload 8, 2) := by decide +kernel
theorem dX7_racesNow_62 : decode cX7_racesNow 62 = .ok (.goto 5, 3) := by decide +kernel
theorem dX7_racesNow_65 : decode cX7_racesNow 65 = .ok (.iload 9, 2) := by decide +kernel
theorem dX7_racesNow_67 : decode cX7_racesNow 67 = .ok (.invokevirtual 115, 3) := by decide +kernel
theorem dX7_racesNow_70 : decode cX7_racesNow 70 = .ok (.ifCond .eq 7, 3) := by decide +kernel
theorem dX7_racesNow_73 : decode cX7_racesNow 73 = .ok (.iconst 0, 1) := by decide +kernel
theorem dX7_racesNow_74 : decode cX7_racesNow 74 = .ok (.goto 4, 3) := by decide +kernel
theorem dX7_racesNow_77 : decode cX7_racesNow 77 = .ok (.iconst 1, 1) := by decide +kernel
theorem dX7_racesNow_78 : decode cX7_racesNow 78 = .ok (.iadd, 1) := by decide +kernel
theorem dX7_racesNow_79 : decode cX7_racesNow 79 = .ok (.istore 6, 2) := by decide +kernel
theorem dX7_racesNow_81 : decode cX7_racesNow 81 = .ok (.iinc 7 1, 3) := by decide +kernel
theorem dX7_racesNow_84 : decode cX7_racesNow 84 = .ok (.goto (-60), 3) := by decide +kernel
theorem dX7_racesNow_87 : decode cX7_racesNow 87 = .ok (.aload_n 0, 1) := by decide +kernel
theorem dX7_racesNow_88 : decode cX7_racesNow 88 = .ok (.getfield 82, 3) := by decide +kernel
theorem dX7_racesNow_91 : decode cX7_racesNow 91 = .ok (.istore 7, 2) := by decide +kernel
theorem dX7_racesNow_93 : decode cX7_racesNow 93 = .ok (.aload_n 0, 1) := by decide +kernel
theorem dX7_racesNow_94 : decode cX7_racesNow 94 = .ok (.iload 4, 2) := by decide +kernel
theorem dX7_racesNow_96 : decode cX7_racesNow 96 = .ok (.putfield 82, 3) := by decide +kernel
theorem dX7_racesNow_99 : decode cX7_racesNow 99 = .ok (.aload_n 0, 1) := by decide +kernel
theorem dX7_racesNow_100 : decode cX7_racesNow 100 = .ok (.iload 5, 2) := by decide +kernel
theorem dX7_racesNow_102 : decode cX7_racesNow 102 = .ok (.putfield 85, 3) := by decide +kernel
theorem dX7_racesNow_105 : decode cX7_racesNow 105 = .ok (.iload_n 3, 1) := by decide +kernel
theorem dX7_racesNow_106 : decode cX7_racesNow 106 = .ok (.ifCond .ne 8, 3) := by decide +kernel
theorem dX7_racesNow_109 : decode cX7_racesNow 109 = .ok (.iload 6, 2) := by decide +kernel
theorem dX7_racesNow_111 : decode cX7_racesNow 111 = .ok (.goto 18, 3) := by decide +kernel
theorem dX7_racesNow_114 : decode cX7_racesNow 114 = .ok (.iload_n 3, 1) := by decide +kernel
theorem dX7_racesNow_115 : decode cX7_racesNow 115 = .ok (.iconst 1, 1) := by decide +kernel
theorem dX7_racesNow_116 : decode cX7_racesNow 116 = .ok (.if_icmp .ne 8, 3) := by decide +kernel
theorem dX7_racesNow_119 : decode cX7_racesNow 119 = .ok (.iload 7, 2) := by decide +kernel
theorem dX7_racesNow_121 : decode cX7_racesNow 121 = .ok (.goto 8, 3) := by decide +kernel
theorem dX7_racesNow_124 : decode cX7_racesNow 124 = .ok (.aload_n 0, 1) := by decide +kernel
theorem dX7_racesNow_125 : decode cX7_racesNow 125 = .ok (.getfield 154, 3) := by decide +kernel
theorem dX7_racesNow_128 : decode cX7_racesNow 128 = .ok (.l2i, 1) := by decide +kernel
theorem dX7_racesNow_129 : decode cX7_racesNow 129 = .ok (.ireturn, 1) := by decide +kernel
theorem dX7_races_0 : decode cX7_races 0 = .ok (.iload_n 1, 1) := by decide +kernel
theorem dX7_races_1 : decode cX7_races 1 = .ok (.iconst 1, 1) := by decide +kernel
theorem dX7_races_2 : decode cX7_races 2 = .ok (.bipush 60, 2) := by decide +kernel
theorem dX7_races_4 : decode cX7_races 4 = .ok (.invokestatic 47, 3) := by decide +kernel
theorem dX7_races_7 : decode cX7_races 7 = .ok (.ifCond .eq 16, 3) := by decide +kernel
theorem dX7_races_10 : decode cX7_races 10 = .ok (.iload_n 2, 1) := by decide +kernel
theorem dX7_races_11 : decode cX7_races 11 = .ok (.ifCond .lt 12, 3) := by decide +kernel
theorem dX7_races_14 : decode cX7_races 14 = .ok (.iload_n 3, 1) := by decide +kernel
theorem dX7_races_15 : decode cX7_races 15 = .ok (.iconst 0, 1) := by decide +kernel
theorem dX7_races_16 : decode cX7_races 16 = .ok (.iconst 2, 1) := by decide +kernel
theorem dX7_races_17 : decode cX7_races 17 = .ok (.invokestatic 47, 3) := by decide +kernel
theorem dX7_races_20 : decode cX7_races 20 = .ok (.ifCond .ne 6, 3) := by decide +kernel
theorem dX7_races_23 : decode cX7_races 23 = .ok (.bipush (-102), 2) := by decide +kernel
theorem dX7_races_25 : decode cX7_races 25 = .ok (.ireturn, 1) := by decide +kernel
theorem dX7_races_26 : decode cX7_races 26 = .ok (.aload_n 0, 1) := by decide +kernel
theorem dX7_races_27 : decode cX7_races 27 = .ok (.getfield 73, 3) := by decide +kernel
theorem dX7_races_30 : decode cX7_races 30 = .ok (.ifCond .ne 8, 3) := by decide +kernel
theorem dX7_races_33 : decode cX7_races 33 = .ok (.bipush (-103), 2) := by decide +kernel
theorem dX7_races_35 : decode cX7_races 35 = .ok (.goto 10, 3) := by decide +kernel
theorem dX7_races_38 : decode cX7_races 38 = .ok (.aload_n 0, 1) := by decide +kernel
theorem dX7_races_39 : decode cX7_races 39 = .ok (.iload_n 1, 1) := by decide +kernel
theorem dX7_races_40 : decode cX7_races 40 = .ok (.iload_n 2, 1) := by decide +kernel
theorem dX7_races_41 : decode cX7_races 41 = .ok (.iload_n 3, 1) := by decide +kernel
theorem dX7_races_42 : decode cX7_races 42 = .ok (.invokevirtual 167, 3) := by decide +kernel
theorem dX7_races_45 : decode cX7_races 45 = .ok (.ireturn, 1) := by decide +kernel
theorem dX7_image_0 : decode cX7_image 0 = .ok (.aload_n 0, 1) := by decide +kernel
theorem dX7_image_1 : decode cX7_image 1 = .ok (.getfield 73, 3) := by decide +kernel
theorem dX7_image_4 : decode cX7_image 4 = .ok (.ifCond .ne 6, 3) := by decide +kernel
theorem dX7_image_7 : decode cX7_image 7 = .ok (.bipush (-103), 2) := by decide +kernel
theorem dX7_image_9 : decode cX7_image 9 = .ok (.ireturn, 1) := by decide +kernel
theorem dX7_image_10 : decode cX7_image 10 = .ok (.aload_n 0, 1) := by decide +kernel
theorem dX7_image_11 : decode cX7_image 11 = .ok (.iconst 1, 1) := by decide +kernel
theorem dX7_image_12 : decode cX7_image 12 = .ok (.putfield 170, 3) := by decide +kernel
theorem dX7_image_15 : decode cX7_image 15 = .ok (.aload_n 0, 1) := by decide +kernel
theorem dX7_image_16 : decode cX7_image 16 = .ok (.aload_n 0, 1) := by decide +kernel
theorem dX7_image_17 : decode cX7_image 17 = .ok (.getfield 79, 3) := by decide +kernel
theorem dX7_image_20 : decode cX7_image 20 = .ok (.putfield 173, 3) := by decide +kernel
theorem dX7_image_23 : decode cX7_image 23 = .ok (.aload_n 0, 1) := by decide +kernel
theorem dX7_image_24 : decode cX7_image 24 = .ok (.aload_n 0, 1) := by decide +kernel
theorem dX7_image_25 : decode cX7_image 25 = .ok (.getfield 76, 3) := by decide +kernel
theorem dX7_image_28 : decode cX7_image 28 = .ok (.putfield 176, 3) := by decide +kernel
theorem dX7_image_31 : decode cX7_image 31 = .ok (.aload_n 0, 1) := by decide +kernel
theorem dX7_image_32 : decode cX7_image 32 = .ok (.aload_n 0, 1) := by decide +kernel
theorem dX7_image_33 : decode cX7_image 33 = .ok (.getfield 82, 3) := by decide +kernel
theorem dX7_image_36 : decode cX7_image 36 = .ok (.putfield 179, 3) := by decide +kernel
theorem dX7_image_39 : decode cX7_image 39 = .ok (.aload_n 0, 1) := by decide +kernel
theorem dX7_image_40 : decode cX7_image 40 = .ok (.aload_n 0, 1) := by decide +kernel
theorem dX7_image_41 : decode cX7_image 41 = .ok (.getfield 85, 3) := by decide +kernel
theorem dX7_image_44 : decode cX7_image 44 = .ok (.putfield 182, 3) := by decide +kernel
theorem dX7_image_47 : decode cX7_image 47 = .ok (.aload_n 0, 1) := by decide +kernel
theorem dX7_image_48 : decode cX7_image 48 = .ok (.aload_n 0, 1) := by decide +kernel
theorem dX7_image_49 : decode cX7_image 49 = .ok (.getfield 88, 3) := by decide +kernel
theorem dX7_image_52 : decode cX7_image 52 = .ok (.putfield 185, 3) := by decide +kernel
theorem dX7_image_55 : decode cX7_image 55 = .ok (.aload_n 0, 1) := by decide +kernel
theorem dX7_image_56 : decode cX7_image 56 = .ok (.aload_n 0, 1) := by decide +kernel
theorem dX7_image_57 : decode cX7_image 57 = .ok (.getfield 91, 3) := by decide +kernel
theorem dX7_image_60 : decode cX7_image 60 = .ok (.putfield 188, 3) := by decide +kernel
theorem dX7_image_63 : decode cX7_image 63 = .ok (.aload_n 0, 1) := by decide +kernel
theorem dX7_image_64 : decode cX7_image 64 = .ok (.aload_n 0, 1) := by decide +kernel
theorem dX7_image_65 : decode cX7_image 65 = .ok (.getfield 94, 3) := by decide +kernel
theorem dX7_image_68 : decode cX7_image 68 = .ok (.putfield 191, 3) := by decide +kernel
theorem dX7_image_71 : decode cX7_image 71 = .ok (.iconst 0, 1) := by decide +kernel
theorem dX7_image_72 : decode cX7_image 72 = .ok (.istore_n 1, 1) := by decide +kernel
theorem dX7_image_73 : decode cX7_image 73 = .ok (.iload_n 1, 1) := by decide +kernel
theorem dX7_image_74 : decode cX7_image 74 = .ok (.bipush 12, 2) := by decide +kernel
theorem dX7_image_76 : decode cX7_image 76 = .ok (.if_icmp .ge 21, 3) := by decide +kernel
theorem dX7_image_79 : decode cX7_image 79 = .ok (.aload_n 0, 1) := by decide +kernel
theorem dX7_image_80 : decode cX7_image 80 = .ok (.getfield 32, 3) := by decide +kernel
theorem dX7_image_83 : decode cX7_image 83 = .ok (.iload_n 1, 1) := by decide +kernel
theorem dX7_image_84 : decode cX7_image 84 = .ok (.aload_n 0, 1) := by decide +kernel
theorem dX7_image_85 : decode cX7_image 85 = .ok (.getfield 7, 3) := by decide +kernel
theorem dX7_image_88 : decode cX7_image 88 = .ok (.iload_n 1, 1) := by decide +kernel
theorem dX7_image_89 : decode cX7_image 89 = .ok (.iaload, 1) := by decide +kernel
theorem dX7_image_90 : decode cX7_image 90 = .ok (.iastore, 1) := by decide +kernel
theorem dX7_image_91 : decode cX7_image 91 = .ok (.iinc 1 1, 3) := by decide +kernel
theorem dX7_image_94 : decode cX7_image 94 = .ok (.goto (-21), 3) := by decide +kernel
theorem dX7_image_97 : decode cX7_image 97 = .ok (.iconst 0, 1) := by decide +kernel
theorem dX7_image_98 : decode cX7_image 98 = .ok (.istore_n 1, 1) := by decide +kernel
theorem dX7_image_99 : decode cX7_image 99 = .ok (.iload_n 1, 1) := by decide +kernel
theorem dX7_image_100 : decode cX7_image 100 = .ok (.bipush 6, 2) := by decide +kernel
theorem dX7_image_102 : decode cX7_image 102 = .ok (.if_icmp .ge 57, 3) := by decide +kernel
theorem dX7_image_105 : decode cX7_image 105 = .ok (.aload_n 0, 1) := by decide +kernel
theorem dX7_image_106 : decode cX7_image 106 = .ok (.getfield 35, 3) := by decide +kernel
theorem dX7_image_109 : decode cX7_image 109 = .ok (.iload_n 1, 1) := by decide +kernel
theorem dX7_image_110 : decode cX7_image 110 = .ok (.aload_n 0, 1) := by decide +kernel
theorem dX7_image_111 : decode cX7_image 111 = .ok (.getfield 13, 3) := by decide +kernel
theorem dX7_image_114 : decode cX7_image 114 = .ok (.iload_n 1, 1) := by decide +kernel
theorem dX7_image_115 : decode cX7_image 115 = .ok (.iaload, 1) := by decide +kernel
theorem dX7_image_116 : decode cX7_image 116 = .ok (.iastore, 1) := by decide +kernel
theorem dX7_image_117 : decode cX7_image 117 = .ok (.aload_n 0, 1) := by decide +kernel
theorem dX7_image_118 : decode cX7_image 118 = .ok (.getfield 38, 3) := by decide +kernel
theorem dX7_image_121 : decode cX7_image 121 = .ok (.iload_n 1, 1) := by decide +kernel
theorem dX7_image_122 : decode cX7_image 122 = .ok (.aload_n 0, 1) := by decide +kernel
theorem dX7_image_123 : decode cX7_image 123 = .ok (.getfield 16, 3) := by decide +kernel
theorem dX7_image_126 : decode cX7_image 126 = .ok (.iload_n 1, 1) := by decide +kernel
theorem dX7_image_127 : decode cX7_image 127 = .ok (.iaload, 1) := by decide +kernel
theorem dX7_image_128 : decode cX7_image 128 = .ok (.iastore, 1) := by decide +kernel
theorem dX7_image_129 : decode cX7_image 129 = .ok (.aload_n 0, 1) := by decide +kernel
theorem dX7_image_130 : decode cX7_image 130 = .ok (.getfield 41, 3) := by decide +kernel
theorem dX7_image_133 : decode cX7_image 133 = .ok (.iload_n 1, 1) := by decide +kernel
theorem dX7_image_134 : decode cX7_image 134 = .ok (.aload_n 0, 1) := by decide +kernel
theorem dX7_image_135 : decode cX7_image 135 = .ok (.getfield 19, 3) := by decide +kernel
theorem dX7_image_138 : decode cX7_image 138 = .ok (.iload_n 1, 1) := by decide +kernel
theorem dX7_image_139 : decode cX7_image 139 = .ok (.iaload, 1) := by decide +kernel
theorem dX7_image_140 : decode cX7_image 140 = .ok (.iastore, 1) := by decide +kernel
theorem dX7_image_141 : decode cX7_image 141 = .ok (.aload_n 0, 1) := by decide +kernel
theorem dX7_image_142 : decode cX7_image 142 = .ok (.getfield 44, 3) := by decide +kernel
theorem dX7_image_145 : decode cX7_image 145 = .ok (.iload_n 1, 1) := by decide +kernel
theorem dX7_image_146 : decode cX7_image 146 = .ok (.aload_n 0, 1) := by decide +kernel
theorem dX7_image_147 : decode cX7_image 147 = .ok (.getfield 22, 3) := by decide +kernel
theorem dX7_image_150 : decode cX7_image 150 = .ok (.iload_n 1, 1) := by decide +kernel
theorem dX7_image_151 : decode cX7_image 151 = .ok (.iaload, 1) := by decide +kernel
theorem dX7_image_152 : decode cX7_image 152 = .ok (.iastore, 1) := by decide +kernel
theorem dX7_image_153 : decode cX7_image 153 = .ok (.iinc 1 1, 3) := by decide +kernel
theorem dX7_image_156 : decode cX7_image 156 = .ok (.goto (-57), 3) := by decide +kernel
theorem dX7_image_159 : decode cX7_image 159 = .ok (.aload_n 0, 1) := by decide +kernel
theorem dX7_image_160 : decode cX7_image 160 = .ok (.getfield 88, 3) := by decide +kernel
theorem dX7_image_163 : decode cX7_image 163 = .ok (.ireturn, 1) := by decide +kernel
theorem dX7_restore_0 : decode cX7_restore 0 = .ok (.aload_n 0, 1) := by decide +kernel
theorem dX7_restore_1 : decode cX7_restore 1 = .ok (.getfield 170, 3) := by decide +kernel
theorem dX7_restore_4 : decode cX7_restore 4 = .ok (.ifCond .eq 14, 3) := by decide +kernel
theorem dX7_restore_7 : decode cX7_restore 7 = .ok (.aload_n 0, 1) := by decide +kernel
theorem dX7_restore_8 : decode cX7_restore 8 = .ok (.getfield 173, 3) := by decide +kernel
theorem dX7_restore_11 : decode cX7_restore 11 = .ok (.aload_n 0, 1) := by decide +kernel
theorem dX7_restore_12 : decode cX7_restore 12 = .ok (.getfield 79, 3) := by decide +kernel
theorem dX7_restore_15 : decode cX7_restore 15 = .ok (.if_icmp .eq 6, 3) := by decide +kernel
theorem dX7_restore_18 : decode cX7_restore 18 = .ok (.bipush (-103), 2) := by decide +kernel
theorem dX7_restore_20 : decode cX7_restore 20 = .ok (.ireturn, 1) := by decide +kernel
theorem dX7_restore_21 : decode cX7_restore 21 = .ok (.aload_n 0, 1) := by decide +kernel
theorem dX7_restore_22 : decode cX7_restore 22 = .ok (.aload_n 0, 1) := by decide +kernel
theorem dX7_restore_23 : decode cX7_restore 23 = .ok (.getfield 176, 3) := by decide +kernel
theorem dX7_restore_26 : decode cX7_restore 26 = .ok (.putfield 76, 3) := by decide +kernel
theorem dX7_restore_29 : decode cX7_restore 29 = .ok (.aload_n 0, 1) := by decide +kernel
theorem dX7_restore_30 : decode cX7_restore 30 = .ok (.aload_n 0, 1) := by decide +kernel
theorem dX7_restore_31 : decode cX7_restore 31 = .ok (.getfield 179, 3) := by decide +kernel
theorem dX7_restore_34 : decode cX7_restore 34 = .ok (.putfield 82, 3) := by decide +kernel
theorem dX7_restore_37 : decode cX7_restore 37 = .ok (.aload_n 0, 1) := by decide +kernel
theorem dX7_restore_38 : decode cX7_restore 38 = .ok (.aload_n 0, 1) := by decide +kernel
theorem dX7_restore_39 : decode cX7_restore 39 = .ok (.getfield 182, 3) := by decide +kernel
theorem dX7_restore_42 : decode cX7_restore 42 = .ok (.putfield 85, 3) := by decide +kernel
theorem dX7_restore_45 : decode cX7_restore 45 = .ok (.aload_n 0, 1) := by decide +kernel
theorem dX7_restore_46 : decode cX7_restore 46 = .ok (.aload_n 0, 1) := by decide +kernel
theorem dX7_restore_47 : decode cX7_restore 47 = .ok (.getfield 185, 3) := by decide +kernel
theorem dX7_restore_50 : decode cX7_restore 50 = .ok (.putfield 88, 3) := by decide +kernel
theorem dX7_restore_53 : decode cX7_restore 53 = .ok (.aload_n 0, 1) := by decide +kernel
theorem dX7_restore_54 : decode cX7_restore 54 = .ok (.aload_n 0, 1) := by decide +kernel
theorem dX7_restore_55 : decode cX7_restore 55 = .ok (.getfield 188, 3) := by decide +kernel
theorem dX7_restore_58 : decode cX7_restore 58 = .ok (.putfield 91, 3) := by decide +kernel
theorem dX7_restore_61 : decode cX7_restore 61 = .ok (.aload_n 0, 1) := by decide +kernel
theorem dX7_restore_62 : decode cX7_restore 62 = .ok (.aload_n 0, 1) := by decide +kernel
theorem dX7_restore_63 : decode cX7_restore 63 = .ok (.getfield 191, 3) := by decide +kernel
theorem dX7_restore_66 : decode cX7_restore 66 = .ok (.putfield 94, 3) := by decide +kernel
theorem dX7_restore_69 : decode cX7_restore 69 = .ok (.iconst 0, 1) := by decide +kernel
theorem dX7_restore_70 : decode cX7_restore 70 = .ok (.istore_n 1, 1) := by decide +kernel
theorem dX7_restore_71 : decode cX7_restore 71 = .ok (.iload_n 1, 1) := by decide +kernel
theorem dX7_restore_72 : decode cX7_restore 72 = .ok (.bipush 12, 2) := by decide +kernel
theorem dX7_restore_74 : decode cX7_restore 74 = .ok (.if_icmp .ge 21, 3) := by decide +kernel
theorem dX7_restore_77 : decode cX7_restore 77 = .ok (.aload_n 0, 1) := by decide +kernel
theorem dX7_restore_78 : decode cX7_restore 78 = .ok (.getfield 7, 3) := by decide +kernel
theorem dX7_restore_81 : decode cX7_restore 81 = .ok (.iload_n 1, 1) := by decide +kernel
theorem dX7_restore_82 : decode cX7_restore 82 = .ok (.aload_n 0, 1) := by decide +kernel
theorem dX7_restore_83 : decode cX7_restore 83 = .ok (.getfield 32, 3) := by decide +kernel
theorem dX7_restore_86 : decode cX7_restore 86 = .ok (.iload_n 1, 1) := by decide +kernel
theorem dX7_restore_87 : decode cX7_restore 87 = .ok (.iaload, 1) := by decide +kernel
theorem dX7_restore_88 : decode cX7_restore 88 = .ok (.iastore, 1) := by decide +kernel
theorem dX7_restore_89 : decode cX7_restore 89 = .ok (.iinc 1 1, 3) := by decide +kernel
theorem dX7_restore_92 : decode cX7_restore 92 = .ok (.goto (-21), 3) := by decide +kernel
theorem dX7_restore_95 : decode cX7_restore 95 = .ok (.iconst 0, 1) := by decide +kernel
theorem dX7_restore_96 : decode cX7_restore 96 = .ok (.istore_n 1, 1) := by decide +kernel
theorem dX7_restore_97 : decode cX7_restore 97 = .ok (.iload_n 1, 1) := by decide +kernel
theorem dX7_restore_98 : decode cX7_restore 98 = .ok (.bipush 6, 2) := by decide +kernel
theorem dX7_restore_100 : decode cX7_restore 100 = .ok (.if_icmp .ge 57, 3) := by decide +kernel
theorem dX7_restore_103 : decode cX7_restore 103 = .ok (.aload_n 0, 1) := by decide +kernel
theorem dX7_restore_104 : decode cX7_restore 104 = .ok (.getfield 13, 3) := by decide +kernel
theorem dX7_restore_107 : decode cX7_restore 107 = .ok (.iload_n 1, 1) := by decide +kernel
theorem dX7_restore_108 : decode cX7_restore 108 = .ok (.aload_n 0, 1) := by decide +kernel
theorem dX7_restore_109 : decode cX7_restore 109 = .ok (.getfield 35, 3) := by decide +kernel
theorem dX7_restore_112 : decode cX7_restore 112 = .ok (.iload_n 1, 1) := by decide +kernel
theorem dX7_restore_113 : decode cX7_restore 113 = .ok (.iaload, 1) := by decide +kernel
theorem dX7_restore_114 : decode cX7_restore 114 = .ok (.iastore, 1) := by decide +kernel
theorem dX7_restore_115 : decode cX7_restore 115 = .ok (.aload_n 0, 1) := by decide +kernel
theorem dX7_restore_116 : decode cX7_restore 116 = .ok (.getfield 16, 3) := by decide +kernel
theorem dX7_restore_119 : decode cX7_restore 119 = .ok (.iload_n 1, 1) := by decide +kernel
theorem dX7_restore_120 : decode cX7_restore 120 = .ok (.aload_n 0, 1) := by decide +kernel
theorem dX7_restore_121 : decode cX7_restore 121 = .ok (.getfield 38, 3) := by decide +kernel
theorem dX7_restore_124 : decode cX7_restore 124 = .ok (.iload_n 1, 1) := by decide +kernel
theorem dX7_restore_125 : decode cX7_restore 125 = .ok (.iaload, 1) := by decide +kernel
theorem dX7_restore_126 : decode cX7_restore 126 = .ok (.iastore, 1) := by decide +kernel
theorem dX7_restore_127 : decode cX7_restore 127 = .ok (.aload_n 0, 1) := by decide +kernel
theorem dX7_restore_128 : decode cX7_restore 128 = .ok (.getfield 19, 3) := by decide +kernel
theorem dX7_restore_131 : decode cX7_restore 131 = .ok (.iload_n 1, 1) := by decide +kernel
theorem dX7_restore_132 : decode cX7_restore 132 = .ok (.aload_n 0, 1) := by decide +kernel
theorem dX7_restore_133 : decode cX7_restore 133 = .ok (.getfield 41, 3) := by decide +kernel
theorem dX7_restore_136 : decode cX7_restore 136 = .ok (.iload_n 1, 1) := by decide +kernel
theorem dX7_restore_137 : decode cX7_restore 137 = .ok (.iaload, 1) := by decide +kernel
theorem dX7_restore_138 : decode cX7_restore 138 = .ok (.iastore, 1) := by decide +kernel
theorem dX7_restore_139 : decode cX7_restore 139 = .ok (.aload_n 0, 1) := by decide +kernel
theorem dX7_restore_140 : decode cX7_restore 140 = .ok (.getfield 22, 3) := by decide +kernel
theorem dX7_restore_143 : decode cX7_restore 143 = .ok (.iload_n 1, 1) := by decide +kernel
theorem dX7_restore_144 : decode cX7_restore 144 = .ok (.aload_n 0, 1) := by decide +kernel
theorem dX7_restore_145 : decode cX7_restore 145 = .ok (.getfield 44, 3) := by decide +kernel
theorem dX7_restore_148 : decode cX7_restore 148 = .ok (.iload_n 1, 1) := by decide +kernel
theorem dX7_restore_149 : decode cX7_restore 149 = .ok (.iaload, 1) := by decide +kernel
theorem dX7_restore_150 : decode cX7_restore 150 = .ok (.iastore, 1) := by decide +kernel
theorem dX7_restore_151 : decode cX7_restore 151 = .ok (.iinc 1 1, 3) := by decide +kernel
theorem dX7_restore_154 : decode cX7_restore 154 = .ok (.goto (-57), 3) := by decide +kernel
theorem dX7_restore_157 : decode cX7_restore 157 = .ok (.aload_n 0, 1) := by decide +kernel
theorem dX7_restore_158 : decode cX7_restore 158 = .ok (.getfield 88, 3) := by decide +kernel
theorem dX7_restore_161 : decode cX7_restore 161 = .ok (.ireturn, 1) := by decide +kernel
theorem dX7_plain_0 : decode cX7_plain 0 = .ok (.iconst 0, 1) := by decide +kernel
theorem dX7_plain_1 : decode cX7_plain 1 = .ok (.istore_n 1, 1) := by decide +kernel
theorem dX7_plain_2 : decode cX7_plain 2 = .ok (.iconst 0, 1) := by decide +kernel
theorem dX7_plain_3 : decode cX7_plain 3 = .ok (.istore_n 2, 1) := by decide +kernel
theorem dX7_plain_4 : decode cX7_plain 4 = .ok (.iload_n 2, 1) := by decide +kernel
theorem dX7_plain_5 : decode cX7_plain 5 = .ok (.aload_n 0, 1) := by decide +kernel
theorem dX7_plain_6 : decode cX7_plain 6 = .ok (.getfield 73, 3) := by decide +kernel
theorem dX7_plain_9 : decode cX7_plain 9 = .ok (.if_icmp .ge 26, 3) := by decide +kernel
theorem dX7_plain_12 : decode cX7_plain 12 = .ok (.iload_n 1, 1) := by decide +kernel
theorem dX7_plain_13 : decode cX7_plain 13 = .ok (.aload_n 0, 1) := by decide +kernel
theorem dX7_plain_14 : decode cX7_plain 14 = .ok (.getfield 7, 3) := by decide +kernel
theorem dX7_plain_17 : decode cX7_plain 17 = .ok (.iload_n 2, 1) := by decide +kernel
theorem dX7_plain_18 : decode cX7_plain 18 = .ok (.iaload, 1) := by decide +kernel
theorem dX7_plain_19 : decode cX7_plain 19 = .ok (.ifCond .ne 7, 3) := by decide +kernel
theorem dX7_plain_22 : decode cX7_plain 22 = .ok (.iconst 1, 1) := by decide +kernel
theorem dX7_plain_23 : decode cX7_plain 23 = .ok (.goto 4, 3) := by decide +kernel
theorem dX7_plain_26 : decode cX7_plain 26 = .ok (.iconst 0, 1) := by decide +kernel
theorem dX7_plain_27 : decode cX7_plain 27 = .ok (.iadd, 1) := by decide +kernel
theorem dX7_plain_28 : decode cX7_plain 28 = .ok (.istore_n 1, 1) := by decide +kernel
theorem dX7_plain_29 : decode cX7_plain 29 = .ok (.iinc 2 1, 3) := by decide +kernel
theorem dX7_plain_32 : decode cX7_plain 32 = .ok (.goto (-28), 3) := by decide +kernel
theorem dX7_plain_35 : decode cX7_plain 35 = .ok (.iload_n 1, 1) := by decide +kernel
theorem dX7_plain_36 : decode cX7_plain 36 = .ok (.ireturn, 1) := by decide +kernel
theorem dX7_howMany_0 : decode cX7_howMany 0 = .ok (.iload_n 1, 1) := by decide +kernel
theorem dX7_howMany_1 : decode cX7_howMany 1 = .ok (.tableswitch 137 0 11 #[63, 68, 73, 78, 83, 88, 93, 112, 117, 122, 127, 132], 63) := by decide +kernel
theorem dX7_howMany_64 : decode cX7_howMany 64 = .ok (.aload_n 0, 1) := by decide +kernel
theorem dX7_howMany_65 : decode cX7_howMany 65 = .ok (.getfield 73, 3) := by decide +kernel
theorem dX7_howMany_68 : decode cX7_howMany 68 = .ok (.ireturn, 1) := by decide +kernel
theorem dX7_howMany_69 : decode cX7_howMany 69 = .ok (.aload_n 0, 1) := by decide +kernel
theorem dX7_howMany_70 : decode cX7_howMany 70 = .ok (.getfield 76, 3) := by decide +kernel
theorem dX7_howMany_73 : decode cX7_howMany 73 = .ok (.ireturn, 1) := by decide +kernel
theorem dX7_howMany_74 : decode cX7_howMany 74 = .ok (.aload_n 0, 1) := by decide +kernel
theorem dX7_howMany_75 : decode cX7_howMany 75 = .ok (.getfield 82, 3) := by decide +kernel
theorem dX7_howMany_78 : decode cX7_howMany 78 = .ok (.ireturn, 1) := by decide +kernel
theorem dX7_howMany_79 : decode cX7_howMany 79 = .ok (.aload_n 0, 1) := by decide +kernel
theorem dX7_howMany_80 : decode cX7_howMany 80 = .ok (.getfield 85, 3) := by decide +kernel
theorem dX7_howMany_83 : decode cX7_howMany 83 = .ok (.ireturn, 1) := by decide +kernel
theorem dX7_howMany_84 : decode cX7_howMany 84 = .ok (.aload_n 0, 1) := by decide +kernel
theorem dX7_howMany_85 : decode cX7_howMany 85 = .ok (.getfield 88, 3) := by decide +kernel
theorem dX7_howMany_88 : decode cX7_howMany 88 = .ok (.ireturn, 1) := by decide +kernel
theorem dX7_howMany_89 : decode cX7_howMany 89 = .ok (.aload_n 0, 1) := by decide +kernel
theorem dX7_howMany_90 : decode cX7_howMany 90 = .ok (.getfield 91, 3) := by decide +kernel
theorem dX7_howMany_93 : decode cX7_howMany 93 = .ok (.ireturn, 1) := by decide +kernel
theorem dX7_howMany_94 : decode cX7_howMany 94 = .ok (.aload_n 0, 1) := by decide +kernel
theorem dX7_howMany_95 : decode cX7_howMany 95 = .ok (.getfield 73, 3) := by decide +kernel
theorem dX7_howMany_98 : decode cX7_howMany 98 = .ok (.ifCond .ne 7, 3) := by decide +kernel
theorem dX7_howMany_101 : decode cX7_howMany 101 = .ok (.iconst 0, 1) := by decide +kernel
theorem dX7_howMany_102 : decode cX7_howMany 102 = .ok (.goto 10, 3) := by decide +kernel
theorem dX7_howMany_105 : decode cX7_howMany 105 = .ok (.aload_n 0, 1) := by decide +kernel
theorem dX7_howMany_106 : decode cX7_howMany 106 = .ok (.getfield 76, 3) := by decide +kernel
theorem dX7_howMany_109 : decode cX7_howMany 109 = .ok (.invokestatic 112, 3) := by decide +kernel
theorem dX7_howMany_112 : decode cX7_howMany 112 = .ok (.ireturn, 1) := by decide +kernel
theorem dX7_howMany_113 : decode cX7_howMany 113 = .ok (.aload_n 0, 1) := by decide +kernel
theorem dX7_howMany_114 : decode cX7_howMany 114 = .ok (.invokevirtual 194, 3) := by decide +kernel
theorem dX7_howMany_117 : decode cX7_howMany 117 = .ok (.ireturn, 1) := by decide +kernel
theorem dX7_howMany_118 : decode cX7_howMany 118 = .ok (.aload_n 0, 1) := by decide +kernel
theorem dX7_howMany_119 : decode cX7_howMany 119 = .ok (.getfield 94, 3) := by decide +kernel
theorem dX7_howMany_122 : decode cX7_howMany 122 = .ok (.ireturn, 1) := by decide +kernel
theorem dX7_howMany_123 : decode cX7_howMany 123 = .ok (.aload_n 0, 1) := by decide +kernel
theorem dX7_howMany_124 : decode cX7_howMany 124 = .ok (.getfield 51, 3) := by decide +kernel
theorem dX7_howMany_127 : decode cX7_howMany 127 = .ok (.ireturn, 1) := by decide +kernel
theorem dX7_howMany_128 : decode cX7_howMany 128 = .ok (.aload_n 0, 1) := by decide +kernel
theorem dX7_howMany_129 : decode cX7_howMany 129 = .ok (.getfield 79, 3) := by decide +kernel
theorem dX7_howMany_132 : decode cX7_howMany 132 = .ok (.ireturn, 1) := by decide +kernel
theorem dX7_howMany_133 : decode cX7_howMany 133 = .ok (.aload_n 0, 1) := by decide +kernel
theorem dX7_howMany_134 : decode cX7_howMany 134 = .ok (.getfield 130, 3) := by decide +kernel
theorem dX7_howMany_137 : decode cX7_howMany 137 = .ok (.ireturn, 1) := by decide +kernel
theorem dX7_howMany_138 : decode cX7_howMany 138 = .ok (.bipush (-102), 2) := by decide +kernel
theorem dX7_howMany_140 : decode cX7_howMany 140 = .ok (.ireturn, 1) := by decide +kernel
theorem dX7_count_0 : decode cX7_count 0 = .ok (.aload_n 0, 1) := by decide +kernel
theorem dX7_count_1 : decode cX7_count 1 = .ok (.iload_n 1, 1) := by decide +kernel
theorem dX7_count_2 : decode cX7_count 2 = .ok (.invokevirtual 197, 3) := by decide +kernel
theorem dX7_count_5 : decode cX7_count 5 = .ok (.ireturn, 1) := by decide +kernel
theorem dX7_mix_0 : decode cX7_mix 0 = .ok (.aload_n 0, 1) := by decide +kernel
theorem dX7_mix_1 : decode cX7_mix 1 = .ok (.ldc2_w 200, 3) := by decide +kernel
theorem dX7_mix_4 : decode cX7_mix 4 = .ok (.aload_n 0, 1) := by decide +kernel
theorem dX7_mix_5 : decode cX7_mix 5 = .ok (.getfield 202, 3) := by decide +kernel
theorem dX7_mix_8 : decode cX7_mix 8 = .ok (.lmul, 1) := by decide +kernel
theorem dX7_mix_9 : decode cX7_mix 9 = .ok (.lload_n 1, 1) := by decide +kernel
theorem dX7_mix_10 : decode cX7_mix 10 = .ok (.ladd, 1) := by decide +kernel
theorem dX7_mix_11 : decode cX7_mix 11 = .ok (.putfield 202, 3) := by decide +kernel
theorem dX7_mix_14 : decode cX7_mix 14 = .ok (.return_, 1) := by decide +kernel
theorem dX7_digest_0 : decode cX7_digest 0 = .ok (.aload_n 0, 1) := by decide +kernel
theorem dX7_digest_1 : decode cX7_digest 1 = .ok (.ldc2_w 205, 3) := by decide +kernel
theorem dX7_digest_4 : decode cX7_digest 4 = .ok (.putfield 202, 3) := by decide +kernel
theorem dX7_digest_7 : decode cX7_digest 7 = .ok (.iconst 0, 1) := by decide +kernel
theorem dX7_digest_8 : decode cX7_digest 8 = .ok (.istore_n 1, 1) := by decide +kernel
theorem dX7_digest_9 : decode cX7_digest 9 = .ok (.iload_n 1, 1) := by decide +kernel
theorem dX7_digest_10 : decode cX7_digest 10 = .ok (.aload_n 0, 1) := by decide +kernel
theorem dX7_digest_11 : decode cX7_digest 11 = .ok (.getfield 73, 3) := by decide +kernel
theorem dX7_digest_14 : decode cX7_digest 14 = .ok (.if_icmp .ge 34, 3) := by decide +kernel
theorem dX7_digest_17 : decode cX7_digest 17 = .ok (.iconst 0, 1) := by decide +kernel
theorem dX7_digest_18 : decode cX7_digest 18 = .ok (.istore_n 2, 1) := by decide +kernel
theorem dX7_digest_19 : decode cX7_digest 19 = .ok (.iload_n 2, 1) := by decide +kernel
theorem dX7_digest_20 : decode cX7_digest 20 = .ok (.bipush 6, 2) := by decide +kernel
theorem dX7_digest_22 : decode cX7_digest 22 = .ok (.if_icmp .ge 20, 3) := by decide +kernel
theorem dX7_digest_25 : decode cX7_digest 25 = .ok (.aload_n 0, 1) := by decide +kernel
theorem dX7_digest_26 : decode cX7_digest 26 = .ok (.aload_n 0, 1) := by decide +kernel
theorem dX7_digest_27 : decode cX7_digest 27 = .ok (.iload_n 1, 1) := by decide +kernel
theorem dX7_digest_28 : decode cX7_digest 28 = .ok (.iload_n 2, 1) := by decide +kernel
theorem dX7_digest_29 : decode cX7_digest 29 = .ok (.invokevirtual 108, 3) := by decide +kernel
theorem dX7_digest_32 : decode cX7_digest 32 = .ok (.i2l, 1) := by decide +kernel
theorem dX7_digest_33 : decode cX7_digest 33 = .ok (.invokevirtual 207, 3) := by decide +kernel
theorem dX7_digest_36 : decode cX7_digest 36 = .ok (.iinc 2 1, 3) := by decide +kernel
theorem dX7_digest_39 : decode cX7_digest 39 = .ok (.goto (-20), 3) := by decide +kernel
theorem dX7_digest_42 : decode cX7_digest 42 = .ok (.iinc 1 1, 3) := by decide +kernel
theorem dX7_digest_45 : decode cX7_digest 45 = .ok (.goto (-36), 3) := by decide +kernel
theorem dX7_digest_48 : decode cX7_digest 48 = .ok (.aload_n 0, 1) := by decide +kernel
theorem dX7_digest_49 : decode cX7_digest 49 = .ok (.getfield 73, 3) := by decide +kernel
theorem dX7_digest_52 : decode cX7_digest 52 = .ok (.ifCond .le 59, 3) := by decide +kernel
theorem dX7_digest_55 : decode cX7_digest 55 = .ok (.aload_n 0, 1) := by decide +kernel
theorem dX7_digest_56 : decode cX7_digest 56 = .ok (.aload_n 0, 1) := by decide +kernel
theorem dX7_digest_57 : decode cX7_digest 57 = .ok (.aload_n 0, 1) := by decide +kernel
theorem dX7_digest_58 : decode cX7_digest 58 = .ok (.getfield 82, 3) := by decide +kernel
theorem dX7_digest_61 : decode cX7_digest 61 = .ok (.iconst 0, 1) := by decide +kernel
theorem dX7_digest_62 : decode cX7_digest 62 = .ok (.aload_n 0, 1) := by decide +kernel
theorem dX7_digest_63 : decode cX7_digest 63 = .ok (.getfield 85, 3) := by decide +kernel
theorem dX7_digest_66 : decode cX7_digest 66 = .ok (.invokevirtual 97, 3) := by decide +kernel
theorem dX7_digest_69 : decode cX7_digest 69 = .ok (.i2l, 1) := by decide +kernel
theorem dX7_digest_70 : decode cX7_digest 70 = .ok (.invokevirtual 207, 3) := by decide +kernel
theorem dX7_digest_73 : decode cX7_digest 73 = .ok (.aload_n 0, 1) := by decide +kernel
theorem dX7_digest_74 : decode cX7_digest 74 = .ok (.aload_n 0, 1) := by decide +kernel
theorem dX7_digest_75 : decode cX7_digest 75 = .ok (.invokevirtual 139, 3) := by decide +kernel
theorem dX7_digest_78 : decode cX7_digest 78 = .ok (.i2l, 1) := by decide +kernel
theorem dX7_digest_79 : decode cX7_digest 79 = .ok (.invokevirtual 207, 3) := by decide +kernel
theorem dX7_digest_82 : decode cX7_digest 82 = .ok (.aload_n 0, 1) := by decide +kernel
theorem dX7_digest_83 : decode cX7_digest 83 = .ok (.aload_n 0, 1) := by decide +kernel
theorem dX7_digest_84 : decode cX7_digest 84 = .ok (.iconst 0, 1) := by decide +kernel
theorem dX7_digest_85 : decode cX7_digest 85 = .ok (.invokevirtual 142, 3) := by decide +kernel
theorem dX7_digest_88 : decode cX7_digest 88 = .ok (.i2l, 1) := by decide +kernel
theorem dX7_digest_89 : decode cX7_digest 89 = .ok (.invokevirtual 207, 3) := by decide +kernel
theorem dX7_digest_92 : decode cX7_digest 92 = .ok (.aload_n 0, 1) := by decide +kernel
theorem dX7_digest_93 : decode cX7_digest 93 = .ok (.aload_n 0, 1) := by decide +kernel
theorem dX7_digest_94 : decode cX7_digest 94 = .ok (.iconst 1, 1) := by decide +kernel
theorem dX7_digest_95 : decode cX7_digest 95 = .ok (.invokevirtual 142, 3) := by decide +kernel
theorem dX7_digest_98 : decode cX7_digest 98 = .ok (.i2l, 1) := by decide +kernel
theorem dX7_digest_99 : decode cX7_digest 99 = .ok (.invokevirtual 207, 3) := by decide +kernel
theorem dX7_digest_102 : decode cX7_digest 102 = .ok (.aload_n 0, 1) := by decide +kernel
theorem dX7_digest_103 : decode cX7_digest 103 = .ok (.aload_n 0, 1) := by decide +kernel
theorem dX7_digest_104 : decode cX7_digest 104 = .ok (.invokevirtual 145, 3) := by decide +kernel
theorem dX7_digest_107 : decode cX7_digest 107 = .ok (.i2l, 1) := by decide +kernel
theorem dX7_digest_108 : decode cX7_digest 108 = .ok (.invokevirtual 207, 3) := by decide +kernel
theorem dX7_digest_111 : decode cX7_digest 111 = .ok (.iconst 0, 1) := by decide +kernel
theorem dX7_digest_112 : decode cX7_digest 112 = .ok (.istore_n 1, 1) := by decide +kernel
theorem dX7_digest_113 : decode cX7_digest 113 = .ok (.iload_n 1, 1) := by decide +kernel
theorem dX7_digest_114 : decode cX7_digest 114 = .ok (.aload_n 0, 1) := by decide +kernel
theorem dX7_digest_115 : decode cX7_digest 115 = .ok (.getfield 51, 3) := by decide +kernel
theorem dX7_digest_118 : decode cX7_digest 118 = .ok (.if_icmp .ge 20, 3) := by decide +kernel
theorem dX7_digest_121 : decode cX7_digest 121 = .ok (.aload_n 0, 1) := by decide +kernel
theorem dX7_digest_122 : decode cX7_digest 122 = .ok (.aload_n 0, 1) := by decide +kernel
theorem dX7_digest_123 : decode cX7_digest 123 = .ok (.getfield 25, 3) := by decide +kernel
theorem dX7_digest_126 : decode cX7_digest 126 = .ok (.iload_n 1, 1) := by decide +kernel
theorem dX7_digest_127 : decode cX7_digest 127 = .ok (.baload, 1) := by decide +kernel
theorem dX7_digest_128 : decode cX7_digest 128 = .ok (.i2l, 1) := by decide +kernel
theorem dX7_digest_129 : decode cX7_digest 129 = .ok (.invokevirtual 207, 3) := by decide +kernel
theorem dX7_digest_132 : decode cX7_digest 132 = .ok (.iinc 1 1, 3) := by decide +kernel
theorem dX7_digest_135 : decode cX7_digest 135 = .ok (.goto (-22), 3) := by decide +kernel
theorem dX7_digest_138 : decode cX7_digest 138 = .ok (.iconst 0, 1) := by decide +kernel
theorem dX7_digest_139 : decode cX7_digest 139 = .ok (.istore_n 1, 1) := by decide +kernel
theorem dX7_digest_140 : decode cX7_digest 140 = .ok (.iload_n 1, 1) := by decide +kernel
theorem dX7_digest_141 : decode cX7_digest 141 = .ok (.bipush 12, 2) := by decide +kernel
theorem dX7_digest_143 : decode cX7_digest 143 = .ok (.if_icmp .ge 19, 3) := by decide +kernel
theorem dX7_digest_146 : decode cX7_digest 146 = .ok (.aload_n 0, 1) := by decide +kernel
theorem dX7_digest_147 : decode cX7_digest 147 = .ok (.aload_n 0, 1) := by decide +kernel
theorem dX7_digest_148 : decode cX7_digest 148 = .ok (.iload_n 1, 1) := by decide +kernel
theorem dX7_digest_149 : decode cX7_digest 149 = .ok (.invokevirtual 197, 3) := by decide +kernel
theorem dX7_digest_152 : decode cX7_digest 152 = .ok (.i2l, 1) := by decide +kernel
theorem dX7_digest_153 : decode cX7_digest 153 = .ok (.invokevirtual 207, 3) := by decide +kernel
theorem dX7_digest_156 : decode cX7_digest 156 = .ok (.iinc 1 1, 3) := by decide +kernel
theorem dX7_digest_159 : decode cX7_digest 159 = .ok (.goto (-19), 3) := by decide +kernel
theorem dX7_digest_162 : decode cX7_digest 162 = .ok (.aload_n 0, 1) := by decide +kernel
theorem dX7_digest_163 : decode cX7_digest 163 = .ok (.getfield 202, 3) := by decide +kernel
theorem dX7_digest_166 : decode cX7_digest 166 = .ok (.lreturn, 1) := by decide +kernel
theorem dJ0_length_8abf5_0 : decode cJ0_length_8abf5 0 = .ok (.aload_n 0, 1) := by decide +kernel
theorem dJ0_length_8abf5_1 : decode cJ0_length_8abf5 1 = .ok (.getfield 9, 3) := by decide +kernel
theorem dJ0_length_8abf5_4 : decode cJ0_length_8abf5 4 = .ok (.arraylength, 1) := by decide +kernel
theorem dJ0_length_8abf5_5 : decode cJ0_length_8abf5 5 = .ok (.aload_n 0, 1) := by decide +kernel
theorem dJ0_length_8abf5_6 : decode cJ0_length_8abf5 6 = .ok (.invokevirtual 335, 3) := by decide +kernel
theorem dJ0_length_8abf5_9 : decode cJ0_length_8abf5 9 = .ok (.ishr, 1) := by decide +kernel
theorem dJ0_length_8abf5_10 : decode cJ0_length_8abf5 10 = .ok (.ireturn, 1) := by decide +kernel
theorem dJ0_indexOf_0f7a4_0 : decode cJ0_indexOf_0f7a4 0 = .ok (.aload_n 0, 1) := by decide +kernel
theorem dJ0_indexOf_0f7a4_1 : decode cJ0_indexOf_0f7a4 1 = .ok (.iload_n 1, 1) := by decide +kernel
theorem dJ0_indexOf_0f7a4_2 : decode cJ0_indexOf_0f7a4 2 = .ok (.iconst 0, 1) := by decide +kernel
theorem dJ0_indexOf_0f7a4_3 : decode cJ0_indexOf_0f7a4 3 = .ok (.invokevirtual 633, 3) := by decide +kernel
theorem dJ0_indexOf_0f7a4_6 : decode cJ0_indexOf_0f7a4 6 = .ok (.ireturn, 1) := by decide +kernel
theorem dJ0_indexOf_7cf53_0 : decode cJ0_indexOf_7cf53 0 = .ok (.aload_n 0, 1) := by decide +kernel
theorem dJ0_indexOf_7cf53_1 : decode cJ0_indexOf_7cf53 1 = .ok (.invokevirtual 492, 3) := by decide +kernel
theorem dJ0_indexOf_7cf53_4 : decode cJ0_indexOf_7cf53 4 = .ok (.ifCond .eq 19, 3) := by decide +kernel
theorem dJ0_indexOf_7cf53_7 : decode cJ0_indexOf_7cf53 7 = .ok (.aload_n 0, 1) := by decide +kernel
theorem dJ0_indexOf_7cf53_8 : decode cJ0_indexOf_7cf53 8 = .ok (.getfield 9, 3) := by decide +kernel
theorem dJ0_indexOf_7cf53_11 : decode cJ0_indexOf_7cf53 11 = .ok (.iload_n 1, 1) := by decide +kernel
theorem dJ0_indexOf_7cf53_12 : decode cJ0_indexOf_7cf53 12 = .ok (.iload_n 2, 1) := by decide +kernel
theorem dJ0_indexOf_7cf53_13 : decode cJ0_indexOf_7cf53 13 = .ok (.aload_n 0, 1) := by decide +kernel
theorem dJ0_indexOf_7cf53_14 : decode cJ0_indexOf_7cf53 14 = .ok (.invokevirtual 505, 3) := by decide +kernel
theorem dJ0_indexOf_7cf53_17 : decode cJ0_indexOf_7cf53 17 = .ok (.invokestatic 637, 3) := by decide +kernel
theorem dJ0_indexOf_7cf53_20 : decode cJ0_indexOf_7cf53 20 = .ok (.goto 16, 3) := by decide +kernel
theorem dJ0_indexOf_7cf53_23 : decode cJ0_indexOf_7cf53 23 = .ok (.aload_n 0, 1) := by decide +kernel
theorem dJ0_indexOf_7cf53_24 : decode cJ0_indexOf_7cf53 24 = .ok (.getfield 9, 3) := by decide +kernel
theorem dJ0_indexOf_7cf53_27 : decode cJ0_indexOf_7cf53 27 = .ok (.iload_n 1, 1) := by decide +kernel
theorem dJ0_indexOf_7cf53_28 : decode cJ0_indexOf_7cf53 28 = .ok (.iload_n 2, 1) := by decide +kernel
theorem dJ0_indexOf_7cf53_29 : decode cJ0_indexOf_7cf53 29 = .ok (.aload_n 0, 1) := by decide +kernel
theorem dJ0_indexOf_7cf53_30 : decode cJ0_indexOf_7cf53 30 = .ok (.invokevirtual 505, 3) := by decide +kernel
theorem dJ0_indexOf_7cf53_33 : decode cJ0_indexOf_7cf53 33 = .ok (.invokestatic 640, 3) := by decide +kernel
theorem dJ0_indexOf_7cf53_36 : decode cJ0_indexOf_7cf53 36 = .ok (.ireturn, 1) := by decide +kernel
theorem dJ0_coder_7d493_0 : decode cJ0_coder_7d493 0 = .ok (.getstatic 38, 3) := by decide +kernel
theorem dJ0_coder_7d493_3 : decode cJ0_coder_7d493 3 = .ok (.ifCond .eq 10, 3) := by decide +kernel
theorem dJ0_coder_7d493_6 : decode cJ0_coder_7d493 6 = .ok (.aload_n 0, 1) := by decide +kernel
theorem dJ0_coder_7d493_7 : decode cJ0_coder_7d493 7 = .ok (.getfield 15, 3) := by decide +kernel
theorem dJ0_coder_7d493_10 : decode cJ0_coder_7d493 10 = .ok (.goto 4, 3) := by decide +kernel
theorem dJ0_coder_7d493_13 : decode cJ0_coder_7d493 13 = .ok (.iconst 1, 1) := by decide +kernel
theorem dJ0_coder_7d493_14 : decode cJ0_coder_7d493 14 = .ok (.ireturn, 1) := by decide +kernel
theorem dJ0_isLatin1_aae02_0 : decode cJ0_isLatin1_aae02 0 = .ok (.getstatic 38, 3) := by decide +kernel
theorem dJ0_isLatin1_aae02_3 : decode cJ0_isLatin1_aae02 3 = .ok (.ifCond .eq 14, 3) := by decide +kernel
theorem dJ0_isLatin1_aae02_6 : decode cJ0_isLatin1_aae02 6 = .ok (.aload_n 0, 1) := by decide +kernel
theorem dJ0_isLatin1_aae02_7 : decode cJ0_isLatin1_aae02 7 = .ok (.getfield 15, 3) := by decide +kernel
theorem dJ0_isLatin1_aae02_10 : decode cJ0_isLatin1_aae02 10 = .ok (.ifCond .ne 7, 3) := by decide +kernel
theorem dJ0_isLatin1_aae02_13 : decode cJ0_isLatin1_aae02 13 = .ok (.iconst 1, 1) := by decide +kernel
theorem dJ0_isLatin1_aae02_14 : decode cJ0_isLatin1_aae02 14 = .ok (.goto 4, 3) := by decide +kernel
theorem dJ0_isLatin1_aae02_17 : decode cJ0_isLatin1_aae02 17 = .ok (.iconst 0, 1) := by decide +kernel
theorem dJ0_isLatin1_aae02_18 : decode cJ0_isLatin1_aae02 18 = .ok (.ireturn, 1) := by decide +kernel
theorem dJ0_checkBoundsBeginEnd_23922_0 : decode cJ0_checkBoundsBeginEnd_23922 0 = .ok (.iload_n 0, 1) := by decide +kernel
theorem dJ0_checkBoundsBeginEnd_23922_1 : decode cJ0_checkBoundsBeginEnd_23922 1 = .ok (.iload_n 1, 1) := by decide +kernel
theorem dJ0_checkBoundsBeginEnd_23922_2 : decode cJ0_checkBoundsBeginEnd_23922 2 = .ok (.iload_n 2, 1) := by decide +kernel
theorem dJ0_checkBoundsBeginEnd_23922_3 : decode cJ0_checkBoundsBeginEnd_23922 3 = .ok (.getstatic 1053, 3) := by decide +kernel
theorem dJ0_checkBoundsBeginEnd_23922_6 : decode cJ0_checkBoundsBeginEnd_23922 6 = .ok (.invokestatic 1062, 3) := by decide +kernel
theorem dJ0_checkBoundsBeginEnd_23922_9 : decode cJ0_checkBoundsBeginEnd_23922 9 = .ok (.pop, 1) := by decide +kernel
theorem dJ0_checkBoundsBeginEnd_23922_10 : decode cJ0_checkBoundsBeginEnd_23922 10 = .ok (.return_, 1) := by decide +kernel
theorem dJ1_canEncode_9a6ad_0 : decode cJ1_canEncode_9a6ad 0 = .ok (.iload_n 0, 1) := by decide +kernel
theorem dJ1_canEncode_9a6ad_1 : decode cJ1_canEncode_9a6ad 1 = .ok (.ifCond .lt 14, 3) := by decide +kernel
theorem dJ1_canEncode_9a6ad_4 : decode cJ1_canEncode_9a6ad 4 = .ok (.iload_n 0, 1) := by decide +kernel
theorem dJ1_canEncode_9a6ad_5 : decode cJ1_canEncode_9a6ad 5 = .ok (.sipush 255, 3) := by decide +kernel
theorem dJ1_canEncode_9a6ad_8 : decode cJ1_canEncode_9a6ad 8 = .ok (.if_icmp .gt 7, 3) := by decide +kernel
theorem dJ1_canEncode_9a6ad_11 : decode cJ1_canEncode_9a6ad 11 = .ok (.iconst 1, 1) := by decide +kernel
end
section
theorem dJ1_canEncode_9a6ad_12 : decode cJ1_canEncode_9a6ad 12 = .ok (.goto 4, 3) := by decide +kernel
theorem dJ1_canEncode_9a6ad_15 : decode cJ1_canEncode_9a6ad 15 = .ok (.iconst 0, 1) := by decide +kernel
theorem dJ1_canEncode_9a6ad_16 : decode cJ1_canEncode_9a6ad 16 = .ok (.ireturn, 1) := by decide +kernel
theorem dJ1_indexOf_4cfef_0 : decode cJ1_indexOf_4cfef 0 = .ok (.iload_n 1, 1) := by decide +kernel
theorem dJ1_indexOf_4cfef_1 : decode cJ1_indexOf_4cfef 1 = .ok (.invokestatic 88, 3) := by decide +kernel
theorem dJ1_indexOf_4cfef_4 : decode cJ1_indexOf_4cfef 4 = .ok (.ifCond .ne 5, 3) := by decide +kernel
theorem dJ1_indexOf_4cfef_7 : decode cJ1_indexOf_4cfef 7 = .ok (.iconst (-1), 1) := by decide +kernel
theorem dJ1_indexOf_4cfef_8 : decode cJ1_indexOf_4cfef 8 = .ok (.ireturn, 1) := by decide +kernel
theorem dJ1_indexOf_4cfef_9 : decode cJ1_indexOf_4cfef 9 = .ok (.iload_n 2, 1) := by decide +kernel
theorem dJ1_indexOf_4cfef_10 : decode cJ1_indexOf_4cfef 10 = .ok (.iconst 0, 1) := by decide +kernel
theorem dJ1_indexOf_4cfef_11 : decode cJ1_indexOf_4cfef 11 = .ok (.invokestatic 92, 3) := by decide +kernel
theorem dJ1_indexOf_4cfef_14 : decode cJ1_indexOf_4cfef 14 = .ok (.istore_n 2, 1) := by decide +kernel
theorem dJ1_indexOf_4cfef_15 : decode cJ1_indexOf_4cfef 15 = .ok (.iload_n 3, 1) := by decide +kernel
theorem dJ1_indexOf_4cfef_16 : decode cJ1_indexOf_4cfef 16 = .ok (.aload_n 0, 1) := by decide +kernel
theorem dJ1_indexOf_4cfef_17 : decode cJ1_indexOf_4cfef 17 = .ok (.arraylength, 1) := by decide +kernel
theorem dJ1_indexOf_4cfef_18 : decode cJ1_indexOf_4cfef 18 = .ok (.invokestatic 38, 3) := by decide +kernel
theorem dJ1_indexOf_4cfef_21 : decode cJ1_indexOf_4cfef 21 = .ok (.istore_n 3, 1) := by decide +kernel
theorem dJ1_indexOf_4cfef_22 : decode cJ1_indexOf_4cfef 22 = .ok (.iload_n 2, 1) := by decide +kernel
theorem dJ1_indexOf_4cfef_23 : decode cJ1_indexOf_4cfef 23 = .ok (.iload_n 3, 1) := by decide +kernel
theorem dJ1_indexOf_4cfef_24 : decode cJ1_indexOf_4cfef 24 = .ok (.if_icmp .lt 5, 3) := by decide +kernel
theorem dJ1_indexOf_4cfef_27 : decode cJ1_indexOf_4cfef 27 = .ok (.iconst (-1), 1) := by decide +kernel
theorem dJ1_indexOf_4cfef_28 : decode cJ1_indexOf_4cfef 28 = .ok (.ireturn, 1) := by decide +kernel
theorem dJ1_indexOf_4cfef_29 : decode cJ1_indexOf_4cfef 29 = .ok (.aload_n 0, 1) := by decide +kernel
theorem dJ1_indexOf_4cfef_30 : decode cJ1_indexOf_4cfef 30 = .ok (.iload_n 1, 1) := by decide +kernel
theorem dJ1_indexOf_4cfef_31 : decode cJ1_indexOf_4cfef 31 = .ok (.iload_n 2, 1) := by decide +kernel
theorem dJ1_indexOf_4cfef_32 : decode cJ1_indexOf_4cfef 32 = .ok (.iload_n 3, 1) := by decide +kernel
theorem dJ1_indexOf_4cfef_33 : decode cJ1_indexOf_4cfef 33 = .ok (.invokestatic 95, 3) := by decide +kernel
theorem dJ1_indexOf_4cfef_36 : decode cJ1_indexOf_4cfef 36 = .ok (.ireturn, 1) := by decide +kernel
theorem dJ1_indexOfChar_4cfef_0 : decode cJ1_indexOfChar_4cfef 0 = .ok (.iload_n 1, 1) := by decide +kernel
theorem dJ1_indexOfChar_4cfef_1 : decode cJ1_indexOfChar_4cfef 1 = .ok (.i2b, 1) := by decide +kernel
theorem dJ1_indexOfChar_4cfef_2 : decode cJ1_indexOfChar_4cfef 2 = .ok (.istore 4, 2) := by decide +kernel
theorem dJ1_indexOfChar_4cfef_4 : decode cJ1_indexOfChar_4cfef 4 = .ok (.iload_n 2, 1) := by decide +kernel
theorem dJ1_indexOfChar_4cfef_5 : decode cJ1_indexOfChar_4cfef 5 = .ok (.istore 5, 2) := by decide +kernel
theorem dJ1_indexOfChar_4cfef_7 : decode cJ1_indexOfChar_4cfef 7 = .ok (.iload 5, 2) := by decide +kernel
theorem dJ1_indexOfChar_4cfef_9 : decode cJ1_indexOfChar_4cfef 9 = .ok (.iload_n 3, 1) := by decide +kernel
theorem dJ1_indexOfChar_4cfef_10 : decode cJ1_indexOfChar_4cfef 10 = .ok (.if_icmp .ge 21, 3) := by decide +kernel
theorem dJ1_indexOfChar_4cfef_13 : decode cJ1_indexOfChar_4cfef 13 = .ok (.aload_n 0, 1) := by decide +kernel
theorem dJ1_indexOfChar_4cfef_14 : decode cJ1_indexOfChar_4cfef 14 = .ok (.iload 5, 2) := by decide +kernel
theorem dJ1_indexOfChar_4cfef_16 : decode cJ1_indexOfChar_4cfef 16 = .ok (.baload, 1) := by decide +kernel
theorem dJ1_indexOfChar_4cfef_17 : decode cJ1_indexOfChar_4cfef 17 = .ok (.iload 4, 2) := by decide +kernel
theorem dJ1_indexOfChar_4cfef_19 : decode cJ1_indexOfChar_4cfef 19 = .ok (.if_icmp .ne 6, 3) := by decide +kernel
theorem dJ1_indexOfChar_4cfef_22 : decode cJ1_indexOfChar_4cfef 22 = .ok (.iload 5, 2) := by decide +kernel
theorem dJ1_indexOfChar_4cfef_24 : decode cJ1_indexOfChar_4cfef 24 = .ok (.ireturn, 1) := by decide +kernel
theorem dJ1_indexOfChar_4cfef_25 : decode cJ1_indexOfChar_4cfef 25 = .ok (.iinc 5 1, 3) := by decide +kernel
theorem dJ1_indexOfChar_4cfef_28 : decode cJ1_indexOfChar_4cfef 28 = .ok (.goto (-21), 3) := by decide +kernel
theorem dJ1_indexOfChar_4cfef_31 : decode cJ1_indexOfChar_4cfef 31 = .ok (.iconst (-1), 1) := by decide +kernel
theorem dJ1_indexOfChar_4cfef_32 : decode cJ1_indexOfChar_4cfef 32 = .ok (.ireturn, 1) := by decide +kernel
theorem dJ9_max_7cf53_0 : decode cJ9_max_7cf53 0 = .ok (.iload_n 0, 1) := by decide +kernel
theorem dJ9_max_7cf53_1 : decode cJ9_max_7cf53 1 = .ok (.iload_n 1, 1) := by decide +kernel
theorem dJ9_max_7cf53_2 : decode cJ9_max_7cf53 2 = .ok (.if_icmp .lt 7, 3) := by decide +kernel
theorem dJ9_max_7cf53_5 : decode cJ9_max_7cf53 5 = .ok (.iload_n 0, 1) := by decide +kernel
theorem dJ9_max_7cf53_6 : decode cJ9_max_7cf53 6 = .ok (.goto 4, 3) := by decide +kernel
theorem dJ9_max_7cf53_9 : decode cJ9_max_7cf53 9 = .ok (.iload_n 1, 1) := by decide +kernel
theorem dJ9_max_7cf53_10 : decode cJ9_max_7cf53 10 = .ok (.ireturn, 1) := by decide +kernel
theorem dJ9_min_7cf53_0 : decode cJ9_min_7cf53 0 = .ok (.iload_n 0, 1) := by decide +kernel
theorem dJ9_min_7cf53_1 : decode cJ9_min_7cf53 1 = .ok (.iload_n 1, 1) := by decide +kernel
theorem dJ9_min_7cf53_2 : decode cJ9_min_7cf53 2 = .ok (.if_icmp .gt 7, 3) := by decide +kernel
theorem dJ9_min_7cf53_5 : decode cJ9_min_7cf53 5 = .ok (.iload_n 0, 1) := by decide +kernel
theorem dJ9_min_7cf53_6 : decode cJ9_min_7cf53 6 = .ok (.goto 4, 3) := by decide +kernel
theorem dJ9_min_7cf53_9 : decode cJ9_min_7cf53 9 = .ok (.iload_n 1, 1) := by decide +kernel
theorem dJ9_min_7cf53_10 : decode cJ9_min_7cf53 10 = .ok (.ireturn, 1) := by decide +kernel
theorem dL_law_0 : decode cL_law 0 = .ok (.new 7, 3) := by decide +kernel
theorem dL_law_3 : decode cL_law 3 = .ok (.dup, 1) := by decide +kernel
theorem dL_law_4 : decode cL_law 4 = .ok (.invokespecial 9, 3) := by decide +kernel
theorem dL_law_7 : decode cL_law 7 = .ok (.astore_n 1, 1) := by decide +kernel
theorem dL_law_8 : decode cL_law 8 = .ok (.new 10, 3) := by decide +kernel
theorem dL_law_11 : decode cL_law 11 = .ok (.dup, 1) := by decide +kernel
theorem dL_law_12 : decode cL_law 12 = .ok (.invokespecial 12, 3) := by decide +kernel
theorem dL_law_15 : decode cL_law 15 = .ok (.astore_n 2, 1) := by decide +kernel
theorem dL_law_16 : decode cL_law 16 = .ok (.iconst 0, 1) := by decide +kernel
theorem dL_law_17 : decode cL_law 17 = .ok (.istore_n 3, 1) := by decide +kernel
theorem dL_law_18 : decode cL_law 18 = .ok (.iload_n 3, 1) := by decide +kernel
theorem dL_law_19 : decode cL_law 19 = .ok (.aload_n 0, 1) := by decide +kernel
theorem dL_law_20 : decode cL_law 20 = .ok (.arraylength, 1) := by decide +kernel
theorem dL_law_21 : decode cL_law 21 = .ok (.iconst 5, 1) := by decide +kernel
theorem dL_law_22 : decode cL_law 22 = .ok (.isub, 1) := by decide +kernel
theorem dL_law_23 : decode cL_law 23 = .ok (.if_icmp .gt 605, 3) := by decide +kernel
theorem dL_law_26 : decode cL_law 26 = .ok (.aload_n 0, 1) := by decide +kernel
theorem dL_law_27 : decode cL_law 27 = .ok (.iload_n 3, 1) := by decide +kernel
theorem dL_law_28 : decode cL_law 28 = .ok (.iaload, 1) := by decide +kernel
theorem dL_law_29 : decode cL_law 29 = .ok (.bipush 31, 2) := by decide +kernel
theorem dL_law_31 : decode cL_law 31 = .ok (.iand, 1) := by decide +kernel
theorem dL_law_32 : decode cL_law 32 = .ok (.tableswitch 590 0 20 #[100, 123, 136, 149, 162, 195, 228, 261, 284, 307, 330, 353, 366, 389, 458, 471, 484, 527, 540, 553, 576], 100) := by decide +kernel
theorem dL_law_132 : decode cL_law 132 = .ok (.aload_n 1, 1) := by decide +kernel
theorem dL_law_133 : decode cL_law 133 = .ok (.aload_n 0, 1) := by decide +kernel
theorem dL_law_134 : decode cL_law 134 = .ok (.iload_n 3, 1) := by decide +kernel
theorem dL_law_135 : decode cL_law 135 = .ok (.iconst 1, 1) := by decide +kernel
theorem dL_law_136 : decode cL_law 136 = .ok (.iadd, 1) := by decide +kernel
theorem dL_law_137 : decode cL_law 137 = .ok (.iaload, 1) := by decide +kernel
theorem dL_law_138 : decode cL_law 138 = .ok (.invokevirtual 13, 3) := by decide +kernel
theorem dL_law_141 : decode cL_law 141 = .ok (.aload_n 2, 1) := by decide +kernel
theorem dL_law_142 : decode cL_law 142 = .ok (.aload_n 0, 1) := by decide +kernel
theorem dL_law_143 : decode cL_law 143 = .ok (.iload_n 3, 1) := by decide +kernel
theorem dL_law_144 : decode cL_law 144 = .ok (.iconst 1, 1) := by decide +kernel
theorem dL_law_145 : decode cL_law 145 = .ok (.iadd, 1) := by decide +kernel
theorem dL_law_146 : decode cL_law 146 = .ok (.iaload, 1) := by decide +kernel
theorem dL_law_147 : decode cL_law 147 = .ok (.invokevirtual 17, 3) := by decide +kernel
theorem dL_law_150 : decode cL_law 150 = .ok (.if_icmp .eq 472, 3) := by decide +kernel
theorem dL_law_153 : decode cL_law 153 = .ok (.iconst 0, 1) := by decide +kernel
theorem dL_law_154 : decode cL_law 154 = .ok (.ireturn, 1) := by decide +kernel
theorem dL_law_155 : decode cL_law 155 = .ok (.aload_n 1, 1) := by decide +kernel
theorem dL_law_156 : decode cL_law 156 = .ok (.invokevirtual 18, 3) := by decide +kernel
theorem dL_law_159 : decode cL_law 159 = .ok (.aload_n 2, 1) := by decide +kernel
theorem dL_law_160 : decode cL_law 160 = .ok (.invokevirtual 22, 3) := by decide +kernel
theorem dL_law_163 : decode cL_law 163 = .ok (.if_icmp .eq 459, 3) := by decide +kernel
theorem dL_law_166 : decode cL_law 166 = .ok (.iconst 0, 1) := by decide +kernel
theorem dL_law_167 : decode cL_law 167 = .ok (.ireturn, 1) := by decide +kernel
theorem dL_law_168 : decode cL_law 168 = .ok (.aload_n 1, 1) := by decide +kernel
theorem dL_law_169 : decode cL_law 169 = .ok (.invokevirtual 23, 3) := by decide +kernel
theorem dL_law_172 : decode cL_law 172 = .ok (.aload_n 2, 1) := by decide +kernel
theorem dL_law_173 : decode cL_law 173 = .ok (.invokevirtual 26, 3) := by decide +kernel
theorem dL_law_176 : decode cL_law 176 = .ok (.if_icmp .eq 446, 3) := by decide +kernel
theorem dL_law_179 : decode cL_law 179 = .ok (.iconst 0, 1) := by decide +kernel
theorem dL_law_180 : decode cL_law 180 = .ok (.ireturn, 1) := by decide +kernel
theorem dL_law_181 : decode cL_law 181 = .ok (.aload_n 1, 1) := by decide +kernel
theorem dL_law_182 : decode cL_law 182 = .ok (.invokevirtual 27, 3) := by decide +kernel
theorem dL_law_185 : decode cL_law 185 = .ok (.aload_n 2, 1) := by decide +kernel
theorem dL_law_186 : decode cL_law 186 = .ok (.invokevirtual 30, 3) := by decide +kernel
theorem dL_law_189 : decode cL_law 189 = .ok (.if_icmp .eq 433, 3) := by decide +kernel
theorem dL_law_192 : decode cL_law 192 = .ok (.iconst 0, 1) := by decide +kernel
theorem dL_law_193 : decode cL_law 193 = .ok (.ireturn, 1) := by decide +kernel
theorem dL_law_194 : decode cL_law 194 = .ok (.aload_n 1, 1) := by decide +kernel
theorem dL_law_195 : decode cL_law 195 = .ok (.aload_n 0, 1) := by decide +kernel
theorem dL_law_196 : decode cL_law 196 = .ok (.iload_n 3, 1) := by decide +kernel
theorem dL_law_197 : decode cL_law 197 = .ok (.iconst 1, 1) := by decide +kernel
theorem dL_law_198 : decode cL_law 198 = .ok (.iadd, 1) := by decide +kernel
theorem dL_law_199 : decode cL_law 199 = .ok (.iaload, 1) := by decide +kernel
theorem dL_law_200 : decode cL_law 200 = .ok (.aload_n 0, 1) := by decide +kernel
theorem dL_law_201 : decode cL_law 201 = .ok (.iload_n 3, 1) := by decide +kernel
theorem dL_law_202 : decode cL_law 202 = .ok (.iconst 2, 1) := by decide +kernel
theorem dL_law_203 : decode cL_law 203 = .ok (.iadd, 1) := by decide +kernel
theorem dL_law_204 : decode cL_law 204 = .ok (.iaload, 1) := by decide +kernel
theorem dL_law_205 : decode cL_law 205 = .ok (.invokevirtual 31, 3) := by decide +kernel
theorem dL_law_208 : decode cL_law 208 = .ok (.aload_n 2, 1) := by decide +kernel
theorem dL_law_209 : decode cL_law 209 = .ok (.aload_n 0, 1) := by decide +kernel
theorem dL_law_210 : decode cL_law 210 = .ok (.iload_n 3, 1) := by decide +kernel
theorem dL_law_211 : decode cL_law 211 = .ok (.iconst 1, 1) := by decide +kernel
theorem dL_law_212 : decode cL_law 212 = .ok (.iadd, 1) := by decide +kernel
theorem dL_law_213 : decode cL_law 213 = .ok (.iaload, 1) := by decide +kernel
theorem dL_law_214 : decode cL_law 214 = .ok (.aload_n 0, 1) := by decide +kernel
theorem dL_law_215 : decode cL_law 215 = .ok (.iload_n 3, 1) := by decide +kernel
theorem dL_law_216 : decode cL_law 216 = .ok (.iconst 2, 1) := by decide +kernel
theorem dL_law_217 : decode cL_law 217 = .ok (.iadd, 1) := by decide +kernel
theorem dL_law_218 : decode cL_law 218 = .ok (.iaload, 1) := by decide +kernel
theorem dL_law_219 : decode cL_law 219 = .ok (.invokevirtual 35, 3) := by decide +kernel
theorem dL_law_222 : decode cL_law 222 = .ok (.if_icmp .eq 400, 3) := by decide +kernel
theorem dL_law_225 : decode cL_law 225 = .ok (.iconst 0, 1) := by decide +kernel
theorem dL_law_226 : decode cL_law 226 = .ok (.ireturn, 1) := by decide +kernel
theorem dL_law_227 : decode cL_law 227 = .ok (.aload_n 1, 1) := by decide +kernel
theorem dL_law_228 : decode cL_law 228 = .ok (.aload_n 0, 1) := by decide +kernel
theorem dL_law_229 : decode cL_law 229 = .ok (.iload_n 3, 1) := by decide +kernel
theorem dL_law_230 : decode cL_law 230 = .ok (.iconst 1, 1) := by decide +kernel
theorem dL_law_231 : decode cL_law 231 = .ok (.iadd, 1) := by decide +kernel
theorem dL_law_232 : decode cL_law 232 = .ok (.iaload, 1) := by decide +kernel
theorem dL_law_233 : decode cL_law 233 = .ok (.aload_n 0, 1) := by decide +kernel
theorem dL_law_234 : decode cL_law 234 = .ok (.iload_n 3, 1) := by decide +kernel
theorem dL_law_235 : decode cL_law 235 = .ok (.iconst 2, 1) := by decide +kernel
theorem dL_law_236 : decode cL_law 236 = .ok (.iadd, 1) := by decide +kernel
theorem dL_law_237 : decode cL_law 237 = .ok (.iaload, 1) := by decide +kernel
theorem dL_law_238 : decode cL_law 238 = .ok (.invokevirtual 36, 3) := by decide +kernel
theorem dL_law_241 : decode cL_law 241 = .ok (.aload_n 2, 1) := by decide +kernel
theorem dL_law_242 : decode cL_law 242 = .ok (.aload_n 0, 1) := by decide +kernel
theorem dL_law_243 : decode cL_law 243 = .ok (.iload_n 3, 1) := by decide +kernel
theorem dL_law_244 : decode cL_law 244 = .ok (.iconst 1, 1) := by decide +kernel
theorem dL_law_245 : decode cL_law 245 = .ok (.iadd, 1) := by decide +kernel
theorem dL_law_246 : decode cL_law 246 = .ok (.iaload, 1) := by decide +kernel
theorem dL_law_247 : decode cL_law 247 = .ok (.aload_n 0, 1) := by decide +kernel
theorem dL_law_248 : decode cL_law 248 = .ok (.iload_n 3, 1) := by decide +kernel
theorem dL_law_249 : decode cL_law 249 = .ok (.iconst 2, 1) := by decide +kernel
theorem dL_law_250 : decode cL_law 250 = .ok (.iadd, 1) := by decide +kernel
theorem dL_law_251 : decode cL_law 251 = .ok (.iaload, 1) := by decide +kernel
theorem dL_law_252 : decode cL_law 252 = .ok (.invokevirtual 39, 3) := by decide +kernel
theorem dL_law_255 : decode cL_law 255 = .ok (.if_icmp .eq 367, 3) := by decide +kernel
theorem dL_law_258 : decode cL_law 258 = .ok (.iconst 0, 1) := by decide +kernel
theorem dL_law_259 : decode cL_law 259 = .ok (.ireturn, 1) := by decide +kernel
theorem dL_law_260 : decode cL_law 260 = .ok (.aload_n 1, 1) := by decide +kernel
theorem dL_law_261 : decode cL_law 261 = .ok (.aload_n 0, 1) := by decide +kernel
theorem dL_law_262 : decode cL_law 262 = .ok (.iload_n 3, 1) := by decide +kernel
theorem dL_law_263 : decode cL_law 263 = .ok (.iconst 1, 1) := by decide +kernel
theorem dL_law_264 : decode cL_law 264 = .ok (.iadd, 1) := by decide +kernel
theorem dL_law_265 : decode cL_law 265 = .ok (.iaload, 1) := by decide +kernel
theorem dL_law_266 : decode cL_law 266 = .ok (.aload_n 0, 1) := by decide +kernel
theorem dL_law_267 : decode cL_law 267 = .ok (.iload_n 3, 1) := by decide +kernel
theorem dL_law_268 : decode cL_law 268 = .ok (.iconst 2, 1) := by decide +kernel
theorem dL_law_269 : decode cL_law 269 = .ok (.iadd, 1) := by decide +kernel
theorem dL_law_270 : decode cL_law 270 = .ok (.iaload, 1) := by decide +kernel
theorem dL_law_271 : decode cL_law 271 = .ok (.invokevirtual 40, 3) := by decide +kernel
theorem dL_law_274 : decode cL_law 274 = .ok (.aload_n 2, 1) := by decide +kernel
theorem dL_law_275 : decode cL_law 275 = .ok (.aload_n 0, 1) := by decide +kernel
theorem dL_law_276 : decode cL_law 276 = .ok (.iload_n 3, 1) := by decide +kernel
theorem dL_law_277 : decode cL_law 277 = .ok (.iconst 1, 1) := by decide +kernel
theorem dL_law_278 : decode cL_law 278 = .ok (.iadd, 1) := by decide +kernel
theorem dL_law_279 : decode cL_law 279 = .ok (.iaload, 1) := by decide +kernel
theorem dL_law_280 : decode cL_law 280 = .ok (.aload_n 0, 1) := by decide +kernel
theorem dL_law_281 : decode cL_law 281 = .ok (.iload_n 3, 1) := by decide +kernel
theorem dL_law_282 : decode cL_law 282 = .ok (.iconst 2, 1) := by decide +kernel
theorem dL_law_283 : decode cL_law 283 = .ok (.iadd, 1) := by decide +kernel
theorem dL_law_284 : decode cL_law 284 = .ok (.iaload, 1) := by decide +kernel
theorem dL_law_285 : decode cL_law 285 = .ok (.invokevirtual 43, 3) := by decide +kernel
theorem dL_law_288 : decode cL_law 288 = .ok (.if_icmp .eq 334, 3) := by decide +kernel
theorem dL_law_291 : decode cL_law 291 = .ok (.iconst 0, 1) := by decide +kernel
theorem dL_law_292 : decode cL_law 292 = .ok (.ireturn, 1) := by decide +kernel
theorem dL_law_293 : decode cL_law 293 = .ok (.aload_n 1, 1) := by decide +kernel
theorem dL_law_294 : decode cL_law 294 = .ok (.aload_n 0, 1) := by decide +kernel
theorem dL_law_295 : decode cL_law 295 = .ok (.iload_n 3, 1) := by decide +kernel
theorem dL_law_296 : decode cL_law 296 = .ok (.iconst 1, 1) := by decide +kernel
theorem dL_law_297 : decode cL_law 297 = .ok (.iadd, 1) := by decide +kernel
theorem dL_law_298 : decode cL_law 298 = .ok (.iaload, 1) := by decide +kernel
theorem dL_law_299 : decode cL_law 299 = .ok (.invokevirtual 44, 3) := by decide +kernel
theorem dL_law_302 : decode cL_law 302 = .ok (.aload_n 2, 1) := by decide +kernel
theorem dL_law_303 : decode cL_law 303 = .ok (.aload_n 0, 1) := by decide +kernel
theorem dL_law_304 : decode cL_law 304 = .ok (.iload_n 3, 1) := by decide +kernel
theorem dL_law_305 : decode cL_law 305 = .ok (.iconst 1, 1) := by decide +kernel
theorem dL_law_306 : decode cL_law 306 = .ok (.iadd, 1) := by decide +kernel
theorem dL_law_307 : decode cL_law 307 = .ok (.iaload, 1) := by decide +kernel
theorem dL_law_308 : decode cL_law 308 = .ok (.invokevirtual 47, 3) := by decide +kernel
theorem dL_law_311 : decode cL_law 311 = .ok (.if_icmp .eq 311, 3) := by decide +kernel
theorem dL_law_314 : decode cL_law 314 = .ok (.iconst 0, 1) := by decide +kernel
theorem dL_law_315 : decode cL_law 315 = .ok (.ireturn, 1) := by decide +kernel
theorem dL_law_316 : decode cL_law 316 = .ok (.aload_n 1, 1) := by decide +kernel
theorem dL_law_317 : decode cL_law 317 = .ok (.aload_n 0, 1) := by decide +kernel
theorem dL_law_318 : decode cL_law 318 = .ok (.iload_n 3, 1) := by decide +kernel
theorem dL_law_319 : decode cL_law 319 = .ok (.iconst 1, 1) := by decide +kernel
theorem dL_law_320 : decode cL_law 320 = .ok (.iadd, 1) := by decide +kernel
theorem dL_law_321 : decode cL_law 321 = .ok (.iaload, 1) := by decide +kernel
theorem dL_law_322 : decode cL_law 322 = .ok (.invokevirtual 48, 3) := by decide +kernel
theorem dL_law_325 : decode cL_law 325 = .ok (.aload_n 2, 1) := by decide +kernel
theorem dL_law_326 : decode cL_law 326 = .ok (.aload_n 0, 1) := by decide +kernel
theorem dL_law_327 : decode cL_law 327 = .ok (.iload_n 3, 1) := by decide +kernel
theorem dL_law_328 : decode cL_law 328 = .ok (.iconst 1, 1) := by decide +kernel
theorem dL_law_329 : decode cL_law 329 = .ok (.iadd, 1) := by decide +kernel
theorem dL_law_330 : decode cL_law 330 = .ok (.iaload, 1) := by decide +kernel
theorem dL_law_331 : decode cL_law 331 = .ok (.invokevirtual 51, 3) := by decide +kernel
theorem dL_law_334 : decode cL_law 334 = .ok (.if_icmp .eq 288, 3) := by decide +kernel
theorem dL_law_337 : decode cL_law 337 = .ok (.iconst 0, 1) := by decide +kernel
theorem dL_law_338 : decode cL_law 338 = .ok (.ireturn, 1) := by decide +kernel
theorem dL_law_339 : decode cL_law 339 = .ok (.aload_n 1, 1) := by decide +kernel
theorem dL_law_340 : decode cL_law 340 = .ok (.aload_n 0, 1) := by decide +kernel
theorem dL_law_341 : decode cL_law 341 = .ok (.iload_n 3, 1) := by decide +kernel
theorem dL_law_342 : decode cL_law 342 = .ok (.iconst 1, 1) := by decide +kernel
theorem dL_law_343 : decode cL_law 343 = .ok (.iadd, 1) := by decide +kernel
theorem dL_law_344 : decode cL_law 344 = .ok (.iaload, 1) := by decide +kernel
theorem dL_law_345 : decode cL_law 345 = .ok (.invokevirtual 52, 3) := by decide +kernel
theorem dL_law_348 : decode cL_law 348 = .ok (.aload_n 2, 1) := by decide +kernel
theorem dL_law_349 : decode cL_law 349 = .ok (.aload_n 0, 1) := by decide +kernel
theorem dL_law_350 : decode cL_law 350 = .ok (.iload_n 3, 1) := by decide +kernel
theorem dL_law_351 : decode cL_law 351 = .ok (.iconst 1, 1) := by decide +kernel
theorem dL_law_352 : decode cL_law 352 = .ok (.iadd, 1) := by decide +kernel
theorem dL_law_353 : decode cL_law 353 = .ok (.iaload, 1) := by decide +kernel
theorem dL_law_354 : decode cL_law 354 = .ok (.invokevirtual 55, 3) := by decide +kernel
theorem dL_law_357 : decode cL_law 357 = .ok (.if_icmp .eq 265, 3) := by decide +kernel
theorem dL_law_360 : decode cL_law 360 = .ok (.iconst 0, 1) := by decide +kernel
theorem dL_law_361 : decode cL_law 361 = .ok (.ireturn, 1) := by decide +kernel
theorem dL_law_362 : decode cL_law 362 = .ok (.aload_n 1, 1) := by decide +kernel
theorem dL_law_363 : decode cL_law 363 = .ok (.aload_n 0, 1) := by decide +kernel
theorem dL_law_364 : decode cL_law 364 = .ok (.iload_n 3, 1) := by decide +kernel
theorem dL_law_365 : decode cL_law 365 = .ok (.iconst 1, 1) := by decide +kernel
theorem dL_law_366 : decode cL_law 366 = .ok (.iadd, 1) := by decide +kernel
theorem dL_law_367 : decode cL_law 367 = .ok (.iaload, 1) := by decide +kernel
theorem dL_law_368 : decode cL_law 368 = .ok (.invokevirtual 56, 3) := by decide +kernel
theorem dL_law_371 : decode cL_law 371 = .ok (.aload_n 2, 1) := by decide +kernel
theorem dL_law_372 : decode cL_law 372 = .ok (.aload_n 0, 1) := by decide +kernel
theorem dL_law_373 : decode cL_law 373 = .ok (.iload_n 3, 1) := by decide +kernel
theorem dL_law_374 : decode cL_law 374 = .ok (.iconst 1, 1) := by decide +kernel
theorem dL_law_375 : decode cL_law 375 = .ok (.iadd, 1) := by decide +kernel
theorem dL_law_376 : decode cL_law 376 = .ok (.iaload, 1) := by decide +kernel
theorem dL_law_377 : decode cL_law 377 = .ok (.invokevirtual 59, 3) := by decide +kernel
theorem dL_law_380 : decode cL_law 380 = .ok (.if_icmp .eq 242, 3) := by decide +kernel
theorem dL_law_383 : decode cL_law 383 = .ok (.iconst 0, 1) := by decide +kernel
theorem dL_law_384 : decode cL_law 384 = .ok (.ireturn, 1) := by decide +kernel
theorem dL_law_385 : decode cL_law 385 = .ok (.aload_n 1, 1) := by decide +kernel
theorem dL_law_386 : decode cL_law 386 = .ok (.invokevirtual 60, 3) := by decide +kernel
theorem dL_law_389 : decode cL_law 389 = .ok (.aload_n 2, 1) := by decide +kernel
theorem dL_law_390 : decode cL_law 390 = .ok (.invokevirtual 63, 3) := by decide +kernel
theorem dL_law_393 : decode cL_law 393 = .ok (.if_icmp .eq 229, 3) := by decide +kernel
theorem dL_law_396 : decode cL_law 396 = .ok (.iconst 0, 1) := by decide +kernel
theorem dL_law_397 : decode cL_law 397 = .ok (.ireturn, 1) := by decide +kernel
theorem dL_law_398 : decode cL_law 398 = .ok (.aload_n 1, 1) := by decide +kernel
theorem dL_law_399 : decode cL_law 399 = .ok (.aload_n 0, 1) := by decide +kernel
theorem dL_law_400 : decode cL_law 400 = .ok (.iload_n 3, 1) := by decide +kernel
theorem dL_law_401 : decode cL_law 401 = .ok (.iconst 1, 1) := by decide +kernel
theorem dL_law_402 : decode cL_law 402 = .ok (.iadd, 1) := by decide +kernel
theorem dL_law_403 : decode cL_law 403 = .ok (.iaload, 1) := by decide +kernel
theorem dL_law_404 : decode cL_law 404 = .ok (.invokevirtual 64, 3) := by decide +kernel
theorem dL_law_407 : decode cL_law 407 = .ok (.aload_n 2, 1) := by decide +kernel
theorem dL_law_408 : decode cL_law 408 = .ok (.aload_n 0, 1) := by decide +kernel
theorem dL_law_409 : decode cL_law 409 = .ok (.iload_n 3, 1) := by decide +kernel
theorem dL_law_410 : decode cL_law 410 = .ok (.iconst 1, 1) := by decide +kernel
theorem dL_law_411 : decode cL_law 411 = .ok (.iadd, 1) := by decide +kernel
theorem dL_law_412 : decode cL_law 412 = .ok (.iaload, 1) := by decide +kernel
theorem dL_law_413 : decode cL_law 413 = .ok (.invokevirtual 67, 3) := by decide +kernel
theorem dL_law_416 : decode cL_law 416 = .ok (.if_icmp .eq 206, 3) := by decide +kernel
theorem dL_law_419 : decode cL_law 419 = .ok (.iconst 0, 1) := by decide +kernel
theorem dL_law_420 : decode cL_law 420 = .ok (.ireturn, 1) := by decide +kernel
theorem dL_law_421 : decode cL_law 421 = .ok (.aload_n 1, 1) := by decide +kernel
theorem dL_law_422 : decode cL_law 422 = .ok (.aload_n 0, 1) := by decide +kernel
theorem dL_law_423 : decode cL_law 423 = .ok (.iload_n 3, 1) := by decide +kernel
theorem dL_law_424 : decode cL_law 424 = .ok (.iconst 1, 1) := by decide +kernel
theorem dL_law_425 : decode cL_law 425 = .ok (.iadd, 1) := by decide +kernel
theorem dL_law_426 : decode cL_law 426 = .ok (.iaload, 1) := by decide +kernel
theorem dL_law_427 : decode cL_law 427 = .ok (.aload_n 0, 1) := by decide +kernel
theorem dL_law_428 : decode cL_law 428 = .ok (.iload_n 3, 1) := by decide +kernel
theorem dL_law_429 : decode cL_law 429 = .ok (.iconst 2, 1) := by decide +kernel
theorem dL_law_430 : decode cL_law 430 = .ok (.iadd, 1) := by decide +kernel
theorem dL_law_431 : decode cL_law 431 = .ok (.iaload, 1) := by decide +kernel
theorem dL_law_432 : decode cL_law 432 = .ok (.aload_n 0, 1) := by decide +kernel
theorem dL_law_433 : decode cL_law 433 = .ok (.iload_n 3, 1) := by decide +kernel
theorem dL_law_434 : decode cL_law 434 = .ok (.iconst 3, 1) := by decide +kernel
theorem dL_law_435 : decode cL_law 435 = .ok (.iadd, 1) := by decide +kernel
theorem dL_law_436 : decode cL_law 436 = .ok (.iaload, 1) := by decide +kernel
theorem dL_law_437 : decode cL_law 437 = .ok (.aload_n 0, 1) := by decide +kernel
theorem dL_law_438 : decode cL_law 438 = .ok (.iload_n 3, 1) := by decide +kernel
theorem dL_law_439 : decode cL_law 439 = .ok (.iconst 4, 1) := by decide +kernel
theorem dL_law_440 : decode cL_law 440 = .ok (.iadd, 1) := by decide +kernel
theorem dL_law_441 : decode cL_law 441 = .ok (.iaload, 1) := by decide +kernel
theorem dL_law_442 : decode cL_law 442 = .ok (.ifCond .eq 7, 3) := by decide +kernel
theorem dL_law_445 : decode cL_law 445 = .ok (.iconst 1, 1) := by decide +kernel
theorem dL_law_446 : decode cL_law 446 = .ok (.goto 4, 3) := by decide +kernel
theorem dL_law_449 : decode cL_law 449 = .ok (.iconst 0, 1) := by decide +kernel
theorem dL_law_450 : decode cL_law 450 = .ok (.invokevirtual 68, 3) := by decide +kernel
theorem dL_law_453 : decode cL_law 453 = .ok (.aload_n 2, 1) := by decide +kernel
theorem dL_law_454 : decode cL_law 454 = .ok (.aload_n 0, 1) := by decide +kernel
theorem dL_law_455 : decode cL_law 455 = .ok (.iload_n 3, 1) := by decide +kernel
theorem dL_law_456 : decode cL_law 456 = .ok (.iconst 1, 1) := by decide +kernel
theorem dL_law_457 : decode cL_law 457 = .ok (.iadd, 1) := by decide +kernel
theorem dL_law_458 : decode cL_law 458 = .ok (.iaload, 1) := by decide +kernel
theorem dL_law_459 : decode cL_law 459 = .ok (.aload_n 0, 1) := by decide +kernel
theorem dL_law_460 : decode cL_law 460 = .ok (.iload_n 3, 1) := by decide +kernel
theorem dL_law_461 : decode cL_law 461 = .ok (.iconst 2, 1) := by decide +kernel
theorem dL_law_462 : decode cL_law 462 = .ok (.iadd, 1) := by decide +kernel
theorem dL_law_463 : decode cL_law 463 = .ok (.iaload, 1) := by decide +kernel
theorem dL_law_464 : decode cL_law 464 = .ok (.aload_n 0, 1) := by decide +kernel
theorem dL_law_465 : decode cL_law 465 = .ok (.iload_n 3, 1) := by decide +kernel
theorem dL_law_466 : decode cL_law 466 = .ok (.iconst 3, 1) := by decide +kernel
theorem dL_law_467 : decode cL_law 467 = .ok (.iadd, 1) := by decide +kernel
theorem dL_law_468 : decode cL_law 468 = .ok (.iaload, 1) := by decide +kernel
theorem dL_law_469 : decode cL_law 469 = .ok (.aload_n 0, 1) := by decide +kernel
theorem dL_law_470 : decode cL_law 470 = .ok (.iload_n 3, 1) := by decide +kernel
theorem dL_law_471 : decode cL_law 471 = .ok (.iconst 4, 1) := by decide +kernel
theorem dL_law_472 : decode cL_law 472 = .ok (.iadd, 1) := by decide +kernel
theorem dL_law_473 : decode cL_law 473 = .ok (.iaload, 1) := by decide +kernel
theorem dL_law_474 : decode cL_law 474 = .ok (.ifCond .eq 7, 3) := by decide +kernel
theorem dL_law_477 : decode cL_law 477 = .ok (.iconst 1, 1) := by decide +kernel
theorem dL_law_478 : decode cL_law 478 = .ok (.goto 4, 3) := by decide +kernel
theorem dL_law_481 : decode cL_law 481 = .ok (.iconst 0, 1) := by decide +kernel
theorem dL_law_482 : decode cL_law 482 = .ok (.invokevirtual 72, 3) := by decide +kernel
theorem dL_law_485 : decode cL_law 485 = .ok (.if_icmp .eq 137, 3) := by decide +kernel
theorem dL_law_488 : decode cL_law 488 = .ok (.iconst 0, 1) := by decide +kernel
theorem dL_law_489 : decode cL_law 489 = .ok (.ireturn, 1) := by decide +kernel
theorem dL_law_490 : decode cL_law 490 = .ok (.aload_n 1, 1) := by decide +kernel
theorem dL_law_491 : decode cL_law 491 = .ok (.invokevirtual 73, 3) := by decide +kernel
theorem dL_law_494 : decode cL_law 494 = .ok (.aload_n 2, 1) := by decide +kernel
theorem dL_law_495 : decode cL_law 495 = .ok (.invokevirtual 76, 3) := by decide +kernel
theorem dL_law_498 : decode cL_law 498 = .ok (.if_icmp .eq 124, 3) := by decide +kernel
theorem dL_law_501 : decode cL_law 501 = .ok (.iconst 0, 1) := by decide +kernel
theorem dL_law_502 : decode cL_law 502 = .ok (.ireturn, 1) := by decide +kernel
theorem dL_law_503 : decode cL_law 503 = .ok (.aload_n 1, 1) := by decide +kernel
theorem dL_law_504 : decode cL_law 504 = .ok (.invokevirtual 77, 3) := by decide +kernel
theorem dL_law_507 : decode cL_law 507 = .ok (.aload_n 2, 1) := by decide +kernel
theorem dL_law_508 : decode cL_law 508 = .ok (.invokevirtual 80, 3) := by decide +kernel
theorem dL_law_511 : decode cL_law 511 = .ok (.if_icmp .eq 111, 3) := by decide +kernel
theorem dL_law_514 : decode cL_law 514 = .ok (.iconst 0, 1) := by decide +kernel
theorem dL_law_515 : decode cL_law 515 = .ok (.ireturn, 1) := by decide +kernel
theorem dL_law_516 : decode cL_law 516 = .ok (.aload_n 1, 1) := by decide +kernel
theorem dL_law_517 : decode cL_law 517 = .ok (.aload_n 0, 1) := by decide +kernel
theorem dL_law_518 : decode cL_law 518 = .ok (.iload_n 3, 1) := by decide +kernel
theorem dL_law_519 : decode cL_law 519 = .ok (.iconst 1, 1) := by decide +kernel
theorem dL_law_520 : decode cL_law 520 = .ok (.iadd, 1) := by decide +kernel
theorem dL_law_521 : decode cL_law 521 = .ok (.iaload, 1) := by decide +kernel
theorem dL_law_522 : decode cL_law 522 = .ok (.aload_n 0, 1) := by decide +kernel
theorem dL_law_523 : decode cL_law 523 = .ok (.iload_n 3, 1) := by decide +kernel
theorem dL_law_524 : decode cL_law 524 = .ok (.iconst 2, 1) := by decide +kernel
theorem dL_law_525 : decode cL_law 525 = .ok (.iadd, 1) := by decide +kernel
theorem dL_law_526 : decode cL_law 526 = .ok (.iaload, 1) := by decide +kernel
theorem dL_law_527 : decode cL_law 527 = .ok (.aload_n 0, 1) := by decide +kernel
theorem dL_law_528 : decode cL_law 528 = .ok (.iload_n 3, 1) := by decide +kernel
theorem dL_law_529 : decode cL_law 529 = .ok (.iconst 3, 1) := by decide +kernel
theorem dL_law_530 : decode cL_law 530 = .ok (.iadd, 1) := by decide +kernel
theorem dL_law_531 : decode cL_law 531 = .ok (.iaload, 1) := by decide +kernel
theorem dL_law_532 : decode cL_law 532 = .ok (.invokevirtual 81, 3) := by decide +kernel
theorem dL_law_535 : decode cL_law 535 = .ok (.aload_n 2, 1) := by decide +kernel
theorem dL_law_536 : decode cL_law 536 = .ok (.aload_n 0, 1) := by decide +kernel
theorem dL_law_537 : decode cL_law 537 = .ok (.iload_n 3, 1) := by decide +kernel
theorem dL_law_538 : decode cL_law 538 = .ok (.iconst 1, 1) := by decide +kernel
theorem dL_law_539 : decode cL_law 539 = .ok (.iadd, 1) := by decide +kernel
theorem dL_law_540 : decode cL_law 540 = .ok (.iaload, 1) := by decide +kernel
theorem dL_law_541 : decode cL_law 541 = .ok (.aload_n 0, 1) := by decide +kernel
theorem dL_law_542 : decode cL_law 542 = .ok (.iload_n 3, 1) := by decide +kernel
theorem dL_law_543 : decode cL_law 543 = .ok (.iconst 2, 1) := by decide +kernel
theorem dL_law_544 : decode cL_law 544 = .ok (.iadd, 1) := by decide +kernel
theorem dL_law_545 : decode cL_law 545 = .ok (.iaload, 1) := by decide +kernel
theorem dL_law_546 : decode cL_law 546 = .ok (.aload_n 0, 1) := by decide +kernel
theorem dL_law_547 : decode cL_law 547 = .ok (.iload_n 3, 1) := by decide +kernel
theorem dL_law_548 : decode cL_law 548 = .ok (.iconst 3, 1) := by decide +kernel
theorem dL_law_549 : decode cL_law 549 = .ok (.iadd, 1) := by decide +kernel
theorem dL_law_550 : decode cL_law 550 = .ok (.iaload, 1) := by decide +kernel
theorem dL_law_551 : decode cL_law 551 = .ok (.invokevirtual 85, 3) := by decide +kernel
theorem dL_law_554 : decode cL_law 554 = .ok (.if_icmp .eq 68, 3) := by decide +kernel
theorem dL_law_557 : decode cL_law 557 = .ok (.iconst 0, 1) := by decide +kernel
theorem dL_law_558 : decode cL_law 558 = .ok (.ireturn, 1) := by decide +kernel
theorem dL_law_559 : decode cL_law 559 = .ok (.aload_n 1, 1) := by decide +kernel
theorem dL_law_560 : decode cL_law 560 = .ok (.invokevirtual 86, 3) := by decide +kernel
theorem dL_law_563 : decode cL_law 563 = .ok (.aload_n 2, 1) := by decide +kernel
theorem dL_law_564 : decode cL_law 564 = .ok (.invokevirtual 89, 3) := by decide +kernel
theorem dL_law_567 : decode cL_law 567 = .ok (.if_icmp .eq 55, 3) := by decide +kernel
theorem dL_law_570 : decode cL_law 570 = .ok (.iconst 0, 1) := by decide +kernel
theorem dL_law_571 : decode cL_law 571 = .ok (.ireturn, 1) := by decide +kernel
theorem dL_law_572 : decode cL_law 572 = .ok (.aload_n 1, 1) := by decide +kernel
theorem dL_law_573 : decode cL_law 573 = .ok (.invokevirtual 90, 3) := by decide +kernel
theorem dL_law_576 : decode cL_law 576 = .ok (.aload_n 2, 1) := by decide +kernel
theorem dL_law_577 : decode cL_law 577 = .ok (.invokevirtual 93, 3) := by decide +kernel
theorem dL_law_580 : decode cL_law 580 = .ok (.if_icmp .eq 42, 3) := by decide +kernel
theorem dL_law_583 : decode cL_law 583 = .ok (.iconst 0, 1) := by decide +kernel
theorem dL_law_584 : decode cL_law 584 = .ok (.ireturn, 1) := by decide +kernel
theorem dL_law_585 : decode cL_law 585 = .ok (.aload_n 1, 1) := by decide +kernel
theorem dL_law_586 : decode cL_law 586 = .ok (.aload_n 0, 1) := by decide +kernel
theorem dL_law_587 : decode cL_law 587 = .ok (.iload_n 3, 1) := by decide +kernel
theorem dL_law_588 : decode cL_law 588 = .ok (.iconst 1, 1) := by decide +kernel
theorem dL_law_589 : decode cL_law 589 = .ok (.iadd, 1) := by decide +kernel
theorem dL_law_590 : decode cL_law 590 = .ok (.iaload, 1) := by decide +kernel
theorem dL_law_591 : decode cL_law 591 = .ok (.invokevirtual 94, 3) := by decide +kernel
theorem dL_law_594 : decode cL_law 594 = .ok (.aload_n 2, 1) := by decide +kernel
theorem dL_law_595 : decode cL_law 595 = .ok (.aload_n 0, 1) := by decide +kernel
theorem dL_law_596 : decode cL_law 596 = .ok (.iload_n 3, 1) := by decide +kernel
theorem dL_law_597 : decode cL_law 597 = .ok (.iconst 1, 1) := by decide +kernel
theorem dL_law_598 : decode cL_law 598 = .ok (.iadd, 1) := by decide +kernel
theorem dL_law_599 : decode cL_law 599 = .ok (.iaload, 1) := by decide +kernel
theorem dL_law_600 : decode cL_law 600 = .ok (.invokevirtual 97, 3) := by decide +kernel
theorem dL_law_603 : decode cL_law 603 = .ok (.if_icmp .eq 19, 3) := by decide +kernel
theorem dL_law_606 : decode cL_law 606 = .ok (.iconst 0, 1) := by decide +kernel
theorem dL_law_607 : decode cL_law 607 = .ok (.ireturn, 1) := by decide +kernel
theorem dL_law_608 : decode cL_law 608 = .ok (.aload_n 1, 1) := by decide +kernel
theorem dL_law_609 : decode cL_law 609 = .ok (.invokevirtual 98, 3) := by decide +kernel
theorem dL_law_612 : decode cL_law 612 = .ok (.aload_n 2, 1) := by decide +kernel
theorem dL_law_613 : decode cL_law 613 = .ok (.invokevirtual 102, 3) := by decide +kernel
theorem dL_law_616 : decode cL_law 616 = .ok (.lcmp, 1) := by decide +kernel
theorem dL_law_617 : decode cL_law 617 = .ok (.ifCond .eq 5, 3) := by decide +kernel
theorem dL_law_620 : decode cL_law 620 = .ok (.iconst 0, 1) := by decide +kernel
theorem dL_law_621 : decode cL_law 621 = .ok (.ireturn, 1) := by decide +kernel
theorem dL_law_622 : decode cL_law 622 = .ok (.iinc 3 5, 3) := by decide +kernel
theorem dL_law_625 : decode cL_law 625 = .ok (.goto (-607), 3) := by decide +kernel
theorem dL_law_628 : decode cL_law 628 = .ok (.iconst 1, 1) := by decide +kernel
theorem dL_law_629 : decode cL_law 629 = .ok (.ireturn, 1) := by decide +kernel
end
section
/-! THE ABSTRACT MACHINE: a heap is a function from small numbers to objects and arrays; cell k lies at base + k. -/
abbrev AC : Type := (Nat × List Value) ⊕ (Nat × Nat × (Nat → Int32))
abbrev AH : Type := Nat → Option AC
def hset (h : AH) (a : Nat) (c : AC) : AH := fun q => if q = a then some c else h q
theorem hset_eq {h : AH} {a : Nat} {c : AC} : hset h a c a = some c := by simp [hset]
theorem hset_ne {h : AH} {a b : Nat} {c : AC} (n : b ≠ a) : hset h a c b = h b := by simp [hset, n]
/-- base, the kit's numbers of classes and slots, the array classes, the text constant and its bytes -/
abbrev Gl : Type := Nat × va_G × (Nat → ClassId) × Nat × Nat
/-- an abstract value as the machine has it: references below 1000 are cells of the world; 1001 is the text constant, 1002 its bytes; from 2000 on they are old cells -/
def cv (g : Gl) : Value → Value
  | .ref k => .ref (if k < 1000 then g.1 + k else if k = 1001 then g.2.2.2.1 else if k = 1002 then g.2.2.2.2 else k - 2000)
  | v => v
theorem cv_cat (b : Gl) (v : Value) : (cv b v).category = v.category := by
  cases v <;> rfl
theorem cv_ref {b : Gl} {a : Nat} (h : a < 1000) : cv b (.ref a) = .ref (b.1 + a) := by
  show Value.ref (if a < 1000 then _ else _) = _
  rw [if_pos h]
theorem cv_str {b : Gl} : cv b (.ref 1001) = .ref b.2.2.2.1 := rfl
theorem cv_byt {b : Gl} : cv b (.ref 1002) = .ref b.2.2.2.2 := rfl
theorem cv_old {b : Gl} {a : Nat} : cv b (.ref (a + 2000)) = .ref a := by
  show Value.ref (if a + 2000 < 1000 then _ else if a + 2000 = 1001 then _ else if a + 2000 = 1002 then _ else a + 2000 - 2000) = _
  rw [if_neg (by omega), if_neg (by omega), if_neg (by omega), Nat.add_sub_cancel]
def tyN : Nat → FieldType
  | 0 => .int
  | 1 => .byte
  | _ => .boolean
def ce (g : Gl) (c : AC) : va_E := match c with
  | .inl q => .inr (q.1, q.2.map (cv g))
  | .inr q => .inl (g.2.2.1 q.1, q.2.1, .inl q.2.2)
def gty (g : Gl) : List (ClassId × FieldType) := [(g.2.2.1 0, .int), (g.2.2.1 1, .byte), (g.2.2.1 2, .boolean)]
def cg (ci : Nat) : vw_C := match ci with
  | 0 => (RX0, TX0, 2)
  | 1 => (RX1, TX1, 5)
  | 2 => (RX3, TX3, 2)
  | 3 => (RX4, TX4, 6)
  | 4 => (RX5, TX5, 7)
  | 5 => (RX6, TX6, 11)
  | _ => (RX7, TX7, 34)
def tg (ci : Nat) : Nat → FieldType := match ci with
  | 0 => tyX0
  | 1 => tyX1
  | 2 => tyX3
  | 3 => tyX4
  | 4 => tyX5
  | 5 => tyX6
  | _ => tyX7
/-- the tables' words that a call carries along -/
def gt : List Cond := lw_tbl.filter goodWord
theorem gt_of {w : Cond} (h : w ∈ lw_tbl) (hg : goodWord w = true) : w ∈ gt := List.mem_filter.mpr ⟨h, hg⟩
theorem gt_at {w : Cond} (i : Nat) (h : lw_tbl[i]? = some w) (hg : goodWord w = true) : w ∈ gt := gt_of (List.mem_of_getElem? h) hg
theorem gt_good {w : Cond} (h : w ∈ gt) : (w.onTables && w.keeps) = true ∨ ∃ ty, w = .arrayClass ty := good_of_word (List.mem_filter.mp h).2
def CLp (ci : Nat) : Prop := vwCl[ci]? = some ((cg ci).1, (cg ci).2.1, (cg ci).2.2) ∧ (∀ w ∈ u_ws (cg ci).1 (cg ci).2.1 (cg ci).2.2, w ∈ gt) ∧ (∀ j, j < (cg ci).2.2 → parseFieldDescriptor ((cg ci).2.1 j).2.2.1 = some (tg ci j)) ∧ (∀ a, a < (cg ci).2.2 → ∀ b, b < (cg ci).2.2 → a ≠ b → ((cg ci).2.1 a).2.1 ≠ ((cg ci).2.1 b).2.1)
theorem ugt {ws : List Cond} (h : ∀ w ∈ ws, w ∈ lw_tbl) (hg : ∀ w ∈ ws, goodWord w = true) : ∀ w ∈ ws, w ∈ gt := fun w hw => gt_of (h w hw) (hg w hw)
theorem CL0 : CLp 0 := ⟨rfl, ugt (by decide +kernel) (by decide +kernel), tyX0_ok, nmX0⟩
theorem CL1 : CLp 1 := ⟨rfl, ugt (by decide +kernel) (by decide +kernel), tyX1_ok, nmX1⟩
theorem CL2 : CLp 2 := ⟨rfl, ugt (by decide +kernel) (by decide +kernel), tyX3_ok, nmX3⟩
theorem CL3 : CLp 3 := ⟨rfl, ugt (by decide +kernel) (by decide +kernel), tyX4_ok, nmX4⟩
theorem CL4 : CLp 4 := ⟨rfl, ugt (by decide +kernel) (by decide +kernel), tyX5_ok, nmX5⟩
theorem CL5 : CLp 5 := ⟨rfl, ugt (by decide +kernel) (by decide +kernel), tyX6_ok, nmX6⟩
theorem CL6 : CLp 6 := ⟨rfl, ugt (by decide +kernel) (by decide +kernel), tyX7_ok, nmX7⟩
theorem CLs (ci : Nat) (h : ci < 7) : CLp ci := by
  match ci, h with
  | 0, _ => exact CL0
  | 1, _ => exact CL1
  | 2, _ => exact CL2
  | 3, _ => exact CL3
  | 4, _ => exact CL4
  | 5, _ => exact CL5
  | 6, _ => exact CL6
/-- the heap holds the world -/
def wh (g : Gl) (h : AH) (H : Heap) : Prop := ∃ n, n ≤ 1000 ∧ H.size = g.1 + n ∧ (∀ k, n ≤ k → h k = none) ∧ ∀ k, k < n → ∃ c, h k = some c ∧ va_at g.2.1 vwCl (g.1 + k, ce g c) H
theorem wh_at {g : Gl} {h : AH} {H : Heap} {a : Nat} {c : AC} (w : wh g h H) (e : h a = some c) : a < 1000 ∧ va_at g.2.1 vwCl (g.1 + a, ce g c) H := by
  obtain ⟨n, h1, h2, h3, h4⟩ := w
  have ha : a < n := by
    rcases Nat.lt_or_ge a n with q | q
    · exact q
    · rw [h3 a q] at e; cases e
  obtain ⟨c', e', h5⟩ := h4 a ha
  rw [e] at e'
  cases e'
  exact ⟨by omega, h5⟩
theorem wh_set {g : Gl} {h : AH} {H H1 : Heap} {a : Nat} {c0 c : AC} (w : wh g h H) (e : h a = some c0) (z : H1.size = H.size) (oq : ∀ q : Nat, q ≠ g.1 + a → H1[q]? = H[q]?) (e1 : va_at g.2.1 vwCl (g.1 + a, ce g c) H1) : wh g (hset h a c) H1 := by
  obtain ⟨n, h1, h2, h3, h4⟩ := w
  have ha : a < n := by
    rcases Nat.lt_or_ge a n with q | q
    · exact q
    · rw [h3 a q] at e; cases e
  refine ⟨n, h1, by rw [z]; exact h2, fun k hk => by rw [hset_ne (by omega)]; exact h3 k hk, fun k hk => ?_⟩
  by_cases hka : k = a
  · subst hka
    exact ⟨c, hset_eq, e1⟩
  · obtain ⟨c', e', h5⟩ := h4 k hk
    exact ⟨c', by rw [hset_ne hka]; exact e', h5.kept (oq _ (by show g.1 + k ≠ g.1 + a; omega))⟩
/-- the world has n cells -/
def hsz (h : AH) (n : Nat) : Prop := (∀ k, n ≤ k → h k = none) ∧ ∀ k, k < n → h k ≠ none
theorem hsz_set {h : AH} {n a : Nat} {c : AC} (z : hsz h n) (ha : a < n) : hsz (hset h a c) n := by
  refine ⟨fun k hk => by rw [hset_ne (by omega)]; exact z.1 k hk, fun k hk => ?_⟩
  by_cases hka : k = a
  · subst hka; rw [hset_eq]; exact fun e => by cases e
  · rw [hset_ne hka]; exact z.2 k hk
theorem hsz_new {h : AH} {n : Nat} {c : AC} (z : hsz h n) : hsz (hset h n c) (n + 1) := by
  refine ⟨fun k hk => by rw [hset_ne (by omega)]; exact z.1 k (by omega), fun k hk => ?_⟩
  by_cases hka : k = n
  · subst hka; rw [hset_eq]; exact fun e => by cases e
  · rw [hset_ne hka]; exact z.2 k (by omega)
theorem wh_size {g : Gl} {h : AH} {H : Heap} {n : Nat} (w : wh g h H) (hz : hsz h n) : H.size = g.1 + n := by
  obtain ⟨n', h1, h2, h3, h4⟩ := w
  have e : n' = n := by
    rcases Nat.lt_trichotomy n' n with q | q | q
    · exact absurd (h3 n' (Nat.le_refl _)) (hz.2 n' q)
    · exact q
    · obtain ⟨c', e', -⟩ := h4 n q
      rw [hz.1 n (Nat.le_refl _)] at e'
      cases e'
  rw [← e]; exact h2
theorem wh_push {g : Gl} {h : AH} {H H1 : Heap} {n : Nat} {c : AC} (w : wh g h H) (hz : hsz h n) (hn : n < 1000) (z : H1.size = H.size + 1) (oq : ∀ q : Nat, q < H.size → H1[q]? = H[q]?) (e1 : va_at g.2.1 vwCl (g.1 + n, ce g c) H1) : wh g (hset h n c) H1 := by
  have hs := wh_size w hz
  obtain ⟨n', h1, h2, h3, h4⟩ := w
  have e : n' = n := by omega
  subst e
  refine ⟨n' + 1, hn, by rw [z, h2]; omega, fun k hk => by rw [hset_ne (by omega)]; exact h3 k (by omega), fun k hk => ?_⟩
  by_cases hka : k = n'
  · subst hka
    exact ⟨c, hset_eq, e1⟩
  · obtain ⟨c', e', h5⟩ := h4 k (by omega)
    exact ⟨c', by rw [hset_ne hka]; exact e', h5.kept (oq _ (by show g.1 + k < H.size; omega))⟩
/-- the nest's private methods that are called across classes -/
def nwT : List (String × Nat × MethodName × String) := [("StiltYard", 9, ⟨"StiltYard$Page", "<init>", "()V"⟩, "StiltYard"), ("StiltYard", 18, ⟨"StiltYard$Scene", "<init>", "()V"⟩, "StiltYard"), ("StiltYard$Scene", 9, ⟨"StiltYard$Ground", "<init>", "()V"⟩, "StiltYard"), ("StiltYard$Scene", 18, ⟨"StiltYard$Heard", "<init>", "()V"⟩, "StiltYard"), ("StiltYard", 31, ⟨"StiltYard$Ground", "<init>", "()V"⟩, "StiltYard"), ("StiltYard", 38, ⟨"StiltYard$Route", "<init>", "()V"⟩, "StiltYard"), ("StiltYard$Heard", 49, ⟨"StiltYard", "bearable", "(I)I"⟩, "StiltYard"), ("StiltYard$Scene", 74, ⟨"StiltYard", "bearable", "(I)I"⟩, "StiltYard"), ("StiltYard$Route", 41, ⟨"StiltYard", "bearable", "(I)I"⟩, "StiltYard")]
def we (g : Gl) (U : State) : Prop := va_K g.2.1 vwCl (gty g) U ∧ (∀ q ∈ nwT, va_Nw (.methodLinkNest q.1 q.2.1 q.2.2.1 q.2.2.2) U) ∧ vk_R "StiltYard$Kind" 9 "plgbo" g.2.2.2.1 U
def wf (g : Gl) (U : State) (H : Heap) : Prop := vk_S 1 [5] [[112, 108, 103, 98, 111]] (fun _ => g.2.2.2.1) (fun _ => g.2.2.2.2) (fun q => g.1 ≤ q) U H ∧ va_Z "java/lang/String" "COMPACT_STRINGS" "Z" (.int 1) (fun q => g.1 ≤ q) U H
def wo (g : Gl) (h : AH) (U : State) : Prop := we g U ∧ wf g U U.heap ∧ wh g h U.heap
theorem we_warm {g : Gl} {s U : State} (hW : s.WarmedH U.vm) (h : we g s) : we g U := ⟨va_K.moved hW.alike h.1, fun q hq => va_Nw.warmM hW (h.2.1 q hq), vk_R.warm hW h.2.2⟩
theorem we_same {g : Gl} {u U : State} (hv : U.vm = u.vm) (h : we g u) : we g U := ⟨va_K.moved (by rw [hv]; exact Vm.Alike.refl _) h.1, fun q hq => va_Nw.same rfl hv.symm (h.2.1 q hq), vk_R.same hv h.2.2⟩
theorem wf_moved {g : Gl} {u U : State} {H H1 : Heap} (hvm : u.vm.Alike U.vm) (hq : ∀ a : Nat, a < H.size → ¬ g.1 ≤ a → H1[a]? = H[a]?) (h : wf g u H) : wf g U H1 := ⟨vk_S.moved hvm (h.1.kept hq), va_Z.moved hvm (h.2.kept hq)⟩
theorem wo_blind {g : Gl} {h : AH} {av : List Value} : FrameBlind (va_Pc av (fun U => wo g h U)) := fun a U f mk q => ⟨q.1, we_same (u := U) (U := U.calling f mk a) rfl q.2.1, wf_moved (u := U) (U := U.calling f mk a) (Vm.Alike.refl U.vm) (fun _ _ _ => rfl) q.2.2.1, q.2.2.2⟩
/-! locals, by their places -/
def lg : List (Option Value) → Nat → Option Value
  | [], _ => none
  | x :: _, 0 => x
  | _ :: r, n + 1 => lg r n
def lst : List (Option Value) → Nat → Option Value → List (Option Value)
  | [], _, _ => []
  | _ :: r, 0, v => v :: r
  | x :: r, n + 1, v => x :: lst r n v
def lp (b : Gl) : Nat → List (Option Value) → List (Nat × Value)
  | _, [] => []
  | i, none :: r => lp b (i + 1) r
  | i, some v :: r => (i, cv b v) :: lp b (i + 1) r
def lh (b : Gl) (la : Array Slot) (n : Nat) (ls : List (Option Value)) : Prop := ls.length ≤ n ∧ lv_has la n (lp b 0 ls)
theorem lst_len : ∀ (ls : List (Option Value)) (i : Nat) (v : Option Value), (lst ls i v).length = ls.length
  | [], _, _ => rfl
  | _ :: _, 0, _ => rfl
  | _ :: r, i + 1, v => by simp [lst, lst_len r i v]
theorem lst_some : ∀ (ls : List (Option Value)) (i j : Nat) (x : Option Value) (w : Value), lg (lst ls i x) j = some w → (j = i ∧ x = some w) ∨ (j ≠ i ∧ lg ls j = some w)
  | [], _, _, _, _, h => by simp [lst, lg] at h
  | _ :: _, 0, 0, _, _, h => Or.inl ⟨rfl, h⟩
  | _ :: _, 0, j + 1, _, _, h => Or.inr ⟨by omega, h⟩
  | _ :: _, i + 1, 0, _, _, h => Or.inr ⟨by omega, h⟩
  | _ :: r, i + 1, j + 1, x, w, h => by
    rcases lst_some r i j x w h with ⟨e, q⟩ | ⟨e, q⟩
    · exact Or.inl ⟨by omega, q⟩
    · exact Or.inr ⟨by omega, q⟩
theorem lp_in (b : Gl) : ∀ (ls : List (Option Value)) (i d : Nat) (v : Value), lg ls d = some v → (i + d, cv b v) ∈ lp b i ls
  | [], _, _, _, h => by simp [lg] at h
  | none :: r, i, 0, v, h => by simp [lg] at h
  | some x :: r, i, 0, v, h => by
    simp only [lg] at h
    cases h
    exact List.mem_cons_self
  | none :: r, i, d + 1, v, h => by
    have := lp_in b r (i + 1) d v h
    rw [show i + (d + 1) = i + 1 + d by omega]
    exact this
  | some x :: r, i, d + 1, v, h => by
    have := lp_in b r (i + 1) d v h
    rw [show i + (d + 1) = i + 1 + d by omega]
    exact List.mem_cons_of_mem _ this
theorem lp_out (b : Gl) : ∀ (ls : List (Option Value)) (i : Nat) (q : Nat × Value), q ∈ lp b i ls → ∃ d v, q.1 = i + d ∧ lg ls d = some v ∧ q.2 = cv b v
  | [], _, _, h => by simp [lp] at h
  | none :: r, i, q, h => by
    obtain ⟨d, v, h1, h2, h3⟩ := lp_out b r (i + 1) q h
    exact ⟨d + 1, v, by omega, h2, h3⟩
  | some x :: r, i, q, h => by
    rcases List.mem_cons.mp h with e | h
    · subst e
      exact ⟨0, x, rfl, rfl, rfl⟩
    · obtain ⟨d, v, h1, h2, h3⟩ := lp_out b r (i + 1) q h
      exact ⟨d + 1, v, by omega, h2, h3⟩
theorem lh_at {b : Gl} {la : Array Slot} {n : Nat} {ls : List (Option Value)} {i : Nat} {v : Value} (h : lh b la n ls) (e : lg ls i = some v) : la[i]? = some (.val (cv b v)) := by
  have h1 := lp_in b ls 0 i v e
  rw [Nat.zero_add] at h1
  exact h.2.2.2 _ h1
/-- a store at i leaves no long that reached into i -/
def okS (ls : List (Option Value)) (i : Nat) : Bool := match i with
  | 0 => true
  | j + 1 => match lg ls j with
    | some v => v.category == 1
    | none => true
theorem okS_spec {ls : List (Option Value)} {i j : Nat} {v : Value} (h : okS ls i = true) (hj : j + 1 = i) (e : lg ls j = some v) : ¬ v.category = 2 := by
  subst hj
  simp only [okS, e] at h
  intro h2
  rw [h2] at h
  cases h
theorem lh_store1 {b : Gl} {la : Array Slot} {n : Nat} {ls : List (Option Value)} {i : Nat} {v : Value} (hlen : ls.length ≤ n) (ok : okS ls i = true) (h : lv_has la n ((i, cv b v) :: (lp b 0 ls).filter (fun q => !(q.1 == i) && !(q.1 + 1 == i && q.2.category == 2)))) : lh b la n (lst ls i (some v)) := by
  refine ⟨by rw [lst_len]; exact hlen, h.1, h.2.1, fun q hq => ?_⟩
  obtain ⟨d, w, h1, h2, h3⟩ := lp_out b _ _ _ hq
  rw [Nat.zero_add] at h1
  rcases lst_some _ _ _ _ _ h2 with ⟨e, e2⟩ | ⟨e, e2⟩
  · cases e2
    have : q = (i, cv b v) := by rw [← e, ← h1, ← h3]
    rw [this]
    exact h.2.2 _ List.mem_cons_self
  · refine h.2.2 _ (List.mem_cons_of_mem _ (List.mem_filter.mpr ⟨?_, ?_⟩))
    · have := lp_in b ls 0 d w e2
      rw [Nat.zero_add] at this
      rw [show q = (d, cv b w) by rw [← h1, ← h3]]
      exact this
    · rw [h1, h3, cv_cat]
      simp only [Bool.and_eq_true, Bool.not_eq_true', beq_eq_false_iff_ne, Bool.and_eq_false_iff]
      refine ⟨e, ?_⟩
      by_cases hd : d + 1 = i
      · exact Or.inr (okS_spec ok hd e2)
      · exact Or.inl hd
theorem lh_store2 {b : Gl} {la : Array Slot} {n : Nat} {ls : List (Option Value)} {i : Nat} {v : Value} (hlen : ls.length ≤ n) (ok : okS ls i = true) (h : lv_has la n ((i, cv b v) :: (lp b 0 ls).filter (fun q => !(q.1 == i) && (!(q.1 == i + 1) && !(q.1 + 1 == i && q.2.category == 2))))) : lh b la n (lst (lst ls i (some v)) (i + 1) none) := by
  refine ⟨by rw [lst_len, lst_len]; exact hlen, h.1, h.2.1, fun q hq => ?_⟩
  obtain ⟨d, w, h1, h2, h3⟩ := lp_out b _ _ _ hq
  rw [Nat.zero_add] at h1
  rcases lst_some _ _ _ _ _ h2 with ⟨e, e2⟩ | ⟨e1, e2⟩
  · cases e2
  rcases lst_some _ _ _ _ _ e2 with ⟨e, e2⟩ | ⟨e, e2⟩
  · cases e2
    have : q = (i, cv b v) := by rw [← e, ← h1, ← h3]
    rw [this]
    exact h.2.2 _ List.mem_cons_self
  · refine h.2.2 _ (List.mem_cons_of_mem _ (List.mem_filter.mpr ⟨?_, ?_⟩))
    · have := lp_in b ls 0 d w e2
      rw [Nat.zero_add] at this
      rw [show q = (d, cv b w) by rw [← h1, ← h3]]
      exact this
    · rw [h1, h3, cv_cat]
      simp only [Bool.and_eq_true, Bool.not_eq_true', beq_eq_false_iff_ne, Bool.and_eq_false_iff]
      refine ⟨e, e1, ?_⟩
      by_cases hd : d + 1 = i
      · exact Or.inr (okS_spec ok hd e2)
      · exact Or.inl hd
/-! the locals at a method's start -/
def en : List Value → List (Option Value)
  | [] => []
  | v :: r => if v.category = 2 then some v :: none :: en r else some v :: en r
def en2 (n : Nat) (av : List Value) : List (Option Value) := en av ++ List.replicate (n - (en av).length) none
theorem en_len (b : Gl) : ∀ av : List Value, (lg_sl (av.map (cv b))).length = (en av).length
  | [] => rfl
  | v :: r => by
    have ih := en_len b r
    simp only [lg_sl] at ih
    simp only [List.map_cons, lg_sl, List.flatMap_cons, cv_cat, en, List.length_append]
    split <;> simp [ih] <;> omega
theorem en_in (b : Gl) : ∀ (av : List Value) (n i d : Nat) (v : Value), lg (en av ++ List.replicate n none) d = some v → (i + d, cv b v) ∈ lv_args i (av.map (cv b))
  | [], n, i, d, v, h => by
    exfalso
    have : ∀ (n d : Nat), lg (List.replicate n none) d = none := by
      intro n
      induction n with
      | zero => intro d; rfl
      | succ n ih => intro d; cases d with
        | zero => rfl
        | succ d => exact ih d
    simp only [en, List.nil_append, this] at h
    cases h
  | w :: r, n, i, d, v, h => by
    simp only [en] at h
    simp only [List.map_cons, lv_args, cv_cat]
    split at h
    next hc =>
      rw [if_pos hc]
      cases d with
      | zero =>
        simp only [List.cons_append, lg] at h
        cases h
        exact List.mem_cons_self
      | succ d => cases d with
        | zero => simp only [List.cons_append, lg] at h; cases h
        | succ d =>
          have := en_in b r n (i + 2) d v h
          rw [show i + (d + 1 + 1) = i + 2 + d by omega]
          exact List.mem_cons_of_mem _ this
    next hc =>
      rw [if_neg hc]
      cases d with
      | zero =>
        simp only [List.cons_append, lg] at h
        cases h
        exact List.mem_cons_self
      | succ d =>
        have := en_in b r n (i + 1) d v h
        rw [show i + (d + 1) = i + 1 + d by omega]
        exact List.mem_cons_of_mem _ this
/-! the context of a walk -/
abbrev Cx : Type := Program × Launch × Env × Room × State × MethodId × Array Value × List Frame × Method × Code × (State → Prop) × Gl
def AW (X : Cx) (cs ss pc : Nat) (ls : List (Option Value)) (st : List Value) (h : AH) : Prop := match X with
  | (p, l, e, R, s, m, args, below, meth, c, Q, g) => ∀ (H : Heap) (locs : List Loc) (la : Array Slot), wh g h H → va_S (fun q => g.1 ≤ q) s.heap H locs → lh g la c.maxLocals ls → W p l e R s m args below meth c H locs cs ss Q (F0 m pc la (st.map (cv g)))
def CxOk (X : Cx) (y : MethodName) (cc : ByteArray) (k rc rs : Nat) : Prop := match X with
  | (p, _, _, R, s, m, args, _, meth, c, _, g) => p.tables.exec = Jvm.exec ∧ c.code = cc ∧ s.vm.findClass y.cls = some m.cls ∧ (∀ w ∈ gt, w.before args s = true) ∧ we g s ∧ wf g s s.heap ∧ (k ≤ R.frames ∧ 37 * k ≤ R.locals ∧ R.cells = rc ∧ R.slots = rs) ∧ meth.name = y.name
def Qk (g : Gl) (K : Option Value → AH → Prop) : Array Value → State → Outcome → State → Prop := fun _ st o t => (∃ (r : Option Value) (h' : AH), o = .returned (r.map (cv g)) ∧ K r h' ∧ wo g h' t) ∧ va_F (fun q => g.1 ≤ q) st t
def Ex (X : Cx) (ret : Option FieldType) (rc rs : Nat) (K : Option Value → AH → Prop) : Prop := match X with
  | (_, _, _, _, s, _, args, below, meth, _, Q, g) => meth.sig.returnType = ret ∧ meth.locks = false ∧ Q = MQ below (Qk g K) args s rc rs (fun q => g.1 ≤ q)
def rmk (k mc ms : Nat) : Room := { frames := k, cells := mc, slots := ms, locals := 37 * k }
/-- the contract of a method: from the world h, with these arguments, it returns, and K holds of its answer and of the world then -/
def AM (k mc ms : Nat) (z : MethodName) (cz : ByteArray) (mz : Nat) (rz : Option FieldType) (av : List Value) (h : AH) (K : Option Value → AH → Prop) : Prop := ∀ (l : Launch) (g : Gl), Met l z (Cond.code z cz mz rz :: gt) (rmk k mc ms) (va_Pc (av.map (cv g)) (fun U => wo g h U)) (Qk g K) mc ms (fun q => g.1 ≤ q)
theorem AM.of {k mc ms : Nat} {z : MethodName} {cz : ByteArray} {mz : Nat} {rz : Option FieldType} {av : List Value} {h : AH} {K : Option Value → AH → Prop} (ls : List (Option Value)) (hp : plainName z.cls = true) (hls : en2 mz av = ls) (hlen : (en av).length ≤ mz) (body : ∀ X, CxOk X z cz k mc ms → Ex X rz mc ms K → AW X 0 0 0 ls [] h) : AM k mc ms z cz mz rz av h K := by
  intro l g
  refine Met.ofW (cc := cz) (maxL := mz) (ret := rz) hp rfl ?_
  intro p e s m args below meth c s₁ B hml hv
  obtain ⟨rfl, hwo⟩ := hv
  have hts := atoms_spec (ws := Cond.code z cz mz rz :: gt) B.pre
  have hown : s.vm.findClass z.cls = some m.cls := findClass_of_methodNamed B.named
  have hb := body (p, l, e, rmk k mc ms, s, m, (av.map (cv g)).toArray, below, meth, c, MQ below (Qk g K) (av.map (cv g)).toArray s mc ms (fun q => g.1 ≤ q), g)
    ⟨B.exec, B.bytes, hown, fun w hw => hts w (List.mem_cons_of_mem _ hw), hwo.1, hwo.2.1, ⟨Nat.le_refl _, Nat.le_refl _, rfl, rfl⟩, (name_of_methodNamed B.named B.method).1⟩ ⟨B.returns, B.notSynchronized, rfl⟩
  have hl := lv_entry (av.map (cv g)) (n := mz) (by rw [en_len]; exact hlen)
  rw [lg_entry_eq]
  subst hls
  refine hb s.heap [] _ hwo.2.2 va_S.rf ⟨?_, ?_⟩
  · rw [hml]
    simp only [en2, List.length_append, List.length_replicate]
    omega
  · rw [hml]
    refine ⟨hl.1, hl.2.1, fun q hq => hl.2.2 q ?_⟩
    obtain ⟨d, v, h1, h2, h3⟩ := lp_out g _ _ _ hq
    have := en_in g av _ 0 d v h2
    rw [Nat.zero_add] at this h1
    rw [show q = (d, cv g v) by rw [← h1, ← h3]]
    exact this
def pushR (r : Option Value) (st : List Value) : List Value := match r with
  | some v => v :: st
  | none => st
section AWR
variable {X : Cx} {cs ss pc k rc rs : Nat} {y : MethodName} {cc : ByteArray} {ls : List (Option Value)} {st : List Value} {h : AH} {K : Option Value → AH → Prop}
theorem AW_widen {cs' ss' : Nat} (hc : cs ≤ cs') (hs : ss ≤ ss') (kk : AW X cs' ss' pc ls st h) : AW X cs ss pc ls st h := by
  obtain ⟨p, l, e, R, s, m, args, below, meth, c, Q, g⟩ := X
  intro H locs la hw hS hl
  exact W.widen hc hs (kk H locs la hw hS hl)
theorem AW_iconst (n' : Nat) (hX : CxOk X y cc k rc rs) {z : Int} {v : Int32} (hd : decode cc pc = .ok (.iconst z, 1)) (hn : pc + 1 = n') (hv : Int32.ofInt z = v) (kk : AW X cs ss n' ls (.int v :: st) h) : AW X cs ss pc ls (st) h := by
  subst hn
  obtain ⟨p, l, e, R, s, m, args, below, meth, c, Q, g⟩ := X
  obtain ⟨hx, hb, hown, hts, -⟩ := hX
  intro H locs la hw hS hl
  exact lv_iconst hx hb hd hv (kk H locs la hw hS hl)
theorem AW_bipush (n' : Nat) (hX : CxOk X y cc k rc rs) {z : Int} {v : Int32} (hd : decode cc pc = .ok (.bipush z, 2)) (hn : pc + 2 = n') (hv : (Int8.ofInt z).toInt32 = v) (kk : AW X cs ss n' ls (.int v :: st) h) : AW X cs ss pc ls (st) h := by
  subst hn
  obtain ⟨p, l, e, R, s, m, args, below, meth, c, Q, g⟩ := X
  obtain ⟨hx, hb, hown, hts, -⟩ := hX
  intro H locs la hw hS hl
  exact lv_bipush hx hb hd hv (kk H locs la hw hS hl)
theorem AW_sipush (n' : Nat) (hX : CxOk X y cc k rc rs) {z : Int} {v : Int32} (hd : decode cc pc = .ok (.sipush z, 3)) (hn : pc + 3 = n') (hv : (Int16.ofInt z).toInt32 = v) (kk : AW X cs ss n' ls (.int v :: st) h) : AW X cs ss pc ls (st) h := by
  subst hn
  obtain ⟨p, l, e, R, s, m, args, below, meth, c, Q, g⟩ := X
  obtain ⟨hx, hb, hown, hts, -⟩ := hX
  intro H locs la hw hS hl
  exact lv_sipush hx hb hd hv (kk H locs la hw hS hl)
theorem AW_ldc (n' : Nat) (hX : CxOk X y cc k rc rs) {ix : Nat} {v : Int32} (hd : decode cc pc = .ok (.ldc ix, 2)) (hn : pc + 2 = n') (hq0 : Cond.constant y.cls ix v ∈ gt) (kk : AW X cs ss n' ls (.int v :: st) h) : AW X cs ss pc ls (st) h := by
  subst hn
  obtain ⟨p, l, e, R, s, m, args, below, meth, c, Q, g⟩ := X
  obtain ⟨hx, hb, hown, hts, -⟩ := hX
  intro H locs la hw hS hl
  exact lv_ldc hx hb hown (hts _ hq0) hd (kk H locs la hw hS hl)
theorem AW_ldc2 (n' : Nat) (hX : CxOk X y cc k rc rs) {ix : Nat} {v : Int64} (hd : decode cc pc = .ok (.ldc2_w ix, 3)) (hn : pc + 3 = n') (hq0 : Cond.constantLong y.cls ix v ∈ gt) (kk : AW X cs ss n' ls (.long v :: st) h) : AW X cs ss pc ls (st) h := by
  subst hn
  obtain ⟨p, l, e, R, s, m, args, below, meth, c, Q, g⟩ := X
  obtain ⟨hx, hb, hown, hts, -⟩ := hX
  intro H locs la hw hS hl
  exact lv_ldc2 hx hb hown (hts _ hq0) hd (kk H locs la hw hS hl)
theorem AW_iload (n' : Nat) (hX : CxOk X y cc k rc rs) {i : Nat} {x : Int32} (hd : decode cc pc = .ok (.iload i, 2)) (hn : pc + 2 = n') (hv : lg ls i = some (.int x)) (kk : AW X cs ss n' ls (.int x :: st) h) : AW X cs ss pc ls (st) h := by
  subst hn
  obtain ⟨p, l, e, R, s, m, args, below, meth, c, Q, g⟩ := X
  obtain ⟨hx, hb, hown, hts, -⟩ := hX
  intro H locs la hw hS hl
  exact lv_iload hx hb hd (lh_at hl hv) (kk H locs la hw hS hl)
theorem AW_iload_n (n' : Nat) (hX : CxOk X y cc k rc rs) {i : Fin 4} {x : Int32} (hd : decode cc pc = .ok (.iload_n i, 1)) (hn : pc + 1 = n') (hv : lg ls i.val = some (.int x)) (kk : AW X cs ss n' ls (.int x :: st) h) : AW X cs ss pc ls (st) h := by
  subst hn
  obtain ⟨p, l, e, R, s, m, args, below, meth, c, Q, g⟩ := X
  obtain ⟨hx, hb, hown, hts, -⟩ := hX
  intro H locs la hw hS hl
  exact lv_iload_n hx hb hd rfl (lh_at hl hv) (kk H locs la hw hS hl)
theorem AW_lload_n (n' : Nat) (hX : CxOk X y cc k rc rs) {i : Fin 4} {x : Int64} (hd : decode cc pc = .ok (.lload_n i, 1)) (hn : pc + 1 = n') (hv : lg ls i.val = some (.long x)) (kk : AW X cs ss n' ls (.long x :: st) h) : AW X cs ss pc ls (st) h := by
  subst hn
  obtain ⟨p, l, e, R, s, m, args, below, meth, c, Q, g⟩ := X
  obtain ⟨hx, hb, hown, hts, -⟩ := hX
  intro H locs la hw hS hl
  exact lv_lload_n hx hb hd rfl (lh_at hl hv) (kk H locs la hw hS hl)
theorem AW_iadd (n' : Nat) (hX : CxOk X y cc k rc rs) {x z : Int32} (hd : decode cc pc = .ok (.iadd, 1)) (hn : pc + 1 = n')  (kk : AW X cs ss n' ls (.int (x + z) :: st) h) : AW X cs ss pc ls (.int z :: .int x :: st) h := by
  subst hn
  obtain ⟨p, l, e, R, s, m, args, below, meth, c, Q, g⟩ := X
  obtain ⟨hx, hb, hown, hts, -⟩ := hX
  intro H locs la hw hS hl
  exact lv_iadd hx hb hd (kk H locs la hw hS hl)
theorem AW_isub (n' : Nat) (hX : CxOk X y cc k rc rs) {x z : Int32} (hd : decode cc pc = .ok (.isub, 1)) (hn : pc + 1 = n')  (kk : AW X cs ss n' ls (.int (x - z) :: st) h) : AW X cs ss pc ls (.int z :: .int x :: st) h := by
  subst hn
  obtain ⟨p, l, e, R, s, m, args, below, meth, c, Q, g⟩ := X
  obtain ⟨hx, hb, hown, hts, -⟩ := hX
  intro H locs la hw hS hl
  exact lv_isub hx hb hd (kk H locs la hw hS hl)
theorem AW_imul (n' : Nat) (hX : CxOk X y cc k rc rs) {x z : Int32} (hd : decode cc pc = .ok (.imul, 1)) (hn : pc + 1 = n')  (kk : AW X cs ss n' ls (.int (x * z) :: st) h) : AW X cs ss pc ls (.int z :: .int x :: st) h := by
  subst hn
  obtain ⟨p, l, e, R, s, m, args, below, meth, c, Q, g⟩ := X
  obtain ⟨hx, hb, hown, hts, -⟩ := hX
  intro H locs la hw hS hl
  exact lv_imul hx hb hd (kk H locs la hw hS hl)
theorem AW_iand (n' : Nat) (hX : CxOk X y cc k rc rs) {x z : Int32} (hd : decode cc pc = .ok (.iand, 1)) (hn : pc + 1 = n')  (kk : AW X cs ss n' ls (.int (x &&& z) :: st) h) : AW X cs ss pc ls (.int z :: .int x :: st) h := by
  subst hn
  obtain ⟨p, l, e, R, s, m, args, below, meth, c, Q, g⟩ := X
  obtain ⟨hx, hb, hown, hts, -⟩ := hX
  intro H locs la hw hS hl
  exact lv_iand hx hb hd (kk H locs la hw hS hl)
theorem AW_ior (n' : Nat) (hX : CxOk X y cc k rc rs) {x z : Int32} (hd : decode cc pc = .ok (.ior, 1)) (hn : pc + 1 = n')  (kk : AW X cs ss n' ls (.int (x ||| z) :: st) h) : AW X cs ss pc ls (.int z :: .int x :: st) h := by
  subst hn
  obtain ⟨p, l, e, R, s, m, args, below, meth, c, Q, g⟩ := X
  obtain ⟨hx, hb, hown, hts, -⟩ := hX
  intro H locs la hw hS hl
  exact lv_ior hx hb hd (kk H locs la hw hS hl)
theorem AW_ishl (n' : Nat) (hX : CxOk X y cc k rc rs) {x z : Int32} (hd : decode cc pc = .ok (.ishl, 1)) (hn : pc + 1 = n')  (kk : AW X cs ss n' ls (.int (x <<< (z &&& 31)) :: st) h) : AW X cs ss pc ls (.int z :: .int x :: st) h := by
  subst hn
  obtain ⟨p, l, e, R, s, m, args, below, meth, c, Q, g⟩ := X
  obtain ⟨hx, hb, hown, hts, -⟩ := hX
  intro H locs la hw hS hl
  exact lv_ishl hx hb hd (kk H locs la hw hS hl)
theorem AW_ishr (n' : Nat) (hX : CxOk X y cc k rc rs) {x z : Int32} (hd : decode cc pc = .ok (.ishr, 1)) (hn : pc + 1 = n')  (kk : AW X cs ss n' ls (.int (x >>> (z &&& 31)) :: st) h) : AW X cs ss pc ls (.int z :: .int x :: st) h := by
  subst hn
  obtain ⟨p, l, e, R, s, m, args, below, meth, c, Q, g⟩ := X
  obtain ⟨hx, hb, hown, hts, -⟩ := hX
  intro H locs la hw hS hl
  exact lv_ishr hx hb hd (kk H locs la hw hS hl)
theorem AW_idiv (n' : Nat) (hX : CxOk X y cc k rc rs) {x z : Int32} (hd : decode cc pc = .ok (.idiv, 1)) (hn : pc + 1 = n') (hz : ¬ z = 0) (kk : AW X cs ss n' ls (.int (x / z) :: st) h) : AW X cs ss pc ls (.int z :: .int x :: st) h := by
  subst hn
  obtain ⟨p, l, e, R, s, m, args, below, meth, c, Q, g⟩ := X
  obtain ⟨hx, hb, hown, hts, -⟩ := hX
  intro H locs la hw hS hl
  exact lv_idiv hx hb hd hz (kk H locs la hw hS hl)
theorem AW_irem (n' : Nat) (hX : CxOk X y cc k rc rs) {x z : Int32} (hd : decode cc pc = .ok (.irem, 1)) (hn : pc + 1 = n') (hz : ¬ z = 0) (kk : AW X cs ss n' ls (.int (x - x / z * z) :: st) h) : AW X cs ss pc ls (.int z :: .int x :: st) h := by
  subst hn
  obtain ⟨p, l, e, R, s, m, args, below, meth, c, Q, g⟩ := X
  obtain ⟨hx, hb, hown, hts, -⟩ := hX
  intro H locs la hw hS hl
  exact lv_irem hx hb hd hz (kk H locs la hw hS hl)
theorem AW_ladd (n' : Nat) (hX : CxOk X y cc k rc rs) {x z : Int64} (hd : decode cc pc = .ok (.ladd, 1)) (hn : pc + 1 = n')  (kk : AW X cs ss n' ls (.long (x + z) :: st) h) : AW X cs ss pc ls (.long z :: .long x :: st) h := by
  subst hn
  obtain ⟨p, l, e, R, s, m, args, below, meth, c, Q, g⟩ := X
  obtain ⟨hx, hb, hown, hts, -⟩ := hX
  intro H locs la hw hS hl
  exact lv_ladd hx hb hd (kk H locs la hw hS hl)
theorem AW_lmul (n' : Nat) (hX : CxOk X y cc k rc rs) {x z : Int64} (hd : decode cc pc = .ok (.lmul, 1)) (hn : pc + 1 = n')  (kk : AW X cs ss n' ls (.long (x * z) :: st) h) : AW X cs ss pc ls (.long z :: .long x :: st) h := by
  subst hn
  obtain ⟨p, l, e, R, s, m, args, below, meth, c, Q, g⟩ := X
  obtain ⟨hx, hb, hown, hts, -⟩ := hX
  intro H locs la hw hS hl
  exact lv_lmul hx hb hd (kk H locs la hw hS hl)
theorem AW_land (n' : Nat) (hX : CxOk X y cc k rc rs) {x z : Int64} (hd : decode cc pc = .ok (.land, 1)) (hn : pc + 1 = n')  (kk : AW X cs ss n' ls (.long (x &&& z) :: st) h) : AW X cs ss pc ls (.long z :: .long x :: st) h := by
  subst hn
  obtain ⟨p, l, e, R, s, m, args, below, meth, c, Q, g⟩ := X
  obtain ⟨hx, hb, hown, hts, -⟩ := hX
  intro H locs la hw hS hl
  exact lv_land hx hb hd (kk H locs la hw hS hl)
theorem AW_ldiv (n' : Nat) (hX : CxOk X y cc k rc rs) {x z : Int64} (hd : decode cc pc = .ok (.ldiv, 1)) (hn : pc + 1 = n') (hz : ¬ z = 0) (kk : AW X cs ss n' ls (.long (x / z) :: st) h) : AW X cs ss pc ls (.long z :: .long x :: st) h := by
  subst hn
  obtain ⟨p, l, e, R, s, m, args, below, meth, c, Q, g⟩ := X
  obtain ⟨hx, hb, hown, hts, -⟩ := hX
  intro H locs la hw hS hl
  exact lv_ldiv hx hb hd hz (kk H locs la hw hS hl)
theorem AW_lrem (n' : Nat) (hX : CxOk X y cc k rc rs) {x z : Int64} (hd : decode cc pc = .ok (.lrem, 1)) (hn : pc + 1 = n') (hz : ¬ z = 0) (kk : AW X cs ss n' ls (.long (x - x / z * z) :: st) h) : AW X cs ss pc ls (.long z :: .long x :: st) h := by
  subst hn
  obtain ⟨p, l, e, R, s, m, args, below, meth, c, Q, g⟩ := X
  obtain ⟨hx, hb, hown, hts, -⟩ := hX
  intro H locs la hw hS hl
  exact lv_lrem hx hb hd hz (kk H locs la hw hS hl)
theorem AW_lshr (n' : Nat) (hX : CxOk X y cc k rc rs) {x : Int64} {z : Int32} (hd : decode cc pc = .ok (.lshr, 1)) (hn : pc + 1 = n')  (kk : AW X cs ss n' ls (.long (x >>> (z.toInt64 &&& 63)) :: st) h) : AW X cs ss pc ls (.int z :: .long x :: st) h := by
  subst hn
  obtain ⟨p, l, e, R, s, m, args, below, meth, c, Q, g⟩ := X
  obtain ⟨hx, hb, hown, hts, -⟩ := hX
  intro H locs la hw hS hl
  exact lv_lshr hx hb hd rfl (kk H locs la hw hS hl)
theorem AW_iushr (n' : Nat) (hX : CxOk X y cc k rc rs) {x z : Int32} (hd : decode cc pc = .ok (.iushr, 1)) (hn : pc + 1 = n')  (kk : AW X cs ss n' ls (.int ((x.toUInt32 >>> (z.toUInt32 &&& Int32.toUInt32 31)).toInt32) :: st) h) : AW X cs ss pc ls (.int z :: .int x :: st) h := by
  subst hn
  obtain ⟨p, l, e, R, s, m, args, below, meth, c, Q, g⟩ := X
  obtain ⟨hx, hb, hown, hts, -⟩ := hX
  intro H locs la hw hS hl
  exact lv_iushr hx hb hd rfl (kk H locs la hw hS hl)
theorem AW_lcmp (n' : Nat) (hX : CxOk X y cc k rc rs) {x z : Int64} (hd : decode cc pc = .ok (.lcmp, 1)) (hn : pc + 1 = n')  (kk : AW X cs ss n' ls (.int (lg_cmp x z) :: st) h) : AW X cs ss pc ls (.long z :: .long x :: st) h := by
  subst hn
  obtain ⟨p, l, e, R, s, m, args, below, meth, c, Q, g⟩ := X
  obtain ⟨hx, hb, hown, hts, -⟩ := hX
  intro H locs la hw hS hl
  exact W.lcmp hx hb hd (kk H locs la hw hS hl)
theorem AW_i2l (n' : Nat) (hX : CxOk X y cc k rc rs) {x : Int32} (hd : decode cc pc = .ok (.i2l, 1)) (hn : pc + 1 = n')  (kk : AW X cs ss n' ls (.long x.toInt64 :: st) h) : AW X cs ss pc ls (.int x :: st) h := by
  subst hn
  obtain ⟨p, l, e, R, s, m, args, below, meth, c, Q, g⟩ := X
  obtain ⟨hx, hb, hown, hts, -⟩ := hX
  intro H locs la hw hS hl
  exact lv_i2l hx hb hd rfl (kk H locs la hw hS hl)
theorem AW_l2i (n' : Nat) (hX : CxOk X y cc k rc rs) {x : Int64} (hd : decode cc pc = .ok (.l2i, 1)) (hn : pc + 1 = n')  (kk : AW X cs ss n' ls (.int x.toInt32 :: st) h) : AW X cs ss pc ls (.long x :: st) h := by
  subst hn
  obtain ⟨p, l, e, R, s, m, args, below, meth, c, Q, g⟩ := X
  obtain ⟨hx, hb, hown, hts, -⟩ := hX
  intro H locs la hw hS hl
  exact lv_l2i hx hb hd rfl (kk H locs la hw hS hl)
theorem AW_i2b (n' : Nat) (hX : CxOk X y cc k rc rs) {x : Int32} (hd : decode cc pc = .ok (.i2b, 1)) (hn : pc + 1 = n')  (kk : AW X cs ss n' ls (.int x.toInt8.toInt32 :: st) h) : AW X cs ss pc ls (.int x :: st) h := by
  subst hn
  obtain ⟨p, l, e, R, s, m, args, below, meth, c, Q, g⟩ := X
  obtain ⟨hx, hb, hown, hts, -⟩ := hX
  intro H locs la hw hS hl
  exact lv_i2b hx hb hd rfl (kk H locs la hw hS hl)
theorem AW_i2c (n' : Nat) (hX : CxOk X y cc k rc rs) {x : Int32} (hd : decode cc pc = .ok (.i2c, 1)) (hn : pc + 1 = n')  (kk : AW X cs ss n' ls (.int (x.toUInt32 % 65536).toInt32 :: st) h) : AW X cs ss pc ls (.int x :: st) h := by
  subst hn
  obtain ⟨p, l, e, R, s, m, args, below, meth, c, Q, g⟩ := X
  obtain ⟨hx, hb, hown, hts, -⟩ := hX
  intro H locs la hw hS hl
  exact lv_i2c hx hb hd rfl (kk H locs la hw hS hl)
theorem AW_dup (n' : Nat) (hX : CxOk X y cc k rc rs) {v : Value} (hd : decode cc pc = .ok (.dup, 1)) (hn : pc + 1 = n') (hv : v.category = 1) (kk : AW X cs ss n' ls (v :: v :: st) h) : AW X cs ss pc ls (v :: st) h := by
  subst hn
  obtain ⟨p, l, e, R, s, m, args, below, meth, c, Q, g⟩ := X
  obtain ⟨hx, hb, hown, hts, -⟩ := hX
  intro H locs la hw hS hl
  exact lv_dup hx hb hd (by rw [cv_cat]; exact hv) (kk H locs la hw hS hl)
theorem AW_pop (n' : Nat) (hX : CxOk X y cc k rc rs) {v : Value} (hd : decode cc pc = .ok (.pop, 1)) (hn : pc + 1 = n') (hv : v.category = 1) (kk : AW X cs ss n' ls (st) h) : AW X cs ss pc ls (v :: st) h := by
  subst hn
  obtain ⟨p, l, e, R, s, m, args, below, meth, c, Q, g⟩ := X
  obtain ⟨hx, hb, hown, hts, -⟩ := hX
  intro H locs la hw hS hl
  exact lv_pop hx hb hd (by rw [cv_cat]; exact hv) (kk H locs la hw hS hl)
theorem AW_aload_n (n' : Nat) (hX : CxOk X y cc k rc rs) {i : Fin 4} {a : Nat} (hd : decode cc pc = .ok (.aload_n i, 1)) (hn : pc + 1 = n') (hv : lg ls i.val = some (.ref a)) (kk : AW X cs ss n' ls (.ref a :: st) h) : AW X cs ss pc ls st h := by
  subst hn
  obtain ⟨p, l, e, R, s, m, args, below, meth, c, Q, g⟩ := X
  obtain ⟨hx, hb, hown, hts, -⟩ := hX
  intro H locs la hw hS hl
  exact lv_aload_n hx hb hd rfl (lh_at hl hv) (kk H locs la hw hS hl)
theorem AW_istore_n (n' : Nat) (hX : CxOk X y cc k rc rs) {i : Fin 4} {x : Int32} (hd : decode cc pc = .ok (.istore_n i, 1)) (hn : pc + 1 = n') (hi : i.val < ls.length) (ok : okS ls i.val = true) (kk : AW X cs ss n' (lst ls i.val (some (.int x))) st h) : AW X cs ss pc ls (.int x :: st) h := by
  subst hn
  obtain ⟨p, l, e, R, s, m, args, below, meth, c, Q, g⟩ := X
  obtain ⟨hx, hb, hown, hts, -⟩ := hX
  intro H locs la hw hS hl
  exact lv_istore_n hx hb hd rfl hl.2 (Nat.lt_of_lt_of_le hi hl.1) rfl (fun la' hl' => kk H locs la' hw hS (lh_store1 (v := .int x) hl.1 ok hl'))
theorem AW_istore (n' : Nat) (hX : CxOk X y cc k rc rs) {i : Nat} {x : Int32} (hd : decode cc pc = .ok (.istore i, 2)) (hn : pc + 2 = n') (hi : i < ls.length) (ok : okS ls i = true) (kk : AW X cs ss n' (lst ls i (some (.int x))) st h) : AW X cs ss pc ls (.int x :: st) h := by
  subst hn
  obtain ⟨p, l, e, R, s, m, args, below, meth, c, Q, g⟩ := X
  obtain ⟨hx, hb, hown, hts, -⟩ := hX
  intro H locs la hw hS hl
  exact lv_istore hx hb hd hl.2 (Nat.lt_of_lt_of_le hi hl.1) rfl (fun la' hl' => kk H locs la' hw hS (lh_store1 (v := .int x) hl.1 ok hl'))
theorem AW_lstore_n (n' : Nat) (hX : CxOk X y cc k rc rs) {i : Fin 4} {x : Int64} (hd : decode cc pc = .ok (.lstore_n i, 1)) (hn : pc + 1 = n') (hi : i.val + 1 < ls.length) (ok : okS ls i.val = true) (kk : AW X cs ss n' (lst (lst ls i.val (some (.long x))) (i.val + 1) none) st h) : AW X cs ss pc ls (.long x :: st) h := by
  subst hn
  obtain ⟨p, l, e, R, s, m, args, below, meth, c, Q, g⟩ := X
  obtain ⟨hx, hb, hown, hts, -⟩ := hX
  intro H locs la hw hS hl
  exact lv_lstore_n hx hb hd rfl hl.2 (Nat.lt_of_lt_of_le hi hl.1) rfl (fun la' hl' => kk H locs la' hw hS (lh_store2 (v := .long x) hl.1 ok hl'))
theorem AW_astore_n (n' : Nat) (hX : CxOk X y cc k rc rs) {i : Fin 4} {a : Nat} (hd : decode cc pc = .ok (.astore_n i, 1)) (hn : pc + 1 = n') (hi : i.val < ls.length) (ok : okS ls i.val = true) (kk : AW X cs ss n' (lst ls i.val (some (.ref a))) st h) : AW X cs ss pc ls (.ref a :: st) h := by
  subst hn
  obtain ⟨p, l, e, R, s, m, args, below, meth, c, Q, g⟩ := X
  obtain ⟨hx, hb, hown, hts, -⟩ := hX
  intro H locs la hw hS hl
  exact lv_astore_n hx hb hd rfl hl.2 (Nat.lt_of_lt_of_le hi hl.1) rfl (fun la' hl' => kk H locs la' hw hS (lh_store1 (v := .ref a) hl.1 ok hl'))
theorem AW_iinc (n' : Nat) (hX : CxOk X y cc k rc rs) {i : Nat} {z : Int} {x v : Int32} (hd : decode cc pc = .ok (.iinc i z, 3)) (hn : pc + 3 = n') (hv : lg ls i = some (.int x)) (hz : x + Int32.ofInt z = v) (hi : i < ls.length) (ok : okS ls i = true) (kk : AW X cs ss n' (lst ls i (some (.int v))) st h) : AW X cs ss pc ls st h := by
  subst hn
  obtain ⟨p, l, e, R, s, m, args, below, meth, c, Q, g⟩ := X
  obtain ⟨hx, hb, hown, hts, -⟩ := hX
  intro H locs la hw hS hl
  have h1 := lp_in g ls 0 i _ hv
  rw [Nat.zero_add] at h1
  obtain ⟨j, hj⟩ := List.getElem?_of_mem h1
  exact lv_iinc hx hb hd hl.2 hj hz (Nat.lt_of_lt_of_le hi hl.1) rfl (fun la' hl' => kk H locs la' hw hS (lh_store1 (v := .int v) hl.1 ok hl'))
theorem AW_goto (t' : Nat) (hX : CxOk X y cc k rc rs) {off : Int} (hd : decode cc pc = .ok (.goto off, 3)) (ht : (pc : Int) + off = (t' : Int)) (kk : AW X cs ss t' ls st h) : AW X cs ss pc ls st h := by
  obtain ⟨p, l, e, R, s, m, args, below, meth, c, Q, g⟩ := X
  obtain ⟨hx, hb, hown, hts, -⟩ := hX
  intro H locs la hw hS hl
  exact lv_goto hx hb hd ht (kk H locs la hw hS hl)
theorem AW_if_eq (n' t' : Nat) (hX : CxOk X y cc k rc rs) {off : Int} {x : Int32} (hd : decode cc pc = .ok (.ifCond .eq off, 3)) (hn : pc + 3 = n') (ht : (pc : Int) + off = (t' : Int)) (kt : x = 0 → AW X cs ss t' ls st h) (kf : ¬ x = 0 → AW X cs ss n' ls st h) : AW X cs ss pc ls (.int x :: st) h := by
  subst hn
  obtain ⟨p, l, e, R, s, m, args, below, meth, c, Q, g⟩ := X
  obtain ⟨hx, hb, hown, hts, -⟩ := hX
  intro H locs la hw hS hl
  exact lv_if_eq hx hb hd ht (fun q => kt q H locs la hw hS hl) (fun q => kf q H locs la hw hS hl)
theorem AW_icmp_eq (n' t' : Nat) (hX : CxOk X y cc k rc rs) {off : Int} {x z : Int32} (hd : decode cc pc = .ok (.if_icmp .eq off, 3)) (hn : pc + 3 = n') (ht : (pc : Int) + off = (t' : Int)) (kt : x = z → AW X cs ss t' ls st h) (kf : ¬ x = z → AW X cs ss n' ls st h) : AW X cs ss pc ls (.int z :: .int x :: st) h := by
  subst hn
  obtain ⟨p, l, e, R, s, m, args, below, meth, c, Q, g⟩ := X
  obtain ⟨hx, hb, hown, hts, -⟩ := hX
  intro H locs la hw hS hl
  exact lv_icmp_eq hx hb hd ht (fun q => kt q H locs la hw hS hl) (fun q => kf q H locs la hw hS hl)
theorem AW_if_ne (n' t' : Nat) (hX : CxOk X y cc k rc rs) {off : Int} {x : Int32} (hd : decode cc pc = .ok (.ifCond .ne off, 3)) (hn : pc + 3 = n') (ht : (pc : Int) + off = (t' : Int)) (kt : ¬ x = 0 → AW X cs ss t' ls st h) (kf : x = 0 → AW X cs ss n' ls st h) : AW X cs ss pc ls (.int x :: st) h := by
  subst hn
  obtain ⟨p, l, e, R, s, m, args, below, meth, c, Q, g⟩ := X
  obtain ⟨hx, hb, hown, hts, -⟩ := hX
  intro H locs la hw hS hl
  exact lv_if_ne hx hb hd ht (fun q => kt q H locs la hw hS hl) (fun q => kf q H locs la hw hS hl)
theorem AW_icmp_ne (n' t' : Nat) (hX : CxOk X y cc k rc rs) {off : Int} {x z : Int32} (hd : decode cc pc = .ok (.if_icmp .ne off, 3)) (hn : pc + 3 = n') (ht : (pc : Int) + off = (t' : Int)) (kt : ¬ x = z → AW X cs ss t' ls st h) (kf : x = z → AW X cs ss n' ls st h) : AW X cs ss pc ls (.int z :: .int x :: st) h := by
  subst hn
  obtain ⟨p, l, e, R, s, m, args, below, meth, c, Q, g⟩ := X
  obtain ⟨hx, hb, hown, hts, -⟩ := hX
  intro H locs la hw hS hl
  exact lv_icmp_ne hx hb hd ht (fun q => kt q H locs la hw hS hl) (fun q => kf q H locs la hw hS hl)
theorem AW_if_lt (n' t' : Nat) (hX : CxOk X y cc k rc rs) {off : Int} {x : Int32} (hd : decode cc pc = .ok (.ifCond .lt off, 3)) (hn : pc + 3 = n') (ht : (pc : Int) + off = (t' : Int)) (kt : x < 0 → AW X cs ss t' ls st h) (kf : ¬ x < 0 → AW X cs ss n' ls st h) : AW X cs ss pc ls (.int x :: st) h := by
  subst hn
  obtain ⟨p, l, e, R, s, m, args, below, meth, c, Q, g⟩ := X
  obtain ⟨hx, hb, hown, hts, -⟩ := hX
  intro H locs la hw hS hl
  exact lv_if_lt hx hb hd ht (fun q => kt q H locs la hw hS hl) (fun q => kf q H locs la hw hS hl)
theorem AW_icmp_lt (n' t' : Nat) (hX : CxOk X y cc k rc rs) {off : Int} {x z : Int32} (hd : decode cc pc = .ok (.if_icmp .lt off, 3)) (hn : pc + 3 = n') (ht : (pc : Int) + off = (t' : Int)) (kt : x < z → AW X cs ss t' ls st h) (kf : ¬ x < z → AW X cs ss n' ls st h) : AW X cs ss pc ls (.int z :: .int x :: st) h := by
  subst hn
  obtain ⟨p, l, e, R, s, m, args, below, meth, c, Q, g⟩ := X
  obtain ⟨hx, hb, hown, hts, -⟩ := hX
  intro H locs la hw hS hl
  exact lv_icmp_lt hx hb hd ht (fun q => kt q H locs la hw hS hl) (fun q => kf q H locs la hw hS hl)
theorem AW_if_ge (n' t' : Nat) (hX : CxOk X y cc k rc rs) {off : Int} {x : Int32} (hd : decode cc pc = .ok (.ifCond .ge off, 3)) (hn : pc + 3 = n') (ht : (pc : Int) + off = (t' : Int)) (kt : 0 ≤ x → AW X cs ss t' ls st h) (kf : ¬ 0 ≤ x → AW X cs ss n' ls st h) : AW X cs ss pc ls (.int x :: st) h := by
  subst hn
  obtain ⟨p, l, e, R, s, m, args, below, meth, c, Q, g⟩ := X
  obtain ⟨hx, hb, hown, hts, -⟩ := hX
  intro H locs la hw hS hl
  exact lv_if_ge hx hb hd ht (fun q => kt q H locs la hw hS hl) (fun q => kf q H locs la hw hS hl)
theorem AW_icmp_ge (n' t' : Nat) (hX : CxOk X y cc k rc rs) {off : Int} {x z : Int32} (hd : decode cc pc = .ok (.if_icmp .ge off, 3)) (hn : pc + 3 = n') (ht : (pc : Int) + off = (t' : Int)) (kt : z ≤ x → AW X cs ss t' ls st h) (kf : ¬ z ≤ x → AW X cs ss n' ls st h) : AW X cs ss pc ls (.int z :: .int x :: st) h := by
  subst hn
  obtain ⟨p, l, e, R, s, m, args, below, meth, c, Q, g⟩ := X
  obtain ⟨hx, hb, hown, hts, -⟩ := hX
  intro H locs la hw hS hl
  exact lv_icmp_ge hx hb hd ht (fun q => kt q H locs la hw hS hl) (fun q => kf q H locs la hw hS hl)
theorem AW_if_gt (n' t' : Nat) (hX : CxOk X y cc k rc rs) {off : Int} {x : Int32} (hd : decode cc pc = .ok (.ifCond .gt off, 3)) (hn : pc + 3 = n') (ht : (pc : Int) + off = (t' : Int)) (kt : 0 < x → AW X cs ss t' ls st h) (kf : ¬ 0 < x → AW X cs ss n' ls st h) : AW X cs ss pc ls (.int x :: st) h := by
  subst hn
  obtain ⟨p, l, e, R, s, m, args, below, meth, c, Q, g⟩ := X
  obtain ⟨hx, hb, hown, hts, -⟩ := hX
  intro H locs la hw hS hl
  exact lv_if_gt hx hb hd ht (fun q => kt q H locs la hw hS hl) (fun q => kf q H locs la hw hS hl)
theorem AW_icmp_gt (n' t' : Nat) (hX : CxOk X y cc k rc rs) {off : Int} {x z : Int32} (hd : decode cc pc = .ok (.if_icmp .gt off, 3)) (hn : pc + 3 = n') (ht : (pc : Int) + off = (t' : Int)) (kt : z < x → AW X cs ss t' ls st h) (kf : ¬ z < x → AW X cs ss n' ls st h) : AW X cs ss pc ls (.int z :: .int x :: st) h := by
  subst hn
  obtain ⟨p, l, e, R, s, m, args, below, meth, c, Q, g⟩ := X
  obtain ⟨hx, hb, hown, hts, -⟩ := hX
  intro H locs la hw hS hl
  exact lv_icmp_gt hx hb hd ht (fun q => kt q H locs la hw hS hl) (fun q => kf q H locs la hw hS hl)
theorem AW_if_le (n' t' : Nat) (hX : CxOk X y cc k rc rs) {off : Int} {x : Int32} (hd : decode cc pc = .ok (.ifCond .le off, 3)) (hn : pc + 3 = n') (ht : (pc : Int) + off = (t' : Int)) (kt : x ≤ 0 → AW X cs ss t' ls st h) (kf : ¬ x ≤ 0 → AW X cs ss n' ls st h) : AW X cs ss pc ls (.int x :: st) h := by
  subst hn
  obtain ⟨p, l, e, R, s, m, args, below, meth, c, Q, g⟩ := X
  obtain ⟨hx, hb, hown, hts, -⟩ := hX
  intro H locs la hw hS hl
  exact lv_if_le hx hb hd ht (fun q => kt q H locs la hw hS hl) (fun q => kf q H locs la hw hS hl)
theorem AW_icmp_le (n' t' : Nat) (hX : CxOk X y cc k rc rs) {off : Int} {x z : Int32} (hd : decode cc pc = .ok (.if_icmp .le off, 3)) (hn : pc + 3 = n') (ht : (pc : Int) + off = (t' : Int)) (kt : x ≤ z → AW X cs ss t' ls st h) (kf : ¬ x ≤ z → AW X cs ss n' ls st h) : AW X cs ss pc ls (.int z :: .int x :: st) h := by
  subst hn
  obtain ⟨p, l, e, R, s, m, args, below, meth, c, Q, g⟩ := X
  obtain ⟨hx, hb, hown, hts, -⟩ := hX
  intro H locs la hw hS hl
  exact lv_icmp_le hx hb hd ht (fun q => kt q H locs la hw hS hl) (fun q => kf q H locs la hw hS hl)
end AWR
end
section
/-! heap, calls, returns, the text constant, new, switches -/
def FL (own : String) (ix ci kf : Nat) : Prop := ci < 7 ∧ kf < (cg ci).2.2 ∧ Cond.fieldLink own ix ((cg ci).2.1 kf).1 ((cg ci).2.1 kf).2.1 ((cg ci).2.1 kf).2.2.1 ∈ gt
/-- a method's own words: its code, its class, how many arguments -/
def MB (z : MethodName) (cz : ByteArray) (mz : Nat) (rz : Option FieldType) (nz : Nat) : Prop := Cond.code z cz mz rz ∈ gt ∧ Cond.initialized z.cls ∈ gt ∧ (z.cls ≠ "java/lang/invoke/MethodHandle" ∧ z.cls ≠ "java/lang/invoke/VarHandle" ∧ (parseMethodDescriptor z.desc).map (fun d => d.parameters.length) = some nz) ∧ mz ≤ 18
def MV (z : MethodName) (cz : ByteArray) (mz : Nat) (rz : Option FieldType) (nz : Nat) : Prop := MB z cz mz rz nz ∧ Cond.instanceMethod z ∈ gt ∧ Cond.selects z.cls z z ∈ gt
def MS (z : MethodName) (cz : ByteArray) (mz : Nat) (rz : Option FieldType) (nz : Nat) : Prop := MB z cz mz rz nz ∧ Cond.static z ∈ gt
def MI (z : MethodName) (cz : ByteArray) (mz : Nat) (nz : Nat) : Prop := MB z cz mz none nz ∧ z.name = "<init>" ∧ Cond.instanceMethod z ∈ gt
theorem good_gt {z : MethodName} {cz : ByteArray} {mz nz : Nat} {rz : Option FieldType} (h : MB z cz mz rz nz) : GoodIn gt (Cond.code z cz mz rz :: gt) := fun w hw => (List.mem_cons.mp hw).elim (fun e => by subst e; exact ⟨h.1, gt_good h.1⟩) (fun hw => ⟨hw, gt_good hw⟩)
theorem map_set_cv (g : Gl) (fs : List Value) (k : Nat) (v : Value) : (fs.map (cv g)).set k (cv g v) = (fs.set k v).map (cv g) := List.map_set.symm
theorem vp1 {D : va_G} {q : Nat × va_E} {H : Heap} (h : va_at D vwCl q H) : va_P D vwCl [q] H := by
  intro k r hk
  have hz : k < 1 := (List.getElem?_eq_some_iff.mp hk).1
  rw [show k = 0 by omega] at hk
  cases hk
  exact h
theorem gty_at (g : Gl) {t : Nat} (ht : t < 3) : (gty g)[t]? = some (g.2.2.1 t, tyN t) := by
  match t, ht with
  | 0, _ => rfl
  | 1, _ => rfl
  | 2, _ => rfl
section AWH
variable {X : Cx} {cs ss pc k rc rs : Nat} {y : MethodName} {cc : ByteArray} {ls : List (Option Value)} {st : List Value} {h : AH} {K : Option Value → AH → Prop}
theorem AW_get (n' : Nat) (hX : CxOk X y cc k rc rs) {ix ci kf a : Nat} {fs : List Value} {v : Value} (hd : decode cc pc = .ok (.getfield ix, 3)) (hn : pc + 3 = n') (hl : FL y.cls ix ci kf) (ha : h a = some (.inl (ci, fs))) (hv : fs[kf]? = some v) (kk : AW X cs ss n' ls (v :: st) h) : AW X cs ss pc ls (.ref a :: st) h := by
  subst hn
  obtain ⟨p, l, e, R, s, m, args, below, meth, c, Q, g⟩ := X
  obtain ⟨hx, hb, hown, hts, hwe, hwf, ⟨hkf, hkl, hrc, hrs⟩, hnm⟩ := hX
  intro H locs la hw hS hla
  obtain ⟨ha1, ha2⟩ := wh_at hw ha
  have CL := CLs ci hl.1
  simp only [List.map_cons, cv_ref ha1]
  refine va_get (D := g.2.1) (ci := ci) (C := (cg ci).1) (T := (cg ci).2.1) (N := (cg ci).2.2) (v := cv g v) hx hb hts CL.2.1 hown hwe.1 (vp1 ha2) 0 rfl CL.1 kf hl.2.1 (hts _ hl.2.2) (fun _ h9 => h9) ?_ hd (kk H locs la hw hS hla)
  show (fs.map (cv g))[kf]? = _
  rw [List.getElem?_map, hv]
  rfl
theorem AW_put (n' : Nat) (hX : CxOk X y cc k rc rs) {ix ci kf a : Nat} {fs : List Value} {v : Value} (hd : decode cc pc = .ok (.putfield ix, 3)) (hn : pc + 3 = n') (hl : FL y.cls ix ci kf) (ha : h a = some (.inl (ci, fs))) (hfin : ((cg ci).2.1 kf).2.2.2 = false) (hnv : ∀ b, narrow (tg ci kf) (cv b v) = cv b v) (hfv : ∀ b, fits (tg ci kf) (cv b v) = true) (hlen : kf < fs.length) (kk : AW X cs ss n' ls st (hset h a (.inl (ci, fs.set kf v)))) : AW X cs ss pc ls (v :: .ref a :: st) h := by
  subst hn
  obtain ⟨p, l, e, R, s, m, args, below, meth, c, Q, g⟩ := X
  obtain ⟨hx, hb, hown, hts, hwe, hwf, ⟨hkf, hkl, hrc, hrs⟩, hnm⟩ := hX
  intro H locs la hw hS hla
  obtain ⟨ha1, ha2⟩ := wh_at hw ha
  have CL := CLs ci hl.1
  have hk := hl.2.1
  simp only [List.map_cons, cv_ref ha1]
  have hap := va_apart (D := g.2.1) (own := y.cls) hts CL.2.1 (tg ci) CL.2.2.1 CL.2.2.2 hwe.1 CL.1
  obtain ⟨r, h1, cell, q1, q2, q3, q4⟩ := ha2
  have hr : r = ((cg ci).1, (cg ci).2.1, (cg ci).2.2) := Option.some.inj (h1.symm.trans CL.1)
  subst hr
  obtain ⟨hSl, hfc, kC, hkC, hkind⟩ := hwe.1.1 ci _ CL.1
  obtain ⟨cf, kf', fi, f, hi, hsl⟩ := hSl kf hk
  have hlay := hts _ (CL.2.1 _ (u_in_lay hk))
  unfold u_lay at hlay
  rw [if_neg (by rw [hfin]; decide)] at hlay
  have hst := (u_facts hfc hkC (u_lays hts CL.2.1 hk) hi).1
  have h6 := u_store hfc hkC hkind hlay hi (CL.2.2.1 kf hk) (hnv g) (hfv g)
  refine W.putK hx hb (f := f) ⟨hown, hts _ hl.2.2, ⟨_, _, _, hi⟩, hst⟩ (by rw [q2]; exact h6) q1 q3 (by rw [hsl]; exact k2_hasslot (q4 kf hk)) rfl rfl hd fun H' e1 e2 e3 => ?_
  rw [hsl] at e1 ⊢
  refine kk H' _ la (wh_set hw ha e2 e3 ⟨_, CL.1, t_OB.to (V := updV (vp_V (fs.map (cv g))) kf (cv g v)) ⟨_, e1, q2, q3, t_set q4 hap hk _⟩ (fun j _ => ?_)⟩) (hS.put e2 e3 (Nat.le_add_right _ _)) hla
  rw [vp_updV_set (by rw [List.length_map]; exact hlen), map_set_cv]
theorem AW_putF (n' : Nat) (hX : CxOk X y cc k rc rs) {ix ci kf a : Nat} {fs : List Value} {v : Value} (hd : decode cc pc = .ok (.putfield ix, 3)) (hn : pc + 3 = n') (hl : FL y.cls ix ci kf) (ha : h a = some (.inl (ci, fs))) (hfin : ((cg ci).2.1 kf).2.2.2 = true) (hini : y.name = "<init>") (hdecl : ((cg ci).2.1 kf).1 = y.cls) (hnv : ∀ b, narrow (tg ci kf) (cv b v) = cv b v) (hfv : ∀ b, fits (tg ci kf) (cv b v) = true) (hlen : kf < fs.length) (kk : AW X cs ss n' ls st (hset h a (.inl (ci, fs.set kf v)))) : AW X cs ss pc ls (v :: .ref a :: st) h := by
  subst hn
  obtain ⟨p, l, e, R, s, m, args, below, meth, c, Q, g⟩ := X
  obtain ⟨hx, hb, hown, hts, hwe, hwf, ⟨hkf, hkl, hrc, hrs⟩, hnm⟩ := hX
  intro H locs la hw hS hla
  obtain ⟨ha1, ha2⟩ := wh_at hw ha
  have CL := CLs ci hl.1
  have hk := hl.2.1
  simp only [List.map_cons, cv_ref ha1]
  have hap := va_apart (D := g.2.1) (own := y.cls) hts CL.2.1 (tg ci) CL.2.2.1 CL.2.2.2 hwe.1 CL.1
  obtain ⟨r, h1, cell, q1, q2, q3, q4⟩ := ha2
  have hr : r = ((cg ci).1, (cg ci).2.1, (cg ci).2.2) := Option.some.inj (h1.symm.trans CL.1)
  subst hr
  obtain ⟨hSl, hfc, kC, hkC, hkind⟩ := hwe.1.1 ci _ CL.1
  obtain ⟨cf, kf', fi, f, hi, hsl⟩ := hSl kf hk
  have hlay := hts _ (CL.2.1 _ (u_in_lay hk))
  unfold u_lay at hlay
  rw [if_pos hfin] at hlay
  have hst := (u_facts hfc hkC (u_lays hts CL.2.1 hk) hi).1
  have hcf : m.cls = cf := by
    obtain ⟨_, _, c', _, _, _, -, -, hf', -, -, -, hown2, -⟩ := Cond.laysFinal_spec hlay
    have e1 : c' = cf := by have := hi.symm.trans hf'; simp at this; exact this.1.symm
    rw [hdecl] at hown2
    rw [← e1]; exact Option.some.inj (hown.symm.trans hown2)
  have h6 := u_fits hfc hkC hkind (Or.inr hlay) hi (CL.2.2.1 kf hk) (hnv g) (hfv g)
  refine W.putFinK hx hb hown (hts _ hl.2.2) hi hst hcf (hnm.trans hini) (by rw [q2]; exact h6) q1 q3 (by rw [hsl]; exact k2_hasslot (q4 kf hk)) rfl rfl hd fun H' e1 e2 e3 => ?_
  rw [hsl] at e1 ⊢
  refine kk H' _ la (wh_set hw ha e2 e3 ⟨_, CL.1, t_OB.to (V := updV (vp_V (fs.map (cv g))) kf (cv g v)) ⟨_, e1, q2, q3, t_set q4 hap hk _⟩ (fun j _ => ?_)⟩) (hS.put e2 e3 (Nat.le_add_right _ _)) hla
  rw [vp_updV_set (by rw [List.length_map]; exact hlen), map_set_cv]
theorem AW_iald (n' : Nat) (hX : CxOk X y cc k rc rs) {a n j : Nat} {f : Nat → Int32} {x : Int32} (hd : decode cc pc = .ok (.iaload, 1)) (hn : pc + 1 = n') (ha : h a = some (.inr (0, n, f))) (hj : j < n) (hi : x = nI j) (kk : AW X cs ss n' ls (.int (f j) :: st) h) (hN : n < 2 ^ 31 := by decide) : AW X cs ss pc ls (.int x :: .ref a :: st) h := by
  subst hn
  subst hi
  obtain ⟨p, l, e, R, s, m, args, below, meth, c, Q, g⟩ := X
  obtain ⟨hx, hb, hown, hts, hwe, hwf, ⟨hkf, hkl, hrc, hrs⟩, hnm⟩ := hX
  intro H locs la hw hS hla
  obtain ⟨ha1, ha2⟩ := wh_at hw ha
  simp only [List.map_cons, cv_ref ha1]
  have h1 := kk H locs la hw hS hla
  refine va_iald (D := g.2.1) hx hb hwe.1 (vp1 ha2) 0 0 rfl (gty_at g (by decide)) (vp_in_nI hj hN) hd ?_
  rw [nI_clamp (Nat.lt_trans hj hN)]
  exact h1
theorem AW_bald (n' : Nat) (hX : CxOk X y cc k rc rs) {a n j : Nat} {f : Nat → Int32} {x : Int32} (hd : decode cc pc = .ok (.baload, 1)) (hn : pc + 1 = n') (ha : h a = some (.inr (1, n, f))) (hj : j < n) (hi : x = nI j) (kk : AW X cs ss n' ls (.int (f j) :: st) h) (hN : n < 2 ^ 31 := by decide) : AW X cs ss pc ls (.int x :: .ref a :: st) h := by
  subst hn
  subst hi
  obtain ⟨p, l, e, R, s, m, args, below, meth, c, Q, g⟩ := X
  obtain ⟨hx, hb, hown, hts, hwe, hwf, ⟨hkf, hkl, hrc, hrs⟩, hnm⟩ := hX
  intro H locs la hw hS hla
  obtain ⟨ha1, ha2⟩ := wh_at hw ha
  simp only [List.map_cons, cv_ref ha1]
  have h1 := kk H locs la hw hS hla
  refine va_bald (D := g.2.1) hx hb hwe.1 (vp1 ha2) 0 1 rfl (gty_at g (by decide)) (vp_in_nI hj hN) hd ?_
  rw [nI_clamp (Nat.lt_trans hj hN)]
  exact h1
theorem AW_zald (n' : Nat) (hX : CxOk X y cc k rc rs) {a n j : Nat} {f : Nat → Int32} {x : Int32} (hd : decode cc pc = .ok (.baload, 1)) (hn : pc + 1 = n') (ha : h a = some (.inr (2, n, f))) (hj : j < n) (hi : x = nI j) (kk : AW X cs ss n' ls (.int (f j) :: st) h) (hN : n < 2 ^ 31 := by decide) : AW X cs ss pc ls (.int x :: .ref a :: st) h := by
  subst hn
  subst hi
  obtain ⟨p, l, e, R, s, m, args, below, meth, c, Q, g⟩ := X
  obtain ⟨hx, hb, hown, hts, hwe, hwf, ⟨hkf, hkl, hrc, hrs⟩, hnm⟩ := hX
  intro H locs la hw hS hla
  obtain ⟨ha1, ha2⟩ := wh_at hw ha
  simp only [List.map_cons, cv_ref ha1]
  have h1 := kk H locs la hw hS hla
  refine va_zald (D := g.2.1) hx hb hwe.1 (vp1 ha2) 0 2 rfl (gty_at g (by decide)) (vp_in_nI hj hN) hd ?_
  rw [nI_clamp (Nat.lt_trans hj hN)]
  exact h1
theorem AW_iast (n' : Nat) (hX : CxOk X y cc k rc rs) {a n j : Nat} {f : Nat → Int32} {x v : Int32} (hd : decode cc pc = .ok (.iastore, 1)) (hn : pc + 1 = n') (ha : h a = some (.inr (0, n, f))) (hj : j < n) (hi : x = nI j) (kk : AW X cs ss n' ls st (hset h a (.inr (0, n, upd f j (v))))) (hN : n < 2 ^ 31 := by decide) : AW X cs ss pc ls (.int v :: .int x :: .ref a :: st) h := by
  subst hn
  subst hi
  obtain ⟨p, l, e, R, s, m, args, below, meth, c, Q, g⟩ := X
  obtain ⟨hx, hb, hown, hts, hwe, hwf, ⟨hkf, hkl, hrc, hrs⟩, hnm⟩ := hX
  intro H locs la hw hS hla
  obtain ⟨ha1, ha2⟩ := wh_at hw ha
  simp only [List.map_cons, cv_ref ha1]
  have hcl : (nI j).toNatClampNeg = j := nI_clamp (Nat.lt_trans hj hN)
  refine W.iast hx hb ha2 ((hwe.1.2 0 _ (gty_at g (by decide))).1 n (fun j => .int (f j))) (fun q => by cases q) (by show ¬ (_ ∨ (arrV _ _ _).slots.size ≤ _); rw [arrV_size]; exact vp_in_nI hj hN) rfl rfl hd fun H1 e z oq => ?_
  rw [hcl] at e ⊢
  refine kk H1 _ la (wh_set hw ha z oq ?_) (hS.put z oq (Nat.le_add_right _ _)) hla
  show H1[_]? = some (vp_cell _ _)
  rw [e]
  show some (Cell.setSlot (vp_cell _ _) _ _) = _
  rw [vp_cell_i, vp_cell_i, arrV_store]
  congr 2
  funext q
  by_cases hq : q = j
  · subst hq
    simp [updV, upd]
    try rfl
  · simp [updV, upd, hq]
theorem AW_bast (n' : Nat) (hX : CxOk X y cc k rc rs) {a n j : Nat} {f : Nat → Int32} {x v : Int32} (hd : decode cc pc = .ok (.bastore, 1)) (hn : pc + 1 = n') (ha : h a = some (.inr (1, n, f))) (hj : j < n) (hi : x = nI j) (kk : AW X cs ss n' ls st (hset h a (.inr (1, n, upd f j (vp_nar .byte v))))) (hN : n < 2 ^ 31 := by decide) : AW X cs ss pc ls (.int v :: .int x :: .ref a :: st) h := by
  subst hn
  subst hi
  obtain ⟨p, l, e, R, s, m, args, below, meth, c, Q, g⟩ := X
  obtain ⟨hx, hb, hown, hts, hwe, hwf, ⟨hkf, hkl, hrc, hrs⟩, hnm⟩ := hX
  intro H locs la hw hS hla
  obtain ⟨ha1, ha2⟩ := wh_at hw ha
  simp only [List.map_cons, cv_ref ha1]
  have hcl : (nI j).toNatClampNeg = j := nI_clamp (Nat.lt_trans hj hN)
  refine W.bast hx hb ha2 ((hwe.1.2 1 _ (gty_at g (by decide))).1 n (fun j => .int (f j))) (fun q => by cases q) (by show ¬ (_ ∨ (arrV _ _ _).slots.size ≤ _); rw [arrV_size]; exact vp_in_nI hj hN) rfl rfl hd fun H1 e z oq => ?_
  rw [hcl] at e ⊢
  refine kk H1 _ la (wh_set hw ha z oq ?_) (hS.put z oq (Nat.le_add_right _ _)) hla
  show H1[_]? = some (vp_cell _ _)
  rw [e]
  show some (Cell.setSlot (vp_cell _ _) _ _) = _
  rw [vp_cell_i, vp_cell_i, arrV_store]
  congr 2
  funext q
  by_cases hq : q = j
  · subst hq
    simp [updV, upd, vp_nar]
    try rfl
  · simp [updV, upd, hq]
theorem AW_zast (n' : Nat) (hX : CxOk X y cc k rc rs) {a n j : Nat} {f : Nat → Int32} {x v : Int32} (hd : decode cc pc = .ok (.bastore, 1)) (hn : pc + 1 = n') (ha : h a = some (.inr (2, n, f))) (hj : j < n) (hi : x = nI j) (kk : AW X cs ss n' ls st (hset h a (.inr (2, n, upd f j (vp_nar .boolean v))))) (hN : n < 2 ^ 31 := by decide) : AW X cs ss pc ls (.int v :: .int x :: .ref a :: st) h := by
  subst hn
  subst hi
  obtain ⟨p, l, e, R, s, m, args, below, meth, c, Q, g⟩ := X
  obtain ⟨hx, hb, hown, hts, hwe, hwf, ⟨hkf, hkl, hrc, hrs⟩, hnm⟩ := hX
  intro H locs la hw hS hla
  obtain ⟨ha1, ha2⟩ := wh_at hw ha
  simp only [List.map_cons, cv_ref ha1]
  have hcl : (nI j).toNatClampNeg = j := nI_clamp (Nat.lt_trans hj hN)
  refine W.zast hx hb ha2 ((hwe.1.2 2 _ (gty_at g (by decide))).1 n (fun j => .int (f j))) (fun q => by cases q) (by show ¬ (_ ∨ (arrV _ _ _).slots.size ≤ _); rw [arrV_size]; exact vp_in_nI hj hN) rfl rfl hd fun H1 e z oq => ?_
  rw [hcl] at e ⊢
  refine kk H1 _ la (wh_set hw ha z oq ?_) (hS.put z oq (Nat.le_add_right _ _)) hla
  show H1[_]? = some (vp_cell _ _)
  rw [e]
  show some (Cell.setSlot (vp_cell _ _) _ _) = _
  rw [vp_cell_i, vp_cell_i, arrV_store]
  congr 2
  funext q
  by_cases hq : q = j
  · subst hq
    simp [updV, upd, vp_nar]
    try rfl
  · simp [updV, upd, hq]
theorem AW_iret (hX : CxOk X y cc k rc rs) {v : Int32} {ty : FieldType} (hE : Ex X (some ty) rc rs K) (hd : decode cc pc = .ok (.ireturn, 1)) (hn : narrow ty (.int v) = .int v) (hc : cs ≤ rc) (hs : ss ≤ rs) (hK : K (some (.int v)) h) : AW X cs ss pc ls [.int v] h := by
  obtain ⟨p, l, e, R, s, m, args, below, meth, c, Q, g⟩ := X
  obtain ⟨hx, hb, hown, hts, hwe, hwf, ⟨hkf, hkl, hrc, hrs⟩, hnm⟩ := hX
  obtain ⟨hr, hlk, rfl⟩ := hE
  intro H locs la hw hS hla
  refine W.widen hc hs ?_
  exact W.zret hx hb hr hn (fun t ht hW => ⟨⟨some (.int v), h, rfl, hK, we_warm hW hwe, wf_moved hW.alike (fun a h1 h2 => by rw [ht]; exact hS.2.1 a h1 h2) hwf, by rw [ht]; exact hw⟩, hS.F ht⟩) hS.2.2 hd hlk
theorem AW_lret (hX : CxOk X y cc k rc rs) {v : Int64} (hE : Ex X (some .long) rc rs K) (hd : decode cc pc = .ok (.lreturn, 1)) (hc : cs ≤ rc) (hs : ss ≤ rs) (hK : K (some (.long v)) h) : AW X cs ss pc ls [.long v] h := by
  obtain ⟨p, l, e, R, s, m, args, below, meth, c, Q, g⟩ := X
  obtain ⟨hx, hb, hown, hts, hwe, hwf, ⟨hkf, hkl, hrc, hrs⟩, hnm⟩ := hX
  obtain ⟨hr, hlk, rfl⟩ := hE
  intro H locs la hw hS hla
  refine W.widen hc hs ?_
  exact W.lret hx hb hr (fun t ht hW => ⟨⟨some (.long v), h, rfl, hK, we_warm hW hwe, wf_moved hW.alike (fun a h1 h2 => by rw [ht]; exact hS.2.1 a h1 h2) hwf, by rw [ht]; exact hw⟩, hS.F ht⟩) hS.2.2 hd hlk
theorem AW_vret (hX : CxOk X y cc k rc rs) (hE : Ex X none rc rs K) (hd : decode cc pc = .ok (.return_, 1)) (hc : cs ≤ rc) (hs : ss ≤ rs) (hK : K none h) : AW X cs ss pc ls [] h := by
  obtain ⟨p, l, e, R, s, m, args, below, meth, c, Q, g⟩ := X
  obtain ⟨hx, hb, hown, hts, hwe, hwf, ⟨hkf, hkl, hrc, hrs⟩, hnm⟩ := hX
  obtain ⟨hr, hlk, rfl⟩ := hE
  intro H locs la hw hS hla
  refine W.widen hc hs ?_
  exact W.vret hx hb hr (fun t ht hW => ⟨⟨none, h, rfl, hK, we_warm hW hwe, wf_moved hW.alike (fun a h1 h2 => by rw [ht]; exact hS.2.1 a h1 h2) hwf, by rw [ht]; exact hw⟩, hS.F ht⟩) hS.2.2 hd hlk
theorem AW_run {p : Program} {l : Launch} {e : Env} {R : Room} {s : State} {m : MethodId} {args : Array Value} {below : List Frame} {meth : Method} {c : Code} {Q : State → Prop} {g : Gl} {H : Heap} {locs : List Loc} {la : Array Slot} {mc ms : Nat} {st0 : List Value} {av : Array Value} {rest : List Value}
    (hr : va_Run p l e R s m args below meth c H locs cs ss mc ms (F0 m pc la st0) (rest.map (cv g)) (Qk g (fun r h' => AW (p, l, e, R, s, m, args, below, meth, c, Q, g) (cs + mc) (ss + ms) (pc + 3) ls (pushR r rest) h') av) (fun q => g.1 ≤ q)) (hS : va_S (fun q => g.1 ≤ q) s.heap H locs) (hla : lh g la c.maxLocals ls) : W p l e R s m args below meth c H locs cs ss Q (F0 m pc la st0) := by
  intro T hT Xs
  obtain ⟨v, st₀, t, T', L, h0, X', hL, e1, e2, ⟨⟨r, h', hv, hK, hwo⟩, hz, hkp⟩, stp⟩ := hr T hT Xs
  have hv' : v = r.map (cv g) := by injection hv
  subst hv'
  rw [h0] at hz hkp
  have hS' : va_S (fun q => g.1 ≤ q) s.heap T'.heap (locs ++ L) := ⟨Nat.le_trans hS.1 (by rw [e1]; exact hz), fun q h1 h2 => by rw [e1, hkp q (Nat.lt_of_lt_of_le h1 hS.1) h2]; exact hS.2.1 q h1 h2, fun q hq => by
    rcases List.mem_append.mp hq with h | h
    · exact hS.2.2 q h
    · exact hL q h⟩
  obtain ⟨t2, a1, b1⟩ := hK T'.heap (locs ++ L) la (by rw [e1]; exact hwo.2.2) hS' hla T' rfl X'
  refine ⟨t2, stp t2 ?_, b1⟩
  cases r <;> exact a1
theorem rest_cat {g : Gl} {m : MethodId} {la : Array Slot} {st0 rest : List Value} (hr : (rest.map fun v => v.category).sum ≤ 8) : 2 * (F0 m pc la st0).monitorRoom + ((rest.map (cv g)).map fun v => v.category).sum ≤ 8 := by
  refine lv_room ?_
  rw [List.map_map]
  have : ((fun v : Value => v.category) ∘ cv g) = fun v : Value => v.category := funext fun v => cv_cat g v
  rw [this]
  exact hr
theorem AW_callV (n' : Nat) (hX : CxOk X y cc k rc rs) {z : MethodName} {cz : ByteArray} {mz nz kz mc ms : Nat} {rz : Option FieldType} {ix b ci : Nat} {As rest : List Value} {fs : List Value} (hd : decode cc pc = .ok (.invokevirtual ix, 3)) (hn : pc + 3 = n') (hl : Cond.methodLink y.cls ix z ∈ gt) (mw : MV z cz mz rz nz) (hbb : h b = some (.inl (ci, fs))) (hci : ci < 7) (hc : (cg ci).1 = z.cls) (hA : As.length = nz) (hst : st = As.reverse ++ .ref b :: rest) (hr : (rest.map fun v => v.category).sum ≤ 8) (hk : kz < k) (hcc : cs + mc ≤ rc ∧ ss + ms ≤ rs) (hM : AM kz mc ms z cz mz rz (.ref b :: As) h (fun r h' => AW X (cs + mc) (ss + ms) n' ls (pushR r rest) h')) : AW X cs ss pc ls st h := by
  subst hn
  subst hst
  obtain ⟨p, l, e, R, s, m, args, below, meth, c, Q, g⟩ := X
  obtain ⟨hx, hb, hown, hts, hwe, hwf, ⟨hkf, hkl, hrc, hrs⟩, hnm⟩ := hX
  intro H locs la hw hS hla
  obtain ⟨ha1, ha2⟩ := wh_at hw hbb
  have CL := CLs ci hci
  obtain ⟨⟨m1, m2, m3, m4⟩, m5, m6⟩ := mw
  have hM' := hM l g
  rw [List.map_cons, cv_ref ha1] at hM'
  refine AW_run (mc := mc) (ms := ms) (rest := rest) (va_runV (As := As.map (cv g)) (b := g.1 + b) (nL := c.maxLocals) (C := z.cls) ⟨hx, hb, rfl, hown, hts⟩ hM' ⟨callB_of nz hts (good_gt (nz := nz) ⟨m1, m2, m3, m4⟩) rfl rfl rfl (hts _ m2) (hts _ hl) m3 ⟨by show kz + 1 ≤ _; omega, by show 8 + (mz + 11) + 37 * kz ≤ _; omega⟩, hts _ m5, hts _ m6⟩ ⟨wo_blind, ?_, fun U hU hW => ⟨rfl, we_warm hW hwe, wf_moved hW.alike (fun a h1 h2 => by rw [hU]; exact hS.2.1 a h1 h2) hwf, by rw [hU]; exact hw⟩⟩ rfl (by rw [List.length_map]; exact hA) hla.2.1 ?_ (rest_cat hr) hd ⟨by rw [hrc]; exact hcc.1, by rw [hrs]; exact hcc.2⟩) hS hla
  · have := va_recv (q0 := 0) hwe.1 (vp1 ha2) CL.1 rfl
    rw [← hc]
    exact this
  · simp only [List.map_append, List.map_reverse, List.map_cons, cv_ref ha1]
theorem AW_callI (n' : Nat) (hX : CxOk X y cc k rc rs) {z : MethodName} {cz : ByteArray} {mz nz kz mc ms : Nat} {ix b : Nat} {As rest : List Value} {cell : AC} (hd : decode cc pc = .ok (.invokespecial ix, 3)) (hn : pc + 3 = n') (hl : Cond.methodLink y.cls ix z ∈ gt) (mw : MI z cz mz nz) (hbb : h b = some cell) (hA : As.length = nz) (hst : st = As.reverse ++ .ref b :: rest) (hr : (rest.map fun v => v.category).sum ≤ 8) (hk : kz < k) (hcc : cs + mc ≤ rc ∧ ss + ms ≤ rs) (hM : AM kz mc ms z cz mz none (.ref b :: As) h (fun r h' => AW X (cs + mc) (ss + ms) n' ls (pushR r rest) h')) : AW X cs ss pc ls st h := by
  subst hn
  subst hst
  obtain ⟨p, l, e, R, s, m, args, below, meth, c, Q, g⟩ := X
  obtain ⟨hx, hb, hown, hts, hwe, hwf, ⟨hkf, hkl, hrc, hrs⟩, hnm⟩ := hX
  intro H locs la hw hS hla
  obtain ⟨ha1, ha2⟩ := wh_at hw hbb
  obtain ⟨⟨m1, m2, m3, m4⟩, m5, m6⟩ := mw
  have hM' := hM l g
  rw [List.map_cons, cv_ref ha1] at hM'
  refine AW_run (mc := mc) (ms := ms) (rest := rest) (va_runI (As := As.map (cv g)) (b := g.1 + b) (nL := c.maxLocals) ⟨hx, hb, rfl, hown, hts⟩ hM' ⟨callB_of nz hts (good_gt (nz := nz) ⟨m1, m2, m3, m4⟩) rfl rfl rfl (hts _ m2) (hts _ hl) m3 ⟨by show kz + 1 ≤ _; omega, by show 8 + (mz + 11) + 37 * kz ≤ _; omega⟩, m5, hts _ m6⟩ ⟨wo_blind, fun U hU hW => ⟨rfl, we_warm hW hwe, wf_moved hW.alike (fun a h1 h2 => by rw [hU]; exact hS.2.1 a h1 h2) hwf, by rw [hU]; exact hw⟩⟩ rfl (by rw [List.length_map]; exact hA) hla.2.1 ?_ (rest_cat hr) hd ⟨by rw [hrc]; exact hcc.1, by rw [hrs]; exact hcc.2⟩) hS hla
  simp only [List.map_append, List.map_reverse, List.map_cons, cv_ref ha1]
theorem AW_callIN (n' : Nat) (hX : CxOk X y cc k rc rs) {z : MethodName} {cz : ByteArray} {mz nz kz mc ms : Nat} {ix b : Nat} {host : String} {As rest : List Value} {cell : AC} (hd : decode cc pc = .ok (.invokespecial ix, 3)) (hn : pc + 3 = n') (hl : (y.cls, ix, z, host) ∈ nwT) (mw : MI z cz mz nz) (hbb : h b = some cell) (hA : As.length = nz) (hst : st = As.reverse ++ .ref b :: rest) (hr : (rest.map fun v => v.category).sum ≤ 8) (hk : kz < k) (hcc : cs + mc ≤ rc ∧ ss + ms ≤ rs) (hM : AM kz mc ms z cz mz none (.ref b :: As) h (fun r h' => AW X (cs + mc) (ss + ms) n' ls (pushR r rest) h')) : AW X cs ss pc ls st h := by
  subst hn
  subst hst
  obtain ⟨p, l, e, R, s, m, args, below, meth, c, Q, g⟩ := X
  obtain ⟨hx, hb, hown, hts, hwe, hwf, ⟨hkf, hkl, hrc, hrs⟩, hnm⟩ := hX
  intro H locs la hw hS hla
  obtain ⟨ha1, ha2⟩ := wh_at hw hbb
  obtain ⟨⟨m1, m2, m3, m4⟩, m5, m6⟩ := mw
  have hM' := hM l g
  rw [List.map_cons, cv_ref ha1] at hM'
  refine AW_run (mc := mc) (ms := ms) (rest := rest) (va_runIN (As := As.map (cv g)) (b := g.1 + b) (nL := c.maxLocals) (host := host) ⟨hx, hb, rfl, hown, hts⟩ hM' ⟨va_cnB nz hts (good_gt (nz := nz) ⟨m1, m2, m3, m4⟩) rfl rfl rfl (hwe.2.1 _ hl) (hts _ m2) m3 ⟨by show kz + 1 ≤ _; omega, by show 8 + (mz + 11) + 37 * kz ≤ _; omega⟩, m5, hts _ m6⟩ ⟨wo_blind, fun U hU hW => ⟨rfl, we_warm hW hwe, wf_moved hW.alike (fun a h1 h2 => by rw [hU]; exact hS.2.1 a h1 h2) hwf, by rw [hU]; exact hw⟩⟩ rfl (by rw [List.length_map]; exact hA) hla.2.1 ?_ (rest_cat hr) hd ⟨by rw [hrc]; exact hcc.1, by rw [hrs]; exact hcc.2⟩) hS hla
  simp only [List.map_append, List.map_reverse, List.map_cons, cv_ref ha1]
theorem AW_callS (n' : Nat) (hX : CxOk X y cc k rc rs) {z : MethodName} {cz : ByteArray} {mz nz kz mc ms : Nat} {rz : Option FieldType} {ix : Nat} {As rest : List Value} (hd : decode cc pc = .ok (.invokestatic ix, 3)) (hn : pc + 3 = n') (hl : Cond.methodLink y.cls ix z ∈ gt) (mw : MS z cz mz rz nz) (hA : As.length = nz) (hst : st = As.reverse ++ rest) (hr : (rest.map fun v => v.category).sum ≤ 8) (hk : kz < k) (hcc : cs + mc ≤ rc ∧ ss + ms ≤ rs) (hM : AM kz mc ms z cz mz rz As h (fun r h' => AW X (cs + mc) (ss + ms) n' ls (pushR r rest) h')) : AW X cs ss pc ls st h := by
  subst hn
  subst hst
  obtain ⟨p, l, e, R, s, m, args, below, meth, c, Q, g⟩ := X
  obtain ⟨hx, hb, hown, hts, hwe, hwf, ⟨hkf, hkl, hrc, hrs⟩, hnm⟩ := hX
  intro H locs la hw hS hla
  obtain ⟨⟨m1, m2, m3, m4⟩, m5⟩ := mw
  refine AW_run (mc := mc) (ms := ms) (rest := rest) (va_runS (As := As.map (cv g)) (nL := c.maxLocals) ⟨hx, hb, rfl, hown, hts⟩ (hM l g) ⟨callB_of nz hts (good_gt (nz := nz) ⟨m1, m2, m3, m4⟩) rfl rfl rfl (hts _ m2) (hts _ hl) m3 ⟨by show kz + 1 ≤ _; omega, by show 8 + (mz + 11) + 37 * kz ≤ _; omega⟩, hts _ m5⟩ ⟨wo_blind, fun U hU hW => ⟨rfl, we_warm hW hwe, wf_moved hW.alike (fun a h1 h2 => by rw [hU]; exact hS.2.1 a h1 h2) hwf, by rw [hU]; exact hw⟩⟩ rfl (by rw [List.length_map]; exact hA) hla.2.1 ?_ (rest_cat hr) hd ⟨by rw [hrc]; exact hcc.1, by rw [hrs]; exact hcc.2⟩) hS hla
  simp only [List.map_append, List.map_reverse]
theorem AW_callSN (n' : Nat) (hX : CxOk X y cc k rc rs) {z : MethodName} {cz : ByteArray} {mz nz kz mc ms : Nat} {rz : Option FieldType} {ix : Nat} {host : String} {As rest : List Value} (hd : decode cc pc = .ok (.invokestatic ix, 3)) (hn : pc + 3 = n') (hl : (y.cls, ix, z, host) ∈ nwT) (mw : MS z cz mz rz nz) (hA : As.length = nz) (hst : st = As.reverse ++ rest) (hr : (rest.map fun v => v.category).sum ≤ 8) (hk : kz < k) (hcc : cs + mc ≤ rc ∧ ss + ms ≤ rs) (hM : AM kz mc ms z cz mz rz As h (fun r h' => AW X (cs + mc) (ss + ms) n' ls (pushR r rest) h')) : AW X cs ss pc ls st h := by
  subst hn
  subst hst
  obtain ⟨p, l, e, R, s, m, args, below, meth, c, Q, g⟩ := X
  obtain ⟨hx, hb, hown, hts, hwe, hwf, ⟨hkf, hkl, hrc, hrs⟩, hnm⟩ := hX
  intro H locs la hw hS hla
  obtain ⟨⟨m1, m2, m3, m4⟩, m5⟩ := mw
  refine AW_run (mc := mc) (ms := ms) (rest := rest) (va_runSN (As := As.map (cv g)) (nL := c.maxLocals) (host := host) ⟨hx, hb, rfl, hown, hts⟩ (hM l g) ⟨va_cnB nz hts (good_gt (nz := nz) ⟨m1, m2, m3, m4⟩) rfl rfl rfl (hwe.2.1 _ hl) (hts _ m2) m3 ⟨by show kz + 1 ≤ _; omega, by show 8 + (mz + 11) + 37 * kz ≤ _; omega⟩, hts _ m5, trivial⟩ ⟨wo_blind, fun U hU hW => ⟨rfl, we_warm hW hwe, wf_moved hW.alike (fun a h1 h2 => by rw [hU]; exact hS.2.1 a h1 h2) hwf, by rw [hU]; exact hw⟩⟩ rfl (by rw [List.length_map]; exact hA) hla.2.1 ?_ (rest_cat hr) hd ⟨by rw [hrc]; exact hcc.1, by rw [hrs]; exact hcc.2⟩) hS hla
  simp only [List.map_append, List.map_reverse]
theorem AW_callT (n' : Nat) (hX : CxOk X y cc k rc rs) {z : MethodName} {cz : ByteArray} {mz nz kz : Nat} {rz : Option FieldType} {ix : Nat} {As rest : List Value} (hd : decode cc pc = .ok (.invokevirtual ix, 3)) (hn : pc + 3 = n') (hl : Cond.methodLink y.cls ix z ∈ gt) (mw : MV z cz mz rz nz) (hc : z.cls = "java/lang/String") (hA : As.length = nz) (hst : st = As.reverse ++ .ref 1001 :: rest) (hr : (rest.map fun v => v.category).sum ≤ 8) (hk : kz < k) (hcc : cs ≤ rc ∧ ss ≤ rs) (hM : AM kz 0 0 z cz mz rz (.ref 1001 :: As) h (fun r h' => AW X cs ss n' ls (pushR r rest) h')) : AW X cs ss pc ls st h := by
  subst hn
  subst hst
  obtain ⟨p, l, e, R, s, m, args, below, meth, c, Q, g⟩ := X
  obtain ⟨hx, hb, hown, hts, hwe, hwf, ⟨hkf, hkl, hrc, hrs⟩, hnm⟩ := hX
  intro H locs la hw hS hla
  obtain ⟨⟨m1, m2, m3, m4⟩, m5, m6⟩ := mw
  refine AW_run (mc := 0) (ms := 0) (rest := rest) (va_runV (As := As.map (cv g)) (b := g.2.2.2.1) (nL := c.maxLocals) (C := z.cls) ⟨hx, hb, rfl, hown, hts⟩ (hM l g) ⟨callB_of nz hts (good_gt (nz := nz) ⟨m1, m2, m3, m4⟩) rfl rfl rfl (hts _ m2) (hts _ hl) m3 ⟨by show kz + 1 ≤ _; omega, by show 8 + (mz + 11) + 37 * kz ≤ _; omega⟩, hts _ m5, hts _ m6⟩ ⟨wo_blind, ?_, fun U hU hW => ⟨rfl, we_warm hW hwe, wf_moved hW.alike (fun a h1 h2 => by rw [hU]; exact hS.2.1 a h1 h2) hwf, by rw [hU]; exact hw⟩⟩ rfl (by rw [List.length_map]; exact hA) hla.2.1 ?_ (rest_cat hr) hd ⟨by rw [hrc]; exact hcc.1, by rw [hrs]; exact hcc.2⟩) hS hla
  · rw [hc]
    exact vk_recv hwf.1 (i := 0) (by decide) hS
  · simp only [List.map_append, List.map_reverse, List.map_cons, cv_str]
theorem AW_ldcS (n' : Nat) (hX : CxOk X y cc k rc rs) (hd : decode cc pc = .ok (.ldc 9, 2)) (hn : pc + 2 = n') (hy : y.cls = "StiltYard$Kind") (kk : AW X cs ss n' ls (.ref 1001 :: st) h) : AW X cs ss pc ls st h := by
  subst hn
  obtain ⟨p, l, e, R, s, m, args, below, meth, c, Q, g⟩ := X
  obtain ⟨hx, hb, hown, hts, hwe, hwf, ⟨hkf, hkl, hrc, hrs⟩, hnm⟩ := hX
  intro H locs la hw hS hla
  rw [hy] at hown
  exact va_ldcS hx hb hown hwe.2.2 hd (kk H locs la hw hS hla)
theorem AW_coder (n' : Nat) (hX : CxOk X y cc k rc rs) {ix : Nat} (hd : decode cc pc = .ok (.getfield ix, 3)) (hn : pc + 3 = n') (hl : Cond.fieldLink y.cls ix "java/lang/String" "coder" "B" ∈ gt) (kk : AW X cs ss n' ls (.int 0 :: st) h) : AW X cs ss pc ls (.ref 1001 :: st) h := by
  subst hn
  obtain ⟨p, l, e, R, s, m, args, below, meth, c, Q, g⟩ := X
  obtain ⟨hx, hb, hown, hts, hwe, hwf, ⟨hkf, hkl, hrc, hrs⟩, hnm⟩ := hX
  intro H locs la hw hS hla
  exact vk_getf hx hb ((hwf.1.1 0 (by decide)).2.1) hS hown (hts _ hl) (fun _ h9 => h9) hd (kk H locs la hw hS hla)
theorem AW_value (n' : Nat) (hX : CxOk X y cc k rc rs) {ix : Nat} (hd : decode cc pc = .ok (.getfield ix, 3)) (hn : pc + 3 = n') (hl : Cond.fieldLink y.cls ix "java/lang/String" "value" "[B" ∈ gt) (kk : AW X cs ss n' ls (.ref 1002 :: st) h) : AW X cs ss pc ls (.ref 1001 :: st) h := by
  subst hn
  obtain ⟨p, l, e, R, s, m, args, below, meth, c, Q, g⟩ := X
  obtain ⟨hx, hb, hown, hts, hwe, hwf, ⟨hkf, hkl, hrc, hrs⟩, hnm⟩ := hX
  intro H locs la hw hS hla
  exact vk_getf hx hb ((hwf.1.1 0 (by decide)).2.2.1) hS hown (hts _ hl) (fun _ h9 => h9) hd (kk H locs la hw hS hla)
theorem AW_compact (n' : Nat) (hX : CxOk X y cc k rc rs) {ix : Nat} (hd : decode cc pc = .ok (.getstatic ix, 3)) (hn : pc + 3 = n') (hl : Cond.fieldLink y.cls ix "java/lang/String" "COMPACT_STRINGS" "Z" ∈ gt) (kk : AW X cs ss n' ls (.int 1 :: st) h) : AW X cs ss pc ls st h := by
  subst hn
  obtain ⟨p, l, e, R, s, m, args, below, meth, c, Q, g⟩ := X
  obtain ⟨hx, hb, hown, hts, hwe, hwf, ⟨hkf, hkl, hrc, hrs⟩, hnm⟩ := hX
  intro H locs la hw hS hla
  exact va_gets hx hb hwf.2 hS hown (hts _ hl) (fun _ h9 => h9) hd (kk H locs la hw hS hla)
theorem AW_textAt (n' : Nat) (hX : CxOk X y cc k rc rs) {x : Int32} {j : Nat} (hd : decode cc pc = .ok (.baload, 1)) (hn : pc + 1 = n') (hj : j < 5) (hi : x = nI j) (kk : AW X cs ss n' ls (.int (([112, 108, 103, 98, 111] : List Int32).getD j 0) :: st) h) : AW X cs ss pc ls (.int x :: .ref 1002 :: st) h := by
  subst hn
  subst hi
  obtain ⟨p, l, e, R, s, m, args, below, meth, c, Q, g⟩ := X
  obtain ⟨hx, hb, hown, hts, hwe, hwf, ⟨hkf, hkl, hrc, hrs⟩, hnm⟩ := hX
  intro H locs la hw hS hla
  refine va_tb hx hb ((hwf.1.1 0 (by decide)).2.2.2) hS (vp_in_nI hj (by decide)) (v := .int (([112, 108, 103, 98, 111] : List Int32).getD j 0)) ?_ hd (kk H locs la hw hS hla)
  rw [nI_clamp (by omega)]
  rfl
theorem AW_textLen (n' : Nat) (hX : CxOk X y cc k rc rs) (hd : decode cc pc = .ok (.arraylength, 1)) (hn : pc + 1 = n') (kk : AW X cs ss n' ls (.int 5 :: st) h) : AW X cs ss pc ls (.ref 1002 :: st) h := by
  subst hn
  obtain ⟨p, l, e, R, s, m, args, below, meth, c, Q, g⟩ := X
  obtain ⟨hx, hb, hown, hts, hwe, hwf, ⟨hkf, hkl, hrc, hrs⟩, hnm⟩ := hX
  intro H locs la hw hS hla
  exact va_tlen hx hb ((hwf.1.1 0 (by decide)).2.2.2) hS (v := 5) (by decide) hd (kk H locs la hw hS hla)
theorem AW_new (n' : Nat) (hX : CxOk X y cc k rc rs) {ix ci n : Nat} (fs : List Value) (hd : decode cc pc = .ok (.new ix, 3)) (hn : pc + 3 = n') (hci : ci < 7) (hcl : Cond.classLink y.cls ix (cg ci).1 ∈ gt) (hins : Cond.instantiable (cg ci).1 (cg ci).2.2 ∈ gt) (hini : Cond.initialized (cg ci).1 ∈ gt) (hz : hsz h n) (hn1 : n < 1000) (hfs : ∀ j, j < (cg ci).2.2 → defaultValue (tg ci j) = vp_V fs j) (hcv : ∀ b, fs.map (cv b) = fs) (hc : cs + 1 ≤ rc) (hs : ss + (cg ci).2.2 ≤ rs) (kk : AW X (cs + 1) (ss + (cg ci).2.2) n' ls (.ref n :: st) (hset h n (.inl (ci, fs)))) : AW X cs ss pc ls st h := by
  subst hn
  obtain ⟨p, l, e, R, s, m, args, below, meth, c, Q, g⟩ := X
  obtain ⟨hx, hb, hown, hts, hwe, hwf, ⟨hkf, hkl, hrc, hrs⟩, hnm⟩ := hX
  intro H locs la hw hS hla
  have CL := CLs ci hci
  have hKn := hwe.1.1 ci _ CL.1
  have hsz := wh_size hw hz
  refine W.newcK hx hb hown (hts _ hcl) (hts _ hins) (hts _ hini) rfl hd (by rw [hrc]; exact hc) (by rw [hrs]; exact hs) hKn.2.1 rfl fun H1 kC hkC e1 z1 o1 => ?_
  have h1 := kk H1 locs la (wh_push hw hz hn1 z1 o1 (c := .inl (ci, fs)) ⟨_, CL.1, ?_⟩) ⟨Nat.le_trans hS.1 (by omega), fun x h1 h2 => (o1 x (Nat.lt_of_lt_of_le h1 hS.1)).trans (hS.2.1 x h1 h2), hS.2.2⟩ hla
  · simp only [List.map_cons, cv_ref hn1] at h1
    rw [← hsz] at h1
    exact h1
  · show t_OB (g.1 + n) _ _ _ _ (vp_V (fs.map (cv g)))
    rw [hcv, ← hsz]
    exact (u_born (tg ci) hts CL.2.1 hKn hkC e1 CL.2.2.1).to hfs
theorem AW_newa (n' : Nat) (hX : CxOk X y cc k rc rs) {n N t : Nat} {x : Int32} {aty : ArrayType} (hd : decode cc pc = .ok (.newarray aty, 2)) (hn : pc + 2 = n') (ht : t < 3) (hty : newarray.typeOf aty = tyN t) (harr : Cond.arrayClass (tyN t) ∈ gt) (hz : hsz h n) (hn1 : n < 1000) (hN : N ≤ 1000) (hx0 : x = nI N) (hc : cs + 1 ≤ rc) (hs : ss + N ≤ rs) (kk : AW X (cs + 1) (ss + N) n' ls (.ref n :: st) (hset h n (.inr (t, N, fun _ => 0)))) : AW X cs ss pc ls (.int x :: st) h := by
  subst hn
  subst hx0
  obtain ⟨p, l, e, R, s, m, args, below, meth, c, Q, g⟩ := X
  obtain ⟨hx, hb, hown, hts, hwe, hwf, ⟨hkf, hkl, hrc, hrs⟩, hnm⟩ := hX
  intro H locs la hw hS hla
  have hsz := wh_size hw hz
  have hcl : (nI N).toNatClampNeg = N := nI_clamp (by omega)
  refine va_newaK hx hb (by rw [hty]; exact hts _ harr) rfl hd rfl (nI_pos (by omega)) hcl (by rw [hty]; match t, ht with | 0, _ => (show N * 4 ≤ _; omega) | 1, _ => (show N * 1 ≤ _; omega) | 2, _ => (show N * 1 ≤ _; omega)) (by rw [hrc]; exact hc) (by rw [hrs]; exact hs) rfl fun H1 cA e1 z1 o1 hAr hNm => ?_
  have hcA : cA = g.2.2.1 t := by
    have h2 := (hwe.1.2 t _ (gty_at g ht)).2
    rw [hty] at hNm
    match t, ht, h2, hNm with
    | 0, _, h2, hNm => exact Option.some.inj (hNm.symm.trans h2)
    | 1, _, h2, hNm => exact Option.some.inj (hNm.symm.trans h2)
    | 2, _, h2, hNm => exact Option.some.inj (hNm.symm.trans h2)
  have h1 := kk H1 locs la (wh_push hw hz hn1 z1 o1 (c := .inr (t, N, fun _ => 0)) ?_) ⟨Nat.le_trans hS.1 (by omega), fun x h1 h2 => (o1 x (Nat.lt_of_lt_of_le h1 hS.1)).trans (hS.2.1 x h1 h2), hS.2.2⟩ hla
  · simp only [List.map_cons, cv_ref hn1] at h1
    rw [← hsz] at h1
    exact h1
  · show H1[g.1 + n]? = some (vp_cell (g.2.2.1 t) (N, .inl fun _ => 0))
    rw [← hsz, e1, ← hcA, hty]
    match t, ht with
    | 0, _ => rfl
    | 1, _ => rfl
    | 2, _ => rfl
theorem AW_objInit (n' : Nat) (hX : CxOk X y cc k rc rs) {ix a : Nat} {rest : List Value} (hd : decode cc pc = .ok (.invokespecial ix, 3)) (hn : pc + 3 = n') (hl : Cond.methodLink y.cls ix objectInit ∈ gt) (hl2 : Cond.instanceMethod objectInit ∈ gt) (hl3 : Cond.code objectInit ⟨#[0xb1]⟩ 1 none ∈ gt) (hr : (rest.map fun v => v.category).sum ≤ 8) (hk : 1 ≤ k) (kk : AW X cs ss n' ls rest h) : AW X cs ss pc ls (.ref a :: rest) h := by
  subst hn
  obtain ⟨p, l, e, R, s, m, args, below, meth, c, Q, g⟩ := X
  obtain ⟨hx, hb, hown, hts, hwe, hwf, ⟨hkf, hkl, hrc, hrs⟩, hnm⟩ := hX
  intro H locs la hw hS hla
  have h0 := rest_cat (pc := pc) (g := g) (m := m) (la := la) (st0 := []) hr
  refine W.objInit hx hb hown (hts _ hl) (hts _ hl2) (hts _ hl3) rfl hla.2.1 rfl hd (by omega) ?_ (kk H locs la hw hS hla)
  show 2 * 0 + _ + 12 ≤ _
  have : ((rest.map (cv g)).map fun v => v.category).sum ≤ 8 := by
    have h1 : 2 * 0 + ((rest.map (cv g)).map fun v => v.category).sum ≤ 8 := h0
    omega
  omega
theorem AW_tab (t' : Nat) (hX : CxOk X y cc k rc rs) {dflt lo hi off : Int} {offs : Array Int} {len : Nat} {x : Int32} (hd : decode cc pc = .ok (.tableswitch dflt lo hi offs, len)) (h1 : ¬ x.toInt < lo) (h2 : ¬ hi < x.toInt) (ho : offs[(x.toInt - lo).toNat]? = some off) (ht : (pc : Int) + off = (t' : Int)) (kk : AW X cs ss t' ls st h) : AW X cs ss pc ls (.int x :: st) h := by
  obtain ⟨p, l, e, R, s, m, args, below, meth, c, Q, g⟩ := X
  obtain ⟨hx, hb, hown, hts, hwe, hwf, ⟨hkf, hkl, hrc, hrs⟩, hnm⟩ := hX
  intro H locs la hw hS hla
  exact lv_tableIn hx hb hd h1 h2 ho ht (kk H locs la hw hS hla)
theorem AW_tabO (t' : Nat) (hX : CxOk X y cc k rc rs) {dflt lo hi : Int} {offs : Array Int} {len : Nat} {x : Int32} (hd : decode cc pc = .ok (.tableswitch dflt lo hi offs, len)) (h1 : x.toInt < lo ∨ hi < x.toInt) (ht : (pc : Int) + dflt = (t' : Int)) (kk : AW X cs ss t' ls st h) : AW X cs ss pc ls (.int x :: st) h := by
  obtain ⟨p, l, e, R, s, m, args, below, meth, c, Q, g⟩ := X
  obtain ⟨hx, hb, hown, hts, hwe, hwf, ⟨hkf, hkl, hrc, hrs⟩, hnm⟩ := hX
  intro H locs la hw hS hla
  exact lv_tableOut hx hb hd h1 ht (kk H locs la hw hS hla)
theorem AW_look (t' : Nat) (hX : CxOk X y cc k rc rs) {dflt off : Int} {ps : Array (Int × Int)} {len : Nat} {x : Int32} (hd : decode cc pc = .ok (.lookupswitch dflt ps, len)) (hp : (ps.toList.zip (ps.toList.drop 1)).all (fun (a, next) => a.1 < next.1) = true) (ho : Op.lookupswitch.offset ps.toList dflt x.toInt = off) (ht : (pc : Int) + off = (t' : Int)) (kk : AW X cs ss t' ls st h) : AW X cs ss pc ls (.int x :: st) h := by
  obtain ⟨p, l, e, R, s, m, args, below, meth, c, Q, g⟩ := X
  obtain ⟨hx, hb, hown, hts, hwe, hwf, ⟨hkf, hkl, hrc, hrs⟩, hnm⟩ := hX
  intro H locs la hw hS hla
  exact lv_lookup hx hb hd hp ho ht (kk H locs la hw hS hla)
end AWH
end
section
theorem fl_X6_10 : FL RX6 10 5 0 := ⟨by decide, by decide, gt_at 164 (by decide +kernel) rfl⟩
theorem fl_X6_19 : FL RX6 19 5 1 := ⟨by decide, by decide, gt_at 165 (by decide +kernel) rfl⟩
theorem fl_X6_23 : FL RX6 23 5 2 := ⟨by decide, by decide, gt_at 166 (by decide +kernel) rfl⟩
theorem fl_X6_26 : FL RX6 26 5 3 := ⟨by decide, by decide, gt_at 167 (by decide +kernel) rfl⟩
theorem fl_X6_32 : FL RX6 32 5 4 := ⟨by decide, by decide, gt_at 168 (by decide +kernel) rfl⟩
theorem fl_X6_39 : FL RX6 39 5 5 := ⟨by decide, by decide, gt_at 169 (by decide +kernel) rfl⟩
theorem fl_X6_43 : FL RX6 43 5 6 := ⟨by decide, by decide, gt_at 170 (by decide +kernel) rfl⟩
theorem fl_X6_47 : FL RX6 47 5 7 := ⟨by decide, by decide, gt_at 171 (by decide +kernel) rfl⟩
theorem fl_X6_51 : FL RX6 51 5 8 := ⟨by decide, by decide, gt_at 172 (by decide +kernel) rfl⟩
theorem fl_X6_54 : FL RX6 54 5 9 := ⟨by decide, by decide, gt_at 173 (by decide +kernel) rfl⟩
theorem fl_X6_57 : FL RX6 57 5 10 := ⟨by decide, by decide, gt_at 174 (by decide +kernel) rfl⟩
theorem fl_X6_82 : FL RX6 82 4 0 := ⟨by decide, by decide, gt_at 109 (by decide +kernel) rfl⟩
theorem fl_X6_100 : FL RX6 100 4 1 := ⟨by decide, by decide, gt_at 111 (by decide +kernel) rfl⟩
theorem fl_X6_136 : FL RX6 136 4 3 := ⟨by decide, by decide, gt_at 115 (by decide +kernel) rfl⟩
theorem fl_X6_142 : FL RX6 142 4 2 := ⟨by decide, by decide, gt_at 113 (by decide +kernel) rfl⟩
theorem fl_X6_145 : FL RX6 145 4 4 := ⟨by decide, by decide, gt_at 117 (by decide +kernel) rfl⟩
theorem fl_X6_177 : FL RX6 177 4 6 := ⟨by decide, by decide, gt_at 121 (by decide +kernel) rfl⟩
theorem fl_X6_180 : FL RX6 180 4 5 := ⟨by decide, by decide, gt_at 119 (by decide +kernel) rfl⟩
theorem fl_X0_9 : FL RX0 9 0 0 := ⟨by decide, by decide, gt_at 78 (by decide +kernel) rfl⟩
theorem fl_X0_15 : FL RX0 15 0 1 := ⟨by decide, by decide, gt_at 79 (by decide +kernel) rfl⟩
theorem fl_X1_11 : FL RX1 11 1 0 := ⟨by decide, by decide, gt_at 91 (by decide +kernel) rfl⟩
theorem fl_X1_15 : FL RX1 15 1 1 := ⟨by decide, by decide, gt_at 92 (by decide +kernel) rfl⟩
theorem fl_X1_18 : FL RX1 18 1 2 := ⟨by decide, by decide, gt_at 93 (by decide +kernel) rfl⟩
theorem fl_X1_21 : FL RX1 21 1 3 := ⟨by decide, by decide, gt_at 94 (by decide +kernel) rfl⟩
theorem fl_X1_25 : FL RX1 25 1 4 := ⟨by decide, by decide, gt_at 95 (by decide +kernel) rfl⟩
theorem fl_X3_11 : FL RX3 11 2 0 := ⟨by decide, by decide, gt_at 58 (by decide +kernel) rfl⟩
theorem fl_X3_15 : FL RX3 15 2 1 := ⟨by decide, by decide, gt_at 59 (by decide +kernel) rfl⟩
theorem fl_X4_11 : FL RX4 11 3 0 := ⟨by decide, by decide, gt_at 145 (by decide +kernel) rfl⟩
theorem fl_X4_15 : FL RX4 15 3 1 := ⟨by decide, by decide, gt_at 146 (by decide +kernel) rfl⟩
theorem fl_X4_18 : FL RX4 18 3 2 := ⟨by decide, by decide, gt_at 147 (by decide +kernel) rfl⟩
theorem fl_X4_21 : FL RX4 21 3 3 := ⟨by decide, by decide, gt_at 148 (by decide +kernel) rfl⟩
theorem fl_X4_24 : FL RX4 24 3 4 := ⟨by decide, by decide, gt_at 149 (by decide +kernel) rfl⟩
theorem fl_X4_28 : FL RX4 28 3 5 := ⟨by decide, by decide, gt_at 150 (by decide +kernel) rfl⟩
theorem fl_X5_10 : FL RX5 10 4 0 := ⟨by decide, by decide, gt_at 108 (by decide +kernel) rfl⟩
theorem fl_X5_19 : FL RX5 19 4 1 := ⟨by decide, by decide, gt_at 110 (by decide +kernel) rfl⟩
theorem fl_X5_23 : FL RX5 23 4 2 := ⟨by decide, by decide, gt_at 112 (by decide +kernel) rfl⟩
theorem fl_X5_27 : FL RX5 27 4 3 := ⟨by decide, by decide, gt_at 114 (by decide +kernel) rfl⟩
theorem fl_X5_30 : FL RX5 30 4 4 := ⟨by decide, by decide, gt_at 116 (by decide +kernel) rfl⟩
theorem fl_X5_33 : FL RX5 33 4 5 := ⟨by decide, by decide, gt_at 118 (by decide +kernel) rfl⟩
theorem fl_X5_36 : FL RX5 36 4 6 := ⟨by decide, by decide, gt_at 120 (by decide +kernel) rfl⟩
theorem fl_X7_7 : FL RX7 7 6 2 := ⟨by decide, by decide, gt_at 596 (by decide +kernel) rfl⟩
theorem fl_X7_13 : FL RX7 13 6 9 := ⟨by decide, by decide, gt_at 603 (by decide +kernel) rfl⟩
theorem fl_X7_16 : FL RX7 16 6 10 := ⟨by decide, by decide, gt_at 604 (by decide +kernel) rfl⟩
theorem fl_X7_19 : FL RX7 19 6 11 := ⟨by decide, by decide, gt_at 605 (by decide +kernel) rfl⟩
theorem fl_X7_22 : FL RX7 22 6 12 := ⟨by decide, by decide, gt_at 606 (by decide +kernel) rfl⟩
theorem fl_X7_25 : FL RX7 25 6 15 := ⟨by decide, by decide, gt_at 609 (by decide +kernel) rfl⟩
theorem fl_X7_29 : FL RX7 29 6 18 := ⟨by decide, by decide, gt_at 612 (by decide +kernel) rfl⟩
theorem fl_X7_32 : FL RX7 32 6 28 := ⟨by decide, by decide, gt_at 622 (by decide +kernel) rfl⟩
theorem fl_X7_35 : FL RX7 35 6 29 := ⟨by decide, by decide, gt_at 623 (by decide +kernel) rfl⟩
theorem fl_X7_38 : FL RX7 38 6 30 := ⟨by decide, by decide, gt_at 624 (by decide +kernel) rfl⟩
theorem fl_X7_41 : FL RX7 41 6 31 := ⟨by decide, by decide, gt_at 625 (by decide +kernel) rfl⟩
theorem fl_X7_44 : FL RX7 44 6 32 := ⟨by decide, by decide, gt_at 626 (by decide +kernel) rfl⟩
theorem fl_X7_51 : FL RX7 51 6 14 := ⟨by decide, by decide, gt_at 608 (by decide +kernel) rfl⟩
theorem fl_X7_55 : FL RX7 55 6 16 := ⟨by decide, by decide, gt_at 610 (by decide +kernel) rfl⟩
theorem fl_X7_66 : FL RX7 66 6 17 := ⟨by decide, by decide, gt_at 611 (by decide +kernel) rfl⟩
theorem fl_X7_73 : FL RX7 73 6 1 := ⟨by decide, by decide, gt_at 595 (by decide +kernel) rfl⟩
theorem fl_X7_76 : FL RX7 76 6 3 := ⟨by decide, by decide, gt_at 597 (by decide +kernel) rfl⟩
theorem fl_X7_79 : FL RX7 79 6 0 := ⟨by decide, by decide, gt_at 594 (by decide +kernel) rfl⟩
theorem fl_X7_82 : FL RX7 82 6 4 := ⟨by decide, by decide, gt_at 598 (by decide +kernel) rfl⟩
theorem fl_X7_85 : FL RX7 85 6 5 := ⟨by decide, by decide, gt_at 599 (by decide +kernel) rfl⟩
theorem fl_X7_88 : FL RX7 88 6 6 := ⟨by decide, by decide, gt_at 600 (by decide +kernel) rfl⟩
theorem fl_X7_91 : FL RX7 91 6 7 := ⟨by decide, by decide, gt_at 601 (by decide +kernel) rfl⟩
theorem fl_X7_94 : FL RX7 94 6 8 := ⟨by decide, by decide, gt_at 602 (by decide +kernel) rfl⟩
theorem fl_X7_130 : FL RX7 130 6 13 := ⟨by decide, by decide, gt_at 607 (by decide +kernel) rfl⟩
theorem fl_X7_154 : FL RX7 154 6 19 := ⟨by decide, by decide, gt_at 613 (by decide +kernel) rfl⟩
theorem fl_X7_170 : FL RX7 170 6 20 := ⟨by decide, by decide, gt_at 614 (by decide +kernel) rfl⟩
theorem fl_X7_173 : FL RX7 173 6 21 := ⟨by decide, by decide, gt_at 615 (by decide +kernel) rfl⟩
theorem fl_X7_176 : FL RX7 176 6 22 := ⟨by decide, by decide, gt_at 616 (by decide +kernel) rfl⟩
theorem fl_X7_179 : FL RX7 179 6 23 := ⟨by decide, by decide, gt_at 617 (by decide +kernel) rfl⟩
theorem fl_X7_182 : FL RX7 182 6 24 := ⟨by decide, by decide, gt_at 618 (by decide +kernel) rfl⟩
theorem fl_X7_185 : FL RX7 185 6 25 := ⟨by decide, by decide, gt_at 619 (by decide +kernel) rfl⟩
theorem fl_X7_188 : FL RX7 188 6 26 := ⟨by decide, by decide, gt_at 620 (by decide +kernel) rfl⟩
theorem fl_X7_191 : FL RX7 191 6 27 := ⟨by decide, by decide, gt_at 621 (by decide +kernel) rfl⟩
theorem fl_X7_202 : FL RX7 202 6 33 := ⟨by decide, by decide, gt_at 627 (by decide +kernel) rfl⟩
theorem fj_J0_9 : Cond.fieldLink RJ0 9 "java/lang/String" "value" "[B" ∈ gt := gt_at 881 (by decide +kernel) rfl
theorem fj_J0_15 : Cond.fieldLink RJ0 15 "java/lang/String" "coder" "B" ∈ gt := gt_at 880 (by decide +kernel) rfl
theorem fj_J0_38 : Cond.fieldLink RJ0 38 "java/lang/String" "COMPACT_STRINGS" "Z" ∈ gt := gt_at 250 (by decide +kernel) rfl
theorem fj_J0_1053 : Cond.fieldLink RJ0 1053 "jdk/internal/util/Preconditions" "SIOOBE_FORMATTER" "Ljava/util/function/BiFunction;" ∈ gt := gt_at 293 (by decide +kernel) rfl
theorem ml_X6_1 : Cond.methodLink RX6 1 objectInit ∈ gt := gt_at 49 (by decide +kernel) rfl
theorem ml_X6_60 : Cond.methodLink RX6 60 yX3_append ∈ gt := gt_at 202 (by decide +kernel) rfl
theorem ml_X6_64 : Cond.methodLink RX6 64 yX3_size ∈ gt := gt_at 206 (by decide +kernel) rfl
theorem ml_X6_68 : Cond.methodLink RX6 68 yX3_clear ∈ gt := gt_at 214 (by decide +kernel) rfl
theorem ml_X6_71 : Cond.methodLink RX6 71 yX3_firstWrong ∈ gt := gt_at 222 (by decide +kernel) rfl
theorem ml_X6_74 : Cond.methodLink RX6 74 yX3_isWhole ∈ gt := gt_at 329 (by decide +kernel) rfl
theorem ml_X6_78 : Cond.methodLink RX6 78 yX5_begin ∈ gt := gt_at 334 (by decide +kernel) rfl
theorem ml_X6_85 : Cond.methodLink RX6 85 yX0_places ∈ gt := gt_at 365 (by decide +kernel) rfl
theorem ml_X6_88 : Cond.methodLink RX6 88 yX0_has ∈ gt := gt_at 373 (by decide +kernel) rfl
theorem ml_X6_91 : Cond.methodLink RX6 91 yX0_kindAt ∈ gt := gt_at 374 (by decide +kernel) rfl
theorem ml_X6_95 : Cond.methodLink RX6 95 yX2_onSpot ∈ gt := gt_at 378 (by decide +kernel) rfl
theorem ml_X6_104 : Cond.methodLink RX6 104 yX1_bestTry ∈ gt := gt_at 381 (by decide +kernel) rfl
theorem ml_X6_110 : Cond.methodLink RX6 110 yX2_growth ∈ gt := gt_at 404 (by decide +kernel) rfl
theorem ml_X6_114 : Cond.methodLink RX6 114 yX2_isKind ∈ gt := gt_at 409 (by decide +kernel) rfl
theorem ml_X6_117 : Cond.methodLink RX6 117 yX2_isA ∈ gt := gt_at 412 (by decide +kernel) rfl
theorem ml_X6_121 : Cond.methodLink RX6 121 yX0_put ∈ gt := gt_at 419 (by decide +kernel) rfl
theorem ml_X6_124 : Cond.methodLink RX6 124 yX6_hasYard ∈ gt := gt_at 424 (by decide +kernel) rfl
theorem ml_X6_127 : Cond.methodLink RX6 127 yX5_changeHeight ∈ gt := gt_at 428 (by decide +kernel) rfl
theorem ml_X6_130 : Cond.methodLink RX6 130 yX6_refusalOfStep ∈ gt := gt_at 436 (by decide +kernel) rfl
theorem ml_X6_133 : Cond.methodLink RX6 133 yX5_go ∈ gt := gt_at 440 (by decide +kernel) rfl
theorem ml_X6_139 : Cond.methodLink RX6 139 yX5_swayBy ∈ gt := gt_at 460 (by decide +kernel) rfl
theorem ml_X6_148 : Cond.methodLink RX6 148 yX4_fewest ∈ gt := gt_at 465 (by decide +kernel) rfl
theorem ml_X6_152 : Cond.methodLink RX6 152 yX4_farOfStep ∈ gt := gt_at 488 (by decide +kernel) rfl
theorem ml_X6_155 : Cond.methodLink RX6 155 yX6_greatestHeight ∈ gt := gt_at 496 (by decide +kernel) rfl
theorem ml_X6_158 : Cond.methodLink RX6 158 yX6_findMend ∈ gt := gt_at 504 (by decide +kernel) rfl
theorem ml_X6_161 : Cond.methodLink RX6 161 yX1_append ∈ gt := gt_at 517 (by decide +kernel) rfl
theorem ml_X6_164 : Cond.methodLink RX6 164 yX1_size ∈ gt := gt_at 521 (by decide +kernel) rfl
theorem ml_X6_165 : Cond.methodLink RX6 165 yX1_clear ∈ gt := gt_at 529 (by decide +kernel) rfl
theorem ml_X6_166 : Cond.methodLink RX6 166 yX1_heightBits ∈ gt := gt_at 534 (by decide +kernel) rfl
theorem ml_X6_170 : Cond.methodLink RX6 170 yX5_copyFrom ∈ gt := gt_at 539 (by decide +kernel) rfl
theorem ml_X6_174 : Cond.methodLink RX6 174 yX5_race ∈ gt := gt_at 549 (by decide +kernel) rfl
theorem ml_X6_183 : Cond.methodLink RX6 183 yX6_bearable ∈ gt := gt_at 572 (by decide +kernel) rfl
theorem ml_X6_186 : Cond.methodLink RX6 186 yX0_plainPlaces ∈ gt := gt_at 573 (by decide +kernel) rfl
theorem ml_X6_193 : Cond.methodLink RX6 193 yX6_about ∈ gt := gt_at 583 (by decide +kernel) rfl
theorem ml_X6_196 : Cond.methodLink RX6 196 yX6_would ∈ gt := gt_at 584 (by decide +kernel) rfl
theorem ml_X6_199 : Cond.methodLink RX6 199 yX6_heights ∈ gt := gt_at 585 (by decide +kernel) rfl
theorem ml_X6_202 : Cond.methodLink RX6 202 yX3_codeAt ∈ gt := gt_at 586 (by decide +kernel) rfl
theorem ml_X6_205 : Cond.methodLink RX6 205 yX6_count ∈ gt := gt_at 587 (by decide +kernel) rfl
theorem ml_X6_208 : Cond.methodLink RX6 208 yX0_copyFrom ∈ gt := gt_at 508 (by decide +kernel) rfl
theorem ml_X0_3 : Cond.methodLink RX0 3 objectInit ∈ gt := gt_at 77 (by decide +kernel) rfl
theorem ml_X0_19 : Cond.methodLink RX0 19 yX0_has ∈ gt := gt_at 349 (by decide +kernel) rfl
theorem ml_X0_25 : Cond.methodLink RX0 25 yX0_kindAt ∈ gt := gt_at 512 (by decide +kernel) rfl
theorem ml_X0_29 : Cond.methodLink RX0 29 yX3_placesAhead ∈ gt := gt_at 342 (by decide +kernel) rfl
theorem ml_X0_35 : Cond.methodLink RX0 35 yX3_codeAt ∈ gt := gt_at 343 (by decide +kernel) rfl
theorem ml_X0_38 : Cond.methodLink RX0 38 yX2_ofLetter ∈ gt := gt_at 344 (by decide +kernel) rfl
theorem ml_X0_41 : Cond.methodLink RX0 41 yX0_put ∈ gt := gt_at 345 (by decide +kernel) rfl
theorem ml_X1_3 : Cond.methodLink RX1 3 objectInit ∈ gt := gt_at 90 (by decide +kernel) rfl
theorem ml_X1_29 : Cond.methodLink RX1 29 yX1_append ∈ gt := gt_at 548 (by decide +kernel) rfl
theorem ml_X1_33 : Cond.methodLink RX1 33 yX1_allows ∈ gt := gt_at 389 (by decide +kernel) rfl
theorem ml_X1_37 : Cond.methodLink RX1 37 yX0_kindAt ∈ gt := gt_at 393 (by decide +kernel) rfl
theorem ml_X1_43 : Cond.methodLink RX1 43 yX2_growth ∈ gt := gt_at 394 (by decide +kernel) rfl
theorem ml_X1_52 : Cond.methodLink RX1 52 yX1_heightBits ∈ gt := gt_at 385 (by decide +kernel) rfl
theorem ml_X1_56 : Cond.methodLink RX1 56 yX1_leftAtWorst ∈ gt := gt_at 400 (by decide +kernel) rfl
theorem ml_X1_59 : Cond.methodLink RX1 59 yJ9_max_7cf53 ∈ gt := gt_at 403 (by decide +kernel) rfl
theorem ml_X2_11 : Cond.methodLink RX2 11 yJ0_indexOf_0f7a4 ∈ gt := gt_at 238 (by decide +kernel) rfl
theorem ml_X2_17 : Cond.methodLink RX2 17 yX2_onSpot ∈ gt := gt_at 452 (by decide +kernel) rfl
theorem ml_X2_20 : Cond.methodLink RX2 20 yJ9_max_7cf53 ∈ gt := gt_at 453 (by decide +kernel) rfl
theorem ml_X2_26 : Cond.methodLink RX2 26 yX2_growth ∈ gt := gt_at 454 (by decide +kernel) rfl
theorem ml_X3_3 : Cond.methodLink RX3 3 objectInit ∈ gt := gt_at 57 (by decide +kernel) rfl
theorem ml_X3_19 : Cond.methodLink RX3 19 yX3_codeAt ∈ gt := gt_at 230 (by decide +kernel) rfl
theorem ml_X3_23 : Cond.methodLink RX3 23 yX2_ofLetter ∈ gt := gt_at 234 (by decide +kernel) rfl
theorem ml_X3_28 : Cond.methodLink RX3 28 yX3_placesAhead ∈ gt := gt_at 226 (by decide +kernel) rfl
theorem ml_X3_32 : Cond.methodLink RX3 32 yX3_firstWrong ∈ gt := gt_at 333 (by decide +kernel) rfl
theorem ml_X4_3 : Cond.methodLink RX4 3 objectInit ∈ gt := gt_at 144 (by decide +kernel) rfl
theorem ml_X4_31 : Cond.methodLink RX4 31 yX0_places ∈ gt := gt_at 469 (by decide +kernel) rfl
theorem ml_X4_37 : Cond.methodLink RX4 37 yX4_reach ∈ gt := gt_at 470 (by decide +kernel) rfl
theorem ml_X4_45 : Cond.methodLink RX4 45 yX4_goOn ∈ gt := gt_at 482 (by decide +kernel) rfl
theorem ml_X4_49 : Cond.methodLink RX4 49 yX4_stepsOf ∈ gt := gt_at 477 (by decide +kernel) rfl
theorem ml_X4_52 : Cond.methodLink RX4 52 yX4_isSpot ∈ gt := gt_at 474 (by decide +kernel) rfl
theorem ml_X4_56 : Cond.methodLink RX4 56 yX0_kindAt ∈ gt := gt_at 486 (by decide +kernel) rfl
theorem ml_X4_59 : Cond.methodLink RX4 59 yX2_swayAfter ∈ gt := gt_at 487 (by decide +kernel) rfl
theorem ml_X5_1 : Cond.methodLink RX5 1 objectInit ∈ gt := gt_at 71 (by decide +kernel) rfl
theorem ml_X5_39 : Cond.methodLink RX5 39 yX0_read ∈ gt := gt_at 338 (by decide +kernel) rfl
theorem ml_X5_43 : Cond.methodLink RX5 43 yX1_clear ∈ gt := gt_at 353 (by decide +kernel) rfl
theorem ml_X5_47 : Cond.methodLink RX5 47 yX3_height ∈ gt := gt_at 357 (by decide +kernel) rfl
theorem ml_X5_51 : Cond.methodLink RX5 51 yX5_backToStart ∈ gt := gt_at 361 (by decide +kernel) rfl
theorem ml_X5_54 : Cond.methodLink RX5 54 yX0_copyFrom ∈ gt := gt_at 543 (by decide +kernel) rfl
theorem ml_X5_58 : Cond.methodLink RX5 58 yX1_copyFrom ∈ gt := gt_at 544 (by decide +kernel) rfl
theorem ml_X5_61 : Cond.methodLink RX5 61 yX0_kindAt ∈ gt := gt_at 448 (by decide +kernel) rfl
theorem ml_X5_65 : Cond.methodLink RX5 65 yX2_swayAfter ∈ gt := gt_at 449 (by decide +kernel) rfl
theorem ml_X5_71 : Cond.methodLink RX5 71 yX5_swayBy ∈ gt := gt_at 444 (by decide +kernel) rfl
theorem ml_X5_87 : Cond.methodLink RX5 87 yX0_places ∈ gt := gt_at 557 (by decide +kernel) rfl
theorem ml_X5_90 : Cond.methodLink RX5 90 yJ9_min_7cf53 ∈ gt := gt_at 558 (by decide +kernel) rfl
theorem ml_X5_96 : Cond.methodLink RX5 96 yX5_go ∈ gt := gt_at 559 (by decide +kernel) rfl
theorem ml_L_9 : Cond.methodLink RL 9 yX6_init ∈ gt := gt_at 46 (by decide +kernel) rfl
theorem ml_L_12 : Cond.methodLink RL 12 yX7_init ∈ gt := gt_at 590 (by decide +kernel) rfl
theorem ml_L_13 : Cond.methodLink RL 13 yX6_letter ∈ gt := gt_at 198 (by decide +kernel) rfl
theorem ml_L_17 : Cond.methodLink RL 17 yX7_letter ∈ gt := gt_at 697 (by decide +kernel) rfl
theorem ml_L_18 : Cond.methodLink RL 18 yX6_blank ∈ gt := gt_at 210 (by decide +kernel) rfl
theorem ml_L_22 : Cond.methodLink RL 22 yX7_blank ∈ gt := gt_at 704 (by decide +kernel) rfl
theorem ml_L_23 : Cond.methodLink RL 23 yX6_fault ∈ gt := gt_at 218 (by decide +kernel) rfl
theorem ml_L_26 : Cond.methodLink RL 26 yX7_fault ∈ gt := gt_at 708 (by decide +kernel) rfl
theorem ml_L_27 : Cond.methodLink RL 27 yX6_yard ∈ gt := gt_at 325 (by decide +kernel) rfl
theorem ml_L_30 : Cond.methodLink RL 30 yX7_yard ∈ gt := gt_at 723 (by decide +kernel) rfl
theorem ml_L_31 : Cond.methodLink RL 31 yX6_about ∈ gt := gt_at 369 (by decide +kernel) rfl
theorem ml_L_35 : Cond.methodLink RL 35 yX7_about ∈ gt := gt_at 727 (by decide +kernel) rfl
theorem ml_L_36 : Cond.methodLink RL 36 yX6_as ∈ gt := gt_at 405 (by decide +kernel) rfl
theorem ml_L_39 : Cond.methodLink RL 39 yX7_as ∈ gt := gt_at 758 (by decide +kernel) rfl
theorem ml_L_40 : Cond.methodLink RL 40 yX6_lay ∈ gt := gt_at 415 (by decide +kernel) rfl
theorem ml_L_43 : Cond.methodLink RL 43 yX7_lay ∈ gt := gt_at 762 (by decide +kernel) rfl
theorem ml_L_44 : Cond.methodLink RL 44 yX6_blocks ∈ gt := gt_at 420 (by decide +kernel) rfl
theorem ml_L_47 : Cond.methodLink RL 47 yX7_blocks ∈ gt := gt_at 766 (by decide +kernel) rfl
theorem ml_L_48 : Cond.methodLink RL 48 yX6_step ∈ gt := gt_at 432 (by decide +kernel) rfl
theorem ml_L_51 : Cond.methodLink RL 51 yX7_step ∈ gt := gt_at 770 (by decide +kernel) rfl
theorem ml_L_52 : Cond.methodLink RL 52 yX6_would ∈ gt := gt_at 456 (by decide +kernel) rfl
theorem ml_L_55 : Cond.methodLink RL 55 yX7_would ∈ gt := gt_at 778 (by decide +kernel) rfl
theorem ml_L_56 : Cond.methodLink RL 56 yX6_quick ∈ gt := gt_at 461 (by decide +kernel) rfl
theorem ml_L_59 : Cond.methodLink RL 59 yX7_quick ∈ gt := gt_at 782 (by decide +kernel) rfl
theorem ml_L_60 : Cond.methodLink RL 60 yX6_high ∈ gt := gt_at 492 (by decide +kernel) rfl
theorem ml_L_63 : Cond.methodLink RL 63 yX7_high ∈ gt := gt_at 802 (by decide +kernel) rfl
theorem ml_L_64 : Cond.methodLink RL 64 yX6_mend ∈ gt := gt_at 500 (by decide +kernel) rfl
theorem ml_L_67 : Cond.methodLink RL 67 yX7_mend ∈ gt := gt_at 814 (by decide +kernel) rfl
theorem ml_L_68 : Cond.methodLink RL 68 yX6_hear ∈ gt := gt_at 513 (by decide +kernel) rfl
theorem ml_L_72 : Cond.methodLink RL 72 yX7_hear ∈ gt := gt_at 822 (by decide +kernel) rfl
theorem ml_L_73 : Cond.methodLink RL 73 yX6_forget ∈ gt := gt_at 525 (by decide +kernel) rfl
theorem ml_L_76 : Cond.methodLink RL 76 yX7_forget ∈ gt := gt_at 826 (by decide +kernel) rfl
theorem ml_L_77 : Cond.methodLink RL 77 yX6_heights ∈ gt := gt_at 530 (by decide +kernel) rfl
theorem ml_L_80 : Cond.methodLink RL 80 yX7_heights ∈ gt := gt_at 830 (by decide +kernel) rfl
theorem ml_L_81 : Cond.methodLink RL 81 yX6_races ∈ gt := gt_at 535 (by decide +kernel) rfl
theorem ml_L_85 : Cond.methodLink RL 85 yX7_races ∈ gt := gt_at 834 (by decide +kernel) rfl
theorem ml_L_86 : Cond.methodLink RL 86 yX6_image ∈ gt := gt_at 560 (by decide +kernel) rfl
theorem ml_L_89 : Cond.methodLink RL 89 yX7_image ∈ gt := gt_at 850 (by decide +kernel) rfl
theorem ml_L_90 : Cond.methodLink RL 90 yX6_restore ∈ gt := gt_at 564 (by decide +kernel) rfl
theorem ml_L_93 : Cond.methodLink RL 93 yX7_restore ∈ gt := gt_at 854 (by decide +kernel) rfl
theorem ml_L_94 : Cond.methodLink RL 94 yX6_count ∈ gt := gt_at 568 (by decide +kernel) rfl
theorem ml_L_97 : Cond.methodLink RL 97 yX7_count ∈ gt := gt_at 858 (by decide +kernel) rfl
theorem ml_L_98 : Cond.methodLink RL 98 yX6_digest ∈ gt := gt_at 577 (by decide +kernel) rfl
theorem ml_L_102 : Cond.methodLink RL 102 yX7_digest ∈ gt := gt_at 870 (by decide +kernel) rfl
theorem ml_X7_1 : Cond.methodLink RX7 1 objectInit ∈ gt := gt_at 593 (by decide +kernel) rfl
theorem ml_X7_47 : Cond.methodLink RX7 47 yX7_within ∈ gt := gt_at 701 (by decide +kernel) rfl
theorem ml_X7_59 : Cond.methodLink RX7 59 yX7_at ∈ gt := gt_at 716 (by decide +kernel) rfl
theorem ml_X7_63 : Cond.methodLink RX7 63 yX7_kindBy ∈ gt := gt_at 720 (by decide +kernel) rfl
theorem ml_X7_69 : Cond.methodLink RX7 69 yX7_read ∈ gt := gt_at 712 (by decide +kernel) rfl
theorem ml_X7_97 : Cond.methodLink RX7 97 yX7_swayBy ∈ gt := gt_at 739 (by decide +kernel) rfl
theorem ml_X7_101 : Cond.methodLink RX7 101 yX7_tryAt ∈ gt := gt_at 743 (by decide +kernel) rfl
theorem ml_X7_104 : Cond.methodLink RX7 104 yX7_isPlace ∈ gt := gt_at 731 (by decide +kernel) rfl
theorem ml_X7_108 : Cond.methodLink RX7 108 yX7_placeNow ∈ gt := gt_at 735 (by decide +kernel) rfl
theorem ml_X7_112 : Cond.methodLink RX7 112 yX7_bears ∈ gt := gt_at 751 (by decide +kernel) rfl
theorem ml_X7_115 : Cond.methodLink RX7 115 yX7_goes ∈ gt := gt_at 774 (by decide +kernel) rfl
theorem ml_X7_119 : Cond.methodLink RX7 119 yX7_fewBy ∈ gt := gt_at 798 (by decide +kernel) rfl
theorem ml_X7_123 : Cond.methodLink RX7 123 yX7_isShorter ∈ gt := gt_at 794 (by decide +kernel) rfl
theorem ml_X7_126 : Cond.methodLink RX7 126 yX7_layFew ∈ gt := gt_at 790 (by decide +kernel) rfl
theorem ml_X7_133 : Cond.methodLink RX7 133 yX7_quickNow ∈ gt := gt_at 786 (by decide +kernel) rfl
theorem ml_X7_136 : Cond.methodLink RX7 136 yX7_fewWith ∈ gt := gt_at 810 (by decide +kernel) rfl
theorem ml_X7_139 : Cond.methodLink RX7 139 yX7_highNow ∈ gt := gt_at 806 (by decide +kernel) rfl
theorem ml_X7_142 : Cond.methodLink RX7 142 yX7_mendNow ∈ gt := gt_at 818 (by decide +kernel) rfl
theorem ml_X7_145 : Cond.methodLink RX7 145 yX7_heightsNow ∈ gt := gt_at 747 (by decide +kernel) rfl
theorem ml_X7_148 : Cond.methodLink RX7 148 yX7_isIn ∈ gt := gt_at 755 (by decide +kernel) rfl
theorem ml_X7_164 : Cond.methodLink RX7 164 yX7_draw ∈ gt := gt_at 842 (by decide +kernel) rfl
theorem ml_X7_167 : Cond.methodLink RX7 167 yX7_racesNow ∈ gt := gt_at 838 (by decide +kernel) rfl
theorem ml_X7_194 : Cond.methodLink RX7 194 yX7_plain ∈ gt := gt_at 866 (by decide +kernel) rfl
theorem ml_X7_197 : Cond.methodLink RX7 197 yX7_howMany ∈ gt := gt_at 862 (by decide +kernel) rfl
theorem ml_X7_207 : Cond.methodLink RX7 207 yX7_mix ∈ gt := gt_at 875 (by decide +kernel) rfl
theorem ml_J0_335 : Cond.methodLink RJ0 335 yJ0_coder_7d493 ∈ gt := gt_at 256 (by decide +kernel) rfl
theorem ml_J0_492 : Cond.methodLink RJ0 492 yJ0_isLatin1_aae02 ∈ gt := gt_at 246 (by decide +kernel) rfl
theorem ml_J0_505 : Cond.methodLink RJ0 505 yJ0_length_8abf5 ∈ gt := gt_at 252 (by decide +kernel) rfl
theorem ml_J0_633 : Cond.methodLink RJ0 633 yJ0_indexOf_7cf53 ∈ gt := gt_at 242 (by decide +kernel) rfl
theorem ml_J0_637 : Cond.methodLink RJ0 637 yJ1_indexOf_4cfef ∈ gt := gt_at 260 (by decide +kernel) rfl
theorem ml_J0_640 : Cond.methodLink RJ0 640 yJ2_indexOf_4cfef ∈ gt := gt_at 275 (by decide +kernel) rfl
theorem ml_J0_1062 : Cond.methodLink RJ0 1062 yJ3_checkFromToIndex_8c36e ∈ gt := gt_at 295 (by decide +kernel) rfl
theorem ml_J1_38 : Cond.methodLink RJ1 38 yJ9_min_7cf53 ∈ gt := gt_at 269 (by decide +kernel) rfl
theorem ml_J1_88 : Cond.methodLink RJ1 88 yJ1_canEncode_9a6ad ∈ gt := gt_at 263 (by decide +kernel) rfl
theorem ml_J1_92 : Cond.methodLink RJ1 92 yJ9_max_7cf53 ∈ gt := gt_at 266 (by decide +kernel) rfl
theorem ml_J1_95 : Cond.methodLink RJ1 95 yJ1_indexOfChar_4cfef ∈ gt := gt_at 272 (by decide +kernel) rfl
theorem ml_J2_48 : Cond.methodLink RJ2 48 yJ2_length_9d52b ∈ gt := gt_at 287 (by decide +kernel) rfl
theorem ml_J2_71 : Cond.methodLink RJ2 71 yJ2_getChar_3b067 ∈ gt := gt_at 301 (by decide +kernel) rfl
theorem ml_J2_96 : Cond.methodLink RJ2 96 yJ2_checkBoundsBeginEnd_d044e ∈ gt := gt_at 284 (by decide +kernel) rfl
theorem ml_J2_157 : Cond.methodLink RJ2 157 yJ11_highSurrogate_5068e ∈ gt := gt_at 316 (by decide +kernel) rfl
theorem ml_J2_161 : Cond.methodLink RJ2 161 yJ11_lowSurrogate_5068e ∈ gt := gt_at 320 (by decide +kernel) rfl
theorem ml_J2_164 : Cond.methodLink RJ2 164 yJ11_isValidCodePoint_9a6ad ∈ gt := gt_at 313 (by decide +kernel) rfl
theorem ml_J2_183 : Cond.methodLink RJ2 183 yJ9_min_7cf53 ∈ gt := gt_at 279 (by decide +kernel) rfl
theorem ml_J2_224 : Cond.methodLink RJ2 224 yJ9_max_7cf53 ∈ gt := gt_at 278 (by decide +kernel) rfl
theorem ml_J2_228 : Cond.methodLink RJ2 228 yJ2_indexOfChar_4cfef ∈ gt := gt_at 281 (by decide +kernel) rfl
theorem ml_J2_232 : Cond.methodLink RJ2 232 yJ2_indexOfSupplementary_4cfef ∈ gt := gt_at 310 (by decide +kernel) rfl
theorem ml_J2_241 : Cond.methodLink RJ2 241 yJ0_checkBoundsBeginEnd_23922 ∈ gt := gt_at 290 (by decide +kernel) rfl
theorem ml_J2_244 : Cond.methodLink RJ2 244 yJ2_indexOfCharUnsafe_4cfef ∈ gt := gt_at 298 (by decide +kernel) rfl
theorem mn_X6_9 : (RX6, 9, yX3_init, "StiltYard") ∈ nwT := by decide +kernel
theorem mn_X6_18 : (RX6, 18, yX5_init, "StiltYard") ∈ nwT := by decide +kernel
theorem mn_X6_31 : (RX6, 31, yX0_init, "StiltYard") ∈ nwT := by decide +kernel
theorem mn_X6_38 : (RX6, 38, yX4_init, "StiltYard") ∈ nwT := by decide +kernel
theorem mn_X1_49 : (RX1, 49, yX6_bearable, "StiltYard") ∈ nwT := by decide +kernel
theorem mn_X4_41 : (RX4, 41, yX6_bearable, "StiltYard") ∈ nwT := by decide +kernel
theorem mn_X5_9 : (RX5, 9, yX0_init, "StiltYard") ∈ nwT := by decide +kernel
theorem mn_X5_18 : (RX5, 18, yX1_init, "StiltYard") ∈ nwT := by decide +kernel
theorem mn_X5_74 : (RX5, 74, yX6_bearable, "StiltYard") ∈ nwT := by decide +kernel
theorem mw_X6_init : MI yX6_init cX6_init 1 0 := ⟨⟨gt_at 48 (by decide +kernel) rfl, gt_at 30 (by decide +kernel) rfl, ⟨by decide +kernel, by decide +kernel, by decide +kernel⟩, by decide⟩, rfl, gt_at 47 (by decide +kernel) rfl⟩
theorem pn_X6_init : plainName yX6_init.cls = true := by decide +kernel
theorem mw_X6_about : MV yX6_about cX6_about 4 (some .int) 2 := ⟨⟨gt_at 372 (by decide +kernel) rfl, gt_at 30 (by decide +kernel) rfl, ⟨by decide +kernel, by decide +kernel, by decide +kernel⟩, by decide⟩, gt_at 370 (by decide +kernel) rfl, gt_at 371 (by decide +kernel) rfl⟩
theorem pn_X6_about : plainName yX6_about.cls = true := by decide +kernel
theorem mw_X6_as : MV yX6_as cX6_as 3 (some .int) 2 := ⟨⟨gt_at 408 (by decide +kernel) rfl, gt_at 30 (by decide +kernel) rfl, ⟨by decide +kernel, by decide +kernel, by decide +kernel⟩, by decide⟩, gt_at 406 (by decide +kernel) rfl, gt_at 407 (by decide +kernel) rfl⟩
theorem pn_X6_as : plainName yX6_as.cls = true := by decide +kernel
theorem mw_X6_bearable : MS yX6_bearable cX6_bearable 1 (some .int) 1 := ⟨⟨gt_at 399 (by decide +kernel) rfl, gt_at 30 (by decide +kernel) rfl, ⟨by decide +kernel, by decide +kernel, by decide +kernel⟩, by decide⟩, gt_at 398 (by decide +kernel) rfl⟩
theorem pn_X6_bearable : plainName yX6_bearable.cls = true := by decide +kernel
theorem mw_X6_blank : MV yX6_blank cX6_blank 1 (some .int) 0 := ⟨⟨gt_at 213 (by decide +kernel) rfl, gt_at 30 (by decide +kernel) rfl, ⟨by decide +kernel, by decide +kernel, by decide +kernel⟩, by decide⟩, gt_at 211 (by decide +kernel) rfl, gt_at 212 (by decide +kernel) rfl⟩
theorem pn_X6_blank : plainName yX6_blank.cls = true := by decide +kernel
theorem mw_X6_blocks : MV yX6_blocks cX6_blocks 2 (some .int) 1 := ⟨⟨gt_at 423 (by decide +kernel) rfl, gt_at 30 (by decide +kernel) rfl, ⟨by decide +kernel, by decide +kernel, by decide +kernel⟩, by decide⟩, gt_at 421 (by decide +kernel) rfl, gt_at 422 (by decide +kernel) rfl⟩
theorem pn_X6_blocks : plainName yX6_blocks.cls = true := by decide +kernel
theorem mw_X6_count : MV yX6_count cX6_count 2 (some .int) 1 := ⟨⟨gt_at 571 (by decide +kernel) rfl, gt_at 30 (by decide +kernel) rfl, ⟨by decide +kernel, by decide +kernel, by decide +kernel⟩, by decide⟩, gt_at 569 (by decide +kernel) rfl, gt_at 570 (by decide +kernel) rfl⟩
theorem pn_X6_count : plainName yX6_count.cls = true := by decide +kernel
theorem mw_X6_digest : MV yX6_digest cX6_digest 5 (some .long) 0 := ⟨⟨gt_at 580 (by decide +kernel) rfl, gt_at 30 (by decide +kernel) rfl, ⟨by decide +kernel, by decide +kernel, by decide +kernel⟩, by decide⟩, gt_at 578 (by decide +kernel) rfl, gt_at 579 (by decide +kernel) rfl⟩
theorem pn_X6_digest : plainName yX6_digest.cls = true := by decide +kernel
theorem mw_X6_fault : MV yX6_fault cX6_fault 1 (some .int) 0 := ⟨⟨gt_at 221 (by decide +kernel) rfl, gt_at 30 (by decide +kernel) rfl, ⟨by decide +kernel, by decide +kernel, by decide +kernel⟩, by decide⟩, gt_at 219 (by decide +kernel) rfl, gt_at 220 (by decide +kernel) rfl⟩
theorem pn_X6_fault : plainName yX6_fault.cls = true := by decide +kernel
theorem mw_X6_findMend : MV yX6_findMend cX6_findMend 5 none 0 := ⟨⟨gt_at 507 (by decide +kernel) rfl, gt_at 30 (by decide +kernel) rfl, ⟨by decide +kernel, by decide +kernel, by decide +kernel⟩, by decide⟩, gt_at 506 (by decide +kernel) rfl, gt_at 8 (by decide +kernel) rfl⟩
theorem pn_X6_findMend : plainName yX6_findMend.cls = true := by decide +kernel
theorem mw_X6_forget : MV yX6_forget cX6_forget 1 (some .int) 0 := ⟨⟨gt_at 528 (by decide +kernel) rfl, gt_at 30 (by decide +kernel) rfl, ⟨by decide +kernel, by decide +kernel, by decide +kernel⟩, by decide⟩, gt_at 526 (by decide +kernel) rfl, gt_at 527 (by decide +kernel) rfl⟩
theorem pn_X6_forget : plainName yX6_forget.cls = true := by decide +kernel
theorem mw_X6_greatestHeight : MV yX6_greatestHeight cX6_greatestHeight 2 (some .int) 0 := ⟨⟨gt_at 499 (by decide +kernel) rfl, gt_at 30 (by decide +kernel) rfl, ⟨by decide +kernel, by decide +kernel, by decide +kernel⟩, by decide⟩, gt_at 498 (by decide +kernel) rfl, gt_at 7 (by decide +kernel) rfl⟩
theorem pn_X6_greatestHeight : plainName yX6_greatestHeight.cls = true := by decide +kernel
theorem mw_X6_hasYard : MV yX6_hasYard cX6_hasYard 1 (some .boolean) 0 := ⟨⟨gt_at 427 (by decide +kernel) rfl, gt_at 30 (by decide +kernel) rfl, ⟨by decide +kernel, by decide +kernel, by decide +kernel⟩, by decide⟩, gt_at 426 (by decide +kernel) rfl, gt_at 2 (by decide +kernel) rfl⟩
theorem pn_X6_hasYard : plainName yX6_hasYard.cls = true := by decide +kernel
theorem mw_X6_hear : MV yX6_hear cX6_hear 5 (some .int) 4 := ⟨⟨gt_at 516 (by decide +kernel) rfl, gt_at 30 (by decide +kernel) rfl, ⟨by decide +kernel, by decide +kernel, by decide +kernel⟩, by decide⟩, gt_at 514 (by decide +kernel) rfl, gt_at 515 (by decide +kernel) rfl⟩
theorem pn_X6_hear : plainName yX6_hear.cls = true := by decide +kernel
theorem mw_X6_heights : MV yX6_heights cX6_heights 1 (some .int) 0 := ⟨⟨gt_at 533 (by decide +kernel) rfl, gt_at 30 (by decide +kernel) rfl, ⟨by decide +kernel, by decide +kernel, by decide +kernel⟩, by decide⟩, gt_at 531 (by decide +kernel) rfl, gt_at 532 (by decide +kernel) rfl⟩
theorem pn_X6_heights : plainName yX6_heights.cls = true := by decide +kernel
theorem mw_X6_high : MV yX6_high cX6_high 1 (some .int) 0 := ⟨⟨gt_at 495 (by decide +kernel) rfl, gt_at 30 (by decide +kernel) rfl, ⟨by decide +kernel, by decide +kernel, by decide +kernel⟩, by decide⟩, gt_at 493 (by decide +kernel) rfl, gt_at 494 (by decide +kernel) rfl⟩
theorem pn_X6_high : plainName yX6_high.cls = true := by decide +kernel
theorem mw_X6_image : MV yX6_image cX6_image 1 (some .int) 0 := ⟨⟨gt_at 563 (by decide +kernel) rfl, gt_at 30 (by decide +kernel) rfl, ⟨by decide +kernel, by decide +kernel, by decide +kernel⟩, by decide⟩, gt_at 561 (by decide +kernel) rfl, gt_at 562 (by decide +kernel) rfl⟩
theorem pn_X6_image : plainName yX6_image.cls = true := by decide +kernel
theorem mw_X6_lay : MV yX6_lay cX6_lay 3 (some .int) 2 := ⟨⟨gt_at 418 (by decide +kernel) rfl, gt_at 30 (by decide +kernel) rfl, ⟨by decide +kernel, by decide +kernel, by decide +kernel⟩, by decide⟩, gt_at 416 (by decide +kernel) rfl, gt_at 417 (by decide +kernel) rfl⟩
theorem pn_X6_lay : plainName yX6_lay.cls = true := by decide +kernel
theorem mw_X6_letter : MV yX6_letter cX6_letter 2 (some .int) 1 := ⟨⟨gt_at 201 (by decide +kernel) rfl, gt_at 30 (by decide +kernel) rfl, ⟨by decide +kernel, by decide +kernel, by decide +kernel⟩, by decide⟩, gt_at 199 (by decide +kernel) rfl, gt_at 200 (by decide +kernel) rfl⟩
theorem pn_X6_letter : plainName yX6_letter.cls = true := by decide +kernel
theorem mw_X6_mend : MV yX6_mend cX6_mend 2 (some .int) 1 := ⟨⟨gt_at 503 (by decide +kernel) rfl, gt_at 30 (by decide +kernel) rfl, ⟨by decide +kernel, by decide +kernel, by decide +kernel⟩, by decide⟩, gt_at 501 (by decide +kernel) rfl, gt_at 502 (by decide +kernel) rfl⟩
theorem pn_X6_mend : plainName yX6_mend.cls = true := by decide +kernel
theorem mw_X6_quick : MV yX6_quick cX6_quick 3 (some .int) 1 := ⟨⟨gt_at 464 (by decide +kernel) rfl, gt_at 30 (by decide +kernel) rfl, ⟨by decide +kernel, by decide +kernel, by decide +kernel⟩, by decide⟩, gt_at 462 (by decide +kernel) rfl, gt_at 463 (by decide +kernel) rfl⟩
theorem pn_X6_quick : plainName yX6_quick.cls = true := by decide +kernel
theorem mw_X6_races : MV yX6_races cX6_races 5 (some .int) 3 := ⟨⟨gt_at 538 (by decide +kernel) rfl, gt_at 30 (by decide +kernel) rfl, ⟨by decide +kernel, by decide +kernel, by decide +kernel⟩, by decide⟩, gt_at 536 (by decide +kernel) rfl, gt_at 537 (by decide +kernel) rfl⟩
theorem pn_X6_races : plainName yX6_races.cls = true := by decide +kernel
theorem mw_X6_refusalOfStep : MV yX6_refusalOfStep cX6_refusalOfStep 2 (some .int) 1 := ⟨⟨gt_at 439 (by decide +kernel) rfl, gt_at 30 (by decide +kernel) rfl, ⟨by decide +kernel, by decide +kernel, by decide +kernel⟩, by decide⟩, gt_at 438 (by decide +kernel) rfl, gt_at 3 (by decide +kernel) rfl⟩
theorem pn_X6_refusalOfStep : plainName yX6_refusalOfStep.cls = true := by decide +kernel
theorem mw_X6_restore : MV yX6_restore cX6_restore 1 (some .int) 0 := ⟨⟨gt_at 567 (by decide +kernel) rfl, gt_at 30 (by decide +kernel) rfl, ⟨by decide +kernel, by decide +kernel, by decide +kernel⟩, by decide⟩, gt_at 565 (by decide +kernel) rfl, gt_at 566 (by decide +kernel) rfl⟩
theorem pn_X6_restore : plainName yX6_restore.cls = true := by decide +kernel
theorem mw_X6_step : MV yX6_step cX6_step 3 (some .int) 1 := ⟨⟨gt_at 435 (by decide +kernel) rfl, gt_at 30 (by decide +kernel) rfl, ⟨by decide +kernel, by decide +kernel, by decide +kernel⟩, by decide⟩, gt_at 433 (by decide +kernel) rfl, gt_at 434 (by decide +kernel) rfl⟩
theorem pn_X6_step : plainName yX6_step.cls = true := by decide +kernel
theorem mw_X6_would : MV yX6_would cX6_would 3 (some .int) 1 := ⟨⟨gt_at 459 (by decide +kernel) rfl, gt_at 30 (by decide +kernel) rfl, ⟨by decide +kernel, by decide +kernel, by decide +kernel⟩, by decide⟩, gt_at 457 (by decide +kernel) rfl, gt_at 458 (by decide +kernel) rfl⟩
theorem pn_X6_would : plainName yX6_would.cls = true := by decide +kernel
theorem mw_X6_yard : MV yX6_yard cX6_yard 1 (some .int) 0 := ⟨⟨gt_at 328 (by decide +kernel) rfl, gt_at 30 (by decide +kernel) rfl, ⟨by decide +kernel, by decide +kernel, by decide +kernel⟩, by decide⟩, gt_at 326 (by decide +kernel) rfl, gt_at 327 (by decide +kernel) rfl⟩
theorem pn_X6_yard : plainName yX6_yard.cls = true := by decide +kernel
theorem mw_X0_init : MI yX0_init cX0_init 1 0 := ⟨⟨gt_at 76 (by decide +kernel) rfl, gt_at 33 (by decide +kernel) rfl, ⟨by decide +kernel, by decide +kernel, by decide +kernel⟩, by decide⟩, rfl, gt_at 75 (by decide +kernel) rfl⟩
theorem pn_X0_init : plainName yX0_init.cls = true := by decide +kernel
theorem mw_X0_copyFrom : MV yX0_copyFrom cX0_copyFrom 3 none 1 := ⟨⟨gt_at 511 (by decide +kernel) rfl, gt_at 33 (by decide +kernel) rfl, ⟨by decide +kernel, by decide +kernel, by decide +kernel⟩, by decide⟩, gt_at 509 (by decide +kernel) rfl, gt_at 510 (by decide +kernel) rfl⟩
theorem pn_X0_copyFrom : plainName yX0_copyFrom.cls = true := by decide +kernel
theorem mw_X0_has : MV yX0_has cX0_has 2 (some .boolean) 1 := ⟨⟨gt_at 352 (by decide +kernel) rfl, gt_at 33 (by decide +kernel) rfl, ⟨by decide +kernel, by decide +kernel, by decide +kernel⟩, by decide⟩, gt_at 350 (by decide +kernel) rfl, gt_at 351 (by decide +kernel) rfl⟩
theorem pn_X0_has : plainName yX0_has.cls = true := by decide +kernel
theorem mw_X0_kindAt : MV yX0_kindAt cX0_kindAt 2 (some .int) 1 := ⟨⟨gt_at 377 (by decide +kernel) rfl, gt_at 33 (by decide +kernel) rfl, ⟨by decide +kernel, by decide +kernel, by decide +kernel⟩, by decide⟩, gt_at 375 (by decide +kernel) rfl, gt_at 376 (by decide +kernel) rfl⟩
theorem pn_X0_kindAt : plainName yX0_kindAt.cls = true := by decide +kernel
theorem mw_X0_places : MV yX0_places cX0_places 1 (some .int) 0 := ⟨⟨gt_at 368 (by decide +kernel) rfl, gt_at 33 (by decide +kernel) rfl, ⟨by decide +kernel, by decide +kernel, by decide +kernel⟩, by decide⟩, gt_at 366 (by decide +kernel) rfl, gt_at 367 (by decide +kernel) rfl⟩
theorem pn_X0_places : plainName yX0_places.cls = true := by decide +kernel
theorem mw_X0_plainPlaces : MV yX0_plainPlaces cX0_plainPlaces 3 (some .int) 0 := ⟨⟨gt_at 576 (by decide +kernel) rfl, gt_at 33 (by decide +kernel) rfl, ⟨by decide +kernel, by decide +kernel, by decide +kernel⟩, by decide⟩, gt_at 574 (by decide +kernel) rfl, gt_at 575 (by decide +kernel) rfl⟩
theorem pn_X0_plainPlaces : plainName yX0_plainPlaces.cls = true := by decide +kernel
theorem mw_X0_put : MV yX0_put cX0_put 4 (some .int) 2 := ⟨⟨gt_at 348 (by decide +kernel) rfl, gt_at 33 (by decide +kernel) rfl, ⟨by decide +kernel, by decide +kernel, by decide +kernel⟩, by decide⟩, gt_at 346 (by decide +kernel) rfl, gt_at 347 (by decide +kernel) rfl⟩
theorem pn_X0_put : plainName yX0_put.cls = true := by decide +kernel
theorem mw_X0_read : MV yX0_read cX0_read 3 none 1 := ⟨⟨gt_at 341 (by decide +kernel) rfl, gt_at 33 (by decide +kernel) rfl, ⟨by decide +kernel, by decide +kernel, by decide +kernel⟩, by decide⟩, gt_at 339 (by decide +kernel) rfl, gt_at 340 (by decide +kernel) rfl⟩
theorem pn_X0_read : plainName yX0_read.cls = true := by decide +kernel
theorem mw_X1_init : MI yX1_init cX1_init 1 0 := ⟨⟨gt_at 89 (by decide +kernel) rfl, gt_at 34 (by decide +kernel) rfl, ⟨by decide +kernel, by decide +kernel, by decide +kernel⟩, by decide⟩, rfl, gt_at 88 (by decide +kernel) rfl⟩
theorem pn_X1_init : plainName yX1_init.cls = true := by decide +kernel
theorem mw_X1_allows : MV yX1_allows cX1_allows 5 (some .boolean) 2 := ⟨⟨gt_at 392 (by decide +kernel) rfl, gt_at 34 (by decide +kernel) rfl, ⟨by decide +kernel, by decide +kernel, by decide +kernel⟩, by decide⟩, gt_at 391 (by decide +kernel) rfl, gt_at 1 (by decide +kernel) rfl⟩
theorem pn_X1_allows : plainName yX1_allows.cls = true := by decide +kernel
theorem mw_X1_append : MV yX1_append cX1_append 5 (some .boolean) 4 := ⟨⟨gt_at 520 (by decide +kernel) rfl, gt_at 34 (by decide +kernel) rfl, ⟨by decide +kernel, by decide +kernel, by decide +kernel⟩, by decide⟩, gt_at 518 (by decide +kernel) rfl, gt_at 519 (by decide +kernel) rfl⟩
theorem pn_X1_append : plainName yX1_append.cls = true := by decide +kernel
theorem mw_X1_bestTry : MV yX1_bestTry cX1_bestTry 9 (some .int) 2 := ⟨⟨gt_at 384 (by decide +kernel) rfl, gt_at 34 (by decide +kernel) rfl, ⟨by decide +kernel, by decide +kernel, by decide +kernel⟩, by decide⟩, gt_at 382 (by decide +kernel) rfl, gt_at 383 (by decide +kernel) rfl⟩
theorem pn_X1_bestTry : plainName yX1_bestTry.cls = true := by decide +kernel
theorem mw_X1_clear : MV yX1_clear cX1_clear 2 (some .int) 0 := ⟨⟨gt_at 356 (by decide +kernel) rfl, gt_at 34 (by decide +kernel) rfl, ⟨by decide +kernel, by decide +kernel, by decide +kernel⟩, by decide⟩, gt_at 354 (by decide +kernel) rfl, gt_at 355 (by decide +kernel) rfl⟩
theorem pn_X1_clear : plainName yX1_clear.cls = true := by decide +kernel
theorem mw_X1_copyFrom : MV yX1_copyFrom cX1_copyFrom 3 none 1 := ⟨⟨gt_at 547 (by decide +kernel) rfl, gt_at 34 (by decide +kernel) rfl, ⟨by decide +kernel, by decide +kernel, by decide +kernel⟩, by decide⟩, gt_at 545 (by decide +kernel) rfl, gt_at 546 (by decide +kernel) rfl⟩
theorem pn_X1_copyFrom : plainName yX1_copyFrom.cls = true := by decide +kernel
theorem mw_X1_heightBits : MV yX1_heightBits cX1_heightBits 4 (some .int) 1 := ⟨⟨gt_at 388 (by decide +kernel) rfl, gt_at 34 (by decide +kernel) rfl, ⟨by decide +kernel, by decide +kernel, by decide +kernel⟩, by decide⟩, gt_at 386 (by decide +kernel) rfl, gt_at 387 (by decide +kernel) rfl⟩
theorem pn_X1_heightBits : plainName yX1_heightBits.cls = true := by decide +kernel
theorem mw_X1_leftAtWorst : MS yX1_leftAtWorst cX1_leftAtWorst 5 (some .int) 2 := ⟨⟨gt_at 402 (by decide +kernel) rfl, gt_at 34 (by decide +kernel) rfl, ⟨by decide +kernel, by decide +kernel, by decide +kernel⟩, by decide⟩, gt_at 401 (by decide +kernel) rfl⟩
theorem pn_X1_leftAtWorst : plainName yX1_leftAtWorst.cls = true := by decide +kernel
theorem mw_X1_size : MV yX1_size cX1_size 1 (some .int) 0 := ⟨⟨gt_at 524 (by decide +kernel) rfl, gt_at 34 (by decide +kernel) rfl, ⟨by decide +kernel, by decide +kernel, by decide +kernel⟩, by decide⟩, gt_at 522 (by decide +kernel) rfl, gt_at 523 (by decide +kernel) rfl⟩
theorem pn_X1_size : plainName yX1_size.cls = true := by decide +kernel
theorem mw_X2_growth : MS yX2_growth cX2_growth 2 (some .int) 2 := ⟨⟨gt_at 396 (by decide +kernel) rfl, gt_at 37 (by decide +kernel) rfl, ⟨by decide +kernel, by decide +kernel, by decide +kernel⟩, by decide⟩, gt_at 395 (by decide +kernel) rfl⟩
theorem pn_X2_growth : plainName yX2_growth.cls = true := by decide +kernel
theorem mw_X2_isA : MS yX2_isA cX2_isA 2 (some .boolean) 2 := ⟨⟨gt_at 414 (by decide +kernel) rfl, gt_at 37 (by decide +kernel) rfl, ⟨by decide +kernel, by decide +kernel, by decide +kernel⟩, by decide⟩, gt_at 413 (by decide +kernel) rfl⟩
theorem pn_X2_isA : plainName yX2_isA.cls = true := by decide +kernel
theorem mw_X2_isKind : MS yX2_isKind cX2_isKind 1 (some .boolean) 1 := ⟨⟨gt_at 411 (by decide +kernel) rfl, gt_at 37 (by decide +kernel) rfl, ⟨by decide +kernel, by decide +kernel, by decide +kernel⟩, by decide⟩, gt_at 410 (by decide +kernel) rfl⟩
theorem pn_X2_isKind : plainName yX2_isKind.cls = true := by decide +kernel
theorem mw_X2_ofLetter : MS yX2_ofLetter cX2_ofLetter 1 (some .int) 1 := ⟨⟨gt_at 236 (by decide +kernel) rfl, gt_at 37 (by decide +kernel) rfl, ⟨by decide +kernel, by decide +kernel, by decide +kernel⟩, by decide⟩, gt_at 235 (by decide +kernel) rfl⟩
theorem pn_X2_ofLetter : plainName yX2_ofLetter.cls = true := by decide +kernel
theorem mw_X2_onSpot : MS yX2_onSpot cX2_onSpot 1 (some .int) 1 := ⟨⟨gt_at 380 (by decide +kernel) rfl, gt_at 37 (by decide +kernel) rfl, ⟨by decide +kernel, by decide +kernel, by decide +kernel⟩, by decide⟩, gt_at 379 (by decide +kernel) rfl⟩
theorem pn_X2_onSpot : plainName yX2_onSpot.cls = true := by decide +kernel
theorem mw_X2_swayAfter : MS yX2_swayAfter cX2_swayAfter 3 (some .int) 3 := ⟨⟨gt_at 451 (by decide +kernel) rfl, gt_at 37 (by decide +kernel) rfl, ⟨by decide +kernel, by decide +kernel, by decide +kernel⟩, by decide⟩, gt_at 450 (by decide +kernel) rfl⟩
theorem pn_X2_swayAfter : plainName yX2_swayAfter.cls = true := by decide +kernel
theorem mw_X3_init : MI yX3_init cX3_init 1 0 := ⟨⟨gt_at 56 (by decide +kernel) rfl, gt_at 31 (by decide +kernel) rfl, ⟨by decide +kernel, by decide +kernel, by decide +kernel⟩, by decide⟩, rfl, gt_at 55 (by decide +kernel) rfl⟩
theorem pn_X3_init : plainName yX3_init.cls = true := by decide +kernel
theorem mw_X3_append : MV yX3_append cX3_append 2 (some .boolean) 1 := ⟨⟨gt_at 205 (by decide +kernel) rfl, gt_at 31 (by decide +kernel) rfl, ⟨by decide +kernel, by decide +kernel, by decide +kernel⟩, by decide⟩, gt_at 203 (by decide +kernel) rfl, gt_at 204 (by decide +kernel) rfl⟩
theorem pn_X3_append : plainName yX3_append.cls = true := by decide +kernel
theorem mw_X3_clear : MV yX3_clear cX3_clear 2 (some .int) 0 := ⟨⟨gt_at 217 (by decide +kernel) rfl, gt_at 31 (by decide +kernel) rfl, ⟨by decide +kernel, by decide +kernel, by decide +kernel⟩, by decide⟩, gt_at 215 (by decide +kernel) rfl, gt_at 216 (by decide +kernel) rfl⟩
theorem pn_X3_clear : plainName yX3_clear.cls = true := by decide +kernel
theorem mw_X3_codeAt : MV yX3_codeAt cX3_codeAt 2 (some .int) 1 := ⟨⟨gt_at 233 (by decide +kernel) rfl, gt_at 31 (by decide +kernel) rfl, ⟨by decide +kernel, by decide +kernel, by decide +kernel⟩, by decide⟩, gt_at 231 (by decide +kernel) rfl, gt_at 232 (by decide +kernel) rfl⟩
theorem pn_X3_codeAt : plainName yX3_codeAt.cls = true := by decide +kernel
theorem mw_X3_firstWrong : MV yX3_firstWrong cX3_firstWrong 3 (some .int) 0 := ⟨⟨gt_at 225 (by decide +kernel) rfl, gt_at 31 (by decide +kernel) rfl, ⟨by decide +kernel, by decide +kernel, by decide +kernel⟩, by decide⟩, gt_at 223 (by decide +kernel) rfl, gt_at 224 (by decide +kernel) rfl⟩
theorem pn_X3_firstWrong : plainName yX3_firstWrong.cls = true := by decide +kernel
theorem mw_X3_height : MV yX3_height cX3_height 1 (some .int) 0 := ⟨⟨gt_at 360 (by decide +kernel) rfl, gt_at 31 (by decide +kernel) rfl, ⟨by decide +kernel, by decide +kernel, by decide +kernel⟩, by decide⟩, gt_at 358 (by decide +kernel) rfl, gt_at 359 (by decide +kernel) rfl⟩
theorem pn_X3_height : plainName yX3_height.cls = true := by decide +kernel
theorem mw_X3_isWhole : MV yX3_isWhole cX3_isWhole 2 (some .boolean) 0 := ⟨⟨gt_at 332 (by decide +kernel) rfl, gt_at 31 (by decide +kernel) rfl, ⟨by decide +kernel, by decide +kernel, by decide +kernel⟩, by decide⟩, gt_at 330 (by decide +kernel) rfl, gt_at 331 (by decide +kernel) rfl⟩
theorem pn_X3_isWhole : plainName yX3_isWhole.cls = true := by decide +kernel
theorem mw_X3_placesAhead : MV yX3_placesAhead cX3_placesAhead 2 (some .int) 0 := ⟨⟨gt_at 229 (by decide +kernel) rfl, gt_at 31 (by decide +kernel) rfl, ⟨by decide +kernel, by decide +kernel, by decide +kernel⟩, by decide⟩, gt_at 227 (by decide +kernel) rfl, gt_at 228 (by decide +kernel) rfl⟩
theorem pn_X3_placesAhead : plainName yX3_placesAhead.cls = true := by decide +kernel
theorem mw_X3_size : MV yX3_size cX3_size 1 (some .int) 0 := ⟨⟨gt_at 209 (by decide +kernel) rfl, gt_at 31 (by decide +kernel) rfl, ⟨by decide +kernel, by decide +kernel, by decide +kernel⟩, by decide⟩, gt_at 207 (by decide +kernel) rfl, gt_at 208 (by decide +kernel) rfl⟩
theorem pn_X3_size : plainName yX3_size.cls = true := by decide +kernel
theorem mw_X4_init : MI yX4_init cX4_init 1 0 := ⟨⟨gt_at 143 (by decide +kernel) rfl, gt_at 35 (by decide +kernel) rfl, ⟨by decide +kernel, by decide +kernel, by decide +kernel⟩, by decide⟩, rfl, gt_at 142 (by decide +kernel) rfl⟩
theorem pn_X4_init : plainName yX4_init.cls = true := by decide +kernel
theorem mw_X4_farOfStep : MV yX4_farOfStep cX4_farOfStep 4 (some .int) 1 := ⟨⟨gt_at 491 (by decide +kernel) rfl, gt_at 35 (by decide +kernel) rfl, ⟨by decide +kernel, by decide +kernel, by decide +kernel⟩, by decide⟩, gt_at 489 (by decide +kernel) rfl, gt_at 490 (by decide +kernel) rfl⟩
theorem pn_X4_farOfStep : plainName yX4_farOfStep.cls = true := by decide +kernel
theorem mw_X4_fewest : MV yX4_fewest cX4_fewest 7 (some .int) 4 := ⟨⟨gt_at 468 (by decide +kernel) rfl, gt_at 35 (by decide +kernel) rfl, ⟨by decide +kernel, by decide +kernel, by decide +kernel⟩, by decide⟩, gt_at 466 (by decide +kernel) rfl, gt_at 467 (by decide +kernel) rfl⟩
theorem pn_X4_fewest : plainName yX4_fewest.cls = true := by decide +kernel
theorem mw_X4_goOn : MV yX4_goOn cX4_goOn 9 none 4 := ⟨⟨gt_at 485 (by decide +kernel) rfl, gt_at 35 (by decide +kernel) rfl, ⟨by decide +kernel, by decide +kernel, by decide +kernel⟩, by decide⟩, gt_at 484 (by decide +kernel) rfl, gt_at 6 (by decide +kernel) rfl⟩
theorem pn_X4_goOn : plainName yX4_goOn.cls = true := by decide +kernel
theorem mw_X4_isSpot : MS yX4_isSpot cX4_isSpot 1 (some .boolean) 1 := ⟨⟨gt_at 476 (by decide +kernel) rfl, gt_at 35 (by decide +kernel) rfl, ⟨by decide +kernel, by decide +kernel, by decide +kernel⟩, by decide⟩, gt_at 475 (by decide +kernel) rfl⟩
theorem pn_X4_isSpot : plainName yX4_isSpot.cls = true := by decide +kernel
theorem mw_X4_reach : MV yX4_reach cX4_reach 7 none 5 := ⟨⟨gt_at 473 (by decide +kernel) rfl, gt_at 35 (by decide +kernel) rfl, ⟨by decide +kernel, by decide +kernel, by decide +kernel⟩, by decide⟩, gt_at 472 (by decide +kernel) rfl, gt_at 4 (by decide +kernel) rfl⟩
theorem pn_X4_reach : plainName yX4_reach.cls = true := by decide +kernel
theorem mw_X4_stepsOf : MV yX4_stepsOf cX4_stepsOf 2 (some .int) 1 := ⟨⟨gt_at 480 (by decide +kernel) rfl, gt_at 35 (by decide +kernel) rfl, ⟨by decide +kernel, by decide +kernel, by decide +kernel⟩, by decide⟩, gt_at 479 (by decide +kernel) rfl, gt_at 5 (by decide +kernel) rfl⟩
theorem pn_X4_stepsOf : plainName yX4_stepsOf.cls = true := by decide +kernel
theorem mw_X5_init : MI yX5_init cX5_init 1 0 := ⟨⟨gt_at 70 (by decide +kernel) rfl, gt_at 32 (by decide +kernel) rfl, ⟨by decide +kernel, by decide +kernel, by decide +kernel⟩, by decide⟩, rfl, gt_at 69 (by decide +kernel) rfl⟩
theorem pn_X5_init : plainName yX5_init.cls = true := by decide +kernel
theorem mw_X5_backToStart : MV yX5_backToStart cX5_backToStart 1 none 0 := ⟨⟨gt_at 364 (by decide +kernel) rfl, gt_at 32 (by decide +kernel) rfl, ⟨by decide +kernel, by decide +kernel, by decide +kernel⟩, by decide⟩, gt_at 363 (by decide +kernel) rfl, gt_at 0 (by decide +kernel) rfl⟩
theorem pn_X5_backToStart : plainName yX5_backToStart.cls = true := by decide +kernel
theorem mw_X5_begin : MV yX5_begin cX5_begin 2 none 1 := ⟨⟨gt_at 337 (by decide +kernel) rfl, gt_at 32 (by decide +kernel) rfl, ⟨by decide +kernel, by decide +kernel, by decide +kernel⟩, by decide⟩, gt_at 335 (by decide +kernel) rfl, gt_at 336 (by decide +kernel) rfl⟩
theorem pn_X5_begin : plainName yX5_begin.cls = true := by decide +kernel
theorem mw_X5_changeHeight : MV yX5_changeHeight cX5_changeHeight 3 (some .int) 1 := ⟨⟨gt_at 431 (by decide +kernel) rfl, gt_at 32 (by decide +kernel) rfl, ⟨by decide +kernel, by decide +kernel, by decide +kernel⟩, by decide⟩, gt_at 429 (by decide +kernel) rfl, gt_at 430 (by decide +kernel) rfl⟩
theorem pn_X5_changeHeight : plainName yX5_changeHeight.cls = true := by decide +kernel
theorem mw_X5_copyFrom : MV yX5_copyFrom cX5_copyFrom 2 none 1 := ⟨⟨gt_at 542 (by decide +kernel) rfl, gt_at 32 (by decide +kernel) rfl, ⟨by decide +kernel, by decide +kernel, by decide +kernel⟩, by decide⟩, gt_at 540 (by decide +kernel) rfl, gt_at 541 (by decide +kernel) rfl⟩
theorem pn_X5_copyFrom : plainName yX5_copyFrom.cls = true := by decide +kernel
theorem mw_X5_go : MV yX5_go cX5_go 3 (some .boolean) 1 := ⟨⟨gt_at 443 (by decide +kernel) rfl, gt_at 32 (by decide +kernel) rfl, ⟨by decide +kernel, by decide +kernel, by decide +kernel⟩, by decide⟩, gt_at 441 (by decide +kernel) rfl, gt_at 442 (by decide +kernel) rfl⟩
theorem pn_X5_go : plainName yX5_go.cls = true := by decide +kernel
theorem mw_X5_race : MV yX5_race cX5_race 7 (some .int) 2 := ⟨⟨gt_at 552 (by decide +kernel) rfl, gt_at 32 (by decide +kernel) rfl, ⟨by decide +kernel, by decide +kernel, by decide +kernel⟩, by decide⟩, gt_at 550 (by decide +kernel) rfl, gt_at 551 (by decide +kernel) rfl⟩
theorem pn_X5_race : plainName yX5_race.cls = true := by decide +kernel
theorem mw_X5_swayBy : MV yX5_swayBy cX5_swayBy 2 (some .int) 1 := ⟨⟨gt_at 447 (by decide +kernel) rfl, gt_at 32 (by decide +kernel) rfl, ⟨by decide +kernel, by decide +kernel, by decide +kernel⟩, by decide⟩, gt_at 445 (by decide +kernel) rfl, gt_at 446 (by decide +kernel) rfl⟩
theorem pn_X5_swayBy : plainName yX5_swayBy.cls = true := by decide +kernel
theorem mw_X7_init : MI yX7_init cX7_init 1 0 := ⟨⟨gt_at 592 (by decide +kernel) rfl, gt_at 36 (by decide +kernel) rfl, ⟨by decide +kernel, by decide +kernel, by decide +kernel⟩, by decide⟩, rfl, gt_at 591 (by decide +kernel) rfl⟩
theorem pn_X7_init : plainName yX7_init.cls = true := by decide +kernel
theorem mw_X7_about : MV yX7_about cX7_about 3 (some .int) 2 := ⟨⟨gt_at 730 (by decide +kernel) rfl, gt_at 36 (by decide +kernel) rfl, ⟨by decide +kernel, by decide +kernel, by decide +kernel⟩, by decide⟩, gt_at 728 (by decide +kernel) rfl, gt_at 729 (by decide +kernel) rfl⟩
theorem pn_X7_about : plainName yX7_about.cls = true := by decide +kernel
theorem mw_X7_as : MV yX7_as cX7_as 4 (some .int) 2 := ⟨⟨gt_at 761 (by decide +kernel) rfl, gt_at 36 (by decide +kernel) rfl, ⟨by decide +kernel, by decide +kernel, by decide +kernel⟩, by decide⟩, gt_at 759 (by decide +kernel) rfl, gt_at 760 (by decide +kernel) rfl⟩
theorem pn_X7_as : plainName yX7_as.cls = true := by decide +kernel
theorem mw_X7_at : MV yX7_at cX7_at 2 (some .int) 1 := ⟨⟨gt_at 719 (by decide +kernel) rfl, gt_at 36 (by decide +kernel) rfl, ⟨by decide +kernel, by decide +kernel, by decide +kernel⟩, by decide⟩, gt_at 718 (by decide +kernel) rfl, gt_at 10 (by decide +kernel) rfl⟩
theorem pn_X7_at : plainName yX7_at.cls = true := by decide +kernel
theorem mw_X7_bears : MS yX7_bears cX7_bears 1 (some .int) 1 := ⟨⟨gt_at 753 (by decide +kernel) rfl, gt_at 36 (by decide +kernel) rfl, ⟨by decide +kernel, by decide +kernel, by decide +kernel⟩, by decide⟩, gt_at 752 (by decide +kernel) rfl⟩
theorem pn_X7_bears : plainName yX7_bears.cls = true := by decide +kernel
theorem mw_X7_blank : MV yX7_blank cX7_blank 2 (some .int) 0 := ⟨⟨gt_at 707 (by decide +kernel) rfl, gt_at 36 (by decide +kernel) rfl, ⟨by decide +kernel, by decide +kernel, by decide +kernel⟩, by decide⟩, gt_at 705 (by decide +kernel) rfl, gt_at 706 (by decide +kernel) rfl⟩
theorem pn_X7_blank : plainName yX7_blank.cls = true := by decide +kernel
theorem mw_X7_blocks : MV yX7_blocks cX7_blocks 3 (some .int) 1 := ⟨⟨gt_at 769 (by decide +kernel) rfl, gt_at 36 (by decide +kernel) rfl, ⟨by decide +kernel, by decide +kernel, by decide +kernel⟩, by decide⟩, gt_at 767 (by decide +kernel) rfl, gt_at 768 (by decide +kernel) rfl⟩
theorem pn_X7_blocks : plainName yX7_blocks.cls = true := by decide +kernel
theorem mw_X7_count : MV yX7_count cX7_count 2 (some .int) 1 := ⟨⟨gt_at 861 (by decide +kernel) rfl, gt_at 36 (by decide +kernel) rfl, ⟨by decide +kernel, by decide +kernel, by decide +kernel⟩, by decide⟩, gt_at 859 (by decide +kernel) rfl, gt_at 860 (by decide +kernel) rfl⟩
theorem pn_X7_count : plainName yX7_count.cls = true := by decide +kernel
theorem mw_X7_digest : MV yX7_digest cX7_digest 3 (some .long) 0 := ⟨⟨gt_at 873 (by decide +kernel) rfl, gt_at 36 (by decide +kernel) rfl, ⟨by decide +kernel, by decide +kernel, by decide +kernel⟩, by decide⟩, gt_at 871 (by decide +kernel) rfl, gt_at 872 (by decide +kernel) rfl⟩
theorem pn_X7_digest : plainName yX7_digest.cls = true := by decide +kernel
theorem mw_X7_draw : MV yX7_draw cX7_draw 2 (some .int) 1 := ⟨⟨gt_at 845 (by decide +kernel) rfl, gt_at 36 (by decide +kernel) rfl, ⟨by decide +kernel, by decide +kernel, by decide +kernel⟩, by decide⟩, gt_at 844 (by decide +kernel) rfl, gt_at 25 (by decide +kernel) rfl⟩
theorem pn_X7_draw : plainName yX7_draw.cls = true := by decide +kernel
theorem mw_X7_fault : MV yX7_fault cX7_fault 1 (some .int) 0 := ⟨⟨gt_at 711 (by decide +kernel) rfl, gt_at 36 (by decide +kernel) rfl, ⟨by decide +kernel, by decide +kernel, by decide +kernel⟩, by decide⟩, gt_at 709 (by decide +kernel) rfl, gt_at 710 (by decide +kernel) rfl⟩
theorem pn_X7_fault : plainName yX7_fault.cls = true := by decide +kernel
theorem mw_X7_fewBy : MV yX7_fewBy cX7_fewBy 6 (some .int) 4 := ⟨⟨gt_at 801 (by decide +kernel) rfl, gt_at 36 (by decide +kernel) rfl, ⟨by decide +kernel, by decide +kernel, by decide +kernel⟩, by decide⟩, gt_at 800 (by decide +kernel) rfl, gt_at 20 (by decide +kernel) rfl⟩
theorem pn_X7_fewBy : plainName yX7_fewBy.cls = true := by decide +kernel
theorem mw_X7_fewWith : MV yX7_fewWith cX7_fewWith 2 (some .int) 1 := ⟨⟨gt_at 813 (by decide +kernel) rfl, gt_at 36 (by decide +kernel) rfl, ⟨by decide +kernel, by decide +kernel, by decide +kernel⟩, by decide⟩, gt_at 812 (by decide +kernel) rfl, gt_at 22 (by decide +kernel) rfl⟩
theorem pn_X7_fewWith : plainName yX7_fewWith.cls = true := by decide +kernel
theorem mw_X7_forget : MV yX7_forget cX7_forget 2 (some .int) 0 := ⟨⟨gt_at 829 (by decide +kernel) rfl, gt_at 36 (by decide +kernel) rfl, ⟨by decide +kernel, by decide +kernel, by decide +kernel⟩, by decide⟩, gt_at 827 (by decide +kernel) rfl, gt_at 828 (by decide +kernel) rfl⟩
theorem pn_X7_forget : plainName yX7_forget.cls = true := by decide +kernel
theorem mw_X7_goes : MV yX7_goes cX7_goes 4 (some .boolean) 1 := ⟨⟨gt_at 777 (by decide +kernel) rfl, gt_at 36 (by decide +kernel) rfl, ⟨by decide +kernel, by decide +kernel, by decide +kernel⟩, by decide⟩, gt_at 776 (by decide +kernel) rfl, gt_at 16 (by decide +kernel) rfl⟩
theorem pn_X7_goes : plainName yX7_goes.cls = true := by decide +kernel
theorem mw_X7_hear : MV yX7_hear cX7_hear 5 (some .int) 4 := ⟨⟨gt_at 825 (by decide +kernel) rfl, gt_at 36 (by decide +kernel) rfl, ⟨by decide +kernel, by decide +kernel, by decide +kernel⟩, by decide⟩, gt_at 823 (by decide +kernel) rfl, gt_at 824 (by decide +kernel) rfl⟩
theorem pn_X7_hear : plainName yX7_hear.cls = true := by decide +kernel
theorem mw_X7_heights : MV yX7_heights cX7_heights 1 (some .int) 0 := ⟨⟨gt_at 833 (by decide +kernel) rfl, gt_at 36 (by decide +kernel) rfl, ⟨by decide +kernel, by decide +kernel, by decide +kernel⟩, by decide⟩, gt_at 831 (by decide +kernel) rfl, gt_at 832 (by decide +kernel) rfl⟩
theorem pn_X7_heights : plainName yX7_heights.cls = true := by decide +kernel
theorem mw_X7_heightsNow : MV yX7_heightsNow cX7_heightsNow 5 (some .int) 0 := ⟨⟨gt_at 750 (by decide +kernel) rfl, gt_at 36 (by decide +kernel) rfl, ⟨by decide +kernel, by decide +kernel, by decide +kernel⟩, by decide⟩, gt_at 749 (by decide +kernel) rfl, gt_at 15 (by decide +kernel) rfl⟩
theorem pn_X7_heightsNow : plainName yX7_heightsNow.cls = true := by decide +kernel
theorem mw_X7_high : MV yX7_high cX7_high 1 (some .int) 0 := ⟨⟨gt_at 805 (by decide +kernel) rfl, gt_at 36 (by decide +kernel) rfl, ⟨by decide +kernel, by decide +kernel, by decide +kernel⟩, by decide⟩, gt_at 803 (by decide +kernel) rfl, gt_at 804 (by decide +kernel) rfl⟩
theorem pn_X7_high : plainName yX7_high.cls = true := by decide +kernel
theorem mw_X7_highNow : MV yX7_highNow cX7_highNow 3 (some .int) 0 := ⟨⟨gt_at 809 (by decide +kernel) rfl, gt_at 36 (by decide +kernel) rfl, ⟨by decide +kernel, by decide +kernel, by decide +kernel⟩, by decide⟩, gt_at 808 (by decide +kernel) rfl, gt_at 21 (by decide +kernel) rfl⟩
theorem pn_X7_highNow : plainName yX7_highNow.cls = true := by decide +kernel
theorem mw_X7_howMany : MV yX7_howMany cX7_howMany 2 (some .int) 1 := ⟨⟨gt_at 865 (by decide +kernel) rfl, gt_at 36 (by decide +kernel) rfl, ⟨by decide +kernel, by decide +kernel, by decide +kernel⟩, by decide⟩, gt_at 864 (by decide +kernel) rfl, gt_at 26 (by decide +kernel) rfl⟩
theorem pn_X7_howMany : plainName yX7_howMany.cls = true := by decide +kernel
theorem mw_X7_image : MV yX7_image cX7_image 2 (some .int) 0 := ⟨⟨gt_at 853 (by decide +kernel) rfl, gt_at 36 (by decide +kernel) rfl, ⟨by decide +kernel, by decide +kernel, by decide +kernel⟩, by decide⟩, gt_at 851 (by decide +kernel) rfl, gt_at 852 (by decide +kernel) rfl⟩
theorem pn_X7_image : plainName yX7_image.cls = true := by decide +kernel
theorem mw_X7_isIn : MS yX7_isIn cX7_isIn 2 (some .boolean) 2 := ⟨⟨gt_at 757 (by decide +kernel) rfl, gt_at 36 (by decide +kernel) rfl, ⟨by decide +kernel, by decide +kernel, by decide +kernel⟩, by decide⟩, gt_at 756 (by decide +kernel) rfl⟩
theorem pn_X7_isIn : plainName yX7_isIn.cls = true := by decide +kernel
theorem mw_X7_isPlace : MV yX7_isPlace cX7_isPlace 2 (some .boolean) 1 := ⟨⟨gt_at 734 (by decide +kernel) rfl, gt_at 36 (by decide +kernel) rfl, ⟨by decide +kernel, by decide +kernel, by decide +kernel⟩, by decide⟩, gt_at 733 (by decide +kernel) rfl, gt_at 11 (by decide +kernel) rfl⟩
theorem pn_X7_isPlace : plainName yX7_isPlace.cls = true := by decide +kernel
theorem mw_X7_isShorter : MV yX7_isShorter cX7_isShorter 7 (some .boolean) 3 := ⟨⟨gt_at 797 (by decide +kernel) rfl, gt_at 36 (by decide +kernel) rfl, ⟨by decide +kernel, by decide +kernel, by decide +kernel⟩, by decide⟩, gt_at 796 (by decide +kernel) rfl, gt_at 19 (by decide +kernel) rfl⟩
theorem pn_X7_isShorter : plainName yX7_isShorter.cls = true := by decide +kernel
theorem mw_X7_kindBy : MS yX7_kindBy cX7_kindBy 1 (some .int) 1 := ⟨⟨gt_at 722 (by decide +kernel) rfl, gt_at 36 (by decide +kernel) rfl, ⟨by decide +kernel, by decide +kernel, by decide +kernel⟩, by decide⟩, gt_at 721 (by decide +kernel) rfl⟩
theorem pn_X7_kindBy : plainName yX7_kindBy.cls = true := by decide +kernel
theorem mw_X7_lay : MV yX7_lay cX7_lay 4 (some .int) 2 := ⟨⟨gt_at 765 (by decide +kernel) rfl, gt_at 36 (by decide +kernel) rfl, ⟨by decide +kernel, by decide +kernel, by decide +kernel⟩, by decide⟩, gt_at 763 (by decide +kernel) rfl, gt_at 764 (by decide +kernel) rfl⟩
theorem pn_X7_lay : plainName yX7_lay.cls = true := by decide +kernel
theorem mw_X7_layFew : MV yX7_layFew cX7_layFew 5 none 1 := ⟨⟨gt_at 793 (by decide +kernel) rfl, gt_at 36 (by decide +kernel) rfl, ⟨by decide +kernel, by decide +kernel, by decide +kernel⟩, by decide⟩, gt_at 792 (by decide +kernel) rfl, gt_at 18 (by decide +kernel) rfl⟩
theorem pn_X7_layFew : plainName yX7_layFew.cls = true := by decide +kernel
theorem mw_X7_letter : MV yX7_letter cX7_letter 2 (some .int) 1 := ⟨⟨gt_at 700 (by decide +kernel) rfl, gt_at 36 (by decide +kernel) rfl, ⟨by decide +kernel, by decide +kernel, by decide +kernel⟩, by decide⟩, gt_at 698 (by decide +kernel) rfl, gt_at 699 (by decide +kernel) rfl⟩
theorem pn_X7_letter : plainName yX7_letter.cls = true := by decide +kernel
theorem mw_X7_mend : MV yX7_mend cX7_mend 2 (some .int) 1 := ⟨⟨gt_at 817 (by decide +kernel) rfl, gt_at 36 (by decide +kernel) rfl, ⟨by decide +kernel, by decide +kernel, by decide +kernel⟩, by decide⟩, gt_at 815 (by decide +kernel) rfl, gt_at 816 (by decide +kernel) rfl⟩
theorem pn_X7_mend : plainName yX7_mend.cls = true := by decide +kernel
theorem mw_X7_mendNow : MV yX7_mendNow cX7_mendNow 7 (some .int) 1 := ⟨⟨gt_at 821 (by decide +kernel) rfl, gt_at 36 (by decide +kernel) rfl, ⟨by decide +kernel, by decide +kernel, by decide +kernel⟩, by decide⟩, gt_at 820 (by decide +kernel) rfl, gt_at 23 (by decide +kernel) rfl⟩
theorem pn_X7_mendNow : plainName yX7_mendNow.cls = true := by decide +kernel
theorem mw_X7_mix : MV yX7_mix cX7_mix 3 none 1 := ⟨⟨gt_at 878 (by decide +kernel) rfl, gt_at 36 (by decide +kernel) rfl, ⟨by decide +kernel, by decide +kernel, by decide +kernel⟩, by decide⟩, gt_at 877 (by decide +kernel) rfl, gt_at 28 (by decide +kernel) rfl⟩
theorem pn_X7_mix : plainName yX7_mix.cls = true := by decide +kernel
theorem mw_X7_placeNow : MV yX7_placeNow cX7_placeNow 3 (some .int) 2 := ⟨⟨gt_at 738 (by decide +kernel) rfl, gt_at 36 (by decide +kernel) rfl, ⟨by decide +kernel, by decide +kernel, by decide +kernel⟩, by decide⟩, gt_at 737 (by decide +kernel) rfl, gt_at 12 (by decide +kernel) rfl⟩
theorem pn_X7_placeNow : plainName yX7_placeNow.cls = true := by decide +kernel
theorem mw_X7_plain : MV yX7_plain cX7_plain 3 (some .int) 0 := ⟨⟨gt_at 869 (by decide +kernel) rfl, gt_at 36 (by decide +kernel) rfl, ⟨by decide +kernel, by decide +kernel, by decide +kernel⟩, by decide⟩, gt_at 868 (by decide +kernel) rfl, gt_at 27 (by decide +kernel) rfl⟩
theorem pn_X7_plain : plainName yX7_plain.cls = true := by decide +kernel
theorem mw_X7_quick : MV yX7_quick cX7_quick 2 (some .int) 1 := ⟨⟨gt_at 785 (by decide +kernel) rfl, gt_at 36 (by decide +kernel) rfl, ⟨by decide +kernel, by decide +kernel, by decide +kernel⟩, by decide⟩, gt_at 783 (by decide +kernel) rfl, gt_at 784 (by decide +kernel) rfl⟩
theorem pn_X7_quick : plainName yX7_quick.cls = true := by decide +kernel
theorem mw_X7_quickNow : MV yX7_quickNow cX7_quickNow 7 (some .int) 1 := ⟨⟨gt_at 789 (by decide +kernel) rfl, gt_at 36 (by decide +kernel) rfl, ⟨by decide +kernel, by decide +kernel, by decide +kernel⟩, by decide⟩, gt_at 788 (by decide +kernel) rfl, gt_at 17 (by decide +kernel) rfl⟩
theorem pn_X7_quickNow : plainName yX7_quickNow.cls = true := by decide +kernel
theorem mw_X7_races : MV yX7_races cX7_races 4 (some .int) 3 := ⟨⟨gt_at 837 (by decide +kernel) rfl, gt_at 36 (by decide +kernel) rfl, ⟨by decide +kernel, by decide +kernel, by decide +kernel⟩, by decide⟩, gt_at 835 (by decide +kernel) rfl, gt_at 836 (by decide +kernel) rfl⟩
theorem pn_X7_races : plainName yX7_races.cls = true := by decide +kernel
theorem mw_X7_racesNow : MV yX7_racesNow cX7_racesNow 10 (some .int) 3 := ⟨⟨gt_at 841 (by decide +kernel) rfl, gt_at 36 (by decide +kernel) rfl, ⟨by decide +kernel, by decide +kernel, by decide +kernel⟩, by decide⟩, gt_at 840 (by decide +kernel) rfl, gt_at 24 (by decide +kernel) rfl⟩
theorem pn_X7_racesNow : plainName yX7_racesNow.cls = true := by decide +kernel
theorem mw_X7_read : MV yX7_read cX7_read 3 (some .int) 0 := ⟨⟨gt_at 715 (by decide +kernel) rfl, gt_at 36 (by decide +kernel) rfl, ⟨by decide +kernel, by decide +kernel, by decide +kernel⟩, by decide⟩, gt_at 714 (by decide +kernel) rfl, gt_at 9 (by decide +kernel) rfl⟩
theorem pn_X7_read : plainName yX7_read.cls = true := by decide +kernel
theorem mw_X7_restore : MV yX7_restore cX7_restore 2 (some .int) 0 := ⟨⟨gt_at 857 (by decide +kernel) rfl, gt_at 36 (by decide +kernel) rfl, ⟨by decide +kernel, by decide +kernel, by decide +kernel⟩, by decide⟩, gt_at 855 (by decide +kernel) rfl, gt_at 856 (by decide +kernel) rfl⟩
theorem pn_X7_restore : plainName yX7_restore.cls = true := by decide +kernel
theorem mw_X7_step : MV yX7_step cX7_step 2 (some .int) 1 := ⟨⟨gt_at 773 (by decide +kernel) rfl, gt_at 36 (by decide +kernel) rfl, ⟨by decide +kernel, by decide +kernel, by decide +kernel⟩, by decide⟩, gt_at 771 (by decide +kernel) rfl, gt_at 772 (by decide +kernel) rfl⟩
theorem pn_X7_step : plainName yX7_step.cls = true := by decide +kernel
theorem mw_X7_swayBy : MV yX7_swayBy cX7_swayBy 6 (some .int) 3 := ⟨⟨gt_at 742 (by decide +kernel) rfl, gt_at 36 (by decide +kernel) rfl, ⟨by decide +kernel, by decide +kernel, by decide +kernel⟩, by decide⟩, gt_at 741 (by decide +kernel) rfl, gt_at 13 (by decide +kernel) rfl⟩
theorem pn_X7_swayBy : plainName yX7_swayBy.cls = true := by decide +kernel
theorem mw_X7_tryAt : MV yX7_tryAt cX7_tryAt 9 (some .int) 1 := ⟨⟨gt_at 746 (by decide +kernel) rfl, gt_at 36 (by decide +kernel) rfl, ⟨by decide +kernel, by decide +kernel, by decide +kernel⟩, by decide⟩, gt_at 745 (by decide +kernel) rfl, gt_at 14 (by decide +kernel) rfl⟩
theorem pn_X7_tryAt : plainName yX7_tryAt.cls = true := by decide +kernel
theorem mw_X7_within : MS yX7_within cX7_within 3 (some .boolean) 3 := ⟨⟨gt_at 703 (by decide +kernel) rfl, gt_at 36 (by decide +kernel) rfl, ⟨by decide +kernel, by decide +kernel, by decide +kernel⟩, by decide⟩, gt_at 702 (by decide +kernel) rfl⟩
theorem pn_X7_within : plainName yX7_within.cls = true := by decide +kernel
theorem mw_X7_would : MV yX7_would cX7_would 2 (some .int) 1 := ⟨⟨gt_at 781 (by decide +kernel) rfl, gt_at 36 (by decide +kernel) rfl, ⟨by decide +kernel, by decide +kernel, by decide +kernel⟩, by decide⟩, gt_at 779 (by decide +kernel) rfl, gt_at 780 (by decide +kernel) rfl⟩
theorem pn_X7_would : plainName yX7_would.cls = true := by decide +kernel
theorem mw_X7_yard : MV yX7_yard cX7_yard 3 (some .int) 0 := ⟨⟨gt_at 726 (by decide +kernel) rfl, gt_at 36 (by decide +kernel) rfl, ⟨by decide +kernel, by decide +kernel, by decide +kernel⟩, by decide⟩, gt_at 724 (by decide +kernel) rfl, gt_at 725 (by decide +kernel) rfl⟩
theorem pn_X7_yard : plainName yX7_yard.cls = true := by decide +kernel
theorem mw_J9_max_7cf53 : MS yJ9_max_7cf53 cJ9_max_7cf53 2 (some .int) 2 := ⟨⟨gt_at 268 (by decide +kernel) rfl, gt_at 40 (by decide +kernel) rfl, ⟨by decide +kernel, by decide +kernel, by decide +kernel⟩, by decide⟩, gt_at 267 (by decide +kernel) rfl⟩
theorem mw_J9_min_7cf53 : MS yJ9_min_7cf53 cJ9_min_7cf53 2 (some .int) 2 := ⟨⟨gt_at 271 (by decide +kernel) rfl, gt_at 40 (by decide +kernel) rfl, ⟨by decide +kernel, by decide +kernel, by decide +kernel⟩, by decide⟩, gt_at 270 (by decide +kernel) rfl⟩
theorem mw_J0_checkBoundsBeginEnd_23922 : MS yJ0_checkBoundsBeginEnd_23922 cJ0_checkBoundsBeginEnd_23922 3 none 3 := ⟨⟨gt_at 292 (by decide +kernel) rfl, gt_at 38 (by decide +kernel) rfl, ⟨by decide +kernel, by decide +kernel, by decide +kernel⟩, by decide⟩, gt_at 291 (by decide +kernel) rfl⟩
theorem pn_J0_checkBoundsBeginEnd_23922 : plainName yJ0_checkBoundsBeginEnd_23922.cls = true := by decide +kernel
theorem mw_J0_coder_7d493 : MV yJ0_coder_7d493 cJ0_coder_7d493 1 (some .byte) 0 := ⟨⟨gt_at 259 (by decide +kernel) rfl, gt_at 38 (by decide +kernel) rfl, ⟨by decide +kernel, by decide +kernel, by decide +kernel⟩, by decide⟩, gt_at 257 (by decide +kernel) rfl, gt_at 258 (by decide +kernel) rfl⟩
theorem pn_J0_coder_7d493 : plainName yJ0_coder_7d493.cls = true := by decide +kernel
theorem mw_J0_indexOf_0f7a4 : MV yJ0_indexOf_0f7a4 cJ0_indexOf_0f7a4 2 (some .int) 1 := ⟨⟨gt_at 241 (by decide +kernel) rfl, gt_at 38 (by decide +kernel) rfl, ⟨by decide +kernel, by decide +kernel, by decide +kernel⟩, by decide⟩, gt_at 239 (by decide +kernel) rfl, gt_at 240 (by decide +kernel) rfl⟩
theorem pn_J0_indexOf_0f7a4 : plainName yJ0_indexOf_0f7a4.cls = true := by decide +kernel
theorem mw_J0_indexOf_7cf53 : MV yJ0_indexOf_7cf53 cJ0_indexOf_7cf53 3 (some .int) 2 := ⟨⟨gt_at 245 (by decide +kernel) rfl, gt_at 38 (by decide +kernel) rfl, ⟨by decide +kernel, by decide +kernel, by decide +kernel⟩, by decide⟩, gt_at 243 (by decide +kernel) rfl, gt_at 244 (by decide +kernel) rfl⟩
theorem pn_J0_indexOf_7cf53 : plainName yJ0_indexOf_7cf53.cls = true := by decide +kernel
theorem mw_J0_isLatin1_aae02 : MV yJ0_isLatin1_aae02 cJ0_isLatin1_aae02 1 (some .boolean) 0 := ⟨⟨gt_at 249 (by decide +kernel) rfl, gt_at 38 (by decide +kernel) rfl, ⟨by decide +kernel, by decide +kernel, by decide +kernel⟩, by decide⟩, gt_at 247 (by decide +kernel) rfl, gt_at 248 (by decide +kernel) rfl⟩
theorem pn_J0_isLatin1_aae02 : plainName yJ0_isLatin1_aae02.cls = true := by decide +kernel
theorem mw_J0_length_8abf5 : MV yJ0_length_8abf5 cJ0_length_8abf5 1 (some .int) 0 := ⟨⟨gt_at 255 (by decide +kernel) rfl, gt_at 38 (by decide +kernel) rfl, ⟨by decide +kernel, by decide +kernel, by decide +kernel⟩, by decide⟩, gt_at 253 (by decide +kernel) rfl, gt_at 254 (by decide +kernel) rfl⟩
theorem pn_J0_length_8abf5 : plainName yJ0_length_8abf5.cls = true := by decide +kernel
theorem mw_J1_canEncode_9a6ad : MS yJ1_canEncode_9a6ad cJ1_canEncode_9a6ad 1 (some .boolean) 1 := ⟨⟨gt_at 265 (by decide +kernel) rfl, gt_at 39 (by decide +kernel) rfl, ⟨by decide +kernel, by decide +kernel, by decide +kernel⟩, by decide⟩, gt_at 264 (by decide +kernel) rfl⟩
theorem pn_J1_canEncode_9a6ad : plainName yJ1_canEncode_9a6ad.cls = true := by decide +kernel
theorem mw_J1_indexOf_4cfef : MS yJ1_indexOf_4cfef cJ1_indexOf_4cfef 4 (some .int) 4 := ⟨⟨gt_at 262 (by decide +kernel) rfl, gt_at 39 (by decide +kernel) rfl, ⟨by decide +kernel, by decide +kernel, by decide +kernel⟩, by decide⟩, gt_at 261 (by decide +kernel) rfl⟩
theorem pn_J1_indexOf_4cfef : plainName yJ1_indexOf_4cfef.cls = true := by decide +kernel
theorem mw_J1_indexOfChar_4cfef : MS yJ1_indexOfChar_4cfef cJ1_indexOfChar_4cfef 6 (some .int) 4 := ⟨⟨gt_at 274 (by decide +kernel) rfl, gt_at 39 (by decide +kernel) rfl, ⟨by decide +kernel, by decide +kernel, by decide +kernel⟩, by decide⟩, gt_at 273 (by decide +kernel) rfl⟩
theorem pn_J1_indexOfChar_4cfef : plainName yJ1_indexOfChar_4cfef.cls = true := by decide +kernel
theorem ic_m1 : Int32.ofInt (-1) = (-1 : Int32) := by decide
theorem ic_0 : Int32.ofInt (0) = (0 : Int32) := by decide
theorem ic_1 : Int32.ofInt (1) = (1 : Int32) := by decide
theorem ic_2 : Int32.ofInt (2) = (2 : Int32) := by decide
theorem ic_3 : Int32.ofInt (3) = (3 : Int32) := by decide
theorem ic_4 : Int32.ofInt (4) = (4 : Int32) := by decide
theorem ic_5 : Int32.ofInt (5) = (5 : Int32) := by decide
theorem bp_m104 : (Int8.ofInt (-104)).toInt32 = (-104 : Int32) := by decide
theorem bp_m103 : (Int8.ofInt (-103)).toInt32 = (-103 : Int32) := by decide
theorem bp_m102 : (Int8.ofInt (-102)).toInt32 = (-102 : Int32) := by decide
theorem bp_m101 : (Int8.ofInt (-101)).toInt32 = (-101 : Int32) := by decide
theorem bp_m2 : (Int8.ofInt (-2)).toInt32 = (-2 : Int32) := by decide
theorem bp_6 : (Int8.ofInt (6)).toInt32 = (6 : Int32) := by decide
theorem bp_9 : (Int8.ofInt (9)).toInt32 = (9 : Int32) := by decide
theorem bp_10 : (Int8.ofInt (10)).toInt32 = (10 : Int32) := by decide
theorem bp_11 : (Int8.ofInt (11)).toInt32 = (11 : Int32) := by decide
theorem bp_12 : (Int8.ofInt (12)).toInt32 = (12 : Int32) := by decide
theorem bp_13 : (Int8.ofInt (13)).toInt32 = (13 : Int32) := by decide
theorem bp_16 : (Int8.ofInt (16)).toInt32 = (16 : Int32) := by decide
theorem bp_31 : (Int8.ofInt (31)).toInt32 = (31 : Int32) := by decide
theorem bp_32 : (Int8.ofInt (32)).toInt32 = (32 : Int32) := by decide
theorem bp_40 : (Int8.ofInt (40)).toInt32 = (40 : Int32) := by decide
theorem bp_48 : (Int8.ofInt (48)).toInt32 = (48 : Int32) := by decide
theorem bp_49 : (Int8.ofInt (49)).toInt32 = (49 : Int32) := by decide
theorem bp_57 : (Int8.ofInt (57)).toInt32 = (57 : Int32) := by decide
theorem bp_59 : (Int8.ofInt (59)).toInt32 = (59 : Int32) := by decide
theorem bp_60 : (Int8.ofInt (60)).toInt32 = (60 : Int32) := by decide
theorem bp_126 : (Int8.ofInt (126)).toInt32 = (126 : Int32) := by decide
theorem sp_144 : (Int16.ofInt (144)).toInt32 = (144 : Int32) := by decide
theorem sp_255 : (Int16.ofInt (255)).toInt32 = (255 : Int32) := by decide
theorem kc_X7_118 : Cond.constant RX7 118 268435456 ∈ gt := gt_at 754 (by decide +kernel) rfl
theorem kc_X6_189 : Cond.constantLong RX6 189 1063 ∈ gt := gt_at 581 (by decide +kernel) rfl
theorem kc_X6_191 : Cond.constantLong RX6 191 31 ∈ gt := gt_at 582 (by decide +kernel) rfl
theorem kc_X5_79 : Cond.constantLong RX5 79 1103515245 ∈ gt := gt_at 553 (by decide +kernel) rfl
theorem kc_X5_81 : Cond.constantLong RX5 81 12345 ∈ gt := gt_at 554 (by decide +kernel) rfl
theorem kc_X5_83 : Cond.constantLong RX5 83 2147483647 ∈ gt := gt_at 555 (by decide +kernel) rfl
theorem kc_X5_85 : Cond.constantLong RX5 85 3 ∈ gt := gt_at 556 (by decide +kernel) rfl
theorem kc_X7_152 : Cond.constantLong RX7 152 1103515245 ∈ gt := gt_at 846 (by decide +kernel) rfl
theorem kc_X7_158 : Cond.constantLong RX7 158 12345 ∈ gt := gt_at 847 (by decide +kernel) rfl
theorem kc_X7_160 : Cond.constantLong RX7 160 2147483647 ∈ gt := gt_at 848 (by decide +kernel) rfl
theorem kc_X7_162 : Cond.constantLong RX7 162 65536 ∈ gt := gt_at 849 (by decide +kernel) rfl
theorem kc_X7_200 : Cond.constantLong RX7 200 31 ∈ gt := gt_at 879 (by decide +kernel) rfl
theorem kc_X7_205 : Cond.constantLong RX7 205 1063 ∈ gt := gt_at 874 (by decide +kernel) rfl
theorem cl_X6_7 : Cond.classLink RX6 7 RX3 ∈ gt := gt_at 52 (by decide +kernel) rfl
theorem cl_X6_16 : Cond.classLink RX6 16 RX5 ∈ gt := gt_at 66 (by decide +kernel) rfl
theorem cl_X6_29 : Cond.classLink RX6 29 RX0 ∈ gt := gt_at 137 (by decide +kernel) rfl
theorem cl_X6_36 : Cond.classLink RX6 36 RX4 ∈ gt := gt_at 139 (by decide +kernel) rfl
theorem cl_X5_7 : Cond.classLink RX5 7 RX0 ∈ gt := gt_at 72 (by decide +kernel) rfl
theorem cl_X5_16 : Cond.classLink RX5 16 RX1 ∈ gt := gt_at 85 (by decide +kernel) rfl
theorem cl_L_7 : Cond.classLink RL 7 RX6 ∈ gt := gt_at 44 (by decide +kernel) rfl
theorem cl_L_10 : Cond.classLink RL 10 RX7 ∈ gt := gt_at 588 (by decide +kernel) rfl
theorem in_X6 : Cond.instantiable RX6 11 ∈ gt := gt_at 45 (by decide +kernel) rfl
theorem in_X0 : Cond.instantiable RX0 2 ∈ gt := gt_at 73 (by decide +kernel) rfl
theorem in_X1 : Cond.instantiable RX1 5 ∈ gt := gt_at 86 (by decide +kernel) rfl
theorem in_X3 : Cond.instantiable RX3 2 ∈ gt := gt_at 53 (by decide +kernel) rfl
theorem in_X4 : Cond.instantiable RX4 6 ∈ gt := gt_at 140 (by decide +kernel) rfl
theorem in_X5 : Cond.instantiable RX5 7 ∈ gt := gt_at 67 (by decide +kernel) rfl
theorem in_X7 : Cond.instantiable RX7 34 ∈ gt := gt_at 589 (by decide +kernel) rfl
theorem iz_X6 : Cond.initialized RX6 ∈ gt := gt_at 30 (by decide +kernel) rfl
theorem iz_X0 : Cond.initialized RX0 ∈ gt := gt_at 33 (by decide +kernel) rfl
theorem iz_X1 : Cond.initialized RX1 ∈ gt := gt_at 34 (by decide +kernel) rfl
theorem iz_X2 : Cond.initialized RX2 ∈ gt := gt_at 37 (by decide +kernel) rfl
theorem iz_X3 : Cond.initialized RX3 ∈ gt := gt_at 31 (by decide +kernel) rfl
theorem iz_X4 : Cond.initialized RX4 ∈ gt := gt_at 35 (by decide +kernel) rfl
theorem iz_X5 : Cond.initialized RX5 ∈ gt := gt_at 32 (by decide +kernel) rfl
theorem iz_L : Cond.initialized RL ∈ gt := gt_at 29 (by decide +kernel) rfl
theorem iz_X7 : Cond.initialized RX7 ∈ gt := gt_at 36 (by decide +kernel) rfl
theorem iz_J11 : Cond.initialized RJ11 ∈ gt := gt_at 43 (by decide +kernel) rfl
theorem iz_J9 : Cond.initialized RJ9 ∈ gt := gt_at 40 (by decide +kernel) rfl
theorem iz_J0 : Cond.initialized RJ0 ∈ gt := gt_at 38 (by decide +kernel) rfl
theorem iz_J1 : Cond.initialized RJ1 ∈ gt := gt_at 39 (by decide +kernel) rfl
theorem iz_J2 : Cond.initialized RJ2 ∈ gt := gt_at 41 (by decide +kernel) rfl
theorem iz_J3 : Cond.initialized RJ3 ∈ gt := gt_at 42 (by decide +kernel) rfl
theorem ac_boolean : Cond.arrayClass .boolean ∈ gt := gt_at 107 (by decide +kernel) rfl
theorem ac_byte : Cond.arrayClass .byte ∈ gt := gt_at 324 (by decide +kernel) rfl
theorem ac_int : Cond.arrayClass .int ∈ gt := gt_at 65 (by decide +kernel) rfl
theorem oi_1 : Cond.instanceMethod objectInit ∈ gt := gt_at 50 (by decide +kernel) rfl
theorem oi_2 : Cond.code objectInit ⟨#[0xb1]⟩ 1 none ∈ gt := gt_at 51 (by decide +kernel) rfl
abbrev aX6_init (k : Nat) (mc ms : Nat) (av : List Value) (h : AH) (K : Option Value → AH → Prop) : Prop := AM k mc ms yX6_init cX6_init 1 none av h K
abbrev aX6_about (k : Nat) (av : List Value) (h : AH) (K : Option Value → AH → Prop) : Prop := AM k 0 0 yX6_about cX6_about 4 (some .int) av h K
abbrev aX6_as (k : Nat) (av : List Value) (h : AH) (K : Option Value → AH → Prop) : Prop := AM k 0 0 yX6_as cX6_as 3 (some .int) av h K
abbrev aX6_bearable (k : Nat) (av : List Value) (h : AH) (K : Option Value → AH → Prop) : Prop := AM k 0 0 yX6_bearable cX6_bearable 1 (some .int) av h K
abbrev aX6_blank (k : Nat) (av : List Value) (h : AH) (K : Option Value → AH → Prop) : Prop := AM k 0 0 yX6_blank cX6_blank 1 (some .int) av h K
abbrev aX6_blocks (k : Nat) (av : List Value) (h : AH) (K : Option Value → AH → Prop) : Prop := AM k 0 0 yX6_blocks cX6_blocks 2 (some .int) av h K
abbrev aX6_count (k : Nat) (av : List Value) (h : AH) (K : Option Value → AH → Prop) : Prop := AM k 0 0 yX6_count cX6_count 2 (some .int) av h K
abbrev aX6_digest (k : Nat) (av : List Value) (h : AH) (K : Option Value → AH → Prop) : Prop := AM k 0 0 yX6_digest cX6_digest 5 (some .long) av h K
abbrev aX6_fault (k : Nat) (av : List Value) (h : AH) (K : Option Value → AH → Prop) : Prop := AM k 0 0 yX6_fault cX6_fault 1 (some .int) av h K
abbrev aX6_findMend (k : Nat) (av : List Value) (h : AH) (K : Option Value → AH → Prop) : Prop := AM k 0 0 yX6_findMend cX6_findMend 5 none av h K
abbrev aX6_forget (k : Nat) (av : List Value) (h : AH) (K : Option Value → AH → Prop) : Prop := AM k 0 0 yX6_forget cX6_forget 1 (some .int) av h K
abbrev aX6_greatestHeight (k : Nat) (av : List Value) (h : AH) (K : Option Value → AH → Prop) : Prop := AM k 0 0 yX6_greatestHeight cX6_greatestHeight 2 (some .int) av h K
abbrev aX6_hasYard (k : Nat) (av : List Value) (h : AH) (K : Option Value → AH → Prop) : Prop := AM k 0 0 yX6_hasYard cX6_hasYard 1 (some .boolean) av h K
abbrev aX6_hear (k : Nat) (av : List Value) (h : AH) (K : Option Value → AH → Prop) : Prop := AM k 0 0 yX6_hear cX6_hear 5 (some .int) av h K
abbrev aX6_heights (k : Nat) (av : List Value) (h : AH) (K : Option Value → AH → Prop) : Prop := AM k 0 0 yX6_heights cX6_heights 1 (some .int) av h K
abbrev aX6_high (k : Nat) (av : List Value) (h : AH) (K : Option Value → AH → Prop) : Prop := AM k 0 0 yX6_high cX6_high 1 (some .int) av h K
abbrev aX6_image (k : Nat) (av : List Value) (h : AH) (K : Option Value → AH → Prop) : Prop := AM k 0 0 yX6_image cX6_image 1 (some .int) av h K
abbrev aX6_lay (k : Nat) (av : List Value) (h : AH) (K : Option Value → AH → Prop) : Prop := AM k 0 0 yX6_lay cX6_lay 3 (some .int) av h K
abbrev aX6_letter (k : Nat) (av : List Value) (h : AH) (K : Option Value → AH → Prop) : Prop := AM k 0 0 yX6_letter cX6_letter 2 (some .int) av h K
abbrev aX6_mend (k : Nat) (av : List Value) (h : AH) (K : Option Value → AH → Prop) : Prop := AM k 0 0 yX6_mend cX6_mend 2 (some .int) av h K
abbrev aX6_quick (k : Nat) (av : List Value) (h : AH) (K : Option Value → AH → Prop) : Prop := AM k 0 0 yX6_quick cX6_quick 3 (some .int) av h K
abbrev aX6_races (k : Nat) (av : List Value) (h : AH) (K : Option Value → AH → Prop) : Prop := AM k 0 0 yX6_races cX6_races 5 (some .int) av h K
abbrev aX6_refusalOfStep (k : Nat) (av : List Value) (h : AH) (K : Option Value → AH → Prop) : Prop := AM k 0 0 yX6_refusalOfStep cX6_refusalOfStep 2 (some .int) av h K
abbrev aX6_restore (k : Nat) (av : List Value) (h : AH) (K : Option Value → AH → Prop) : Prop := AM k 0 0 yX6_restore cX6_restore 1 (some .int) av h K
abbrev aX6_step (k : Nat) (av : List Value) (h : AH) (K : Option Value → AH → Prop) : Prop := AM k 0 0 yX6_step cX6_step 3 (some .int) av h K
abbrev aX6_would (k : Nat) (av : List Value) (h : AH) (K : Option Value → AH → Prop) : Prop := AM k 0 0 yX6_would cX6_would 3 (some .int) av h K
abbrev aX6_yard (k : Nat) (av : List Value) (h : AH) (K : Option Value → AH → Prop) : Prop := AM k 0 0 yX6_yard cX6_yard 1 (some .int) av h K
abbrev aX0_init (k : Nat) (mc ms : Nat) (av : List Value) (h : AH) (K : Option Value → AH → Prop) : Prop := AM k mc ms yX0_init cX0_init 1 none av h K
abbrev aX0_copyFrom (k : Nat) (av : List Value) (h : AH) (K : Option Value → AH → Prop) : Prop := AM k 0 0 yX0_copyFrom cX0_copyFrom 3 none av h K
abbrev aX0_has (k : Nat) (av : List Value) (h : AH) (K : Option Value → AH → Prop) : Prop := AM k 0 0 yX0_has cX0_has 2 (some .boolean) av h K
abbrev aX0_kindAt (k : Nat) (av : List Value) (h : AH) (K : Option Value → AH → Prop) : Prop := AM k 0 0 yX0_kindAt cX0_kindAt 2 (some .int) av h K
abbrev aX0_places (k : Nat) (av : List Value) (h : AH) (K : Option Value → AH → Prop) : Prop := AM k 0 0 yX0_places cX0_places 1 (some .int) av h K
abbrev aX0_plainPlaces (k : Nat) (av : List Value) (h : AH) (K : Option Value → AH → Prop) : Prop := AM k 0 0 yX0_plainPlaces cX0_plainPlaces 3 (some .int) av h K
abbrev aX0_put (k : Nat) (av : List Value) (h : AH) (K : Option Value → AH → Prop) : Prop := AM k 0 0 yX0_put cX0_put 4 (some .int) av h K
abbrev aX0_read (k : Nat) (av : List Value) (h : AH) (K : Option Value → AH → Prop) : Prop := AM k 0 0 yX0_read cX0_read 3 none av h K
abbrev aX1_init (k : Nat) (mc ms : Nat) (av : List Value) (h : AH) (K : Option Value → AH → Prop) : Prop := AM k mc ms yX1_init cX1_init 1 none av h K
abbrev aX1_allows (k : Nat) (av : List Value) (h : AH) (K : Option Value → AH → Prop) : Prop := AM k 0 0 yX1_allows cX1_allows 5 (some .boolean) av h K
abbrev aX1_append (k : Nat) (av : List Value) (h : AH) (K : Option Value → AH → Prop) : Prop := AM k 0 0 yX1_append cX1_append 5 (some .boolean) av h K
abbrev aX1_bestTry (k : Nat) (av : List Value) (h : AH) (K : Option Value → AH → Prop) : Prop := AM k 0 0 yX1_bestTry cX1_bestTry 9 (some .int) av h K
abbrev aX1_clear (k : Nat) (av : List Value) (h : AH) (K : Option Value → AH → Prop) : Prop := AM k 0 0 yX1_clear cX1_clear 2 (some .int) av h K
abbrev aX1_copyFrom (k : Nat) (av : List Value) (h : AH) (K : Option Value → AH → Prop) : Prop := AM k 0 0 yX1_copyFrom cX1_copyFrom 3 none av h K
abbrev aX1_heightBits (k : Nat) (av : List Value) (h : AH) (K : Option Value → AH → Prop) : Prop := AM k 0 0 yX1_heightBits cX1_heightBits 4 (some .int) av h K
abbrev aX1_leftAtWorst (k : Nat) (av : List Value) (h : AH) (K : Option Value → AH → Prop) : Prop := AM k 0 0 yX1_leftAtWorst cX1_leftAtWorst 5 (some .int) av h K
abbrev aX1_size (k : Nat) (av : List Value) (h : AH) (K : Option Value → AH → Prop) : Prop := AM k 0 0 yX1_size cX1_size 1 (some .int) av h K
abbrev aX2_growth (k : Nat) (av : List Value) (h : AH) (K : Option Value → AH → Prop) : Prop := AM k 0 0 yX2_growth cX2_growth 2 (some .int) av h K
abbrev aX2_isA (k : Nat) (av : List Value) (h : AH) (K : Option Value → AH → Prop) : Prop := AM k 0 0 yX2_isA cX2_isA 2 (some .boolean) av h K
abbrev aX2_isKind (k : Nat) (av : List Value) (h : AH) (K : Option Value → AH → Prop) : Prop := AM k 0 0 yX2_isKind cX2_isKind 1 (some .boolean) av h K
abbrev aX2_ofLetter (k : Nat) (av : List Value) (h : AH) (K : Option Value → AH → Prop) : Prop := AM k 0 0 yX2_ofLetter cX2_ofLetter 1 (some .int) av h K
abbrev aX2_onSpot (k : Nat) (av : List Value) (h : AH) (K : Option Value → AH → Prop) : Prop := AM k 0 0 yX2_onSpot cX2_onSpot 1 (some .int) av h K
abbrev aX2_swayAfter (k : Nat) (av : List Value) (h : AH) (K : Option Value → AH → Prop) : Prop := AM k 0 0 yX2_swayAfter cX2_swayAfter 3 (some .int) av h K
abbrev aX3_init (k : Nat) (mc ms : Nat) (av : List Value) (h : AH) (K : Option Value → AH → Prop) : Prop := AM k mc ms yX3_init cX3_init 1 none av h K
abbrev aX3_append (k : Nat) (av : List Value) (h : AH) (K : Option Value → AH → Prop) : Prop := AM k 0 0 yX3_append cX3_append 2 (some .boolean) av h K
abbrev aX3_clear (k : Nat) (av : List Value) (h : AH) (K : Option Value → AH → Prop) : Prop := AM k 0 0 yX3_clear cX3_clear 2 (some .int) av h K
abbrev aX3_codeAt (k : Nat) (av : List Value) (h : AH) (K : Option Value → AH → Prop) : Prop := AM k 0 0 yX3_codeAt cX3_codeAt 2 (some .int) av h K
abbrev aX3_firstWrong (k : Nat) (av : List Value) (h : AH) (K : Option Value → AH → Prop) : Prop := AM k 0 0 yX3_firstWrong cX3_firstWrong 3 (some .int) av h K
abbrev aX3_height (k : Nat) (av : List Value) (h : AH) (K : Option Value → AH → Prop) : Prop := AM k 0 0 yX3_height cX3_height 1 (some .int) av h K
abbrev aX3_isWhole (k : Nat) (av : List Value) (h : AH) (K : Option Value → AH → Prop) : Prop := AM k 0 0 yX3_isWhole cX3_isWhole 2 (some .boolean) av h K
abbrev aX3_placesAhead (k : Nat) (av : List Value) (h : AH) (K : Option Value → AH → Prop) : Prop := AM k 0 0 yX3_placesAhead cX3_placesAhead 2 (some .int) av h K
abbrev aX3_size (k : Nat) (av : List Value) (h : AH) (K : Option Value → AH → Prop) : Prop := AM k 0 0 yX3_size cX3_size 1 (some .int) av h K
abbrev aX4_init (k : Nat) (mc ms : Nat) (av : List Value) (h : AH) (K : Option Value → AH → Prop) : Prop := AM k mc ms yX4_init cX4_init 1 none av h K
abbrev aX4_farOfStep (k : Nat) (av : List Value) (h : AH) (K : Option Value → AH → Prop) : Prop := AM k 0 0 yX4_farOfStep cX4_farOfStep 4 (some .int) av h K
abbrev aX4_fewest (k : Nat) (av : List Value) (h : AH) (K : Option Value → AH → Prop) : Prop := AM k 0 0 yX4_fewest cX4_fewest 7 (some .int) av h K
abbrev aX4_goOn (k : Nat) (av : List Value) (h : AH) (K : Option Value → AH → Prop) : Prop := AM k 0 0 yX4_goOn cX4_goOn 9 none av h K
abbrev aX4_isSpot (k : Nat) (av : List Value) (h : AH) (K : Option Value → AH → Prop) : Prop := AM k 0 0 yX4_isSpot cX4_isSpot 1 (some .boolean) av h K
abbrev aX4_reach (k : Nat) (av : List Value) (h : AH) (K : Option Value → AH → Prop) : Prop := AM k 0 0 yX4_reach cX4_reach 7 none av h K
abbrev aX4_stepsOf (k : Nat) (av : List Value) (h : AH) (K : Option Value → AH → Prop) : Prop := AM k 0 0 yX4_stepsOf cX4_stepsOf 2 (some .int) av h K
abbrev aX5_init (k : Nat) (mc ms : Nat) (av : List Value) (h : AH) (K : Option Value → AH → Prop) : Prop := AM k mc ms yX5_init cX5_init 1 none av h K
abbrev aX5_backToStart (k : Nat) (av : List Value) (h : AH) (K : Option Value → AH → Prop) : Prop := AM k 0 0 yX5_backToStart cX5_backToStart 1 none av h K
abbrev aX5_begin (k : Nat) (av : List Value) (h : AH) (K : Option Value → AH → Prop) : Prop := AM k 0 0 yX5_begin cX5_begin 2 none av h K
abbrev aX5_changeHeight (k : Nat) (av : List Value) (h : AH) (K : Option Value → AH → Prop) : Prop := AM k 0 0 yX5_changeHeight cX5_changeHeight 3 (some .int) av h K
abbrev aX5_copyFrom (k : Nat) (av : List Value) (h : AH) (K : Option Value → AH → Prop) : Prop := AM k 0 0 yX5_copyFrom cX5_copyFrom 2 none av h K
abbrev aX5_go (k : Nat) (av : List Value) (h : AH) (K : Option Value → AH → Prop) : Prop := AM k 0 0 yX5_go cX5_go 3 (some .boolean) av h K
abbrev aX5_race (k : Nat) (av : List Value) (h : AH) (K : Option Value → AH → Prop) : Prop := AM k 0 0 yX5_race cX5_race 7 (some .int) av h K
abbrev aX5_swayBy (k : Nat) (av : List Value) (h : AH) (K : Option Value → AH → Prop) : Prop := AM k 0 0 yX5_swayBy cX5_swayBy 2 (some .int) av h K
abbrev aX7_init (k : Nat) (mc ms : Nat) (av : List Value) (h : AH) (K : Option Value → AH → Prop) : Prop := AM k mc ms yX7_init cX7_init 1 none av h K
abbrev aX7_about (k : Nat) (av : List Value) (h : AH) (K : Option Value → AH → Prop) : Prop := AM k 0 0 yX7_about cX7_about 3 (some .int) av h K
abbrev aX7_as (k : Nat) (av : List Value) (h : AH) (K : Option Value → AH → Prop) : Prop := AM k 0 0 yX7_as cX7_as 4 (some .int) av h K
abbrev aX7_at (k : Nat) (av : List Value) (h : AH) (K : Option Value → AH → Prop) : Prop := AM k 0 0 yX7_at cX7_at 2 (some .int) av h K
abbrev aX7_bears (k : Nat) (av : List Value) (h : AH) (K : Option Value → AH → Prop) : Prop := AM k 0 0 yX7_bears cX7_bears 1 (some .int) av h K
abbrev aX7_blank (k : Nat) (av : List Value) (h : AH) (K : Option Value → AH → Prop) : Prop := AM k 0 0 yX7_blank cX7_blank 2 (some .int) av h K
abbrev aX7_blocks (k : Nat) (av : List Value) (h : AH) (K : Option Value → AH → Prop) : Prop := AM k 0 0 yX7_blocks cX7_blocks 3 (some .int) av h K
abbrev aX7_count (k : Nat) (av : List Value) (h : AH) (K : Option Value → AH → Prop) : Prop := AM k 0 0 yX7_count cX7_count 2 (some .int) av h K
abbrev aX7_digest (k : Nat) (av : List Value) (h : AH) (K : Option Value → AH → Prop) : Prop := AM k 0 0 yX7_digest cX7_digest 3 (some .long) av h K
abbrev aX7_draw (k : Nat) (av : List Value) (h : AH) (K : Option Value → AH → Prop) : Prop := AM k 0 0 yX7_draw cX7_draw 2 (some .int) av h K
abbrev aX7_fault (k : Nat) (av : List Value) (h : AH) (K : Option Value → AH → Prop) : Prop := AM k 0 0 yX7_fault cX7_fault 1 (some .int) av h K
abbrev aX7_fewBy (k : Nat) (av : List Value) (h : AH) (K : Option Value → AH → Prop) : Prop := AM k 0 0 yX7_fewBy cX7_fewBy 6 (some .int) av h K
abbrev aX7_fewWith (k : Nat) (av : List Value) (h : AH) (K : Option Value → AH → Prop) : Prop := AM k 0 0 yX7_fewWith cX7_fewWith 2 (some .int) av h K
abbrev aX7_forget (k : Nat) (av : List Value) (h : AH) (K : Option Value → AH → Prop) : Prop := AM k 0 0 yX7_forget cX7_forget 2 (some .int) av h K
abbrev aX7_goes (k : Nat) (av : List Value) (h : AH) (K : Option Value → AH → Prop) : Prop := AM k 0 0 yX7_goes cX7_goes 4 (some .boolean) av h K
abbrev aX7_hear (k : Nat) (av : List Value) (h : AH) (K : Option Value → AH → Prop) : Prop := AM k 0 0 yX7_hear cX7_hear 5 (some .int) av h K
abbrev aX7_heights (k : Nat) (av : List Value) (h : AH) (K : Option Value → AH → Prop) : Prop := AM k 0 0 yX7_heights cX7_heights 1 (some .int) av h K
abbrev aX7_heightsNow (k : Nat) (av : List Value) (h : AH) (K : Option Value → AH → Prop) : Prop := AM k 0 0 yX7_heightsNow cX7_heightsNow 5 (some .int) av h K
abbrev aX7_high (k : Nat) (av : List Value) (h : AH) (K : Option Value → AH → Prop) : Prop := AM k 0 0 yX7_high cX7_high 1 (some .int) av h K
abbrev aX7_highNow (k : Nat) (av : List Value) (h : AH) (K : Option Value → AH → Prop) : Prop := AM k 0 0 yX7_highNow cX7_highNow 3 (some .int) av h K
abbrev aX7_howMany (k : Nat) (av : List Value) (h : AH) (K : Option Value → AH → Prop) : Prop := AM k 0 0 yX7_howMany cX7_howMany 2 (some .int) av h K
abbrev aX7_image (k : Nat) (av : List Value) (h : AH) (K : Option Value → AH → Prop) : Prop := AM k 0 0 yX7_image cX7_image 2 (some .int) av h K
abbrev aX7_isIn (k : Nat) (av : List Value) (h : AH) (K : Option Value → AH → Prop) : Prop := AM k 0 0 yX7_isIn cX7_isIn 2 (some .boolean) av h K
abbrev aX7_isPlace (k : Nat) (av : List Value) (h : AH) (K : Option Value → AH → Prop) : Prop := AM k 0 0 yX7_isPlace cX7_isPlace 2 (some .boolean) av h K
abbrev aX7_isShorter (k : Nat) (av : List Value) (h : AH) (K : Option Value → AH → Prop) : Prop := AM k 0 0 yX7_isShorter cX7_isShorter 7 (some .boolean) av h K
abbrev aX7_kindBy (k : Nat) (av : List Value) (h : AH) (K : Option Value → AH → Prop) : Prop := AM k 0 0 yX7_kindBy cX7_kindBy 1 (some .int) av h K
abbrev aX7_lay (k : Nat) (av : List Value) (h : AH) (K : Option Value → AH → Prop) : Prop := AM k 0 0 yX7_lay cX7_lay 4 (some .int) av h K
abbrev aX7_layFew (k : Nat) (av : List Value) (h : AH) (K : Option Value → AH → Prop) : Prop := AM k 0 0 yX7_layFew cX7_layFew 5 none av h K
abbrev aX7_letter (k : Nat) (av : List Value) (h : AH) (K : Option Value → AH → Prop) : Prop := AM k 0 0 yX7_letter cX7_letter 2 (some .int) av h K
abbrev aX7_mend (k : Nat) (av : List Value) (h : AH) (K : Option Value → AH → Prop) : Prop := AM k 0 0 yX7_mend cX7_mend 2 (some .int) av h K
abbrev aX7_mendNow (k : Nat) (av : List Value) (h : AH) (K : Option Value → AH → Prop) : Prop := AM k 0 0 yX7_mendNow cX7_mendNow 7 (some .int) av h K
abbrev aX7_mix (k : Nat) (av : List Value) (h : AH) (K : Option Value → AH → Prop) : Prop := AM k 0 0 yX7_mix cX7_mix 3 none av h K
abbrev aX7_placeNow (k : Nat) (av : List Value) (h : AH) (K : Option Value → AH → Prop) : Prop := AM k 0 0 yX7_placeNow cX7_placeNow 3 (some .int) av h K
abbrev aX7_plain (k : Nat) (av : List Value) (h : AH) (K : Option Value → AH → Prop) : Prop := AM k 0 0 yX7_plain cX7_plain 3 (some .int) av h K
abbrev aX7_quick (k : Nat) (av : List Value) (h : AH) (K : Option Value → AH → Prop) : Prop := AM k 0 0 yX7_quick cX7_quick 2 (some .int) av h K
abbrev aX7_quickNow (k : Nat) (av : List Value) (h : AH) (K : Option Value → AH → Prop) : Prop := AM k 0 0 yX7_quickNow cX7_quickNow 7 (some .int) av h K
abbrev aX7_races (k : Nat) (av : List Value) (h : AH) (K : Option Value → AH → Prop) : Prop := AM k 0 0 yX7_races cX7_races 4 (some .int) av h K
abbrev aX7_racesNow (k : Nat) (av : List Value) (h : AH) (K : Option Value → AH → Prop) : Prop := AM k 0 0 yX7_racesNow cX7_racesNow 10 (some .int) av h K
abbrev aX7_read (k : Nat) (av : List Value) (h : AH) (K : Option Value → AH → Prop) : Prop := AM k 0 0 yX7_read cX7_read 3 (some .int) av h K
abbrev aX7_restore (k : Nat) (av : List Value) (h : AH) (K : Option Value → AH → Prop) : Prop := AM k 0 0 yX7_restore cX7_restore 2 (some .int) av h K
abbrev aX7_step (k : Nat) (av : List Value) (h : AH) (K : Option Value → AH → Prop) : Prop := AM k 0 0 yX7_step cX7_step 2 (some .int) av h K
abbrev aX7_swayBy (k : Nat) (av : List Value) (h : AH) (K : Option Value → AH → Prop) : Prop := AM k 0 0 yX7_swayBy cX7_swayBy 6 (some .int) av h K
abbrev aX7_tryAt (k : Nat) (av : List Value) (h : AH) (K : Option Value → AH → Prop) : Prop := AM k 0 0 yX7_tryAt cX7_tryAt 9 (some .int) av h K
abbrev aX7_within (k : Nat) (av : List Value) (h : AH) (K : Option Value → AH → Prop) : Prop := AM k 0 0 yX7_within cX7_within 3 (some .boolean) av h K
abbrev aX7_would (k : Nat) (av : List Value) (h : AH) (K : Option Value → AH → Prop) : Prop := AM k 0 0 yX7_would cX7_would 2 (some .int) av h K
abbrev aX7_yard (k : Nat) (av : List Value) (h : AH) (K : Option Value → AH → Prop) : Prop := AM k 0 0 yX7_yard cX7_yard 3 (some .int) av h K
abbrev aJ9_max_7cf53 (k : Nat) (av : List Value) (h : AH) (K : Option Value → AH → Prop) : Prop := AM k 0 0 yJ9_max_7cf53 cJ9_max_7cf53 2 (some .int) av h K
abbrev aJ9_min_7cf53 (k : Nat) (av : List Value) (h : AH) (K : Option Value → AH → Prop) : Prop := AM k 0 0 yJ9_min_7cf53 cJ9_min_7cf53 2 (some .int) av h K
abbrev aJ0_checkBoundsBeginEnd_23922 (k : Nat) (av : List Value) (h : AH) (K : Option Value → AH → Prop) : Prop := AM k 0 0 yJ0_checkBoundsBeginEnd_23922 cJ0_checkBoundsBeginEnd_23922 3 none av h K
abbrev aJ0_coder_7d493 (k : Nat) (av : List Value) (h : AH) (K : Option Value → AH → Prop) : Prop := AM k 0 0 yJ0_coder_7d493 cJ0_coder_7d493 1 (some .byte) av h K
abbrev aJ0_indexOf_0f7a4 (k : Nat) (av : List Value) (h : AH) (K : Option Value → AH → Prop) : Prop := AM k 0 0 yJ0_indexOf_0f7a4 cJ0_indexOf_0f7a4 2 (some .int) av h K
abbrev aJ0_indexOf_7cf53 (k : Nat) (av : List Value) (h : AH) (K : Option Value → AH → Prop) : Prop := AM k 0 0 yJ0_indexOf_7cf53 cJ0_indexOf_7cf53 3 (some .int) av h K
abbrev aJ0_isLatin1_aae02 (k : Nat) (av : List Value) (h : AH) (K : Option Value → AH → Prop) : Prop := AM k 0 0 yJ0_isLatin1_aae02 cJ0_isLatin1_aae02 1 (some .boolean) av h K
abbrev aJ0_length_8abf5 (k : Nat) (av : List Value) (h : AH) (K : Option Value → AH → Prop) : Prop := AM k 0 0 yJ0_length_8abf5 cJ0_length_8abf5 1 (some .int) av h K
abbrev aJ1_canEncode_9a6ad (k : Nat) (av : List Value) (h : AH) (K : Option Value → AH → Prop) : Prop := AM k 0 0 yJ1_canEncode_9a6ad cJ1_canEncode_9a6ad 1 (some .boolean) av h K
abbrev aJ1_indexOf_4cfef (k : Nat) (av : List Value) (h : AH) (K : Option Value → AH → Prop) : Prop := AM k 0 0 yJ1_indexOf_4cfef cJ1_indexOf_4cfef 4 (some .int) av h K
abbrev aJ1_indexOfChar_4cfef (k : Nat) (av : List Value) (h : AH) (K : Option Value → AH → Prop) : Prop := AM k 0 0 yJ1_indexOfChar_4cfef cJ1_indexOfChar_4cfef 6 (some .int) av h K
end
section
theorem mm_max1 : Cond.static Lib.Math.max.name ∈ gt := gt_at 267 (by decide +kernel) rfl
theorem mm_max2 : Cond.code Lib.Math.max.name Lib.Math.max.code 2 (some .int) ∈ gt := gt_at 268 (by decide +kernel) rfl
theorem mm_min1 : Cond.static Lib.Math.min.name ∈ gt := gt_at 270 (by decide +kernel) rfl
theorem mm_min2 : Cond.code Lib.Math.min.name Lib.Math.min.code 2 (some .int) ∈ gt := gt_at 271 (by decide +kernel) rfl
theorem mm_ini : Cond.initialized "java/lang/Math" ∈ gt := gt_at 40 (by decide +kernel) rfl
theorem mk_X1_59 : Cond.methodLink RX1 59 Lib.Math.max.name ∈ gt := gt_at 403 (by decide +kernel) rfl
theorem mk_X2_20 : Cond.methodLink RX2 20 Lib.Math.max.name ∈ gt := gt_at 453 (by decide +kernel) rfl
theorem mk_X5_90 : Cond.methodLink RX5 90 Lib.Math.min.name ∈ gt := gt_at 558 (by decide +kernel) rfl
theorem mk_J1_38 : Cond.methodLink RJ1 38 Lib.Math.min.name ∈ gt := gt_at 269 (by decide +kernel) rfl
theorem mk_J1_92 : Cond.methodLink RJ1 92 Lib.Math.max.name ∈ gt := gt_at 266 (by decide +kernel) rfl
theorem mk_J2_183 : Cond.methodLink RJ2 183 Lib.Math.min.name ∈ gt := gt_at 279 (by decide +kernel) rfl
theorem mk_J2_224 : Cond.methodLink RJ2 224 Lib.Math.max.name ∈ gt := gt_at 278 (by decide +kernel) rfl
section AWM
variable {X : Cx} {cs ss pc k rc rs : Nat} {y : MethodName} {cc : ByteArray} {ls : List (Option Value)} {st : List Value} {h : AH} {K : Option Value → AH → Prop}
theorem AW_max (n' : Nat) (hX : CxOk X y cc k rc rs) {ix : Nat} {x z : Int32} (hd : decode cc pc = .ok (.invokestatic ix, 3)) (hn : pc + 3 = n') (hl : Cond.methodLink y.cls ix Lib.Math.max.name ∈ gt) (hr : (st.map fun v => v.category).sum ≤ 8) (hk : 1 ≤ k) (hcc : cs ≤ rc ∧ ss ≤ rs) (kk : AW X cs ss n' ls (.int (if x < z then z else x) :: st) h) : AW X cs ss pc ls (.int z :: .int x :: st) h := by
  subst hn
  obtain ⟨p, l, e, R, s, m, args, below, meth, c, Q, g⟩ := X
  obtain ⟨hx, hb, hown, hts, hwe, hwf, ⟨hkf, hkl, hrc, hrs⟩, hnm⟩ := hX
  intro H locs la hw hS hla
  have h0 := rest_cat (pc := pc) (g := g) (m := m) (la := la) (st0 := []) hr
  have h2 : ((st.map (cv g)).map fun v => v.category).sum ≤ 8 := by
    have h1 : 2 * 0 + ((st.map (cv g)).map fun v => v.category).sum ≤ 8 := h0
    omega
  exact va_mmax hx hb hla.2.1.symm hown (hts _ hl) (hts _ mm_max1) (hts _ mm_ini) (hts _ mm_max2) (by omega) (by omega) (by rw [hrc]; exact hcc.1) (by rw [hrs]; exact hcc.2) hd (kk H locs la hw hS hla)
theorem AW_min (n' : Nat) (hX : CxOk X y cc k rc rs) {ix : Nat} {x z : Int32} (hd : decode cc pc = .ok (.invokestatic ix, 3)) (hn : pc + 3 = n') (hl : Cond.methodLink y.cls ix Lib.Math.min.name ∈ gt) (hr : (st.map fun v => v.category).sum ≤ 8) (hk : 1 ≤ k) (hcc : cs ≤ rc ∧ ss ≤ rs) (kk : AW X cs ss n' ls (.int (if z < x then z else x) :: st) h) : AW X cs ss pc ls (.int z :: .int x :: st) h := by
  subst hn
  obtain ⟨p, l, e, R, s, m, args, below, meth, c, Q, g⟩ := X
  obtain ⟨hx, hb, hown, hts, hwe, hwf, ⟨hkf, hkl, hrc, hrs⟩, hnm⟩ := hX
  intro H locs la hw hS hla
  have h0 := rest_cat (pc := pc) (g := g) (m := m) (la := la) (st0 := []) hr
  have h2 : ((st.map (cv g)).map fun v => v.category).sum ≤ 8 := by
    have h1 : 2 * 0 + ((st.map (cv g)).map fun v => v.category).sum ≤ 8 := h0
    omega
  exact va_mmin hx hb hla.2.1.symm hown (hts _ hl) (hts _ mm_min1) (hts _ mm_ini) (hts _ mm_min2) (by omega) (by omega) (by rw [hrc]; exact hcc.1) (by rw [hrs]; exact hcc.2) hd (kk H locs la hw hS hla)
end AWM
end
section
/-! helpers of the walks -/
theorem iincp {x a b : Int32} (h : a = b) : x + a = x + b := by rw [h]
theorem hset_hset {h : AH} {a : Nat} {c d : AC} : hset (hset h a c) a d = hset h a d := by
  funext q
  simp only [hset]
  split <;> rfl
section AWS
variable {X : Cx} {cs ss pc k rc rs : Nat} {y : MethodName} {cc : ByteArray} {ls : List (Option Value)} {st : List Value} {h : AH} {K : Option Value → AH → Prop}
theorem AW_cV (n' : Nat) (hX : CxOk X y cc k rc rs) {z : MethodName} {cz : ByteArray} {mz nz kz : Nat} {rz : Option FieldType} {ix b ci : Nat} {As rest : List Value} {fs : List Value} (hd : decode cc pc = .ok (.invokevirtual ix, 3)) (hn : pc + 3 = n') (hl : Cond.methodLink y.cls ix z ∈ gt) (mw : MV z cz mz rz nz) (hbb : h b = some (.inl (ci, fs))) (hci : ci < 7) (hc : (cg ci).1 = z.cls) (hA : As.length = nz) (hst : st = As.reverse ++ .ref b :: rest) (hr : (rest.map fun v => v.category).sum ≤ 8) (hk : kz < k) (hcc : cs ≤ rc ∧ ss ≤ rs) (hM : AM kz 0 0 z cz mz rz (.ref b :: As) h (fun r h' => AW X cs ss n' ls (pushR r rest) h')) : AW X cs ss pc ls st h :=
  AW_callV n' hX hd hn hl mw hbb hci hc hA hst hr hk hcc hM
theorem AW_cS (n' : Nat) (hX : CxOk X y cc k rc rs) {z : MethodName} {cz : ByteArray} {mz nz kz : Nat} {rz : Option FieldType} {ix : Nat} {As rest : List Value} (hd : decode cc pc = .ok (.invokestatic ix, 3)) (hn : pc + 3 = n') (hl : Cond.methodLink y.cls ix z ∈ gt) (mw : MS z cz mz rz nz) (hA : As.length = nz) (hst : st = As.reverse ++ rest) (hr : (rest.map fun v => v.category).sum ≤ 8) (hk : kz < k) (hcc : cs ≤ rc ∧ ss ≤ rs) (hM : AM kz 0 0 z cz mz rz As h (fun r h' => AW X cs ss n' ls (pushR r rest) h')) : AW X cs ss pc ls st h :=
  AW_callS n' hX hd hn hl mw hA hst hr hk hcc hM
theorem AW_cSN (n' : Nat) (hX : CxOk X y cc k rc rs) {z : MethodName} {cz : ByteArray} {mz nz kz : Nat} {rz : Option FieldType} {ix : Nat} {host : String} {As rest : List Value} (hd : decode cc pc = .ok (.invokestatic ix, 3)) (hn : pc + 3 = n') (hl : (y.cls, ix, z, host) ∈ nwT) (mw : MS z cz mz rz nz) (hA : As.length = nz) (hst : st = As.reverse ++ rest) (hr : (rest.map fun v => v.category).sum ≤ 8) (hk : kz < k) (hcc : cs ≤ rc ∧ ss ≤ rs) (hM : AM kz 0 0 z cz mz rz As h (fun r h' => AW X cs ss n' ls (pushR r rest) h')) : AW X cs ss pc ls st h :=
  AW_callSN n' hX hd hn hl mw hA hst hr hk hcc hM
end AWS
/-! numbers -/
theorem nI_lit (n : Nat) : (OfNat.ofNat n : Int32) = nI n := rfl
theorem nI_up (f : Nat → Nat) (p v : Nat) : upd (fun j => nI (f j)) p (nI v) = fun j => nI (if j = p then v else f j) := by
  funext j
  simp only [upd]
  split <;> rfl
theorem iLe {a b : Nat} (h : nI a ≤ nI b) (ha : a < 2 ^ 31 := by omega) (hb : b < 2 ^ 31 := by omega) : a ≤ b := (nI_leI ha hb).mp h
theorem iNle {a b : Nat} (h : ¬ nI a ≤ nI b) (ha : a < 2 ^ 31 := by omega) (hb : b < 2 ^ 31 := by omega) : b < a := Nat.not_le.mp fun q => h ((nI_leI ha hb).mpr q)
theorem iLt {a b : Nat} (h : nI a < nI b) (ha : a < 2 ^ 31 := by omega) (hb : b < 2 ^ 31 := by omega) : a < b := (nI_ltI ha hb).mp h
theorem iNlt {a b : Nat} (h : ¬ nI a < nI b) (ha : a < 2 ^ 31 := by omega) (hb : b < 2 ^ 31 := by omega) : b ≤ a := Nat.not_lt.mp fun q => h ((nI_ltI ha hb).mpr q)
theorem iEq {a b : Nat} (h : nI a = nI b) (ha : a < 2 ^ 31 := by omega) (hb : b < 2 ^ 31 := by omega) : a = b := (nI_eq ha hb).mp h
theorem iNe {a b : Nat} (h : ¬ nI a = nI b) : a ≠ b := fun q => h (by rw [q])
/-- the step's growth, the step's sway -/
def gw (k far : Nat) : Nat := if k = 1 then far + 1 else if k = 2 ∨ k = 4 then far + 2 else if k = 3 then far + far else far
def onS (k : Nat) : Int32 := if k = 1 then -1 else if k = 3 then 1 else if k = 4 then 0 else -2
def sa (k s far : Nat) : Nat := if far = 0 then (if k = 1 then s - 1 else if k = 3 then s + 1 else if k = 4 then s else s - 2) else s + gw k far
def isA (a b : Nat) : Prop := b = 0 ∨ a = b ∨ (b = 1 ∧ a = 4)
def cntP (f : Nat → Int32) : Nat → Nat
  | 0 => 0
  | n + 1 => cntP f n + if f n = 0 then 1 else 0
theorem cntP_le (f : Nat → Int32) : ∀ n, cntP f n ≤ n
  | 0 => Nat.le_refl 0
  | n + 1 => by
    have := cntP_le f n
    simp only [cntP]
    split <;> omega
theorem k5 {k : Nat} (h : k ≤ 4) : k = 0 ∨ k = 1 ∨ k = 2 ∨ k = 3 ∨ k = 4 := by omega
end
section
set_option maxRecDepth 100000 in
set_option maxHeartbeats 4000000 in
theorem c_isKind {h : AH} {K : Option Value → AH → Prop} (x : Int32) (h1 : ∀ k : Nat, k ≤ 4 → x = nI k → K (some (.int 1)) h) (h0 : (∀ k : Nat, k ≤ 4 → x ≠ nI k) → K (some (.int 0)) h) : aX2_isKind 0 [.int x] h K := by
  refine AM.of [some (.int x)] pn_X2_isKind rfl (Nat.le_of_ble_eq_true rfl) (fun X hX hE => ?_)
  refine AW_iload_n 1 hX dX2_isKind_0 rfl rfl ?_
  refine AW_if_lt 4 13 hX dX2_isKind_1 rfl (by decide) (fun c1 => ?_) (fun c1 => ?_)
  · refine AW_iconst 14 hX dX2_isKind_13 rfl ic_0 ?_
    refine AW_iret hX hE dX2_isKind_14 rfl (Nat.le_refl _) (Nat.le_refl _) ?_
    exact h0 (fun k hk e => absurd c1 (by rw [e]; exact nI_pos (by omega)))
  · refine AW_iload_n 5 hX dX2_isKind_4 rfl rfl ?_
    refine AW_iconst 6 hX dX2_isKind_5 rfl ic_4 ?_
    refine AW_icmp_gt 9 13 hX dX2_isKind_6 rfl (by decide) (fun c6 => ?_) (fun c6 => ?_)
    · refine AW_iconst 14 hX dX2_isKind_13 rfl ic_0 ?_
      refine AW_iret hX hE dX2_isKind_14 rfl (Nat.le_refl _) (Nat.le_refl _) ?_
      exact h0 (fun k hk e => absurd c6 (by rw [e]; exact nI_nlt (a := 4) hk (by decide)))
    · refine AW_iconst 10 hX dX2_isKind_9 rfl ic_1 ?_
      refine AW_goto 14 hX dX2_isKind_10 (by decide) ?_
      refine AW_iret hX hE dX2_isKind_14 rfl (Nat.le_refl _) (Nat.le_refl _) ?_
      obtain ⟨k, hk, e⟩ := nI_of2 (M := 4) (n := 4) (by decide) c1 (Int32.not_lt.mp c6)
      exact h1 k hk e
set_option maxRecDepth 100000 in
set_option maxHeartbeats 4000000 in
theorem c_isA {h : AH} {K : Option Value → AH → Prop} (a b : Nat) (ha : a ≤ 4) (hb : b ≤ 4) (h1 : isA a b → K (some (.int 1)) h) (h0 : ¬ isA a b → K (some (.int 0)) h) : aX2_isA 0 [.int (nI a), .int (nI b)] h K := by
  refine AM.of [some (.int (nI a)), some (.int (nI b))] pn_X2_isA rfl (Nat.le_of_ble_eq_true rfl) (fun X hX hE => ?_)
  refine AW_iload_n 1 hX dX2_isA_0 rfl rfl ?_
  refine AW_if_eq 4 19 hX dX2_isA_1 rfl (by decide) (fun c1 => ?_) (fun c1 => ?_)
  · refine AW_iconst 20 hX dX2_isA_19 rfl ic_1 ?_
    refine AW_goto 24 hX dX2_isA_20 (by decide) ?_
    refine AW_iret hX hE dX2_isA_24 rfl (Nat.le_refl _) (Nat.le_refl _) ?_
    exact h1 (Or.inl ((nI_eq (by omega) (by decide)).mp c1))
  · refine AW_iload_n 5 hX dX2_isA_4 rfl rfl ?_
    refine AW_iload_n 6 hX dX2_isA_5 rfl rfl ?_
    refine AW_icmp_eq 9 19 hX dX2_isA_6 rfl (by decide) (fun c6 => ?_) (fun c6 => ?_)
    · refine AW_iconst 20 hX dX2_isA_19 rfl ic_1 ?_
      refine AW_goto 24 hX dX2_isA_20 (by decide) ?_
      refine AW_iret hX hE dX2_isA_24 rfl (Nat.le_refl _) (Nat.le_refl _) ?_
      exact h1 (Or.inr (Or.inl ((nI_eq (by omega) (by omega)).mp c6)))
    · refine AW_iload_n 10 hX dX2_isA_9 rfl rfl ?_
      refine AW_iconst 11 hX dX2_isA_10 rfl ic_1 ?_
      refine AW_icmp_ne 14 23 hX dX2_isA_11 rfl (by decide) (fun c11 => ?_) (fun c11 => ?_)
      · refine AW_iconst 24 hX dX2_isA_23 rfl ic_0 ?_
        refine AW_iret hX hE dX2_isA_24 rfl (Nat.le_refl _) (Nat.le_refl _) ?_
        refine h0 (fun q => ?_)
        rcases q with q | q | q
        · exact c1 (by rw [q]; rfl)
        · exact c6 (by rw [q])
        · exact c11 (by rw [q.1]; rfl)
      · refine AW_iload_n 15 hX dX2_isA_14 rfl rfl ?_
        refine AW_iconst 16 hX dX2_isA_15 rfl ic_4 ?_
        refine AW_icmp_ne 19 23 hX dX2_isA_16 rfl (by decide) (fun c16 => ?_) (fun c16 => ?_)
        · refine AW_iconst 24 hX dX2_isA_23 rfl ic_0 ?_
          refine AW_iret hX hE dX2_isA_24 rfl (Nat.le_refl _) (Nat.le_refl _) ?_
          refine h0 (fun q => ?_)
          rcases q with q | q | q
          · exact c1 (by rw [q]; rfl)
          · exact c6 (by rw [q])
          · exact c16 (by rw [q.2]; rfl)
        · refine AW_iconst 20 hX dX2_isA_19 rfl ic_1 ?_
          refine AW_goto 24 hX dX2_isA_20 (by decide) ?_
          refine AW_iret hX hE dX2_isA_24 rfl (Nat.le_refl _) (Nat.le_refl _) ?_
          exact h1 (Or.inr (Or.inr ⟨(nI_eq (by omega) (by decide)).mp c11, (nI_eq (by omega) (by decide)).mp c16⟩))
set_option maxRecDepth 100000 in
set_option maxHeartbeats 4000000 in
theorem c_growth {h : AH} {K : Option Value → AH → Prop} (k far : Nat) (hk : k ≤ 4) (hK : K (some (.int (nI (gw k far)))) h) : aX2_growth 0 [.int (nI k), .int (nI far)] h K := by
  refine AM.of [some (.int (nI k)), some (.int (nI far))] pn_X2_growth rfl (Nat.le_of_ble_eq_true rfl) (fun X hX hE => ?_)
  refine AW_iload_n 1 hX dX2_growth_0 rfl rfl ?_
  rcases k5 hk with rfl | rfl | rfl | rfl | rfl
  · refine AW_tabO 44 hX dX2_growth_1 (by decide) (by decide) ?_
    refine AW_iload_n 45 hX dX2_growth_44 rfl rfl ?_
    refine AW_iret hX hE dX2_growth_45 rfl (Nat.le_refl _) (Nat.le_refl _) ?_
    exact hK
  · refine AW_tab (off := 31) 32 hX dX2_growth_1 (by decide) (by decide) (by decide) (by decide) ?_
    refine AW_iload_n 33 hX dX2_growth_32 rfl rfl ?_
    refine AW_iconst 34 hX dX2_growth_33 rfl ic_1 ?_
    refine AW_iadd 35 hX dX2_growth_34 rfl ?_
    refine AW_iret hX hE dX2_growth_35 rfl (Nat.le_refl _) (Nat.le_refl _) ?_
    rw [nI_1]; exact hK
  · refine AW_tab (off := 35) 36 hX dX2_growth_1 (by decide) (by decide) (by decide) (by decide) ?_
    refine AW_iload_n 37 hX dX2_growth_36 rfl rfl ?_
    refine AW_iconst 38 hX dX2_growth_37 rfl ic_2 ?_
    refine AW_iadd 39 hX dX2_growth_38 rfl ?_
    refine AW_iret hX hE dX2_growth_39 rfl (Nat.le_refl _) (Nat.le_refl _) ?_
    rw [show (2 : Int32) = nI 2 from rfl, nI_add]; exact hK
  · refine AW_tab (off := 39) 40 hX dX2_growth_1 (by decide) (by decide) (by decide) (by decide) ?_
    refine AW_iload_n 41 hX dX2_growth_40 rfl rfl ?_
    refine AW_iload_n 42 hX dX2_growth_41 rfl rfl ?_
    refine AW_iadd 43 hX dX2_growth_42 rfl ?_
    refine AW_iret hX hE dX2_growth_43 rfl (Nat.le_refl _) (Nat.le_refl _) ?_
    rw [nI_add]; exact hK
  · refine AW_tab (off := 35) 36 hX dX2_growth_1 (by decide) (by decide) (by decide) (by decide) ?_
    refine AW_iload_n 37 hX dX2_growth_36 rfl rfl ?_
    refine AW_iconst 38 hX dX2_growth_37 rfl ic_2 ?_
    refine AW_iadd 39 hX dX2_growth_38 rfl ?_
    refine AW_iret hX hE dX2_growth_39 rfl (Nat.le_refl _) (Nat.le_refl _) ?_
    rw [show (2 : Int32) = nI 2 from rfl, nI_add]; exact hK
set_option maxRecDepth 100000 in
set_option maxHeartbeats 4000000 in
theorem c_onSpot {h : AH} {K : Option Value → AH → Prop} (k : Nat) (hk : k ≤ 4) (hK : K (some (.int (onS k))) h) : aX2_onSpot 0 [.int (nI k)] h K := by
  refine AM.of [some (.int (nI k))] pn_X2_onSpot rfl (Nat.le_of_ble_eq_true rfl) (fun X hX hE => ?_)
  refine AW_iload_n 1 hX dX2_onSpot_0 rfl rfl ?_
  rcases k5 hk with rfl | rfl | rfl | rfl | rfl
  · refine AW_tabO 38 hX dX2_onSpot_1 (by decide) (by decide) ?_
    refine AW_bipush 40 hX dX2_onSpot_38 rfl bp_m2 ?_
    refine AW_iret hX hE dX2_onSpot_40 rfl (Nat.le_refl _) (Nat.le_refl _) ?_
    exact hK
  · refine AW_tab (off := 31) 32 hX dX2_onSpot_1 (by decide) (by decide) (by decide) (by decide) ?_
    refine AW_iconst 33 hX dX2_onSpot_32 rfl ic_m1 ?_
    refine AW_iret hX hE dX2_onSpot_33 rfl (Nat.le_refl _) (Nat.le_refl _) ?_
    exact hK
  · refine AW_tab (off := 37) 38 hX dX2_onSpot_1 (by decide) (by decide) (by decide) (by decide) ?_
    refine AW_bipush 40 hX dX2_onSpot_38 rfl bp_m2 ?_
    refine AW_iret hX hE dX2_onSpot_40 rfl (Nat.le_refl _) (Nat.le_refl _) ?_
    exact hK
  · refine AW_tab (off := 33) 34 hX dX2_onSpot_1 (by decide) (by decide) (by decide) (by decide) ?_
    refine AW_iconst 35 hX dX2_onSpot_34 rfl ic_1 ?_
    refine AW_iret hX hE dX2_onSpot_35 rfl (Nat.le_refl _) (Nat.le_refl _) ?_
    exact hK
  · refine AW_tab (off := 35) 36 hX dX2_onSpot_1 (by decide) (by decide) (by decide) (by decide) ?_
    refine AW_iconst 37 hX dX2_onSpot_36 rfl ic_0 ?_
    refine AW_iret hX hE dX2_onSpot_37 rfl (Nat.le_refl _) (Nat.le_refl _) ?_
    exact hK
theorem sa0 : ∀ s, s < 64 → ∀ k, k < 5 → (if 0 < nI s + onS k then nI s + onS k else 0) = nI (sa k s 0) := by decide +kernel
set_option maxRecDepth 100000 in
set_option maxHeartbeats 4000000 in
theorem c_swayAfter {h : AH} {K : Option Value → AH → Prop} (k s far : Nat) (hk : k ≤ 4) (hs : s < 64) (hf : far ≤ 3) (hK : K (some (.int (nI (sa k s far)))) h) : aX2_swayAfter 1 [.int (nI k), .int (nI s), .int (nI far)] h K := by
  refine AM.of [some (.int (nI k)), some (.int (nI s)), some (.int (nI far))] pn_X2_swayAfter rfl (Nat.le_of_ble_eq_true rfl) (fun X hX hE => ?_)
  refine AW_iload_n 1 hX dX2_swayAfter_0 rfl rfl ?_
  refine AW_if_ne 4 17 hX dX2_swayAfter_1 rfl (by decide) (fun c1 => ?_) (fun c1 => ?_)
  · refine AW_iload_n 18 hX dX2_swayAfter_17 rfl rfl ?_
    refine AW_iload_n 19 hX dX2_swayAfter_18 rfl rfl ?_
    refine AW_iload_n 20 hX dX2_swayAfter_19 rfl rfl ?_
    refine AW_cS (As := [_, _]) 23 hX dX2_swayAfter_20 rfl ml_X2_26 mw_X2_growth rfl rfl (Nat.le_of_ble_eq_true rfl) (by decide) ⟨(Nat.le_refl _), (Nat.le_refl _)⟩ (c_growth k far hk ?_)
    refine AW_iadd 24 hX dX2_swayAfter_23 rfl ?_
    refine AW_iret hX hE dX2_swayAfter_24 rfl (Nat.le_refl _) (Nat.le_refl _) ?_
    have e : ¬ far = 0 := fun e => c1 (by rw [e]; rfl)
    rw [nI_add]
    rw [show sa k s far = s + gw k far by simp only [sa, if_neg e]] at hK
    exact hK
  · refine AW_iconst 5 hX dX2_swayAfter_4 rfl ic_0 ?_
    refine AW_iload_n 6 hX dX2_swayAfter_5 rfl rfl ?_
    refine AW_iload_n 7 hX dX2_swayAfter_6 rfl rfl ?_
    refine AW_cS (As := [_]) 10 hX dX2_swayAfter_7 rfl ml_X2_17 mw_X2_onSpot rfl rfl (Nat.le_of_ble_eq_true rfl) (by decide) ⟨(Nat.le_refl _), (Nat.le_refl _)⟩ (c_onSpot k hk ?_)
    refine AW_iadd 11 hX dX2_swayAfter_10 rfl ?_
    refine AW_max 14 hX dX2_swayAfter_11 rfl mk_X2_20 (Nat.le_of_ble_eq_true rfl) (by decide) ⟨(Nat.le_refl _), (Nat.le_refl _)⟩ ?_
    refine AW_goto 24 hX dX2_swayAfter_14 (by decide) ?_
    refine AW_iret hX hE dX2_swayAfter_24 rfl (Nat.le_refl _) (Nat.le_refl _) ?_
    have e : far = 0 := (nI_eq (by omega) (by decide)).mp c1
    subst e
    rw [sa0 s hs k (by omega)]
    exact hK
end
section
/-- a Ground at a: how many places, what lies where -/
def gr (h : AH) (a n : Nat) (f : Nat → Int32) : Prop := h a = some (.inl (0, [.ref (a + 1), .int (nI n)])) ∧ h (a + 1) = some (.inr (0, 12, f)) ∧ n ≤ 12
/-- nothing outside changes -/
def fr (h h' : AH) (lo hi : Nat) : Prop := ∀ q, (q < lo ∨ hi ≤ q) → h' q = h q
theorem fr_rf (h : AH) (lo hi : Nat) : fr h h lo hi := fun _ _ => rfl
theorem fr_tr {h h1 h2 : AH} {lo hi : Nat} (a : fr h h1 lo hi) (b : fr h1 h2 lo hi) : fr h h2 lo hi := fun q hq => (b q hq).trans (a q hq)
theorem fr_set {h : AH} {lo hi a : Nat} {c : AC} (h1 : lo ≤ a) (h2 : a < hi) : fr h (hset h a c) lo hi := fun q hq => hset_ne (by omega)
theorem fr_wide {h h1 : AH} {lo hi lo' hi' : Nat} (a : fr h h1 lo hi) (e1 : lo' ≤ lo) (e2 : hi ≤ hi') : fr h h1 lo' hi' := fun q hq => a q (by omega)
theorem gr_fr {h h' : AH} {a n lo hi : Nat} {f : Nat → Int32} (g : gr h a n f) (q : fr h h' lo hi) (ho : a + 2 ≤ lo ∨ hi ≤ a) : gr h' a n f := ⟨(q a (by omega)).trans g.1, (q (a + 1) (by omega)).trans g.2.1, g.2.2⟩
set_option maxRecDepth 100000 in
set_option maxHeartbeats 4000000 in
theorem c_places {h : AH} {K : Option Value → AH → Prop} {a b : Nat} {x : Int32} (ha : h a = some (.inl (0, [.ref b, .int x]))) (hK : K (some (.int x)) h) : aX0_places 0 [.ref a] h K := by
  refine AM.of [some (.ref a)] pn_X0_places rfl (Nat.le_of_ble_eq_true rfl) (fun X hX hE => ?_)
  refine AW_aload_n 1 hX dX0_places_0 rfl rfl ?_
  refine AW_get 4 hX dX0_places_1 rfl fl_X0_15 (by first | assumption | exact hset_eq | exact (hset_ne (by omega)).trans (by first | assumption | exact hset_eq | exact (hset_ne (by omega)).trans (by first | assumption | exact hset_eq | exact (hset_ne (by omega)).trans (by first | assumption | exact hset_eq | exact (hset_ne (by omega)).trans (by first | assumption | exact hset_eq))))) rfl ?_
  refine AW_iret hX hE dX0_places_4 rfl (Nat.le_refl _) (Nat.le_refl _) ?_
  exact hK
set_option maxRecDepth 100000 in
set_option maxHeartbeats 4000000 in
theorem c_has {h : AH} {K : Option Value → AH → Prop} {a n : Nat} {f : Nat → Int32} (hg : gr h a n f) (x : Int32) (h1 : ∀ p : Nat, p < n → x = nI p → K (some (.int 1)) h) (h0 : (∀ p : Nat, p < n → x ≠ nI p) → K (some (.int 0)) h) : aX0_has 0 [.ref a, .int x] h K := by
  obtain ⟨ha, hb, hn⟩ := hg
  refine AM.of [some (.ref a), some (.int x)] pn_X0_has rfl (Nat.le_of_ble_eq_true rfl) (fun X hX hE => ?_)
  refine AW_iload_n 1 hX dX0_has_0 rfl rfl ?_
  refine AW_if_lt 4 22 hX dX0_has_1 rfl (by decide) (fun c1 => ?_) (fun c1 => ?_)
  · refine AW_iconst 23 hX dX0_has_22 rfl ic_0 ?_
    refine AW_iret hX hE dX0_has_23 rfl (Nat.le_refl _) (Nat.le_refl _) ?_
    exact h0 (fun p hp e => absurd c1 (by rw [e]; exact nI_pos (by omega)))
  · refine AW_iload_n 5 hX dX0_has_4 rfl rfl ?_
    refine AW_aload_n 6 hX dX0_has_5 rfl rfl ?_
    refine AW_get 9 hX dX0_has_6 rfl fl_X0_15 (by first | assumption | exact hset_eq | exact (hset_ne (by omega)).trans (by first | assumption | exact hset_eq | exact (hset_ne (by omega)).trans (by first | assumption | exact hset_eq | exact (hset_ne (by omega)).trans (by first | assumption | exact hset_eq | exact (hset_ne (by omega)).trans (by first | assumption | exact hset_eq))))) rfl ?_
    refine AW_icmp_ge 12 22 hX dX0_has_9 rfl (by decide) (fun c9 => ?_) (fun c9 => ?_)
    · refine AW_iconst 23 hX dX0_has_22 rfl ic_0 ?_
      refine AW_iret hX hE dX0_has_23 rfl (Nat.le_refl _) (Nat.le_refl _) ?_
      exact h0 (fun p hp e => absurd c9 (by rw [e]; exact nI_ge hp (by omega)))
    · refine AW_iload_n 13 hX dX0_has_12 rfl rfl ?_
      refine AW_bipush 15 hX dX0_has_13 rfl bp_12 ?_
      refine AW_icmp_ge 18 22 hX dX0_has_15 rfl (by decide) (fun c15 => ?_) (fun c15 => ?_)
      · refine AW_iconst 23 hX dX0_has_22 rfl ic_0 ?_
        refine AW_iret hX hE dX0_has_23 rfl (Nat.le_refl _) (Nat.le_refl _) ?_
        exact h0 (fun p hp e => absurd c15 (by rw [e]; exact nI_ge (b := 12) (by omega) (by decide)))
      · refine AW_iconst 19 hX dX0_has_18 rfl ic_1 ?_
        refine AW_goto 23 hX dX0_has_19 (by decide) ?_
        refine AW_iret hX hE dX0_has_23 rfl (Nat.le_refl _) (Nat.le_refl _) ?_
        obtain ⟨p, hp, e, -⟩ := pk_mu c1 c9 (by omega)
        exact h1 p hp e
set_option maxRecDepth 100000 in
set_option maxHeartbeats 4000000 in
theorem c_kindAt {h : AH} {K : Option Value → AH → Prop} {a n p : Nat} {f : Nat → Int32} (hg : gr h a n f) (hp : p < n) (hK : K (some (.int (f p))) h) : aX0_kindAt 1 [.ref a, .int (nI p)] h K := by
  obtain ⟨ha, hb, hn⟩ := id hg
  refine AM.of [some (.ref a), some (.int (nI p))] pn_X0_kindAt rfl (Nat.le_of_ble_eq_true rfl) (fun X hX hE => ?_)
  refine AW_aload_n 1 hX dX0_kindAt_0 rfl rfl ?_
  refine AW_iload_n 2 hX dX0_kindAt_1 rfl rfl ?_
  refine AW_cV (As := [_]) 5 hX dX0_kindAt_2 rfl ml_X0_19 mw_X0_has (by first | assumption | exact hset_eq | exact (hset_ne (by omega)).trans (by first | assumption | exact hset_eq | exact (hset_ne (by omega)).trans (by first | assumption | exact hset_eq | exact (hset_ne (by omega)).trans (by first | assumption | exact hset_eq | exact (hset_ne (by omega)).trans (by first | assumption | exact hset_eq))))) (by decide) rfl rfl rfl (Nat.le_of_ble_eq_true rfl) (by decide) ⟨(Nat.le_refl _), (Nat.le_refl _)⟩ (c_has hg (nI p) (fun q hq eq => ?_) (fun hno => absurd rfl (hno p hp)))
  refine AW_if_eq 8 17 hX dX0_kindAt_5 rfl (by decide) (fun c5 => absurd c5 (by decide)) (fun c5 => ?_)
  refine AW_aload_n 9 hX dX0_kindAt_8 rfl rfl ?_
  refine AW_get 12 hX dX0_kindAt_9 rfl fl_X0_9 (by first | assumption | exact hset_eq | exact (hset_ne (by omega)).trans (by first | assumption | exact hset_eq | exact (hset_ne (by omega)).trans (by first | assumption | exact hset_eq | exact (hset_ne (by omega)).trans (by first | assumption | exact hset_eq | exact (hset_ne (by omega)).trans (by first | assumption | exact hset_eq))))) rfl ?_
  refine AW_iload_n 13 hX dX0_kindAt_12 rfl rfl ?_
  refine AW_iald 14 hX dX0_kindAt_13 rfl (by first | assumption | exact hset_eq | exact (hset_ne (by omega)).trans (by first | assumption | exact hset_eq | exact (hset_ne (by omega)).trans (by first | assumption | exact hset_eq | exact (hset_ne (by omega)).trans (by first | assumption | exact hset_eq | exact (hset_ne (by omega)).trans (by first | assumption | exact hset_eq))))) (j := p) (by omega) rfl ?_
  refine AW_goto 18 hX dX0_kindAt_14 (by decide) ?_
  refine AW_iret hX hE dX0_kindAt_18 rfl (Nat.le_refl _) (Nat.le_refl _) ?_
  exact hK
set_option maxRecDepth 100000 in
set_option maxHeartbeats 4000000 in
theorem c_put {h : AH} {K : Option Value → AH → Prop} {a n p : Nat} {f : Nat → Int32} {v : Int32} (hg : gr h a n f) (hp : p < n) (hK : K (some (.int (f p))) (hset h (a + 1) (.inr (0, 12, upd f p v)))) : aX0_put 1 [.ref a, .int (nI p), .int v] h K := by
  obtain ⟨ha, hb, hn⟩ := id hg
  refine AM.of [some (.ref a), some (.int (nI p)), some (.int v), none] pn_X0_put rfl (Nat.le_of_ble_eq_true rfl) (fun X hX hE => ?_)
  refine AW_aload_n 1 hX dX0_put_0 rfl rfl ?_
  refine AW_iload_n 2 hX dX0_put_1 rfl rfl ?_
  refine AW_cV (As := [_]) 5 hX dX0_put_2 rfl ml_X0_19 mw_X0_has (by first | assumption | exact hset_eq | exact (hset_ne (by omega)).trans (by first | assumption | exact hset_eq | exact (hset_ne (by omega)).trans (by first | assumption | exact hset_eq | exact (hset_ne (by omega)).trans (by first | assumption | exact hset_eq | exact (hset_ne (by omega)).trans (by first | assumption | exact hset_eq))))) (by decide) rfl rfl rfl (Nat.le_of_ble_eq_true rfl) (by decide) ⟨(Nat.le_refl _), (Nat.le_refl _)⟩ (c_has hg (nI p) (fun q hq eq => ?_) (fun hno => absurd rfl (hno p hp)))
  refine AW_if_ne 8 10 hX dX0_put_5 rfl (by decide) (fun c5 => ?_) (fun c5 => absurd c5 (by decide))
  refine AW_aload_n 11 hX dX0_put_10 rfl rfl ?_
  refine AW_get 14 hX dX0_put_11 rfl fl_X0_9 (by first | assumption | exact hset_eq | exact (hset_ne (by omega)).trans (by first | assumption | exact hset_eq | exact (hset_ne (by omega)).trans (by first | assumption | exact hset_eq | exact (hset_ne (by omega)).trans (by first | assumption | exact hset_eq | exact (hset_ne (by omega)).trans (by first | assumption | exact hset_eq))))) rfl ?_
  refine AW_iload_n 15 hX dX0_put_14 rfl rfl ?_
  refine AW_iald 16 hX dX0_put_15 rfl (by first | assumption | exact hset_eq | exact (hset_ne (by omega)).trans (by first | assumption | exact hset_eq | exact (hset_ne (by omega)).trans (by first | assumption | exact hset_eq | exact (hset_ne (by omega)).trans (by first | assumption | exact hset_eq | exact (hset_ne (by omega)).trans (by first | assumption | exact hset_eq))))) (j := p) (by omega) rfl ?_
  refine AW_istore_n 17 hX dX0_put_16 rfl (Nat.le_of_ble_eq_true rfl) rfl ?_
  refine AW_aload_n 18 hX dX0_put_17 rfl rfl ?_
  refine AW_get 21 hX dX0_put_18 rfl fl_X0_9 (by first | assumption | exact hset_eq | exact (hset_ne (by omega)).trans (by first | assumption | exact hset_eq | exact (hset_ne (by omega)).trans (by first | assumption | exact hset_eq | exact (hset_ne (by omega)).trans (by first | assumption | exact hset_eq | exact (hset_ne (by omega)).trans (by first | assumption | exact hset_eq))))) rfl ?_
  refine AW_iload_n 22 hX dX0_put_21 rfl rfl ?_
  refine AW_iload_n 23 hX dX0_put_22 rfl rfl ?_
  refine AW_iast 24 hX dX0_put_23 rfl (by first | assumption | exact hset_eq | exact (hset_ne (by omega)).trans (by first | assumption | exact hset_eq | exact (hset_ne (by omega)).trans (by first | assumption | exact hset_eq | exact (hset_ne (by omega)).trans (by first | assumption | exact hset_eq | exact (hset_ne (by omega)).trans (by first | assumption | exact hset_eq))))) (j := p) (by omega) rfl ?_
  try rw [hset_hset]
  refine AW_iload_n 25 hX dX0_put_24 rfl rfl ?_
  refine AW_iret hX hE dX0_put_25 rfl (Nat.le_refl _) (Nat.le_refl _) ?_
  exact hK
set_option maxRecDepth 100000 in
set_option maxHeartbeats 4000000 in
theorem c_plainPlaces {h : AH} {K : Option Value → AH → Prop} {a n : Nat} {f : Nat → Int32} (hg : gr h a n f) (hK : K (some (.int (nI (cntP f n)))) h) : aX0_plainPlaces 2 [.ref a] h K := by
  obtain ⟨ha, hb, hn⟩ := id hg
  refine AM.of [some (.ref a), none, none] pn_X0_plainPlaces rfl (Nat.le_of_ble_eq_true rfl) (fun X hX hE => ?_)
  have loop : ∀ d i, i + d = n → AW X 0 0 4 [some (.ref a), some (.int (nI (cntP f i))), some (.int (nI i))] [] h := by
    intro d
    induction d with
    | zero =>
      intro i hi
      refine AW_iload_n 5 hX dX0_plainPlaces_4 rfl rfl ?_
      refine AW_aload_n 6 hX dX0_plainPlaces_5 rfl rfl ?_
      refine AW_get 9 hX dX0_plainPlaces_6 rfl fl_X0_15 (by first | assumption | exact hset_eq | exact (hset_ne (by omega)).trans (by first | assumption | exact hset_eq | exact (hset_ne (by omega)).trans (by first | assumption | exact hset_eq | exact (hset_ne (by omega)).trans (by first | assumption | exact hset_eq | exact (hset_ne (by omega)).trans (by first | assumption | exact hset_eq))))) rfl ?_
      refine AW_icmp_ge 12 29 hX dX0_plainPlaces_9 rfl (by decide) (fun c9 => ?_) (fun c9 => absurd (nI_le (by omega) (by omega)) c9)
      refine AW_iload_n 30 hX dX0_plainPlaces_29 rfl rfl ?_
      refine AW_iret hX hE dX0_plainPlaces_30 rfl (Nat.le_refl _) (Nat.le_refl _) ?_
      rw [show i = n by omega]; exact hK
    | succ d ih =>
      intro i hi
      refine AW_iload_n 5 hX dX0_plainPlaces_4 rfl rfl ?_
      refine AW_aload_n 6 hX dX0_plainPlaces_5 rfl rfl ?_
      refine AW_get 9 hX dX0_plainPlaces_6 rfl fl_X0_15 (by first | assumption | exact hset_eq | exact (hset_ne (by omega)).trans (by first | assumption | exact hset_eq | exact (hset_ne (by omega)).trans (by first | assumption | exact hset_eq | exact (hset_ne (by omega)).trans (by first | assumption | exact hset_eq | exact (hset_ne (by omega)).trans (by first | assumption | exact hset_eq))))) rfl ?_
      refine AW_icmp_ge 12 29 hX dX0_plainPlaces_9 rfl (by decide) (fun c9 => absurd c9 (nI_ge (by omega) (by omega))) (fun c9 => ?_)
      refine AW_aload_n 13 hX dX0_plainPlaces_12 rfl rfl ?_
      refine AW_iload_n 14 hX dX0_plainPlaces_13 rfl rfl ?_
      refine AW_cV (As := [_]) 17 hX dX0_plainPlaces_14 rfl ml_X0_25 mw_X0_kindAt (by first | assumption | exact hset_eq | exact (hset_ne (by omega)).trans (by first | assumption | exact hset_eq | exact (hset_ne (by omega)).trans (by first | assumption | exact hset_eq | exact (hset_ne (by omega)).trans (by first | assumption | exact hset_eq | exact (hset_ne (by omega)).trans (by first | assumption | exact hset_eq))))) (by decide) rfl rfl rfl (Nat.le_of_ble_eq_true rfl) (by decide) ⟨(Nat.le_refl _), (Nat.le_refl _)⟩ (c_kindAt hg (by omega) ?_)
      refine AW_if_ne 20 23 hX dX0_plainPlaces_17 rfl (by decide) (fun c17 => ?_) (fun c17 => ?_)
      · refine AW_iinc 26 hX dX0_plainPlaces_23 rfl rfl (iincp ic_1) (Nat.le_of_ble_eq_true rfl) rfl ?_
        refine AW_goto 4 hX dX0_plainPlaces_26 (by decide) ?_
        rw [nI_1]
        have := ih (i + 1) (by omega)
        simp only [cntP, if_neg c17, Nat.add_zero] at this
        exact this
      · refine AW_iinc 23 hX dX0_plainPlaces_20 rfl rfl (iincp ic_1) (Nat.le_of_ble_eq_true rfl) rfl ?_
        refine AW_iinc 26 hX dX0_plainPlaces_23 rfl rfl (iincp ic_1) (Nat.le_of_ble_eq_true rfl) rfl ?_
        refine AW_goto 4 hX dX0_plainPlaces_26 (by decide) ?_
        rw [nI_1, nI_1]
        have := ih (i + 1) (by omega)
        simp only [cntP, if_pos c17] at this
        exact this
  refine AW_iconst 1 hX dX0_plainPlaces_0 rfl ic_0 ?_
  refine AW_istore_n 2 hX dX0_plainPlaces_1 rfl (Nat.le_of_ble_eq_true rfl) rfl ?_
  refine AW_iconst 3 hX dX0_plainPlaces_2 rfl ic_0 ?_
  refine AW_istore_n 4 hX dX0_plainPlaces_3 rfl (Nat.le_of_ble_eq_true rfl) rfl ?_
  exact loop n 0 (by omega)
set_option maxRecDepth 100000 in
set_option maxHeartbeats 4000000 in
theorem c_gcopy {h : AH} {K : Option Value → AH → Prop} {a b n m : Nat} {f fb : Nat → Int32} (hg : gr h a m f) (ho : gr h b n fb) (hab : a + 2 ≤ b ∨ b + 2 ≤ a) (hK : ∀ (h' : AH) (f' : Nat → Int32), gr h' a n f' → (∀ j, j < n → f' j = fb j) → fr h h' a (a + 2) → K none h') : aX0_copyFrom 2 [.ref a, .ref b] h K := by
  obtain ⟨ha, hb, hm⟩ := id hg
  obtain ⟨hoa, hob, hn⟩ := id ho
  refine AM.of [some (.ref a), some (.ref b), none] pn_X0_copyFrom rfl (Nat.le_of_ble_eq_true rfl) (fun X hX hE => ?_)
  have loop : ∀ d i, i + d = n → ∀ (h' : AH) (f' : Nat → Int32), gr h' a n f' → (∀ j, j < i → f' j = fb j) → fr h h' a (a + 2) → AW X 0 0 10 [some (.ref a), some (.ref b), some (.int (nI i))] [] h' := by
    intro d
    induction d with
    | zero =>
      intro i hi h' f' hg' hf' hfr
      obtain ⟨ha', hb', hm'⟩ := id hg'
      refine AW_iload_n 11 hX dX0_copyFrom_10 rfl rfl ?_
      refine AW_aload_n 12 hX dX0_copyFrom_11 rfl rfl ?_
      refine AW_get 15 hX dX0_copyFrom_12 rfl fl_X0_15 (by first | assumption | exact hset_eq | exact (hset_ne (by omega)).trans (by first | assumption | exact hset_eq | exact (hset_ne (by omega)).trans (by first | assumption | exact hset_eq | exact (hset_ne (by omega)).trans (by first | assumption | exact hset_eq | exact (hset_ne (by omega)).trans (by first | assumption | exact hset_eq))))) rfl ?_
      refine AW_icmp_ge 18 35 hX dX0_copyFrom_15 rfl (by decide) (fun c15 => ?_) (fun c15 => absurd (nI_le (by omega) (by omega)) c15)
      refine AW_vret hX hE dX0_copyFrom_35 (Nat.le_refl _) (Nat.le_refl _) ?_
      exact hK h' f' hg' (fun j hj => hf' j (by omega)) hfr
    | succ d ih =>
      intro i hi h' f' hg' hf' hfr
      obtain ⟨ha', hb', hm'⟩ := id hg'
      have ho' := gr_fr ho hfr (by omega)
      obtain ⟨hoa', hob', -⟩ := id ho'
      refine AW_iload_n 11 hX dX0_copyFrom_10 rfl rfl ?_
      refine AW_aload_n 12 hX dX0_copyFrom_11 rfl rfl ?_
      refine AW_get 15 hX dX0_copyFrom_12 rfl fl_X0_15 (by first | assumption | exact hset_eq | exact (hset_ne (by omega)).trans (by first | assumption | exact hset_eq | exact (hset_ne (by omega)).trans (by first | assumption | exact hset_eq | exact (hset_ne (by omega)).trans (by first | assumption | exact hset_eq | exact (hset_ne (by omega)).trans (by first | assumption | exact hset_eq))))) rfl ?_
      refine AW_icmp_ge 18 35 hX dX0_copyFrom_15 rfl (by decide) (fun c15 => absurd c15 (nI_ge (by omega) (by omega))) (fun c15 => ?_)
      refine AW_aload_n 19 hX dX0_copyFrom_18 rfl rfl ?_
      refine AW_iload_n 20 hX dX0_copyFrom_19 rfl rfl ?_
      refine AW_aload_n 21 hX dX0_copyFrom_20 rfl rfl ?_
      refine AW_iload_n 22 hX dX0_copyFrom_21 rfl rfl ?_
      refine AW_cV (As := [_]) 25 hX dX0_copyFrom_22 rfl ml_X0_25 mw_X0_kindAt (by first | assumption | exact hset_eq | exact (hset_ne (by omega)).trans (by first | assumption | exact hset_eq | exact (hset_ne (by omega)).trans (by first | assumption | exact hset_eq | exact (hset_ne (by omega)).trans (by first | assumption | exact hset_eq | exact (hset_ne (by omega)).trans (by first | assumption | exact hset_eq))))) (by decide) rfl rfl rfl (Nat.le_of_ble_eq_true rfl) (by decide) ⟨(Nat.le_refl _), (Nat.le_refl _)⟩ (c_kindAt ho' (by omega) ?_)
      refine AW_cV (As := [_, _]) 28 hX dX0_copyFrom_25 rfl ml_X0_41 mw_X0_put (by first | assumption | exact hset_eq | exact (hset_ne (by omega)).trans (by first | assumption | exact hset_eq | exact (hset_ne (by omega)).trans (by first | assumption | exact hset_eq | exact (hset_ne (by omega)).trans (by first | assumption | exact hset_eq | exact (hset_ne (by omega)).trans (by first | assumption | exact hset_eq))))) (by decide) rfl rfl rfl (Nat.le_of_ble_eq_true rfl) (by decide) ⟨(Nat.le_refl _), (Nat.le_refl _)⟩ (c_put hg' (by omega) ?_)
      refine AW_pop 29 hX dX0_copyFrom_28 rfl rfl ?_
      refine AW_iinc 32 hX dX0_copyFrom_29 rfl rfl (iincp ic_1) (Nat.le_of_ble_eq_true rfl) rfl ?_
      refine AW_goto 10 hX dX0_copyFrom_32 (by decide) ?_
      rw [nI_1]
      refine ih (i + 1) (by omega) _ (upd f' i (fb i)) ⟨(hset_ne (by omega)).trans ha', hset_eq, hm'⟩ (fun j hj => ?_) (fr_tr hfr (fr_set (by omega) (by omega)))
      by_cases e : j = i
      · subst e; exact pk_us
      · rw [pk_un e]; exact hf' j (by omega)
  refine AW_aload_n 1 hX dX0_copyFrom_0 rfl rfl ?_
  refine AW_aload_n 2 hX dX0_copyFrom_1 rfl rfl ?_
  refine AW_get 5 hX dX0_copyFrom_2 rfl fl_X0_15 (by first | assumption | exact hset_eq | exact (hset_ne (by omega)).trans (by first | assumption | exact hset_eq | exact (hset_ne (by omega)).trans (by first | assumption | exact hset_eq | exact (hset_ne (by omega)).trans (by first | assumption | exact hset_eq | exact (hset_ne (by omega)).trans (by first | assumption | exact hset_eq))))) rfl ?_
  refine AW_put 8 hX dX0_copyFrom_5 rfl fl_X0_15 (by first | assumption | exact hset_eq | exact (hset_ne (by omega)).trans (by first | assumption | exact hset_eq | exact (hset_ne (by omega)).trans (by first | assumption | exact hset_eq | exact (hset_ne (by omega)).trans (by first | assumption | exact hset_eq | exact (hset_ne (by omega)).trans (by first | assumption | exact hset_eq))))) rfl (fun _ => rfl) (fun _ => rfl) (Nat.le_of_ble_eq_true rfl) ?_
  try rw [hset_hset]
  refine AW_iconst 9 hX dX0_copyFrom_8 rfl ic_0 ?_
  refine AW_istore_n 10 hX dX0_copyFrom_9 rfl (Nat.le_of_ble_eq_true rfl) rfl ?_
  exact loop n 0 (by omega) _ f ⟨hset_eq, (hset_ne (by omega)).trans hb, hn⟩ (fun j hj => by omega) (fr_set (by omega) (by omega))
end
section
/-- the kind that a letter tells; 5: none -/
def kn (c : Nat) : Nat := if c = 112 then 0 else if c = 108 then 1 else if c = 103 then 2 else if c = 98 then 3 else if c = 111 then 4 else 5
def kr (c : Nat) : Int32 := if kn c < 5 then nI (kn c) else -1
def LT : List Int32 := [112, 108, 103, 98, 111]
theorem b128 : ∀ c, c < 128 → (nI c).toInt8.toInt32 = nI c := by decide +kernel
theorem c128 : ∀ c, c < 128 → ((nI c).toUInt32 % 65536).toInt32 = nI c := by decide +kernel
theorem kr_at : ∀ c, c < 128 → ∀ i, i < 5 → LT.getD i 0 = nI c → kr c = nI i := by decide +kernel
theorem kr_no : ∀ c, c < 128 → (∀ i, i < 5 → LT.getD i 0 ≠ nI c) → kr c = -1 := by decide +kernel
set_option maxRecDepth 100000 in
set_option maxHeartbeats 4000000 in
theorem c_jcoder {h : AH} {K : Option Value → AH → Prop} (hK : K (some (.int 0)) h) : aJ0_coder_7d493 0 [.ref 1001] h K := by
  refine AM.of [some (.ref 1001)] pn_J0_coder_7d493 rfl (Nat.le_of_ble_eq_true rfl) (fun X hX hE => ?_)
  refine AW_compact 3 hX dJ0_coder_7d493_0 rfl fj_J0_38 ?_
  refine AW_if_eq 6 13 hX dJ0_coder_7d493_3 rfl (by decide) (fun c3 => absurd c3 (by decide)) (fun c3 => ?_)
  refine AW_aload_n 7 hX dJ0_coder_7d493_6 rfl rfl ?_
  refine AW_coder 10 hX dJ0_coder_7d493_7 rfl fj_J0_15 ?_
  refine AW_goto 14 hX dJ0_coder_7d493_10 (by decide) ?_
  refine AW_iret hX hE dJ0_coder_7d493_14 rfl (Nat.le_refl _) (Nat.le_refl _) ?_
  exact hK
set_option maxRecDepth 100000 in
set_option maxHeartbeats 4000000 in
theorem c_jlatin {h : AH} {K : Option Value → AH → Prop} (hK : K (some (.int 1)) h) : aJ0_isLatin1_aae02 0 [.ref 1001] h K := by
  refine AM.of [some (.ref 1001)] pn_J0_isLatin1_aae02 rfl (Nat.le_of_ble_eq_true rfl) (fun X hX hE => ?_)
  refine AW_compact 3 hX dJ0_isLatin1_aae02_0 rfl fj_J0_38 ?_
  refine AW_if_eq 6 17 hX dJ0_isLatin1_aae02_3 rfl (by decide) (fun c3 => absurd c3 (by decide)) (fun c3 => ?_)
  refine AW_aload_n 7 hX dJ0_isLatin1_aae02_6 rfl rfl ?_
  refine AW_coder 10 hX dJ0_isLatin1_aae02_7 rfl fj_J0_15 ?_
  refine AW_if_ne 13 17 hX dJ0_isLatin1_aae02_10 rfl (by decide) (fun c10 => absurd rfl c10) (fun c10 => ?_)
  refine AW_iconst 14 hX dJ0_isLatin1_aae02_13 rfl ic_1 ?_
  refine AW_goto 18 hX dJ0_isLatin1_aae02_14 (by decide) ?_
  refine AW_iret hX hE dJ0_isLatin1_aae02_18 rfl (Nat.le_refl _) (Nat.le_refl _) ?_
  exact hK
set_option maxRecDepth 100000 in
set_option maxHeartbeats 4000000 in
theorem c_jlength {h : AH} {K : Option Value → AH → Prop} (hK : K (some (.int 5)) h) : aJ0_length_8abf5 1 [.ref 1001] h K := by
  refine AM.of [some (.ref 1001)] pn_J0_length_8abf5 rfl (Nat.le_of_ble_eq_true rfl) (fun X hX hE => ?_)
  refine AW_aload_n 1 hX dJ0_length_8abf5_0 rfl rfl ?_
  refine AW_value 4 hX dJ0_length_8abf5_1 rfl fj_J0_9 ?_
  refine AW_textLen 5 hX dJ0_length_8abf5_4 rfl ?_
  refine AW_aload_n 6 hX dJ0_length_8abf5_5 rfl rfl ?_
  refine AW_callT (As := []) 9 hX dJ0_length_8abf5_6 rfl ml_J0_335 mw_J0_coder_7d493 rfl rfl rfl (Nat.le_of_ble_eq_true rfl) (by decide) ⟨(Nat.le_refl _), (Nat.le_refl _)⟩ (c_jcoder ?_)
  refine AW_ishr 10 hX dJ0_length_8abf5_9 rfl ?_
  rw [sb_shr0]
  refine AW_iret hX hE dJ0_length_8abf5_10 rfl (Nat.le_refl _) (Nat.le_refl _) ?_
  exact hK
set_option maxRecDepth 100000 in
set_option maxHeartbeats 4000000 in
theorem c_jenc {h : AH} {K : Option Value → AH → Prop} (c : Nat) (hc : c < 128) (hK : K (some (.int 1)) h) : aJ1_canEncode_9a6ad 0 [.int (nI c)] h K := by
  refine AM.of [some (.int (nI c))] pn_J1_canEncode_9a6ad rfl (Nat.le_of_ble_eq_true rfl) (fun X hX hE => ?_)
  refine AW_iload_n 1 hX dJ1_canEncode_9a6ad_0 rfl rfl ?_
  refine AW_if_lt 4 15 hX dJ1_canEncode_9a6ad_1 rfl (by decide) (fun c1 => absurd c1 (nI_pos (by omega))) (fun c1 => ?_)
  refine AW_iload_n 5 hX dJ1_canEncode_9a6ad_4 rfl rfl ?_
  refine AW_sipush 8 hX dJ1_canEncode_9a6ad_5 rfl sp_255 ?_
  refine AW_icmp_gt 11 15 hX dJ1_canEncode_9a6ad_8 rfl (by decide) (fun c8 => absurd c8 (nI_nlt (b := c) (a := 255) (by omega) (by decide))) (fun c8 => ?_)
  refine AW_iconst 12 hX dJ1_canEncode_9a6ad_11 rfl ic_1 ?_
  refine AW_goto 16 hX dJ1_canEncode_9a6ad_12 (by decide) ?_
  refine AW_iret hX hE dJ1_canEncode_9a6ad_16 rfl (Nat.le_refl _) (Nat.le_refl _) ?_
  exact hK
set_option maxRecDepth 100000 in
set_option maxHeartbeats 4000000 in
theorem c_jchar {h : AH} {K : Option Value → AH → Prop} (c : Nat) (hc : c < 128) (hK : K (some (.int (kr c))) h) : aJ1_indexOfChar_4cfef 0 [.ref 1002, .int (nI c), .int 0, .int 5] h K := by
  refine AM.of [some (.ref 1002), some (.int (nI c)), some (.int 0), some (.int 5), none, none] pn_J1_indexOfChar_4cfef rfl (Nat.le_of_ble_eq_true rfl) (fun X hX hE => ?_)
  have loop : ∀ d i, i + d = 5 → (∀ j, j < i → LT.getD j 0 ≠ nI c) → AW X 0 0 7 [some (.ref 1002), some (.int (nI c)), some (.int 0), some (.int 5), some (.int (nI c)), some (.int (nI i))] [] h := by
    intro d
    induction d with
    | zero =>
      intro i hi hno
      refine AW_iload 9 hX dJ1_indexOfChar_4cfef_7 rfl rfl ?_
      refine AW_iload_n 10 hX dJ1_indexOfChar_4cfef_9 rfl rfl ?_
      refine AW_icmp_ge 13 31 hX dJ1_indexOfChar_4cfef_10 rfl (by decide) (fun c10 => ?_) (fun c10 => absurd (nI_le (a := 5) (b := i) (by omega) (by omega)) c10)
      refine AW_iconst 32 hX dJ1_indexOfChar_4cfef_31 rfl ic_m1 ?_
      refine AW_iret hX hE dJ1_indexOfChar_4cfef_32 rfl (Nat.le_refl _) (Nat.le_refl _) ?_
      rw [kr_no c hc (fun j hj => hno j (by omega))] at hK
      exact hK
    | succ d ih =>
      intro i hi hno
      refine AW_iload 9 hX dJ1_indexOfChar_4cfef_7 rfl rfl ?_
      refine AW_iload_n 10 hX dJ1_indexOfChar_4cfef_9 rfl rfl ?_
      refine AW_icmp_ge 13 31 hX dJ1_indexOfChar_4cfef_10 rfl (by decide) (fun c10 => absurd c10 (nI_ge (a := i) (b := 5) (by omega) (by decide))) (fun c10 => ?_)
      refine AW_aload_n 14 hX dJ1_indexOfChar_4cfef_13 rfl rfl ?_
      refine AW_iload 16 hX dJ1_indexOfChar_4cfef_14 rfl rfl ?_
      refine AW_textAt 17 hX dJ1_indexOfChar_4cfef_16 rfl (j := i) (by omega) rfl ?_
      refine AW_iload 19 hX dJ1_indexOfChar_4cfef_17 rfl rfl ?_
      refine AW_icmp_ne 22 25 hX dJ1_indexOfChar_4cfef_19 rfl (by decide) (fun c19 => ?_) (fun c19 => ?_)
      · refine AW_iinc 28 hX dJ1_indexOfChar_4cfef_25 rfl rfl (iincp ic_1) (Nat.le_of_ble_eq_true rfl) rfl ?_
        refine AW_goto 7 hX dJ1_indexOfChar_4cfef_28 (by decide) ?_
        rw [nI_1]
        refine ih (i + 1) (by omega) (fun j hj => ?_)
        by_cases e : j = i
        · subst e; exact c19
        · exact hno j (by omega)
      · refine AW_iload 24 hX dJ1_indexOfChar_4cfef_22 rfl rfl ?_
        refine AW_iret hX hE dJ1_indexOfChar_4cfef_24 rfl (Nat.le_refl _) (Nat.le_refl _) ?_
        rw [kr_at c hc i (by omega) c19] at hK
        exact hK
  refine AW_iload_n 1 hX dJ1_indexOfChar_4cfef_0 rfl rfl ?_
  refine AW_i2b 2 hX dJ1_indexOfChar_4cfef_1 rfl ?_
  rw [b128 c hc]
  refine AW_istore 4 hX dJ1_indexOfChar_4cfef_2 rfl (Nat.le_of_ble_eq_true rfl) rfl ?_
  refine AW_iload_n 5 hX dJ1_indexOfChar_4cfef_4 rfl rfl ?_
  refine AW_istore 7 hX dJ1_indexOfChar_4cfef_5 rfl (Nat.le_of_ble_eq_true rfl) rfl ?_
  exact loop 5 0 (by omega) (fun j hj => by omega)
set_option maxRecDepth 100000 in
set_option maxHeartbeats 4000000 in
theorem c_jlidx {h : AH} {K : Option Value → AH → Prop} (c : Nat) (hc : c < 128) (hK : K (some (.int (kr c))) h) : aJ1_indexOf_4cfef 1 [.ref 1002, .int (nI c), .int 0, .int 5] h K := by
  refine AM.of [some (.ref 1002), some (.int (nI c)), some (.int 0), some (.int 5)] pn_J1_indexOf_4cfef rfl (Nat.le_of_ble_eq_true rfl) (fun X hX hE => ?_)
  refine AW_iload_n 1 hX dJ1_indexOf_4cfef_0 rfl rfl ?_
  refine AW_cS (As := [_]) 4 hX dJ1_indexOf_4cfef_1 rfl ml_J1_88 mw_J1_canEncode_9a6ad rfl rfl (Nat.le_of_ble_eq_true rfl) (by decide) ⟨(Nat.le_refl _), (Nat.le_refl _)⟩ (c_jenc c hc ?_)
  refine AW_if_ne 7 9 hX dJ1_indexOf_4cfef_4 rfl (by decide) (fun c4 => ?_) (fun c4 => absurd c4 (by decide))
  refine AW_iload_n 10 hX dJ1_indexOf_4cfef_9 rfl rfl ?_
  refine AW_iconst 11 hX dJ1_indexOf_4cfef_10 rfl ic_0 ?_
  refine AW_max 14 hX dJ1_indexOf_4cfef_11 rfl mk_J1_92 (Nat.le_of_ble_eq_true rfl) (by decide) ⟨(Nat.le_refl _), (Nat.le_refl _)⟩ ?_
  rw [show (if (0 : Int32) < 0 then (0 : Int32) else 0) = 0 from by decide]
  refine AW_istore_n 15 hX dJ1_indexOf_4cfef_14 rfl (Nat.le_of_ble_eq_true rfl) rfl ?_
  refine AW_iload_n 16 hX dJ1_indexOf_4cfef_15 rfl rfl ?_
  refine AW_aload_n 17 hX dJ1_indexOf_4cfef_16 rfl rfl ?_
  refine AW_textLen 18 hX dJ1_indexOf_4cfef_17 rfl ?_
  refine AW_min 21 hX dJ1_indexOf_4cfef_18 rfl mk_J1_38 (Nat.le_of_ble_eq_true rfl) (by decide) ⟨(Nat.le_refl _), (Nat.le_refl _)⟩ ?_
  rw [show (if (5 : Int32) < 5 then (5 : Int32) else 5) = 5 from by decide]
  refine AW_istore_n 22 hX dJ1_indexOf_4cfef_21 rfl (Nat.le_of_ble_eq_true rfl) rfl ?_
  refine AW_iload_n 23 hX dJ1_indexOf_4cfef_22 rfl rfl ?_
  refine AW_iload_n 24 hX dJ1_indexOf_4cfef_23 rfl rfl ?_
  refine AW_icmp_lt 27 29 hX dJ1_indexOf_4cfef_24 rfl (by decide) (fun c24 => ?_) (fun c24 => absurd (by decide) c24)
  refine AW_aload_n 30 hX dJ1_indexOf_4cfef_29 rfl rfl ?_
  refine AW_iload_n 31 hX dJ1_indexOf_4cfef_30 rfl rfl ?_
  refine AW_iload_n 32 hX dJ1_indexOf_4cfef_31 rfl rfl ?_
  refine AW_iload_n 33 hX dJ1_indexOf_4cfef_32 rfl rfl ?_
  refine AW_cS (As := [_, _, _, _]) 36 hX dJ1_indexOf_4cfef_33 rfl ml_J1_95 mw_J1_indexOfChar_4cfef rfl rfl (Nat.le_of_ble_eq_true rfl) (by decide) ⟨(Nat.le_refl _), (Nat.le_refl _)⟩ (c_jchar c hc ?_)
  refine AW_iret hX hE dJ1_indexOf_4cfef_36 rfl (Nat.le_refl _) (Nat.le_refl _) ?_
  exact hK
set_option maxRecDepth 100000 in
set_option maxHeartbeats 4000000 in
theorem c_jidx2 {h : AH} {K : Option Value → AH → Prop} (c : Nat) (hc : c < 128) (hK : K (some (.int (kr c))) h) : aJ0_indexOf_7cf53 2 [.ref 1001, .int (nI c), .int 0] h K := by
  refine AM.of [some (.ref 1001), some (.int (nI c)), some (.int 0)] pn_J0_indexOf_7cf53 rfl (Nat.le_of_ble_eq_true rfl) (fun X hX hE => ?_)
  refine AW_aload_n 1 hX dJ0_indexOf_7cf53_0 rfl rfl ?_
  refine AW_callT (As := []) 4 hX dJ0_indexOf_7cf53_1 rfl ml_J0_492 mw_J0_isLatin1_aae02 rfl rfl rfl (Nat.le_of_ble_eq_true rfl) (by decide) ⟨(Nat.le_refl _), (Nat.le_refl _)⟩ (c_jlatin ?_)
  refine AW_if_eq 7 23 hX dJ0_indexOf_7cf53_4 rfl (by decide) (fun c4 => absurd c4 (by decide)) (fun c4 => ?_)
  refine AW_aload_n 8 hX dJ0_indexOf_7cf53_7 rfl rfl ?_
  refine AW_value 11 hX dJ0_indexOf_7cf53_8 rfl fj_J0_9 ?_
  refine AW_iload_n 12 hX dJ0_indexOf_7cf53_11 rfl rfl ?_
  refine AW_iload_n 13 hX dJ0_indexOf_7cf53_12 rfl rfl ?_
  refine AW_aload_n 14 hX dJ0_indexOf_7cf53_13 rfl rfl ?_
  refine AW_callT (As := []) 17 hX dJ0_indexOf_7cf53_14 rfl ml_J0_505 mw_J0_length_8abf5 rfl rfl rfl (Nat.le_of_ble_eq_true rfl) (by decide) ⟨(Nat.le_refl _), (Nat.le_refl _)⟩ (c_jlength ?_)
  refine AW_cS (As := [_, _, _, _]) 20 hX dJ0_indexOf_7cf53_17 rfl ml_J0_637 mw_J1_indexOf_4cfef rfl rfl (Nat.le_of_ble_eq_true rfl) (by decide) ⟨(Nat.le_refl _), (Nat.le_refl _)⟩ (c_jlidx c hc ?_)
  refine AW_goto 36 hX dJ0_indexOf_7cf53_20 (by decide) ?_
  refine AW_iret hX hE dJ0_indexOf_7cf53_36 rfl (Nat.le_refl _) (Nat.le_refl _) ?_
  exact hK
set_option maxRecDepth 100000 in
set_option maxHeartbeats 4000000 in
theorem c_jidx1 {h : AH} {K : Option Value → AH → Prop} (c : Nat) (hc : c < 128) (hK : K (some (.int (kr c))) h) : aJ0_indexOf_0f7a4 3 [.ref 1001, .int (nI c)] h K := by
  refine AM.of [some (.ref 1001), some (.int (nI c))] pn_J0_indexOf_0f7a4 rfl (Nat.le_of_ble_eq_true rfl) (fun X hX hE => ?_)
  refine AW_aload_n 1 hX dJ0_indexOf_0f7a4_0 rfl rfl ?_
  refine AW_iload_n 2 hX dJ0_indexOf_0f7a4_1 rfl rfl ?_
  refine AW_iconst 3 hX dJ0_indexOf_0f7a4_2 rfl ic_0 ?_
  refine AW_callT (As := [_, _]) 6 hX dJ0_indexOf_0f7a4_3 rfl ml_J0_633 mw_J0_indexOf_7cf53 rfl rfl rfl (Nat.le_of_ble_eq_true rfl) (by decide) ⟨(Nat.le_refl _), (Nat.le_refl _)⟩ (c_jidx2 c hc ?_)
  refine AW_iret hX hE dJ0_indexOf_0f7a4_6 rfl (Nat.le_refl _) (Nat.le_refl _) ?_
  exact hK
set_option maxRecDepth 100000 in
set_option maxHeartbeats 4000000 in
theorem c_ofLetter {h : AH} {K : Option Value → AH → Prop} (c : Nat) (hc : c < 128) (hK : K (some (.int (kr c))) h) : aX2_ofLetter 4 [.int (nI c)] h K := by
  refine AM.of [some (.int (nI c))] pn_X2_ofLetter rfl (Nat.le_of_ble_eq_true rfl) (fun X hX hE => ?_)
  refine AW_ldcS 2 hX dX2_ofLetter_0 rfl rfl ?_
  refine AW_iload_n 3 hX dX2_ofLetter_2 rfl rfl ?_
  refine AW_i2c 4 hX dX2_ofLetter_3 rfl ?_
  rw [c128 c hc]
  refine AW_callT (As := [_]) 7 hX dX2_ofLetter_4 rfl ml_X2_11 mw_J0_indexOf_0f7a4 rfl rfl rfl (Nat.le_of_ble_eq_true rfl) (by decide) ⟨(Nat.le_refl _), (Nat.le_refl _)⟩ (c_jidx1 c hc ?_)
  refine AW_iret hX hE dX2_ofLetter_7 rfl (Nat.le_refl _) (Nat.le_refl _) ?_
  exact hK
end
section
/-! the page: pg j is letter j of m -/
def pAt (m : Nat) (pg : Nat → Nat) (i : Nat) : Nat := if i < m then pg i else 0
def plA (m : Nat) (pg : Nat → Nat) : Nat → Nat → Nat
  | 0, i => i
  | d + 1, i => if kn (pAt m pg i) < 5 then plA m pg d (i + 1) else i
/-- how many kinds the page begins with -/
def plc (m : Nat) (pg : Nat → Nat) : Nat := plA m pg 12 0
/-- the first wrong letter -/
def fw (m : Nat) (pg : Nat → Nat) : Nat := if plc m pg < 4 ∨ pAt m pg (plc m pg) ≠ 59 then plc m pg else if 49 ≤ pAt m pg (plc m pg + 1) ∧ pAt m pg (plc m pg + 1) ≤ 57 then plc m pg + 2 else plc m pg + 1
/-- the page is a yard -/
def pwh (m : Nat) (pg : Nat → Nat) : Prop := 4 ≤ plc m pg ∧ pAt m pg (plc m pg) = 59 ∧ 49 ≤ pAt m pg (plc m pg + 1) ∧ pAt m pg (plc m pg + 1) ≤ 57 ∧ m = plc m pg + 2
theorem kn0 : ¬ kn 0 < 5 := by decide
theorem plA_le (m : Nat) (pg : Nat → Nat) : ∀ d i, i ≤ m → i ≤ plA m pg d i ∧ plA m pg d i ≤ i + d ∧ plA m pg d i ≤ m
  | 0, i, hi => by simp only [plA]; omega
  | d + 1, i, hi => by
    simp only [plA]
    split
    next hk =>
      have him : i < m := by
        rcases Nat.lt_or_ge i m with q | q
        · exact q
        · simp only [pAt, if_neg (Nat.not_lt.mpr q)] at hk
          exact absurd hk kn0
      have := plA_le m pg d (i + 1) him
      omega
    next => omega
theorem plc_le (m : Nat) (pg : Nat → Nat) : plc m pg ≤ 12 ∧ plc m pg ≤ m := by
  have := plA_le m pg 12 0 (Nat.zero_le _)
  simp only [plc]
  omega
theorem plA_kn (m : Nat) (pg : Nat → Nat) : ∀ d i j, i ≤ j → j < plA m pg d i → kn (pAt m pg j) < 5
  | 0, i, j, h1, h2 => by simp only [plA] at h2; omega
  | d + 1, i, j, h1, h2 => by
    simp only [plA] at h2
    split at h2
    next hk =>
      by_cases e : j = i
      · subst e; exact hk
      · exact plA_kn m pg d (i + 1) j (by omega) h2
    next => omega
theorem plc_kn {m : Nat} {pg : Nat → Nat} {j : Nat} (h : j < plc m pg) : kn (pAt m pg j) < 5 := plA_kn m pg 12 0 j (Nat.zero_le _) h
/-- a Page at a -/
def pgC (h : AH) (a m : Nat) (pg : Nat → Nat) : Prop := h a = some (.inl (2, [.ref (a + 1), .int (nI m)])) ∧ m ≤ 16 ∧ (∀ j, j < m → pg j < 128) ∧ ∃ f, h (a + 1) = some (.inr (0, 16, f)) ∧ ∀ j, j < m → f j = nI (pg j)
theorem pgC_fr {h h' : AH} {a m lo hi : Nat} {pg : Nat → Nat} (g : pgC h a m pg) (q : fr h h' lo hi) (ho : a + 2 ≤ lo ∨ hi ≤ a) : pgC h' a m pg := by
  obtain ⟨h1, h2, h3, f, h4, h5⟩ := g
  exact ⟨(q a (by omega)).trans h1, h2, h3, f, (q (a + 1) (by omega)).trans h4, h5⟩
theorem pAt_lt {h : AH} {a m : Nat} {pg : Nat → Nat} (g : pgC h a m pg) (i : Nat) : pAt m pg i < 128 := by
  simp only [pAt]
  split
  next hi => exact g.2.2.1 i hi
  next => omega
theorem krn {c : Nat} (hc : kn c < 5) : ¬ kr c = -1 := by
  simp only [kr, if_pos hc]
  have : ∀ k, k < 5 → ¬ nI k = -1 := by decide
  exact this _ hc
theorem kry {c : Nat} (hc : ¬ kn c < 5) : kr c = -1 := by simp only [kr, if_neg hc]
set_option maxRecDepth 100000 in
set_option maxHeartbeats 4000000 in
theorem c_psize {h : AH} {K : Option Value → AH → Prop} {a m : Nat} {pg : Nat → Nat} (hg : pgC h a m pg) (hK : K (some (.int (nI m))) h) : aX3_size 0 [.ref a] h K := by
  have ha := hg.1
  refine AM.of [some (.ref a)] pn_X3_size rfl (Nat.le_of_ble_eq_true rfl) (fun X hX hE => ?_)
  refine AW_aload_n 1 hX dX3_size_0 rfl rfl ?_
  refine AW_get 4 hX dX3_size_1 rfl fl_X3_15 (by first | assumption | exact hset_eq | exact (hset_ne (by omega)).trans (by first | assumption | exact hset_eq | exact (hset_ne (by omega)).trans (by first | assumption | exact hset_eq | exact (hset_ne (by omega)).trans (by first | assumption | exact hset_eq | exact (hset_ne (by omega)).trans (by first | assumption | exact hset_eq))))) rfl ?_
  refine AW_iret hX hE dX3_size_4 rfl (Nat.le_refl _) (Nat.le_refl _) ?_
  exact hK
set_option maxRecDepth 100000 in
set_option maxHeartbeats 4000000 in
theorem c_codeAt {h : AH} {K : Option Value → AH → Prop} {a m : Nat} {pg : Nat → Nat} (hg : pgC h a m pg) (i : Nat) (hi : i < 1000) (hK : K (some (.int (nI (pAt m pg i)))) h) : aX3_codeAt 0 [.ref a, .int (nI i)] h K := by
  obtain ⟨ha, hm, hc, f, hb, hf⟩ := id hg
  refine AM.of [some (.ref a), some (.int (nI i))] pn_X3_codeAt rfl (Nat.le_of_ble_eq_true rfl) (fun X hX hE => ?_)
  refine AW_iload_n 1 hX dX3_codeAt_0 rfl rfl ?_
  refine AW_if_lt 4 27 hX dX3_codeAt_1 rfl (by decide) (fun c1 => absurd c1 (nI_pos (by omega))) (fun c1 => ?_)
  refine AW_iload_n 5 hX dX3_codeAt_4 rfl rfl ?_
  refine AW_aload_n 6 hX dX3_codeAt_5 rfl rfl ?_
  refine AW_get 9 hX dX3_codeAt_6 rfl fl_X3_15 (by first | assumption | exact hset_eq | exact (hset_ne (by omega)).trans (by first | assumption | exact hset_eq | exact (hset_ne (by omega)).trans (by first | assumption | exact hset_eq | exact (hset_ne (by omega)).trans (by first | assumption | exact hset_eq | exact (hset_ne (by omega)).trans (by first | assumption | exact hset_eq))))) rfl ?_
  refine AW_icmp_ge 12 27 hX dX3_codeAt_9 rfl (by decide) (fun c9 => ?_) (fun c9 => ?_)
  · refine AW_iconst 28 hX dX3_codeAt_27 rfl ic_0 ?_
    refine AW_iret hX hE dX3_codeAt_28 rfl (Nat.le_refl _) (Nat.le_refl _) ?_
    have := iLe c9
    simp only [pAt, if_neg (Nat.not_lt.mpr this)] at hK
    exact hK
  · refine AW_iload_n 13 hX dX3_codeAt_12 rfl rfl ?_
    refine AW_bipush 15 hX dX3_codeAt_13 rfl bp_16 ?_
    refine AW_icmp_ge 18 27 hX dX3_codeAt_15 rfl (by decide) (fun c15 => absurd c15 (by have := iNle c9; exact nI_ge (a := i) (b := 16) (by omega) (by decide))) (fun c15 => ?_)
    refine AW_aload_n 19 hX dX3_codeAt_18 rfl rfl ?_
    refine AW_get 22 hX dX3_codeAt_19 rfl fl_X3_11 (by first | assumption | exact hset_eq | exact (hset_ne (by omega)).trans (by first | assumption | exact hset_eq | exact (hset_ne (by omega)).trans (by first | assumption | exact hset_eq | exact (hset_ne (by omega)).trans (by first | assumption | exact hset_eq | exact (hset_ne (by omega)).trans (by first | assumption | exact hset_eq))))) rfl ?_
    refine AW_iload_n 23 hX dX3_codeAt_22 rfl rfl ?_
    refine AW_iald 24 hX dX3_codeAt_23 rfl (by first | assumption | exact hset_eq | exact (hset_ne (by omega)).trans (by first | assumption | exact hset_eq | exact (hset_ne (by omega)).trans (by first | assumption | exact hset_eq | exact (hset_ne (by omega)).trans (by first | assumption | exact hset_eq | exact (hset_ne (by omega)).trans (by first | assumption | exact hset_eq))))) (j := i) (by have := iNle c9; omega) rfl ?_
    refine AW_goto 28 hX dX3_codeAt_24 (by decide) ?_
    refine AW_iret hX hE dX3_codeAt_28 rfl (Nat.le_refl _) (Nat.le_refl _) ?_
    have := iNle c9
    simp only [pAt, if_pos this] at hK
    rw [hf i this]
    exact hK
set_option maxRecDepth 100000 in
set_option maxHeartbeats 4000000 in
theorem c_pappend {h : AH} {K : Option Value → AH → Prop} {a m : Nat} {pg : Nat → Nat} (hg : pgC h a m pg) (c : Nat) (hc : c < 128) (h0 : m = 16 → K (some (.int 0)) h) (h1 : ∀ h' : AH, m < 16 → pgC h' a (m + 1) (fun j => if j = m then c else pg j) → fr h h' a (a + 2) → K (some (.int 1)) h') : aX3_append 0 [.ref a, .int (nI c)] h K := by
  obtain ⟨ha, hm, hcc, f, hb, hf⟩ := id hg
  refine AM.of [some (.ref a), some (.int (nI c))] pn_X3_append rfl (Nat.le_of_ble_eq_true rfl) (fun X hX hE => ?_)
  refine AW_aload_n 1 hX dX3_append_0 rfl rfl ?_
  refine AW_get 4 hX dX3_append_1 rfl fl_X3_15 (by first | assumption | exact hset_eq | exact (hset_ne (by omega)).trans (by first | assumption | exact hset_eq | exact (hset_ne (by omega)).trans (by first | assumption | exact hset_eq | exact (hset_ne (by omega)).trans (by first | assumption | exact hset_eq | exact (hset_ne (by omega)).trans (by first | assumption | exact hset_eq))))) rfl ?_
  refine AW_if_lt 7 16 hX dX3_append_4 rfl (by decide) (fun c4 => absurd c4 (nI_pos (by omega))) (fun c4 => ?_)
  refine AW_aload_n 8 hX dX3_append_7 rfl rfl ?_
  refine AW_get 11 hX dX3_append_8 rfl fl_X3_15 (by first | assumption | exact hset_eq | exact (hset_ne (by omega)).trans (by first | assumption | exact hset_eq | exact (hset_ne (by omega)).trans (by first | assumption | exact hset_eq | exact (hset_ne (by omega)).trans (by first | assumption | exact hset_eq | exact (hset_ne (by omega)).trans (by first | assumption | exact hset_eq))))) rfl ?_
  refine AW_bipush 13 hX dX3_append_11 rfl bp_16 ?_
  refine AW_icmp_lt 16 18 hX dX3_append_13 rfl (by decide) (fun c13 => ?_) (fun c13 => ?_)
  · refine AW_aload_n 19 hX dX3_append_18 rfl rfl ?_
    refine AW_get 22 hX dX3_append_19 rfl fl_X3_11 (by first | assumption | exact hset_eq | exact (hset_ne (by omega)).trans (by first | assumption | exact hset_eq | exact (hset_ne (by omega)).trans (by first | assumption | exact hset_eq | exact (hset_ne (by omega)).trans (by first | assumption | exact hset_eq | exact (hset_ne (by omega)).trans (by first | assumption | exact hset_eq))))) rfl ?_
    refine AW_aload_n 23 hX dX3_append_22 rfl rfl ?_
    refine AW_get 26 hX dX3_append_23 rfl fl_X3_15 (by first | assumption | exact hset_eq | exact (hset_ne (by omega)).trans (by first | assumption | exact hset_eq | exact (hset_ne (by omega)).trans (by first | assumption | exact hset_eq | exact (hset_ne (by omega)).trans (by first | assumption | exact hset_eq | exact (hset_ne (by omega)).trans (by first | assumption | exact hset_eq))))) rfl ?_
    refine AW_iload_n 27 hX dX3_append_26 rfl rfl ?_
    refine AW_iast 28 hX dX3_append_27 rfl (by first | assumption | exact hset_eq | exact (hset_ne (by omega)).trans (by first | assumption | exact hset_eq | exact (hset_ne (by omega)).trans (by first | assumption | exact hset_eq | exact (hset_ne (by omega)).trans (by first | assumption | exact hset_eq | exact (hset_ne (by omega)).trans (by first | assumption | exact hset_eq))))) (j := m) (by have := iLt (b := 16) c13; omega) rfl ?_
    try rw [hset_hset]
    refine AW_aload_n 29 hX dX3_append_28 rfl rfl ?_
    refine AW_dup 30 hX dX3_append_29 rfl rfl ?_
    refine AW_get 33 hX dX3_append_30 rfl fl_X3_15 (by first | assumption | exact hset_eq | exact (hset_ne (by omega)).trans (by first | assumption | exact hset_eq | exact (hset_ne (by omega)).trans (by first | assumption | exact hset_eq | exact (hset_ne (by omega)).trans (by first | assumption | exact hset_eq | exact (hset_ne (by omega)).trans (by first | assumption | exact hset_eq))))) rfl ?_
    refine AW_iconst 34 hX dX3_append_33 rfl ic_1 ?_
    refine AW_iadd 35 hX dX3_append_34 rfl ?_
    refine AW_put 38 hX dX3_append_35 rfl fl_X3_15 (by first | assumption | exact hset_eq | exact (hset_ne (by omega)).trans (by first | assumption | exact hset_eq | exact (hset_ne (by omega)).trans (by first | assumption | exact hset_eq | exact (hset_ne (by omega)).trans (by first | assumption | exact hset_eq | exact (hset_ne (by omega)).trans (by first | assumption | exact hset_eq))))) rfl (fun _ => rfl) (fun _ => rfl) (Nat.le_of_ble_eq_true rfl) ?_
    try rw [hset_hset]
    refine AW_iconst 39 hX dX3_append_38 rfl ic_1 ?_
    refine AW_iret hX hE dX3_append_39 rfl (Nat.le_refl _) (Nat.le_refl _) ?_
    have hm16 := iLt (b := 16) c13
    refine h1 _ hm16 ⟨?_, by omega, fun j hj => ?_, upd f m (nI c), (hset_ne (by omega)).trans hset_eq, fun j hj => ?_⟩ (fr_tr (fr_set (by omega) (by omega)) (fr_set (by omega) (by omega)))
    · rw [hset_eq, nI_1]
      rfl
    · show (if j = m then c else pg j) < 128
      split
      · exact hc
      · exact hcc j (by omega)
    · simp only [upd]
      split
      · rfl
      · exact hf j (by omega)
  · refine AW_iconst 17 hX dX3_append_16 rfl ic_0 ?_
    refine AW_iret hX hE dX3_append_17 rfl (Nat.le_refl _) (Nat.le_refl _) ?_
    have := iNlt (b := 16) c13
    exact h0 (by omega)
set_option maxRecDepth 100000 in
set_option maxHeartbeats 4000000 in
theorem c_pclear {h : AH} {K : Option Value → AH → Prop} {a m : Nat} {pg : Nat → Nat} (hg : pgC h a m pg) (h1 : ∀ h' : AH, pgC h' a 0 pg → fr h h' a (a + 2) → K (some (.int (nI m))) h') : aX3_clear 0 [.ref a] h K := by
  obtain ⟨ha, hm, hcc, f, hb, hf⟩ := id hg
  refine AM.of [some (.ref a), none] pn_X3_clear rfl (Nat.le_of_ble_eq_true rfl) (fun X hX hE => ?_)
  refine AW_aload_n 1 hX dX3_clear_0 rfl rfl ?_
  refine AW_get 4 hX dX3_clear_1 rfl fl_X3_15 (by first | assumption | exact hset_eq | exact (hset_ne (by omega)).trans (by first | assumption | exact hset_eq | exact (hset_ne (by omega)).trans (by first | assumption | exact hset_eq | exact (hset_ne (by omega)).trans (by first | assumption | exact hset_eq | exact (hset_ne (by omega)).trans (by first | assumption | exact hset_eq))))) rfl ?_
  refine AW_istore_n 5 hX dX3_clear_4 rfl (Nat.le_of_ble_eq_true rfl) rfl ?_
  refine AW_aload_n 6 hX dX3_clear_5 rfl rfl ?_
  refine AW_iconst 7 hX dX3_clear_6 rfl ic_0 ?_
  refine AW_put 10 hX dX3_clear_7 rfl fl_X3_15 (by first | assumption | exact hset_eq | exact (hset_ne (by omega)).trans (by first | assumption | exact hset_eq | exact (hset_ne (by omega)).trans (by first | assumption | exact hset_eq | exact (hset_ne (by omega)).trans (by first | assumption | exact hset_eq | exact (hset_ne (by omega)).trans (by first | assumption | exact hset_eq))))) rfl (fun _ => rfl) (fun _ => rfl) (Nat.le_of_ble_eq_true rfl) ?_
  try rw [hset_hset]
  refine AW_iload_n 11 hX dX3_clear_10 rfl rfl ?_
  refine AW_iret hX hE dX3_clear_11 rfl (Nat.le_refl _) (Nat.le_refl _) ?_
  exact h1 _ ⟨hset_eq, by omega, fun j hj => by omega, f, (hset_ne (by omega)).trans hb, fun j hj => by omega⟩ (fr_set (by omega) (by omega))
set_option maxRecDepth 100000 in
set_option maxHeartbeats 4000000 in
theorem c_placesAhead {h : AH} {K : Option Value → AH → Prop} {a m : Nat} {pg : Nat → Nat} (hg : pgC h a m pg) (hK : K (some (.int (nI (plc m pg)))) h) : aX3_placesAhead 5 [.ref a] h K := by
  obtain ⟨ha, hm, hcc, f, hb, hf⟩ := id hg
  refine AM.of [some (.ref a), none] pn_X3_placesAhead rfl (Nat.le_of_ble_eq_true rfl) (fun X hX hE => ?_)
  have loop : ∀ d i, i + d = 12 → i ≤ m → plA m pg d i = plc m pg → AW X 0 0 2 [some (.ref a), some (.int (nI i))] [] h := by
    intro d
    induction d with
    | zero =>
      intro i hi him e
      simp only [plA] at e
      refine AW_iload_n 3 hX dX3_placesAhead_2 rfl rfl ?_
      refine AW_aload_n 4 hX dX3_placesAhead_3 rfl rfl ?_
      refine AW_get 7 hX dX3_placesAhead_4 rfl fl_X3_15 (by first | assumption | exact hset_eq | exact (hset_ne (by omega)).trans (by first | assumption | exact hset_eq | exact (hset_ne (by omega)).trans (by first | assumption | exact hset_eq | exact (hset_ne (by omega)).trans (by first | assumption | exact hset_eq | exact (hset_ne (by omega)).trans (by first | assumption | exact hset_eq))))) rfl ?_
      refine AW_icmp_ge 10 34 hX dX3_placesAhead_7 rfl (by decide) (fun c7 => ?_) (fun c7 => ?_)
      · refine AW_iload_n 35 hX dX3_placesAhead_34 rfl rfl ?_
        refine AW_iret hX hE dX3_placesAhead_35 rfl (Nat.le_refl _) (Nat.le_refl _) ?_
        rw [← e] at hK; exact hK
      · refine AW_iload_n 11 hX dX3_placesAhead_10 rfl rfl ?_
        refine AW_bipush 13 hX dX3_placesAhead_11 rfl bp_12 ?_
        refine AW_icmp_ge 16 34 hX dX3_placesAhead_13 rfl (by decide) (fun c13 => ?_) (fun c13 => absurd (nI_le (a := 12) (b := i) (by omega) (by omega)) c13)
        refine AW_iload_n 35 hX dX3_placesAhead_34 rfl rfl ?_
        refine AW_iret hX hE dX3_placesAhead_35 rfl (Nat.le_refl _) (Nat.le_refl _) ?_
        rw [← e] at hK; exact hK
    | succ d ih =>
      intro i hi him e
      simp only [plA] at e
      refine AW_iload_n 3 hX dX3_placesAhead_2 rfl rfl ?_
      refine AW_aload_n 4 hX dX3_placesAhead_3 rfl rfl ?_
      refine AW_get 7 hX dX3_placesAhead_4 rfl fl_X3_15 (by first | assumption | exact hset_eq | exact (hset_ne (by omega)).trans (by first | assumption | exact hset_eq | exact (hset_ne (by omega)).trans (by first | assumption | exact hset_eq | exact (hset_ne (by omega)).trans (by first | assumption | exact hset_eq | exact (hset_ne (by omega)).trans (by first | assumption | exact hset_eq))))) rfl ?_
      refine AW_icmp_ge 10 34 hX dX3_placesAhead_7 rfl (by decide) (fun c7 => ?_) (fun c7 => ?_)
      · refine AW_iload_n 35 hX dX3_placesAhead_34 rfl rfl ?_
        refine AW_iret hX hE dX3_placesAhead_35 rfl (Nat.le_refl _) (Nat.le_refl _) ?_
        have := iLe c7
        rw [if_neg (by simp only [pAt, if_neg (Nat.not_lt.mpr this)]; exact kn0)] at e
        rw [← e] at hK
        exact hK
      · refine AW_iload_n 11 hX dX3_placesAhead_10 rfl rfl ?_
        refine AW_bipush 13 hX dX3_placesAhead_11 rfl bp_12 ?_
        refine AW_icmp_ge 16 34 hX dX3_placesAhead_13 rfl (by decide) (fun c13 => absurd c13 (nI_ge (a := i) (b := 12) (by omega) (by decide))) (fun c13 => ?_)
        refine AW_aload_n 17 hX dX3_placesAhead_16 rfl rfl ?_
        refine AW_iload_n 18 hX dX3_placesAhead_17 rfl rfl ?_
        refine AW_cV (As := [_]) 21 hX dX3_placesAhead_18 rfl ml_X3_19 mw_X3_codeAt (by first | assumption | exact hset_eq | exact (hset_ne (by omega)).trans (by first | assumption | exact hset_eq | exact (hset_ne (by omega)).trans (by first | assumption | exact hset_eq | exact (hset_ne (by omega)).trans (by first | assumption | exact hset_eq | exact (hset_ne (by omega)).trans (by first | assumption | exact hset_eq))))) (by decide) rfl rfl rfl (Nat.le_of_ble_eq_true rfl) (by decide) ⟨(Nat.le_refl _), (Nat.le_refl _)⟩ (c_codeAt hg i (by omega) ?_)
        refine AW_cS (As := [_]) 24 hX dX3_placesAhead_21 rfl ml_X3_23 mw_X2_ofLetter rfl rfl (Nat.le_of_ble_eq_true rfl) (by decide) ⟨(Nat.le_refl _), (Nat.le_refl _)⟩ (c_ofLetter _ (pAt_lt hg i) ?_)
        refine AW_iconst 25 hX dX3_placesAhead_24 rfl ic_m1 ?_
        refine AW_icmp_eq 28 34 hX dX3_placesAhead_25 rfl (by decide) (fun c25 => ?_) (fun c25 => ?_)
        · refine AW_iload_n 35 hX dX3_placesAhead_34 rfl rfl ?_
          refine AW_iret hX hE dX3_placesAhead_35 rfl (Nat.le_refl _) (Nat.le_refl _) ?_
          rw [if_neg (fun q => krn q c25)] at e
          rw [← e] at hK
          exact hK
        · refine AW_iinc 31 hX dX3_placesAhead_28 rfl rfl (iincp ic_1) (Nat.le_of_ble_eq_true rfl) rfl ?_
          refine AW_goto 2 hX dX3_placesAhead_31 (by decide) ?_
          have hk : kn (pAt m pg i) < 5 := Classical.byContradiction fun q => c25 (kry q)
          rw [if_pos hk] at e
          rw [nI_1]
          have := iNle c7
          exact ih (i + 1) (by omega) (by omega) e
  refine AW_iconst 1 hX dX3_placesAhead_0 rfl ic_0 ?_
  refine AW_istore_n 2 hX dX3_placesAhead_1 rfl (Nat.le_of_ble_eq_true rfl) rfl ?_
  exact loop 12 0 (by omega) (Nat.zero_le _) rfl
set_option maxRecDepth 100000 in
set_option maxHeartbeats 4000000 in
theorem c_firstWrong {h : AH} {K : Option Value → AH → Prop} {a m : Nat} {pg : Nat → Nat} (hg : pgC h a m pg) (hK : K (some (.int (nI (fw m pg)))) h) : aX3_firstWrong 6 [.ref a] h K := by
  obtain ⟨ha, hm, hcc, f, hb, hf⟩ := id hg
  have hpl := plc_le m pg
  have hp0 : ∀ i, m ≤ i → pAt m pg i = 0 := fun i hi => by simp only [pAt, if_neg (Nat.not_lt.mpr hi)]
  have hp1 : ∀ i, pAt m pg i < 128 := fun i => pAt_lt hg i
  refine AM.of [some (.ref a), none, none] pn_X3_firstWrong rfl (Nat.le_of_ble_eq_true rfl) (fun X hX hE => ?_)
  refine AW_aload_n 1 hX dX3_firstWrong_0 rfl rfl ?_
  refine AW_cV (As := []) 4 hX dX3_firstWrong_1 rfl ml_X3_28 mw_X3_placesAhead (by first | assumption | exact hset_eq | exact (hset_ne (by omega)).trans (by first | assumption | exact hset_eq | exact (hset_ne (by omega)).trans (by first | assumption | exact hset_eq | exact (hset_ne (by omega)).trans (by first | assumption | exact hset_eq | exact (hset_ne (by omega)).trans (by first | assumption | exact hset_eq))))) (by decide) rfl rfl rfl (Nat.le_of_ble_eq_true rfl) (by decide) ⟨(Nat.le_refl _), (Nat.le_refl _)⟩ (c_placesAhead hg ?_)
  refine AW_istore_n 5 hX dX3_firstWrong_4 rfl (Nat.le_of_ble_eq_true rfl) rfl ?_
  refine AW_iload_n 6 hX dX3_firstWrong_5 rfl rfl ?_
  refine AW_aload_n 7 hX dX3_firstWrong_6 rfl rfl ?_
  refine AW_get 10 hX dX3_firstWrong_7 rfl fl_X3_15 (by first | assumption | exact hset_eq | exact (hset_ne (by omega)).trans (by first | assumption | exact hset_eq | exact (hset_ne (by omega)).trans (by first | assumption | exact hset_eq | exact (hset_ne (by omega)).trans (by first | assumption | exact hset_eq | exact (hset_ne (by omega)).trans (by first | assumption | exact hset_eq))))) rfl ?_
  refine AW_icmp_ge 13 28 hX dX3_firstWrong_10 rfl (by decide) (fun c10 => ?_) (fun c10 => ?_)
  · refine AW_iload_n 29 hX dX3_firstWrong_28 rfl rfl ?_
    refine AW_iret hX hE dX3_firstWrong_29 rfl (Nat.le_refl _) (Nat.le_refl _) ?_
    have := iLe c10
    have h0 := hp0 _ this
    have fwk : fw m pg = plc m pg := by simp only [fw]; rw [if_pos (by omega)]
    rw [fwk] at hK
    exact hK
  · refine AW_iload_n 14 hX dX3_firstWrong_13 rfl rfl ?_
    refine AW_iconst 15 hX dX3_firstWrong_14 rfl ic_4 ?_
    refine AW_icmp_lt 18 28 hX dX3_firstWrong_15 rfl (by decide) (fun c15 => ?_) (fun c15 => ?_)
    · refine AW_iload_n 29 hX dX3_firstWrong_28 rfl rfl ?_
      refine AW_iret hX hE dX3_firstWrong_29 rfl (Nat.le_refl _) (Nat.le_refl _) ?_
      have := iLt (b := 4) c15
      have fwk : fw m pg = plc m pg := by simp only [fw]; rw [if_pos (by omega)]
      rw [fwk] at hK
      exact hK
    · refine AW_aload_n 19 hX dX3_firstWrong_18 rfl rfl ?_
      refine AW_iload_n 20 hX dX3_firstWrong_19 rfl rfl ?_
      refine AW_cV (As := [_]) 23 hX dX3_firstWrong_20 rfl ml_X3_19 mw_X3_codeAt (by first | assumption | exact hset_eq | exact (hset_ne (by omega)).trans (by first | assumption | exact hset_eq | exact (hset_ne (by omega)).trans (by first | assumption | exact hset_eq | exact (hset_ne (by omega)).trans (by first | assumption | exact hset_eq | exact (hset_ne (by omega)).trans (by first | assumption | exact hset_eq))))) (by decide) rfl rfl rfl (Nat.le_of_ble_eq_true rfl) (by decide) ⟨(Nat.le_refl _), (Nat.le_refl _)⟩ (c_codeAt hg _ (by omega) ?_)
      refine AW_bipush 25 hX dX3_firstWrong_23 rfl bp_59 ?_
      refine AW_icmp_eq 28 30 hX dX3_firstWrong_25 rfl (by decide) (fun c25 => ?_) (fun c25 => ?_)
      · refine AW_iload_n 31 hX dX3_firstWrong_30 rfl rfl ?_
        refine AW_iconst 32 hX dX3_firstWrong_31 rfl ic_1 ?_
        refine AW_iadd 33 hX dX3_firstWrong_32 rfl ?_
        rw [nI_1]
        refine AW_istore_n 34 hX dX3_firstWrong_33 rfl (Nat.le_of_ble_eq_true rfl) rfl ?_
        refine AW_iload_n 35 hX dX3_firstWrong_34 rfl rfl ?_
        refine AW_aload_n 36 hX dX3_firstWrong_35 rfl rfl ?_
        refine AW_get 39 hX dX3_firstWrong_36 rfl fl_X3_15 (by first | assumption | exact hset_eq | exact (hset_ne (by omega)).trans (by first | assumption | exact hset_eq | exact (hset_ne (by omega)).trans (by first | assumption | exact hset_eq | exact (hset_ne (by omega)).trans (by first | assumption | exact hset_eq | exact (hset_ne (by omega)).trans (by first | assumption | exact hset_eq))))) rfl ?_
        refine AW_icmp_ge 42 62 hX dX3_firstWrong_39 rfl (by decide) (fun c39 => ?_) (fun c39 => ?_)
        · refine AW_iload_n 63 hX dX3_firstWrong_62 rfl rfl ?_
          refine AW_iret hX hE dX3_firstWrong_63 rfl (Nat.le_refl _) (Nat.le_refl _) ?_
          have h59 := iEq (a := pAt m pg (plc m pg)) (b := 59) c25 (by have := hp1 (plc m pg); omega)
          have h4 := iNlt (a := plc m pg) (b := 4) c15
          have hd := iLe c39
          have h0 := hp0 _ hd
          have fwk : fw m pg = plc m pg + 1 := by simp only [fw]; rw [if_neg (by omega), if_neg (by omega)]
          rw [fwk] at hK
          exact hK
        · refine AW_aload_n 43 hX dX3_firstWrong_42 rfl rfl ?_
          refine AW_iload_n 44 hX dX3_firstWrong_43 rfl rfl ?_
          refine AW_cV (As := [_]) 47 hX dX3_firstWrong_44 rfl ml_X3_19 mw_X3_codeAt (by first | assumption | exact hset_eq | exact (hset_ne (by omega)).trans (by first | assumption | exact hset_eq | exact (hset_ne (by omega)).trans (by first | assumption | exact hset_eq | exact (hset_ne (by omega)).trans (by first | assumption | exact hset_eq | exact (hset_ne (by omega)).trans (by first | assumption | exact hset_eq))))) (by decide) rfl rfl rfl (Nat.le_of_ble_eq_true rfl) (by decide) ⟨(Nat.le_refl _), (Nat.le_refl _)⟩ (c_codeAt hg _ (by omega) ?_)
          refine AW_bipush 49 hX dX3_firstWrong_47 rfl bp_49 ?_
          refine AW_icmp_lt 52 62 hX dX3_firstWrong_49 rfl (by decide) (fun c49 => ?_) (fun c49 => ?_)
          · refine AW_iload_n 63 hX dX3_firstWrong_62 rfl rfl ?_
            refine AW_iret hX hE dX3_firstWrong_63 rfl (Nat.le_refl _) (Nat.le_refl _) ?_
            have h59 := iEq (a := pAt m pg (plc m pg)) (b := 59) c25 (by have := hp1 (plc m pg); omega)
            have h4 := iNlt (a := plc m pg) (b := 4) c15
            have h49 := iLt (a := pAt m pg (plc m pg + 1)) (b := 49) c49 (by have := hp1 (plc m pg + 1); omega)
            have fwk : fw m pg = plc m pg + 1 := by simp only [fw]; rw [if_neg (by omega), if_neg (by omega)]
            rw [fwk] at hK
            exact hK
          · refine AW_aload_n 53 hX dX3_firstWrong_52 rfl rfl ?_
            refine AW_iload_n 54 hX dX3_firstWrong_53 rfl rfl ?_
            refine AW_cV (As := [_]) 57 hX dX3_firstWrong_54 rfl ml_X3_19 mw_X3_codeAt (by first | assumption | exact hset_eq | exact (hset_ne (by omega)).trans (by first | assumption | exact hset_eq | exact (hset_ne (by omega)).trans (by first | assumption | exact hset_eq | exact (hset_ne (by omega)).trans (by first | assumption | exact hset_eq | exact (hset_ne (by omega)).trans (by first | assumption | exact hset_eq))))) (by decide) rfl rfl rfl (Nat.le_of_ble_eq_true rfl) (by decide) ⟨(Nat.le_refl _), (Nat.le_refl _)⟩ (c_codeAt hg _ (by omega) ?_)
            refine AW_bipush 59 hX dX3_firstWrong_57 rfl bp_57 ?_
            refine AW_icmp_le 62 64 hX dX3_firstWrong_59 rfl (by decide) (fun c59 => ?_) (fun c59 => ?_)
            · refine AW_iload_n 65 hX dX3_firstWrong_64 rfl rfl ?_
              refine AW_iconst 66 hX dX3_firstWrong_65 rfl ic_1 ?_
              refine AW_iadd 67 hX dX3_firstWrong_66 rfl ?_
              refine AW_iret hX hE dX3_firstWrong_67 rfl (Nat.le_refl _) (Nat.le_refl _) ?_
              have h59 := iEq (a := pAt m pg (plc m pg)) (b := 59) c25 (by have := hp1 (plc m pg); omega)
              have h4 := iNlt (a := plc m pg) (b := 4) c15
              have h49 := iNlt (a := pAt m pg (plc m pg + 1)) (b := 49) c49 (by have := hp1 (plc m pg + 1); omega)
              have h57 := iLe (a := pAt m pg (plc m pg + 1)) (b := 57) c59 (by have := hp1 (plc m pg + 1); omega)
              have fwk : fw m pg = plc m pg + 2 := by simp only [fw]; rw [if_neg (by omega), if_pos (by omega)]
              rw [nI_1]
              rw [fwk] at hK
              exact hK
            · refine AW_iload_n 63 hX dX3_firstWrong_62 rfl rfl ?_
              refine AW_iret hX hE dX3_firstWrong_63 rfl (Nat.le_refl _) (Nat.le_refl _) ?_
              have h59 := iEq (a := pAt m pg (plc m pg)) (b := 59) c25 (by have := hp1 (plc m pg); omega)
              have h4 := iNlt (a := plc m pg) (b := 4) c15
              have h57 := iNle (a := pAt m pg (plc m pg + 1)) (b := 57) c59 (by have := hp1 (plc m pg + 1); omega)
              have fwk : fw m pg = plc m pg + 1 := by simp only [fw]; rw [if_neg (by omega), if_neg (by omega)]
              rw [fwk] at hK
              exact hK
      · refine AW_iload_n 29 hX dX3_firstWrong_28 rfl rfl ?_
        refine AW_iret hX hE dX3_firstWrong_29 rfl (Nat.le_refl _) (Nat.le_refl _) ?_
        have h59 : ¬ pAt m pg (plc m pg) = 59 := fun e => c25 (by rw [e]; rfl)
        have fwk : fw m pg = plc m pg := by simp only [fw]; rw [if_pos (by omega)]
        rw [fwk] at hK
        exact hK
set_option maxRecDepth 100000 in
set_option maxHeartbeats 4000000 in
theorem c_isWhole {h : AH} {K : Option Value → AH → Prop} {a m : Nat} {pg : Nat → Nat} (hg : pgC h a m pg) (h1 : pwh m pg → K (some (.int 1)) h) (h0 : ¬ pwh m pg → K (some (.int 0)) h) : aX3_isWhole 7 [.ref a] h K := by
  obtain ⟨ha, hm, hcc, f, hb, hf⟩ := id hg
  have hpl := plc_le m pg
  have hfw : fw m pg ≤ plc m pg + 2 := by simp only [fw]; split; omega; split <;> omega
  refine AM.of [some (.ref a), none] pn_X3_isWhole rfl (Nat.le_of_ble_eq_true rfl) (fun X hX hE => ?_)
  refine AW_aload_n 1 hX dX3_isWhole_0 rfl rfl ?_
  refine AW_cV (As := []) 4 hX dX3_isWhole_1 rfl ml_X3_28 mw_X3_placesAhead (by first | assumption | exact hset_eq | exact (hset_ne (by omega)).trans (by first | assumption | exact hset_eq | exact (hset_ne (by omega)).trans (by first | assumption | exact hset_eq | exact (hset_ne (by omega)).trans (by first | assumption | exact hset_eq | exact (hset_ne (by omega)).trans (by first | assumption | exact hset_eq))))) (by decide) rfl rfl rfl (Nat.le_of_ble_eq_true rfl) (by decide) ⟨(Nat.le_refl _), (Nat.le_refl _)⟩ (c_placesAhead hg ?_)
  refine AW_istore_n 5 hX dX3_isWhole_4 rfl (Nat.le_of_ble_eq_true rfl) rfl ?_
  refine AW_aload_n 6 hX dX3_isWhole_5 rfl rfl ?_
  refine AW_get 9 hX dX3_isWhole_6 rfl fl_X3_15 (by first | assumption | exact hset_eq | exact (hset_ne (by omega)).trans (by first | assumption | exact hset_eq | exact (hset_ne (by omega)).trans (by first | assumption | exact hset_eq | exact (hset_ne (by omega)).trans (by first | assumption | exact hset_eq | exact (hset_ne (by omega)).trans (by first | assumption | exact hset_eq))))) rfl ?_
  refine AW_iload_n 10 hX dX3_isWhole_9 rfl rfl ?_
  refine AW_iconst 11 hX dX3_isWhole_10 rfl ic_2 ?_
  refine AW_iadd 12 hX dX3_isWhole_11 rfl ?_
  rw [show (2 : Int32) = nI 2 from rfl, nI_add]
  refine AW_icmp_ne 15 30 hX dX3_isWhole_12 rfl (by decide) (fun c12 => ?_) (fun c12 => ?_)
  · refine AW_iconst 31 hX dX3_isWhole_30 rfl ic_0 ?_
    refine AW_iret hX hE dX3_isWhole_31 rfl (Nat.le_refl _) (Nat.le_refl _) ?_
    refine h0 (fun q => c12 ?_)
    rw [← q.2.2.2.2]
  · refine AW_aload_n 16 hX dX3_isWhole_15 rfl rfl ?_
    refine AW_cV (As := []) 19 hX dX3_isWhole_16 rfl ml_X3_32 mw_X3_firstWrong (by first | assumption | exact hset_eq | exact (hset_ne (by omega)).trans (by first | assumption | exact hset_eq | exact (hset_ne (by omega)).trans (by first | assumption | exact hset_eq | exact (hset_ne (by omega)).trans (by first | assumption | exact hset_eq | exact (hset_ne (by omega)).trans (by first | assumption | exact hset_eq))))) (by decide) rfl rfl rfl (Nat.le_of_ble_eq_true rfl) (by decide) ⟨(Nat.le_refl _), (Nat.le_refl _)⟩ (c_firstWrong hg ?_)
    refine AW_aload_n 20 hX dX3_isWhole_19 rfl rfl ?_
    refine AW_get 23 hX dX3_isWhole_20 rfl fl_X3_15 (by first | assumption | exact hset_eq | exact (hset_ne (by omega)).trans (by first | assumption | exact hset_eq | exact (hset_ne (by omega)).trans (by first | assumption | exact hset_eq | exact (hset_ne (by omega)).trans (by first | assumption | exact hset_eq | exact (hset_ne (by omega)).trans (by first | assumption | exact hset_eq))))) rfl ?_
    refine AW_icmp_ne 26 30 hX dX3_isWhole_23 rfl (by decide) (fun c23 => ?_) (fun c23 => ?_)
    · refine AW_iconst 31 hX dX3_isWhole_30 rfl ic_0 ?_
      refine AW_iret hX hE dX3_isWhole_31 rfl (Nat.le_refl _) (Nat.le_refl _) ?_
      refine h0 (fun q => c23 ?_)
      have e : fw m pg = m := by
        obtain ⟨q1, q2, q3, q4, q5⟩ := q
        simp only [fw]
        rw [if_neg (by omega), if_pos (by omega)]
        omega
      rw [e]
    · refine AW_iconst 27 hX dX3_isWhole_26 rfl ic_1 ?_
      refine AW_goto 31 hX dX3_isWhole_27 (by decide) ?_
      refine AW_iret hX hE dX3_isWhole_31 rfl (Nat.le_refl _) (Nat.le_refl _) ?_
      have e1 := iEq c12
      have e2 := iEq c23
      refine h1 ?_
      simp only [fw] at e2
      split at e2
      · omega
      · split at e2
        next h5 h6 => exact ⟨by omega, by omega, h6.1, h6.2, e1⟩
        next => omega
set_option maxRecDepth 100000 in
set_option maxHeartbeats 4000000 in
theorem c_pheight {h : AH} {K : Option Value → AH → Prop} {a m : Nat} {pg : Nat → Nat} (hg : pgC h a m pg) (hw : pwh m pg) (hK : K (some (.int (nI (pAt m pg (m - 1) - 48)))) h) : aX3_height 1 [.ref a] h K := by
  obtain ⟨ha, hm, hcc, f, hb, hf⟩ := id hg
  obtain ⟨q1, q2, q3, q4, q5⟩ := hw
  have hm1 : m - 1 = plc m pg + 1 := by omega
  refine AM.of [some (.ref a)] pn_X3_height rfl (Nat.le_of_ble_eq_true rfl) (fun X hX hE => ?_)
  refine AW_aload_n 1 hX dX3_height_0 rfl rfl ?_
  refine AW_aload_n 2 hX dX3_height_1 rfl rfl ?_
  refine AW_get 5 hX dX3_height_2 rfl fl_X3_15 (by first | assumption | exact hset_eq | exact (hset_ne (by omega)).trans (by first | assumption | exact hset_eq | exact (hset_ne (by omega)).trans (by first | assumption | exact hset_eq | exact (hset_ne (by omega)).trans (by first | assumption | exact hset_eq | exact (hset_ne (by omega)).trans (by first | assumption | exact hset_eq))))) rfl ?_
  refine AW_iconst 6 hX dX3_height_5 rfl ic_1 ?_
  refine AW_isub 7 hX dX3_height_6 rfl ?_
  rw [show (1 : Int32) = nI 1 from rfl, pk_sub (by omega)]
  refine AW_cV (As := [_]) 10 hX dX3_height_7 rfl ml_X3_19 mw_X3_codeAt (by first | assumption | exact hset_eq | exact (hset_ne (by omega)).trans (by first | assumption | exact hset_eq | exact (hset_ne (by omega)).trans (by first | assumption | exact hset_eq | exact (hset_ne (by omega)).trans (by first | assumption | exact hset_eq | exact (hset_ne (by omega)).trans (by first | assumption | exact hset_eq))))) (by decide) rfl rfl rfl (Nat.le_of_ble_eq_true rfl) (by decide) ⟨(Nat.le_refl _), (Nat.le_refl _)⟩ (c_codeAt hg _ (by omega) ?_)
  refine AW_bipush 12 hX dX3_height_10 rfl bp_48 ?_
  refine AW_isub 13 hX dX3_height_12 rfl ?_
  refine AW_iret hX hE dX3_height_13 rfl (Nat.le_refl _) (Nat.le_refl _) ?_
  rw [show (48 : Int32) = nI 48 from rfl, pk_sub (by rw [hm1]; omega)]
  exact hK
set_option maxRecDepth 100000 in
set_option maxHeartbeats 4000000 in
theorem c_gread {h : AH} {K : Option Value → AH → Prop} {a n b m : Nat} {f : Nat → Int32} {pg : Nat → Nat} (hg : gr h a n f) (hp : pgC h b m pg) (hab : a + 2 ≤ b ∨ b + 2 ≤ a) (hK : ∀ (h' : AH) (f' : Nat → Int32), gr h' a (plc m pg) f' → (∀ j, j < plc m pg → f' j = nI (kn (pAt m pg j))) → fr h h' a (a + 2) → K none h') : aX0_read 6 [.ref a, .ref b] h K := by
  obtain ⟨ha, hb, hm⟩ := id hg
  have hpl := plc_le m pg
  have hpa := hp.1
  refine AM.of [some (.ref a), some (.ref b), none] pn_X0_read rfl (Nat.le_of_ble_eq_true rfl) (fun X hX hE => ?_)
  have loop : ∀ d i, i + d = plc m pg → ∀ (h' : AH) (f' : Nat → Int32), gr h' a (plc m pg) f' → (∀ j, j < i → f' j = nI (kn (pAt m pg j))) → fr h h' a (a + 2) → AW X 0 0 10 [some (.ref a), some (.ref b), some (.int (nI i))] [] h' := by
    intro d
    induction d with
    | zero =>
      intro i hi h' f' hg' hf' hfr
      obtain ⟨ha', hb', hm'⟩ := id hg'
      refine AW_iload_n 11 hX dX0_read_10 rfl rfl ?_
      refine AW_aload_n 12 hX dX0_read_11 rfl rfl ?_
      refine AW_get 15 hX dX0_read_12 rfl fl_X0_15 (by first | assumption | exact hset_eq | exact (hset_ne (by omega)).trans (by first | assumption | exact hset_eq | exact (hset_ne (by omega)).trans (by first | assumption | exact hset_eq | exact (hset_ne (by omega)).trans (by first | assumption | exact hset_eq | exact (hset_ne (by omega)).trans (by first | assumption | exact hset_eq))))) rfl ?_
      refine AW_icmp_ge 18 38 hX dX0_read_15 rfl (by decide) (fun c15 => ?_) (fun c15 => absurd (nI_le (by omega) (by omega)) c15)
      refine AW_vret hX hE dX0_read_38 (Nat.le_refl _) (Nat.le_refl _) ?_
      exact hK h' f' hg' (fun j hj => hf' j (by omega)) hfr
    | succ d ih =>
      intro i hi h' f' hg' hf' hfr
      obtain ⟨ha', hb', hm'⟩ := id hg'
      have hp' := pgC_fr hp hfr (by omega)
      have hpa' := hp'.1
      have hkn : kn (pAt m pg i) < 5 := plc_kn (by omega)
      refine AW_iload_n 11 hX dX0_read_10 rfl rfl ?_
      refine AW_aload_n 12 hX dX0_read_11 rfl rfl ?_
      refine AW_get 15 hX dX0_read_12 rfl fl_X0_15 (by first | assumption | exact hset_eq | exact (hset_ne (by omega)).trans (by first | assumption | exact hset_eq | exact (hset_ne (by omega)).trans (by first | assumption | exact hset_eq | exact (hset_ne (by omega)).trans (by first | assumption | exact hset_eq | exact (hset_ne (by omega)).trans (by first | assumption | exact hset_eq))))) rfl ?_
      refine AW_icmp_ge 18 38 hX dX0_read_15 rfl (by decide) (fun c15 => absurd c15 (nI_ge (by omega) (by omega))) (fun c15 => ?_)
      refine AW_aload_n 19 hX dX0_read_18 rfl rfl ?_
      refine AW_iload_n 20 hX dX0_read_19 rfl rfl ?_
      refine AW_aload_n 21 hX dX0_read_20 rfl rfl ?_
      refine AW_iload_n 22 hX dX0_read_21 rfl rfl ?_
      refine AW_cV (As := [_]) 25 hX dX0_read_22 rfl ml_X0_35 mw_X3_codeAt (by first | assumption | exact hset_eq | exact (hset_ne (by omega)).trans (by first | assumption | exact hset_eq | exact (hset_ne (by omega)).trans (by first | assumption | exact hset_eq | exact (hset_ne (by omega)).trans (by first | assumption | exact hset_eq | exact (hset_ne (by omega)).trans (by first | assumption | exact hset_eq))))) (by decide) rfl rfl rfl (Nat.le_of_ble_eq_true rfl) (by decide) ⟨(Nat.le_refl _), (Nat.le_refl _)⟩ (c_codeAt hp' i (by omega) ?_)
      refine AW_cS (As := [_]) 28 hX dX0_read_25 rfl ml_X0_38 mw_X2_ofLetter rfl rfl (Nat.le_of_ble_eq_true rfl) (by decide) ⟨(Nat.le_refl _), (Nat.le_refl _)⟩ (c_ofLetter _ (pAt_lt hp' i) ?_)
      refine AW_cV (As := [_, _]) 31 hX dX0_read_28 rfl ml_X0_41 mw_X0_put (by first | assumption | exact hset_eq | exact (hset_ne (by omega)).trans (by first | assumption | exact hset_eq | exact (hset_ne (by omega)).trans (by first | assumption | exact hset_eq | exact (hset_ne (by omega)).trans (by first | assumption | exact hset_eq | exact (hset_ne (by omega)).trans (by first | assumption | exact hset_eq))))) (by decide) rfl rfl rfl (Nat.le_of_ble_eq_true rfl) (by decide) ⟨(Nat.le_refl _), (Nat.le_refl _)⟩ (c_put hg' (by omega) ?_)
      refine AW_pop 32 hX dX0_read_31 rfl rfl ?_
      refine AW_iinc 35 hX dX0_read_32 rfl rfl (iincp ic_1) (Nat.le_of_ble_eq_true rfl) rfl ?_
      refine AW_goto 10 hX dX0_read_35 (by decide) ?_
      rw [nI_1]
      refine ih (i + 1) (by omega) _ (upd f' i (kr (pAt m pg i))) ⟨(hset_ne (by omega)).trans ha', hset_eq, hm'⟩ (fun j hj => ?_) (fr_tr hfr (fr_set (by omega) (by omega)))
      by_cases e : j = i
      · subst e; rw [pk_us]; simp only [kr, if_pos hkn]
      · rw [pk_un e]; exact hf' j (by omega)
  refine AW_aload_n 1 hX dX0_read_0 rfl rfl ?_
  refine AW_aload_n 2 hX dX0_read_1 rfl rfl ?_
  refine AW_cV (As := []) 5 hX dX0_read_2 rfl ml_X0_29 mw_X3_placesAhead (by first | assumption | exact hset_eq | exact (hset_ne (by omega)).trans (by first | assumption | exact hset_eq | exact (hset_ne (by omega)).trans (by first | assumption | exact hset_eq | exact (hset_ne (by omega)).trans (by first | assumption | exact hset_eq | exact (hset_ne (by omega)).trans (by first | assumption | exact hset_eq))))) (by decide) rfl rfl rfl (Nat.le_of_ble_eq_true rfl) (by decide) ⟨(Nat.le_refl _), (Nat.le_refl _)⟩ (c_placesAhead hp ?_)
  refine AW_put 8 hX dX0_read_5 rfl fl_X0_15 (by first | assumption | exact hset_eq | exact (hset_ne (by omega)).trans (by first | assumption | exact hset_eq | exact (hset_ne (by omega)).trans (by first | assumption | exact hset_eq | exact (hset_ne (by omega)).trans (by first | assumption | exact hset_eq | exact (hset_ne (by omega)).trans (by first | assumption | exact hset_eq))))) rfl (fun _ => rfl) (fun _ => rfl) (Nat.le_of_ble_eq_true rfl) ?_
  try rw [hset_hset]
  refine AW_iconst 9 hX dX0_read_8 rfl ic_0 ?_
  refine AW_istore_n 10 hX dX0_read_9 rfl (Nat.le_of_ble_eq_true rfl) rfl ?_
  exact loop (plc m pg) 0 (by omega) _ f ⟨hset_eq, (hset_ne (by omega)).trans hb, hpl.1⟩ (fun j hj => by omega) (fr_set (by omega) (by omega))
end
section
/-! what is heard: hd j = (place, far, sway, fell) -/
abbrev HD : Type := Nat → Nat × Nat × Nat × Nat
def hdok (hd : HD) (m n : Nat) : Prop := ∀ j, j < m → (hd j).1 < n ∧ 1 ≤ (hd j).2.1 ∧ (hd j).2.1 ≤ 3 ∧ (hd j).2.2.1 ≤ 11 ∧ (hd j).2.2.2 ≤ 1
def wj (ks : Nat → Nat) (hd : HD) (j : Nat) : Nat := (hd j).2.2.1 + gw (ks (hd j).1) (hd j).2.1
abbrev okH (ks : Nat → Nat) (hd : HD) (m H : Nat) : Prop := ∀ j, j < m → (12 - H < wj ks hd j ↔ (hd j).2.2.2 = 1)
/-- the heights as bits -/
def hbt (ks : Nat → Nat) (hd : HD) (m : Nat) : Nat → Int32
  | 0 => 0
  | H + 1 => hbt ks hd m H ||| (if okH ks hd m (H + 1) then (1 : Int32) <<< ((nI (H + 1) - 1) &&& 31) else 0)
def hB (ks : Nat → Nat) (hd : HD) (m : Nat) : Int32 := hbt ks hd m 9
/-- is height H among the bits -/
abbrev bH (b : Int32) (H : Nat) : Prop := ¬ (b >>> ((nI H - 1) &&& 31)) &&& 1 = 0
def cF (b : Int32) (w : Nat) : Nat → Nat
  | 0 => 0
  | H + 1 => cF b w H + if bH b (H + 1) ∧ 12 - (H + 1) < w then 1 else 0
def cU (b : Int32) (w : Nat) : Nat → Nat
  | 0 => 0
  | H + 1 => cU b w H + if bH b (H + 1) ∧ ¬ 12 - (H + 1) < w then 1 else 0
def LW (b : Int32) (w : Nat) : Nat := if cF b w 9 < cU b w 9 then cU b w 9 else cF b w 9
theorem cFU_le (b : Int32) (w : Nat) : ∀ H, cF b w H + cU b w H ≤ H
  | 0 => Nat.le_refl 0
  | H + 1 => by
    have := cFU_le b w H
    simp only [cF, cU]
    by_cases h1 : bH b (H + 1)
    · by_cases h2 : 12 - (H + 1) < w
      · rw [if_pos ⟨h1, h2⟩, if_neg (fun q => q.2 h2)]; omega
      · rw [if_neg (fun q => h2 q.2), if_pos ⟨h1, h2⟩]; omega
    · rw [if_neg (fun q => h1 q.1), if_neg (fun q => h1 q.1)]; omega
theorem LW_le (b : Int32) (w : Nat) : LW b w ≤ 9 := by
  have := cFU_le b w 9
  simp only [LW]
  split <;> omega
/-- the least sway with which fewest are left -/
def bst (L : Nat → Nat) : Nat → Nat × Nat
  | 0 => (0, 10)
  | i + 1 => if L i < (bst L i).2 then (i, L i) else bst L i
theorem bst_le (L : Nat → Nat) (hL : ∀ i, L i ≤ 9) : ∀ i, (bst L i).1 ≤ i ∧ (bst L i).2 ≤ 10
  | 0 => ⟨Nat.le_refl 0, Nat.le_refl 10⟩
  | i + 1 => by
    have := bst_le L hL i
    have := hL i
    simp only [bst]
    split
    · exact ⟨Nat.le_succ i, by show L i ≤ 10; omega⟩
    · omega
def tryC (ks : Nat → Nat) (hd : HD) (m p : Nat) : Int32 := if hB ks hd m = 0 then -1 else nI (bst (fun s => LW (hB ks hd m) (s + gw (ks p) 1)) 12).1
theorem gw_le {k far : Nat} (hf : far ≤ 3) : gw k far ≤ 6 := by
  simp only [gw]
  split
  · omega
  · split
    · omega
    · split <;> omega
/-- a Heard at q -/
def heC (h : AH) (q m : Nat) (hd : HD) : Prop := h q = some (.inl (1, [.ref (q + 1), .ref (q + 2), .ref (q + 3), .ref (q + 4), .int (nI m)])) ∧ m ≤ 6 ∧ ∃ f1 f2 f3 f4, h (q + 1) = some (.inr (0, 6, f1)) ∧ h (q + 2) = some (.inr (0, 6, f2)) ∧ h (q + 3) = some (.inr (0, 6, f3)) ∧ h (q + 4) = some (.inr (2, 6, f4)) ∧ ∀ j, j < m → f1 j = nI (hd j).1 ∧ f2 j = nI (hd j).2.1 ∧ f3 j = nI (hd j).2.2.1 ∧ f4 j = nI (hd j).2.2.2 ∧ (hd j).2.2.2 ≤ 1
theorem heC_fr {h h' : AH} {q m lo hi : Nat} {hd : HD} (g : heC h q m hd) (e : fr h h' lo hi) (ho : q + 5 ≤ lo ∨ hi ≤ q) : heC h' q m hd := by
  obtain ⟨h1, h2, f1, f2, f3, f4, a1, a2, a3, a4, h3⟩ := g
  exact ⟨(e q (by omega)).trans h1, h2, f1, f2, f3, f4, (e _ (by omega)).trans a1, (e _ (by omega)).trans a2, (e _ (by omega)).trans a3, (e _ (by omega)).trans a4, h3⟩
theorem heC_to {h : AH} {q m : Nat} {hd hd' : HD} (g : heC h q m hd) (e : ∀ j, j < m → hd' j = hd j) : heC h q m hd' := by
  obtain ⟨h1, h2, f1, f2, f3, f4, a1, a2, a3, a4, h3⟩ := g
  exact ⟨h1, h2, f1, f2, f3, f4, a1, a2, a3, a4, fun j hj => by rw [e j hj]; exact h3 j hj⟩
theorem nzB : ∀ b, b ≤ 1 → vp_nar .boolean (nI b) = nI b := by decide
theorem bear : ∀ H, H ≤ 12 → (12 : Int32) - nI H = nI (12 - H) := by decide
theorem H1m : ∀ H, H ≤ 12 → nI (H + 1) - 1 = nI H := by decide
set_option maxRecDepth 100000 in
set_option maxHeartbeats 4000000 in
theorem c_bearable {h : AH} {K : Option Value → AH → Prop} (H : Nat) (hH : H ≤ 12) (hK : K (some (.int (nI (12 - H)))) h) : aX6_bearable 0 [.int (nI H)] h K := by
  refine AM.of [some (.int (nI H))] pn_X6_bearable rfl (Nat.le_of_ble_eq_true rfl) (fun X hX hE => ?_)
  refine AW_bipush 2 hX dX6_bearable_0 rfl bp_12 ?_
  refine AW_iload_n 3 hX dX6_bearable_2 rfl rfl ?_
  refine AW_isub 4 hX dX6_bearable_3 rfl ?_
  refine AW_iret hX hE dX6_bearable_4 rfl (Nat.le_refl _) (Nat.le_refl _) ?_
  rw [bear H hH]
  exact hK
set_option maxRecDepth 100000 in
set_option maxHeartbeats 4000000 in
theorem c_hsize {h : AH} {K : Option Value → AH → Prop} {q m : Nat} {hd : HD} (hg : heC h q m hd) (hK : K (some (.int (nI m))) h) : aX1_size 0 [.ref q] h K := by
  have ha := hg.1
  refine AM.of [some (.ref q)] pn_X1_size rfl (Nat.le_of_ble_eq_true rfl) (fun X hX hE => ?_)
  refine AW_aload_n 1 hX dX1_size_0 rfl rfl ?_
  refine AW_get 4 hX dX1_size_1 rfl fl_X1_25 (by first | assumption | exact hset_eq | exact (hset_ne (by omega)).trans (by first | assumption | exact hset_eq | exact (hset_ne (by omega)).trans (by first | assumption | exact hset_eq | exact (hset_ne (by omega)).trans (by first | assumption | exact hset_eq | exact (hset_ne (by omega)).trans (by first | assumption | exact hset_eq))))) rfl ?_
  refine AW_iret hX hE dX1_size_4 rfl (Nat.le_refl _) (Nat.le_refl _) ?_
  exact hK
set_option maxRecDepth 100000 in
set_option maxHeartbeats 4000000 in
theorem c_happend {h : AH} {K : Option Value → AH → Prop} {q m : Nat} {hd : HD} (hg : heC h q m hd) (p far s b : Nat) (hb1 : b ≤ 1) (h0 : m = 6 → K (some (.int 0)) h) (h1 : ∀ h' : AH, m < 6 → heC h' q (m + 1) (fun j => if j = m then (p, far, s, b) else hd j) → fr h h' q (q + 5) → K (some (.int 1)) h') : aX1_append 0 [.ref q, .int (nI p), .int (nI far), .int (nI s), .int (nI b)] h K := by
  obtain ⟨ha, hm, f1, f2, f3, f4, a1, a2, a3, a4, hf⟩ := id hg
  refine AM.of [some (.ref q), some (.int (nI p)), some (.int (nI far)), some (.int (nI s)), some (.int (nI b))] pn_X1_append rfl (Nat.le_of_ble_eq_true rfl) (fun X hX hE => ?_)
  refine AW_aload_n 1 hX dX1_append_0 rfl rfl ?_
  refine AW_get 4 hX dX1_append_1 rfl fl_X1_25 (by first | assumption | exact hset_eq | exact (hset_ne (by omega)).trans (by first | assumption | exact hset_eq | exact (hset_ne (by omega)).trans (by first | assumption | exact hset_eq | exact (hset_ne (by omega)).trans (by first | assumption | exact hset_eq | exact (hset_ne (by omega)).trans (by first | assumption | exact hset_eq))))) rfl ?_
  refine AW_if_lt 7 16 hX dX1_append_4 rfl (by decide) (fun c4 => absurd c4 (nI_pos (by omega))) (fun c4 => ?_)
  refine AW_aload_n 8 hX dX1_append_7 rfl rfl ?_
  refine AW_get 11 hX dX1_append_8 rfl fl_X1_25 (by first | assumption | exact hset_eq | exact (hset_ne (by omega)).trans (by first | assumption | exact hset_eq | exact (hset_ne (by omega)).trans (by first | assumption | exact hset_eq | exact (hset_ne (by omega)).trans (by first | assumption | exact hset_eq | exact (hset_ne (by omega)).trans (by first | assumption | exact hset_eq))))) rfl ?_
  refine AW_bipush 13 hX dX1_append_11 rfl bp_6 ?_
  refine AW_icmp_lt 16 18 hX dX1_append_13 rfl (by decide) (fun c13 => ?_) (fun c13 => ?_)
  · refine AW_aload_n 19 hX dX1_append_18 rfl rfl ?_
    refine AW_get 22 hX dX1_append_19 rfl fl_X1_11 (by first | assumption | exact hset_eq | exact (hset_ne (by omega)).trans (by first | assumption | exact hset_eq | exact (hset_ne (by omega)).trans (by first | assumption | exact hset_eq | exact (hset_ne (by omega)).trans (by first | assumption | exact hset_eq | exact (hset_ne (by omega)).trans (by first | assumption | exact hset_eq))))) rfl ?_
    refine AW_aload_n 23 hX dX1_append_22 rfl rfl ?_
    refine AW_get 26 hX dX1_append_23 rfl fl_X1_25 (by first | assumption | exact hset_eq | exact (hset_ne (by omega)).trans (by first | assumption | exact hset_eq | exact (hset_ne (by omega)).trans (by first | assumption | exact hset_eq | exact (hset_ne (by omega)).trans (by first | assumption | exact hset_eq | exact (hset_ne (by omega)).trans (by first | assumption | exact hset_eq))))) rfl ?_
    refine AW_iload_n 27 hX dX1_append_26 rfl rfl ?_
    refine AW_iast 28 hX dX1_append_27 rfl (by first | assumption | exact hset_eq | exact (hset_ne (by omega)).trans (by first | assumption | exact hset_eq | exact (hset_ne (by omega)).trans (by first | assumption | exact hset_eq | exact (hset_ne (by omega)).trans (by first | assumption | exact hset_eq | exact (hset_ne (by omega)).trans (by first | assumption | exact hset_eq))))) (j := m) (by have := iLt (b := 6) c13; omega) rfl ?_
    try rw [hset_hset]
    refine AW_aload_n 29 hX dX1_append_28 rfl rfl ?_
    refine AW_get 32 hX dX1_append_29 rfl fl_X1_15 (by first | assumption | exact hset_eq | exact (hset_ne (by omega)).trans (by first | assumption | exact hset_eq | exact (hset_ne (by omega)).trans (by first | assumption | exact hset_eq | exact (hset_ne (by omega)).trans (by first | assumption | exact hset_eq | exact (hset_ne (by omega)).trans (by first | assumption | exact hset_eq))))) rfl ?_
    refine AW_aload_n 33 hX dX1_append_32 rfl rfl ?_
    refine AW_get 36 hX dX1_append_33 rfl fl_X1_25 (by first | assumption | exact hset_eq | exact (hset_ne (by omega)).trans (by first | assumption | exact hset_eq | exact (hset_ne (by omega)).trans (by first | assumption | exact hset_eq | exact (hset_ne (by omega)).trans (by first | assumption | exact hset_eq | exact (hset_ne (by omega)).trans (by first | assumption | exact hset_eq))))) rfl ?_
    refine AW_iload_n 37 hX dX1_append_36 rfl rfl ?_
    refine AW_iast 38 hX dX1_append_37 rfl (by first | assumption | exact hset_eq | exact (hset_ne (by omega)).trans (by first | assumption | exact hset_eq | exact (hset_ne (by omega)).trans (by first | assumption | exact hset_eq | exact (hset_ne (by omega)).trans (by first | assumption | exact hset_eq | exact (hset_ne (by omega)).trans (by first | assumption | exact hset_eq))))) (j := m) (by have := iLt (b := 6) c13; omega) rfl ?_
    try rw [hset_hset]
    refine AW_aload_n 39 hX dX1_append_38 rfl rfl ?_
    refine AW_get 42 hX dX1_append_39 rfl fl_X1_18 (by first | assumption | exact hset_eq | exact (hset_ne (by omega)).trans (by first | assumption | exact hset_eq | exact (hset_ne (by omega)).trans (by first | assumption | exact hset_eq | exact (hset_ne (by omega)).trans (by first | assumption | exact hset_eq | exact (hset_ne (by omega)).trans (by first | assumption | exact hset_eq))))) rfl ?_
    refine AW_aload_n 43 hX dX1_append_42 rfl rfl ?_
    refine AW_get 46 hX dX1_append_43 rfl fl_X1_25 (by first | assumption | exact hset_eq | exact (hset_ne (by omega)).trans (by first | assumption | exact hset_eq | exact (hset_ne (by omega)).trans (by first | assumption | exact hset_eq | exact (hset_ne (by omega)).trans (by first | assumption | exact hset_eq | exact (hset_ne (by omega)).trans (by first | assumption | exact hset_eq))))) rfl ?_
    refine AW_iload_n 47 hX dX1_append_46 rfl rfl ?_
    refine AW_iast 48 hX dX1_append_47 rfl (by first | assumption | exact hset_eq | exact (hset_ne (by omega)).trans (by first | assumption | exact hset_eq | exact (hset_ne (by omega)).trans (by first | assumption | exact hset_eq | exact (hset_ne (by omega)).trans (by first | assumption | exact hset_eq | exact (hset_ne (by omega)).trans (by first | assumption | exact hset_eq))))) (j := m) (by have := iLt (b := 6) c13; omega) rfl ?_
    try rw [hset_hset]
    refine AW_aload_n 49 hX dX1_append_48 rfl rfl ?_
    refine AW_get 52 hX dX1_append_49 rfl fl_X1_21 (by first | assumption | exact hset_eq | exact (hset_ne (by omega)).trans (by first | assumption | exact hset_eq | exact (hset_ne (by omega)).trans (by first | assumption | exact hset_eq | exact (hset_ne (by omega)).trans (by first | assumption | exact hset_eq | exact (hset_ne (by omega)).trans (by first | assumption | exact hset_eq))))) rfl ?_
    refine AW_aload_n 53 hX dX1_append_52 rfl rfl ?_
    refine AW_get 56 hX dX1_append_53 rfl fl_X1_25 (by first | assumption | exact hset_eq | exact (hset_ne (by omega)).trans (by first | assumption | exact hset_eq | exact (hset_ne (by omega)).trans (by first | assumption | exact hset_eq | exact (hset_ne (by omega)).trans (by first | assumption | exact hset_eq | exact (hset_ne (by omega)).trans (by first | assumption | exact hset_eq))))) rfl ?_
    refine AW_iload 58 hX dX1_append_56 rfl rfl ?_
    refine AW_zast 59 hX dX1_append_58 rfl (by first | assumption | exact hset_eq | exact (hset_ne (by omega)).trans (by first | assumption | exact hset_eq | exact (hset_ne (by omega)).trans (by first | assumption | exact hset_eq | exact (hset_ne (by omega)).trans (by first | assumption | exact hset_eq | exact (hset_ne (by omega)).trans (by first | assumption | exact hset_eq))))) (j := m) (by have := iLt (b := 6) c13; omega) rfl ?_
    try rw [hset_hset]
    refine AW_aload_n 60 hX dX1_append_59 rfl rfl ?_
    refine AW_dup 61 hX dX1_append_60 rfl rfl ?_
    refine AW_get 64 hX dX1_append_61 rfl fl_X1_25 (by first | assumption | exact hset_eq | exact (hset_ne (by omega)).trans (by first | assumption | exact hset_eq | exact (hset_ne (by omega)).trans (by first | assumption | exact hset_eq | exact (hset_ne (by omega)).trans (by first | assumption | exact hset_eq | exact (hset_ne (by omega)).trans (by first | assumption | exact hset_eq))))) rfl ?_
    refine AW_iconst 65 hX dX1_append_64 rfl ic_1 ?_
    refine AW_iadd 66 hX dX1_append_65 rfl ?_
    refine AW_put 69 hX dX1_append_66 rfl fl_X1_25 (by first | assumption | exact hset_eq | exact (hset_ne (by omega)).trans (by first | assumption | exact hset_eq | exact (hset_ne (by omega)).trans (by first | assumption | exact hset_eq | exact (hset_ne (by omega)).trans (by first | assumption | exact hset_eq | exact (hset_ne (by omega)).trans (by first | assumption | exact hset_eq))))) rfl (fun _ => rfl) (fun _ => rfl) (Nat.le_of_ble_eq_true rfl) ?_
    try rw [hset_hset]
    refine AW_iconst 70 hX dX1_append_69 rfl ic_1 ?_
    refine AW_iret hX hE dX1_append_70 rfl (Nat.le_refl _) (Nat.le_refl _) ?_
    have hm6 := iLt (b := 6) c13
    refine h1 _ hm6 ⟨?_, by omega, upd f1 m (nI p), upd f2 m (nI far), upd f3 m (nI s), upd f4 m (vp_nar .boolean (nI b)), ?_, ?_, ?_, ?_, fun j hj => ?_⟩ ?_
    · rw [hset_eq, nI_1]
      rfl
    · rw [hset_ne (by omega), hset_ne (by omega), hset_ne (by omega), hset_ne (by omega)]; exact hset_eq
    · rw [hset_ne (by omega), hset_ne (by omega), hset_ne (by omega)]; exact hset_eq
    · rw [hset_ne (by omega), hset_ne (by omega)]; exact hset_eq
    · rw [hset_ne (by omega)]; exact hset_eq
    · by_cases e : j = m
      · subst e
        dsimp only
        rw [if_pos rfl, pk_us, pk_us, pk_us, pk_us]
        exact ⟨rfl, rfl, rfl, nzB b hb1, hb1⟩
      · simp only [pk_un e, if_neg e]
        exact hf j (by omega)
    · exact fr_tr (fr_tr (fr_tr (fr_tr (fr_set (by omega) (by omega)) (fr_set (by omega) (by omega))) (fr_set (by omega) (by omega))) (fr_set (by omega) (by omega))) (fr_set (by omega) (by omega))
  · refine AW_iconst 17 hX dX1_append_16 rfl ic_0 ?_
    refine AW_iret hX hE dX1_append_17 rfl (Nat.le_refl _) (Nat.le_refl _) ?_
    have := iNlt (b := 6) c13
    exact h0 (by omega)
set_option maxRecDepth 100000 in
set_option maxHeartbeats 4000000 in
theorem c_hclear {h : AH} {K : Option Value → AH → Prop} {q m : Nat} {hd : HD} (hg : heC h q m hd) (h1 : ∀ h' : AH, heC h' q 0 hd → fr h h' q (q + 5) → K (some (.int (nI m))) h') : aX1_clear 0 [.ref q] h K := by
  obtain ⟨ha, hm, f1, f2, f3, f4, a1, a2, a3, a4, hf⟩ := id hg
  refine AM.of [some (.ref q), none] pn_X1_clear rfl (Nat.le_of_ble_eq_true rfl) (fun X hX hE => ?_)
  refine AW_aload_n 1 hX dX1_clear_0 rfl rfl ?_
  refine AW_get 4 hX dX1_clear_1 rfl fl_X1_25 (by first | assumption | exact hset_eq | exact (hset_ne (by omega)).trans (by first | assumption | exact hset_eq | exact (hset_ne (by omega)).trans (by first | assumption | exact hset_eq | exact (hset_ne (by omega)).trans (by first | assumption | exact hset_eq | exact (hset_ne (by omega)).trans (by first | assumption | exact hset_eq))))) rfl ?_
  refine AW_istore_n 5 hX dX1_clear_4 rfl (Nat.le_of_ble_eq_true rfl) rfl ?_
  refine AW_aload_n 6 hX dX1_clear_5 rfl rfl ?_
  refine AW_iconst 7 hX dX1_clear_6 rfl ic_0 ?_
  refine AW_put 10 hX dX1_clear_7 rfl fl_X1_25 (by first | assumption | exact hset_eq | exact (hset_ne (by omega)).trans (by first | assumption | exact hset_eq | exact (hset_ne (by omega)).trans (by first | assumption | exact hset_eq | exact (hset_ne (by omega)).trans (by first | assumption | exact hset_eq | exact (hset_ne (by omega)).trans (by first | assumption | exact hset_eq))))) rfl (fun _ => rfl) (fun _ => rfl) (Nat.le_of_ble_eq_true rfl) ?_
  try rw [hset_hset]
  refine AW_iload_n 11 hX dX1_clear_10 rfl rfl ?_
  refine AW_iret hX hE dX1_clear_11 rfl (Nat.le_refl _) (Nat.le_refl _) ?_
  exact h1 _ ⟨hset_eq, by omega, f1, f2, f3, f4, (hset_ne (by omega)).trans a1, (hset_ne (by omega)).trans a2, (hset_ne (by omega)).trans a3, (hset_ne (by omega)).trans a4, fun j hj => by omega⟩ (fr_set (by omega) (by omega))
set_option maxRecDepth 100000 in
set_option maxHeartbeats 4000000 in
theorem c_hcopy {h : AH} {K : Option Value → AH → Prop} {q r m m2 : Nat} {hd hd2 : HD} (hg : heC h q m hd) (ho : heC h r m2 hd2) (hab : q + 5 ≤ r ∨ r + 5 ≤ q) (hK : ∀ h' : AH, heC h' q m2 hd2 → fr h h' q (q + 5) → K none h') : aX1_copyFrom 1 [.ref q, .ref r] h K := by
  obtain ⟨ha, hm, f1, f2, f3, f4, a1, a2, a3, a4, hf⟩ := id hg
  refine AM.of [some (.ref q), some (.ref r), none] pn_X1_copyFrom rfl (Nat.le_of_ble_eq_true rfl) (fun X hX hE => ?_)
  have loop : ∀ d i, i + d = m2 → ∀ (h' : AH) (hd3 : HD), heC h' q i hd3 → (∀ j, j < i → hd3 j = hd2 j) → fr h h' q (q + 5) → AW X 0 0 7 [some (.ref q), some (.ref r), some (.int (nI i))] [] h' := by
    intro d
    induction d with
    | zero =>
      intro i hi h' hd3 hg' hf' hfr
      have ho' := heC_fr ho hfr (by omega)
      obtain ⟨ha2, hm2, g1, g2, g3, g4, b1, b2, b3, b4, hf2⟩ := id ho'
      refine AW_iload_n 8 hX dX1_copyFrom_7 rfl rfl ?_
      refine AW_aload_n 9 hX dX1_copyFrom_8 rfl rfl ?_
      refine AW_get 12 hX dX1_copyFrom_9 rfl fl_X1_25 (by first | assumption | exact hset_eq | exact (hset_ne (by omega)).trans (by first | assumption | exact hset_eq | exact (hset_ne (by omega)).trans (by first | assumption | exact hset_eq | exact (hset_ne (by omega)).trans (by first | assumption | exact hset_eq | exact (hset_ne (by omega)).trans (by first | assumption | exact hset_eq))))) rfl ?_
      refine AW_icmp_ge 15 56 hX dX1_copyFrom_12 rfl (by decide) (fun c12 => ?_) (fun c12 => absurd (nI_le (by omega) (by omega)) c12)
      refine AW_vret hX hE dX1_copyFrom_56 (Nat.le_refl _) (Nat.le_refl _) ?_
      exact hK h' (heC_to (by rw [show m2 = i by omega]; exact hg') (fun j hj => (hf' j (by omega)).symm)) hfr
    | succ d ih =>
      intro i hi h' hd3 hg' hf' hfr
      have ho' := heC_fr ho hfr (by omega)
      obtain ⟨ha2, hm2, g1, g2, g3, g4, b1, b2, b3, b4, hf2⟩ := id ho'
      obtain ⟨e1, e2, e3, e4, e5⟩ := hf2 i (by omega)
      have hha := hg'.1
      refine AW_iload_n 8 hX dX1_copyFrom_7 rfl rfl ?_
      refine AW_aload_n 9 hX dX1_copyFrom_8 rfl rfl ?_
      refine AW_get 12 hX dX1_copyFrom_9 rfl fl_X1_25 (by first | assumption | exact hset_eq | exact (hset_ne (by omega)).trans (by first | assumption | exact hset_eq | exact (hset_ne (by omega)).trans (by first | assumption | exact hset_eq | exact (hset_ne (by omega)).trans (by first | assumption | exact hset_eq | exact (hset_ne (by omega)).trans (by first | assumption | exact hset_eq))))) rfl ?_
      refine AW_icmp_ge 15 56 hX dX1_copyFrom_12 rfl (by decide) (fun c12 => absurd c12 (nI_ge (by omega) (by omega))) (fun c12 => ?_)
      refine AW_iload_n 16 hX dX1_copyFrom_15 rfl rfl ?_
      refine AW_bipush 18 hX dX1_copyFrom_16 rfl bp_6 ?_
      refine AW_icmp_ge 21 56 hX dX1_copyFrom_18 rfl (by decide) (fun c18 => absurd c18 (nI_ge (a := i) (b := 6) (by omega) (by decide))) (fun c18 => ?_)
      refine AW_aload_n 22 hX dX1_copyFrom_21 rfl rfl ?_
      refine AW_aload_n 23 hX dX1_copyFrom_22 rfl rfl ?_
      refine AW_get 26 hX dX1_copyFrom_23 rfl fl_X1_11 (by first | assumption | exact hset_eq | exact (hset_ne (by omega)).trans (by first | assumption | exact hset_eq | exact (hset_ne (by omega)).trans (by first | assumption | exact hset_eq | exact (hset_ne (by omega)).trans (by first | assumption | exact hset_eq | exact (hset_ne (by omega)).trans (by first | assumption | exact hset_eq))))) rfl ?_
      refine AW_iload_n 27 hX dX1_copyFrom_26 rfl rfl ?_
      refine AW_iald 28 hX dX1_copyFrom_27 rfl (by first | assumption | exact hset_eq | exact (hset_ne (by omega)).trans (by first | assumption | exact hset_eq | exact (hset_ne (by omega)).trans (by first | assumption | exact hset_eq | exact (hset_ne (by omega)).trans (by first | assumption | exact hset_eq | exact (hset_ne (by omega)).trans (by first | assumption | exact hset_eq))))) (j := i) (by omega) rfl ?_
      refine AW_aload_n 29 hX dX1_copyFrom_28 rfl rfl ?_
      refine AW_get 32 hX dX1_copyFrom_29 rfl fl_X1_15 (by first | assumption | exact hset_eq | exact (hset_ne (by omega)).trans (by first | assumption | exact hset_eq | exact (hset_ne (by omega)).trans (by first | assumption | exact hset_eq | exact (hset_ne (by omega)).trans (by first | assumption | exact hset_eq | exact (hset_ne (by omega)).trans (by first | assumption | exact hset_eq))))) rfl ?_
      refine AW_iload_n 33 hX dX1_copyFrom_32 rfl rfl ?_
      refine AW_iald 34 hX dX1_copyFrom_33 rfl (by first | assumption | exact hset_eq | exact (hset_ne (by omega)).trans (by first | assumption | exact hset_eq | exact (hset_ne (by omega)).trans (by first | assumption | exact hset_eq | exact (hset_ne (by omega)).trans (by first | assumption | exact hset_eq | exact (hset_ne (by omega)).trans (by first | assumption | exact hset_eq))))) (j := i) (by omega) rfl ?_
      refine AW_aload_n 35 hX dX1_copyFrom_34 rfl rfl ?_
      refine AW_get 38 hX dX1_copyFrom_35 rfl fl_X1_18 (by first | assumption | exact hset_eq | exact (hset_ne (by omega)).trans (by first | assumption | exact hset_eq | exact (hset_ne (by omega)).trans (by first | assumption | exact hset_eq | exact (hset_ne (by omega)).trans (by first | assumption | exact hset_eq | exact (hset_ne (by omega)).trans (by first | assumption | exact hset_eq))))) rfl ?_
      refine AW_iload_n 39 hX dX1_copyFrom_38 rfl rfl ?_
      refine AW_iald 40 hX dX1_copyFrom_39 rfl (by first | assumption | exact hset_eq | exact (hset_ne (by omega)).trans (by first | assumption | exact hset_eq | exact (hset_ne (by omega)).trans (by first | assumption | exact hset_eq | exact (hset_ne (by omega)).trans (by first | assumption | exact hset_eq | exact (hset_ne (by omega)).trans (by first | assumption | exact hset_eq))))) (j := i) (by omega) rfl ?_
      refine AW_aload_n 41 hX dX1_copyFrom_40 rfl rfl ?_
      refine AW_get 44 hX dX1_copyFrom_41 rfl fl_X1_21 (by first | assumption | exact hset_eq | exact (hset_ne (by omega)).trans (by first | assumption | exact hset_eq | exact (hset_ne (by omega)).trans (by first | assumption | exact hset_eq | exact (hset_ne (by omega)).trans (by first | assumption | exact hset_eq | exact (hset_ne (by omega)).trans (by first | assumption | exact hset_eq))))) rfl ?_
      refine AW_iload_n 45 hX dX1_copyFrom_44 rfl rfl ?_
      refine AW_zald 46 hX dX1_copyFrom_45 rfl (by first | assumption | exact hset_eq | exact (hset_ne (by omega)).trans (by first | assumption | exact hset_eq | exact (hset_ne (by omega)).trans (by first | assumption | exact hset_eq | exact (hset_ne (by omega)).trans (by first | assumption | exact hset_eq | exact (hset_ne (by omega)).trans (by first | assumption | exact hset_eq))))) (j := i) (by omega) rfl ?_
      rw [e1, e2, e3, e4]
      refine AW_cV (As := [_, _, _, _]) 49 hX dX1_copyFrom_46 rfl ml_X1_29 mw_X1_append (by first | assumption | exact hset_eq | exact (hset_ne (by omega)).trans (by first | assumption | exact hset_eq | exact (hset_ne (by omega)).trans (by first | assumption | exact hset_eq | exact (hset_ne (by omega)).trans (by first | assumption | exact hset_eq | exact (hset_ne (by omega)).trans (by first | assumption | exact hset_eq))))) (by decide) rfl rfl rfl (Nat.le_of_ble_eq_true rfl) (by decide) ⟨(Nat.le_refl _), (Nat.le_refl _)⟩ (c_happend hg' _ _ _ _ e5 (fun e => by omega) (fun h2 hlt hg2 hfr2 => ?_))
      refine AW_pop 50 hX dX1_copyFrom_49 rfl rfl ?_
      refine AW_iinc 53 hX dX1_copyFrom_50 rfl rfl (iincp ic_1) (Nat.le_of_ble_eq_true rfl) rfl ?_
      refine AW_goto 7 hX dX1_copyFrom_53 (by decide) ?_
      rw [nI_1]
      refine ih (i + 1) (by omega) h2 _ hg2 (fun j hj => ?_) (fr_tr hfr hfr2)
      by_cases e : j = i
      · subst e; simp only [if_pos]
      · simp only [if_neg e]; exact hf' j (by omega)
  refine AW_aload_n 1 hX dX1_copyFrom_0 rfl rfl ?_
  refine AW_iconst 2 hX dX1_copyFrom_1 rfl ic_0 ?_
  refine AW_put 5 hX dX1_copyFrom_2 rfl fl_X1_25 (by first | assumption | exact hset_eq | exact (hset_ne (by omega)).trans (by first | assumption | exact hset_eq | exact (hset_ne (by omega)).trans (by first | assumption | exact hset_eq | exact (hset_ne (by omega)).trans (by first | assumption | exact hset_eq | exact (hset_ne (by omega)).trans (by first | assumption | exact hset_eq))))) rfl (fun _ => rfl) (fun _ => rfl) (Nat.le_of_ble_eq_true rfl) ?_
  try rw [hset_hset]
  refine AW_iconst 6 hX dX1_copyFrom_5 rfl ic_0 ?_
  refine AW_istore_n 7 hX dX1_copyFrom_6 rfl (Nat.le_of_ble_eq_true rfl) rfl ?_
  exact loop m2 0 (by omega) _ hd ⟨hset_eq, by omega, f1, f2, f3, f4, (hset_ne (by omega)).trans a1, (hset_ne (by omega)).trans a2, (hset_ne (by omega)).trans a3, (hset_ne (by omega)).trans a4, fun j hj => by omega⟩ (fun j hj => by omega) (fr_set (by omega) (by omega))
set_option maxRecDepth 100000 in
set_option maxHeartbeats 4000000 in
theorem c_allows {h : AH} {K : Option Value → AH → Prop} {a n : Nat} {f : Nat → Int32} {ks : Nat → Nat} (gg : gr h a n f) (hks : ∀ j, j < n → f j = nI (ks j)) (hk4 : ∀ j, j < n → ks j ≤ 4) {q m : Nat} {hd : HD} (hg : heC h q m hd) (hok : hdok hd m n) (H : Nat) (hH : H ≤ 12) (h1 : okH ks hd m H → K (some (.int 1)) h) (h0 : ¬ okH ks hd m H → K (some (.int 0)) h) : aX1_allows 2 [.ref q, .ref a, .int (nI H)] h K := by
  obtain ⟨ha, hm, f1, f2, f3, f4, a1, a2, a3, a4, hf⟩ := id hg
  have hga := gg.1
  refine AM.of [some (.ref q), some (.ref a), some (.int (nI H)), none, none] pn_X1_allows rfl (Nat.le_of_ble_eq_true rfl) (fun X hX hE => ?_)
  have loop : ∀ d i, i + d = m → (∀ j, j < i → (12 - H < wj ks hd j ↔ (hd j).2.2.2 = 1)) → ∀ z, AW X 0 0 2 [some (.ref q), some (.ref a), some (.int (nI H)), some (.int (nI i)), z] [] h := by
    intro d
    induction d with
    | zero =>
      intro i hi hdone z
      refine AW_iload_n 3 hX dX1_allows_2 rfl rfl ?_
      refine AW_aload_n 4 hX dX1_allows_3 rfl rfl ?_
      refine AW_get 7 hX dX1_allows_4 rfl fl_X1_25 (by first | assumption | exact hset_eq | exact (hset_ne (by omega)).trans (by first | assumption | exact hset_eq | exact (hset_ne (by omega)).trans (by first | assumption | exact hset_eq | exact (hset_ne (by omega)).trans (by first | assumption | exact hset_eq | exact (hset_ne (by omega)).trans (by first | assumption | exact hset_eq))))) rfl ?_
      refine AW_icmp_ge 10 75 hX dX1_allows_7 rfl (by decide) (fun c7 => ?_) (fun c7 => absurd (nI_le (by omega) (by omega)) c7)
      refine AW_iconst 76 hX dX1_allows_75 rfl ic_1 ?_
      refine AW_iret hX hE dX1_allows_76 rfl (Nat.le_refl _) (Nat.le_refl _) ?_
      exact h1 (fun j hj => hdone j (by omega))
    | succ d ih =>
      intro i hi hdone z
      obtain ⟨e1, e2, e3, e4, e5⟩ := hf i (by omega)
      obtain ⟨o1, o2, o3, o4, o5⟩ := hok i (by omega)
      have hgw := gw_le (k := ks (hd i).1) o3
      have hstep : (12 - H < wj ks hd i ↔ (hd i).2.2.2 = 1) → AW X 0 0 2 [some (.ref q), some (.ref a), some (.int (nI H)), some (.int (nI (i + 1))), some (.int (nI (wj ks hd i)))] [] h := fun hs => ih (i + 1) (by omega) (fun j hj => by
        by_cases e : j = i
        · subst e; exact hs
        · exact hdone j (by omega)) _
      refine AW_iload_n 3 hX dX1_allows_2 rfl rfl ?_
      refine AW_aload_n 4 hX dX1_allows_3 rfl rfl ?_
      refine AW_get 7 hX dX1_allows_4 rfl fl_X1_25 (by first | assumption | exact hset_eq | exact (hset_ne (by omega)).trans (by first | assumption | exact hset_eq | exact (hset_ne (by omega)).trans (by first | assumption | exact hset_eq | exact (hset_ne (by omega)).trans (by first | assumption | exact hset_eq | exact (hset_ne (by omega)).trans (by first | assumption | exact hset_eq))))) rfl ?_
      refine AW_icmp_ge 10 75 hX dX1_allows_7 rfl (by decide) (fun c7 => absurd c7 (nI_ge (by omega) (by omega))) (fun c7 => ?_)
      refine AW_iload_n 11 hX dX1_allows_10 rfl rfl ?_
      refine AW_bipush 13 hX dX1_allows_11 rfl bp_6 ?_
      refine AW_icmp_ge 16 75 hX dX1_allows_13 rfl (by decide) (fun c13 => absurd c13 (nI_ge (a := i) (b := 6) (by omega) (by decide))) (fun c13 => ?_)
      refine AW_aload_n 17 hX dX1_allows_16 rfl rfl ?_
      refine AW_get 20 hX dX1_allows_17 rfl fl_X1_18 (by first | assumption | exact hset_eq | exact (hset_ne (by omega)).trans (by first | assumption | exact hset_eq | exact (hset_ne (by omega)).trans (by first | assumption | exact hset_eq | exact (hset_ne (by omega)).trans (by first | assumption | exact hset_eq | exact (hset_ne (by omega)).trans (by first | assumption | exact hset_eq))))) rfl ?_
      refine AW_iload_n 21 hX dX1_allows_20 rfl rfl ?_
      refine AW_iald 22 hX dX1_allows_21 rfl (by first | assumption | exact hset_eq | exact (hset_ne (by omega)).trans (by first | assumption | exact hset_eq | exact (hset_ne (by omega)).trans (by first | assumption | exact hset_eq | exact (hset_ne (by omega)).trans (by first | assumption | exact hset_eq | exact (hset_ne (by omega)).trans (by first | assumption | exact hset_eq))))) (j := i) (by omega) rfl ?_
      refine AW_aload_n 23 hX dX1_allows_22 rfl rfl ?_
      refine AW_aload_n 24 hX dX1_allows_23 rfl rfl ?_
      refine AW_get 27 hX dX1_allows_24 rfl fl_X1_11 (by first | assumption | exact hset_eq | exact (hset_ne (by omega)).trans (by first | assumption | exact hset_eq | exact (hset_ne (by omega)).trans (by first | assumption | exact hset_eq | exact (hset_ne (by omega)).trans (by first | assumption | exact hset_eq | exact (hset_ne (by omega)).trans (by first | assumption | exact hset_eq))))) rfl ?_
      refine AW_iload_n 28 hX dX1_allows_27 rfl rfl ?_
      refine AW_iald 29 hX dX1_allows_28 rfl (by first | assumption | exact hset_eq | exact (hset_ne (by omega)).trans (by first | assumption | exact hset_eq | exact (hset_ne (by omega)).trans (by first | assumption | exact hset_eq | exact (hset_ne (by omega)).trans (by first | assumption | exact hset_eq | exact (hset_ne (by omega)).trans (by first | assumption | exact hset_eq))))) (j := i) (by omega) rfl ?_
      rw [e1]
      refine AW_cV (As := [_]) 32 hX dX1_allows_29 rfl ml_X1_37 mw_X0_kindAt (by first | assumption | exact hset_eq | exact (hset_ne (by omega)).trans (by first | assumption | exact hset_eq | exact (hset_ne (by omega)).trans (by first | assumption | exact hset_eq | exact (hset_ne (by omega)).trans (by first | assumption | exact hset_eq | exact (hset_ne (by omega)).trans (by first | assumption | exact hset_eq))))) (by decide) rfl rfl rfl (Nat.le_of_ble_eq_true rfl) (by decide) ⟨(Nat.le_refl _), (Nat.le_refl _)⟩ (c_kindAt gg o1 ?_)
      rw [hks _ o1]
      refine AW_aload_n 33 hX dX1_allows_32 rfl rfl ?_
      refine AW_get 36 hX dX1_allows_33 rfl fl_X1_15 (by first | assumption | exact hset_eq | exact (hset_ne (by omega)).trans (by first | assumption | exact hset_eq | exact (hset_ne (by omega)).trans (by first | assumption | exact hset_eq | exact (hset_ne (by omega)).trans (by first | assumption | exact hset_eq | exact (hset_ne (by omega)).trans (by first | assumption | exact hset_eq))))) rfl ?_
      refine AW_iload_n 37 hX dX1_allows_36 rfl rfl ?_
      refine AW_iald 38 hX dX1_allows_37 rfl (by first | assumption | exact hset_eq | exact (hset_ne (by omega)).trans (by first | assumption | exact hset_eq | exact (hset_ne (by omega)).trans (by first | assumption | exact hset_eq | exact (hset_ne (by omega)).trans (by first | assumption | exact hset_eq | exact (hset_ne (by omega)).trans (by first | assumption | exact hset_eq))))) (j := i) (by omega) rfl ?_
      rw [e2]
      refine AW_cS (As := [_, _]) 41 hX dX1_allows_38 rfl ml_X1_43 mw_X2_growth rfl rfl (Nat.le_of_ble_eq_true rfl) (by decide) ⟨(Nat.le_refl _), (Nat.le_refl _)⟩ (c_growth _ _ (hk4 _ o1) ?_)
      rw [e3]
      refine AW_iadd 42 hX dX1_allows_41 rfl ?_
      rw [nI_add]
      refine AW_istore 44 hX dX1_allows_42 rfl (Nat.le_of_ble_eq_true rfl) rfl ?_
      refine AW_aload_n 45 hX dX1_allows_44 rfl rfl ?_
      refine AW_get 48 hX dX1_allows_45 rfl fl_X1_21 (by first | assumption | exact hset_eq | exact (hset_ne (by omega)).trans (by first | assumption | exact hset_eq | exact (hset_ne (by omega)).trans (by first | assumption | exact hset_eq | exact (hset_ne (by omega)).trans (by first | assumption | exact hset_eq | exact (hset_ne (by omega)).trans (by first | assumption | exact hset_eq))))) rfl ?_
      refine AW_iload_n 49 hX dX1_allows_48 rfl rfl ?_
      refine AW_zald 50 hX dX1_allows_49 rfl (by first | assumption | exact hset_eq | exact (hset_ne (by omega)).trans (by first | assumption | exact hset_eq | exact (hset_ne (by omega)).trans (by first | assumption | exact hset_eq | exact (hset_ne (by omega)).trans (by first | assumption | exact hset_eq | exact (hset_ne (by omega)).trans (by first | assumption | exact hset_eq))))) (j := i) (by omega) rfl ?_
      rw [e4]
      refine AW_iload 52 hX dX1_allows_50 rfl rfl ?_
      refine AW_iload_n 53 hX dX1_allows_52 rfl rfl ?_
      refine AW_cSN (As := [_]) 56 hX dX1_allows_53 rfl mn_X1_49 mw_X6_bearable rfl rfl (Nat.le_of_ble_eq_true rfl) (by decide) ⟨(Nat.le_refl _), (Nat.le_refl _)⟩ (c_bearable H hH ?_)
      refine AW_icmp_le 59 63 hX dX1_allows_56 rfl (by decide) (fun c56 => ?_) (fun c56 => ?_)
      · refine AW_iconst 64 hX dX1_allows_63 rfl ic_0 ?_
        refine AW_icmp_eq 67 69 hX dX1_allows_64 rfl (by decide) (fun c64 => ?_) (fun c64 => ?_)
        · refine AW_iinc 72 hX dX1_allows_69 rfl rfl (iincp ic_1) (Nat.le_of_ble_eq_true rfl) rfl ?_
          refine AW_goto 2 hX dX1_allows_72 (by decide) ?_
          rw [nI_1]
          refine hstep ?_
          have hle := iLe c56 (by omega) (by omega)
          have hz := iEq (b := 0) c64
          show 12 - H < (hd i).2.2.1 + gw (ks (hd i).1) (hd i).2.1 ↔ _
          omega
        · refine AW_iconst 68 hX dX1_allows_67 rfl ic_0 ?_
          refine AW_iret hX hE dX1_allows_68 rfl (Nat.le_refl _) (Nat.le_refl _) ?_
          refine h0 (fun hall => ?_)
          have hle := iLe c56 (by omega) (by omega)
          have hz := iNe (b := 0) c64
          have := hall i (by omega)
          rw [show wj ks hd i = (hd i).2.2.1 + gw (ks (hd i).1) (hd i).2.1 from rfl] at this
          omega
      · refine AW_iconst 60 hX dX1_allows_59 rfl ic_1 ?_
        refine AW_goto 64 hX dX1_allows_60 (by decide) ?_
        refine AW_icmp_eq 67 69 hX dX1_allows_64 rfl (by decide) (fun c64 => ?_) (fun c64 => ?_)
        · refine AW_iinc 72 hX dX1_allows_69 rfl rfl (iincp ic_1) (Nat.le_of_ble_eq_true rfl) rfl ?_
          refine AW_goto 2 hX dX1_allows_72 (by decide) ?_
          rw [nI_1]
          refine hstep ?_
          have hle := iNle c56 (by omega) (by omega)
          have hz := iEq (b := 1) c64
          show 12 - H < (hd i).2.2.1 + gw (ks (hd i).1) (hd i).2.1 ↔ _
          omega
        · refine AW_iconst 68 hX dX1_allows_67 rfl ic_0 ?_
          refine AW_iret hX hE dX1_allows_68 rfl (Nat.le_refl _) (Nat.le_refl _) ?_
          refine h0 (fun hall => ?_)
          have hle := iNle c56 (by omega) (by omega)
          have hz := iNe (b := 1) c64
          have := hall i (by omega)
          rw [show wj ks hd i = (hd i).2.2.1 + gw (ks (hd i).1) (hd i).2.1 from rfl] at this
          omega
  refine AW_iconst 1 hX dX1_allows_0 rfl ic_0 ?_
  refine AW_istore_n 2 hX dX1_allows_1 rfl (Nat.le_of_ble_eq_true rfl) rfl ?_
  exact loop m 0 (by omega) (fun j hj => by omega) none
set_option maxRecDepth 100000 in
set_option maxHeartbeats 4000000 in
theorem c_heightBits {h : AH} {K : Option Value → AH → Prop} {a n : Nat} {f : Nat → Int32} {ks : Nat → Nat} (gg : gr h a n f) (hks : ∀ j, j < n → f j = nI (ks j)) (hk4 : ∀ j, j < n → ks j ≤ 4) {q m : Nat} {hd : HD} (hg : heC h q m hd) (hok : hdok hd m n) (hK : K (some (.int (hB ks hd m))) h) : aX1_heightBits 3 [.ref q, .ref a] h K := by
  have hqa := hg.1
  have hga := gg.1
  refine AM.of [some (.ref q), some (.ref a), none, none] pn_X1_heightBits rfl (Nat.le_of_ble_eq_true rfl) (fun X hX hE => ?_)
  have loop : ∀ d i, i + d = 9 → AW X 0 0 4 [some (.ref q), some (.ref a), some (.int (hbt ks hd m i)), some (.int (nI (i + 1)))] [] h := by
    intro d
    induction d with
    | zero =>
      intro i hi
      refine AW_iload_n 5 hX dX1_heightBits_4 rfl rfl ?_
      refine AW_bipush 7 hX dX1_heightBits_5 rfl bp_9 ?_
      refine AW_icmp_gt 10 33 hX dX1_heightBits_7 rfl (by decide) (fun c7 => ?_) (fun c7 => absurd (nI_lt (a := 9) (b := i + 1) (by omega) (by omega)) c7)
      refine AW_iload_n 34 hX dX1_heightBits_33 rfl rfl ?_
      refine AW_iret hX hE dX1_heightBits_34 rfl (Nat.le_refl _) (Nat.le_refl _) ?_
      rw [show i = 9 by omega]; exact hK
    | succ d ih =>
      intro i hi
      have := ih (i + 1) (by omega)
      simp only [hbt] at this
      refine AW_iload_n 5 hX dX1_heightBits_4 rfl rfl ?_
      refine AW_bipush 7 hX dX1_heightBits_5 rfl bp_9 ?_
      refine AW_icmp_gt 10 33 hX dX1_heightBits_7 rfl (by decide) (fun c7 => absurd c7 (nI_nlt (a := 9) (b := i + 1) (by omega) (by omega))) (fun c7 => ?_)
      refine AW_aload_n 11 hX dX1_heightBits_10 rfl rfl ?_
      refine AW_aload_n 12 hX dX1_heightBits_11 rfl rfl ?_
      refine AW_iload_n 13 hX dX1_heightBits_12 rfl rfl ?_
      refine AW_cV (As := [_, _]) 16 hX dX1_heightBits_13 rfl ml_X1_33 mw_X1_allows (by first | assumption | exact hset_eq | exact (hset_ne (by omega)).trans (by first | assumption | exact hset_eq | exact (hset_ne (by omega)).trans (by first | assumption | exact hset_eq | exact (hset_ne (by omega)).trans (by first | assumption | exact hset_eq | exact (hset_ne (by omega)).trans (by first | assumption | exact hset_eq))))) (by decide) rfl rfl rfl (Nat.le_of_ble_eq_true rfl) (by decide) ⟨(Nat.le_refl _), (Nat.le_refl _)⟩ (c_allows gg hks hk4 hg hok (i + 1) (by omega) (fun ok => ?_) (fun ok => ?_))
      · refine AW_if_eq 19 27 hX dX1_heightBits_16 rfl (by decide) (fun c16 => absurd c16 (by decide)) (fun c16 => ?_)
        refine AW_iload_n 20 hX dX1_heightBits_19 rfl rfl ?_
        refine AW_iconst 21 hX dX1_heightBits_20 rfl ic_1 ?_
        refine AW_iload_n 22 hX dX1_heightBits_21 rfl rfl ?_
        refine AW_iconst 23 hX dX1_heightBits_22 rfl ic_1 ?_
        refine AW_isub 24 hX dX1_heightBits_23 rfl ?_
        refine AW_ishl 25 hX dX1_heightBits_24 rfl ?_
        refine AW_ior 26 hX dX1_heightBits_25 rfl ?_
        refine AW_istore_n 27 hX dX1_heightBits_26 rfl (Nat.le_of_ble_eq_true rfl) rfl ?_
        refine AW_iinc 30 hX dX1_heightBits_27 rfl rfl (iincp ic_1) (Nat.le_of_ble_eq_true rfl) rfl ?_
        refine AW_goto 4 hX dX1_heightBits_30 (by decide) ?_
        rw [nI_1]
        rw [if_pos ok] at this
        exact this
      · refine AW_if_eq 19 27 hX dX1_heightBits_16 rfl (by decide) (fun c16 => ?_) (fun c16 => absurd rfl c16)
        refine AW_iinc 30 hX dX1_heightBits_27 rfl rfl (iincp ic_1) (Nat.le_of_ble_eq_true rfl) rfl ?_
        refine AW_goto 4 hX dX1_heightBits_30 (by decide) ?_
        rw [nI_1]
        rw [if_neg ok, Int32.or_zero] at this
        exact this
  refine AW_iconst 1 hX dX1_heightBits_0 rfl ic_0 ?_
  refine AW_istore_n 2 hX dX1_heightBits_1 rfl (Nat.le_of_ble_eq_true rfl) rfl ?_
  refine AW_iconst 3 hX dX1_heightBits_2 rfl ic_1 ?_
  refine AW_istore_n 4 hX dX1_heightBits_3 rfl (Nat.le_of_ble_eq_true rfl) rfl ?_
  exact loop 9 0 (by omega)
set_option maxRecDepth 100000 in
set_option maxHeartbeats 4000000 in
theorem c_leftAtWorst {h : AH} {K : Option Value → AH → Prop} (b : Int32) (w : Nat) (hw : w < 100) (hK : K (some (.int (nI (LW b w)))) h) : aX1_leftAtWorst 1 [.int b, .int (nI w)] h K := by
  refine AM.of [some (.int b), some (.int (nI w)), none, none, none] pn_X1_leftAtWorst rfl (Nat.le_of_ble_eq_true rfl) (fun X hX hE => ?_)
  have loop : ∀ d i, i + d = 9 → AW X 0 0 7 [some (.int b), some (.int (nI w)), some (.int (nI (cF b w i))), some (.int (nI (cU b w i))), some (.int (nI (i + 1)))] [] h := by
    intro d
    induction d with
    | zero =>
      intro i hi
      have hc := cFU_le b w 9
      refine AW_iload 9 hX dX1_leftAtWorst_7 rfl rfl ?_
      refine AW_bipush 11 hX dX1_leftAtWorst_9 rfl bp_9 ?_
      refine AW_icmp_gt 14 52 hX dX1_leftAtWorst_11 rfl (by decide) (fun c11 => ?_) (fun c11 => absurd (nI_lt (a := 9) (b := i + 1) (by omega) (by omega)) c11)
      refine AW_iload_n 53 hX dX1_leftAtWorst_52 rfl rfl ?_
      refine AW_iload_n 54 hX dX1_leftAtWorst_53 rfl rfl ?_
      refine AW_max 57 hX dX1_leftAtWorst_54 rfl mk_X1_59 (Nat.le_of_ble_eq_true rfl) (by decide) ⟨(Nat.le_refl _), (Nat.le_refl _)⟩ ?_
      refine AW_iret hX hE dX1_leftAtWorst_57 rfl (Nat.le_refl _) (Nat.le_refl _) ?_
      have e : i = 9 := by omega
      subst e
      simp only [LW] at hK
      by_cases q : cF b w 9 < cU b w 9
      · rw [if_pos q] at hK
        rw [if_pos (nI_lt q (by omega))]
        exact hK
      · rw [if_neg q] at hK
        rw [if_neg (nI_nlt (by omega) (by omega))]
        exact hK
    | succ d ih =>
      intro i hi
      have := ih (i + 1) (by omega)
      simp only [cF, cU] at this
      refine AW_iload 9 hX dX1_leftAtWorst_7 rfl rfl ?_
      refine AW_bipush 11 hX dX1_leftAtWorst_9 rfl bp_9 ?_
      refine AW_icmp_gt 14 52 hX dX1_leftAtWorst_11 rfl (by decide) (fun c11 => absurd c11 (nI_nlt (a := 9) (b := i + 1) (by omega) (by omega))) (fun c11 => ?_)
      refine AW_iload_n 15 hX dX1_leftAtWorst_14 rfl rfl ?_
      refine AW_iload 17 hX dX1_leftAtWorst_15 rfl rfl ?_
      refine AW_iconst 18 hX dX1_leftAtWorst_17 rfl ic_1 ?_
      refine AW_isub 19 hX dX1_leftAtWorst_18 rfl ?_
      refine AW_ishr 20 hX dX1_leftAtWorst_19 rfl ?_
      refine AW_iconst 21 hX dX1_leftAtWorst_20 rfl ic_1 ?_
      refine AW_iand 22 hX dX1_leftAtWorst_21 rfl ?_
      refine AW_if_ne 25 28 hX dX1_leftAtWorst_22 rfl (by decide) (fun c22 => ?_) (fun c22 => ?_)
      · refine AW_iload_n 29 hX dX1_leftAtWorst_28 rfl rfl ?_
        refine AW_iload 31 hX dX1_leftAtWorst_29 rfl rfl ?_
        refine AW_cSN (As := [_]) 34 hX dX1_leftAtWorst_31 rfl mn_X1_49 mw_X6_bearable rfl rfl (Nat.le_of_ble_eq_true rfl) (by decide) ⟨(Nat.le_refl _), (Nat.le_refl _)⟩ (c_bearable (i + 1) (by omega) ?_)
        refine AW_icmp_le 37 43 hX dX1_leftAtWorst_34 rfl (by decide) (fun c34 => ?_) (fun c34 => ?_)
        · refine AW_iinc 46 hX dX1_leftAtWorst_43 rfl rfl (iincp ic_1) (Nat.le_of_ble_eq_true rfl) rfl ?_
          refine AW_iinc 49 hX dX1_leftAtWorst_46 rfl rfl (iincp ic_1) (Nat.le_of_ble_eq_true rfl) rfl ?_
          refine AW_goto 7 hX dX1_leftAtWorst_49 (by decide) ?_
          have hle := iLe c34
          have hb : bH b (i + 1) := c22
          have hn : ¬ 12 - (i + 1) < w := by omega
          rw [if_neg (fun q => hn q.2), if_pos ⟨hb, hn⟩, Nat.add_zero] at this
          rw [nI_1, nI_1]
          exact this
        · refine AW_iinc 40 hX dX1_leftAtWorst_37 rfl rfl (iincp ic_1) (Nat.le_of_ble_eq_true rfl) rfl ?_
          refine AW_goto 46 hX dX1_leftAtWorst_40 (by decide) ?_
          refine AW_iinc 49 hX dX1_leftAtWorst_46 rfl rfl (iincp ic_1) (Nat.le_of_ble_eq_true rfl) rfl ?_
          refine AW_goto 7 hX dX1_leftAtWorst_49 (by decide) ?_
          have hle := iNle c34
          have hb : bH b (i + 1) := c22
          have hn : 12 - (i + 1) < w := by omega
          rw [if_pos ⟨hb, hn⟩, if_neg (fun q => q.2 hn), Nat.add_zero] at this
          rw [nI_1, nI_1]
          exact this
      · refine AW_goto 46 hX dX1_leftAtWorst_25 (by decide) ?_
        refine AW_iinc 49 hX dX1_leftAtWorst_46 rfl rfl (iincp ic_1) (Nat.le_of_ble_eq_true rfl) rfl ?_
        refine AW_goto 7 hX dX1_leftAtWorst_49 (by decide) ?_
        have hb : ¬ bH b (i + 1) := fun q => q c22
        rw [if_neg (fun q => hb q.1), if_neg (fun q => hb q.1), Nat.add_zero, Nat.add_zero] at this
        rw [nI_1]
        exact this
  refine AW_iconst 1 hX dX1_leftAtWorst_0 rfl ic_0 ?_
  refine AW_istore_n 2 hX dX1_leftAtWorst_1 rfl (Nat.le_of_ble_eq_true rfl) rfl ?_
  refine AW_iconst 3 hX dX1_leftAtWorst_2 rfl ic_0 ?_
  refine AW_istore_n 4 hX dX1_leftAtWorst_3 rfl (Nat.le_of_ble_eq_true rfl) rfl ?_
  refine AW_iconst 5 hX dX1_leftAtWorst_4 rfl ic_1 ?_
  refine AW_istore 7 hX dX1_leftAtWorst_5 rfl (Nat.le_of_ble_eq_true rfl) rfl ?_
  exact loop 9 0 (by omega)
set_option maxRecDepth 100000 in
set_option maxHeartbeats 4000000 in
theorem c_bestTry {h : AH} {K : Option Value → AH → Prop} {a n : Nat} {f : Nat → Int32} {ks : Nat → Nat} (gg : gr h a n f) (hks : ∀ j, j < n → f j = nI (ks j)) (hk4 : ∀ j, j < n → ks j ≤ 4) {q m : Nat} {hd : HD} (hg : heC h q m hd) (hok : hdok hd m n) (p : Nat) (hp : p < n) (hK : K (some (.int (tryC ks hd m p))) h) : aX1_bestTry 4 [.ref q, .ref a, .int (nI p)] h K := by
  have hqa := hg.1
  have hga := gg.1
  have hgw := gw_le (k := ks p) (far := 1) (by omega)
  refine AM.of [some (.ref q), some (.ref a), some (.int (nI p)), none, none, none, none, none, none] pn_X1_bestTry rfl (Nat.le_of_ble_eq_true rfl) (fun X hX hE => ?_)
  have loop : ¬ hB ks hd m = 0 → ∀ d i, i + d = 12 → ∀ z, AW X 0 0 33 [some (.ref q), some (.ref a), some (.int (nI p)), some (.int (hB ks hd m)), some (.int (nI (gw (ks p) 1))), some (.int (nI (bst (fun s => LW (hB ks hd m) (s + gw (ks p) 1)) i).1)), some (.int (nI (bst (fun s => LW (hB ks hd m) (s + gw (ks p) 1)) i).2)), some (.int (nI i)), z] [] h := by
    intro hnz d
    induction d with
    | zero =>
      intro i hi z
      refine AW_iload 35 hX dX1_bestTry_33 rfl rfl ?_
      refine AW_bipush 37 hX dX1_bestTry_35 rfl bp_12 ?_
      refine AW_icmp_ge 40 72 hX dX1_bestTry_37 rfl (by decide) (fun c37 => ?_) (fun c37 => absurd (nI_le (a := 12) (b := i) (by omega) (by omega)) c37)
      refine AW_iload 74 hX dX1_bestTry_72 rfl rfl ?_
      refine AW_iret hX hE dX1_bestTry_74 rfl (Nat.le_refl _) (Nat.le_refl _) ?_
      rw [show i = 12 by omega]
      simp only [tryC, if_neg hnz] at hK
      exact hK
    | succ d ih =>
      intro i hi z
      have hb := bst_le (fun s => LW (hB ks hd m) (s + gw (ks p) 1)) (fun s => LW_le _ _) i
      have hl := LW_le (hB ks hd m) (i + gw (ks p) 1)
      refine AW_iload 35 hX dX1_bestTry_33 rfl rfl ?_
      refine AW_bipush 37 hX dX1_bestTry_35 rfl bp_12 ?_
      refine AW_icmp_ge 40 72 hX dX1_bestTry_37 rfl (by decide) (fun c37 => absurd c37 (nI_ge (a := i) (b := 12) (by omega) (by decide))) (fun c37 => ?_)
      refine AW_iload_n 41 hX dX1_bestTry_40 rfl rfl ?_
      refine AW_iload 43 hX dX1_bestTry_41 rfl rfl ?_
      refine AW_iload 45 hX dX1_bestTry_43 rfl rfl ?_
      refine AW_iadd 46 hX dX1_bestTry_45 rfl ?_
      rw [nI_add]
      refine AW_cS (As := [_, _]) 49 hX dX1_bestTry_46 rfl ml_X1_56 mw_X1_leftAtWorst rfl rfl (Nat.le_of_ble_eq_true rfl) (by decide) ⟨(Nat.le_refl _), (Nat.le_refl _)⟩ (c_leftAtWorst _ _ (by omega) ?_)
      refine AW_istore 51 hX dX1_bestTry_49 rfl (Nat.le_of_ble_eq_true rfl) rfl ?_
      refine AW_iload 53 hX dX1_bestTry_51 rfl rfl ?_
      refine AW_iload 55 hX dX1_bestTry_53 rfl rfl ?_
      refine AW_icmp_ge 58 66 hX dX1_bestTry_55 rfl (by decide) (fun c55 => ?_) (fun c55 => ?_)
      · refine AW_iinc 69 hX dX1_bestTry_66 rfl rfl (iincp ic_1) (Nat.le_of_ble_eq_true rfl) rfl ?_
        refine AW_goto 33 hX dX1_bestTry_69 (by decide) ?_
        have := ih (i + 1) (by omega) (some (.int (nI (LW (hB ks hd m) (i + gw (ks p) 1)))))
        simp only [bst, if_neg (Nat.not_lt.mpr (iLe c55))] at this
        rw [nI_1]
        exact this
      · refine AW_iload 60 hX dX1_bestTry_58 rfl rfl ?_
        refine AW_istore 62 hX dX1_bestTry_60 rfl (Nat.le_of_ble_eq_true rfl) rfl ?_
        refine AW_iload 64 hX dX1_bestTry_62 rfl rfl ?_
        refine AW_istore 66 hX dX1_bestTry_64 rfl (Nat.le_of_ble_eq_true rfl) rfl ?_
        refine AW_iinc 69 hX dX1_bestTry_66 rfl rfl (iincp ic_1) (Nat.le_of_ble_eq_true rfl) rfl ?_
        refine AW_goto 33 hX dX1_bestTry_69 (by decide) ?_
        have := ih (i + 1) (by omega) (some (.int (nI (LW (hB ks hd m) (i + gw (ks p) 1)))))
        simp only [bst, if_pos (iNle c55)] at this
        rw [nI_1]
        exact this
  refine AW_aload_n 1 hX dX1_bestTry_0 rfl rfl ?_
  refine AW_aload_n 2 hX dX1_bestTry_1 rfl rfl ?_
  refine AW_cV (As := [_]) 5 hX dX1_bestTry_2 rfl ml_X1_52 mw_X1_heightBits (by first | assumption | exact hset_eq | exact (hset_ne (by omega)).trans (by first | assumption | exact hset_eq | exact (hset_ne (by omega)).trans (by first | assumption | exact hset_eq | exact (hset_ne (by omega)).trans (by first | assumption | exact hset_eq | exact (hset_ne (by omega)).trans (by first | assumption | exact hset_eq))))) (by decide) rfl rfl rfl (Nat.le_of_ble_eq_true rfl) (by decide) ⟨(Nat.le_refl _), (Nat.le_refl _)⟩ (c_heightBits gg hks hk4 hg hok ?_)
  refine AW_istore_n 6 hX dX1_bestTry_5 rfl (Nat.le_of_ble_eq_true rfl) rfl ?_
  refine AW_iload_n 7 hX dX1_bestTry_6 rfl rfl ?_
  refine AW_if_ne 10 12 hX dX1_bestTry_7 rfl (by decide) (fun c7 => ?_) (fun c7 => ?_)
  · refine AW_aload_n 13 hX dX1_bestTry_12 rfl rfl ?_
    refine AW_iload_n 14 hX dX1_bestTry_13 rfl rfl ?_
    refine AW_cV (As := [_]) 17 hX dX1_bestTry_14 rfl ml_X1_37 mw_X0_kindAt (by first | assumption | exact hset_eq | exact (hset_ne (by omega)).trans (by first | assumption | exact hset_eq | exact (hset_ne (by omega)).trans (by first | assumption | exact hset_eq | exact (hset_ne (by omega)).trans (by first | assumption | exact hset_eq | exact (hset_ne (by omega)).trans (by first | assumption | exact hset_eq))))) (by decide) rfl rfl rfl (Nat.le_of_ble_eq_true rfl) (by decide) ⟨(Nat.le_refl _), (Nat.le_refl _)⟩ (c_kindAt gg hp ?_)
    rw [hks _ hp]
    refine AW_iconst 18 hX dX1_bestTry_17 rfl ic_1 ?_
    refine AW_cS (As := [_, _]) 21 hX dX1_bestTry_18 rfl ml_X1_43 mw_X2_growth rfl rfl (Nat.le_of_ble_eq_true rfl) (by decide) ⟨(Nat.le_refl _), (Nat.le_refl _)⟩ (c_growth (ks p) 1 (hk4 _ hp) ?_)
    refine AW_istore 23 hX dX1_bestTry_21 rfl (Nat.le_of_ble_eq_true rfl) rfl ?_
    refine AW_iconst 24 hX dX1_bestTry_23 rfl ic_0 ?_
    refine AW_istore 26 hX dX1_bestTry_24 rfl (Nat.le_of_ble_eq_true rfl) rfl ?_
    refine AW_bipush 28 hX dX1_bestTry_26 rfl bp_10 ?_
    refine AW_istore 30 hX dX1_bestTry_28 rfl (Nat.le_of_ble_eq_true rfl) rfl ?_
    refine AW_iconst 31 hX dX1_bestTry_30 rfl ic_0 ?_
    refine AW_istore 33 hX dX1_bestTry_31 rfl (Nat.le_of_ble_eq_true rfl) rfl ?_
    exact loop c7 12 0 (by omega) none
  · refine AW_iconst 11 hX dX1_bestTry_10 rfl ic_m1 ?_
    refine AW_iret hX hE dX1_bestTry_11 rfl (Nat.le_refl _) (Nat.le_refl _) ?_
    simp only [tryC, if_pos c7] at hK
    exact hK
end
section
/-! numbers of the draws (the first four rows began as rows of the kit's laws) -/
theorem pf_lI {a : Nat} (h : a < 2 ^ 63) : (lN a).toInt = (a : Int) := pk_lT h
theorem pf_shr {a d : Nat} {D : Int64} (hD : (D.toBitVec.smod 64).toNat = d) (h : a < 2 ^ 62) : lN a >>> D = lN (a / 2 ^ d) := by
  have hd : a / 2 ^ d ≤ a := Nat.div_le_self _ _
  apply Int64.toInt_inj.mp
  have e : (lN a >>> D).toInt = (lN a).toInt >>> d := by
    rw [← hD]
    exact BitVec.toInt_sshiftRight ..
  rw [e, Int.shiftRight_eq_div_pow, pf_lI (by omega), pf_lI (by omega)]
  rfl
theorem fb_andL (a b : Nat) : lN a &&& lN b = lN (a &&& b) := by
  apply Int64.toBitVec_inj.1
  show BitVec.ofNat 64 a &&& BitVec.ofNat 64 b = BitVec.ofNat 64 (a &&& b)
  apply BitVec.eq_of_getLsbD_eq
  intro i hi
  simp [hi]
theorem fb_maskL (n k : Nat) : lN n &&& lN (2 ^ k - 1) = lN (n % 2 ^ k) := by rw [fb_andL, Nat.and_two_pow_sub_one_eq_mod]
/-- the next seed, the draw that it tells -/
def nxD (d : Nat) : Nat := (1103515245 * d + 12345) % 2147483648
theorem nxD_lt (d : Nat) : nxD d < 2147483648 := Nat.mod_lt _ (by decide)
theorem nx_L (d : Nat) : ((1103515245 : Int64) * lN d + 12345) &&& 2147483647 = lN (nxD d) := by
  rw [show (1103515245 : Int64) = lN 1103515245 from rfl, show (12345 : Int64) = lN 12345 from rfl, lN_mul, lN_add]
  exact fb_maskL _ 31
theorem fr_L {d : Nat} (h : d < 2147483648) : ((lN d >>> ((16 : Int32).toInt64 &&& 63)) &&& 3).toInt32 = nI (d / 65536 % 4) := by
  rw [pf_shr (d := 16) (by decide) (by omega)]
  rw [show (3 : Int64) = lN (2 ^ 2 - 1) from rfl, fb_maskL, lN_i]
/-! a scene: (places, kinds, height, place, sway, steps, falls, how much is heard, what is heard) -/
abbrev SV : Type := Nat × (Nat → Nat) × Nat × Nat × Nat × Int32 × Int32 × Nat × HD
def sc (h : AH) (b : Nat) (v : SV) : Prop := match v with
  | (n, ks, ht, p, s, stp, fl, m, hd) => h b = some (.inl (4, [.ref (b + 1), .ref (b + 3), .int (nI ht), .int (nI p), .int (nI s), .int stp, .int fl])) ∧ (∃ f, gr h (b + 1) n f ∧ ∀ j, j < n → f j = nI (ks j)) ∧ heC h (b + 3) m hd
theorem sc_fr {h h' : AH} {b lo hi : Nat} {v : SV} (g : sc h b v) (e : fr h h' lo hi) (ho : b + 8 ≤ lo ∨ hi ≤ b) : sc h' b v := by
  obtain ⟨n, ks, ht, p, s, stp, fl, m, hd⟩ := v
  obtain ⟨h1, ⟨f, h2, h3⟩, h4⟩ := g
  exact ⟨(e b (by omega)).trans h1, ⟨f, gr_fr h2 e (by omega), h3⟩, heC_fr h4 e (by omega)⟩
/-- the scene's own cell alone changes -/
theorem sc_set {h : AH} {b n ht p s : Nat} {ks : Nat → Nat} {stp fl : Int32} {m : Nat} {hd : HD} (ht' p' s' : Nat) (stp' fl' : Int32) (g : sc h b (n, ks, ht, p, s, stp, fl, m, hd)) : sc (hset h b (.inl (4, [.ref (b + 1), .ref (b + 3), .int (nI ht'), .int (nI p'), .int (nI s'), .int stp', .int fl']))) b (n, ks, ht', p', s', stp', fl', m, hd) := by
  obtain ⟨h1, ⟨f, h2, h3⟩, h4⟩ := g
  have e : fr h (hset h b (.inl (4, [.ref (b + 1), .ref (b + 3), .int (nI ht'), .int (nI p'), .int (nI s'), .int stp', .int fl']))) b (b + 1) := fr_set (by omega) (by omega)
  exact ⟨hset_eq, ⟨f, gr_fr h2 e (by omega), h3⟩, heC_fr h4 e (by omega)⟩
def svok (v : SV) : Prop := match v with
  | (n, ks, ht, p, s, _, _, m, hd) => n ≤ 12 ∧ (∀ j, j < n → ks j ≤ 4) ∧ ht ≤ 9 ∧ s ≤ 12 - ht ∧ hdok hd m n ∧ m ≤ 6 ∧ (0 < n → p < n ∧ 1 ≤ ht) ∧ (n = 0 → ht = 0 ∧ p = 0 ∧ s = 0 ∧ m = 0)
theorem sa_le {k s far : Nat} (hf : far ≤ 3) : sa k s far ≤ s + 6 := by
  have := gw_le (k := k) hf
  simp only [sa]
  split
  · split
    · omega
    · split
      · omega
      · split <;> omega
  · omega
set_option maxRecDepth 100000 in
set_option maxHeartbeats 4000000 in
theorem c_back {h : AH} {K : Option Value → AH → Prop} {b : Nat} {r1 r2 v2 v3 v4 v5 v6 : Value} (ha : h b = some (.inl (4, [r1, r2, v2, v3, v4, v5, v6]))) (hK : K none (hset h b (.inl (4, [r1, r2, v2, .int 0, .int 0, v5, v6])))) : aX5_backToStart 0 [.ref b] h K := by
  refine AM.of [some (.ref b)] pn_X5_backToStart rfl (Nat.le_of_ble_eq_true rfl) (fun X hX hE => ?_)
  refine AW_aload_n 1 hX dX5_backToStart_0 rfl rfl ?_
  refine AW_iconst 2 hX dX5_backToStart_1 rfl ic_0 ?_
  refine AW_put 5 hX dX5_backToStart_2 rfl fl_X5_27 (by first | assumption | exact hset_eq | exact (hset_ne (by omega)).trans (by first | assumption | exact hset_eq | exact (hset_ne (by omega)).trans (by first | assumption | exact hset_eq | exact (hset_ne (by omega)).trans (by first | assumption | exact hset_eq | exact (hset_ne (by omega)).trans (by first | assumption | exact hset_eq))))) rfl (fun _ => rfl) (fun _ => rfl) (Nat.le_of_ble_eq_true rfl) ?_
  try rw [hset_hset]
  refine AW_aload_n 6 hX dX5_backToStart_5 rfl rfl ?_
  refine AW_iconst 7 hX dX5_backToStart_6 rfl ic_0 ?_
  refine AW_put 10 hX dX5_backToStart_7 rfl fl_X5_30 (by first | assumption | exact hset_eq | exact (hset_ne (by omega)).trans (by first | assumption | exact hset_eq | exact (hset_ne (by omega)).trans (by first | assumption | exact hset_eq | exact (hset_ne (by omega)).trans (by first | assumption | exact hset_eq | exact (hset_ne (by omega)).trans (by first | assumption | exact hset_eq))))) rfl (fun _ => rfl) (fun _ => rfl) (Nat.le_of_ble_eq_true rfl) ?_
  try rw [hset_hset]
  refine AW_vret hX hE dX5_backToStart_10 (Nat.le_refl _) (Nat.le_refl _) ?_
  exact hK
set_option maxRecDepth 100000 in
set_option maxHeartbeats 4000000 in
theorem c_changeHeight {h : AH} {K : Option Value → AH → Prop} {b n ht p s : Nat} {ks : Nat → Nat} {stp fl : Int32} {m : Nat} {hd : HD} (g : sc h b (n, ks, ht, p, s, stp, fl, m, hd)) (H : Nat) (hK : ∀ h' : AH, sc h' b (n, ks, H, 0, 0, stp, fl, m, hd) → fr h h' b (b + 1) → K (some (.int (nI ht))) h') : aX5_changeHeight 1 [.ref b, .int (nI H)] h K := by
  have ha := g.1
  refine AM.of [some (.ref b), some (.int (nI H)), none] pn_X5_changeHeight rfl (Nat.le_of_ble_eq_true rfl) (fun X hX hE => ?_)
  refine AW_aload_n 1 hX dX5_changeHeight_0 rfl rfl ?_
  refine AW_get 4 hX dX5_changeHeight_1 rfl fl_X5_23 (by first | assumption | exact hset_eq | exact (hset_ne (by omega)).trans (by first | assumption | exact hset_eq | exact (hset_ne (by omega)).trans (by first | assumption | exact hset_eq | exact (hset_ne (by omega)).trans (by first | assumption | exact hset_eq | exact (hset_ne (by omega)).trans (by first | assumption | exact hset_eq))))) rfl ?_
  refine AW_istore_n 5 hX dX5_changeHeight_4 rfl (Nat.le_of_ble_eq_true rfl) rfl ?_
  refine AW_aload_n 6 hX dX5_changeHeight_5 rfl rfl ?_
  refine AW_iload_n 7 hX dX5_changeHeight_6 rfl rfl ?_
  refine AW_put 10 hX dX5_changeHeight_7 rfl fl_X5_23 (by first | assumption | exact hset_eq | exact (hset_ne (by omega)).trans (by first | assumption | exact hset_eq | exact (hset_ne (by omega)).trans (by first | assumption | exact hset_eq | exact (hset_ne (by omega)).trans (by first | assumption | exact hset_eq | exact (hset_ne (by omega)).trans (by first | assumption | exact hset_eq))))) rfl (fun _ => rfl) (fun _ => rfl) (Nat.le_of_ble_eq_true rfl) ?_
  try rw [hset_hset]
  refine AW_aload_n 11 hX dX5_changeHeight_10 rfl rfl ?_
  refine AW_cV (As := []) 14 hX dX5_changeHeight_11 rfl ml_X5_51 mw_X5_backToStart (by first | assumption | exact hset_eq | exact (hset_ne (by omega)).trans (by first | assumption | exact hset_eq | exact (hset_ne (by omega)).trans (by first | assumption | exact hset_eq | exact (hset_ne (by omega)).trans (by first | assumption | exact hset_eq | exact (hset_ne (by omega)).trans (by first | assumption | exact hset_eq))))) (by decide) rfl rfl rfl (Nat.le_of_ble_eq_true rfl) (by decide) ⟨(Nat.le_refl _), (Nat.le_refl _)⟩ (c_back hset_eq ?_)
  refine AW_iload_n 15 hX dX5_changeHeight_14 rfl rfl ?_
  refine AW_iret hX hE dX5_changeHeight_15 rfl (Nat.le_refl _) (Nat.le_refl _) ?_
  rw [hset_hset]
  exact hK _ (sc_set H 0 0 stp fl g) (fr_set (by omega) (by omega))
set_option maxRecDepth 100000 in
set_option maxHeartbeats 4000000 in
theorem c_sswayBy {h : AH} {K : Option Value → AH → Prop} {b n ht p s : Nat} {ks : Nat → Nat} {stp fl : Int32} {m : Nat} {hd : HD} (g : sc h b (n, ks, ht, p, s, stp, fl, m, hd)) (hk4 : ∀ j, j < n → ks j ≤ 4) (hs : s < 64) (far : Nat) (hf : far ≤ 3) (hp : p + far < n) (hK : K (some (.int (nI (sa (ks (p + far)) s far)))) h) : aX5_swayBy 2 [.ref b, .int (nI far)] h K := by
  obtain ⟨ha, ⟨f, hgr, hks⟩, hhe⟩ := id g
  have hga := hgr.1
  refine AM.of [some (.ref b), some (.int (nI far))] pn_X5_swayBy rfl (Nat.le_of_ble_eq_true rfl) (fun X hX hE => ?_)
  refine AW_aload_n 1 hX dX5_swayBy_0 rfl rfl ?_
  refine AW_get 4 hX dX5_swayBy_1 rfl fl_X5_10 (by first | assumption | exact hset_eq | exact (hset_ne (by omega)).trans (by first | assumption | exact hset_eq | exact (hset_ne (by omega)).trans (by first | assumption | exact hset_eq | exact (hset_ne (by omega)).trans (by first | assumption | exact hset_eq | exact (hset_ne (by omega)).trans (by first | assumption | exact hset_eq))))) rfl ?_
  refine AW_aload_n 5 hX dX5_swayBy_4 rfl rfl ?_
  refine AW_get 8 hX dX5_swayBy_5 rfl fl_X5_27 (by first | assumption | exact hset_eq | exact (hset_ne (by omega)).trans (by first | assumption | exact hset_eq | exact (hset_ne (by omega)).trans (by first | assumption | exact hset_eq | exact (hset_ne (by omega)).trans (by first | assumption | exact hset_eq | exact (hset_ne (by omega)).trans (by first | assumption | exact hset_eq))))) rfl ?_
  refine AW_iload_n 9 hX dX5_swayBy_8 rfl rfl ?_
  refine AW_iadd 10 hX dX5_swayBy_9 rfl ?_
  rw [nI_add]
  refine AW_cV (As := [_]) 13 hX dX5_swayBy_10 rfl ml_X5_61 mw_X0_kindAt (by first | assumption | exact hset_eq | exact (hset_ne (by omega)).trans (by first | assumption | exact hset_eq | exact (hset_ne (by omega)).trans (by first | assumption | exact hset_eq | exact (hset_ne (by omega)).trans (by first | assumption | exact hset_eq | exact (hset_ne (by omega)).trans (by first | assumption | exact hset_eq))))) (by decide) rfl rfl rfl (Nat.le_of_ble_eq_true rfl) (by decide) ⟨(Nat.le_refl _), (Nat.le_refl _)⟩ (c_kindAt hgr hp ?_)
  rw [hks _ hp]
  refine AW_aload_n 14 hX dX5_swayBy_13 rfl rfl ?_
  refine AW_get 17 hX dX5_swayBy_14 rfl fl_X5_30 (by first | assumption | exact hset_eq | exact (hset_ne (by omega)).trans (by first | assumption | exact hset_eq | exact (hset_ne (by omega)).trans (by first | assumption | exact hset_eq | exact (hset_ne (by omega)).trans (by first | assumption | exact hset_eq | exact (hset_ne (by omega)).trans (by first | assumption | exact hset_eq))))) rfl ?_
  refine AW_iload_n 18 hX dX5_swayBy_17 rfl rfl ?_
  refine AW_cS (As := [_, _, _]) 21 hX dX5_swayBy_18 rfl ml_X5_65 mw_X2_swayAfter rfl rfl (Nat.le_of_ble_eq_true rfl) (by decide) ⟨(Nat.le_refl _), (Nat.le_refl _)⟩ (c_swayAfter _ s far (hk4 _ hp) hs hf ?_)
  refine AW_iret hX hE dX5_swayBy_21 rfl (Nat.le_refl _) (Nat.le_refl _) ?_
  exact hK
set_option maxRecDepth 100000 in
set_option maxHeartbeats 4000000 in
theorem c_go {h : AH} {K : Option Value → AH → Prop} {b n ht p s : Nat} {ks : Nat → Nat} {stp fl : Int32} {m : Nat} {hd : HD} (g : sc h b (n, ks, ht, p, s, stp, fl, m, hd)) (hk4 : ∀ j, j < n → ks j ≤ 4) (hs : s < 58) (hht : ht ≤ 12) (hp12 : n ≤ 12) (far : Nat) (hf : far ≤ 3) (hp : p + far < n) (h0 : ∀ h' : AH, 12 - ht < sa (ks (p + far)) s far → sc h' b (n, ks, ht, 0, 0, stp + 1, fl + 1, m, hd) → fr h h' b (b + 1) → K (some (.int 0)) h') (h1 : ∀ h' : AH, ¬ 12 - ht < sa (ks (p + far)) s far → sc h' b (n, ks, ht, p + far, sa (ks (p + far)) s far, stp + 1, fl, m, hd) → fr h h' b (b + 1) → K (some (.int 1)) h') : aX5_go 3 [.ref b, .int (nI far)] h K := by
  have ha := g.1
  have hsa := sa_le (k := ks (p + far)) (s := s) hf
  refine AM.of [some (.ref b), some (.int (nI far)), none] pn_X5_go rfl (Nat.le_of_ble_eq_true rfl) (fun X hX hE => ?_)
  refine AW_aload_n 1 hX dX5_go_0 rfl rfl ?_
  refine AW_iload_n 2 hX dX5_go_1 rfl rfl ?_
  refine AW_cV (As := [_]) 5 hX dX5_go_2 rfl ml_X5_71 mw_X5_swayBy (by first | assumption | exact hset_eq | exact (hset_ne (by omega)).trans (by first | assumption | exact hset_eq | exact (hset_ne (by omega)).trans (by first | assumption | exact hset_eq | exact (hset_ne (by omega)).trans (by first | assumption | exact hset_eq | exact (hset_ne (by omega)).trans (by first | assumption | exact hset_eq))))) (by decide) rfl rfl rfl (Nat.le_of_ble_eq_true rfl) (by decide) ⟨(Nat.le_refl _), (Nat.le_refl _)⟩ (c_sswayBy g hk4 (by omega) far hf hp ?_)
  refine AW_istore_n 6 hX dX5_go_5 rfl (Nat.le_of_ble_eq_true rfl) rfl ?_
  refine AW_aload_n 7 hX dX5_go_6 rfl rfl ?_
  refine AW_dup 8 hX dX5_go_7 rfl rfl ?_
  refine AW_get 11 hX dX5_go_8 rfl fl_X5_33 (by first | assumption | exact hset_eq | exact (hset_ne (by omega)).trans (by first | assumption | exact hset_eq | exact (hset_ne (by omega)).trans (by first | assumption | exact hset_eq | exact (hset_ne (by omega)).trans (by first | assumption | exact hset_eq | exact (hset_ne (by omega)).trans (by first | assumption | exact hset_eq))))) rfl ?_
  refine AW_iconst 12 hX dX5_go_11 rfl ic_1 ?_
  refine AW_iadd 13 hX dX5_go_12 rfl ?_
  refine AW_put 16 hX dX5_go_13 rfl fl_X5_33 (by first | assumption | exact hset_eq | exact (hset_ne (by omega)).trans (by first | assumption | exact hset_eq | exact (hset_ne (by omega)).trans (by first | assumption | exact hset_eq | exact (hset_ne (by omega)).trans (by first | assumption | exact hset_eq | exact (hset_ne (by omega)).trans (by first | assumption | exact hset_eq))))) rfl (fun _ => rfl) (fun _ => rfl) (Nat.le_of_ble_eq_true rfl) ?_
  try rw [hset_hset]
  refine AW_iload_n 17 hX dX5_go_16 rfl rfl ?_
  refine AW_aload_n 18 hX dX5_go_17 rfl rfl ?_
  refine AW_get 21 hX dX5_go_18 rfl fl_X5_23 (by first | assumption | exact hset_eq | exact (hset_ne (by omega)).trans (by first | assumption | exact hset_eq | exact (hset_ne (by omega)).trans (by first | assumption | exact hset_eq | exact (hset_ne (by omega)).trans (by first | assumption | exact hset_eq | exact (hset_ne (by omega)).trans (by first | assumption | exact hset_eq))))) rfl ?_
  refine AW_cSN (As := [_]) 24 hX dX5_go_21 rfl mn_X5_74 mw_X6_bearable rfl rfl (Nat.le_of_ble_eq_true rfl) (by decide) ⟨(Nat.le_refl _), (Nat.le_refl _)⟩ (c_bearable ht hht ?_)
  refine AW_icmp_le 27 43 hX dX5_go_24 rfl (by decide) (fun c24 => ?_) (fun c24 => ?_)
  · refine AW_aload_n 44 hX dX5_go_43 rfl rfl ?_
    refine AW_dup 45 hX dX5_go_44 rfl rfl ?_
    refine AW_get 48 hX dX5_go_45 rfl fl_X5_27 (by first | assumption | exact hset_eq | exact (hset_ne (by omega)).trans (by first | assumption | exact hset_eq | exact (hset_ne (by omega)).trans (by first | assumption | exact hset_eq | exact (hset_ne (by omega)).trans (by first | assumption | exact hset_eq | exact (hset_ne (by omega)).trans (by first | assumption | exact hset_eq))))) rfl ?_
    refine AW_iload_n 49 hX dX5_go_48 rfl rfl ?_
    refine AW_iadd 50 hX dX5_go_49 rfl ?_
    rw [nI_add]
    refine AW_put 53 hX dX5_go_50 rfl fl_X5_27 (by first | assumption | exact hset_eq | exact (hset_ne (by omega)).trans (by first | assumption | exact hset_eq | exact (hset_ne (by omega)).trans (by first | assumption | exact hset_eq | exact (hset_ne (by omega)).trans (by first | assumption | exact hset_eq | exact (hset_ne (by omega)).trans (by first | assumption | exact hset_eq))))) rfl (fun _ => rfl) (fun _ => rfl) (Nat.le_of_ble_eq_true rfl) ?_
    try rw [hset_hset]
    refine AW_aload_n 54 hX dX5_go_53 rfl rfl ?_
    refine AW_iload_n 55 hX dX5_go_54 rfl rfl ?_
    refine AW_put 58 hX dX5_go_55 rfl fl_X5_30 (by first | assumption | exact hset_eq | exact (hset_ne (by omega)).trans (by first | assumption | exact hset_eq | exact (hset_ne (by omega)).trans (by first | assumption | exact hset_eq | exact (hset_ne (by omega)).trans (by first | assumption | exact hset_eq | exact (hset_ne (by omega)).trans (by first | assumption | exact hset_eq))))) rfl (fun _ => rfl) (fun _ => rfl) (Nat.le_of_ble_eq_true rfl) ?_
    try rw [hset_hset]
    refine AW_iconst 59 hX dX5_go_58 rfl ic_1 ?_
    refine AW_iret hX hE dX5_go_59 rfl (Nat.le_refl _) (Nat.le_refl _) ?_
    exact h1 _ (by have := iLe c24; omega) (sc_set ht _ _ _ fl g) (fr_set (by omega) (by omega))
  · refine AW_aload_n 28 hX dX5_go_27 rfl rfl ?_
    refine AW_dup 29 hX dX5_go_28 rfl rfl ?_
    refine AW_get 32 hX dX5_go_29 rfl fl_X5_36 (by first | assumption | exact hset_eq | exact (hset_ne (by omega)).trans (by first | assumption | exact hset_eq | exact (hset_ne (by omega)).trans (by first | assumption | exact hset_eq | exact (hset_ne (by omega)).trans (by first | assumption | exact hset_eq | exact (hset_ne (by omega)).trans (by first | assumption | exact hset_eq))))) rfl ?_
    refine AW_iconst 33 hX dX5_go_32 rfl ic_1 ?_
    refine AW_iadd 34 hX dX5_go_33 rfl ?_
    refine AW_put 37 hX dX5_go_34 rfl fl_X5_36 (by first | assumption | exact hset_eq | exact (hset_ne (by omega)).trans (by first | assumption | exact hset_eq | exact (hset_ne (by omega)).trans (by first | assumption | exact hset_eq | exact (hset_ne (by omega)).trans (by first | assumption | exact hset_eq | exact (hset_ne (by omega)).trans (by first | assumption | exact hset_eq))))) rfl (fun _ => rfl) (fun _ => rfl) (Nat.le_of_ble_eq_true rfl) ?_
    try rw [hset_hset]
    refine AW_aload_n 38 hX dX5_go_37 rfl rfl ?_
    refine AW_cV (As := []) 41 hX dX5_go_38 rfl ml_X5_51 mw_X5_backToStart (by first | assumption | exact hset_eq | exact (hset_ne (by omega)).trans (by first | assumption | exact hset_eq | exact (hset_ne (by omega)).trans (by first | assumption | exact hset_eq | exact (hset_ne (by omega)).trans (by first | assumption | exact hset_eq | exact (hset_ne (by omega)).trans (by first | assumption | exact hset_eq))))) (by decide) rfl rfl rfl (Nat.le_of_ble_eq_true rfl) (by decide) ⟨(Nat.le_refl _), (Nat.le_refl _)⟩ (c_back hset_eq ?_)
    refine AW_iconst 42 hX dX5_go_41 rfl ic_0 ?_
    refine AW_iret hX hE dX5_go_42 rfl (Nat.le_refl _) (Nat.le_refl _) ?_
    rw [hset_hset]
    exact h0 _ (iNle c24) (sc_set ht 0 0 _ _ g) (fr_set (by omega) (by omega))
/-- one step of a race: (place, sway, seed, how often he fell) -/
abbrev RS : Type := Nat × Nat × Nat × Nat
def rfar (n : Nat) (x : RS) : Nat := if n - 1 - x.1 < nxD x.2.2.1 / 65536 % 4 then n - 1 - x.1 else nxD x.2.2.1 / 65536 % 4
def rstep (n : Nat) (ks : Nat → Nat) (ht : Nat) (x : RS) : RS := if 12 - ht < sa (ks (x.1 + rfar n x)) x.2.1 (rfar n x) then (0, 0, nxD x.2.2.1, x.2.2.2 + 1) else (x.1 + rfar n x, sa (ks (x.1 + rfar n x)) x.2.1 (rfar n x), nxD x.2.2.1, x.2.2.2)
def rI (n : Nat) (ks : Nat → Nat) (ht : Nat) (x : RS) : Nat → RS
  | 0 => x
  | i + 1 => rstep n ks ht (rI n ks ht x i)
theorem rI_ok {n : Nat} {ks : Nat → Nat} {ht : Nat} {x : RS} (hn : 0 < n) (h1 : x.1 < n) (h2 : x.2.1 ≤ 12 - ht) (h3 : x.2.2.1 < 2147483648) : ∀ i, (rI n ks ht x i).1 < n ∧ (rI n ks ht x i).2.1 ≤ 12 - ht ∧ (rI n ks ht x i).2.2.1 < 2147483648 ∧ (rI n ks ht x i).2.2.2 ≤ x.2.2.2 + i
  | 0 => ⟨h1, h2, h3, Nat.le_refl _⟩
  | i + 1 => by
    obtain ⟨q1, q2, q3, q4⟩ := rI_ok (ks := ks) hn h1 h2 h3 i
    have hf : (rI n ks ht x i).1 + rfar n (rI n ks ht x i) < n := by
      simp only [rfar]
      split <;> omega
    simp only [rI, rstep]
    split
    · exact ⟨hn, Nat.zero_le _, nxD_lt _, by show (rI n ks ht x i).2.2.2 + 1 ≤ x.2.2.2 + (i + 1); omega⟩
    · exact ⟨hf, by show sa _ _ _ ≤ _; omega, nxD_lt _, by show (rI n ks ht x i).2.2.2 ≤ x.2.2.2 + (i + 1); omega⟩
set_option maxRecDepth 100000 in
set_option maxHeartbeats 4000000 in
theorem c_race {h : AH} {K : Option Value → AH → Prop} {b n ht p s : Nat} {ks : Nat → Nat} {stp fl : Int32} {m : Nat} {hd : HD} (g : sc h b (n, ks, ht, p, s, stp, fl, m, hd)) (hk4 : ∀ j, j < n → ks j ≤ 4) (hht : ht ≤ 12) (hn : 0 < n) (hp12 : n ≤ 12) (hp : p < n) (hs : s ≤ 12 - ht) (c sd : Nat) (hc : c ≤ 60) (hsd : sd < 2147483648) (hK : ∀ (h' : AH) (stp' : Int32), sc h' b (n, ks, ht, (rI n ks ht (p, s, sd, 0) c).1, (rI n ks ht (p, s, sd, 0) c).2.1, stp', fl + nI (rI n ks ht (p, s, sd, 0) c).2.2.2, m, hd) → fr h h' b (b + 1) → K (some (.int (nI (rI n ks ht (p, s, sd, 0) c).2.2.1))) h') : aX5_race 4 [.ref b, .int (nI c), .int (nI sd)] h K := by
  have hok := rI_ok (ks := ks) (ht := ht) (x := (p, s, sd, 0)) hn hp hs hsd
  refine AM.of [some (.ref b), some (.int (nI c)), some (.int (nI sd)), none, none, none, none] pn_X5_race rfl (Nat.le_of_ble_eq_true rfl) (fun X hX hE => ?_)
  have loop : ∀ d i, i + d = c → ∀ (h' : AH) (stp' : Int32), sc h' b (n, ks, ht, (rI n ks ht (p, s, sd, 0) i).1, (rI n ks ht (p, s, sd, 0) i).2.1, stp', fl + nI (rI n ks ht (p, s, sd, 0) i).2.2.2, m, hd) → fr h h' b (b + 1) → ∀ z, AW X 0 0 6 [some (.ref b), some (.int (nI c)), some (.int (nI sd)), some (.long (lN (rI n ks ht (p, s, sd, 0) i).2.2.1)), none, some (.int (nI i)), z] [] h' := by
    intro d
    induction d with
    | zero =>
      intro i hi h' stp' g' hfr z
      have e : i = c := by omega
      subst e
      refine AW_iload 8 hX dX5_race_6 rfl rfl ?_
      refine AW_iload_n 9 hX dX5_race_8 rfl rfl ?_
      refine AW_icmp_ge 12 67 hX dX5_race_9 rfl (by decide) (fun c9 => ?_) (fun c9 => absurd (nI_le (by omega) (by omega)) c9)
      refine AW_lload_n 68 hX dX5_race_67 rfl rfl ?_
      refine AW_l2i 69 hX dX5_race_68 rfl ?_
      refine AW_iret hX hE dX5_race_69 rfl (Nat.le_refl _) (Nat.le_refl _) ?_
      rw [lN_i]
      exact hK h' stp' g' hfr
    | succ d ih =>
      intro i hi h' stp' g' hfr z
      obtain ⟨ha', ⟨f', hgr', hks'⟩, hhe'⟩ := id g'
      obtain ⟨q1, q2, q3, q4⟩ := hok i
      have hga' := hgr'.1
      have hfar : (rI n ks ht (p, s, sd, 0) i).1 + rfar n (rI n ks ht (p, s, sd, 0) i) < n ∧ rfar n (rI n ks ht (p, s, sd, 0) i) ≤ 3 := by
        have h4 : nxD (rI n ks ht (p, s, sd, 0) i).2.2.1 / 65536 % 4 < 4 := Nat.mod_lt _ (by decide)
        simp only [rfar]
        split <;> omega
      have hmin : (if nI n - 1 - nI (rI n ks ht (p, s, sd, 0) i).1 < nI (nxD (rI n ks ht (p, s, sd, 0) i).2.2.1 / 65536 % 4) then nI n - 1 - nI (rI n ks ht (p, s, sd, 0) i).1 else nI (nxD (rI n ks ht (p, s, sd, 0) i).2.2.1 / 65536 % 4)) = nI (rfar n (rI n ks ht (p, s, sd, 0) i)) := by
        have h4 : nxD (rI n ks ht (p, s, sd, 0) i).2.2.1 / 65536 % 4 < 4 := Nat.mod_lt _ (by decide)
        rw [show (1 : Int32) = nI 1 from rfl, pk_sub (by omega), pk_sub (by omega)]
        simp only [rfar]
        by_cases hlt : n - 1 - (rI n ks ht (p, s, sd, 0) i).1 < nxD (rI n ks ht (p, s, sd, 0) i).2.2.1 / 65536 % 4
        · rw [if_pos (nI_lt hlt (by omega)), if_pos hlt]
        · rw [if_neg (nI_nlt (by omega) (by omega)), if_neg hlt]
      refine AW_iload 8 hX dX5_race_6 rfl rfl ?_
      refine AW_iload_n 9 hX dX5_race_8 rfl rfl ?_
      refine AW_icmp_ge 12 67 hX dX5_race_9 rfl (by decide) (fun c9 => absurd c9 (nI_ge (by omega) (by omega))) (fun c9 => ?_)
      refine AW_ldc2 15 hX dX5_race_12 rfl kc_X5_79 ?_
      refine AW_lload_n 16 hX dX5_race_15 rfl rfl ?_
      refine AW_lmul 17 hX dX5_race_16 rfl ?_
      refine AW_ldc2 20 hX dX5_race_17 rfl kc_X5_81 ?_
      refine AW_ladd 21 hX dX5_race_20 rfl ?_
      refine AW_ldc2 24 hX dX5_race_21 rfl kc_X5_83 ?_
      refine AW_land 25 hX dX5_race_24 rfl ?_
      rw [nx_L]
      refine AW_lstore_n 26 hX dX5_race_25 rfl (Nat.le_of_ble_eq_true rfl) rfl ?_
      refine AW_lload_n 27 hX dX5_race_26 rfl rfl ?_
      refine AW_bipush 29 hX dX5_race_27 rfl bp_16 ?_
      refine AW_lshr 30 hX dX5_race_29 rfl ?_
      refine AW_ldc2 33 hX dX5_race_30 rfl kc_X5_85 ?_
      refine AW_land 34 hX dX5_race_33 rfl ?_
      refine AW_l2i 35 hX dX5_race_34 rfl ?_
      rw [fr_L (nxD_lt _)]
      refine AW_istore 37 hX dX5_race_35 rfl (Nat.le_of_ble_eq_true rfl) rfl ?_
      refine AW_aload_n 38 hX dX5_race_37 rfl rfl ?_
      refine AW_iload 40 hX dX5_race_38 rfl rfl ?_
      refine AW_aload_n 41 hX dX5_race_40 rfl rfl ?_
      refine AW_get 44 hX dX5_race_41 rfl fl_X5_10 (by first | assumption | exact hset_eq | exact (hset_ne (by omega)).trans (by first | assumption | exact hset_eq | exact (hset_ne (by omega)).trans (by first | assumption | exact hset_eq | exact (hset_ne (by omega)).trans (by first | assumption | exact hset_eq | exact (hset_ne (by omega)).trans (by first | assumption | exact hset_eq))))) rfl ?_
      refine AW_cV (As := []) 47 hX dX5_race_44 rfl ml_X5_87 mw_X0_places (by first | assumption | exact hset_eq | exact (hset_ne (by omega)).trans (by first | assumption | exact hset_eq | exact (hset_ne (by omega)).trans (by first | assumption | exact hset_eq | exact (hset_ne (by omega)).trans (by first | assumption | exact hset_eq | exact (hset_ne (by omega)).trans (by first | assumption | exact hset_eq))))) (by decide) rfl rfl rfl (Nat.le_of_ble_eq_true rfl) (by decide) ⟨(Nat.le_refl _), (Nat.le_refl _)⟩ (c_places hga' ?_)
      refine AW_iconst 48 hX dX5_race_47 rfl ic_1 ?_
      refine AW_isub 49 hX dX5_race_48 rfl ?_
      refine AW_aload_n 50 hX dX5_race_49 rfl rfl ?_
      refine AW_get 53 hX dX5_race_50 rfl fl_X5_27 (by first | assumption | exact hset_eq | exact (hset_ne (by omega)).trans (by first | assumption | exact hset_eq | exact (hset_ne (by omega)).trans (by first | assumption | exact hset_eq | exact (hset_ne (by omega)).trans (by first | assumption | exact hset_eq | exact (hset_ne (by omega)).trans (by first | assumption | exact hset_eq))))) rfl ?_
      refine AW_isub 54 hX dX5_race_53 rfl ?_
      refine AW_min 57 hX dX5_race_54 rfl mk_X5_90 (Nat.le_of_ble_eq_true rfl) (by decide) ⟨(Nat.le_refl _), (Nat.le_refl _)⟩ ?_
      rw [hmin]
      refine AW_cV (As := [_]) 60 hX dX5_race_57 rfl ml_X5_96 mw_X5_go (by first | assumption | exact hset_eq | exact (hset_ne (by omega)).trans (by first | assumption | exact hset_eq | exact (hset_ne (by omega)).trans (by first | assumption | exact hset_eq | exact (hset_ne (by omega)).trans (by first | assumption | exact hset_eq | exact (hset_ne (by omega)).trans (by first | assumption | exact hset_eq))))) (by decide) rfl rfl rfl (Nat.le_of_ble_eq_true rfl) (by decide) ⟨(Nat.le_refl _), (Nat.le_refl _)⟩ (c_go g' hk4 (by omega) hht hp12 _ hfar.2 hfar.1 (fun h2 hfell g2 hfr2 => ?_) (fun h2 hfell g2 hfr2 => ?_))
      · refine AW_pop 61 hX dX5_race_60 rfl rfl ?_
        refine AW_iinc 64 hX dX5_race_61 rfl rfl (iincp ic_1) (Nat.le_of_ble_eq_true rfl) rfl ?_
        refine AW_goto 6 hX dX5_race_64 (by decide) ?_
        rw [nI_1]
        have e1 : rI n ks ht (p, s, sd, 0) (i + 1) = (0, 0, nxD (rI n ks ht (p, s, sd, 0) i).2.2.1, (rI n ks ht (p, s, sd, 0) i).2.2.2 + 1) := by
          simp only [rI, rstep, if_pos hfell]
        have := ih (i + 1) (by omega) h2 (stp' + 1)
        simp only [e1] at this
        refine this ?_ (fr_tr hfr hfr2) _
        rw [show nI ((rI n ks ht (p, s, sd, 0) i).2.2.2 + 1) = nI (rI n ks ht (p, s, sd, 0) i).2.2.2 + 1 from (nI_1 _).symm, ← Int32.add_assoc]
        exact g2
      · refine AW_pop 61 hX dX5_race_60 rfl rfl ?_
        refine AW_iinc 64 hX dX5_race_61 rfl rfl (iincp ic_1) (Nat.le_of_ble_eq_true rfl) rfl ?_
        refine AW_goto 6 hX dX5_race_64 (by decide) ?_
        rw [nI_1]
        have e1 : rI n ks ht (p, s, sd, 0) (i + 1) = ((rI n ks ht (p, s, sd, 0) i).1 + rfar n (rI n ks ht (p, s, sd, 0) i), sa (ks ((rI n ks ht (p, s, sd, 0) i).1 + rfar n (rI n ks ht (p, s, sd, 0) i))) (rI n ks ht (p, s, sd, 0) i).2.1 (rfar n (rI n ks ht (p, s, sd, 0) i)), nxD (rI n ks ht (p, s, sd, 0) i).2.2.1, (rI n ks ht (p, s, sd, 0) i).2.2.2) := by
          simp only [rI, rstep, if_neg hfell]
        have := ih (i + 1) (by omega) h2 (stp' + 1)
        simp only [e1] at this
        exact this g2 (fr_tr hfr hfr2) _
  refine AW_iload_n 1 hX dX5_race_0 rfl rfl ?_
  refine AW_i2l 2 hX dX5_race_1 rfl ?_
  rw [nI_l (by omega)]
  refine AW_lstore_n 3 hX dX5_race_2 rfl (Nat.le_of_ble_eq_true rfl) rfl ?_
  refine AW_iconst 4 hX dX5_race_3 rfl ic_0 ?_
  refine AW_istore 6 hX dX5_race_4 rfl (Nat.le_of_ble_eq_true rfl) rfl ?_
  exact loop c 0 (by omega) h stp (by show sc h b (n, ks, ht, p, s, stp, fl + 0, m, hd); rw [Int32.add_zero]; exact g) (fr_rf _ _ _) none
set_option maxRecDepth 100000 in
set_option maxHeartbeats 4000000 in
theorem c_scopy {h : AH} {K : Option Value → AH → Prop} {b b2 n ht p s n2 ht2 p2 s2 : Nat} {ks ks2 : Nat → Nat} {stp fl stp2 fl2 : Int32} {m m2 : Nat} {hd hd2 : HD} (g : sc h b (n, ks, ht, p, s, stp, fl, m, hd)) (g2 : sc h b2 (n2, ks2, ht2, p2, s2, stp2, fl2, m2, hd2)) (hab : b + 8 ≤ b2 ∨ b2 + 8 ≤ b) (hK : ∀ h' : AH, sc h' b (n2, ks2, ht2, p2, s2, stp2, fl2, m2, hd2) → fr h h' b (b + 8) → K none h') : aX5_copyFrom 3 [.ref b, .ref b2] h K := by
  obtain ⟨ha, ⟨f, hgr, hks⟩, hhe⟩ := id g
  obtain ⟨ha2, ⟨f2, hgr2, hks2⟩, hhe2⟩ := id g2
  have hga := hgr.1
  have hha := hhe.1
  refine AM.of [some (.ref b), some (.ref b2)] pn_X5_copyFrom rfl (Nat.le_of_ble_eq_true rfl) (fun X hX hE => ?_)
  refine AW_aload_n 1 hX dX5_copyFrom_0 rfl rfl ?_
  refine AW_get 4 hX dX5_copyFrom_1 rfl fl_X5_10 (by first | assumption | exact hset_eq | exact (hset_ne (by omega)).trans (by first | assumption | exact hset_eq | exact (hset_ne (by omega)).trans (by first | assumption | exact hset_eq | exact (hset_ne (by omega)).trans (by first | assumption | exact hset_eq | exact (hset_ne (by omega)).trans (by first | assumption | exact hset_eq))))) rfl ?_
  refine AW_aload_n 5 hX dX5_copyFrom_4 rfl rfl ?_
  refine AW_get 8 hX dX5_copyFrom_5 rfl fl_X5_10 (by first | assumption | exact hset_eq | exact (hset_ne (by omega)).trans (by first | assumption | exact hset_eq | exact (hset_ne (by omega)).trans (by first | assumption | exact hset_eq | exact (hset_ne (by omega)).trans (by first | assumption | exact hset_eq | exact (hset_ne (by omega)).trans (by first | assumption | exact hset_eq))))) rfl ?_
  refine AW_cV (As := [_]) 11 hX dX5_copyFrom_8 rfl ml_X5_54 mw_X0_copyFrom (by first | assumption | exact hset_eq | exact (hset_ne (by omega)).trans (by first | assumption | exact hset_eq | exact (hset_ne (by omega)).trans (by first | assumption | exact hset_eq | exact (hset_ne (by omega)).trans (by first | assumption | exact hset_eq | exact (hset_ne (by omega)).trans (by first | assumption | exact hset_eq))))) (by decide) rfl rfl rfl (Nat.le_of_ble_eq_true rfl) (by decide) ⟨(Nat.le_refl _), (Nat.le_refl _)⟩ (c_gcopy hgr hgr2 (by omega) (fun h3 f3 hgr3 hf3 hfr3 => ?_))
  have ha3 := (hfr3 b (by omega)).trans ha
  have ha23 := (hfr3 b2 (by omega)).trans ha2
  have hhe3 := heC_fr hhe hfr3 (by omega)
  have hhe23 := heC_fr hhe2 hfr3 (by omega)
  have hha3 := hhe3.1
  refine AW_aload_n 12 hX dX5_copyFrom_11 rfl rfl ?_
  refine AW_get 15 hX dX5_copyFrom_12 rfl fl_X5_19 (by first | assumption | exact hset_eq | exact (hset_ne (by omega)).trans (by first | assumption | exact hset_eq | exact (hset_ne (by omega)).trans (by first | assumption | exact hset_eq | exact (hset_ne (by omega)).trans (by first | assumption | exact hset_eq | exact (hset_ne (by omega)).trans (by first | assumption | exact hset_eq))))) rfl ?_
  refine AW_aload_n 16 hX dX5_copyFrom_15 rfl rfl ?_
  refine AW_get 19 hX dX5_copyFrom_16 rfl fl_X5_19 (by first | assumption | exact hset_eq | exact (hset_ne (by omega)).trans (by first | assumption | exact hset_eq | exact (hset_ne (by omega)).trans (by first | assumption | exact hset_eq | exact (hset_ne (by omega)).trans (by first | assumption | exact hset_eq | exact (hset_ne (by omega)).trans (by first | assumption | exact hset_eq))))) rfl ?_
  refine AW_cV (As := [_]) 22 hX dX5_copyFrom_19 rfl ml_X5_58 mw_X1_copyFrom (by first | assumption | exact hset_eq | exact (hset_ne (by omega)).trans (by first | assumption | exact hset_eq | exact (hset_ne (by omega)).trans (by first | assumption | exact hset_eq | exact (hset_ne (by omega)).trans (by first | assumption | exact hset_eq | exact (hset_ne (by omega)).trans (by first | assumption | exact hset_eq))))) (by decide) rfl rfl rfl (Nat.le_of_ble_eq_true rfl) (by decide) ⟨(Nat.le_refl _), (Nat.le_refl _)⟩ (c_hcopy hhe3 hhe23 (by omega) (fun h4 hhe4 hfr4 => ?_))
  have ha4 := (hfr4 b (by omega)).trans ha3
  have ha24 := (hfr4 b2 (by omega)).trans ha23
  have hgr4 := gr_fr hgr3 hfr4 (by omega)
  refine AW_aload_n 23 hX dX5_copyFrom_22 rfl rfl ?_
  refine AW_aload_n 24 hX dX5_copyFrom_23 rfl rfl ?_
  refine AW_get 27 hX dX5_copyFrom_24 rfl fl_X5_23 (by first | assumption | exact hset_eq | exact (hset_ne (by omega)).trans (by first | assumption | exact hset_eq | exact (hset_ne (by omega)).trans (by first | assumption | exact hset_eq | exact (hset_ne (by omega)).trans (by first | assumption | exact hset_eq | exact (hset_ne (by omega)).trans (by first | assumption | exact hset_eq))))) rfl ?_
  refine AW_put 30 hX dX5_copyFrom_27 rfl fl_X5_23 (by first | assumption | exact hset_eq | exact (hset_ne (by omega)).trans (by first | assumption | exact hset_eq | exact (hset_ne (by omega)).trans (by first | assumption | exact hset_eq | exact (hset_ne (by omega)).trans (by first | assumption | exact hset_eq | exact (hset_ne (by omega)).trans (by first | assumption | exact hset_eq))))) rfl (fun _ => rfl) (fun _ => rfl) (Nat.le_of_ble_eq_true rfl) ?_
  try rw [hset_hset]
  refine AW_aload_n 31 hX dX5_copyFrom_30 rfl rfl ?_
  refine AW_aload_n 32 hX dX5_copyFrom_31 rfl rfl ?_
  refine AW_get 35 hX dX5_copyFrom_32 rfl fl_X5_27 (by first | assumption | exact hset_eq | exact (hset_ne (by omega)).trans (by first | assumption | exact hset_eq | exact (hset_ne (by omega)).trans (by first | assumption | exact hset_eq | exact (hset_ne (by omega)).trans (by first | assumption | exact hset_eq | exact (hset_ne (by omega)).trans (by first | assumption | exact hset_eq))))) rfl ?_
  refine AW_put 38 hX dX5_copyFrom_35 rfl fl_X5_27 (by first | assumption | exact hset_eq | exact (hset_ne (by omega)).trans (by first | assumption | exact hset_eq | exact (hset_ne (by omega)).trans (by first | assumption | exact hset_eq | exact (hset_ne (by omega)).trans (by first | assumption | exact hset_eq | exact (hset_ne (by omega)).trans (by first | assumption | exact hset_eq))))) rfl (fun _ => rfl) (fun _ => rfl) (Nat.le_of_ble_eq_true rfl) ?_
  try rw [hset_hset]
  refine AW_aload_n 39 hX dX5_copyFrom_38 rfl rfl ?_
  refine AW_aload_n 40 hX dX5_copyFrom_39 rfl rfl ?_
  refine AW_get 43 hX dX5_copyFrom_40 rfl fl_X5_30 (by first | assumption | exact hset_eq | exact (hset_ne (by omega)).trans (by first | assumption | exact hset_eq | exact (hset_ne (by omega)).trans (by first | assumption | exact hset_eq | exact (hset_ne (by omega)).trans (by first | assumption | exact hset_eq | exact (hset_ne (by omega)).trans (by first | assumption | exact hset_eq))))) rfl ?_
  refine AW_put 46 hX dX5_copyFrom_43 rfl fl_X5_30 (by first | assumption | exact hset_eq | exact (hset_ne (by omega)).trans (by first | assumption | exact hset_eq | exact (hset_ne (by omega)).trans (by first | assumption | exact hset_eq | exact (hset_ne (by omega)).trans (by first | assumption | exact hset_eq | exact (hset_ne (by omega)).trans (by first | assumption | exact hset_eq))))) rfl (fun _ => rfl) (fun _ => rfl) (Nat.le_of_ble_eq_true rfl) ?_
  try rw [hset_hset]
  refine AW_aload_n 47 hX dX5_copyFrom_46 rfl rfl ?_
  refine AW_aload_n 48 hX dX5_copyFrom_47 rfl rfl ?_
  refine AW_get 51 hX dX5_copyFrom_48 rfl fl_X5_33 (by first | assumption | exact hset_eq | exact (hset_ne (by omega)).trans (by first | assumption | exact hset_eq | exact (hset_ne (by omega)).trans (by first | assumption | exact hset_eq | exact (hset_ne (by omega)).trans (by first | assumption | exact hset_eq | exact (hset_ne (by omega)).trans (by first | assumption | exact hset_eq))))) rfl ?_
  refine AW_put 54 hX dX5_copyFrom_51 rfl fl_X5_33 (by first | assumption | exact hset_eq | exact (hset_ne (by omega)).trans (by first | assumption | exact hset_eq | exact (hset_ne (by omega)).trans (by first | assumption | exact hset_eq | exact (hset_ne (by omega)).trans (by first | assumption | exact hset_eq | exact (hset_ne (by omega)).trans (by first | assumption | exact hset_eq))))) rfl (fun _ => rfl) (fun _ => rfl) (Nat.le_of_ble_eq_true rfl) ?_
  try rw [hset_hset]
  refine AW_aload_n 55 hX dX5_copyFrom_54 rfl rfl ?_
  refine AW_aload_n 56 hX dX5_copyFrom_55 rfl rfl ?_
  refine AW_get 59 hX dX5_copyFrom_56 rfl fl_X5_36 (by first | assumption | exact hset_eq | exact (hset_ne (by omega)).trans (by first | assumption | exact hset_eq | exact (hset_ne (by omega)).trans (by first | assumption | exact hset_eq | exact (hset_ne (by omega)).trans (by first | assumption | exact hset_eq | exact (hset_ne (by omega)).trans (by first | assumption | exact hset_eq))))) rfl ?_
  refine AW_put 62 hX dX5_copyFrom_59 rfl fl_X5_36 (by first | assumption | exact hset_eq | exact (hset_ne (by omega)).trans (by first | assumption | exact hset_eq | exact (hset_ne (by omega)).trans (by first | assumption | exact hset_eq | exact (hset_ne (by omega)).trans (by first | assumption | exact hset_eq | exact (hset_ne (by omega)).trans (by first | assumption | exact hset_eq))))) rfl (fun _ => rfl) (fun _ => rfl) (Nat.le_of_ble_eq_true rfl) ?_
  try rw [hset_hset]
  refine AW_vret hX hE dX5_copyFrom_62 (Nat.le_refl _) (Nat.le_refl _) ?_
  refine hK _ ⟨hset_eq, ⟨f3, gr_fr hgr4 (fr_set (lo := b) (hi := b + 1) (by omega) (by omega)) (by omega), fun j hj => (hf3 j hj).trans (hks2 j hj)⟩, heC_fr hhe4 (fr_set (lo := b) (hi := b + 1) (by omega) (by omega)) (by omega)⟩ ?_
  exact fr_tr (fr_tr (fr_wide hfr3 (by omega) (by omega)) (fr_wide hfr4 (by omega) (by omega))) (fr_set (by omega) (by omega))
set_option maxRecDepth 100000 in
set_option maxHeartbeats 4000000 in
theorem c_begin {h : AH} {K : Option Value → AH → Prop} {b n ht p s : Nat} {ks : Nat → Nat} {stp fl : Int32} {m : Nat} {hd : HD} (g : sc h b (n, ks, ht, p, s, stp, fl, m, hd)) {a pm : Nat} {pg : Nat → Nat} (hp : pgC h a pm pg) (hw : pwh pm pg) (hab : b + 8 ≤ a ∨ a + 2 ≤ b) (hK : ∀ h' : AH, sc h' b (plc pm pg, fun j => kn (pAt pm pg j), pAt pm pg (pm - 1) - 48, 0, 0, 0, 0, 0, hd) → fr h h' b (b + 8) → K none h') : aX5_begin 7 [.ref b, .ref a] h K := by
  obtain ⟨ha, ⟨f, hgr, hks⟩, hhe⟩ := id g
  have hga := hgr.1
  have hha := hhe.1
  refine AM.of [some (.ref b), some (.ref a)] pn_X5_begin rfl (Nat.le_of_ble_eq_true rfl) (fun X hX hE => ?_)
  refine AW_aload_n 1 hX dX5_begin_0 rfl rfl ?_
  refine AW_get 4 hX dX5_begin_1 rfl fl_X5_10 (by first | assumption | exact hset_eq | exact (hset_ne (by omega)).trans (by first | assumption | exact hset_eq | exact (hset_ne (by omega)).trans (by first | assumption | exact hset_eq | exact (hset_ne (by omega)).trans (by first | assumption | exact hset_eq | exact (hset_ne (by omega)).trans (by first | assumption | exact hset_eq))))) rfl ?_
  refine AW_aload_n 5 hX dX5_begin_4 rfl rfl ?_
  refine AW_cV (As := [_]) 8 hX dX5_begin_5 rfl ml_X5_39 mw_X0_read (by first | assumption | exact hset_eq | exact (hset_ne (by omega)).trans (by first | assumption | exact hset_eq | exact (hset_ne (by omega)).trans (by first | assumption | exact hset_eq | exact (hset_ne (by omega)).trans (by first | assumption | exact hset_eq | exact (hset_ne (by omega)).trans (by first | assumption | exact hset_eq))))) (by decide) rfl rfl rfl (Nat.le_of_ble_eq_true rfl) (by decide) ⟨(Nat.le_refl _), (Nat.le_refl _)⟩ (c_gread hgr hp (by omega) (fun h3 f3 hgr3 hf3 hfr3 => ?_))
  have ha3 := (hfr3 b (by omega)).trans ha
  have hhe3 := heC_fr hhe hfr3 (by omega)
  have hp3 := pgC_fr hp hfr3 (by omega)
  have hha3 := hhe3.1
  refine AW_aload_n 9 hX dX5_begin_8 rfl rfl ?_
  refine AW_get 12 hX dX5_begin_9 rfl fl_X5_19 (by first | assumption | exact hset_eq | exact (hset_ne (by omega)).trans (by first | assumption | exact hset_eq | exact (hset_ne (by omega)).trans (by first | assumption | exact hset_eq | exact (hset_ne (by omega)).trans (by first | assumption | exact hset_eq | exact (hset_ne (by omega)).trans (by first | assumption | exact hset_eq))))) rfl ?_
  refine AW_cV (As := []) 15 hX dX5_begin_12 rfl ml_X5_43 mw_X1_clear (by first | assumption | exact hset_eq | exact (hset_ne (by omega)).trans (by first | assumption | exact hset_eq | exact (hset_ne (by omega)).trans (by first | assumption | exact hset_eq | exact (hset_ne (by omega)).trans (by first | assumption | exact hset_eq | exact (hset_ne (by omega)).trans (by first | assumption | exact hset_eq))))) (by decide) rfl rfl rfl (Nat.le_of_ble_eq_true rfl) (by decide) ⟨(Nat.le_refl _), (Nat.le_refl _)⟩ (c_hclear hhe3 (fun h4 hhe4 hfr4 => ?_))
  have ha4 := (hfr4 b (by omega)).trans ha3
  have hgr4 := gr_fr hgr3 hfr4 (by omega)
  have hp4 := pgC_fr hp3 hfr4 (by omega)
  have hpa4 := hp4.1
  refine AW_pop 16 hX dX5_begin_15 rfl rfl ?_
  refine AW_aload_n 17 hX dX5_begin_16 rfl rfl ?_
  refine AW_aload_n 18 hX dX5_begin_17 rfl rfl ?_
  refine AW_cV (As := []) 21 hX dX5_begin_18 rfl ml_X5_47 mw_X3_height (by first | assumption | exact hset_eq | exact (hset_ne (by omega)).trans (by first | assumption | exact hset_eq | exact (hset_ne (by omega)).trans (by first | assumption | exact hset_eq | exact (hset_ne (by omega)).trans (by first | assumption | exact hset_eq | exact (hset_ne (by omega)).trans (by first | assumption | exact hset_eq))))) (by decide) rfl rfl rfl (Nat.le_of_ble_eq_true rfl) (by decide) ⟨(Nat.le_refl _), (Nat.le_refl _)⟩ (c_pheight hp4 hw ?_)
  refine AW_put 24 hX dX5_begin_21 rfl fl_X5_23 (by first | assumption | exact hset_eq | exact (hset_ne (by omega)).trans (by first | assumption | exact hset_eq | exact (hset_ne (by omega)).trans (by first | assumption | exact hset_eq | exact (hset_ne (by omega)).trans (by first | assumption | exact hset_eq | exact (hset_ne (by omega)).trans (by first | assumption | exact hset_eq))))) rfl (fun _ => rfl) (fun _ => rfl) (Nat.le_of_ble_eq_true rfl) ?_
  try rw [hset_hset]
  refine AW_aload_n 25 hX dX5_begin_24 rfl rfl ?_
  refine AW_iconst 26 hX dX5_begin_25 rfl ic_0 ?_
  refine AW_put 29 hX dX5_begin_26 rfl fl_X5_33 (by first | assumption | exact hset_eq | exact (hset_ne (by omega)).trans (by first | assumption | exact hset_eq | exact (hset_ne (by omega)).trans (by first | assumption | exact hset_eq | exact (hset_ne (by omega)).trans (by first | assumption | exact hset_eq | exact (hset_ne (by omega)).trans (by first | assumption | exact hset_eq))))) rfl (fun _ => rfl) (fun _ => rfl) (Nat.le_of_ble_eq_true rfl) ?_
  try rw [hset_hset]
  refine AW_aload_n 30 hX dX5_begin_29 rfl rfl ?_
  refine AW_iconst 31 hX dX5_begin_30 rfl ic_0 ?_
  refine AW_put 34 hX dX5_begin_31 rfl fl_X5_36 (by first | assumption | exact hset_eq | exact (hset_ne (by omega)).trans (by first | assumption | exact hset_eq | exact (hset_ne (by omega)).trans (by first | assumption | exact hset_eq | exact (hset_ne (by omega)).trans (by first | assumption | exact hset_eq | exact (hset_ne (by omega)).trans (by first | assumption | exact hset_eq))))) rfl (fun _ => rfl) (fun _ => rfl) (Nat.le_of_ble_eq_true rfl) ?_
  try rw [hset_hset]
  refine AW_aload_n 35 hX dX5_begin_34 rfl rfl ?_
  refine AW_cV (As := []) 38 hX dX5_begin_35 rfl ml_X5_51 mw_X5_backToStart (by first | assumption | exact hset_eq | exact (hset_ne (by omega)).trans (by first | assumption | exact hset_eq | exact (hset_ne (by omega)).trans (by first | assumption | exact hset_eq | exact (hset_ne (by omega)).trans (by first | assumption | exact hset_eq | exact (hset_ne (by omega)).trans (by first | assumption | exact hset_eq))))) (by decide) rfl rfl rfl (Nat.le_of_ble_eq_true rfl) (by decide) ⟨(Nat.le_refl _), (Nat.le_refl _)⟩ (c_back hset_eq ?_)
  refine AW_vret hX hE dX5_begin_38 (Nat.le_refl _) (Nat.le_refl _) ?_
  rw [hset_hset]
  refine hK _ ⟨hset_eq, ⟨f3, gr_fr hgr4 (fr_set (lo := b) (hi := b + 1) (by omega) (by omega)) (by omega), hf3⟩, heC_fr hhe4 (fr_set (lo := b) (hi := b + 1) (by omega) (by omega)) (by omega)⟩ ?_
  exact fr_tr (fr_tr (fr_wide hfr3 (by omega) (by omega)) (fr_wide hfr4 (by omega) (by omega))) (fr_set (by omega) (by omega))
end
section
/-! THE YARD AS A GRAPH: a spot is 12 * place + sway -/
def vm (n : Nat) (ks : Nat → Nat) (B u c : Nat) : Prop := c ≤ 3 ∧ u / 12 + c < n ∧ sa (ks (u / 12 + c)) (u % 12) c ≤ B
def tv (ks : Nat → Nat) (u c : Nat) : Nat := 12 * (u / 12 + c) + sa (ks (u / 12 + c)) (u % 12) c
/-- the end can be reached from u in k steps -/
def can (n : Nat) (ks : Nat → Nat) (B : Nat) : Nat → Nat → Prop
  | 0, u => u / 12 = n - 1
  | k + 1, u => ∃ c, vm n ks B u c ∧ can n ks B k (tv ks u c)
/-- the first step of the first of the shortest ways (k + 1 steps) -/
def fst1 (n : Nat) (ks : Nat → Nat) (B k u c : Nat) : Prop := vm n ks B u c ∧ can n ks B k (tv ks u c) ∧ ∀ c', c' < c → ¬ (vm n ks B u c' ∧ can n ks B k (tv ks u c'))
/-- its step j (from 1) -/
def LWy (n : Nat) (ks : Nat → Nat) (B : Nat) : Nat → Nat → Nat → Nat → Prop
  | _, _, 0, _ => False
  | 0, _, _ + 1, _ => False
  | k + 1, u, 1, c => fst1 n ks B k u c
  | k + 1, u, j + 2, c => ∃ c0, fst1 n ks B k u c0 ∧ LWy n ks B k (tv ks u c0) (j + 1) c
theorem fst1_one {n : Nat} {ks : Nat → Nat} {B k u c c' : Nat} (h : fst1 n ks B k u c) (h' : fst1 n ks B k u c') : c = c' := by
  rcases Nat.lt_trichotomy c c' with q | q | q
  · exact absurd ⟨h.1, h.2.1⟩ (h'.2.2 c q)
  · exact q
  · exact absurd ⟨h'.1, h'.2.1⟩ (h.2.2 c' q)
theorem LWy_one {n : Nat} {ks : Nat → Nat} {B : Nat} : ∀ (k u j c c' : Nat), LWy n ks B k u j c → LWy n ks B k u j c' → c = c'
  | 0, _, 0, _, _, h, _ => h.elim
  | 0, _, _ + 1, _, _, h, _ => h.elim
  | _ + 1, _, 0, _, _, h, _ => h.elim
  | k + 1, u, 1, c, c', h, h' => fst1_one h h'
  | k + 1, u, j + 2, c, c', ⟨c0, h1, h2⟩, ⟨c1, h3, h4⟩ => by
    have e := fst1_one h1 h3
    subst e
    exact LWy_one k (tv ks u c0) (j + 1) c c' h2 h4
theorem tv_d {ks : Nat → Nat} {u c B : Nat} (hB : B ≤ 11) (h : sa (ks (u / 12 + c)) (u % 12) c ≤ B) : tv ks u c / 12 = u / 12 + c ∧ tv ks u c % 12 = sa (ks (u / 12 + c)) (u % 12) c := by
  simp only [tv]
  omega
/-! the search: N spots so far; the t-th is Qs t, came from the (par t)-th by a step of cb t, dp t steps away -/
def ap {α : Type} (f : Nat → α) (N : Nat) (x : α) : Nat → α := fun t => if t = N then x else f t
theorem ap_eq {α : Type} {f : Nat → α} {N : Nat} {x : α} : ap f N x N = x := by simp [ap]
theorem ap_ne {α : Type} {f : Nat → α} {N t : Nat} {x : α} (h : t ≠ N) : ap f N x t = f t := by simp [ap, h]
theorem ap_lt {α : Type} {f : Nat → α} {N t : Nat} {x : α} (h : t < N) : ap f N x t = f t := ap_ne (by omega)
def BI (n : Nat) (ks : Nat → Nat) (B st N : Nat) (Qs par cb dp : Nat → Nat) : Prop :=
  (0 < N ∧ Qs 0 = st ∧ dp 0 = 0) ∧
  (∀ t, 0 < t → t < N → par t < t ∧ vm n ks B (Qs (par t)) (cb t) ∧ Qs t = tv ks (Qs (par t)) (cb t) ∧ dp t = dp (par t) + 1) ∧
  (∀ a b, a < N → b < N → Qs a = Qs b → a = b) ∧
  (∀ a b, a ≤ b → b < N → dp a ≤ dp b) ∧
  (∀ t, 0 < t → t < N → ∀ j c, (j < par t ∨ (j = par t ∧ c < cb t)) → vm n ks B (Qs j) c → ∃ t', t' < t ∧ Qs t' = tv ks (Qs j) c)
/-- what has been tried so far: all of the spots before the i-th, of the i-th the steps below c -/
def BN (n : Nat) (ks : Nat → Nat) (B N : Nat) (Qs dp : Nat → Nat) (i c : Nat) : Prop := ∀ j c', (j < i ∨ (j = i ∧ c' < c)) → j < N → dp j < 40 → vm n ks B (Qs j) c' → ∃ t', t' < N ∧ Qs t' = tv ks (Qs j) c'
def BP (N : Nat) (par : Nat → Nat) (i : Nat) : Prop := ∀ t, 0 < t → t < N → par t ≤ i
theorem BI_0 (n : Nat) (ks : Nat → Nat) (B st : Nat) (Qs par cb dp : Nat → Nat) (h1 : Qs 0 = st) (h2 : dp 0 = 0) : BI n ks B st 1 Qs par cb dp := by
  refine ⟨⟨by omega, h1, h2⟩, fun t h1 h2 => by omega, fun a b ha hb _ => by omega, fun a b ha hb => ?_, fun t h1 h2 => by omega⟩
  rw [show a = b by omega]
  exact Nat.le_refl _
theorem BI_in {n : Nat} {ks : Nat → Nat} {B st N : Nat} {Qs par cb dp : Nat → Nat} (hB : B ≤ 11) (h : BI n ks B st N Qs par cb dp) (h1 : st / 12 < n) (h2 : st % 12 ≤ B) : ∀ t, t < N → Qs t / 12 < n ∧ Qs t % 12 ≤ B := by
  intro t ht
  by_cases h0 : t = 0
  · subst h0
    rw [h.1.2.1]
    exact ⟨h1, h2⟩
  · obtain ⟨q1, q2, q3, q4⟩ := h.2.1 t (by omega) ht
    obtain ⟨e1, e2⟩ := tv_d hB q2.2.2
    rw [q3, e1, e2]
    exact q2.2
theorem BI_add {n : Nat} {ks : Nat → Nat} {B st N : Nat} {Qs par cb dp : Nat → Nat} {i c : Nat} (h : BI n ks B st N Qs par cb dp) (hi : i < N) (hd : dp i < 40) (hv : vm n ks B (Qs i) c) (hnew : ∀ t, t < N → Qs t ≠ tv ks (Qs i) c) (hN : BN n ks B N Qs dp i c) (hP : BP N par i) :
    BI n ks B st (N + 1) (ap Qs N (tv ks (Qs i) c)) (ap par N i) (ap cb N c) (ap dp N (dp i + 1)) := by
  obtain ⟨⟨a1, a2, a3⟩, b, cc, e, cov⟩ := h
  refine ⟨⟨by omega, by rw [ap_lt a1]; exact a2, by rw [ap_lt a1]; exact a3⟩, fun t h1 h2 => ?_, fun x y hx hy hxy => ?_, fun x y hx hy => ?_, fun t h1 h2 j c' hj hm => ?_⟩
  · by_cases ht : t = N
    · subst ht
      rw [ap_eq, ap_eq, ap_eq, ap_eq, ap_lt hi, ap_lt hi]
      exact ⟨hi, hv, rfl, rfl⟩
    · have ht' : t < N := by omega
      obtain ⟨q1, q2, q3, q4⟩ := b t h1 ht'
      rw [ap_lt ht', ap_lt ht', ap_lt ht', ap_lt ht', ap_lt (by omega), ap_lt (by omega)]
      exact ⟨q1, q2, q3, q4⟩
  · by_cases hxN : x = N <;> by_cases hyN : y = N
    · omega
    · subst hxN
      rw [ap_eq, ap_lt (by omega)] at hxy
      exact absurd hxy.symm (hnew y (by omega))
    · subst hyN
      rw [ap_eq, ap_lt (by omega)] at hxy
      exact absurd hxy (hnew x (by omega))
    · rw [ap_lt (by omega), ap_lt (by omega)] at hxy
      exact cc x y (by omega) (by omega) hxy
  · by_cases hyN : y = N
    · subst hyN
      rw [ap_eq]
      by_cases hxN : x = y
      · subst hxN
        rw [ap_eq]
        exact Nat.le_refl _
      · rw [ap_lt (by omega)]
        by_cases hx0 : x = 0
        · subst hx0; omega
        · obtain ⟨q1, q2, q3, q4⟩ := b x (by omega) (by omega)
          have := e (par x) i (hP x (by omega) (by omega)) hi
          omega
    · rw [ap_lt (by omega), ap_lt (by omega)]
      exact e x y hx (by omega)
  · by_cases ht : t = N
    · subst ht
      rw [ap_eq, ap_eq] at hj
      have hjt : j < t := by omega
      rw [ap_lt hjt] at hm ⊢
      have := e j i (by omega) hi
      obtain ⟨t', q1, q2⟩ := hN j c' hj hjt (by omega) hm
      exact ⟨t', q1, by rw [ap_lt q1]; exact q2⟩
    · have ht' : t < N := by omega
      obtain ⟨q1, -⟩ := b t h1 ht'
      rw [ap_lt ht', ap_lt ht'] at hj
      have hjt : j < N := by omega
      rw [ap_lt hjt] at hm ⊢
      obtain ⟨t', q1, q2⟩ := cov t h1 ht' j c' hj hm
      exact ⟨t', q1, by rw [ap_lt (by omega)]; exact q2⟩
theorem BN_add {n : Nat} {ks : Nat → Nat} {B N : Nat} {Qs dp : Nat → Nat} {i c v D : Nat} (hN : BN n ks B N Qs dp i c) (hi : i < N) (hv : v = tv ks (Qs i) c) : BN n ks B (N + 1) (ap Qs N v) (ap dp N D) i (c + 1) := by
  intro j c' hj hjN hd hm
  have hjN' : j < N := by omega
  rw [ap_lt hjN'] at hd hm ⊢
  by_cases e : j = i ∧ c' = c
  · obtain ⟨rfl, rfl⟩ := e
    exact ⟨N, by omega, by rw [ap_eq]; exact hv⟩
  · obtain ⟨t', q1, q2⟩ := hN j c' (by omega) hjN' hd hm
    exact ⟨t', by omega, by rw [ap_lt q1]; exact q2⟩
theorem BN_old {n : Nat} {ks : Nat → Nat} {B N : Nat} {Qs dp : Nat → Nat} {i c : Nat} (hN : BN n ks B N Qs dp i c) (h : vm n ks B (Qs i) c → ∃ t', t' < N ∧ Qs t' = tv ks (Qs i) c) : BN n ks B N Qs dp i (c + 1) := by
  intro j c' hj hjN hd hm
  by_cases e : j = i ∧ c' = c
  · obtain ⟨rfl, rfl⟩ := e
    exact h hm
  · exact hN j c' (by omega) hjN hd hm
/-- the i-th is through -/
theorem BN_next {n : Nat} {ks : Nat → Nat} {B N : Nat} {Qs dp : Nat → Nat} {i c : Nat} (hN : BN n ks B N Qs dp i c) (h : dp i < 40 → ∀ c', c ≤ c' → ¬ vm n ks B (Qs i) c') : BN n ks B N Qs dp (i + 1) 0 := by
  intro j c' hj hjN hd hm
  rcases Nat.lt_or_ge c' c with q | q
  · exact hN j c' (by omega) hjN hd hm
  · by_cases e : j = i
    · subst e
      exact absurd hm (h hd c' q)
    · exact hN j c' (by omega) hjN hd hm
/-- the way back from the last spot -/
def chn (par : Nat → Nat) (N : Nat) : Nat → Nat
  | 0 => N - 1
  | k + 1 => par (chn par N k)
section BFS
variable {n : Nat} {ks : Nat → Nat} {B st N : Nat} {Qs par cb dp : Nat → Nat}
theorem chn_dp (h : BI n ks B st N Qs par cb dp) : ∀ k, k ≤ dp (N - 1) → chn par N k < N ∧ dp (chn par N k) = dp (N - 1) - k
  | 0, _ => ⟨by have := h.1.1; simp only [chn]; omega, rfl⟩
  | k + 1, hk => by
    obtain ⟨q1, q2⟩ := chn_dp h k (by omega)
    have h0 : 0 < chn par N k := by
      rcases Nat.eq_zero_or_pos (chn par N k) with e | e
      · rw [e, h.1.2.2] at q2; omega
      · exact e
    obtain ⟨p1, p2, p3, p4⟩ := h.2.1 _ h0 q1
    simp only [chn]
    omega
theorem chn_pos (h : BI n ks B st N Qs par cb dp) {k : Nat} (hk : k < dp (N - 1)) : 0 < chn par N k := by
  obtain ⟨q1, q2⟩ := chn_dp h k (by omega)
  rcases Nat.eq_zero_or_pos (chn par N k) with e | e
  · rw [e, h.1.2.2] at q2; omega
  · exact e
theorem chn_end (h : BI n ks B st N Qs par cb dp) : Qs (chn par N (dp (N - 1))) = st := by
  obtain ⟨q1, q2⟩ := chn_dp h (dp (N - 1)) (Nat.le_refl _)
  have : chn par N (dp (N - 1)) = 0 := by
    rcases Nat.eq_zero_or_pos (chn par N (dp (N - 1))) with e | e
    · exact e
    · obtain ⟨p1, p2, p3, p4⟩ := h.2.1 _ e q1
      omega
  rw [this]
  exact h.1.2.1
/-- nothing that was found before the way's own spots leads to the end so quickly -/
theorem chn_no (h : BI n ks B st N Qs par cb dp) (hL : ∀ t, t < N - 1 → Qs t / 12 ≠ n - 1) : ∀ k, k ≤ dp (N - 1) → ∀ t, t < chn par N k → ¬ can n ks B k (Qs t)
  | 0, _, t, ht => fun q => hL t ht q
  | k + 1, hk, t, ht => by
    rintro ⟨c, hm, hc⟩
    obtain ⟨q1, q2⟩ := chn_dp h k (by omega)
    have h0 := chn_pos h (k := k) (by omega)
    obtain ⟨t', p1, p2⟩ := h.2.2.2.2 _ h0 q1 t c (Or.inl ht) hm
    rw [← p2] at hc
    exact chn_no h hL k (by omega) t' p1 hc
theorem chn_can (h : BI n ks B st N Qs par cb dp) (hE : Qs (N - 1) / 12 = n - 1) : ∀ k, k ≤ dp (N - 1) → can n ks B k (Qs (chn par N k))
  | 0, _ => hE
  | k + 1, hk => by
    obtain ⟨q1, q2⟩ := chn_dp h k (by omega)
    have h0 := chn_pos h (k := k) (by omega)
    obtain ⟨p1, p2, p3, p4⟩ := h.2.1 _ h0 q1
    exact ⟨cb (chn par N k), p2, by rw [show tv ks (Qs (chn par N (k + 1))) (cb (chn par N k)) = Qs (chn par N k) from p3.symm]; exact chn_can h hE k (by omega)⟩
theorem chn_fst (h : BI n ks B st N Qs par cb dp) (hE : Qs (N - 1) / 12 = n - 1) (hL : ∀ t, t < N - 1 → Qs t / 12 ≠ n - 1) {k : Nat} (hk : k + 1 ≤ dp (N - 1)) : fst1 n ks B k (Qs (chn par N (k + 1))) (cb (chn par N k)) ∧ tv ks (Qs (chn par N (k + 1))) (cb (chn par N k)) = Qs (chn par N k) := by
  obtain ⟨q1, q2⟩ := chn_dp h k (by omega)
  have h0 := chn_pos h (k := k) (by omega)
  obtain ⟨p1, p2, p3, p4⟩ := h.2.1 _ h0 q1
  refine ⟨⟨p2, ?_, fun c' hc' => ?_⟩, p3.symm⟩
  · rw [show tv ks (Qs (chn par N (k + 1))) (cb (chn par N k)) = Qs (chn par N k) from p3.symm]
    exact chn_can h hE k (by omega)
  · rintro ⟨hm, hc⟩
    obtain ⟨t', r1, r2⟩ := h.2.2.2.2 _ h0 q1 (par (chn par N k)) c' (Or.inr ⟨rfl, hc'⟩) hm
    rw [show tv ks (Qs (chn par N (k + 1))) c' = tv ks (Qs (par (chn par N k))) c' from rfl, ← r2] at hc
    exact chn_no h hL k (by omega) t' r1 hc
theorem chn_LWy (h : BI n ks B st N Qs par cb dp) (hE : Qs (N - 1) / 12 = n - 1) (hL : ∀ t, t < N - 1 → Qs t / 12 ≠ n - 1) : ∀ j k, j + 1 ≤ k → k ≤ dp (N - 1) → LWy n ks B k (Qs (chn par N k)) (j + 1) (cb (chn par N (k - (j + 1))))
  | _, 0, h1, _ => by omega
  | 0, k + 1, _, hk => (chn_fst h hE hL hk).1
  | j + 1, k + 1, h1, hk => by
    obtain ⟨a, b⟩ := chn_fst h hE hL hk
    refine ⟨_, a, ?_⟩
    rw [b, show k + 1 - (j + 1 + 1) = k - (j + 1) by omega]
    exact chn_LWy h hE hL j k (by omega) (by omega)
/-- found: so few, and by which steps -/
theorem bfs_yes (h : BI n ks B st N Qs par cb dp) (hE : Qs (N - 1) / 12 = n - 1) (hL : ∀ t, t < N - 1 → Qs t / 12 ≠ n - 1) : can n ks B (dp (N - 1)) st ∧ (∀ k, k < dp (N - 1) → ¬ can n ks B k st) ∧ ∀ j, 1 ≤ j → j ≤ dp (N - 1) → LWy n ks B (dp (N - 1)) st j (cb (chn par N (dp (N - 1) - j))) := by
  have e := chn_end h
  refine ⟨?_, fun k hk hc => ?_, fun j h1 h2 => ?_⟩
  · have := chn_can h hE _ (Nat.le_refl _)
    rw [e] at this
    exact this
  · rw [← h.1.2.1] at hc
    exact chn_no h hL k (by omega) 0 (chn_pos h hk) hc
  · obtain ⟨j', rfl⟩ : ∃ j', j = j' + 1 := ⟨j - 1, by omega⟩
    have := chn_LWy h hE hL j' _ h2 (Nat.le_refl _)
    rw [e] at this
    exact this
theorem bfs_dp (h : BI n ks B st N Qs par cb dp) {t t' c : Nat} (ht : t < N) (ht' : t' < N) (hm : vm n ks B (Qs t) c) (e : Qs t' = tv ks (Qs t) c) : dp t' ≤ dp t + 1 := by
  rcases Nat.lt_or_ge (dp t + 1) (dp t') with q | q
  · exfalso
    have h0 : 0 < t' := by
      rcases Nat.eq_zero_or_pos t' with e | e
      · rw [e, h.1.2.2] at q; omega
      · exact e
    obtain ⟨p1, p2, p3, p4⟩ := h.2.1 _ h0 ht'
    have hlt : t < par t' := by
      rcases Nat.lt_or_ge t (par t') with r | r
      · exact r
      · have := h.2.2.2.1 (par t') t r ht
        omega
    obtain ⟨t'', r1, r2⟩ := h.2.2.2.2 _ h0 ht' t c (Or.inl hlt) hm
    have := h.2.2.1 t'' t' (by omega) ht' (by rw [r2, e])
    omega
  · exact q
/-- nothing found -/
theorem bfs_no (h : BI n ks B st N Qs par cb dp) (hN : BN n ks B N Qs dp N 0) (hL : ∀ t, t < N → Qs t / 12 ≠ n - 1) : ∀ k t, t < N → dp t + k ≤ 40 → ¬ can n ks B k (Qs t)
  | 0, t, ht, _ => fun q => hL t ht q
  | k + 1, t, ht, hk => by
    rintro ⟨c, hm, hc⟩
    obtain ⟨t', p1, p2⟩ := hN t c (Or.inl ht) ht (by omega) hm
    rw [← p2] at hc
    have := bfs_dp h ht p1 hm p2
    exact bfs_no h hN hL k t' p1 (by omega) hc
theorem bfs_not (h : BI n ks B st N Qs par cb dp) (hN : BN n ks B N Qs dp N 0) (hL : ∀ t, t < N → Qs t / 12 ≠ n - 1) : ∀ k, k ≤ 40 → ¬ can n ks B k st := by
  intro k hk
  have := bfs_no h hN hL k 0 h.1.1 (by rw [h.1.2.2]; omega)
  rw [h.1.2.1] at this
  exact this
end BFS
/-- more things than places (began as a row of the kit's laws) -/
theorem fb_holes : ∀ (m n : Nat) (f : Nat → Nat), (∀ i, i < n → f i < m) → (∀ i j, i < j → j < n → f i ≠ f j) → n ≤ m := by
  intro m
  induction m with
  | zero =>
    intro n f h1 h2
    rcases Nat.eq_zero_or_pos n with e | e
    · omega
    · exact absurd (h1 0 e) (Nat.not_lt_zero _)
  | succ m ih =>
    intro n f h1 h2
    by_cases hx : ∃ i, i < n ∧ f i = m
    · obtain ⟨i0, hi0, e0⟩ := hx
      have := ih (n - 1) (fun i => f (if i < i0 then i else i + 1)) (fun i hi => ?_) (fun i j hij hj => ?_)
      · omega
      · have a : (if i < i0 then i else i + 1) < n := by split <;> omega
        have b := h1 _ a
        have c : f (if i < i0 then i else i + 1) ≠ m := by
          intro q
          rcases Nat.lt_trichotomy (if i < i0 then i else i + 1) i0 with z | z | z
          · exact h2 _ _ z hi0 (q.trans e0.symm)
          · split at z <;> omega
          · exact h2 _ _ z a (e0.trans q.symm)
        show f (if i < i0 then i else i + 1) < m
        omega
      · refine h2 _ _ ?_ ?_
        · split <;> split <;> omega
        · split <;> omega
    · refine Nat.le_succ_of_le (ih n f (fun i hi => ?_) h2)
      have a := h1 i hi
      have b : f i ≠ m := fun q => hx ⟨i, hi, q⟩
      omega
end
section
/-- a Route at r, with N spots found -/
def rtC (h : AH) (r N : Nat) (Qs par cb dp : Nat → Nat) (en : Int32) : Prop := h r = some (.inl (3, [.ref (r + 1), .ref (r + 2), .ref (r + 3), .ref (r + 4), .int (nI N), .int en])) ∧ ∃ q1 q2 q3 q4, h (r + 1) = some (.inr (0, 144, q1)) ∧ h (r + 2) = some (.inr (0, 144, q2)) ∧ h (r + 3) = some (.inr (0, 144, q3)) ∧ h (r + 4) = some (.inr (0, 144, q4)) ∧ (∀ t, t < N → q1 t = nI (Qs t) ∧ q2 (Qs t) = nI (dp t) ∧ (0 < t → q3 (Qs t) = nI (Qs (par t)) ∧ q4 (Qs t) = nI (cb t))) ∧ (∀ v, v < 144 → (∀ t, t < N → Qs t ≠ v) → q2 v = -1)
/-- a Route at r, whatever it holds -/
def rtA (h : AH) (r : Nat) : Prop := ∃ x y q1 q2 q3 q4, h r = some (.inl (3, [.ref (r + 1), .ref (r + 2), .ref (r + 3), .ref (r + 4), .int x, .int y])) ∧ h (r + 1) = some (.inr (0, 144, q1)) ∧ h (r + 2) = some (.inr (0, 144, q2)) ∧ h (r + 3) = some (.inr (0, 144, q3)) ∧ h (r + 4) = some (.inr (0, 144, q4))
theorem rtC_A {h : AH} {r N : Nat} {Qs par cb dp : Nat → Nat} {en : Int32} (g : rtC h r N Qs par cb dp en) : rtA h r := by
  obtain ⟨h1, q1, q2, q3, q4, a1, a2, a3, a4, -⟩ := g
  exact ⟨_, _, q1, q2, q3, q4, h1, a1, a2, a3, a4⟩
theorem rtA_fr {h h' : AH} {r lo hi : Nat} (g : rtA h r) (e : fr h h' lo hi) (ho : r + 5 ≤ lo ∨ hi ≤ r) : rtA h' r := by
  obtain ⟨x, y, q1, q2, q3, q4, h1, a1, a2, a3, a4⟩ := g
  exact ⟨x, y, q1, q2, q3, q4, (e _ (by omega)).trans h1, (e _ (by omega)).trans a1, (e _ (by omega)).trans a2, (e _ (by omega)).trans a3, (e _ (by omega)).trans a4⟩
theorem N143 {N v : Nat} {Qs : Nat → Nat} (hlt : ∀ t, t < N → Qs t < 144) (hinj : ∀ a b, a < N → b < N → Qs a = Qs b → a = b) (hv : v < 144) (hno : ∀ t, t < N → Qs t ≠ v) : N + 1 ≤ 144 := by
  refine fb_holes 144 (N + 1) (ap Qs N v) (fun t ht => ?_) (fun a b hab hb => ?_)
  · by_cases e : t = N
    · subst e; rw [ap_eq]; exact hv
    · rw [ap_lt (by omega)]; exact hlt t (by omega)
  · by_cases e : b = N
    · subst e; rw [ap_eq, ap_lt hab]; exact hno a hab
    · rw [ap_lt (by omega), ap_lt (by omega)]
      intro q
      have := hinj a b (by omega) (by omega) q
      omega
theorem m1n : ∀ v, v < 144 → ¬ nI v = -1 := by decide +kernel
theorem BI_144 {n : Nat} {ks : Nat → Nat} {B st N : Nat} {Qs par cb dp : Nat → Nat} (hB : B ≤ 11) (hn : n ≤ 12) (h : BI n ks B st N Qs par cb dp) (h1 : st / 12 < n) (h2 : st % 12 ≤ B) : N ≤ 144 ∧ ∀ t, t < N → Qs t < 144 := by
  have hin : ∀ t, t < N → Qs t < 144 := fun t ht => by
    have := BI_in hB h h1 h2 t ht
    omega
  refine ⟨fb_holes 144 N Qs hin (fun i j hij hj e => ?_), hin⟩
  have := h.2.2.1 i j (by omega) hj e
  omega
set_option maxRecDepth 100000 in
set_option maxHeartbeats 4000000 in
theorem c_isSpotY {h : AH} {K : Option Value → AH → Prop} (v : Nat) (hv : v < 144) (hK : K (some (.int 1)) h) : aX4_isSpot 0 [.int (nI v)] h K := by
  refine AM.of [some (.int (nI v))] pn_X4_isSpot rfl (Nat.le_of_ble_eq_true rfl) (fun X hX hE => ?_)
  refine AW_iload_n 1 hX dX4_isSpot_0 rfl rfl ?_
  refine AW_if_lt 4 15 hX dX4_isSpot_1 rfl (by decide) (fun c1 => absurd c1 (nI_pos (by omega))) (fun c1 => ?_)
  refine AW_iload_n 5 hX dX4_isSpot_4 rfl rfl ?_
  refine AW_sipush 8 hX dX4_isSpot_5 rfl sp_144 ?_
  refine AW_icmp_ge 11 15 hX dX4_isSpot_8 rfl (by decide) (fun c8 => absurd c8 (nI_ge (a := v) (b := 144) hv (by decide))) (fun c8 => ?_)
  refine AW_iconst 12 hX dX4_isSpot_11 rfl ic_1 ?_
  refine AW_goto 16 hX dX4_isSpot_12 (by decide) ?_
  refine AW_iret hX hE dX4_isSpot_16 rfl (Nat.le_refl _) (Nat.le_refl _) ?_
  exact hK
set_option maxRecDepth 100000 in
set_option maxHeartbeats 4000000 in
theorem c_isSpotN {h : AH} {K : Option Value → AH → Prop} (hK : K (some (.int 0)) h) : aX4_isSpot 0 [.int (-1)] h K := by
  refine AM.of [some (.int (-1))] pn_X4_isSpot rfl (Nat.le_of_ble_eq_true rfl) (fun X hX hE => ?_)
  refine AW_iload_n 1 hX dX4_isSpot_0 rfl rfl ?_
  refine AW_if_lt 4 15 hX dX4_isSpot_1 rfl (by decide) (fun c1 => ?_) (fun c1 => absurd (by decide) c1)
  refine AW_iconst 16 hX dX4_isSpot_15 rfl ic_0 ?_
  refine AW_iret hX hE dX4_isSpot_16 rfl (Nat.le_refl _) (Nat.le_refl _) ?_
  exact hK
set_option maxRecDepth 100000 in
set_option maxHeartbeats 4000000 in
theorem c_stepsOfY {h : AH} {K : Option Value → AH → Prop} {r N : Nat} {Qs par cb dp : Nat → Nat} {en : Int32} (hr : rtC h r N Qs par cb dp en) (t : Nat) (ht : t < N) (hv : Qs t < 144) (hK : K (some (.int (nI (dp t)))) h) : aX4_stepsOf 1 [.ref r, .int (nI (Qs t))] h K := by
  obtain ⟨ha, q1, q2, q3, q4, a1, a2, a3, a4, hq, hno⟩ := id hr
  refine AM.of [some (.ref r), some (.int (nI (Qs t)))] pn_X4_stepsOf rfl (Nat.le_of_ble_eq_true rfl) (fun X hX hE => ?_)
  refine AW_iload_n 1 hX dX4_stepsOf_0 rfl rfl ?_
  refine AW_cS (As := [_]) 4 hX dX4_stepsOf_1 rfl ml_X4_52 mw_X4_isSpot rfl rfl (Nat.le_of_ble_eq_true rfl) (by decide) ⟨(Nat.le_refl _), (Nat.le_refl _)⟩ (c_isSpotY _ hv ?_)
  refine AW_if_eq 7 16 hX dX4_stepsOf_4 rfl (by decide) (fun c4 => absurd c4 (by decide)) (fun c4 => ?_)
  refine AW_aload_n 8 hX dX4_stepsOf_7 rfl rfl ?_
  refine AW_get 11 hX dX4_stepsOf_8 rfl fl_X4_15 (by first | assumption | exact hset_eq | exact (hset_ne (by omega)).trans (by first | assumption | exact hset_eq | exact (hset_ne (by omega)).trans (by first | assumption | exact hset_eq | exact (hset_ne (by omega)).trans (by first | assumption | exact hset_eq | exact (hset_ne (by omega)).trans (by first | assumption | exact hset_eq))))) rfl ?_
  refine AW_iload_n 12 hX dX4_stepsOf_11 rfl rfl ?_
  refine AW_iald 13 hX dX4_stepsOf_12 rfl (by first | assumption | exact hset_eq | exact (hset_ne (by omega)).trans (by first | assumption | exact hset_eq | exact (hset_ne (by omega)).trans (by first | assumption | exact hset_eq | exact (hset_ne (by omega)).trans (by first | assumption | exact hset_eq | exact (hset_ne (by omega)).trans (by first | assumption | exact hset_eq))))) (j := Qs t) hv rfl ?_
  refine AW_goto 17 hX dX4_stepsOf_13 (by decide) ?_
  refine AW_iret hX hE dX4_stepsOf_17 rfl (Nat.le_refl _) (Nat.le_refl _) ?_
  rw [(hq t ht).2.1]
  exact hK
set_option maxRecDepth 100000 in
set_option maxHeartbeats 4000000 in
theorem c_stepsOfN {h : AH} {K : Option Value → AH → Prop} {r : Nat} (hK : K (some (.int (-1))) h) : aX4_stepsOf 1 [.ref r, .int (-1)] h K := by
  refine AM.of [some (.ref r), some (.int (-1))] pn_X4_stepsOf rfl (Nat.le_of_ble_eq_true rfl) (fun X hX hE => ?_)
  refine AW_iload_n 1 hX dX4_stepsOf_0 rfl rfl ?_
  refine AW_cS (As := [_]) 4 hX dX4_stepsOf_1 rfl ml_X4_52 mw_X4_isSpot rfl rfl (Nat.le_of_ble_eq_true rfl) (by decide) ⟨(Nat.le_refl _), (Nat.le_refl _)⟩ (c_isSpotN ?_)
  refine AW_if_eq 7 16 hX dX4_stepsOf_4 rfl (by decide) (fun c4 => ?_) (fun c4 => absurd rfl c4)
  refine AW_iconst 17 hX dX4_stepsOf_16 rfl ic_m1 ?_
  refine AW_iret hX hE dX4_stepsOf_17 rfl (Nat.le_refl _) (Nat.le_refl _) ?_
  exact hK
set_option maxRecDepth 100000 in
set_option maxHeartbeats 4000000 in
theorem stepsOf_any {h : AH} {K : Option Value → AH → Prop} {r N : Nat} {Qs par cb dp : Nat → Nat} {en : Int32} (hr : rtC h r N Qs par cb dp en) (x : Int32) (i D : Nat) (hlt : ∀ t, t < N → Qs t < 144) (hx0 : N = 0 → x = -1 ∧ D = 0) (hxi : 0 < N → i < N ∧ x = nI (Qs i) ∧ D = dp i + 1) (hK : K (some (.int (nI D - 1))) h) : aX4_stepsOf 1 [.ref r, .int x] h K := by
  by_cases e : N = 0
  · obtain ⟨e1, e2⟩ := hx0 e
    subst e1 e2
    exact c_stepsOfN hK
  · obtain ⟨e1, e2, e3⟩ := hxi (by omega)
    subst e2 e3
    rw [nI_pred] at hK
    exact c_stepsOfY hr i e1 (hlt i e1) hK
theorem i_m1p (x : Int32) : x - 1 + 1 = x := Int32.sub_add_cancel x 1
set_option maxRecDepth 100000 in
set_option maxHeartbeats 4000000 in
theorem c_reach {h : AH} {K : Option Value → AH → Prop} {r N : Nat} {Qs par cb dp : Nat → Nat} {en : Int32} (hr : rtC h r N Qs par cb dp en) (hinj : ∀ a b, a < N → b < N → Qs a = Qs b → a = b) (hlt : ∀ t, t < N → Qs t < 144) (hdp : ∀ t, t < N → dp t ≤ 40) (hpar : ∀ t, 0 < t → t < N → par t < N) (p s c last i D : Nat) (x : Int32) (hp : p < 12) (hs : s < 12) (hlast : last < 12) (hx0 : N = 0 → x = -1 ∧ D = 0) (hxi : 0 < N → i < N ∧ x = nI (Qs i) ∧ D = dp i + 1) (hold : ∀ t, t < N → Qs t = p * 12 + s → K none h) (hnew : ∀ h' : AH, (∀ t, t < N → Qs t ≠ p * 12 + s) → rtC h' r (N + 1) (ap Qs N (p * 12 + s)) (ap par N i) (ap cb N c) (ap dp N D) (if p = last then nI (p * 12 + s) else en) → fr h h' r (r + 5) → K none h') : aX4_reach 2 [.ref r, .int (nI p), .int (nI s), .int x, .int (nI c), .int (nI last)] h K := by
  obtain ⟨ha, q1, q2, q3, q4, a1, a2, a3, a4, hq, hno⟩ := id hr
  have hv : p * 12 + s < 144 := by omega
  have hdn : ∀ t, t < N → ¬ nI (dp t) = -1 := fun t ht => m1n _ (by have := hdp t ht; omega)
  have hN : N ≤ 144 := fb_holes 144 N Qs hlt (fun i j hij hj e => by have := hinj i j (by omega) hj e; omega)
  refine AM.of [some (.ref r), some (.int (nI p)), some (.int (nI s)), some (.int x), some (.int (nI c)), some (.int (nI last)), none] pn_X4_reach rfl (Nat.le_of_ble_eq_true rfl) (fun X hX hE => ?_)
  refine AW_iload_n 1 hX dX4_reach_0 rfl rfl ?_
  refine AW_bipush 3 hX dX4_reach_1 rfl bp_12 ?_
  refine AW_imul 4 hX dX4_reach_3 rfl ?_
  refine AW_iload_n 5 hX dX4_reach_4 rfl rfl ?_
  refine AW_iadd 6 hX dX4_reach_5 rfl ?_
  rw [show (12 : Int32) = nI 12 from rfl, pk_mul, nI_add]
  refine AW_istore 8 hX dX4_reach_6 rfl (Nat.le_of_ble_eq_true rfl) rfl ?_
  refine AW_iload 10 hX dX4_reach_8 rfl rfl ?_
  refine AW_cS (As := [_]) 13 hX dX4_reach_10 rfl ml_X4_52 mw_X4_isSpot rfl rfl (Nat.le_of_ble_eq_true rfl) (by decide) ⟨(Nat.le_refl _), (Nat.le_refl _)⟩ (c_isSpotY _ hv ?_)
  refine AW_if_eq 16 44 hX dX4_reach_13 rfl (by decide) (fun c13 => absurd c13 (by decide)) (fun c13 => ?_)
  refine AW_aload_n 17 hX dX4_reach_16 rfl rfl ?_
  refine AW_get 20 hX dX4_reach_17 rfl fl_X4_15 (by first | assumption | exact hset_eq | exact (hset_ne (by omega)).trans (by first | assumption | exact hset_eq | exact (hset_ne (by omega)).trans (by first | assumption | exact hset_eq | exact (hset_ne (by omega)).trans (by first | assumption | exact hset_eq | exact (hset_ne (by omega)).trans (by first | assumption | exact hset_eq))))) rfl ?_
  refine AW_iload 22 hX dX4_reach_20 rfl rfl ?_
  refine AW_iald 23 hX dX4_reach_22 rfl (by first | assumption | exact hset_eq | exact (hset_ne (by omega)).trans (by first | assumption | exact hset_eq | exact (hset_ne (by omega)).trans (by first | assumption | exact hset_eq | exact (hset_ne (by omega)).trans (by first | assumption | exact hset_eq | exact (hset_ne (by omega)).trans (by first | assumption | exact hset_eq))))) (j := p * 12 + s) hv rfl ?_
  refine AW_iconst 24 hX dX4_reach_23 rfl ic_m1 ?_
  refine AW_icmp_ne 27 44 hX dX4_reach_24 rfl (by decide) (fun c24 => ?_) (fun c24 => ?_)
  · refine AW_vret hX hE dX4_reach_44 (Nat.le_refl _) (Nat.le_refl _) ?_
    have hex : ∃ t, t < N ∧ Qs t = p * 12 + s := Classical.byContradiction fun hc => c24 (hno _ hv (fun t ht e => hc ⟨t, ht, e⟩))
    obtain ⟨t, ht, e⟩ := hex
    exact hold t ht e
  · refine AW_aload_n 28 hX dX4_reach_27 rfl rfl ?_
    refine AW_get 31 hX dX4_reach_28 rfl fl_X4_24 (by first | assumption | exact hset_eq | exact (hset_ne (by omega)).trans (by first | assumption | exact hset_eq | exact (hset_ne (by omega)).trans (by first | assumption | exact hset_eq | exact (hset_ne (by omega)).trans (by first | assumption | exact hset_eq | exact (hset_ne (by omega)).trans (by first | assumption | exact hset_eq))))) rfl ?_
    refine AW_if_lt 34 44 hX dX4_reach_31 rfl (by decide) (fun c31 => absurd c31 (nI_pos (by omega))) (fun c31 => ?_)
    refine AW_aload_n 35 hX dX4_reach_34 rfl rfl ?_
    refine AW_get 38 hX dX4_reach_35 rfl fl_X4_24 (by first | assumption | exact hset_eq | exact (hset_ne (by omega)).trans (by first | assumption | exact hset_eq | exact (hset_ne (by omega)).trans (by first | assumption | exact hset_eq | exact (hset_ne (by omega)).trans (by first | assumption | exact hset_eq | exact (hset_ne (by omega)).trans (by first | assumption | exact hset_eq))))) rfl ?_
    refine AW_sipush 41 hX dX4_reach_38 rfl sp_144 ?_
    refine AW_icmp_lt 44 45 hX dX4_reach_41 rfl (by decide) (fun c41 => ?_) (fun c41 => absurd (nI_lt (a := N) (b := 144) (N143 hlt hinj hv (fun t ht e => by have := (hq t ht).2.1; rw [e, c24] at this; exact absurd this.symm (hdn t ht))) (by decide)) c41)
    refine AW_aload_n 46 hX dX4_reach_45 rfl rfl ?_
    refine AW_get 49 hX dX4_reach_46 rfl fl_X4_15 (by first | assumption | exact hset_eq | exact (hset_ne (by omega)).trans (by first | assumption | exact hset_eq | exact (hset_ne (by omega)).trans (by first | assumption | exact hset_eq | exact (hset_ne (by omega)).trans (by first | assumption | exact hset_eq | exact (hset_ne (by omega)).trans (by first | assumption | exact hset_eq))))) rfl ?_
    refine AW_iload 51 hX dX4_reach_49 rfl rfl ?_
    refine AW_aload_n 52 hX dX4_reach_51 rfl rfl ?_
    refine AW_iload_n 53 hX dX4_reach_52 rfl rfl ?_
    refine AW_cV (As := [_]) 56 hX dX4_reach_53 rfl ml_X4_49 mw_X4_stepsOf (by first | assumption | exact hset_eq | exact (hset_ne (by omega)).trans (by first | assumption | exact hset_eq | exact (hset_ne (by omega)).trans (by first | assumption | exact hset_eq | exact (hset_ne (by omega)).trans (by first | assumption | exact hset_eq | exact (hset_ne (by omega)).trans (by first | assumption | exact hset_eq))))) (by decide) rfl rfl rfl (Nat.le_of_ble_eq_true rfl) (by decide) ⟨(Nat.le_refl _), (Nat.le_refl _)⟩ (stepsOf_any hr x i D hlt hx0 hxi ?_)
    refine AW_iconst 57 hX dX4_reach_56 rfl ic_1 ?_
    refine AW_iadd 58 hX dX4_reach_57 rfl ?_
    rw [i_m1p]
    refine AW_iast 59 hX dX4_reach_58 rfl (by first | assumption | exact hset_eq | exact (hset_ne (by omega)).trans (by first | assumption | exact hset_eq | exact (hset_ne (by omega)).trans (by first | assumption | exact hset_eq | exact (hset_ne (by omega)).trans (by first | assumption | exact hset_eq | exact (hset_ne (by omega)).trans (by first | assumption | exact hset_eq))))) (j := p * 12 + s) hv rfl ?_
    try rw [hset_hset]
    refine AW_aload_n 60 hX dX4_reach_59 rfl rfl ?_
    refine AW_get 63 hX dX4_reach_60 rfl fl_X4_18 (by first | assumption | exact hset_eq | exact (hset_ne (by omega)).trans (by first | assumption | exact hset_eq | exact (hset_ne (by omega)).trans (by first | assumption | exact hset_eq | exact (hset_ne (by omega)).trans (by first | assumption | exact hset_eq | exact (hset_ne (by omega)).trans (by first | assumption | exact hset_eq))))) rfl ?_
    refine AW_iload 65 hX dX4_reach_63 rfl rfl ?_
    refine AW_iload_n 66 hX dX4_reach_65 rfl rfl ?_
    refine AW_iast 67 hX dX4_reach_66 rfl (by first | assumption | exact hset_eq | exact (hset_ne (by omega)).trans (by first | assumption | exact hset_eq | exact (hset_ne (by omega)).trans (by first | assumption | exact hset_eq | exact (hset_ne (by omega)).trans (by first | assumption | exact hset_eq | exact (hset_ne (by omega)).trans (by first | assumption | exact hset_eq))))) (j := p * 12 + s) hv rfl ?_
    try rw [hset_hset]
    refine AW_aload_n 68 hX dX4_reach_67 rfl rfl ?_
    refine AW_get 71 hX dX4_reach_68 rfl fl_X4_21 (by first | assumption | exact hset_eq | exact (hset_ne (by omega)).trans (by first | assumption | exact hset_eq | exact (hset_ne (by omega)).trans (by first | assumption | exact hset_eq | exact (hset_ne (by omega)).trans (by first | assumption | exact hset_eq | exact (hset_ne (by omega)).trans (by first | assumption | exact hset_eq))))) rfl ?_
    refine AW_iload 73 hX dX4_reach_71 rfl rfl ?_
    refine AW_iload 75 hX dX4_reach_73 rfl rfl ?_
    refine AW_iast 76 hX dX4_reach_75 rfl (by first | assumption | exact hset_eq | exact (hset_ne (by omega)).trans (by first | assumption | exact hset_eq | exact (hset_ne (by omega)).trans (by first | assumption | exact hset_eq | exact (hset_ne (by omega)).trans (by first | assumption | exact hset_eq | exact (hset_ne (by omega)).trans (by first | assumption | exact hset_eq))))) (j := p * 12 + s) hv rfl ?_
    try rw [hset_hset]
    refine AW_aload_n 77 hX dX4_reach_76 rfl rfl ?_
    refine AW_get 80 hX dX4_reach_77 rfl fl_X4_11 (by first | assumption | exact hset_eq | exact (hset_ne (by omega)).trans (by first | assumption | exact hset_eq | exact (hset_ne (by omega)).trans (by first | assumption | exact hset_eq | exact (hset_ne (by omega)).trans (by first | assumption | exact hset_eq | exact (hset_ne (by omega)).trans (by first | assumption | exact hset_eq))))) rfl ?_
    refine AW_aload_n 81 hX dX4_reach_80 rfl rfl ?_
    refine AW_get 84 hX dX4_reach_81 rfl fl_X4_24 (by first | assumption | exact hset_eq | exact (hset_ne (by omega)).trans (by first | assumption | exact hset_eq | exact (hset_ne (by omega)).trans (by first | assumption | exact hset_eq | exact (hset_ne (by omega)).trans (by first | assumption | exact hset_eq | exact (hset_ne (by omega)).trans (by first | assumption | exact hset_eq))))) rfl ?_
    refine AW_iload 86 hX dX4_reach_84 rfl rfl ?_
    refine AW_iast 87 hX dX4_reach_86 rfl (by first | assumption | exact hset_eq | exact (hset_ne (by omega)).trans (by first | assumption | exact hset_eq | exact (hset_ne (by omega)).trans (by first | assumption | exact hset_eq | exact (hset_ne (by omega)).trans (by first | assumption | exact hset_eq | exact (hset_ne (by omega)).trans (by first | assumption | exact hset_eq))))) (j := N) (by have := iLt (b := 144) c41; omega) rfl ?_
    try rw [hset_hset]
    refine AW_aload_n 88 hX dX4_reach_87 rfl rfl ?_
    refine AW_dup 89 hX dX4_reach_88 rfl rfl ?_
    refine AW_get 92 hX dX4_reach_89 rfl fl_X4_24 (by first | assumption | exact hset_eq | exact (hset_ne (by omega)).trans (by first | assumption | exact hset_eq | exact (hset_ne (by omega)).trans (by first | assumption | exact hset_eq | exact (hset_ne (by omega)).trans (by first | assumption | exact hset_eq | exact (hset_ne (by omega)).trans (by first | assumption | exact hset_eq))))) rfl ?_
    refine AW_iconst 93 hX dX4_reach_92 rfl ic_1 ?_
    refine AW_iadd 94 hX dX4_reach_93 rfl ?_
    refine AW_put 97 hX dX4_reach_94 rfl fl_X4_24 (by first | assumption | exact hset_eq | exact (hset_ne (by omega)).trans (by first | assumption | exact hset_eq | exact (hset_ne (by omega)).trans (by first | assumption | exact hset_eq | exact (hset_ne (by omega)).trans (by first | assumption | exact hset_eq | exact (hset_ne (by omega)).trans (by first | assumption | exact hset_eq))))) rfl (fun _ => rfl) (fun _ => rfl) (Nat.le_of_ble_eq_true rfl) ?_
    try rw [hset_hset]
    refine AW_iload_n 98 hX dX4_reach_97 rfl rfl ?_
    refine AW_iload 100 hX dX4_reach_98 rfl rfl ?_
    refine AW_icmp_ne 103 109 hX dX4_reach_100 rfl (by decide) (fun c100 => ?_) (fun c100 => ?_)
    · refine AW_vret hX hE dX4_reach_109 (Nat.le_refl _) (Nat.le_refl _) ?_
      have hno2 : ∀ t, t < N → Qs t ≠ p * 12 + s := fun t ht e => by
        have := (hq t ht).2.1
        rw [e, c24] at this
        exact absurd this.symm (hdn t ht)
      have hpl : ¬ p = last := fun e => c100 (by rw [e])
      refine hnew _ hno2 ⟨?_, upd q1 N (nI (p * 12 + s)), upd q2 (p * 12 + s) (nI D), upd q3 (p * 12 + s) x, upd q4 (p * 12 + s) (nI c), ?_, ?_, ?_, ?_, fun t ht => ?_, fun v hv hvn => ?_⟩ ?_
      · rw [hset_eq, nI_1]
        simp only [if_neg hpl]
        rfl
      · rw [hset_ne (by omega)]; exact hset_eq
      · rw [hset_ne (by omega), hset_ne (by omega), hset_ne (by omega), hset_ne (by omega)]; exact hset_eq
      · rw [hset_ne (by omega), hset_ne (by omega), hset_ne (by omega)]; exact hset_eq
      · rw [hset_ne (by omega), hset_ne (by omega)]; exact hset_eq
      · by_cases e : t = N
        · subst e
          rw [ap_eq, ap_eq, ap_eq, ap_eq, pk_us, pk_us, pk_us, pk_us]
          refine ⟨rfl, rfl, fun h0 => ⟨?_, rfl⟩⟩
          rw [ap_lt (hxi h0).1]
          exact (hxi h0).2.1
        · have htN : t < N := by omega
          obtain ⟨g1, g2, g3⟩ := hq t htN
          rw [ap_lt htN, ap_lt htN, ap_lt htN, ap_lt htN, pk_un e, pk_un (hno2 t htN), pk_un (hno2 t htN), pk_un (hno2 t htN)]
          refine ⟨g1, g2, fun h0 => ?_⟩
          rw [ap_lt (hpar t h0 htN)]
          exact g3 h0
      · rw [pk_un (fun e => hvn N (by omega) (by rw [ap_eq, e]))]
        exact hno v hv (fun t ht e => hvn t (by omega) (by rw [ap_lt ht]; exact e))
      · exact fr_tr (fr_tr (fr_tr (fr_tr (fr_set (by omega) (by omega)) (fr_set (by omega) (by omega))) (fr_set (by omega) (by omega))) (fr_set (by omega) (by omega))) (fr_set (by omega) (by omega))
    · refine AW_aload_n 104 hX dX4_reach_103 rfl rfl ?_
      refine AW_iload 106 hX dX4_reach_104 rfl rfl ?_
      refine AW_put 109 hX dX4_reach_106 rfl fl_X4_28 (by first | assumption | exact hset_eq | exact (hset_ne (by omega)).trans (by first | assumption | exact hset_eq | exact (hset_ne (by omega)).trans (by first | assumption | exact hset_eq | exact (hset_ne (by omega)).trans (by first | assumption | exact hset_eq | exact (hset_ne (by omega)).trans (by first | assumption | exact hset_eq))))) rfl (fun _ => rfl) (fun _ => rfl) (Nat.le_of_ble_eq_true rfl) ?_
      try rw [hset_hset]
      refine AW_vret hX hE dX4_reach_109 (Nat.le_refl _) (Nat.le_refl _) ?_
      have hno2 : ∀ t, t < N → Qs t ≠ p * 12 + s := fun t ht e => by
        have := (hq t ht).2.1
        rw [e, c24] at this
        exact absurd this.symm (hdn t ht)
      have hpl : p = last := iEq c100
      refine hnew _ hno2 ⟨?_, upd q1 N (nI (p * 12 + s)), upd q2 (p * 12 + s) (nI D), upd q3 (p * 12 + s) x, upd q4 (p * 12 + s) (nI c), ?_, ?_, ?_, ?_, fun t ht => ?_, fun v hv hvn => ?_⟩ ?_
      · rw [hset_eq, nI_1]
        simp only [if_pos hpl]
        rfl
      · rw [hset_ne (by omega)]; exact hset_eq
      · rw [hset_ne (by omega), hset_ne (by omega), hset_ne (by omega), hset_ne (by omega)]; exact hset_eq
      · rw [hset_ne (by omega), hset_ne (by omega), hset_ne (by omega)]; exact hset_eq
      · rw [hset_ne (by omega), hset_ne (by omega)]; exact hset_eq
      · by_cases e : t = N
        · subst e
          rw [ap_eq, ap_eq, ap_eq, ap_eq, pk_us, pk_us, pk_us, pk_us]
          refine ⟨rfl, rfl, fun h0 => ⟨?_, rfl⟩⟩
          rw [ap_lt (hxi h0).1]
          exact (hxi h0).2.1
        · have htN : t < N := by omega
          obtain ⟨g1, g2, g3⟩ := hq t htN
          rw [ap_lt htN, ap_lt htN, ap_lt htN, ap_lt htN, pk_un e, pk_un (hno2 t htN), pk_un (hno2 t htN), pk_un (hno2 t htN)]
          refine ⟨g1, g2, fun h0 => ?_⟩
          rw [ap_lt (hpar t h0 htN)]
          exact g3 h0
      · rw [pk_un (fun e => hvn N (by omega) (by rw [ap_eq, e]))]
        exact hno v hv (fun t ht e => hvn t (by omega) (by rw [ap_lt ht]; exact e))
      · exact fr_tr (fr_tr (fr_tr (fr_tr (fr_set (by omega) (by omega)) (fr_set (by omega) (by omega))) (fr_set (by omega) (by omega))) (fr_set (by omega) (by omega))) (fr_set (by omega) (by omega))
set_option maxRecDepth 100000 in
set_option maxHeartbeats 4000000 in
theorem c_goOn {h : AH} {K : Option Value → AH → Prop} {r N : Nat} {Qs par cb dp : Nat → Nat} (hr : rtC h r N Qs par cb dp (-1)) {a n : Nat} {f : Nat → Int32} {ks : Nat → Nat} (gg : gr h a n f) (hks : ∀ j, j < n → f j = nI (ks j)) (hk4 : ∀ j, j < n → ks j ≤ 4) (hab : a + 2 ≤ r ∨ r + 5 ≤ a) {B st : Nat} (hB : B ≤ 11) (hI : BI n ks B st N Qs par cb dp) (hs1 : st / 12 < n) (hs2 : st % 12 ≤ B) (hd40 : ∀ t, t < N → dp t ≤ 40) (i : Nat) (hi : i < N) (hN : BN n ks B N Qs dp i 0) (hP : BP N par i) (hL : ∀ t, t < N → Qs t / 12 ≠ n - 1) (h0 : ∀ (h' : AH) (N' : Nat) (Qs' par' cb' dp' : Nat → Nat), rtC h' r N' Qs' par' cb' dp' (-1) → BI n ks B st N' Qs' par' cb' dp' → (∀ t, t < N' → dp' t ≤ 40) → i < N' → BN n ks B N' Qs' dp' (i + 1) 0 → BP N' par' i → (∀ t, t < N' → Qs' t / 12 ≠ n - 1) → fr h h' r (r + 5) → K none h') (h1 : ∀ (h' : AH) (N' : Nat) (Qs' par' cb' dp' : Nat → Nat), rtC h' r N' Qs' par' cb' dp' (nI (Qs' (N' - 1))) → BI n ks B st N' Qs' par' cb' dp' → (∀ t, t < N' → dp' t ≤ 40) → Qs' (N' - 1) / 12 = n - 1 → (∀ t, t < N' - 1 → Qs' t / 12 ≠ n - 1) → fr h h' r (r + 5) → K none h') : aX4_goOn 3 [.ref r, .ref a, .int (nI B), .int (nI (Qs i)), .int (nI (n - 1))] h K := by
  have hn12 := gg.2.2
  obtain ⟨hN144, hlt⟩ := BI_144 hB hn12 hI hs1 hs2
  obtain ⟨hui, hus⟩ := BI_in hB hI hs1 hs2 i hi
  have hra := hr.1
  refine AM.of [some (.ref r), some (.ref a), some (.int (nI B)), some (.int (nI (Qs i))), some (.int (nI (n - 1))), none, none, none, none] pn_X4_goOn rfl (Nat.le_of_ble_eq_true rfl) (fun X hX hE => ?_)
  generalize hu : Qs i = u at *
  have ended : ∀ (h' : AH) (x e : Int32) (c : Nat) (z : Option Value), h' r = some (.inl (3, [.ref (r + 1), .ref (r + 2), .ref (r + 3), .ref (r + 4), .int x, .int e])) → ¬ e = -1 → K none h' → AW X 0 0 26 [some (.ref r), some (.ref a), some (.int (nI B)), some (.int (nI u)), some (.int (nI (n - 1))), some (.int (nI (u / 12))), some (.int (nI (u % 12))), some (.int (nI c)), z] [] h' := by
    intro h' x e c z hrr hne hK
    refine AW_iload 28 hX dX4_goOn_26 rfl rfl ?_
    refine AW_iconst 29 hX dX4_goOn_28 rfl ic_3 ?_
    refine AW_icmp_gt 32 96 hX dX4_goOn_29 rfl (by decide) (fun c29 => ?_) (fun c29 => ?_)
    · refine AW_vret hX hE dX4_goOn_96 (Nat.le_refl _) (Nat.le_refl _) ?_
      exact hK
    · refine AW_iload 34 hX dX4_goOn_32 rfl rfl ?_
      refine AW_iload 36 hX dX4_goOn_34 rfl rfl ?_
      refine AW_iadd 37 hX dX4_goOn_36 rfl ?_
      refine AW_iload 39 hX dX4_goOn_37 rfl rfl ?_
      refine AW_icmp_gt 42 96 hX dX4_goOn_39 rfl (by decide) (fun c39 => ?_) (fun c39 => ?_)
      · refine AW_vret hX hE dX4_goOn_96 (Nat.le_refl _) (Nat.le_refl _) ?_
        exact hK
      · refine AW_aload_n 43 hX dX4_goOn_42 rfl rfl ?_
        refine AW_get 46 hX dX4_goOn_43 rfl fl_X4_28 (by first | assumption | exact hset_eq | exact (hset_ne (by omega)).trans (by first | assumption | exact hset_eq | exact (hset_ne (by omega)).trans (by first | assumption | exact hset_eq | exact (hset_ne (by omega)).trans (by first | assumption | exact hset_eq | exact (hset_ne (by omega)).trans (by first | assumption | exact hset_eq))))) rfl ?_
        refine AW_iconst 47 hX dX4_goOn_46 rfl ic_m1 ?_
        refine AW_icmp_ne 50 96 hX dX4_goOn_47 rfl (by decide) (fun c47 => ?_) (fun c47 => absurd c47 hne)
        refine AW_vret hX hE dX4_goOn_96 (Nat.le_refl _) (Nat.le_refl _) ?_
        exact hK
  have loop : ∀ d c, c + d = 4 → ∀ (h' : AH) (N' : Nat) (Qs' par' cb' dp' : Nat → Nat) (z : Option Value), rtC h' r N' Qs' par' cb' dp' (-1) → BI n ks B st N' Qs' par' cb' dp' → (∀ t, t < N' → dp' t ≤ 40) → i < N' → Qs' i = u → dp' i < 40 → BN n ks B N' Qs' dp' i c → BP N' par' i → (∀ t, t < N' → Qs' t / 12 ≠ n - 1) → fr h h' r (r + 5) → AW X 0 0 26 [some (.ref r), some (.ref a), some (.int (nI B)), some (.int (nI u)), some (.int (nI (n - 1))), some (.int (nI (u / 12))), some (.int (nI (u % 12))), some (.int (nI c)), z] [] h' := by
    intro d
    induction d with
    | zero =>
      intro c hc h' N' Qs' par' cb' dp' z hr' hI' hd' hi' hu' hdi' hN' hP' hL' hfr
      refine AW_iload 28 hX dX4_goOn_26 rfl rfl ?_
      refine AW_iconst 29 hX dX4_goOn_28 rfl ic_3 ?_
      refine AW_icmp_gt 32 96 hX dX4_goOn_29 rfl (by decide) (fun c29 => ?_) (fun c29 => absurd (nI_lt (a := 3) (b := c) (by omega) (by omega)) c29)
      refine AW_vret hX hE dX4_goOn_96 (Nat.le_refl _) (Nat.le_refl _) ?_
      exact h0 h' N' Qs' par' cb' dp' hr' hI' hd' hi' (BN_next hN' (fun _ c' hc' hm => by have := hm.1; omega)) hP' hL' hfr
    | succ d ih =>
      intro c hc h' N' Qs' par' cb' dp' z hr' hI' hd' hi' hu' hdi' hN' hP' hL' hfr
      have hra' := hr'.1
      have gg' := gr_fr gg hfr (by omega)
      have hga' := gg'.1
      obtain ⟨hN144', hlt'⟩ := BI_144 hB hn12 hI' hs1 hs2
      refine AW_iload 28 hX dX4_goOn_26 rfl rfl ?_
      refine AW_iconst 29 hX dX4_goOn_28 rfl ic_3 ?_
      refine AW_icmp_gt 32 96 hX dX4_goOn_29 rfl (by decide) (fun c29 => absurd c29 (nI_nlt (a := 3) (b := c) (by omega) (by omega))) (fun c29 => ?_)
      refine AW_iload 34 hX dX4_goOn_32 rfl rfl ?_
      refine AW_iload 36 hX dX4_goOn_34 rfl rfl ?_
      refine AW_iadd 37 hX dX4_goOn_36 rfl ?_
      refine AW_iload 39 hX dX4_goOn_37 rfl rfl ?_
      rw [nI_add]
      refine AW_icmp_gt 42 96 hX dX4_goOn_39 rfl (by decide) (fun c39 => ?_) (fun c39 => ?_)
      · refine AW_vret hX hE dX4_goOn_96 (Nat.le_refl _) (Nat.le_refl _) ?_
        have hpl := iLt c39
        exact h0 h' N' Qs' par' cb' dp' hr' hI' hd' hi' (BN_next hN' (fun _ c' hc' hm => by have := hm.2.1; rw [hu'] at this; omega)) hP' hL' hfr
      · refine AW_aload_n 43 hX dX4_goOn_42 rfl rfl ?_
        refine AW_get 46 hX dX4_goOn_43 rfl fl_X4_28 (by first | assumption | exact hset_eq | exact (hset_ne (by omega)).trans (by first | assumption | exact hset_eq | exact (hset_ne (by omega)).trans (by first | assumption | exact hset_eq | exact (hset_ne (by omega)).trans (by first | assumption | exact hset_eq | exact (hset_ne (by omega)).trans (by first | assumption | exact hset_eq))))) rfl ?_
        refine AW_iconst 47 hX dX4_goOn_46 rfl ic_m1 ?_
        refine AW_icmp_ne 50 96 hX dX4_goOn_47 rfl (by decide) (fun c47 => absurd rfl c47) (fun c47 => ?_)
        refine AW_aload_n 51 hX dX4_goOn_50 rfl rfl ?_
        refine AW_iload 53 hX dX4_goOn_51 rfl rfl ?_
        refine AW_iload 55 hX dX4_goOn_53 rfl rfl ?_
        refine AW_iadd 56 hX dX4_goOn_55 rfl ?_
        rw [nI_add]
        refine AW_cV (As := [_]) 59 hX dX4_goOn_56 rfl ml_X4_56 mw_X0_kindAt (by first | assumption | exact hset_eq | exact (hset_ne (by omega)).trans (by first | assumption | exact hset_eq | exact (hset_ne (by omega)).trans (by first | assumption | exact hset_eq | exact (hset_ne (by omega)).trans (by first | assumption | exact hset_eq | exact (hset_ne (by omega)).trans (by first | assumption | exact hset_eq))))) (by decide) rfl rfl rfl (Nat.le_of_ble_eq_true rfl) (by decide) ⟨(Nat.le_refl _), (Nat.le_refl _)⟩ (c_kindAt gg' (by have := iNlt c39; omega) ?_)
        rw [hks _ (by have := iNlt c39; omega)]
        refine AW_iload 61 hX dX4_goOn_59 rfl rfl ?_
        refine AW_iload 63 hX dX4_goOn_61 rfl rfl ?_
        refine AW_cS (As := [_, _, _]) 66 hX dX4_goOn_63 rfl ml_X4_59 mw_X2_swayAfter rfl rfl (Nat.le_of_ble_eq_true rfl) (by decide) ⟨(Nat.le_refl _), (Nat.le_refl _)⟩ (c_swayAfter _ (u % 12) c (hk4 _ (by have := iNlt c39; omega)) (by omega) (by omega) ?_)
        refine AW_istore 68 hX dX4_goOn_66 rfl (Nat.le_of_ble_eq_true rfl) rfl ?_
        refine AW_iload 70 hX dX4_goOn_68 rfl rfl ?_
        refine AW_iload_n 71 hX dX4_goOn_70 rfl rfl ?_
        have hpl : u / 12 + c ≤ n - 1 := iNlt c39
        have hsa := sa_le (k := ks (u / 12 + c)) (s := u % 12) (far := c) (by omega)
        have htve : (u / 12 + c) * 12 + sa (ks (u / 12 + c)) (u % 12) c = tv ks u c := by simp only [tv]; omega
        refine AW_icmp_gt 74 90 hX dX4_goOn_71 rfl (by decide) (fun c71 => ?_) (fun c71 => ?_)
        · refine AW_iinc 93 hX dX4_goOn_90 rfl rfl (iincp ic_1) (Nat.le_of_ble_eq_true rfl) rfl ?_
          refine AW_goto 26 hX dX4_goOn_93 (by decide) ?_
          rw [nI_1]
          have hgt := iLt c71
          exact ih (c + 1) (by omega) h' N' Qs' par' cb' dp' _ hr' hI' hd' hi' hu' hdi' (BN_old hN' (fun hm => by have := hm.2.2; rw [hu'] at this; omega)) hP' hL' hfr
        · refine AW_aload_n 75 hX dX4_goOn_74 rfl rfl ?_
          refine AW_iload 77 hX dX4_goOn_75 rfl rfl ?_
          refine AW_iload 79 hX dX4_goOn_77 rfl rfl ?_
          refine AW_iadd 80 hX dX4_goOn_79 rfl ?_
          rw [nI_add]
          refine AW_iload 82 hX dX4_goOn_80 rfl rfl ?_
          refine AW_iload_n 83 hX dX4_goOn_82 rfl rfl ?_
          refine AW_iload 85 hX dX4_goOn_83 rfl rfl ?_
          refine AW_iload 87 hX dX4_goOn_85 rfl rfl ?_
          refine AW_cV (As := [_, _, _, _, _]) 90 hX dX4_goOn_87 rfl ml_X4_37 mw_X4_reach (by first | assumption | exact hset_eq | exact (hset_ne (by omega)).trans (by first | assumption | exact hset_eq | exact (hset_ne (by omega)).trans (by first | assumption | exact hset_eq | exact (hset_ne (by omega)).trans (by first | assumption | exact hset_eq | exact (hset_ne (by omega)).trans (by first | assumption | exact hset_eq))))) (by decide) rfl rfl rfl (Nat.le_of_ble_eq_true rfl) (by decide) ⟨(Nat.le_refl _), (Nat.le_refl _)⟩ (c_reach hr' hI'.2.2.1 hlt' hd' (fun t h0 ht => by have := (hI'.2.1 t h0 ht).1; omega) (u / 12 + c) _ c (n - 1) i (dp' i + 1) _ (by omega) (by have := iNlt c71; omega) (by omega) (fun e => by omega) (fun _ => ⟨hi', by rw [hu'], rfl⟩) (fun t ht e => ?_) (fun h2 hnew hr2 hfr2 => ?_))
          · refine AW_iinc 93 hX dX4_goOn_90 rfl rfl (iincp ic_1) (Nat.le_of_ble_eq_true rfl) rfl ?_
            refine AW_goto 26 hX dX4_goOn_93 (by decide) ?_
            rw [nI_1]
            exact ih (c + 1) (by omega) h' N' Qs' par' cb' dp' _ hr' hI' hd' hi' hu' hdi' (BN_old hN' (fun hm => ⟨t, ht, by rw [hu', ← htve]; exact e⟩)) hP' hL' hfr
          · have hm : vm n ks B u c := ⟨by omega, by omega, iNlt c71⟩
            rw [htve] at hnew hr2
            have hI2 := BI_add (i := i) (c := c) hI' hi' hdi' (by rw [hu']; exact hm) (by rw [hu']; exact hnew) hN' hP'
            rw [hu'] at hI2
            have hd2 : ∀ t, t < N' + 1 → ap dp' N' (dp' i + 1) t ≤ 40 := fun t ht => by
              by_cases e : t = N'
              · subst e; rw [ap_eq]; omega
              · rw [ap_lt (by omega)]; exact hd' t (by omega)
            have htd := (tv_d (ks := ks) (u := u) (c := c) hB hm.2.2).1
            refine AW_iinc 93 hX dX4_goOn_90 rfl rfl (iincp ic_1) (Nat.le_of_ble_eq_true rfl) rfl ?_
            refine AW_goto 26 hX dX4_goOn_93 (by decide) ?_
            rw [nI_1]
            by_cases hpe : u / 12 + c = n - 1
            · rw [if_pos hpe] at hr2
              refine ended h2 _ _ (c + 1) _ hr2.1 (m1n _ (by have := hm.2.2; rw [← htve]; omega)) ?_
              refine h1 h2 (N' + 1) _ _ _ _ ?_ hI2 hd2 ?_ (fun t ht => ?_) (fr_tr hfr hfr2)
              · rw [show N' + 1 - 1 = N' by omega, ap_eq]
                exact hr2
              · rw [show N' + 1 - 1 = N' by omega, ap_eq, htd]
                exact hpe
              · rw [ap_lt (by omega)]
                exact hL' t (by omega)
            · rw [if_neg hpe] at hr2
              refine ih (c + 1) (by omega) h2 (N' + 1) _ _ _ _ _ hr2 hI2 hd2 (by omega) (by rw [ap_lt hi']; exact hu') (by rw [ap_lt hi']; exact hdi') (BN_add hN' hi' (by rw [hu'])) (fun t h3 h4 => ?_) (fun t ht => ?_) (fr_tr hfr hfr2)
              · by_cases e : t = N'
                · subst e; rw [ap_eq]; exact Nat.le_refl _
                · rw [ap_lt (by omega)]; exact hP' t h3 (by omega)
              · by_cases e : t = N'
                · subst e; rw [ap_eq, htd]; exact hpe
                · rw [ap_lt (by omega)]; exact hL' t (by omega)
  refine AW_aload_n 1 hX dX4_goOn_0 rfl rfl ?_
  refine AW_iload_n 2 hX dX4_goOn_1 rfl rfl ?_
  refine AW_cV (As := [_]) 5 hX dX4_goOn_2 rfl ml_X4_49 mw_X4_stepsOf (by first | assumption | exact hset_eq | exact (hset_ne (by omega)).trans (by first | assumption | exact hset_eq | exact (hset_ne (by omega)).trans (by first | assumption | exact hset_eq | exact (hset_ne (by omega)).trans (by first | assumption | exact hset_eq | exact (hset_ne (by omega)).trans (by first | assumption | exact hset_eq))))) (by decide) rfl rfl rfl (Nat.le_of_ble_eq_true rfl) (by decide) ⟨(Nat.le_refl _), (Nat.le_refl _)⟩ (hu ▸ c_stepsOfY hr i hi (hlt i hi) ?_)
  refine AW_bipush 7 hX dX4_goOn_5 rfl bp_40 ?_
  refine AW_icmp_lt 10 11 hX dX4_goOn_7 rfl (by decide) (fun c7 => ?_) (fun c7 => ?_)
  · refine AW_iload_n 12 hX dX4_goOn_11 rfl rfl ?_
    refine AW_bipush 14 hX dX4_goOn_12 rfl bp_12 ?_
    refine AW_idiv 15 hX dX4_goOn_14 rfl (by decide) ?_
    rw [show (12 : Int32) = nI 12 from rfl, pk_div (by have := hlt i hi; omega) (by decide) (by decide)]
    refine AW_istore 17 hX dX4_goOn_15 rfl (Nat.le_of_ble_eq_true rfl) rfl ?_
    refine AW_iload_n 18 hX dX4_goOn_17 rfl rfl ?_
    refine AW_bipush 20 hX dX4_goOn_18 rfl bp_12 ?_
    refine AW_irem 21 hX dX4_goOn_20 rfl (by decide) ?_
    rw [show (12 : Int32) = nI 12 from rfl, pk_rem (by have := hlt i hi; omega) (by decide) (by decide)]
    refine AW_istore 23 hX dX4_goOn_21 rfl (Nat.le_of_ble_eq_true rfl) rfl ?_
    refine AW_iconst 24 hX dX4_goOn_23 rfl ic_0 ?_
    refine AW_istore 26 hX dX4_goOn_24 rfl (Nat.le_of_ble_eq_true rfl) rfl ?_
    exact loop 4 0 (by omega) h N Qs par cb dp none hr hI hd40 hi hu (iLt (b := 40) c7 (by have := hd40 i hi; omega)) hN hP hL (fr_rf _ _ _)
  · refine AW_vret hX hE dX4_goOn_10 (Nat.le_refl _) (Nat.le_refl _) ?_
    have hge := iNlt (b := 40) c7 (by have := hd40 i hi; omega)
    exact h0 h N Qs par cb dp hr hI hd40 hi (BN_next hN (fun hlt2 => by omega)) hP hL (fr_rf _ _ _)
set_option maxRecDepth 100000 in
set_option maxHeartbeats 4000000 in
theorem c_fewest {h : AH} {K : Option Value → AH → Prop} {r : Nat} (hr : rtA h r) {a n : Nat} {f : Nat → Int32} {ks : Nat → Nat} (gg : gr h a n f) (hks : ∀ j, j < n → f j = nI (ks j)) (hk4 : ∀ j, j < n → ks j ≤ 4) (hab : a + 2 ≤ r ∨ r + 5 ≤ a) (hn : 0 < n) (ht p s : Nat) (hh1 : 1 ≤ ht) (hh9 : ht ≤ 12) (hp : p < n) (hs : s ≤ 12 - ht) (h1 : ∀ (h' : AH) (N : Nat) (Qs par cb dp : Nat → Nat), rtC h' r N Qs par cb dp (nI (Qs (N - 1))) → BI n ks (12 - ht) (12 * p + s) N Qs par cb dp → (∀ t, t < N → dp t ≤ 40) → (∀ t, t < N → Qs t < 144) → Qs (N - 1) / 12 = n - 1 → (∀ t, t < N - 1 → Qs t / 12 ≠ n - 1) → fr h h' r (r + 5) → K (some (.int (nI (dp (N - 1))))) h') (h0 : ∀ (h' : AH) (N : Nat) (Qs par cb dp : Nat → Nat), rtC h' r N Qs par cb dp (-1) → (∀ k, k ≤ 40 → ¬ can n ks (12 - ht) k (12 * p + s)) → fr h h' r (r + 5) → K (some (.int (-1))) h') : aX4_fewest 4 [.ref r, .ref a, .int (nI ht), .int (nI p), .int (nI s)] h K := by
  have hn12 := gg.2.2
  obtain ⟨x, y, q1, q2, q3, q4, ha, a1, a2, a3, a4⟩ := id hr
  have hga := gg.1
  have hB : 12 - ht ≤ 11 := by omega
  have hs1 : (12 * p + s) / 12 < n := by omega
  have hs2 : (12 * p + s) % 12 ≤ 12 - ht := by omega
  refine AM.of [some (.ref r), some (.ref a), some (.int (nI ht)), some (.int (nI p)), some (.int (nI s)), none, none] pn_X4_fewest rfl (Nat.le_of_ble_eq_true rfl) (fun X hX hE => ?_)
  -- found: from the loop's head
  have found : ∀ (h' : AH) (N : Nat) (Qs par cb dp : Nat → Nat) (i : Nat), rtC h' r N Qs par cb dp (nI (Qs (N - 1))) → BI n ks (12 - ht) (12 * p + s) N Qs par cb dp → (∀ t, t < N → dp t ≤ 40) → Qs (N - 1) / 12 = n - 1 → (∀ t, t < N - 1 → Qs t / 12 ≠ n - 1) → fr h h' r (r + 5) → AW X 0 0 57 [some (.ref r), some (.ref a), some (.int (nI ht)), some (.int (nI p)), some (.int (nI s)), some (.int (nI (n - 1))), some (.int (nI i))] [] h' := by
    intro h' N Qs par cb dp i hr' hI' hd' hE' hL' hfr
    obtain ⟨hN144', hlt'⟩ := BI_144 hB hn12 hI' hs1 hs2
    have hra' := hr'.1
    have hNp := hI'.1.1
    refine AW_iload 59 hX dX4_fewest_57 rfl rfl ?_
    refine AW_aload_n 60 hX dX4_fewest_59 rfl rfl ?_
    refine AW_get 63 hX dX4_fewest_60 rfl fl_X4_24 (by first | assumption | exact hset_eq | exact (hset_ne (by omega)).trans (by first | assumption | exact hset_eq | exact (hset_ne (by omega)).trans (by first | assumption | exact hset_eq | exact (hset_ne (by omega)).trans (by first | assumption | exact hset_eq | exact (hset_ne (by omega)).trans (by first | assumption | exact hset_eq))))) rfl ?_
    refine AW_icmp_ge 66 106 hX dX4_fewest_63 rfl (by decide) (fun c63 => ?_) (fun c63 => ?_)
    · refine AW_aload_n 107 hX dX4_fewest_106 rfl rfl ?_
      refine AW_aload_n 108 hX dX4_fewest_107 rfl rfl ?_
      refine AW_get 111 hX dX4_fewest_108 rfl fl_X4_28 (by first | assumption | exact hset_eq | exact (hset_ne (by omega)).trans (by first | assumption | exact hset_eq | exact (hset_ne (by omega)).trans (by first | assumption | exact hset_eq | exact (hset_ne (by omega)).trans (by first | assumption | exact hset_eq | exact (hset_ne (by omega)).trans (by first | assumption | exact hset_eq))))) rfl ?_
      refine AW_cV (As := [_]) 114 hX dX4_fewest_111 rfl ml_X4_49 mw_X4_stepsOf (by first | assumption | exact hset_eq | exact (hset_ne (by omega)).trans (by first | assumption | exact hset_eq | exact (hset_ne (by omega)).trans (by first | assumption | exact hset_eq | exact (hset_ne (by omega)).trans (by first | assumption | exact hset_eq | exact (hset_ne (by omega)).trans (by first | assumption | exact hset_eq))))) (by decide) rfl rfl rfl (Nat.le_of_ble_eq_true rfl) (by decide) ⟨(Nat.le_refl _), (Nat.le_refl _)⟩ (c_stepsOfY hr' (N - 1) (by omega) (hlt' _ (by omega)) ?_)
      refine AW_iret hX hE dX4_fewest_114 rfl (Nat.le_refl _) (Nat.le_refl _) ?_
      exact h1 h' N Qs par cb dp hr' hI' hd' hlt' hE' hL' hfr
    · refine AW_iload 68 hX dX4_fewest_66 rfl rfl ?_
      refine AW_sipush 71 hX dX4_fewest_68 rfl sp_144 ?_
      refine AW_icmp_ge 74 106 hX dX4_fewest_71 rfl (by decide) (fun c71 => ?_) (fun c71 => ?_)
      · refine AW_aload_n 107 hX dX4_fewest_106 rfl rfl ?_
        refine AW_aload_n 108 hX dX4_fewest_107 rfl rfl ?_
        refine AW_get 111 hX dX4_fewest_108 rfl fl_X4_28 (by first | assumption | exact hset_eq | exact (hset_ne (by omega)).trans (by first | assumption | exact hset_eq | exact (hset_ne (by omega)).trans (by first | assumption | exact hset_eq | exact (hset_ne (by omega)).trans (by first | assumption | exact hset_eq | exact (hset_ne (by omega)).trans (by first | assumption | exact hset_eq))))) rfl ?_
        refine AW_cV (As := [_]) 114 hX dX4_fewest_111 rfl ml_X4_49 mw_X4_stepsOf (by first | assumption | exact hset_eq | exact (hset_ne (by omega)).trans (by first | assumption | exact hset_eq | exact (hset_ne (by omega)).trans (by first | assumption | exact hset_eq | exact (hset_ne (by omega)).trans (by first | assumption | exact hset_eq | exact (hset_ne (by omega)).trans (by first | assumption | exact hset_eq))))) (by decide) rfl rfl rfl (Nat.le_of_ble_eq_true rfl) (by decide) ⟨(Nat.le_refl _), (Nat.le_refl _)⟩ (c_stepsOfY hr' (N - 1) (by omega) (hlt' _ (by omega)) ?_)
        refine AW_iret hX hE dX4_fewest_114 rfl (Nat.le_refl _) (Nat.le_refl _) ?_
        exact h1 h' N Qs par cb dp hr' hI' hd' hlt' hE' hL' hfr
      · refine AW_aload_n 75 hX dX4_fewest_74 rfl rfl ?_
        refine AW_get 78 hX dX4_fewest_75 rfl fl_X4_28 (by first | assumption | exact hset_eq | exact (hset_ne (by omega)).trans (by first | assumption | exact hset_eq | exact (hset_ne (by omega)).trans (by first | assumption | exact hset_eq | exact (hset_ne (by omega)).trans (by first | assumption | exact hset_eq | exact (hset_ne (by omega)).trans (by first | assumption | exact hset_eq))))) rfl ?_
        refine AW_iconst 79 hX dX4_fewest_78 rfl ic_m1 ?_
        refine AW_icmp_ne 82 106 hX dX4_fewest_79 rfl (by decide) (fun c79 => ?_) (fun c79 => absurd c79 (m1n _ (hlt' _ (by omega))))
        refine AW_aload_n 107 hX dX4_fewest_106 rfl rfl ?_
        refine AW_aload_n 108 hX dX4_fewest_107 rfl rfl ?_
        refine AW_get 111 hX dX4_fewest_108 rfl fl_X4_28 (by first | assumption | exact hset_eq | exact (hset_ne (by omega)).trans (by first | assumption | exact hset_eq | exact (hset_ne (by omega)).trans (by first | assumption | exact hset_eq | exact (hset_ne (by omega)).trans (by first | assumption | exact hset_eq | exact (hset_ne (by omega)).trans (by first | assumption | exact hset_eq))))) rfl ?_
        refine AW_cV (As := [_]) 114 hX dX4_fewest_111 rfl ml_X4_49 mw_X4_stepsOf (by first | assumption | exact hset_eq | exact (hset_ne (by omega)).trans (by first | assumption | exact hset_eq | exact (hset_ne (by omega)).trans (by first | assumption | exact hset_eq | exact (hset_ne (by omega)).trans (by first | assumption | exact hset_eq | exact (hset_ne (by omega)).trans (by first | assumption | exact hset_eq))))) (by decide) rfl rfl rfl (Nat.le_of_ble_eq_true rfl) (by decide) ⟨(Nat.le_refl _), (Nat.le_refl _)⟩ (c_stepsOfY hr' (N - 1) (by omega) (hlt' _ (by omega)) ?_)
        refine AW_iret hX hE dX4_fewest_114 rfl (Nat.le_refl _) (Nat.le_refl _) ?_
        exact h1 h' N Qs par cb dp hr' hI' hd' hlt' hE' hL' hfr
  have loop : ∀ d i, i + d = 144 → ∀ (h' : AH) (N : Nat) (Qs par cb dp : Nat → Nat), rtC h' r N Qs par cb dp (-1) → BI n ks (12 - ht) (12 * p + s) N Qs par cb dp → (∀ t, t < N → dp t ≤ 40) → i ≤ N → BN n ks (12 - ht) N Qs dp i 0 → BP N par i → (∀ t, t < N → Qs t / 12 ≠ n - 1) → fr h h' r (r + 5) → AW X 0 0 57 [some (.ref r), some (.ref a), some (.int (nI ht)), some (.int (nI p)), some (.int (nI s)), some (.int (nI (n - 1))), some (.int (nI i))] [] h' := by
    intro d
    induction d with
    | zero =>
      intro i hi h' N Qs par cb dp hr' hI' hd' hiN hN' hP' hL' hfr
      obtain ⟨hN144', hlt'⟩ := BI_144 hB hn12 hI' hs1 hs2
      have hra' := hr'.1
      refine AW_iload 59 hX dX4_fewest_57 rfl rfl ?_
      refine AW_aload_n 60 hX dX4_fewest_59 rfl rfl ?_
      refine AW_get 63 hX dX4_fewest_60 rfl fl_X4_24 (by first | assumption | exact hset_eq | exact (hset_ne (by omega)).trans (by first | assumption | exact hset_eq | exact (hset_ne (by omega)).trans (by first | assumption | exact hset_eq | exact (hset_ne (by omega)).trans (by first | assumption | exact hset_eq | exact (hset_ne (by omega)).trans (by first | assumption | exact hset_eq))))) rfl ?_
      refine AW_icmp_ge 66 106 hX dX4_fewest_63 rfl (by decide) (fun c63 => ?_) (fun c63 => absurd (nI_le (by omega) (by omega)) c63)
      refine AW_aload_n 107 hX dX4_fewest_106 rfl rfl ?_
      refine AW_aload_n 108 hX dX4_fewest_107 rfl rfl ?_
      refine AW_get 111 hX dX4_fewest_108 rfl fl_X4_28 (by first | assumption | exact hset_eq | exact (hset_ne (by omega)).trans (by first | assumption | exact hset_eq | exact (hset_ne (by omega)).trans (by first | assumption | exact hset_eq | exact (hset_ne (by omega)).trans (by first | assumption | exact hset_eq | exact (hset_ne (by omega)).trans (by first | assumption | exact hset_eq))))) rfl ?_
      refine AW_cV (As := [_]) 114 hX dX4_fewest_111 rfl ml_X4_49 mw_X4_stepsOf (by first | assumption | exact hset_eq | exact (hset_ne (by omega)).trans (by first | assumption | exact hset_eq | exact (hset_ne (by omega)).trans (by first | assumption | exact hset_eq | exact (hset_ne (by omega)).trans (by first | assumption | exact hset_eq | exact (hset_ne (by omega)).trans (by first | assumption | exact hset_eq))))) (by decide) rfl rfl rfl (Nat.le_of_ble_eq_true rfl) (by decide) ⟨(Nat.le_refl _), (Nat.le_refl _)⟩ (c_stepsOfN ?_)
      refine AW_iret hX hE dX4_fewest_114 rfl (Nat.le_refl _) (Nat.le_refl _) ?_
      have e : i = N := by omega
      subst e
      exact h0 h' i Qs par cb dp hr' (bfs_not hI' hN' hL') hfr
    | succ d ih =>
      intro i hi h' N Qs par cb dp hr' hI' hd' hiN hN' hP' hL' hfr
      obtain ⟨hN144', hlt'⟩ := BI_144 hB hn12 hI' hs1 hs2
      have hra' := hr'.1
      have gg' := gr_fr gg hfr (by omega)
      obtain ⟨-, k1, k2, k3, k4, b1, b2, b3, b4, hq', -⟩ := id hr'
      refine AW_iload 59 hX dX4_fewest_57 rfl rfl ?_
      refine AW_aload_n 60 hX dX4_fewest_59 rfl rfl ?_
      refine AW_get 63 hX dX4_fewest_60 rfl fl_X4_24 (by first | assumption | exact hset_eq | exact (hset_ne (by omega)).trans (by first | assumption | exact hset_eq | exact (hset_ne (by omega)).trans (by first | assumption | exact hset_eq | exact (hset_ne (by omega)).trans (by first | assumption | exact hset_eq | exact (hset_ne (by omega)).trans (by first | assumption | exact hset_eq))))) rfl ?_
      refine AW_icmp_ge 66 106 hX dX4_fewest_63 rfl (by decide) (fun c63 => ?_) (fun c63 => ?_)
      · refine AW_aload_n 107 hX dX4_fewest_106 rfl rfl ?_
        refine AW_aload_n 108 hX dX4_fewest_107 rfl rfl ?_
        refine AW_get 111 hX dX4_fewest_108 rfl fl_X4_28 (by first | assumption | exact hset_eq | exact (hset_ne (by omega)).trans (by first | assumption | exact hset_eq | exact (hset_ne (by omega)).trans (by first | assumption | exact hset_eq | exact (hset_ne (by omega)).trans (by first | assumption | exact hset_eq | exact (hset_ne (by omega)).trans (by first | assumption | exact hset_eq))))) rfl ?_
        refine AW_cV (As := [_]) 114 hX dX4_fewest_111 rfl ml_X4_49 mw_X4_stepsOf (by first | assumption | exact hset_eq | exact (hset_ne (by omega)).trans (by first | assumption | exact hset_eq | exact (hset_ne (by omega)).trans (by first | assumption | exact hset_eq | exact (hset_ne (by omega)).trans (by first | assumption | exact hset_eq | exact (hset_ne (by omega)).trans (by first | assumption | exact hset_eq))))) (by decide) rfl rfl rfl (Nat.le_of_ble_eq_true rfl) (by decide) ⟨(Nat.le_refl _), (Nat.le_refl _)⟩ (c_stepsOfN ?_)
        refine AW_iret hX hE dX4_fewest_114 rfl (Nat.le_refl _) (Nat.le_refl _) ?_
        have e : i = N := by have := iLe c63; omega
        subst e
        exact h0 h' i Qs par cb dp hr' (bfs_not hI' hN' hL') hfr
      · refine AW_iload 68 hX dX4_fewest_66 rfl rfl ?_
        refine AW_sipush 71 hX dX4_fewest_68 rfl sp_144 ?_
        refine AW_icmp_ge 74 106 hX dX4_fewest_71 rfl (by decide) (fun c71 => absurd c71 (nI_ge (a := i) (b := 144) (by omega) (by decide))) (fun c71 => ?_)
        refine AW_aload_n 75 hX dX4_fewest_74 rfl rfl ?_
        refine AW_get 78 hX dX4_fewest_75 rfl fl_X4_28 (by first | assumption | exact hset_eq | exact (hset_ne (by omega)).trans (by first | assumption | exact hset_eq | exact (hset_ne (by omega)).trans (by first | assumption | exact hset_eq | exact (hset_ne (by omega)).trans (by first | assumption | exact hset_eq | exact (hset_ne (by omega)).trans (by first | assumption | exact hset_eq))))) rfl ?_
        refine AW_iconst 79 hX dX4_fewest_78 rfl ic_m1 ?_
        refine AW_icmp_ne 82 106 hX dX4_fewest_79 rfl (by decide) (fun c79 => absurd rfl c79) (fun c79 => ?_)
        refine AW_aload_n 83 hX dX4_fewest_82 rfl rfl ?_
        refine AW_aload_n 84 hX dX4_fewest_83 rfl rfl ?_
        refine AW_iload_n 85 hX dX4_fewest_84 rfl rfl ?_
        refine AW_cSN (As := [_]) 88 hX dX4_fewest_85 rfl mn_X4_41 mw_X6_bearable rfl rfl (Nat.le_of_ble_eq_true rfl) (by decide) ⟨(Nat.le_refl _), (Nat.le_refl _)⟩ (c_bearable ht hh9 ?_)
        refine AW_aload_n 89 hX dX4_fewest_88 rfl rfl ?_
        refine AW_get 92 hX dX4_fewest_89 rfl fl_X4_11 (by first | assumption | exact hset_eq | exact (hset_ne (by omega)).trans (by first | assumption | exact hset_eq | exact (hset_ne (by omega)).trans (by first | assumption | exact hset_eq | exact (hset_ne (by omega)).trans (by first | assumption | exact hset_eq | exact (hset_ne (by omega)).trans (by first | assumption | exact hset_eq))))) rfl ?_
        refine AW_iload 94 hX dX4_fewest_92 rfl rfl ?_
        refine AW_iald 95 hX dX4_fewest_94 rfl (by first | assumption | exact hset_eq | exact (hset_ne (by omega)).trans (by first | assumption | exact hset_eq | exact (hset_ne (by omega)).trans (by first | assumption | exact hset_eq | exact (hset_ne (by omega)).trans (by first | assumption | exact hset_eq | exact (hset_ne (by omega)).trans (by first | assumption | exact hset_eq))))) (j := i) (by omega) rfl ?_
        have hiN2 := iNle c63
        rw [(hq' i hiN2).1]
        refine AW_iload 97 hX dX4_fewest_95 rfl rfl ?_
        refine AW_cV (As := [_, _, _, _]) 100 hX dX4_fewest_97 rfl ml_X4_45 mw_X4_goOn (by first | assumption | exact hset_eq | exact (hset_ne (by omega)).trans (by first | assumption | exact hset_eq | exact (hset_ne (by omega)).trans (by first | assumption | exact hset_eq | exact (hset_ne (by omega)).trans (by first | assumption | exact hset_eq | exact (hset_ne (by omega)).trans (by first | assumption | exact hset_eq))))) (by decide) rfl rfl rfl (Nat.le_of_ble_eq_true rfl) (by decide) ⟨(Nat.le_refl _), (Nat.le_refl _)⟩ (c_goOn hr' gg' hks hk4 hab hB hI' hs1 hs2 hd' i hiN2 hN' hP' hL' (fun h2 N2 Q2 p2 c2 d2 hr2 hI2 hd2 hi2 hN2 hP2 hL2 hfr2 => ?_) (fun h2 N2 Q2 p2 c2 d2 hr2 hI2 hd2 hE2 hL2 hfr2 => ?_))
        · refine AW_iinc 103 hX dX4_fewest_100 rfl rfl (iincp ic_1) (Nat.le_of_ble_eq_true rfl) rfl ?_
          refine AW_goto 57 hX dX4_fewest_103 (by decide) ?_
          rw [nI_1]
          exact ih (i + 1) (by omega) h2 N2 Q2 p2 c2 d2 hr2 hI2 hd2 hi2 hN2 (fun t a b => Nat.le_succ_of_le (hP2 t a b)) hL2 (fr_tr hfr hfr2)
        · refine AW_iinc 103 hX dX4_fewest_100 rfl rfl (iincp ic_1) (Nat.le_of_ble_eq_true rfl) rfl ?_
          refine AW_goto 57 hX dX4_fewest_103 (by decide) ?_
          rw [nI_1]
          exact found h2 N2 Q2 p2 c2 d2 (i + 1) hr2 hI2 hd2 hE2 hL2 (fr_tr hfr hfr2)
  -- behind the filling
  have start : ∀ (h' : AH) (z : Option Value), rtC h' r 0 (fun _ => 0) (fun _ => 0) (fun _ => 0) (fun _ => 0) (-1) → fr h h' r (r + 5) → AW X 0 0 35 [some (.ref r), some (.ref a), some (.int (nI ht)), some (.int (nI p)), some (.int (nI s)), z, none] [] h' := by
    intro h' z hr' hfr
    have hra' := hr'.1
    have gg' := gr_fr gg hfr (by omega)
    have hga' := gg'.1
    refine AW_aload_n 36 hX dX4_fewest_35 rfl rfl ?_
    refine AW_cV (As := []) 39 hX dX4_fewest_36 rfl ml_X4_31 mw_X0_places (by first | assumption | exact hset_eq | exact (hset_ne (by omega)).trans (by first | assumption | exact hset_eq | exact (hset_ne (by omega)).trans (by first | assumption | exact hset_eq | exact (hset_ne (by omega)).trans (by first | assumption | exact hset_eq | exact (hset_ne (by omega)).trans (by first | assumption | exact hset_eq))))) (by decide) rfl rfl rfl (Nat.le_of_ble_eq_true rfl) (by decide) ⟨(Nat.le_refl _), (Nat.le_refl _)⟩ (c_places hga' ?_)
    refine AW_iconst 40 hX dX4_fewest_39 rfl ic_1 ?_
    refine AW_isub 41 hX dX4_fewest_40 rfl ?_
    rw [show (1 : Int32) = nI 1 from rfl, pk_sub (by omega)]
    refine AW_istore 43 hX dX4_fewest_41 rfl (Nat.le_of_ble_eq_true rfl) rfl ?_
    refine AW_aload_n 44 hX dX4_fewest_43 rfl rfl ?_
    refine AW_iload_n 45 hX dX4_fewest_44 rfl rfl ?_
    refine AW_iload 47 hX dX4_fewest_45 rfl rfl ?_
    refine AW_iconst 48 hX dX4_fewest_47 rfl ic_m1 ?_
    refine AW_iconst 49 hX dX4_fewest_48 rfl ic_0 ?_
    refine AW_iload 51 hX dX4_fewest_49 rfl rfl ?_
    refine AW_cV (As := [_, _, _, _, _]) 54 hX dX4_fewest_51 rfl ml_X4_37 mw_X4_reach (by first | assumption | exact hset_eq | exact (hset_ne (by omega)).trans (by first | assumption | exact hset_eq | exact (hset_ne (by omega)).trans (by first | assumption | exact hset_eq | exact (hset_ne (by omega)).trans (by first | assumption | exact hset_eq | exact (hset_ne (by omega)).trans (by first | assumption | exact hset_eq))))) (by decide) rfl rfl rfl (Nat.le_of_ble_eq_true rfl) (by decide) ⟨(Nat.le_refl _), (Nat.le_refl _)⟩ (c_reach hr' (fun a b ha => by omega) (fun t ht => by omega) (fun t ht => by omega) (fun t _ ht => by omega) p s 0 (n - 1) 0 0 (-1) (by omega) (by omega) (by omega) (fun _ => ⟨rfl, rfl⟩) (fun e => by omega) (fun t ht => by omega) (fun h2 hnew hr2 hfr2 => ?_))
    rw [show p * 12 + s = 12 * p + s by omega] at hr2
    have hI2 : BI n ks (12 - ht) (12 * p + s) 1 (ap (fun _ => 0) 0 (12 * p + s)) (ap (fun _ => 0) 0 0) (ap (fun _ => 0) 0 0) (ap (fun _ => 0) 0 0) := BI_0 _ _ _ _ _ _ _ _ ap_eq ap_eq
    have hd2 : ∀ t, t < 1 → ap (fun _ : Nat => 0) 0 0 t ≤ 40 := fun t ht => by rw [show t = 0 by omega, ap_eq]; omega
    refine AW_iconst 55 hX dX4_fewest_54 rfl ic_0 ?_
    refine AW_istore 57 hX dX4_fewest_55 rfl (Nat.le_of_ble_eq_true rfl) rfl ?_
    by_cases hpe : p = n - 1
    · rw [if_pos hpe] at hr2
      refine found h2 1 _ _ _ _ 0 ?_ hI2 hd2 ?_ (fun t ht => by omega) (fr_tr hfr hfr2)
      · rw [show (1 : Nat) - 1 = 0 from rfl, ap_eq]
        exact hr2
      · rw [show (1 : Nat) - 1 = 0 from rfl, ap_eq]
        omega
    · rw [if_neg hpe] at hr2
      refine loop 144 0 (by omega) h2 1 _ _ _ _ hr2 hI2 hd2 (by omega) (fun j c' hj => by omega) (fun t h3 h4 => by omega) (fun t ht => ?_) (fr_tr hfr hfr2)
      rw [show t = 0 by omega, ap_eq]
      omega
  have fill : ∀ d i, i + d = 144 → ∀ (h' : AH) (k2 : Nat → Int32), h' r = some (.inl (3, [.ref (r + 1), .ref (r + 2), .ref (r + 3), .ref (r + 4), .int 0, .int (-1)])) → h' (r + 1) = some (.inr (0, 144, q1)) → h' (r + 2) = some (.inr (0, 144, k2)) → h' (r + 3) = some (.inr (0, 144, q3)) → h' (r + 4) = some (.inr (0, 144, q4)) → (∀ j, j < i → k2 j = -1) → fr h h' r (r + 5) → AW X 0 0 13 [some (.ref r), some (.ref a), some (.int (nI ht)), some (.int (nI p)), some (.int (nI s)), some (.int (nI i)), none] [] h' := by
    intro d
    induction d with
    | zero =>
      intro i hi h' k2 b0 b1 b2 b3 b4 hk hfr
      refine AW_iload 15 hX dX4_fewest_13 rfl rfl ?_
      refine AW_sipush 18 hX dX4_fewest_15 rfl sp_144 ?_
      refine AW_icmp_ge 21 35 hX dX4_fewest_18 rfl (by decide) (fun c18 => ?_) (fun c18 => absurd (nI_le (a := 144) (b := i) (by omega) (by omega)) c18)
      exact start h' _ ⟨b0, q1, k2, q3, q4, b1, b2, b3, b4, fun t ht => by omega, fun v hv _ => hk v (by omega)⟩ hfr
    | succ d ih =>
      intro i hi h' k2 b0 b1 b2 b3 b4 hk hfr
      refine AW_iload 15 hX dX4_fewest_13 rfl rfl ?_
      refine AW_sipush 18 hX dX4_fewest_15 rfl sp_144 ?_
      refine AW_icmp_ge 21 35 hX dX4_fewest_18 rfl (by decide) (fun c18 => absurd c18 (nI_ge (a := i) (b := 144) (by omega) (by decide))) (fun c18 => ?_)
      refine AW_aload_n 22 hX dX4_fewest_21 rfl rfl ?_
      refine AW_get 25 hX dX4_fewest_22 rfl fl_X4_15 (by first | assumption | exact hset_eq | exact (hset_ne (by omega)).trans (by first | assumption | exact hset_eq | exact (hset_ne (by omega)).trans (by first | assumption | exact hset_eq | exact (hset_ne (by omega)).trans (by first | assumption | exact hset_eq | exact (hset_ne (by omega)).trans (by first | assumption | exact hset_eq))))) rfl ?_
      refine AW_iload 27 hX dX4_fewest_25 rfl rfl ?_
      refine AW_iconst 28 hX dX4_fewest_27 rfl ic_m1 ?_
      refine AW_iast 29 hX dX4_fewest_28 rfl (by first | assumption | exact hset_eq | exact (hset_ne (by omega)).trans (by first | assumption | exact hset_eq | exact (hset_ne (by omega)).trans (by first | assumption | exact hset_eq | exact (hset_ne (by omega)).trans (by first | assumption | exact hset_eq | exact (hset_ne (by omega)).trans (by first | assumption | exact hset_eq))))) (j := i) (by omega) rfl ?_
      try rw [hset_hset]
      refine AW_iinc 32 hX dX4_fewest_29 rfl rfl (iincp ic_1) (Nat.le_of_ble_eq_true rfl) rfl ?_
      refine AW_goto 13 hX dX4_fewest_32 (by decide) ?_
      rw [nI_1]
      refine ih (i + 1) (by omega) _ (upd k2 i (-1)) ((hset_ne (by omega)).trans b0) ((hset_ne (by omega)).trans b1) hset_eq ((hset_ne (by omega)).trans b3) ((hset_ne (by omega)).trans b4) (fun j hj => ?_) (fr_tr hfr (fr_set (by omega) (by omega)))
      by_cases e : j = i
      · subst e; exact pk_us
      · rw [pk_un e]; exact hk j (by omega)
  refine AW_aload_n 1 hX dX4_fewest_0 rfl rfl ?_
  refine AW_iconst 2 hX dX4_fewest_1 rfl ic_0 ?_
  refine AW_put 5 hX dX4_fewest_2 rfl fl_X4_24 (by first | assumption | exact hset_eq | exact (hset_ne (by omega)).trans (by first | assumption | exact hset_eq | exact (hset_ne (by omega)).trans (by first | assumption | exact hset_eq | exact (hset_ne (by omega)).trans (by first | assumption | exact hset_eq | exact (hset_ne (by omega)).trans (by first | assumption | exact hset_eq))))) rfl (fun _ => rfl) (fun _ => rfl) (Nat.le_of_ble_eq_true rfl) ?_
  try rw [hset_hset]
  refine AW_aload_n 6 hX dX4_fewest_5 rfl rfl ?_
  refine AW_iconst 7 hX dX4_fewest_6 rfl ic_m1 ?_
  refine AW_put 10 hX dX4_fewest_7 rfl fl_X4_28 (by first | assumption | exact hset_eq | exact (hset_ne (by omega)).trans (by first | assumption | exact hset_eq | exact (hset_ne (by omega)).trans (by first | assumption | exact hset_eq | exact (hset_ne (by omega)).trans (by first | assumption | exact hset_eq | exact (hset_ne (by omega)).trans (by first | assumption | exact hset_eq))))) rfl (fun _ => rfl) (fun _ => rfl) (Nat.le_of_ble_eq_true rfl) ?_
  try rw [hset_hset]
  refine AW_iconst 11 hX dX4_fewest_10 rfl ic_0 ?_
  refine AW_istore 13 hX dX4_fewest_11 rfl (Nat.le_of_ble_eq_true rfl) rfl ?_
  exact fill 144 0 (by omega) _ q2 hset_eq ((hset_ne (by omega)).trans a1) ((hset_ne (by omega)).trans a2) ((hset_ne (by omega)).trans a3) ((hset_ne (by omega)).trans a4) (fun j hj => by omega) (fr_set (by omega) (by omega))
set_option maxRecDepth 100000 in
set_option maxHeartbeats 4000000 in
theorem c_farOfStep {h : AH} {K : Option Value → AH → Prop} {r N : Nat} {Qs par cb dp : Nat → Nat} (hr : rtC h r N Qs par cb dp (nI (Qs (N - 1)))) {n B st : Nat} {ks : Nat → Nat} (hI : BI n ks B st N Qs par cb dp) (hd40 : ∀ t, t < N → dp t ≤ 40) (hlt : ∀ t, t < N → Qs t < 144) (j : Nat) (hj1 : 1 ≤ j) (hj4 : j ≤ 4) (h1 : j ≤ dp (N - 1) → K (some (.int (nI (cb (chn par N (dp (N - 1) - j)))))) h) (h0 : dp (N - 1) < j → K (some (.int (-1))) h) : aX4_farOfStep 2 [.ref r, .int (nI j)] h K := by
  obtain ⟨ha, q1, q2, q3, q4, a1, a2, a3, a4, hq, hno⟩ := id hr
  have hNp := hI.1.1
  have hdN := hd40 (N - 1) (by omega)
  refine AM.of [some (.ref r), some (.int (nI j)), none, none] pn_X4_farOfStep rfl (Nat.le_of_ble_eq_true rfl) (fun X hX hE => ?_)
  -- at k steps back from the end
  have at39 : ∀ k, k ≤ dp (N - 1) → (j ≤ dp (N - 1) → dp (N - 1) - k = j) → (dp (N - 1) < j → k = 0) → AW X 0 0 39 [some (.ref r), some (.int (nI j)), some (.int (nI (Qs (chn par N k)))), some (.int (nI (dp (N - 1) - k)))] [] h := by
    intro k hk hk1 hk2
    obtain ⟨hc1, hc2⟩ := chn_dp hI k hk
    obtain ⟨g1, g2, g3⟩ := hq _ hc1
    refine AW_iload_n 40 hX dX4_farOfStep_39 rfl rfl ?_
    refine AW_iconst 41 hX dX4_farOfStep_40 rfl ic_1 ?_
    refine AW_icmp_lt 44 70 hX dX4_farOfStep_41 rfl (by decide) (fun c41 => absurd c41 (nI_nlt (a := j) (b := 1) hj1 (by omega))) (fun c41 => ?_)
    refine AW_iload_n 45 hX dX4_farOfStep_44 rfl rfl ?_
    refine AW_cS (As := [_]) 48 hX dX4_farOfStep_45 rfl ml_X4_52 mw_X4_isSpot rfl rfl (Nat.le_of_ble_eq_true rfl) (by decide) ⟨(Nat.le_refl _), (Nat.le_refl _)⟩ (c_isSpotY _ (hlt _ hc1) ?_)
    refine AW_if_eq 51 70 hX dX4_farOfStep_48 rfl (by decide) (fun c48 => absurd c48 (by decide)) (fun c48 => ?_)
    refine AW_aload_n 52 hX dX4_farOfStep_51 rfl rfl ?_
    refine AW_get 55 hX dX4_farOfStep_52 rfl fl_X4_15 (by first | assumption | exact hset_eq | exact (hset_ne (by omega)).trans (by first | assumption | exact hset_eq | exact (hset_ne (by omega)).trans (by first | assumption | exact hset_eq | exact (hset_ne (by omega)).trans (by first | assumption | exact hset_eq | exact (hset_ne (by omega)).trans (by first | assumption | exact hset_eq))))) rfl ?_
    refine AW_iload_n 56 hX dX4_farOfStep_55 rfl rfl ?_
    refine AW_iald 57 hX dX4_farOfStep_56 rfl (by first | assumption | exact hset_eq | exact (hset_ne (by omega)).trans (by first | assumption | exact hset_eq | exact (hset_ne (by omega)).trans (by first | assumption | exact hset_eq | exact (hset_ne (by omega)).trans (by first | assumption | exact hset_eq | exact (hset_ne (by omega)).trans (by first | assumption | exact hset_eq))))) (j := Qs (chn par N k)) (hlt _ hc1) rfl ?_
    rw [g2, hc2]
    refine AW_iload_n 58 hX dX4_farOfStep_57 rfl rfl ?_
    refine AW_icmp_ne 61 70 hX dX4_farOfStep_58 rfl (by decide) (fun c58 => ?_) (fun c58 => ?_)
    · refine AW_iconst 71 hX dX4_farOfStep_70 rfl ic_m1 ?_
      refine AW_iret hX hE dX4_farOfStep_71 rfl (Nat.le_refl _) (Nat.le_refl _) ?_
      refine h0 ?_
      rcases Nat.lt_or_ge (dp (N - 1)) j with q | q
      · exact q
      · exact absurd (by rw [hk1 q]) c58
    · refine AW_aload_n 62 hX dX4_farOfStep_61 rfl rfl ?_
      refine AW_get 65 hX dX4_farOfStep_62 rfl fl_X4_21 (by first | assumption | exact hset_eq | exact (hset_ne (by omega)).trans (by first | assumption | exact hset_eq | exact (hset_ne (by omega)).trans (by first | assumption | exact hset_eq | exact (hset_ne (by omega)).trans (by first | assumption | exact hset_eq | exact (hset_ne (by omega)).trans (by first | assumption | exact hset_eq))))) rfl ?_
      refine AW_iload_n 66 hX dX4_farOfStep_65 rfl rfl ?_
      refine AW_iald 67 hX dX4_farOfStep_66 rfl (by first | assumption | exact hset_eq | exact (hset_ne (by omega)).trans (by first | assumption | exact hset_eq | exact (hset_ne (by omega)).trans (by first | assumption | exact hset_eq | exact (hset_ne (by omega)).trans (by first | assumption | exact hset_eq | exact (hset_ne (by omega)).trans (by first | assumption | exact hset_eq))))) (j := Qs (chn par N k)) (hlt _ hc1) rfl ?_
      refine AW_goto 71 hX dX4_farOfStep_67 (by decide) ?_
      refine AW_iret hX hE dX4_farOfStep_71 rfl (Nat.le_refl _) (Nat.le_refl _) ?_
      have e := iEq c58
      have hjd : j ≤ dp (N - 1) := by omega
      rw [(g3 (chn_pos hI (by omega))).2]
      rw [show k = dp (N - 1) - j by omega]
      exact h1 hjd
  have loop : ∀ d k, k + d = dp (N - 1) → (j ≤ dp (N - 1) → j ≤ dp (N - 1) - k) → (dp (N - 1) < j → k = 0) → AW X 0 0 14 [some (.ref r), some (.int (nI j)), some (.int (nI (Qs (chn par N k)))), some (.int (nI (dp (N - 1) - k)))] [] h := by
    intro d
    induction d with
    | zero =>
      intro k hk hk1 hk2
      refine AW_iload_n 15 hX dX4_farOfStep_14 rfl rfl ?_
      refine AW_iload_n 16 hX dX4_farOfStep_15 rfl rfl ?_
      refine AW_icmp_le 19 39 hX dX4_farOfStep_16 rfl (by decide) (fun c16 => ?_) (fun c16 => absurd (nI_le (by omega) (by omega)) c16)
      exact at39 k (by omega) (fun q => by have := hk1 q; omega) hk2
    | succ d ih =>
      intro k hk hk1 hk2
      obtain ⟨hc1, hc2⟩ := chn_dp hI k (by omega)
      obtain ⟨g1, g2, g3⟩ := hq _ hc1
      refine AW_iload_n 15 hX dX4_farOfStep_14 rfl rfl ?_
      refine AW_iload_n 16 hX dX4_farOfStep_15 rfl rfl ?_
      refine AW_icmp_le 19 39 hX dX4_farOfStep_16 rfl (by decide) (fun c16 => ?_) (fun c16 => ?_)
      · have := iLe c16
        exact at39 k (by omega) (fun q => by have := hk1 q; omega) hk2
      · refine AW_iload_n 20 hX dX4_farOfStep_19 rfl rfl ?_
        refine AW_cS (As := [_]) 23 hX dX4_farOfStep_20 rfl ml_X4_52 mw_X4_isSpot rfl rfl (Nat.le_of_ble_eq_true rfl) (by decide) ⟨(Nat.le_refl _), (Nat.le_refl _)⟩ (c_isSpotY _ (hlt _ hc1) ?_)
        refine AW_if_eq 26 39 hX dX4_farOfStep_23 rfl (by decide) (fun c23 => absurd c23 (by decide)) (fun c23 => ?_)
        refine AW_aload_n 27 hX dX4_farOfStep_26 rfl rfl ?_
        refine AW_get 30 hX dX4_farOfStep_27 rfl fl_X4_18 (by first | assumption | exact hset_eq | exact (hset_ne (by omega)).trans (by first | assumption | exact hset_eq | exact (hset_ne (by omega)).trans (by first | assumption | exact hset_eq | exact (hset_ne (by omega)).trans (by first | assumption | exact hset_eq | exact (hset_ne (by omega)).trans (by first | assumption | exact hset_eq))))) rfl ?_
        refine AW_iload_n 31 hX dX4_farOfStep_30 rfl rfl ?_
        refine AW_iald 32 hX dX4_farOfStep_31 rfl (by first | assumption | exact hset_eq | exact (hset_ne (by omega)).trans (by first | assumption | exact hset_eq | exact (hset_ne (by omega)).trans (by first | assumption | exact hset_eq | exact (hset_ne (by omega)).trans (by first | assumption | exact hset_eq | exact (hset_ne (by omega)).trans (by first | assumption | exact hset_eq))))) (j := Qs (chn par N k)) (hlt _ hc1) rfl ?_
        refine AW_istore_n 33 hX dX4_farOfStep_32 rfl (Nat.le_of_ble_eq_true rfl) rfl ?_
        refine AW_iinc 36 hX dX4_farOfStep_33 rfl rfl (iincp ic_m1) (Nat.le_of_ble_eq_true rfl) rfl ?_
        refine AW_goto 14 hX dX4_farOfStep_36 (by decide) ?_
        have hgt := iNle c16
        rw [(g3 (chn_pos hI (by omega))).1]
        rw [show nI (dp (N - 1) - k) + -1 = nI (dp (N - 1) - (k + 1)) by rw [show dp (N - 1) - k = dp (N - 1) - (k + 1) + 1 by omega, pk_m1]]
        exact ih (k + 1) (by omega) (fun q => by omega) (fun q => by omega)
  refine AW_aload_n 1 hX dX4_farOfStep_0 rfl rfl ?_
  refine AW_get 4 hX dX4_farOfStep_1 rfl fl_X4_28 (by first | assumption | exact hset_eq | exact (hset_ne (by omega)).trans (by first | assumption | exact hset_eq | exact (hset_ne (by omega)).trans (by first | assumption | exact hset_eq | exact (hset_ne (by omega)).trans (by first | assumption | exact hset_eq | exact (hset_ne (by omega)).trans (by first | assumption | exact hset_eq))))) rfl ?_
  refine AW_istore_n 5 hX dX4_farOfStep_4 rfl (Nat.le_of_ble_eq_true rfl) rfl ?_
  refine AW_aload_n 6 hX dX4_farOfStep_5 rfl rfl ?_
  refine AW_aload_n 7 hX dX4_farOfStep_6 rfl rfl ?_
  refine AW_get 10 hX dX4_farOfStep_7 rfl fl_X4_28 (by first | assumption | exact hset_eq | exact (hset_ne (by omega)).trans (by first | assumption | exact hset_eq | exact (hset_ne (by omega)).trans (by first | assumption | exact hset_eq | exact (hset_ne (by omega)).trans (by first | assumption | exact hset_eq | exact (hset_ne (by omega)).trans (by first | assumption | exact hset_eq))))) rfl ?_
  refine AW_cV (As := [_]) 13 hX dX4_farOfStep_10 rfl ml_X4_49 mw_X4_stepsOf (by first | assumption | exact hset_eq | exact (hset_ne (by omega)).trans (by first | assumption | exact hset_eq | exact (hset_ne (by omega)).trans (by first | assumption | exact hset_eq | exact (hset_ne (by omega)).trans (by first | assumption | exact hset_eq | exact (hset_ne (by omega)).trans (by first | assumption | exact hset_eq))))) (by decide) rfl rfl rfl (Nat.le_of_ble_eq_true rfl) (by decide) ⟨(Nat.le_refl _), (Nat.le_refl _)⟩ (c_stepsOfY hr (N - 1) (by omega) (hlt _ (by omega)) ?_)
  refine AW_istore_n 14 hX dX4_farOfStep_13 rfl (Nat.le_of_ble_eq_true rfl) rfl ?_
  exact loop (dp (N - 1)) 0 (by omega) (fun q => by omega) (fun _ => rfl)
set_option maxRecDepth 100000 in
set_option maxHeartbeats 4000000 in
theorem c_farOfStepN {h : AH} {K : Option Value → AH → Prop} {r N : Nat} {Qs par cb dp : Nat → Nat} (hr : rtC h r N Qs par cb dp (-1)) (j : Nat) (hj1 : 1 ≤ j) (hj4 : j ≤ 4) (hK : K (some (.int (-1))) h) : aX4_farOfStep 2 [.ref r, .int (nI j)] h K := by
  have ha := hr.1
  refine AM.of [some (.ref r), some (.int (nI j)), none, none] pn_X4_farOfStep rfl (Nat.le_of_ble_eq_true rfl) (fun X hX hE => ?_)
  refine AW_aload_n 1 hX dX4_farOfStep_0 rfl rfl ?_
  refine AW_get 4 hX dX4_farOfStep_1 rfl fl_X4_28 (by first | assumption | exact hset_eq | exact (hset_ne (by omega)).trans (by first | assumption | exact hset_eq | exact (hset_ne (by omega)).trans (by first | assumption | exact hset_eq | exact (hset_ne (by omega)).trans (by first | assumption | exact hset_eq | exact (hset_ne (by omega)).trans (by first | assumption | exact hset_eq))))) rfl ?_
  refine AW_istore_n 5 hX dX4_farOfStep_4 rfl (Nat.le_of_ble_eq_true rfl) rfl ?_
  refine AW_aload_n 6 hX dX4_farOfStep_5 rfl rfl ?_
  refine AW_aload_n 7 hX dX4_farOfStep_6 rfl rfl ?_
  refine AW_get 10 hX dX4_farOfStep_7 rfl fl_X4_28 (by first | assumption | exact hset_eq | exact (hset_ne (by omega)).trans (by first | assumption | exact hset_eq | exact (hset_ne (by omega)).trans (by first | assumption | exact hset_eq | exact (hset_ne (by omega)).trans (by first | assumption | exact hset_eq | exact (hset_ne (by omega)).trans (by first | assumption | exact hset_eq))))) rfl ?_
  refine AW_cV (As := [_]) 13 hX dX4_farOfStep_10 rfl ml_X4_49 mw_X4_stepsOf (by first | assumption | exact hset_eq | exact (hset_ne (by omega)).trans (by first | assumption | exact hset_eq | exact (hset_ne (by omega)).trans (by first | assumption | exact hset_eq | exact (hset_ne (by omega)).trans (by first | assumption | exact hset_eq | exact (hset_ne (by omega)).trans (by first | assumption | exact hset_eq))))) (by decide) rfl rfl rfl (Nat.le_of_ble_eq_true rfl) (by decide) ⟨(Nat.le_refl _), (Nat.le_refl _)⟩ (c_stepsOfN ?_)
  refine AW_istore_n 14 hX dX4_farOfStep_13 rfl (Nat.le_of_ble_eq_true rfl) rfl ?_
  refine AW_iload_n 15 hX dX4_farOfStep_14 rfl rfl ?_
  refine AW_iload_n 16 hX dX4_farOfStep_15 rfl rfl ?_
  refine AW_icmp_le 19 39 hX dX4_farOfStep_16 rfl (by decide) (fun c16 => ?_) (fun c16 => absurd (Int32.le_iff_toInt_le.mpr (by rw [nI_toInt (by omega)]; show (-1 : Int) ≤ _; omega)) c16)
  refine AW_iload_n 40 hX dX4_farOfStep_39 rfl rfl ?_
  refine AW_iconst 41 hX dX4_farOfStep_40 rfl ic_1 ?_
  refine AW_icmp_lt 44 70 hX dX4_farOfStep_41 rfl (by decide) (fun c41 => absurd c41 (nI_nlt (a := j) (b := 1) hj1 (by omega))) (fun c41 => ?_)
  refine AW_iload_n 45 hX dX4_farOfStep_44 rfl rfl ?_
  refine AW_cS (As := [_]) 48 hX dX4_farOfStep_45 rfl ml_X4_52 mw_X4_isSpot rfl rfl (Nat.le_of_ble_eq_true rfl) (by decide) ⟨(Nat.le_refl _), (Nat.le_refl _)⟩ (c_isSpotN ?_)
  refine AW_if_eq 51 70 hX dX4_farOfStep_48 rfl (by decide) (fun c48 => ?_) (fun c48 => absurd rfl c48)
  refine AW_iconst 71 hX dX4_farOfStep_70 rfl ic_m1 ?_
  refine AW_iret hX hE dX4_farOfStep_71 rfl (Nat.le_refl _) (Nat.le_refl _) ?_
  exact hK
end
section
/-! WHAT EACH CALL ANSWERS, and what the state is then: one mathematical value for both sides -/
noncomputable def cif {α : Sort _} (p : Prop) (a b : α) : α := @ite α p (Classical.propDecidable p) a b
theorem cif_pos {α : Sort _} {p : Prop} {a b : α} (h : p) : cif p a b = a := if_pos h
theorem cif_neg {α : Sort _} {p : Prop} {a b : α} (h : ¬ p) : cif p a b = b := if_neg h
/-- the first number from k on, of d, that has P; k + d, if there is none -/
noncomputable def lsF (P : Nat → Prop) : Nat → Nat → Nat
  | 0, k => k
  | d + 1, k => cif (P k) k (lsF P d (k + 1))
theorem lsF_no (P : Nat → Prop) : ∀ d k, (∀ j, k ≤ j → j < k + d → ¬ P j) → lsF P d k = k + d
  | 0, k, _ => rfl
  | d + 1, k, h => by
    rw [lsF, cif_neg (h k (Nat.le_refl _) (by omega)), lsF_no P d (k + 1) (fun j h1 h2 => h j (by omega) (by omega))]
    omega
theorem lsF_yes (P : Nat → Prop) : ∀ d k x, k ≤ x → x < k + d → P x → (∀ j, k ≤ j → j < x → ¬ P j) → lsF P d k = x
  | 0, k, x, h1, h2, _, _ => by omega
  | d + 1, k, x, h1, h2, h3, h4 => by
    by_cases e : k = x
    · subst e
      rw [lsF, cif_pos h3]
    · rw [lsF, cif_neg (h4 k (Nat.le_refl _) (by omega))]
      exact lsF_yes P d (k + 1) x (by omega) (by omega) h3 (fun j a b => h4 j (by omega) b)
/-- in how few steps from the spot u; 41: not in 40 -/
noncomputable def DD (n : Nat) (ks : Nat → Nat) (B u : Nat) : Nat := lsF (fun k => can n ks B k u) 41 0
theorem DD_yes {n : Nat} {ks : Nat → Nat} {B u d : Nat} (hd : d ≤ 40) (h1 : can n ks B d u) (h2 : ∀ k, k < d → ¬ can n ks B k u) : DD n ks B u = d := lsF_yes _ 41 0 d (Nat.zero_le _) (by omega) h1 (fun j _ hj => h2 j hj)
theorem DD_no {n : Nat} {ks : Nat → Nat} {B u : Nat} (h : ∀ k, k ≤ 40 → ¬ can n ks B k u) : DD n ks B u = 41 := lsF_no _ 41 0 (fun j _ hj => h j (by omega))
noncomputable def dA (d : Nat) : Int32 := cif (d ≤ 40) (nI d) (-1)
/-- how far the j-th step of the first way is -/
noncomputable def lA (n : Nat) (ks : Nat → Nat) (B u j : Nat) : Int32 := cif (DD n ks B u ≤ 40 ∧ lsF (fun c => LWy n ks B (DD n ks B u) u j c) 4 0 < 4) (nI (lsF (fun c => LWy n ks B (DD n ks B u) u j c) 4 0)) (-1)
theorem LWy_le {n : Nat} {ks : Nat → Nat} {B : Nat} : ∀ (k u j c : Nat), LWy n ks B k u j c → c ≤ 3 ∧ j ≤ k ∧ 1 ≤ j
  | 0, _, 0, _, h => h.elim
  | 0, _, _ + 1, _, h => h.elim
  | _ + 1, _, 0, _, h => h.elim
  | k + 1, u, 1, c, h => ⟨h.1.1, by omega, by omega⟩
  | k + 1, u, j + 2, c, ⟨c0, _, h2⟩ => by
    have := LWy_le k _ (j + 1) c h2
    omega
theorem lA_yes {n : Nat} {ks : Nat → Nat} {B u j d c : Nat} (hD : DD n ks B u = d) (hd : d ≤ 40) (h : LWy n ks B d u j c) : lA n ks B u j = nI c := by
  have hc := LWy_le _ _ _ _ h
  have e : lsF (fun c => LWy n ks B (DD n ks B u) u j c) 4 0 = c := lsF_yes _ 4 0 c (Nat.zero_le _) (by omega) (by rw [hD]; exact h) (fun x _ hx q => by
    rw [hD] at q
    have := LWy_one _ _ _ _ _ h q
    omega)
  simp only [lA, e]
  exact cif_pos ⟨by omega, by omega⟩
theorem lA_no {n : Nat} {ks : Nat → Nat} {B u j : Nat} (h : DD n ks B u ≤ 40 → DD n ks B u < j) : lA n ks B u j = -1 := by
  simp only [lA]
  refine cif_neg (fun q => ?_)
  have e := lsF_no (fun c => LWy n ks B (DD n ks B u) u j c) 4 0 (fun c _ _ hc => by
    have := (LWy_le _ _ _ _ hc).2.1
    have := h q.1
    omega)
  have := q.2
  omega
/-- the greatest height, up to H -/
noncomputable def hiF (n : Nat) (ks : Nat → Nat) : Nat → Int32
  | 0 => -1
  | H + 1 => cif (DD n ks (12 - (H + 1)) 0 ≤ 40) (nI (H + 1)) (hiF n ks H)
/-- which place to mend, in how few steps then, among the first i -/
def kz (ks : Nat → Nat) (p : Nat) : Nat → Nat := fun j => if j = p then 0 else ks j
noncomputable def mnF (n : Nat) (ks : Nat → Nat) (B : Nat) : Nat → Int32 × Nat
  | 0 => (-1, DD n ks B 0)
  | i + 1 => cif (DD n (kz ks i) B 0 < (mnF n ks B i).2) (nI i, DD n (kz ks i) B 0) (mnF n ks B i)
noncomputable def mnS (x : Int32 × Nat) : Int32 := cif (x.1 = -1) (-1) (nI x.2)
/-! the state: (is an image kept, yards read, quick() done, letters, page, now, kept) -/
abbrev ST : Type := Nat × Nat × Nat × Nat × (Nat → Nat) × SV × SV
/-- a number that names a place -/
def isP (n : Nat) (x : Int32) : Prop := ∃ q, q < n ∧ x = nI q
def ab (ks : Nat → Nat) (hd : HD) (m q k : Nat) : Int32 := if k = 0 then nI (ks q) else if k = 4 then onS (ks q) + 2 else if k = 5 then tryC ks hd m q else nI (gw (ks q) k)
def cN (x : Int32) : Nat := x.toNatClampNeg
theorem cN_nI {q : Nat} (h : q < 2 ^ 31) : cN (nI q) = q := nI_clamp h
noncomputable def spLetter (S : ST) (x : Int32) : Int32 × ST := match S with
  | (kp, yd, qk, pm, pg, v, w) => cif (x < 32 ∨ 126 < x) (-102, S) (cif (pm = 16) (-104, S) (nI (pm + 1), (kp, yd, qk, pm + 1, fun j => if j = pm then cN x else pg j, v, w)))
def spBlank (S : ST) : Int32 × ST := match S with
  | (kp, yd, qk, pm, pg, v, w) => (nI pm, (kp, yd, qk, 0, pg, v, w))
def spFault (S : ST) : Int32 × ST := match S with
  | (_, _, _, pm, pg, _, _) => (nI (fw pm pg), S)
noncomputable def spYard (S : ST) : Int32 × ST := match S with
  | (_, yd, qk, pm, pg, v, w) => cif (pwh pm pg) (nI (plc pm pg), (0, yd + 1, qk, 0, pg, (plc pm pg, fun j => kn (pAt pm pg j), pAt pm pg (pm - 1) - 48, 0, 0, 0, 0, 0, v.2.2.2.2.2.2.2.2), w)) (-103, S)
noncomputable def spAbout (S : ST) (x y : Int32) : Int32 × ST := match S with
  | (_, _, _, _, _, (n, ks, _, _, _, _, _, m, hd), _) => (cif (isP n x) (cif (isP 6 y) (ab ks hd m (cN x) (cN y)) (-102)) (-101), S)
noncomputable def spAs (S : ST) (x y : Int32) : Int32 × ST := match S with
  | (_, _, _, _, _, (n, ks, _, _, _, _, _, _, _), _) => (cif (isP n x) (cif (isP 5 y) (cif (isA (ks (cN x)) (cN y)) x (-1)) (-102)) (-101), S)
noncomputable def spLay (S : ST) (x y : Int32) : Int32 × ST := match S with
  | (kp, yd, qk, pm, pg, (n, ks, ht, p, s, stp, fl, m, hd), w) => cif (isP n x) (cif (isP 5 y) (nI (ks (cN x)), (kp, yd, qk, pm, pg, (n, fun j => if j = cN x then cN y else ks j, ht, p, s, stp, fl, m, hd), w)) (-102, S)) (-101, S)
noncomputable def spBlocks (S : ST) (x : Int32) : Int32 × ST := match S with
  | (kp, yd, qk, pm, pg, (n, ks, ht, _, _, stp, fl, m, hd), w) => cif (x < 1 ∨ 9 < x) (-102, S) (cif (n = 0) (-103, S) (nI ht, (kp, yd, qk, pm, pg, (n, ks, cN x, 0, 0, stp, fl, m, hd), w)))
noncomputable def spStep (S : ST) (x : Int32) : Int32 × ST := match S with
  | (kp, yd, qk, pm, pg, (n, ks, ht, p, s, stp, fl, m, hd), w) => cif (isP 4 x) (cif (p + cN x < n) (cif (12 - ht < sa (ks (p + cN x)) s (cN x)) (-1, (kp, yd, qk, pm, pg, (n, ks, ht, 0, 0, stp + 1, fl + 1, m, hd), w)) (nI (p + cN x), (kp, yd, qk, pm, pg, (n, ks, ht, p + cN x, sa (ks (p + cN x)) s (cN x), stp + 1, fl, m, hd), w))) (-103, S)) (-102, S)
noncomputable def spWould (S : ST) (x : Int32) : Int32 × ST := match S with
  | (_, _, _, _, _, (n, ks, _, p, s, _, _, _, _), _) => (cif (isP 4 x) (cif (p + cN x < n) (nI (sa (ks (p + cN x)) s (cN x))) (-103)) (-102), S)
noncomputable def spQuick (S : ST) (x : Int32) : Int32 × ST := match S with
  | (kp, yd, qk, pm, pg, (n, ks, ht, p, s, stp, fl, m, hd), w) => cif (x ≠ 0 ∧ (x < 10 ∨ 13 < x)) (-102, S) (cif (n = 0 ∨ 40 ≤ qk) (-103, S) (cif (x = 0) (dA (DD n ks (12 - ht) (12 * p + s))) (lA n ks (12 - ht) (12 * p + s) (cN x - 9)), (kp, yd, qk + 1, pm, pg, (n, ks, ht, p, s, stp, fl, m, hd), w)))
noncomputable def spHigh (S : ST) : Int32 × ST := match S with
  | (_, _, _, _, _, (n, ks, _, _, _, _, _, _, _), _) => (cif (n = 0) (-103) (hiF n ks 9), S)
noncomputable def spMend (S : ST) (x : Int32) : Int32 × ST := match S with
  | (_, _, _, _, _, (n, ks, ht, _, _, _, _, _, _), _) => (cif (isP 2 x) (cif (n = 0) (-103) (cif (x = 0) (mnF n ks (12 - ht) n).1 (mnS (mnF n ks (12 - ht) n)))) (-102), S)
noncomputable def spHear (S : ST) (x y z b : Int32) : Int32 × ST := match S with
  | (kp, yd, qk, pm, pg, (n, ks, ht, p, s, stp, fl, m, hd), w) => cif (isP n x) (cif ((y < 1 ∨ 3 < y) ∨ (z < 0 ∨ 11 < z)) (-102, S) (cif (m = 6) (-104, S) (nI (m + 1), (kp, yd, qk, pm, pg, (n, ks, ht, p, s, stp, fl, m + 1, fun j => if j = m then (cN x, cN y, cN z, cN b) else hd j), w)))) (-101, S)
def spForget (S : ST) : Int32 × ST := match S with
  | (kp, yd, qk, pm, pg, (n, ks, ht, p, s, stp, fl, m, hd), w) => (nI m, (kp, yd, qk, pm, pg, (n, ks, ht, p, s, stp, fl, 0, hd), w))
noncomputable def spHeights (S : ST) : Int32 × ST := match S with
  | (_, _, _, _, _, (n, ks, _, _, _, _, _, m, hd), _) => (cif (n = 0) (-103) (hB ks hd m), S)
noncomputable def spRaces (S : ST) (x y z : Int32) : Int32 × ST := match S with
  | (_, _, _, _, _, (n, ks, ht, p, s, _, _, _, _), _) => (cif ((x < 1 ∨ 60 < x) ∨ y < 0 ∨ (z < 0 ∨ 2 < z)) (-102) (cif (n = 0) (-103) (cif (z = 0) (nI (rI n ks ht (p, s, cN y, 0) (cN x)).2.2.2) (cif (z = 1) (nI (rI n ks ht (p, s, cN y, 0) (cN x)).1) (nI (rI n ks ht (p, s, cN y, 0) (cN x)).2.2.1)))), S)
noncomputable def spImage (S : ST) : Int32 × ST := match S with
  | (_, yd, qk, pm, pg, v, _) => cif (v.1 = 0) (-103, S) (v.2.2.2.2.2.1, (1, yd, qk, pm, pg, v, v))
noncomputable def spRestore (S : ST) : Int32 × ST := match S with
  | (kp, yd, qk, pm, pg, _, w) => cif (kp = 0) (-103, S) (w.2.2.2.2.2.1, (kp, yd, qk, pm, pg, w, w))
def ctA (S : ST) (k : Nat) : Int32 := match S with
  | (_, yd, qk, pm, _, (n, ks, ht, p, s, stp, fl, m, _), _) => if k = 0 then nI n else if k = 1 then nI ht else if k = 2 then nI p else if k = 3 then nI s else if k = 4 then stp else if k = 5 then fl else if k = 6 then (if n = 0 then 0 else nI (12 - ht)) else if k = 7 then nI (cntP (fun j => nI (ks j)) n) else if k = 8 then nI m else if k = 9 then nI pm else if k = 10 then nI yd else nI qk
noncomputable def spCount (S : ST) (x : Int32) : Int32 × ST := (cif (isP 12 x) (ctA S (cN x)) (-102), S)
/-! the digest -/
def dg6 (ks : Nat → Nat) (hd : HD) (m q : Nat) (z : Int64) : Nat → Int64
  | 0 => z
  | k + 1 => 31 * dg6 ks hd m q z k + (ab ks hd m q k).toInt64
def dgP (ks : Nat → Nat) (hd : HD) (m : Nat) : Nat → Int64
  | 0 => 1063
  | q + 1 => dg6 ks hd m q (dgP ks hd m q) 6
noncomputable def dgY (S : ST) : Int64 := match S with
  | (_, _, _, _, _, (n, ks, ht, p, s, _, _, m, hd), _) => cif (n = 0) (dgP ks hd m n) (31 * (31 * (31 * (31 * (31 * dgP ks hd m n + (nI (sa (ks p) s 0)).toInt64) + (hiF n ks 9).toInt64) + ((mnF n ks (12 - ht) n).1).toInt64) + (mnS (mnF n ks (12 - ht) n)).toInt64) + (hB ks hd m).toInt64)
def dgL (pg : Nat → Nat) (z : Int64) : Nat → Int64
  | 0 => z
  | i + 1 => 31 * dgL pg z i + (nI (pg i)).toInt64
def dgC (S : ST) (z : Int64) : Nat → Int64
  | 0 => z
  | k + 1 => 31 * dgC S z k + (ctA S k).toInt64
noncomputable def dgA (S : ST) : Int64 := match S with
  | (_, _, _, pm, pg, _, _) => dgC S (dgL pg (dgY S) pm) 12
/-- what holds of every state that comes about -/
def Sok (S : ST) : Prop := match S with
  | (kp, yd, qk, pm, pg, v, w) => svok v ∧ kp ≤ 1 ∧ (kp = 1 → svok w ∧ w.1 = v.1 ∧ 0 < v.1) ∧ qk ≤ 40 ∧ pm ≤ 16 ∧ (∀ j, j < pm → pg j < 128) ∧ yd < 1000000
theorem isP_no {n : Nat} (hn : n < 2 ^ 31) {x : Int32} (h : x < 0 ∨ nI n ≤ x) : ¬ isP n x := by
  rintro ⟨q, hq, rfl⟩
  rcases h with h | h
  · exact nI_pos (by omega) h
  · exact nI_ge hq hn h
theorem isP_of {n : Nat} (hn : n < 2 ^ 31) {x : Int32} (h1 : ¬ x < 0) (h2 : ¬ nI n ≤ x) : isP n x := by
  obtain ⟨p, hp, e, -⟩ := pk_mu h1 h2 hn
  exact ⟨p, hp, e⟩
end
section
/-! THE CLASS: its cells are 0 to 33 -/
def yO (kp yd qk : Nat) (mp ms : Int32) : AC := .inl (5, [.ref 1, .ref 3, .ref 11, .ref 19, .ref 27, .ref 29, .int (nI kp), .int (nI yd), .int (nI qk), .int mp, .int ms])
def CJ (h : AH) (S : ST) (mp ms : Int32) : Prop := match S with
  | (kp, yd, qk, pm, pg, v, w) => h 0 = some (yO kp yd qk mp ms) ∧ pgC h 1 pm pg ∧ sc h 3 v ∧ (∃ u, sc h 11 u ∧ (kp = 1 → u = w)) ∧ (∃ u, sc h 19 u) ∧ (∃ n f, gr h 27 n f) ∧ rtA h 29
def CI (h : AH) (S : ST) : Prop := ∃ mp ms, CJ h S mp ms
section CIS
variable {h h' : AH} {kp yd qk pm : Nat} {pg : Nat → Nat} {v w : SV} {mp ms : Int32}
theorem CJ_page {pm' : Nat} {pg' : Nat → Nat} (g : CJ h (kp, yd, qk, pm, pg, v, w) mp ms) (hp : pgC h' 1 pm' pg') (e : fr h h' 1 3) : CJ h' (kp, yd, qk, pm', pg', v, w) mp ms := by
  obtain ⟨g1, g2, g3, ⟨u, g4, g4'⟩, ⟨u2, g5⟩, ⟨n, f, g6⟩, g7⟩ := g
  exact ⟨(e 0 (by omega)).trans g1, hp, sc_fr g3 e (by omega), ⟨u, sc_fr g4 e (by omega), g4'⟩, ⟨u2, sc_fr g5 e (by omega)⟩, ⟨n, f, gr_fr g6 e (by omega)⟩, rtA_fr g7 e (by omega)⟩
theorem CJ_now {v' : SV} (g : CJ h (kp, yd, qk, pm, pg, v, w) mp ms) (hp : sc h' 3 v') (e : fr h h' 3 11) : CJ h' (kp, yd, qk, pm, pg, v', w) mp ms := by
  obtain ⟨g1, g2, g3, ⟨u, g4, g4'⟩, ⟨u2, g5⟩, ⟨n, f, g6⟩, g7⟩ := g
  exact ⟨(e 0 (by omega)).trans g1, pgC_fr g2 e (by omega), hp, ⟨u, sc_fr g4 e (by omega), g4'⟩, ⟨u2, sc_fr g5 e (by omega)⟩, ⟨n, f, gr_fr g6 e (by omega)⟩, rtA_fr g7 e (by omega)⟩
theorem CJ_obj {kp' yd' qk' : Nat} {mp' ms' : Int32} (hk : kp' = 1 → kp = 1) (g : CJ h (kp, yd, qk, pm, pg, v, w) mp ms) : CJ (hset h 0 (yO kp' yd' qk' mp' ms')) (kp', yd', qk', pm, pg, v, w) mp' ms' := by
  obtain ⟨g1, g2, g3, ⟨u, g4, g4'⟩, ⟨u2, g5⟩, ⟨n, f, g6⟩, g7⟩ := g
  have e : fr h (hset h 0 (yO kp' yd' qk' mp' ms')) 0 1 := fr_set (by omega) (by omega)
  exact ⟨hset_eq, pgC_fr g2 e (by omega), sc_fr g3 e (by omega), ⟨u, sc_fr g4 e (by omega), fun q => g4' (hk q)⟩, ⟨u2, sc_fr g5 e (by omega)⟩, ⟨n, f, gr_fr g6 e (by omega)⟩, rtA_fr g7 e (by omega)⟩
theorem CJ_kept {w' : SV} (g : CJ h (kp, yd, qk, pm, pg, v, w) mp ms) (hp : sc h' 11 w') (e : fr h h' 11 19) : CJ h' (kp, yd, qk, pm, pg, v, w') mp ms := by
  obtain ⟨g1, g2, g3, ⟨u, g4, g4'⟩, ⟨u2, g5⟩, ⟨n, f, g6⟩, g7⟩ := g
  exact ⟨(e 0 (by omega)).trans g1, pgC_fr g2 e (by omega), sc_fr g3 e (by omega), ⟨w', hp, fun _ => rfl⟩, ⟨u2, sc_fr g5 e (by omega)⟩, ⟨n, f, gr_fr g6 e (by omega)⟩, rtA_fr g7 e (by omega)⟩
theorem CJ_raced {u' : SV} (g : CJ h (kp, yd, qk, pm, pg, v, w) mp ms) (hp : sc h' 19 u') (e : fr h h' 19 27) : CJ h' (kp, yd, qk, pm, pg, v, w) mp ms := by
  obtain ⟨g1, g2, g3, ⟨u, g4, g4'⟩, ⟨u2, g5⟩, ⟨n, f, g6⟩, g7⟩ := g
  exact ⟨(e 0 (by omega)).trans g1, pgC_fr g2 e (by omega), sc_fr g3 e (by omega), ⟨u, sc_fr g4 e (by omega), g4'⟩, ⟨u', hp⟩, ⟨n, f, gr_fr g6 e (by omega)⟩, rtA_fr g7 e (by omega)⟩
theorem CJ_mend {n' : Nat} {f' : Nat → Int32} (g : CJ h (kp, yd, qk, pm, pg, v, w) mp ms) (hp : gr h' 27 n' f') (e : fr h h' 27 29) : CJ h' (kp, yd, qk, pm, pg, v, w) mp ms := by
  obtain ⟨g1, g2, g3, ⟨u, g4, g4'⟩, ⟨u2, g5⟩, ⟨n, f, g6⟩, g7⟩ := g
  exact ⟨(e 0 (by omega)).trans g1, pgC_fr g2 e (by omega), sc_fr g3 e (by omega), ⟨u, sc_fr g4 e (by omega), g4'⟩, ⟨u2, sc_fr g5 e (by omega)⟩, ⟨n', f', hp⟩, rtA_fr g7 e (by omega)⟩
theorem CJ_route (g : CJ h (kp, yd, qk, pm, pg, v, w) mp ms) (hp : rtA h' 29) (e : fr h h' 29 34) : CJ h' (kp, yd, qk, pm, pg, v, w) mp ms := by
  obtain ⟨g1, g2, g3, ⟨u, g4, g4'⟩, ⟨u2, g5⟩, ⟨n, f, g6⟩, g7⟩ := g
  exact ⟨(e 0 (by omega)).trans g1, pgC_fr g2 e (by omega), sc_fr g3 e (by omega), ⟨u, sc_fr g4 e (by omega), g4'⟩, ⟨u2, sc_fr g5 e (by omega)⟩, ⟨n, f, gr_fr g6 e (by omega)⟩, hp⟩
theorem CJ_fr {S : ST} (g : CJ h S mp ms) (e : fr h h' 34 47) : CJ h' S mp ms := by
  obtain ⟨kp, yd, qk, pm, pg, v, w⟩ := S
  obtain ⟨g1, g2, g3, ⟨u, g4, g4'⟩, ⟨u2, g5⟩, ⟨n, f, g6⟩, g7⟩ := g
  exact ⟨(e 0 (by omega)).trans g1, pgC_fr g2 e (by omega), sc_fr g3 e (by omega), ⟨u, sc_fr g4 e (by omega), g4'⟩, ⟨u2, sc_fr g5 e (by omega)⟩, ⟨n, f, gr_fr g6 e (by omega)⟩, rtA_fr g7 e (by omega)⟩
end CIS
theorem i0 (x : Int32) (n : Nat) (hn : n < 2 ^ 31) : isP n x ∨ ¬ isP n x := Classical.em _
set_option maxRecDepth 100000 in
set_option maxHeartbeats 4000000 in
theorem C_hasYard {h : AH} {K : Option Value → AH → Prop} {kp yd qk pm n ht p s : Nat} {pg ks : Nat → Nat} {stp fl : Int32} {m : Nat} {hd : HD} {w : SV} {mp ms : Int32} (g : CJ h (kp, yd, qk, pm, pg, (n, ks, ht, p, s, stp, fl, m, hd), w) mp ms) (ok : Sok (kp, yd, qk, pm, pg, (n, ks, ht, p, s, stp, fl, m, hd), w)) (hy : 0 < n → K (some (.int 1)) h) (hno : n = 0 → K (some (.int 0)) h) : aX6_hasYard 1 [.ref 0] h K := by
  obtain ⟨h0, hpg, hsc, ⟨u, hk, hku⟩, ⟨u2, hrc⟩, ⟨nm, fm, hme⟩, hro⟩ := id g
  obtain ⟨h3, ⟨f, hgr, hks⟩, hhe⟩ := id hsc
  obtain ⟨⟨ok1, ok2, ok3, ok4, ok5, ok6, ok7, ok8⟩, okp, okw, okq, okpm, okpg, oky⟩ := id ok
  have h1 := hpg.1
  have h4 := hgr.1
  have h6 := hhe.1
  unfold yO at h0
  refine AM.of [some (.ref 0)] pn_X6_hasYard rfl (Nat.le_of_ble_eq_true rfl) (fun X hX hE => ?_)
  refine AW_aload_n 1 hX dX6_hasYard_0 rfl rfl ?_
  refine AW_get 4 hX dX6_hasYard_1 rfl fl_X6_19 (by first | assumption | exact hset_eq | exact (hset_ne (by omega)).trans (by first | assumption | exact hset_eq | exact (hset_ne (by omega)).trans (by first | assumption | exact hset_eq | exact (hset_ne (by omega)).trans (by first | assumption | exact hset_eq | exact (hset_ne (by omega)).trans (by first | assumption | exact hset_eq))))) rfl ?_
  refine AW_get 7 hX dX6_hasYard_4 rfl fl_X6_82 (by first | assumption | exact hset_eq | exact (hset_ne (by omega)).trans (by first | assumption | exact hset_eq | exact (hset_ne (by omega)).trans (by first | assumption | exact hset_eq | exact (hset_ne (by omega)).trans (by first | assumption | exact hset_eq | exact (hset_ne (by omega)).trans (by first | assumption | exact hset_eq))))) rfl ?_
  refine AW_cV (As := []) 10 hX dX6_hasYard_7 rfl ml_X6_85 mw_X0_places (by first | assumption | exact hset_eq | exact (hset_ne (by omega)).trans (by first | assumption | exact hset_eq | exact (hset_ne (by omega)).trans (by first | assumption | exact hset_eq | exact (hset_ne (by omega)).trans (by first | assumption | exact hset_eq | exact (hset_ne (by omega)).trans (by first | assumption | exact hset_eq))))) (by decide) rfl rfl rfl (Nat.le_of_ble_eq_true rfl) (by decide) ⟨(Nat.le_refl _), (Nat.le_refl _)⟩ (c_places h4 ?_)
  refine AW_if_le 13 17 hX dX6_hasYard_10 rfl (by decide) (fun c10 => ?_) (fun c10 => ?_)
  · refine AW_iconst 18 hX dX6_hasYard_17 rfl ic_0 ?_
    refine AW_iret hX hE dX6_hasYard_18 rfl (Nat.le_refl _) (Nat.le_refl _) ?_
    exact hno (by have := iLe (b := 0) c10; omega)
  · refine AW_iconst 14 hX dX6_hasYard_13 rfl ic_1 ?_
    refine AW_goto 18 hX dX6_hasYard_14 (by decide) ?_
    refine AW_iret hX hE dX6_hasYard_18 rfl (Nat.le_refl _) (Nat.le_refl _) ?_
    exact hy (iNle (b := 0) c10)
set_option maxRecDepth 100000 in
set_option maxHeartbeats 4000000 in
theorem C_refusal {h : AH} {K : Option Value → AH → Prop} {kp yd qk pm n ht p s : Nat} {pg ks : Nat → Nat} {stp fl : Int32} {m : Nat} {hd : HD} {w : SV} {mp ms : Int32} (g : CJ h (kp, yd, qk, pm, pg, (n, ks, ht, p, s, stp, fl, m, hd), w) mp ms) (ok : Sok (kp, yd, qk, pm, pg, (n, ks, ht, p, s, stp, fl, m, hd), w)) (x : Int32) (hO : ¬ isP 4 x → K (some (.int (-102))) h) (hS : ∀ far, far ≤ 3 → x = nI far → ¬ p + far < n → K (some (.int (-103))) h) (hY : ∀ far, far ≤ 3 → x = nI far → p + far < n → K (some (.int 0)) h) : aX6_refusalOfStep 1 [.ref 0, .int x] h K := by
  obtain ⟨h0, hpg, hsc, ⟨u, hk, hku⟩, ⟨u2, hrc⟩, ⟨nm, fm, hme⟩, hro⟩ := id g
  obtain ⟨h3, ⟨f, hgr, hks⟩, hhe⟩ := id hsc
  obtain ⟨⟨ok1, ok2, ok3, ok4, ok5, ok6, ok7, ok8⟩, okp, okw, okq, okpm, okpg, oky⟩ := id ok
  have h1 := hpg.1
  have h4 := hgr.1
  have h6 := hhe.1
  unfold yO at h0
  have hp12 : p < 13 := by
    rcases Nat.eq_zero_or_pos n with e | e
    · have := ok8 e; omega
    · have := ok7 e; omega
  refine AM.of [some (.ref 0), some (.int x)] pn_X6_refusalOfStep rfl (Nat.le_of_ble_eq_true rfl) (fun X hX hE => ?_)
  refine AW_iload_n 1 hX dX6_refusalOfStep_0 rfl rfl ?_
  refine AW_if_lt 4 9 hX dX6_refusalOfStep_1 rfl (by decide) (fun c1 => ?_) (fun c1 => ?_)
  · refine AW_bipush 11 hX dX6_refusalOfStep_9 rfl bp_m102 ?_
    refine AW_iret hX hE dX6_refusalOfStep_11 rfl (Nat.le_refl _) (Nat.le_refl _) ?_
    exact hO (isP_no (by decide) (Or.inl c1))
  · refine AW_iload_n 5 hX dX6_refusalOfStep_4 rfl rfl ?_
    refine AW_iconst 6 hX dX6_refusalOfStep_5 rfl ic_3 ?_
    refine AW_icmp_le 9 12 hX dX6_refusalOfStep_6 rfl (by decide) (fun c6 => ?_) (fun c6 => ?_)
    · obtain ⟨far, hf, ef⟩ := nI_of2 (M := 3) (n := 3) (by decide) c1 c6
      subst ef
      refine AW_aload_n 13 hX dX6_refusalOfStep_12 rfl rfl ?_
      refine AW_get 16 hX dX6_refusalOfStep_13 rfl fl_X6_19 (by first | assumption | exact hset_eq | exact (hset_ne (by omega)).trans (by first | assumption | exact hset_eq | exact (hset_ne (by omega)).trans (by first | assumption | exact hset_eq | exact (hset_ne (by omega)).trans (by first | assumption | exact hset_eq | exact (hset_ne (by omega)).trans (by first | assumption | exact hset_eq))))) rfl ?_
      refine AW_get 19 hX dX6_refusalOfStep_16 rfl fl_X6_82 (by first | assumption | exact hset_eq | exact (hset_ne (by omega)).trans (by first | assumption | exact hset_eq | exact (hset_ne (by omega)).trans (by first | assumption | exact hset_eq | exact (hset_ne (by omega)).trans (by first | assumption | exact hset_eq | exact (hset_ne (by omega)).trans (by first | assumption | exact hset_eq))))) rfl ?_
      refine AW_aload_n 20 hX dX6_refusalOfStep_19 rfl rfl ?_
      refine AW_get 23 hX dX6_refusalOfStep_20 rfl fl_X6_19 (by first | assumption | exact hset_eq | exact (hset_ne (by omega)).trans (by first | assumption | exact hset_eq | exact (hset_ne (by omega)).trans (by first | assumption | exact hset_eq | exact (hset_ne (by omega)).trans (by first | assumption | exact hset_eq | exact (hset_ne (by omega)).trans (by first | assumption | exact hset_eq))))) rfl ?_
      refine AW_get 26 hX dX6_refusalOfStep_23 rfl fl_X6_136 (by first | assumption | exact hset_eq | exact (hset_ne (by omega)).trans (by first | assumption | exact hset_eq | exact (hset_ne (by omega)).trans (by first | assumption | exact hset_eq | exact (hset_ne (by omega)).trans (by first | assumption | exact hset_eq | exact (hset_ne (by omega)).trans (by first | assumption | exact hset_eq))))) rfl ?_
      refine AW_iload_n 27 hX dX6_refusalOfStep_26 rfl rfl ?_
      refine AW_iadd 28 hX dX6_refusalOfStep_27 rfl ?_
      rw [nI_add]
      refine AW_cV (As := [_]) 31 hX dX6_refusalOfStep_28 rfl ml_X6_88 mw_X0_has (by first | assumption | exact hset_eq | exact (hset_ne (by omega)).trans (by first | assumption | exact hset_eq | exact (hset_ne (by omega)).trans (by first | assumption | exact hset_eq | exact (hset_ne (by omega)).trans (by first | assumption | exact hset_eq | exact (hset_ne (by omega)).trans (by first | assumption | exact hset_eq))))) (by decide) rfl rfl rfl (Nat.le_of_ble_eq_true rfl) (by decide) ⟨(Nat.le_refl _), (Nat.le_refl _)⟩ (c_has hgr _ (fun q hq e => ?_) (fun hno => ?_))
      · refine AW_if_eq 34 38 hX dX6_refusalOfStep_31 rfl (by decide) (fun c31 => absurd c31 (by decide)) (fun c31 => ?_)
        refine AW_iconst 35 hX dX6_refusalOfStep_34 rfl ic_0 ?_
        refine AW_goto 40 hX dX6_refusalOfStep_35 (by decide) ?_
        refine AW_iret hX hE dX6_refusalOfStep_40 rfl (Nat.le_refl _) (Nat.le_refl _) ?_
        exact hY far hf rfl (by have := iEq e; omega)
      · refine AW_if_eq 34 38 hX dX6_refusalOfStep_31 rfl (by decide) (fun c31 => ?_) (fun c31 => absurd rfl c31)
        refine AW_bipush 40 hX dX6_refusalOfStep_38 rfl bp_m103 ?_
        refine AW_iret hX hE dX6_refusalOfStep_40 rfl (Nat.le_refl _) (Nat.le_refl _) ?_
        exact hS far hf rfl (fun q => hno _ q rfl)
    · refine AW_bipush 11 hX dX6_refusalOfStep_9 rfl bp_m102 ?_
      refine AW_iret hX hE dX6_refusalOfStep_11 rfl (Nat.le_refl _) (Nat.le_refl _) ?_
      exact hO (isP_no (n := 4) (by decide) (Or.inr (by have h1 := Int32.not_le.mp c6; exact Int32.le_iff_toInt_le.mpr (by have h2 := Int32.lt_iff_toInt_lt.mp h1; show (4 : Int) ≤ _; have h3 : (3 : Int32).toInt = 3 := rfl; rw [h3] at h2; omega))))
theorem isP_nx {N : Nat} {x : Int32} (hN : N + 1 < 2 ^ 31) (h : x < 0 ∨ nI N < x) : ¬ isP (N + 1) x := by
  rintro ⟨q, hq, rfl⟩
  rcases h with h | h
  · exact nI_pos (by omega) h
  · exact nI_nlt (a := N) (b := q) (by omega) (by omega) h
theorem rg {x : Int32} (lo hi : Nat) (hh : hi < 2 ^ 31) (hl : lo < 2 ^ 31) (h1 : ¬ x < nI lo) (h2 : ¬ nI hi < x) : ∃ q, lo ≤ q ∧ q ≤ hi ∧ x = nI q := by
  have e1 := Int32.le_iff_toInt_le.mp (Int32.not_lt.mp h1)
  have e2 := Int32.le_iff_toInt_le.mp (Int32.not_lt.mp h2)
  rw [nI_toInt hl] at e1
  rw [nI_toInt hh] at e2
  refine ⟨x.toInt.toNat, by omega, by omega, Int32.toInt_inj.mp ?_⟩
  rw [nI_toInt (by omega)]
  omega
theorem rgI {x : Int32} {lo hi q : Nat} (hh : hi < 2 ^ 31) (e : x = nI q) (h1 : lo ≤ q) (h2 : q ≤ hi) : ¬ (x < nI lo ∨ nI hi < x) := by
  subst e
  rintro (h | h)
  · exact nI_nlt h1 (by omega) h
  · exact nI_nlt h2 hh h
set_option maxRecDepth 100000 in
set_option maxHeartbeats 4000000 in
theorem C_letter {h : AH} {K : Option Value → AH → Prop} {kp yd qk pm n ht p s : Nat} {pg ks : Nat → Nat} {stp fl : Int32} {m : Nat} {hd : HD} {w : SV} {mp ms : Int32} (g : CJ h (kp, yd, qk, pm, pg, (n, ks, ht, p, s, stp, fl, m, hd), w) mp ms) (ok : Sok (kp, yd, qk, pm, pg, (n, ks, ht, p, s, stp, fl, m, hd), w)) (x : Int32) (hK : ∀ h' : AH, CI h' (spLetter (kp, yd, qk, pm, pg, (n, ks, ht, p, s, stp, fl, m, hd), w) x).2 → fr h h' 0 34 → K (some (.int (spLetter (kp, yd, qk, pm, pg, (n, ks, ht, p, s, stp, fl, m, hd), w) x).1)) h') : aX6_letter 1 [.ref 0, .int x] h K := by
  obtain ⟨h0, hpg, hsc, ⟨u, hk, hku⟩, ⟨u2, hrc⟩, ⟨nm, fm, hme⟩, hro⟩ := id g
  obtain ⟨h3, ⟨f, hgr, hks⟩, hhe⟩ := id hsc
  obtain ⟨⟨ok1, ok2, ok3, ok4, ok5, ok6, ok7, ok8⟩, okp, okw, okq, okpm, okpg, oky⟩ := id ok
  have h1 := hpg.1
  have h4 := hgr.1
  have h6 := hhe.1
  unfold yO at h0
  refine AM.of [some (.ref 0), some (.int x)] pn_X6_letter rfl (Nat.le_of_ble_eq_true rfl) (fun X hX hE => ?_)
  refine AW_iload_n 1 hX dX6_letter_0 rfl rfl ?_
  refine AW_bipush 3 hX dX6_letter_1 rfl bp_32 ?_
  refine AW_icmp_lt 6 12 hX dX6_letter_3 rfl (by decide) (fun c3 => ?_) (fun c3 => ?_)
  · refine AW_bipush 14 hX dX6_letter_12 rfl bp_m102 ?_
    refine AW_iret hX hE dX6_letter_14 rfl (Nat.le_refl _) (Nat.le_refl _) ?_
    have e : spLetter (kp, yd, qk, pm, pg, (n, ks, ht, p, s, stp, fl, m, hd), w) x = (-102, (kp, yd, qk, pm, pg, (n, ks, ht, p, s, stp, fl, m, hd), w)) := by
      show cif _ _ _ = _
      rw [cif_pos (Or.inl c3)]
    rw [e] at hK
    exact hK h ⟨mp, ms, g⟩ (fr_rf _ _ _)
  · refine AW_iload_n 7 hX dX6_letter_6 rfl rfl ?_
    refine AW_bipush 9 hX dX6_letter_7 rfl bp_126 ?_
    refine AW_icmp_le 12 15 hX dX6_letter_9 rfl (by decide) (fun c9 => ?_) (fun c9 => ?_)
    · obtain ⟨c, hc1, hc2, ec⟩ := rg (x := x) 32 126 (by decide) (by decide) c3 (Int32.not_lt.mpr c9)
      subst ec
      refine AW_aload_n 16 hX dX6_letter_15 rfl rfl ?_
      refine AW_get 19 hX dX6_letter_16 rfl fl_X6_10 (by first | assumption | exact hset_eq | exact (hset_ne (by omega)).trans (by first | assumption | exact hset_eq | exact (hset_ne (by omega)).trans (by first | assumption | exact hset_eq | exact (hset_ne (by omega)).trans (by first | assumption | exact hset_eq | exact (hset_ne (by omega)).trans (by first | assumption | exact hset_eq))))) rfl ?_
      refine AW_iload_n 20 hX dX6_letter_19 rfl rfl ?_
      refine AW_cV (As := [_]) 23 hX dX6_letter_20 rfl ml_X6_60 mw_X3_append (by first | assumption | exact hset_eq | exact (hset_ne (by omega)).trans (by first | assumption | exact hset_eq | exact (hset_ne (by omega)).trans (by first | assumption | exact hset_eq | exact (hset_ne (by omega)).trans (by first | assumption | exact hset_eq | exact (hset_ne (by omega)).trans (by first | assumption | exact hset_eq))))) (by decide) rfl rfl rfl (Nat.le_of_ble_eq_true rfl) (by decide) ⟨(Nat.le_refl _), (Nat.le_refl _)⟩ (c_pappend hpg c (by omega) (fun e16 => ?_) (fun h' hm16 hp' hfr' => ?_))
      · refine AW_if_eq 26 36 hX dX6_letter_23 rfl (by decide) (fun c23 => ?_) (fun c23 => absurd rfl c23)
        refine AW_bipush 38 hX dX6_letter_36 rfl bp_m104 ?_
        refine AW_iret hX hE dX6_letter_38 rfl (Nat.le_refl _) (Nat.le_refl _) ?_
        have e : spLetter (kp, yd, qk, pm, pg, (n, ks, ht, p, s, stp, fl, m, hd), w) (nI c) = (-104, (kp, yd, qk, pm, pg, (n, ks, ht, p, s, stp, fl, m, hd), w)) := by
          show cif _ _ _ = _
          rw [cif_neg (show ¬ (nI c < 32 ∨ 126 < nI c) from rgI (lo := 32) (hi := 126) (by decide) rfl hc1 hc2), cif_pos e16]
        rw [e] at hK
        exact hK h ⟨mp, ms, g⟩ (fr_rf _ _ _)
      · have h1' := hp'.1
        have h0' := (hfr' 0 (by omega)).trans h0
        refine AW_if_eq 26 36 hX dX6_letter_23 rfl (by decide) (fun c23 => absurd c23 (by decide)) (fun c23 => ?_)
        refine AW_aload_n 27 hX dX6_letter_26 rfl rfl ?_
        refine AW_get 30 hX dX6_letter_27 rfl fl_X6_10 (by first | assumption | exact hset_eq | exact (hset_ne (by omega)).trans (by first | assumption | exact hset_eq | exact (hset_ne (by omega)).trans (by first | assumption | exact hset_eq | exact (hset_ne (by omega)).trans (by first | assumption | exact hset_eq | exact (hset_ne (by omega)).trans (by first | assumption | exact hset_eq))))) rfl ?_
        refine AW_cV (As := []) 33 hX dX6_letter_30 rfl ml_X6_64 mw_X3_size (by first | assumption | exact hset_eq | exact (hset_ne (by omega)).trans (by first | assumption | exact hset_eq | exact (hset_ne (by omega)).trans (by first | assumption | exact hset_eq | exact (hset_ne (by omega)).trans (by first | assumption | exact hset_eq | exact (hset_ne (by omega)).trans (by first | assumption | exact hset_eq))))) (by decide) rfl rfl rfl (Nat.le_of_ble_eq_true rfl) (by decide) ⟨(Nat.le_refl _), (Nat.le_refl _)⟩ (c_psize hp' ?_)
        refine AW_goto 38 hX dX6_letter_33 (by decide) ?_
        refine AW_iret hX hE dX6_letter_38 rfl (Nat.le_refl _) (Nat.le_refl _) ?_
        have e : spLetter (kp, yd, qk, pm, pg, (n, ks, ht, p, s, stp, fl, m, hd), w) (nI c) = (nI (pm + 1), (kp, yd, qk, pm + 1, fun j => if j = pm then c else pg j, (n, ks, ht, p, s, stp, fl, m, hd), w)) := by
          show cif _ _ _ = _
          rw [cif_neg (show ¬ (nI c < 32 ∨ 126 < nI c) from rgI (lo := 32) (hi := 126) (by decide) rfl hc1 hc2), cif_neg (by omega), cN_nI (by omega)]
        rw [e] at hK
        exact hK h' ⟨mp, ms, CJ_page g hp' hfr'⟩ (fr_wide hfr' (by omega) (by omega))
    · refine AW_bipush 14 hX dX6_letter_12 rfl bp_m102 ?_
      refine AW_iret hX hE dX6_letter_14 rfl (Nat.le_refl _) (Nat.le_refl _) ?_
      have e : spLetter (kp, yd, qk, pm, pg, (n, ks, ht, p, s, stp, fl, m, hd), w) x = (-102, (kp, yd, qk, pm, pg, (n, ks, ht, p, s, stp, fl, m, hd), w)) := by
        show cif _ _ _ = _
        rw [cif_pos (Or.inr (Int32.not_le.mp c9))]
      rw [e] at hK
      exact hK h ⟨mp, ms, g⟩ (fr_rf _ _ _)
set_option maxRecDepth 100000 in
set_option maxHeartbeats 4000000 in
theorem C_blank {h : AH} {K : Option Value → AH → Prop} {kp yd qk pm n ht p s : Nat} {pg ks : Nat → Nat} {stp fl : Int32} {m : Nat} {hd : HD} {w : SV} {mp ms : Int32} (g : CJ h (kp, yd, qk, pm, pg, (n, ks, ht, p, s, stp, fl, m, hd), w) mp ms) (ok : Sok (kp, yd, qk, pm, pg, (n, ks, ht, p, s, stp, fl, m, hd), w)) (hK : ∀ h' : AH, CI h' (spBlank (kp, yd, qk, pm, pg, (n, ks, ht, p, s, stp, fl, m, hd), w)).2 → fr h h' 0 34 → K (some (.int (spBlank (kp, yd, qk, pm, pg, (n, ks, ht, p, s, stp, fl, m, hd), w)).1)) h') : aX6_blank 1 [.ref 0] h K := by
  obtain ⟨h0, hpg, hsc, ⟨u, hk, hku⟩, ⟨u2, hrc⟩, ⟨nm, fm, hme⟩, hro⟩ := id g
  obtain ⟨h3, ⟨f, hgr, hks⟩, hhe⟩ := id hsc
  obtain ⟨⟨ok1, ok2, ok3, ok4, ok5, ok6, ok7, ok8⟩, okp, okw, okq, okpm, okpg, oky⟩ := id ok
  have h1 := hpg.1
  have h4 := hgr.1
  have h6 := hhe.1
  unfold yO at h0
  refine AM.of [some (.ref 0)] pn_X6_blank rfl (Nat.le_of_ble_eq_true rfl) (fun X hX hE => ?_)
  refine AW_aload_n 1 hX dX6_blank_0 rfl rfl ?_
  refine AW_get 4 hX dX6_blank_1 rfl fl_X6_10 (by first | assumption | exact hset_eq | exact (hset_ne (by omega)).trans (by first | assumption | exact hset_eq | exact (hset_ne (by omega)).trans (by first | assumption | exact hset_eq | exact (hset_ne (by omega)).trans (by first | assumption | exact hset_eq | exact (hset_ne (by omega)).trans (by first | assumption | exact hset_eq))))) rfl ?_
  refine AW_cV (As := []) 7 hX dX6_blank_4 rfl ml_X6_68 mw_X3_clear (by first | assumption | exact hset_eq | exact (hset_ne (by omega)).trans (by first | assumption | exact hset_eq | exact (hset_ne (by omega)).trans (by first | assumption | exact hset_eq | exact (hset_ne (by omega)).trans (by first | assumption | exact hset_eq | exact (hset_ne (by omega)).trans (by first | assumption | exact hset_eq))))) (by decide) rfl rfl rfl (Nat.le_of_ble_eq_true rfl) (by decide) ⟨(Nat.le_refl _), (Nat.le_refl _)⟩ (c_pclear hpg (fun h' hp' hfr' => ?_))
  refine AW_iret hX hE dX6_blank_7 rfl (Nat.le_refl _) (Nat.le_refl _) ?_
  exact hK h' ⟨mp, ms, CJ_page g hp' hfr'⟩ (fr_wide hfr' (by omega) (by omega))
set_option maxRecDepth 100000 in
set_option maxHeartbeats 4000000 in
theorem C_fault {h : AH} {K : Option Value → AH → Prop} {kp yd qk pm n ht p s : Nat} {pg ks : Nat → Nat} {stp fl : Int32} {m : Nat} {hd : HD} {w : SV} {mp ms : Int32} (g : CJ h (kp, yd, qk, pm, pg, (n, ks, ht, p, s, stp, fl, m, hd), w) mp ms) (ok : Sok (kp, yd, qk, pm, pg, (n, ks, ht, p, s, stp, fl, m, hd), w)) (hK : ∀ h' : AH, CI h' (spFault (kp, yd, qk, pm, pg, (n, ks, ht, p, s, stp, fl, m, hd), w)).2 → fr h h' 0 34 → K (some (.int (spFault (kp, yd, qk, pm, pg, (n, ks, ht, p, s, stp, fl, m, hd), w)).1)) h') : aX6_fault 7 [.ref 0] h K := by
  obtain ⟨h0, hpg, hsc, ⟨u, hk, hku⟩, ⟨u2, hrc⟩, ⟨nm, fm, hme⟩, hro⟩ := id g
  obtain ⟨h3, ⟨f, hgr, hks⟩, hhe⟩ := id hsc
  obtain ⟨⟨ok1, ok2, ok3, ok4, ok5, ok6, ok7, ok8⟩, okp, okw, okq, okpm, okpg, oky⟩ := id ok
  have h1 := hpg.1
  have h4 := hgr.1
  have h6 := hhe.1
  unfold yO at h0
  refine AM.of [some (.ref 0)] pn_X6_fault rfl (Nat.le_of_ble_eq_true rfl) (fun X hX hE => ?_)
  refine AW_aload_n 1 hX dX6_fault_0 rfl rfl ?_
  refine AW_get 4 hX dX6_fault_1 rfl fl_X6_10 (by first | assumption | exact hset_eq | exact (hset_ne (by omega)).trans (by first | assumption | exact hset_eq | exact (hset_ne (by omega)).trans (by first | assumption | exact hset_eq | exact (hset_ne (by omega)).trans (by first | assumption | exact hset_eq | exact (hset_ne (by omega)).trans (by first | assumption | exact hset_eq))))) rfl ?_
  refine AW_cV (As := []) 7 hX dX6_fault_4 rfl ml_X6_71 mw_X3_firstWrong (by first | assumption | exact hset_eq | exact (hset_ne (by omega)).trans (by first | assumption | exact hset_eq | exact (hset_ne (by omega)).trans (by first | assumption | exact hset_eq | exact (hset_ne (by omega)).trans (by first | assumption | exact hset_eq | exact (hset_ne (by omega)).trans (by first | assumption | exact hset_eq))))) (by decide) rfl rfl rfl (Nat.le_of_ble_eq_true rfl) (by decide) ⟨(Nat.le_refl _), (Nat.le_refl _)⟩ (c_firstWrong hpg ?_)
  refine AW_iret hX hE dX6_fault_7 rfl (Nat.le_refl _) (Nat.le_refl _) ?_
  exact hK h ⟨mp, ms, g⟩ (fr_rf _ _ _)
set_option maxRecDepth 100000 in
set_option maxHeartbeats 4000000 in
theorem C_yard {h : AH} {K : Option Value → AH → Prop} {kp yd qk pm n ht p s : Nat} {pg ks : Nat → Nat} {stp fl : Int32} {m : Nat} {hd : HD} {w : SV} {mp ms : Int32} (g : CJ h (kp, yd, qk, pm, pg, (n, ks, ht, p, s, stp, fl, m, hd), w) mp ms) (ok : Sok (kp, yd, qk, pm, pg, (n, ks, ht, p, s, stp, fl, m, hd), w)) (hK : ∀ h' : AH, CI h' (spYard (kp, yd, qk, pm, pg, (n, ks, ht, p, s, stp, fl, m, hd), w)).2 → fr h h' 0 34 → K (some (.int (spYard (kp, yd, qk, pm, pg, (n, ks, ht, p, s, stp, fl, m, hd), w)).1)) h') : aX6_yard 8 [.ref 0] h K := by
  obtain ⟨h0, hpg, hsc, ⟨u, hk, hku⟩, ⟨u2, hrc⟩, ⟨nm, fm, hme⟩, hro⟩ := id g
  obtain ⟨h3, ⟨f, hgr, hks⟩, hhe⟩ := id hsc
  obtain ⟨⟨ok1, ok2, ok3, ok4, ok5, ok6, ok7, ok8⟩, okp, okw, okq, okpm, okpg, oky⟩ := id ok
  have h1 := hpg.1
  have h4 := hgr.1
  have h6 := hhe.1
  unfold yO at h0
  refine AM.of [some (.ref 0)] pn_X6_yard rfl (Nat.le_of_ble_eq_true rfl) (fun X hX hE => ?_)
  refine AW_aload_n 1 hX dX6_yard_0 rfl rfl ?_
  refine AW_get 4 hX dX6_yard_1 rfl fl_X6_10 (by first | assumption | exact hset_eq | exact (hset_ne (by omega)).trans (by first | assumption | exact hset_eq | exact (hset_ne (by omega)).trans (by first | assumption | exact hset_eq | exact (hset_ne (by omega)).trans (by first | assumption | exact hset_eq | exact (hset_ne (by omega)).trans (by first | assumption | exact hset_eq))))) rfl ?_
  refine AW_cV (As := []) 7 hX dX6_yard_4 rfl ml_X6_74 mw_X3_isWhole (by first | assumption | exact hset_eq | exact (hset_ne (by omega)).trans (by first | assumption | exact hset_eq | exact (hset_ne (by omega)).trans (by first | assumption | exact hset_eq | exact (hset_ne (by omega)).trans (by first | assumption | exact hset_eq | exact (hset_ne (by omega)).trans (by first | assumption | exact hset_eq))))) (by decide) rfl rfl rfl (Nat.le_of_ble_eq_true rfl) (by decide) ⟨(Nat.le_refl _), (Nat.le_refl _)⟩ (c_isWhole hpg (fun hw => ?_) (fun hw => ?_))
  · refine AW_if_ne 10 13 hX dX6_yard_7 rfl (by decide) (fun c7 => ?_) (fun c7 => absurd c7 (by decide))
    refine AW_aload_n 14 hX dX6_yard_13 rfl rfl ?_
    refine AW_get 17 hX dX6_yard_14 rfl fl_X6_19 (by first | assumption | exact hset_eq | exact (hset_ne (by omega)).trans (by first | assumption | exact hset_eq | exact (hset_ne (by omega)).trans (by first | assumption | exact hset_eq | exact (hset_ne (by omega)).trans (by first | assumption | exact hset_eq | exact (hset_ne (by omega)).trans (by first | assumption | exact hset_eq))))) rfl ?_
    refine AW_aload_n 18 hX dX6_yard_17 rfl rfl ?_
    refine AW_get 21 hX dX6_yard_18 rfl fl_X6_10 (by first | assumption | exact hset_eq | exact (hset_ne (by omega)).trans (by first | assumption | exact hset_eq | exact (hset_ne (by omega)).trans (by first | assumption | exact hset_eq | exact (hset_ne (by omega)).trans (by first | assumption | exact hset_eq | exact (hset_ne (by omega)).trans (by first | assumption | exact hset_eq))))) rfl ?_
    refine AW_cV (As := [_]) 24 hX dX6_yard_21 rfl ml_X6_78 mw_X5_begin (by first | assumption | exact hset_eq | exact (hset_ne (by omega)).trans (by first | assumption | exact hset_eq | exact (hset_ne (by omega)).trans (by first | assumption | exact hset_eq | exact (hset_ne (by omega)).trans (by first | assumption | exact hset_eq | exact (hset_ne (by omega)).trans (by first | assumption | exact hset_eq))))) (by decide) rfl rfl rfl (Nat.le_of_ble_eq_true rfl) (by decide) ⟨(Nat.le_refl _), (Nat.le_refl _)⟩ (c_begin hsc hpg hw (by omega) (fun h' hsc' hfr' => ?_))
    have g' := CJ_now g hsc' hfr'
    have hpg' := g'.2.1
    have h0' := (hfr' 0 (by omega)).trans h0
    have h1' := hpg'.1
    refine AW_aload_n 25 hX dX6_yard_24 rfl rfl ?_
    refine AW_get 28 hX dX6_yard_25 rfl fl_X6_10 (by first | assumption | exact hset_eq | exact (hset_ne (by omega)).trans (by first | assumption | exact hset_eq | exact (hset_ne (by omega)).trans (by first | assumption | exact hset_eq | exact (hset_ne (by omega)).trans (by first | assumption | exact hset_eq | exact (hset_ne (by omega)).trans (by first | assumption | exact hset_eq))))) rfl ?_
    refine AW_cV (As := []) 31 hX dX6_yard_28 rfl ml_X6_68 mw_X3_clear (by first | assumption | exact hset_eq | exact (hset_ne (by omega)).trans (by first | assumption | exact hset_eq | exact (hset_ne (by omega)).trans (by first | assumption | exact hset_eq | exact (hset_ne (by omega)).trans (by first | assumption | exact hset_eq | exact (hset_ne (by omega)).trans (by first | assumption | exact hset_eq))))) (by decide) rfl rfl rfl (Nat.le_of_ble_eq_true rfl) (by decide) ⟨(Nat.le_refl _), (Nat.le_refl _)⟩ (c_pclear hpg' (fun h2 hp2 hfr2 => ?_))
    have g2 := CJ_page g' hp2 hfr2
    have h02 := (hfr2 0 (by omega)).trans h0'
    obtain ⟨h32, ⟨f2, hgr2, hks2⟩, hhe2⟩ := id g2.2.2.1
    have h42 := hgr2.1
    refine AW_pop 32 hX dX6_yard_31 rfl rfl ?_
    refine AW_aload_n 33 hX dX6_yard_32 rfl rfl ?_
    refine AW_iconst 34 hX dX6_yard_33 rfl ic_0 ?_
    refine AW_put 37 hX dX6_yard_34 rfl fl_X6_43 (by first | assumption | exact hset_eq | exact (hset_ne (by omega)).trans (by first | assumption | exact hset_eq | exact (hset_ne (by omega)).trans (by first | assumption | exact hset_eq | exact (hset_ne (by omega)).trans (by first | assumption | exact hset_eq | exact (hset_ne (by omega)).trans (by first | assumption | exact hset_eq))))) rfl (fun _ => rfl) (fun _ => rfl) (Nat.le_of_ble_eq_true rfl) ?_
    try rw [hset_hset]
    refine AW_aload_n 38 hX dX6_yard_37 rfl rfl ?_
    refine AW_dup 39 hX dX6_yard_38 rfl rfl ?_
    refine AW_get 42 hX dX6_yard_39 rfl fl_X6_47 (by first | assumption | exact hset_eq | exact (hset_ne (by omega)).trans (by first | assumption | exact hset_eq | exact (hset_ne (by omega)).trans (by first | assumption | exact hset_eq | exact (hset_ne (by omega)).trans (by first | assumption | exact hset_eq | exact (hset_ne (by omega)).trans (by first | assumption | exact hset_eq))))) rfl ?_
    refine AW_iconst 43 hX dX6_yard_42 rfl ic_1 ?_
    refine AW_iadd 44 hX dX6_yard_43 rfl ?_
    refine AW_put 47 hX dX6_yard_44 rfl fl_X6_47 (by first | assumption | exact hset_eq | exact (hset_ne (by omega)).trans (by first | assumption | exact hset_eq | exact (hset_ne (by omega)).trans (by first | assumption | exact hset_eq | exact (hset_ne (by omega)).trans (by first | assumption | exact hset_eq | exact (hset_ne (by omega)).trans (by first | assumption | exact hset_eq))))) rfl (fun _ => rfl) (fun _ => rfl) (Nat.le_of_ble_eq_true rfl) ?_
    try rw [hset_hset]
    refine AW_aload_n 48 hX dX6_yard_47 rfl rfl ?_
    refine AW_get 51 hX dX6_yard_48 rfl fl_X6_19 (by first | assumption | exact hset_eq | exact (hset_ne (by omega)).trans (by first | assumption | exact hset_eq | exact (hset_ne (by omega)).trans (by first | assumption | exact hset_eq | exact (hset_ne (by omega)).trans (by first | assumption | exact hset_eq | exact (hset_ne (by omega)).trans (by first | assumption | exact hset_eq))))) rfl ?_
    refine AW_get 54 hX dX6_yard_51 rfl fl_X6_82 (by first | assumption | exact hset_eq | exact (hset_ne (by omega)).trans (by first | assumption | exact hset_eq | exact (hset_ne (by omega)).trans (by first | assumption | exact hset_eq | exact (hset_ne (by omega)).trans (by first | assumption | exact hset_eq | exact (hset_ne (by omega)).trans (by first | assumption | exact hset_eq))))) rfl ?_
    refine AW_cV (As := []) 57 hX dX6_yard_54 rfl ml_X6_85 mw_X0_places (by first | assumption | exact hset_eq | exact (hset_ne (by omega)).trans (by first | assumption | exact hset_eq | exact (hset_ne (by omega)).trans (by first | assumption | exact hset_eq | exact (hset_ne (by omega)).trans (by first | assumption | exact hset_eq | exact (hset_ne (by omega)).trans (by first | assumption | exact hset_eq))))) (by decide) rfl rfl rfl (Nat.le_of_ble_eq_true rfl) (by decide) ⟨(Nat.le_refl _), (Nat.le_refl _)⟩ (c_places ((hset_ne (by omega)).trans h42) ?_)
    refine AW_iret hX hE dX6_yard_57 rfl (Nat.le_refl _) (Nat.le_refl _) ?_
    have e : spYard (kp, yd, qk, pm, pg, (n, ks, ht, p, s, stp, fl, m, hd), w) = (nI (plc pm pg), (0, yd + 1, qk, 0, pg, (plc pm pg, fun j => kn (pAt pm pg j), pAt pm pg (pm - 1) - 48, 0, 0, 0, 0, 0, hd), w)) := by
      show cif _ _ _ = _
      rw [cif_pos hw]
    rw [e] at hK
    rw [nI_1]
    exact hK _ ⟨mp, ms, CJ_obj (kp' := 0) (yd' := yd + 1) (qk' := qk) (mp' := mp) (ms' := ms) (fun q => by omega) g2⟩ (fr_tr (fr_tr (fr_wide hfr' (by omega) (by omega)) (fr_wide hfr2 (by omega) (by omega))) (fr_set (by omega) (by omega)))
  · refine AW_if_ne 10 13 hX dX6_yard_7 rfl (by decide) (fun c7 => absurd rfl c7) (fun c7 => ?_)
    refine AW_bipush 12 hX dX6_yard_10 rfl bp_m103 ?_
    refine AW_iret hX hE dX6_yard_12 rfl (Nat.le_refl _) (Nat.le_refl _) ?_
    have e : spYard (kp, yd, qk, pm, pg, (n, ks, ht, p, s, stp, fl, m, hd), w) = (-103, (kp, yd, qk, pm, pg, (n, ks, ht, p, s, stp, fl, m, hd), w)) := by
      show cif _ _ _ = _
      rw [cif_neg hw]
    rw [e] at hK
    exact hK h ⟨mp, ms, g⟩ (fr_rf _ _ _)
set_option maxRecDepth 100000 in
set_option maxHeartbeats 4000000 in
theorem C_about {h : AH} {K : Option Value → AH → Prop} {kp yd qk pm n ht p s : Nat} {pg ks : Nat → Nat} {stp fl : Int32} {m : Nat} {hd : HD} {w : SV} {mp ms : Int32} (g : CJ h (kp, yd, qk, pm, pg, (n, ks, ht, p, s, stp, fl, m, hd), w) mp ms) (ok : Sok (kp, yd, qk, pm, pg, (n, ks, ht, p, s, stp, fl, m, hd), w)) (x y : Int32) (hK : ∀ h' : AH, CI h' (spAbout (kp, yd, qk, pm, pg, (n, ks, ht, p, s, stp, fl, m, hd), w) x y).2 → fr h h' 0 34 → K (some (.int (spAbout (kp, yd, qk, pm, pg, (n, ks, ht, p, s, stp, fl, m, hd), w) x y).1)) h') : aX6_about 5 [.ref 0, .int x, .int y] h K := by
  obtain ⟨h0, hpg, hsc, ⟨u, hk, hku⟩, ⟨u2, hrc⟩, ⟨nm, fm, hme⟩, hro⟩ := id g
  obtain ⟨h3, ⟨f, hgr, hks⟩, hhe⟩ := id hsc
  obtain ⟨⟨ok1, ok2, ok3, ok4, ok5, ok6, ok7, ok8⟩, okp, okw, okq, okpm, okpg, oky⟩ := id ok
  have h1 := hpg.1
  have h4 := hgr.1
  have h6 := hhe.1
  unfold yO at h0
  refine AM.of [some (.ref 0), some (.int x), some (.int y), none] pn_X6_about rfl (Nat.le_of_ble_eq_true rfl) (fun X hX hE => ?_)
  refine AW_aload_n 1 hX dX6_about_0 rfl rfl ?_
  refine AW_get 4 hX dX6_about_1 rfl fl_X6_19 (by first | assumption | exact hset_eq | exact (hset_ne (by omega)).trans (by first | assumption | exact hset_eq | exact (hset_ne (by omega)).trans (by first | assumption | exact hset_eq | exact (hset_ne (by omega)).trans (by first | assumption | exact hset_eq | exact (hset_ne (by omega)).trans (by first | assumption | exact hset_eq))))) rfl ?_
  refine AW_get 7 hX dX6_about_4 rfl fl_X6_82 (by first | assumption | exact hset_eq | exact (hset_ne (by omega)).trans (by first | assumption | exact hset_eq | exact (hset_ne (by omega)).trans (by first | assumption | exact hset_eq | exact (hset_ne (by omega)).trans (by first | assumption | exact hset_eq | exact (hset_ne (by omega)).trans (by first | assumption | exact hset_eq))))) rfl ?_
  refine AW_iload_n 8 hX dX6_about_7 rfl rfl ?_
  refine AW_cV (As := [_]) 11 hX dX6_about_8 rfl ml_X6_88 mw_X0_has (by first | assumption | exact hset_eq | exact (hset_ne (by omega)).trans (by first | assumption | exact hset_eq | exact (hset_ne (by omega)).trans (by first | assumption | exact hset_eq | exact (hset_ne (by omega)).trans (by first | assumption | exact hset_eq | exact (hset_ne (by omega)).trans (by first | assumption | exact hset_eq))))) (by decide) rfl rfl rfl (Nat.le_of_ble_eq_true rfl) (by decide) ⟨(Nat.le_refl _), (Nat.le_refl _)⟩ (c_has hgr x (fun q hq eq => ?_) (fun hno => ?_))
  · subst eq
    refine AW_if_ne 14 17 hX dX6_about_11 rfl (by decide) (fun c11 => ?_) (fun c11 => absurd c11 (by decide))
    refine AW_iload_n 18 hX dX6_about_17 rfl rfl ?_
    refine AW_if_lt 21 27 hX dX6_about_18 rfl (by decide) (fun c18 => ?_) (fun c18 => ?_)
    · refine AW_bipush 29 hX dX6_about_27 rfl bp_m102 ?_
      refine AW_iret hX hE dX6_about_29 rfl (Nat.le_refl _) (Nat.le_refl _) ?_
      have e : spAbout (kp, yd, qk, pm, pg, (n, ks, ht, p, s, stp, fl, m, hd), w) (nI q) y = (-102, (kp, yd, qk, pm, pg, (n, ks, ht, p, s, stp, fl, m, hd), w)) := by
        show (cif _ _ _, _) = _
        rw [cif_pos ⟨q, hq, rfl⟩, cif_neg (isP_no (by decide) (Or.inl c18))]
      rw [e] at hK
      exact hK h ⟨mp, ms, g⟩ (fr_rf _ _ _)
    · refine AW_iload_n 22 hX dX6_about_21 rfl rfl ?_
      refine AW_bipush 24 hX dX6_about_22 rfl bp_6 ?_
      refine AW_icmp_lt 27 30 hX dX6_about_24 rfl (by decide) (fun c24 => ?_) (fun c24 => ?_)
      · obtain ⟨k, hk6, ek⟩ := isP_of (n := 6) (by decide) c18 (Int32.not_le.mpr c24)
        subst ek
        refine AW_aload_n 31 hX dX6_about_30 rfl rfl ?_
        refine AW_get 34 hX dX6_about_31 rfl fl_X6_19 (by first | assumption | exact hset_eq | exact (hset_ne (by omega)).trans (by first | assumption | exact hset_eq | exact (hset_ne (by omega)).trans (by first | assumption | exact hset_eq | exact (hset_ne (by omega)).trans (by first | assumption | exact hset_eq | exact (hset_ne (by omega)).trans (by first | assumption | exact hset_eq))))) rfl ?_
        refine AW_get 37 hX dX6_about_34 rfl fl_X6_82 (by first | assumption | exact hset_eq | exact (hset_ne (by omega)).trans (by first | assumption | exact hset_eq | exact (hset_ne (by omega)).trans (by first | assumption | exact hset_eq | exact (hset_ne (by omega)).trans (by first | assumption | exact hset_eq | exact (hset_ne (by omega)).trans (by first | assumption | exact hset_eq))))) rfl ?_
        refine AW_iload_n 38 hX dX6_about_37 rfl rfl ?_
        refine AW_cV (As := [_]) 41 hX dX6_about_38 rfl ml_X6_91 mw_X0_kindAt (by first | assumption | exact hset_eq | exact (hset_ne (by omega)).trans (by first | assumption | exact hset_eq | exact (hset_ne (by omega)).trans (by first | assumption | exact hset_eq | exact (hset_ne (by omega)).trans (by first | assumption | exact hset_eq | exact (hset_ne (by omega)).trans (by first | assumption | exact hset_eq))))) (by decide) rfl rfl rfl (Nat.le_of_ble_eq_true rfl) (by decide) ⟨(Nat.le_refl _), (Nat.le_refl _)⟩ (c_kindAt hgr hq ?_)
        rw [hks q hq]
        refine AW_istore_n 42 hX dX6_about_41 rfl (Nat.le_of_ble_eq_true rfl) rfl ?_
        refine AW_iload_n 43 hX dX6_about_42 rfl rfl ?_
        rcases (show k = 0 ∨ k = 1 ∨ k = 2 ∨ k = 3 ∨ k = 4 ∨ k = 5 by omega) with rfl | rfl | rfl | rfl | rfl | rfl
        · refine AW_look (off := 33) 76 hX dX6_about_43 (by decide) (by decide) (by decide) ?_
          refine AW_iload_n 77 hX dX6_about_76 rfl rfl ?_
          refine AW_iret hX hE dX6_about_77 rfl (Nat.le_refl _) (Nat.le_refl _) ?_
          have e : spAbout (kp, yd, qk, pm, pg, (n, ks, ht, p, s, stp, fl, m, hd), w) (nI q) (nI 0) = (nI (ks q), (kp, yd, qk, pm, pg, (n, ks, ht, p, s, stp, fl, m, hd), w)) := by
            show (cif _ _ _, _) = _
            rw [cif_pos ⟨q, hq, rfl⟩, cif_pos ⟨0, by omega, rfl⟩, cN_nI (by omega), cN_nI (by omega)]
            rfl
          rw [e] at hK
          exact hK h ⟨mp, ms, g⟩ (fr_rf _ _ _)
        · refine AW_look (off := 61) 104 hX dX6_about_43 (by decide) (by decide) (by decide) ?_
          refine AW_iload_n 105 hX dX6_about_104 rfl rfl ?_
          refine AW_iload_n 106 hX dX6_about_105 rfl rfl ?_
          refine AW_cS (As := [_, _]) 109 hX dX6_about_106 rfl ml_X6_110 mw_X2_growth rfl rfl (Nat.le_of_ble_eq_true rfl) (by decide) ⟨(Nat.le_refl _), (Nat.le_refl _)⟩ (c_growth (ks q) _ (ok2 q hq) ?_)
          refine AW_iret hX hE dX6_about_109 rfl (Nat.le_refl _) (Nat.le_refl _) ?_
          have e : spAbout (kp, yd, qk, pm, pg, (n, ks, ht, p, s, stp, fl, m, hd), w) (nI q) (nI 1) = (nI (gw (ks q) 1), (kp, yd, qk, pm, pg, (n, ks, ht, p, s, stp, fl, m, hd), w)) := by
            show (cif _ _ _, _) = _
            rw [cif_pos ⟨q, hq, rfl⟩, cif_pos ⟨1, by omega, rfl⟩, cN_nI (by omega), cN_nI (by omega)]
            rfl
          rw [e] at hK
          exact hK h ⟨mp, ms, g⟩ (fr_rf _ _ _)
        · refine AW_look (off := 61) 104 hX dX6_about_43 (by decide) (by decide) (by decide) ?_
          refine AW_iload_n 105 hX dX6_about_104 rfl rfl ?_
          refine AW_iload_n 106 hX dX6_about_105 rfl rfl ?_
          refine AW_cS (As := [_, _]) 109 hX dX6_about_106 rfl ml_X6_110 mw_X2_growth rfl rfl (Nat.le_of_ble_eq_true rfl) (by decide) ⟨(Nat.le_refl _), (Nat.le_refl _)⟩ (c_growth (ks q) _ (ok2 q hq) ?_)
          refine AW_iret hX hE dX6_about_109 rfl (Nat.le_refl _) (Nat.le_refl _) ?_
          have e : spAbout (kp, yd, qk, pm, pg, (n, ks, ht, p, s, stp, fl, m, hd), w) (nI q) (nI 2) = (nI (gw (ks q) 2), (kp, yd, qk, pm, pg, (n, ks, ht, p, s, stp, fl, m, hd), w)) := by
            show (cif _ _ _, _) = _
            rw [cif_pos ⟨q, hq, rfl⟩, cif_pos ⟨2, by omega, rfl⟩, cN_nI (by omega), cN_nI (by omega)]
            rfl
          rw [e] at hK
          exact hK h ⟨mp, ms, g⟩ (fr_rf _ _ _)
        · refine AW_look (off := 61) 104 hX dX6_about_43 (by decide) (by decide) (by decide) ?_
          refine AW_iload_n 105 hX dX6_about_104 rfl rfl ?_
          refine AW_iload_n 106 hX dX6_about_105 rfl rfl ?_
          refine AW_cS (As := [_, _]) 109 hX dX6_about_106 rfl ml_X6_110 mw_X2_growth rfl rfl (Nat.le_of_ble_eq_true rfl) (by decide) ⟨(Nat.le_refl _), (Nat.le_refl _)⟩ (c_growth (ks q) _ (ok2 q hq) ?_)
          refine AW_iret hX hE dX6_about_109 rfl (Nat.le_refl _) (Nat.le_refl _) ?_
          have e : spAbout (kp, yd, qk, pm, pg, (n, ks, ht, p, s, stp, fl, m, hd), w) (nI q) (nI 3) = (nI (gw (ks q) 3), (kp, yd, qk, pm, pg, (n, ks, ht, p, s, stp, fl, m, hd), w)) := by
            show (cif _ _ _, _) = _
            rw [cif_pos ⟨q, hq, rfl⟩, cif_pos ⟨3, by omega, rfl⟩, cN_nI (by omega), cN_nI (by omega)]
            rfl
          rw [e] at hK
          exact hK h ⟨mp, ms, g⟩ (fr_rf _ _ _)
        · refine AW_look (off := 35) 78 hX dX6_about_43 (by decide) (by decide) (by decide) ?_
          refine AW_iload_n 79 hX dX6_about_78 rfl rfl ?_
          refine AW_cS (As := [_]) 82 hX dX6_about_79 rfl ml_X6_95 mw_X2_onSpot rfl rfl (Nat.le_of_ble_eq_true rfl) (by decide) ⟨(Nat.le_refl _), (Nat.le_refl _)⟩ (c_onSpot _ (ok2 q hq) ?_)
          refine AW_iconst 83 hX dX6_about_82 rfl ic_2 ?_
          refine AW_iadd 84 hX dX6_about_83 rfl ?_
          refine AW_iret hX hE dX6_about_84 rfl (Nat.le_refl _) (Nat.le_refl _) ?_
          have e : spAbout (kp, yd, qk, pm, pg, (n, ks, ht, p, s, stp, fl, m, hd), w) (nI q) (nI 4) = (onS (ks q) + 2, (kp, yd, qk, pm, pg, (n, ks, ht, p, s, stp, fl, m, hd), w)) := by
            show (cif _ _ _, _) = _
            rw [cif_pos ⟨q, hq, rfl⟩, cif_pos ⟨4, by omega, rfl⟩, cN_nI (by omega), cN_nI (by omega)]
            rfl
          rw [e] at hK
          exact hK h ⟨mp, ms, g⟩ (fr_rf _ _ _)
        · refine AW_look (off := 42) 85 hX dX6_about_43 (by decide) (by decide) (by decide) ?_
          refine AW_aload_n 86 hX dX6_about_85 rfl rfl ?_
          refine AW_get 89 hX dX6_about_86 rfl fl_X6_19 (by first | assumption | exact hset_eq | exact (hset_ne (by omega)).trans (by first | assumption | exact hset_eq | exact (hset_ne (by omega)).trans (by first | assumption | exact hset_eq | exact (hset_ne (by omega)).trans (by first | assumption | exact hset_eq | exact (hset_ne (by omega)).trans (by first | assumption | exact hset_eq))))) rfl ?_
          refine AW_get 92 hX dX6_about_89 rfl fl_X6_100 (by first | assumption | exact hset_eq | exact (hset_ne (by omega)).trans (by first | assumption | exact hset_eq | exact (hset_ne (by omega)).trans (by first | assumption | exact hset_eq | exact (hset_ne (by omega)).trans (by first | assumption | exact hset_eq | exact (hset_ne (by omega)).trans (by first | assumption | exact hset_eq))))) rfl ?_
          refine AW_aload_n 93 hX dX6_about_92 rfl rfl ?_
          refine AW_get 96 hX dX6_about_93 rfl fl_X6_19 (by first | assumption | exact hset_eq | exact (hset_ne (by omega)).trans (by first | assumption | exact hset_eq | exact (hset_ne (by omega)).trans (by first | assumption | exact hset_eq | exact (hset_ne (by omega)).trans (by first | assumption | exact hset_eq | exact (hset_ne (by omega)).trans (by first | assumption | exact hset_eq))))) rfl ?_
          refine AW_get 99 hX dX6_about_96 rfl fl_X6_82 (by first | assumption | exact hset_eq | exact (hset_ne (by omega)).trans (by first | assumption | exact hset_eq | exact (hset_ne (by omega)).trans (by first | assumption | exact hset_eq | exact (hset_ne (by omega)).trans (by first | assumption | exact hset_eq | exact (hset_ne (by omega)).trans (by first | assumption | exact hset_eq))))) rfl ?_
          refine AW_iload_n 100 hX dX6_about_99 rfl rfl ?_
          refine AW_cV (As := [_, _]) 103 hX dX6_about_100 rfl ml_X6_104 mw_X1_bestTry (by first | assumption | exact hset_eq | exact (hset_ne (by omega)).trans (by first | assumption | exact hset_eq | exact (hset_ne (by omega)).trans (by first | assumption | exact hset_eq | exact (hset_ne (by omega)).trans (by first | assumption | exact hset_eq | exact (hset_ne (by omega)).trans (by first | assumption | exact hset_eq))))) (by decide) rfl rfl rfl (Nat.le_of_ble_eq_true rfl) (by decide) ⟨(Nat.le_refl _), (Nat.le_refl _)⟩ (c_bestTry hgr hks ok2 hhe ok5 q hq ?_)
          refine AW_iret hX hE dX6_about_103 rfl (Nat.le_refl _) (Nat.le_refl _) ?_
          have e : spAbout (kp, yd, qk, pm, pg, (n, ks, ht, p, s, stp, fl, m, hd), w) (nI q) (nI 5) = (tryC ks hd m q, (kp, yd, qk, pm, pg, (n, ks, ht, p, s, stp, fl, m, hd), w)) := by
            show (cif _ _ _, _) = _
            rw [cif_pos ⟨q, hq, rfl⟩, cif_pos ⟨5, by omega, rfl⟩, cN_nI (by omega), cN_nI (by omega)]
            rfl
          rw [e] at hK
          exact hK h ⟨mp, ms, g⟩ (fr_rf _ _ _)
      · refine AW_bipush 29 hX dX6_about_27 rfl bp_m102 ?_
        refine AW_iret hX hE dX6_about_29 rfl (Nat.le_refl _) (Nat.le_refl _) ?_
        have e : spAbout (kp, yd, qk, pm, pg, (n, ks, ht, p, s, stp, fl, m, hd), w) (nI q) y = (-102, (kp, yd, qk, pm, pg, (n, ks, ht, p, s, stp, fl, m, hd), w)) := by
          show (cif _ _ _, _) = _
          rw [cif_pos ⟨q, hq, rfl⟩, cif_neg (isP_no (n := 6) (by decide) (Or.inr (Int32.not_lt.mp c24)))]
        rw [e] at hK
        exact hK h ⟨mp, ms, g⟩ (fr_rf _ _ _)
  · refine AW_if_ne 14 17 hX dX6_about_11 rfl (by decide) (fun c11 => absurd rfl c11) (fun c11 => ?_)
    refine AW_bipush 16 hX dX6_about_14 rfl bp_m101 ?_
    refine AW_iret hX hE dX6_about_16 rfl (Nat.le_refl _) (Nat.le_refl _) ?_
    have e : spAbout (kp, yd, qk, pm, pg, (n, ks, ht, p, s, stp, fl, m, hd), w) x y = (-101, (kp, yd, qk, pm, pg, (n, ks, ht, p, s, stp, fl, m, hd), w)) := by
      show (cif _ _ _, _) = _
      rw [cif_neg (fun ⟨q, hq, eq⟩ => hno q hq eq)]
    rw [e] at hK
    exact hK h ⟨mp, ms, g⟩ (fr_rf _ _ _)
set_option maxRecDepth 100000 in
set_option maxHeartbeats 4000000 in
theorem C_as {h : AH} {K : Option Value → AH → Prop} {kp yd qk pm n ht p s : Nat} {pg ks : Nat → Nat} {stp fl : Int32} {m : Nat} {hd : HD} {w : SV} {mp ms : Int32} (g : CJ h (kp, yd, qk, pm, pg, (n, ks, ht, p, s, stp, fl, m, hd), w) mp ms) (ok : Sok (kp, yd, qk, pm, pg, (n, ks, ht, p, s, stp, fl, m, hd), w)) (x y : Int32) (hK : ∀ h' : AH, CI h' (spAs (kp, yd, qk, pm, pg, (n, ks, ht, p, s, stp, fl, m, hd), w) x y).2 → fr h h' 0 34 → K (some (.int (spAs (kp, yd, qk, pm, pg, (n, ks, ht, p, s, stp, fl, m, hd), w) x y).1)) h') : aX6_as 2 [.ref 0, .int x, .int y] h K := by
  obtain ⟨h0, hpg, hsc, ⟨u, hk, hku⟩, ⟨u2, hrc⟩, ⟨nm, fm, hme⟩, hro⟩ := id g
  obtain ⟨h3, ⟨f, hgr, hks⟩, hhe⟩ := id hsc
  obtain ⟨⟨ok1, ok2, ok3, ok4, ok5, ok6, ok7, ok8⟩, okp, okw, okq, okpm, okpg, oky⟩ := id ok
  have h1 := hpg.1
  have h4 := hgr.1
  have h6 := hhe.1
  unfold yO at h0
  refine AM.of [some (.ref 0), some (.int x), some (.int y)] pn_X6_as rfl (Nat.le_of_ble_eq_true rfl) (fun X hX hE => ?_)
  refine AW_aload_n 1 hX dX6_as_0 rfl rfl ?_
  refine AW_get 4 hX dX6_as_1 rfl fl_X6_19 (by first | assumption | exact hset_eq | exact (hset_ne (by omega)).trans (by first | assumption | exact hset_eq | exact (hset_ne (by omega)).trans (by first | assumption | exact hset_eq | exact (hset_ne (by omega)).trans (by first | assumption | exact hset_eq | exact (hset_ne (by omega)).trans (by first | assumption | exact hset_eq))))) rfl ?_
  refine AW_get 7 hX dX6_as_4 rfl fl_X6_82 (by first | assumption | exact hset_eq | exact (hset_ne (by omega)).trans (by first | assumption | exact hset_eq | exact (hset_ne (by omega)).trans (by first | assumption | exact hset_eq | exact (hset_ne (by omega)).trans (by first | assumption | exact hset_eq | exact (hset_ne (by omega)).trans (by first | assumption | exact hset_eq))))) rfl ?_
  refine AW_iload_n 8 hX dX6_as_7 rfl rfl ?_
  refine AW_cV (As := [_]) 11 hX dX6_as_8 rfl ml_X6_88 mw_X0_has (by first | assumption | exact hset_eq | exact (hset_ne (by omega)).trans (by first | assumption | exact hset_eq | exact (hset_ne (by omega)).trans (by first | assumption | exact hset_eq | exact (hset_ne (by omega)).trans (by first | assumption | exact hset_eq | exact (hset_ne (by omega)).trans (by first | assumption | exact hset_eq))))) (by decide) rfl rfl rfl (Nat.le_of_ble_eq_true rfl) (by decide) ⟨(Nat.le_refl _), (Nat.le_refl _)⟩ (c_has hgr x (fun q hq eq => ?_) (fun hno => ?_))
  · subst eq
    refine AW_if_ne 14 17 hX dX6_as_11 rfl (by decide) (fun c11 => ?_) (fun c11 => absurd c11 (by decide))
    refine AW_iload_n 18 hX dX6_as_17 rfl rfl ?_
    refine AW_cS (As := [_]) 21 hX dX6_as_18 rfl ml_X6_114 mw_X2_isKind rfl rfl (Nat.le_of_ble_eq_true rfl) (by decide) ⟨(Nat.le_refl _), (Nat.le_refl _)⟩ (c_isKind y (fun k hk4 ek => ?_) (fun hno => ?_))
    · subst ek
      refine AW_if_ne 24 27 hX dX6_as_21 rfl (by decide) (fun c21 => ?_) (fun c21 => absurd c21 (by decide))
      refine AW_aload_n 28 hX dX6_as_27 rfl rfl ?_
      refine AW_get 31 hX dX6_as_28 rfl fl_X6_19 (by first | assumption | exact hset_eq | exact (hset_ne (by omega)).trans (by first | assumption | exact hset_eq | exact (hset_ne (by omega)).trans (by first | assumption | exact hset_eq | exact (hset_ne (by omega)).trans (by first | assumption | exact hset_eq | exact (hset_ne (by omega)).trans (by first | assumption | exact hset_eq))))) rfl ?_
      refine AW_get 34 hX dX6_as_31 rfl fl_X6_82 (by first | assumption | exact hset_eq | exact (hset_ne (by omega)).trans (by first | assumption | exact hset_eq | exact (hset_ne (by omega)).trans (by first | assumption | exact hset_eq | exact (hset_ne (by omega)).trans (by first | assumption | exact hset_eq | exact (hset_ne (by omega)).trans (by first | assumption | exact hset_eq))))) rfl ?_
      refine AW_iload_n 35 hX dX6_as_34 rfl rfl ?_
      refine AW_cV (As := [_]) 38 hX dX6_as_35 rfl ml_X6_91 mw_X0_kindAt (by first | assumption | exact hset_eq | exact (hset_ne (by omega)).trans (by first | assumption | exact hset_eq | exact (hset_ne (by omega)).trans (by first | assumption | exact hset_eq | exact (hset_ne (by omega)).trans (by first | assumption | exact hset_eq | exact (hset_ne (by omega)).trans (by first | assumption | exact hset_eq))))) (by decide) rfl rfl rfl (Nat.le_of_ble_eq_true rfl) (by decide) ⟨(Nat.le_refl _), (Nat.le_refl _)⟩ (c_kindAt hgr hq ?_)
      rw [hks q hq]
      refine AW_iload_n 39 hX dX6_as_38 rfl rfl ?_
      refine AW_cS (As := [_, _]) 42 hX dX6_as_39 rfl ml_X6_117 mw_X2_isA rfl rfl (Nat.le_of_ble_eq_true rfl) (by decide) ⟨(Nat.le_refl _), (Nat.le_refl _)⟩ (c_isA _ k (ok2 q hq) hk4 (fun ha => ?_) (fun ha => ?_))
      · refine AW_if_eq 45 49 hX dX6_as_42 rfl (by decide) (fun c42 => absurd c42 (by decide)) (fun c42 => ?_)
        refine AW_iload_n 46 hX dX6_as_45 rfl rfl ?_
        refine AW_goto 50 hX dX6_as_46 (by decide) ?_
        refine AW_iret hX hE dX6_as_50 rfl (Nat.le_refl _) (Nat.le_refl _) ?_
        have e : spAs (kp, yd, qk, pm, pg, (n, ks, ht, p, s, stp, fl, m, hd), w) (nI q) (nI k) = (nI q, (kp, yd, qk, pm, pg, (n, ks, ht, p, s, stp, fl, m, hd), w)) := by
          show (cif _ _ _, _) = _
          rw [cif_pos ⟨q, hq, rfl⟩, cif_pos ⟨k, by omega, rfl⟩, cN_nI (by omega), cN_nI (by omega), cif_pos ha]
        rw [e] at hK
        exact hK h ⟨mp, ms, g⟩ (fr_rf _ _ _)
      · refine AW_if_eq 45 49 hX dX6_as_42 rfl (by decide) (fun c42 => ?_) (fun c42 => absurd rfl c42)
        refine AW_iconst 50 hX dX6_as_49 rfl ic_m1 ?_
        refine AW_iret hX hE dX6_as_50 rfl (Nat.le_refl _) (Nat.le_refl _) ?_
        have e : spAs (kp, yd, qk, pm, pg, (n, ks, ht, p, s, stp, fl, m, hd), w) (nI q) (nI k) = (-1, (kp, yd, qk, pm, pg, (n, ks, ht, p, s, stp, fl, m, hd), w)) := by
          show (cif _ _ _, _) = _
          rw [cif_pos ⟨q, hq, rfl⟩, cif_pos ⟨k, by omega, rfl⟩, cN_nI (by omega), cN_nI (by omega), cif_neg ha]
        rw [e] at hK
        exact hK h ⟨mp, ms, g⟩ (fr_rf _ _ _)
    · refine AW_if_ne 24 27 hX dX6_as_21 rfl (by decide) (fun c21 => absurd rfl c21) (fun c21 => ?_)
      refine AW_bipush 26 hX dX6_as_24 rfl bp_m102 ?_
      refine AW_iret hX hE dX6_as_26 rfl (Nat.le_refl _) (Nat.le_refl _) ?_
      have e : spAs (kp, yd, qk, pm, pg, (n, ks, ht, p, s, stp, fl, m, hd), w) (nI q) y = (-102, (kp, yd, qk, pm, pg, (n, ks, ht, p, s, stp, fl, m, hd), w)) := by
        show (cif _ _ _, _) = _
        rw [cif_pos ⟨q, hq, rfl⟩, cif_neg (fun ⟨k, hk, ek⟩ => hno k (by omega) ek)]
      rw [e] at hK
      exact hK h ⟨mp, ms, g⟩ (fr_rf _ _ _)
  · refine AW_if_ne 14 17 hX dX6_as_11 rfl (by decide) (fun c11 => absurd rfl c11) (fun c11 => ?_)
    refine AW_bipush 16 hX dX6_as_14 rfl bp_m101 ?_
    refine AW_iret hX hE dX6_as_16 rfl (Nat.le_refl _) (Nat.le_refl _) ?_
    have e : spAs (kp, yd, qk, pm, pg, (n, ks, ht, p, s, stp, fl, m, hd), w) x y = (-101, (kp, yd, qk, pm, pg, (n, ks, ht, p, s, stp, fl, m, hd), w)) := by
      show (cif _ _ _, _) = _
      rw [cif_neg (fun ⟨q, hq, eq⟩ => hno q hq eq)]
    rw [e] at hK
    exact hK h ⟨mp, ms, g⟩ (fr_rf _ _ _)
set_option maxRecDepth 100000 in
set_option maxHeartbeats 4000000 in
theorem C_lay {h : AH} {K : Option Value → AH → Prop} {kp yd qk pm n ht p s : Nat} {pg ks : Nat → Nat} {stp fl : Int32} {m : Nat} {hd : HD} {w : SV} {mp ms : Int32} (g : CJ h (kp, yd, qk, pm, pg, (n, ks, ht, p, s, stp, fl, m, hd), w) mp ms) (ok : Sok (kp, yd, qk, pm, pg, (n, ks, ht, p, s, stp, fl, m, hd), w)) (x y : Int32) (hK : ∀ h' : AH, CI h' (spLay (kp, yd, qk, pm, pg, (n, ks, ht, p, s, stp, fl, m, hd), w) x y).2 → fr h h' 0 34 → K (some (.int (spLay (kp, yd, qk, pm, pg, (n, ks, ht, p, s, stp, fl, m, hd), w) x y).1)) h') : aX6_lay 2 [.ref 0, .int x, .int y] h K := by
  obtain ⟨h0, hpg, hsc, ⟨u, hk, hku⟩, ⟨u2, hrc⟩, ⟨nm, fm, hme⟩, hro⟩ := id g
  obtain ⟨h3, ⟨f, hgr, hks⟩, hhe⟩ := id hsc
  obtain ⟨⟨ok1, ok2, ok3, ok4, ok5, ok6, ok7, ok8⟩, okp, okw, okq, okpm, okpg, oky⟩ := id ok
  have h1 := hpg.1
  have h4 := hgr.1
  have h6 := hhe.1
  unfold yO at h0
  refine AM.of [some (.ref 0), some (.int x), some (.int y)] pn_X6_lay rfl (Nat.le_of_ble_eq_true rfl) (fun X hX hE => ?_)
  refine AW_aload_n 1 hX dX6_lay_0 rfl rfl ?_
  refine AW_get 4 hX dX6_lay_1 rfl fl_X6_19 (by first | assumption | exact hset_eq | exact (hset_ne (by omega)).trans (by first | assumption | exact hset_eq | exact (hset_ne (by omega)).trans (by first | assumption | exact hset_eq | exact (hset_ne (by omega)).trans (by first | assumption | exact hset_eq | exact (hset_ne (by omega)).trans (by first | assumption | exact hset_eq))))) rfl ?_
  refine AW_get 7 hX dX6_lay_4 rfl fl_X6_82 (by first | assumption | exact hset_eq | exact (hset_ne (by omega)).trans (by first | assumption | exact hset_eq | exact (hset_ne (by omega)).trans (by first | assumption | exact hset_eq | exact (hset_ne (by omega)).trans (by first | assumption | exact hset_eq | exact (hset_ne (by omega)).trans (by first | assumption | exact hset_eq))))) rfl ?_
  refine AW_iload_n 8 hX dX6_lay_7 rfl rfl ?_
  refine AW_cV (As := [_]) 11 hX dX6_lay_8 rfl ml_X6_88 mw_X0_has (by first | assumption | exact hset_eq | exact (hset_ne (by omega)).trans (by first | assumption | exact hset_eq | exact (hset_ne (by omega)).trans (by first | assumption | exact hset_eq | exact (hset_ne (by omega)).trans (by first | assumption | exact hset_eq | exact (hset_ne (by omega)).trans (by first | assumption | exact hset_eq))))) (by decide) rfl rfl rfl (Nat.le_of_ble_eq_true rfl) (by decide) ⟨(Nat.le_refl _), (Nat.le_refl _)⟩ (c_has hgr x (fun q hq eq => ?_) (fun hno => ?_))
  · subst eq
    refine AW_if_ne 14 17 hX dX6_lay_11 rfl (by decide) (fun c11 => ?_) (fun c11 => absurd c11 (by decide))
    refine AW_iload_n 18 hX dX6_lay_17 rfl rfl ?_
    refine AW_cS (As := [_]) 21 hX dX6_lay_18 rfl ml_X6_114 mw_X2_isKind rfl rfl (Nat.le_of_ble_eq_true rfl) (by decide) ⟨(Nat.le_refl _), (Nat.le_refl _)⟩ (c_isKind y (fun k hk4 ek => ?_) (fun hno => ?_))
    · subst ek
      refine AW_if_ne 24 27 hX dX6_lay_21 rfl (by decide) (fun c21 => ?_) (fun c21 => absurd c21 (by decide))
      refine AW_aload_n 28 hX dX6_lay_27 rfl rfl ?_
      refine AW_get 31 hX dX6_lay_28 rfl fl_X6_19 (by first | assumption | exact hset_eq | exact (hset_ne (by omega)).trans (by first | assumption | exact hset_eq | exact (hset_ne (by omega)).trans (by first | assumption | exact hset_eq | exact (hset_ne (by omega)).trans (by first | assumption | exact hset_eq | exact (hset_ne (by omega)).trans (by first | assumption | exact hset_eq))))) rfl ?_
      refine AW_get 34 hX dX6_lay_31 rfl fl_X6_82 (by first | assumption | exact hset_eq | exact (hset_ne (by omega)).trans (by first | assumption | exact hset_eq | exact (hset_ne (by omega)).trans (by first | assumption | exact hset_eq | exact (hset_ne (by omega)).trans (by first | assumption | exact hset_eq | exact (hset_ne (by omega)).trans (by first | assumption | exact hset_eq))))) rfl ?_
      refine AW_iload_n 35 hX dX6_lay_34 rfl rfl ?_
      refine AW_iload_n 36 hX dX6_lay_35 rfl rfl ?_
      refine AW_cV (As := [_, _]) 39 hX dX6_lay_36 rfl ml_X6_121 mw_X0_put (by first | assumption | exact hset_eq | exact (hset_ne (by omega)).trans (by first | assumption | exact hset_eq | exact (hset_ne (by omega)).trans (by first | assumption | exact hset_eq | exact (hset_ne (by omega)).trans (by first | assumption | exact hset_eq | exact (hset_ne (by omega)).trans (by first | assumption | exact hset_eq))))) (by decide) rfl rfl rfl (Nat.le_of_ble_eq_true rfl) (by decide) ⟨(Nat.le_refl _), (Nat.le_refl _)⟩ (c_put hgr hq ?_)
      rw [hks q hq]
      refine AW_iret hX hE dX6_lay_39 rfl (Nat.le_refl _) (Nat.le_refl _) ?_
      have e : spLay (kp, yd, qk, pm, pg, (n, ks, ht, p, s, stp, fl, m, hd), w) (nI q) (nI k) = (nI (ks q), (kp, yd, qk, pm, pg, (n, fun j => if j = q then k else ks j, ht, p, s, stp, fl, m, hd), w)) := by
        show cif _ _ _ = _
        rw [cif_pos ⟨q, hq, rfl⟩, cif_pos ⟨k, by omega, rfl⟩, cN_nI (by omega), cN_nI (by omega)]
      rw [e] at hK
      refine hK _ ⟨mp, ms, CJ_now g ⟨(hset_ne (by omega)).trans h3, ⟨upd f q (nI k), ⟨(hset_ne (by omega)).trans h4, hset_eq, hgr.2.2⟩, fun j hj => ?_⟩, heC_fr hhe (fr_set (lo := 5) (hi := 6) (by omega) (by omega)) (by omega)⟩ (fr_set (by omega) (by omega))⟩ (fr_set (by omega) (by omega))
      show (if j = q then nI k else f j) = nI (if j = q then k else ks j)
      split
      · rfl
      · exact hks j hj
    · refine AW_if_ne 24 27 hX dX6_lay_21 rfl (by decide) (fun c21 => absurd rfl c21) (fun c21 => ?_)
      refine AW_bipush 26 hX dX6_lay_24 rfl bp_m102 ?_
      refine AW_iret hX hE dX6_lay_26 rfl (Nat.le_refl _) (Nat.le_refl _) ?_
      have e : spLay (kp, yd, qk, pm, pg, (n, ks, ht, p, s, stp, fl, m, hd), w) (nI q) y = (-102, (kp, yd, qk, pm, pg, (n, ks, ht, p, s, stp, fl, m, hd), w)) := by
        show cif _ _ _ = _
        rw [cif_pos ⟨q, hq, rfl⟩, cif_neg (fun ⟨k, hk, ek⟩ => hno k (by omega) ek)]
      rw [e] at hK
      exact hK h ⟨mp, ms, g⟩ (fr_rf _ _ _)
  · refine AW_if_ne 14 17 hX dX6_lay_11 rfl (by decide) (fun c11 => absurd rfl c11) (fun c11 => ?_)
    refine AW_bipush 16 hX dX6_lay_14 rfl bp_m101 ?_
    refine AW_iret hX hE dX6_lay_16 rfl (Nat.le_refl _) (Nat.le_refl _) ?_
    have e : spLay (kp, yd, qk, pm, pg, (n, ks, ht, p, s, stp, fl, m, hd), w) x y = (-101, (kp, yd, qk, pm, pg, (n, ks, ht, p, s, stp, fl, m, hd), w)) := by
      show cif _ _ _ = _
      rw [cif_neg (fun ⟨q, hq, eq⟩ => hno q hq eq)]
    rw [e] at hK
    exact hK h ⟨mp, ms, g⟩ (fr_rf _ _ _)
set_option maxRecDepth 100000 in
set_option maxHeartbeats 4000000 in
theorem C_blocks {h : AH} {K : Option Value → AH → Prop} {kp yd qk pm n ht p s : Nat} {pg ks : Nat → Nat} {stp fl : Int32} {m : Nat} {hd : HD} {w : SV} {mp ms : Int32} (g : CJ h (kp, yd, qk, pm, pg, (n, ks, ht, p, s, stp, fl, m, hd), w) mp ms) (ok : Sok (kp, yd, qk, pm, pg, (n, ks, ht, p, s, stp, fl, m, hd), w)) (x : Int32) (hK : ∀ h' : AH, CI h' (spBlocks (kp, yd, qk, pm, pg, (n, ks, ht, p, s, stp, fl, m, hd), w) x).2 → fr h h' 0 34 → K (some (.int (spBlocks (kp, yd, qk, pm, pg, (n, ks, ht, p, s, stp, fl, m, hd), w) x).1)) h') : aX6_blocks 2 [.ref 0, .int x] h K := by
  obtain ⟨h0, hpg, hsc, ⟨u, hk, hku⟩, ⟨u2, hrc⟩, ⟨nm, fm, hme⟩, hro⟩ := id g
  obtain ⟨h3, ⟨f, hgr, hks⟩, hhe⟩ := id hsc
  obtain ⟨⟨ok1, ok2, ok3, ok4, ok5, ok6, ok7, ok8⟩, okp, okw, okq, okpm, okpg, oky⟩ := id ok
  have h1 := hpg.1
  have h4 := hgr.1
  have h6 := hhe.1
  unfold yO at h0
  refine AM.of [some (.ref 0), some (.int x)] pn_X6_blocks rfl (Nat.le_of_ble_eq_true rfl) (fun X hX hE => ?_)
  refine AW_iload_n 1 hX dX6_blocks_0 rfl rfl ?_
  refine AW_iconst 2 hX dX6_blocks_1 rfl ic_1 ?_
  refine AW_icmp_lt 5 11 hX dX6_blocks_2 rfl (by decide) (fun c2 => ?_) (fun c2 => ?_)
  · refine AW_bipush 13 hX dX6_blocks_11 rfl bp_m102 ?_
    refine AW_iret hX hE dX6_blocks_13 rfl (Nat.le_refl _) (Nat.le_refl _) ?_
    have e : spBlocks (kp, yd, qk, pm, pg, (n, ks, ht, p, s, stp, fl, m, hd), w) x = (-102, (kp, yd, qk, pm, pg, (n, ks, ht, p, s, stp, fl, m, hd), w)) := by
      show cif _ _ _ = _
      rw [cif_pos (Or.inl c2)]
    rw [e] at hK
    exact hK h ⟨mp, ms, g⟩ (fr_rf _ _ _)
  · refine AW_iload_n 6 hX dX6_blocks_5 rfl rfl ?_
    refine AW_bipush 8 hX dX6_blocks_6 rfl bp_9 ?_
    refine AW_icmp_le 11 14 hX dX6_blocks_8 rfl (by decide) (fun c8 => ?_) (fun c8 => ?_)
    · obtain ⟨c, hc1, hc2, ec⟩ := rg (x := x) 1 9 (by decide) (by decide) c2 (Int32.not_lt.mpr c8)
      subst ec
      refine AW_aload_n 15 hX dX6_blocks_14 rfl rfl ?_
      refine AW_cV (As := []) 18 hX dX6_blocks_15 rfl ml_X6_124 mw_X6_hasYard (by first | assumption | exact hset_eq | exact (hset_ne (by omega)).trans (by first | assumption | exact hset_eq | exact (hset_ne (by omega)).trans (by first | assumption | exact hset_eq | exact (hset_ne (by omega)).trans (by first | assumption | exact hset_eq | exact (hset_ne (by omega)).trans (by first | assumption | exact hset_eq))))) (by decide) rfl rfl rfl (Nat.le_of_ble_eq_true rfl) (by decide) ⟨(Nat.le_refl _), (Nat.le_refl _)⟩ (C_hasYard g ok (fun hn => ?_) (fun hn => ?_))
      · refine AW_if_ne 21 24 hX dX6_blocks_18 rfl (by decide) (fun c18 => ?_) (fun c18 => absurd c18 (by decide))
        refine AW_aload_n 25 hX dX6_blocks_24 rfl rfl ?_
        refine AW_get 28 hX dX6_blocks_25 rfl fl_X6_19 (by first | assumption | exact hset_eq | exact (hset_ne (by omega)).trans (by first | assumption | exact hset_eq | exact (hset_ne (by omega)).trans (by first | assumption | exact hset_eq | exact (hset_ne (by omega)).trans (by first | assumption | exact hset_eq | exact (hset_ne (by omega)).trans (by first | assumption | exact hset_eq))))) rfl ?_
        refine AW_iload_n 29 hX dX6_blocks_28 rfl rfl ?_
        refine AW_cV (As := [_]) 32 hX dX6_blocks_29 rfl ml_X6_127 mw_X5_changeHeight (by first | assumption | exact hset_eq | exact (hset_ne (by omega)).trans (by first | assumption | exact hset_eq | exact (hset_ne (by omega)).trans (by first | assumption | exact hset_eq | exact (hset_ne (by omega)).trans (by first | assumption | exact hset_eq | exact (hset_ne (by omega)).trans (by first | assumption | exact hset_eq))))) (by decide) rfl rfl rfl (Nat.le_of_ble_eq_true rfl) (by decide) ⟨(Nat.le_refl _), (Nat.le_refl _)⟩ (c_changeHeight hsc c (fun h' hsc' hfr' => ?_))
        refine AW_iret hX hE dX6_blocks_32 rfl (Nat.le_refl _) (Nat.le_refl _) ?_
        have e : spBlocks (kp, yd, qk, pm, pg, (n, ks, ht, p, s, stp, fl, m, hd), w) (nI c) = (nI ht, (kp, yd, qk, pm, pg, (n, ks, c, 0, 0, stp, fl, m, hd), w)) := by
          show cif _ _ _ = _
          rw [cif_neg (show ¬ (nI c < 1 ∨ 9 < nI c) from rgI (lo := 1) (hi := 9) (by decide) rfl hc1 hc2), cif_neg (by omega), cN_nI (by omega)]
        rw [e] at hK
        exact hK h' ⟨mp, ms, CJ_now g hsc' (fr_wide hfr' (by omega) (by omega))⟩ (fr_wide hfr' (by omega) (by omega))
      · refine AW_if_ne 21 24 hX dX6_blocks_18 rfl (by decide) (fun c18 => absurd rfl c18) (fun c18 => ?_)
        refine AW_bipush 23 hX dX6_blocks_21 rfl bp_m103 ?_
        refine AW_iret hX hE dX6_blocks_23 rfl (Nat.le_refl _) (Nat.le_refl _) ?_
        have e : spBlocks (kp, yd, qk, pm, pg, (n, ks, ht, p, s, stp, fl, m, hd), w) (nI c) = (-103, (kp, yd, qk, pm, pg, (n, ks, ht, p, s, stp, fl, m, hd), w)) := by
          show cif _ _ _ = _
          rw [cif_neg (show ¬ (nI c < 1 ∨ 9 < nI c) from rgI (lo := 1) (hi := 9) (by decide) rfl hc1 hc2), cif_pos hn]
        rw [e] at hK
        exact hK h ⟨mp, ms, g⟩ (fr_rf _ _ _)
    · refine AW_bipush 13 hX dX6_blocks_11 rfl bp_m102 ?_
      refine AW_iret hX hE dX6_blocks_13 rfl (Nat.le_refl _) (Nat.le_refl _) ?_
      have e : spBlocks (kp, yd, qk, pm, pg, (n, ks, ht, p, s, stp, fl, m, hd), w) x = (-102, (kp, yd, qk, pm, pg, (n, ks, ht, p, s, stp, fl, m, hd), w)) := by
        show cif _ _ _ = _
        rw [cif_pos (Or.inr (Int32.not_le.mp c8))]
      rw [e] at hK
      exact hK h ⟨mp, ms, g⟩ (fr_rf _ _ _)
set_option maxRecDepth 100000 in
set_option maxHeartbeats 4000000 in
theorem C_step {h : AH} {K : Option Value → AH → Prop} {kp yd qk pm n ht p s : Nat} {pg ks : Nat → Nat} {stp fl : Int32} {m : Nat} {hd : HD} {w : SV} {mp ms : Int32} (g : CJ h (kp, yd, qk, pm, pg, (n, ks, ht, p, s, stp, fl, m, hd), w) mp ms) (ok : Sok (kp, yd, qk, pm, pg, (n, ks, ht, p, s, stp, fl, m, hd), w)) (x : Int32) (hK : ∀ h' : AH, CI h' (spStep (kp, yd, qk, pm, pg, (n, ks, ht, p, s, stp, fl, m, hd), w) x).2 → fr h h' 0 34 → K (some (.int (spStep (kp, yd, qk, pm, pg, (n, ks, ht, p, s, stp, fl, m, hd), w) x).1)) h') : aX6_step 4 [.ref 0, .int x] h K := by
  obtain ⟨h0, hpg, hsc, ⟨u, hk, hku⟩, ⟨u2, hrc⟩, ⟨nm, fm, hme⟩, hro⟩ := id g
  obtain ⟨h3, ⟨f, hgr, hks⟩, hhe⟩ := id hsc
  obtain ⟨⟨ok1, ok2, ok3, ok4, ok5, ok6, ok7, ok8⟩, okp, okw, okq, okpm, okpg, oky⟩ := id ok
  have h1 := hpg.1
  have h4 := hgr.1
  have h6 := hhe.1
  unfold yO at h0
  refine AM.of [some (.ref 0), some (.int x), none] pn_X6_step rfl (Nat.le_of_ble_eq_true rfl) (fun X hX hE => ?_)
  refine AW_aload_n 1 hX dX6_step_0 rfl rfl ?_
  refine AW_iload_n 2 hX dX6_step_1 rfl rfl ?_
  refine AW_cV (As := [_]) 5 hX dX6_step_2 rfl ml_X6_130 mw_X6_refusalOfStep (by first | assumption | exact hset_eq | exact (hset_ne (by omega)).trans (by first | assumption | exact hset_eq | exact (hset_ne (by omega)).trans (by first | assumption | exact hset_eq | exact (hset_ne (by omega)).trans (by first | assumption | exact hset_eq | exact (hset_ne (by omega)).trans (by first | assumption | exact hset_eq))))) (by decide) rfl rfl rfl (Nat.le_of_ble_eq_true rfl) (by decide) ⟨(Nat.le_refl _), (Nat.le_refl _)⟩ (C_refusal g ok x (fun hno => ?_) (fun far hf ef hno => ?_) (fun far hf ef hy => ?_))
  · refine AW_istore_n 6 hX dX6_step_5 rfl (Nat.le_of_ble_eq_true rfl) rfl ?_
    refine AW_iload_n 7 hX dX6_step_6 rfl rfl ?_
    refine AW_if_eq 10 12 hX dX6_step_7 rfl (by decide) (fun c7 => absurd c7 (by decide)) (fun c7 => ?_)
    refine AW_iload_n 11 hX dX6_step_10 rfl rfl ?_
    refine AW_iret hX hE dX6_step_11 rfl (Nat.le_refl _) (Nat.le_refl _) ?_
    have e : spStep (kp, yd, qk, pm, pg, (n, ks, ht, p, s, stp, fl, m, hd), w) x = (-102, (kp, yd, qk, pm, pg, (n, ks, ht, p, s, stp, fl, m, hd), w)) := by
      show cif _ _ _ = _
      rw [cif_neg hno]
    rw [e] at hK
    exact hK h ⟨mp, ms, g⟩ (fr_rf _ _ _)
  · subst ef
    refine AW_istore_n 6 hX dX6_step_5 rfl (Nat.le_of_ble_eq_true rfl) rfl ?_
    refine AW_iload_n 7 hX dX6_step_6 rfl rfl ?_
    refine AW_if_eq 10 12 hX dX6_step_7 rfl (by decide) (fun c7 => absurd c7 (by decide)) (fun c7 => ?_)
    refine AW_iload_n 11 hX dX6_step_10 rfl rfl ?_
    refine AW_iret hX hE dX6_step_11 rfl (Nat.le_refl _) (Nat.le_refl _) ?_
    have e : spStep (kp, yd, qk, pm, pg, (n, ks, ht, p, s, stp, fl, m, hd), w) (nI far) = (-103, (kp, yd, qk, pm, pg, (n, ks, ht, p, s, stp, fl, m, hd), w)) := by
      show cif _ _ _ = _
      rw [cif_pos ⟨far, by omega, rfl⟩, cN_nI (by omega), cif_neg hno]
    rw [e] at hK
    exact hK h ⟨mp, ms, g⟩ (fr_rf _ _ _)
  · subst ef
    refine AW_istore_n 6 hX dX6_step_5 rfl (Nat.le_of_ble_eq_true rfl) rfl ?_
    refine AW_iload_n 7 hX dX6_step_6 rfl rfl ?_
    refine AW_if_eq 10 12 hX dX6_step_7 rfl (by decide) (fun c7 => ?_) (fun c7 => absurd rfl c7)
    refine AW_aload_n 13 hX dX6_step_12 rfl rfl ?_
    refine AW_get 16 hX dX6_step_13 rfl fl_X6_19 (by first | assumption | exact hset_eq | exact (hset_ne (by omega)).trans (by first | assumption | exact hset_eq | exact (hset_ne (by omega)).trans (by first | assumption | exact hset_eq | exact (hset_ne (by omega)).trans (by first | assumption | exact hset_eq | exact (hset_ne (by omega)).trans (by first | assumption | exact hset_eq))))) rfl ?_
    refine AW_iload_n 17 hX dX6_step_16 rfl rfl ?_
    refine AW_cV (As := [_]) 20 hX dX6_step_17 rfl ml_X6_133 mw_X5_go (by first | assumption | exact hset_eq | exact (hset_ne (by omega)).trans (by first | assumption | exact hset_eq | exact (hset_ne (by omega)).trans (by first | assumption | exact hset_eq | exact (hset_ne (by omega)).trans (by first | assumption | exact hset_eq | exact (hset_ne (by omega)).trans (by first | assumption | exact hset_eq))))) (by decide) rfl rfl rfl (Nat.le_of_ble_eq_true rfl) (by decide) ⟨(Nat.le_refl _), (Nat.le_refl _)⟩ (c_go hsc ok2 (by omega) (by omega) ok1 far hf hy (fun h' hfell hsc' hfr' => ?_) (fun h' hfell hsc' hfr' => ?_))
    · refine AW_if_eq 23 33 hX dX6_step_20 rfl (by decide) (fun c20 => ?_) (fun c20 => absurd rfl c20)
      refine AW_iconst 34 hX dX6_step_33 rfl ic_m1 ?_
      refine AW_iret hX hE dX6_step_34 rfl (Nat.le_refl _) (Nat.le_refl _) ?_
      have e : spStep (kp, yd, qk, pm, pg, (n, ks, ht, p, s, stp, fl, m, hd), w) (nI far) = (-1, (kp, yd, qk, pm, pg, (n, ks, ht, 0, 0, stp + 1, fl + 1, m, hd), w)) := by
        show cif _ _ _ = _
        rw [cif_pos ⟨far, by omega, rfl⟩, cN_nI (by omega), cif_pos hy, cif_pos hfell]
      rw [e] at hK
      exact hK h' ⟨mp, ms, CJ_now g hsc' (fr_wide hfr' (by omega) (by omega))⟩ (fr_wide hfr' (by omega) (by omega))
    · have h0' := (hfr' 0 (by omega)).trans h0
      have h3' := hsc'.1
      refine AW_if_eq 23 33 hX dX6_step_20 rfl (by decide) (fun c20 => absurd c20 (by decide)) (fun c20 => ?_)
      refine AW_aload_n 24 hX dX6_step_23 rfl rfl ?_
      refine AW_get 27 hX dX6_step_24 rfl fl_X6_19 (by first | assumption | exact hset_eq | exact (hset_ne (by omega)).trans (by first | assumption | exact hset_eq | exact (hset_ne (by omega)).trans (by first | assumption | exact hset_eq | exact (hset_ne (by omega)).trans (by first | assumption | exact hset_eq | exact (hset_ne (by omega)).trans (by first | assumption | exact hset_eq))))) rfl ?_
      refine AW_get 30 hX dX6_step_27 rfl fl_X6_136 (by first | assumption | exact hset_eq | exact (hset_ne (by omega)).trans (by first | assumption | exact hset_eq | exact (hset_ne (by omega)).trans (by first | assumption | exact hset_eq | exact (hset_ne (by omega)).trans (by first | assumption | exact hset_eq | exact (hset_ne (by omega)).trans (by first | assumption | exact hset_eq))))) rfl ?_
      refine AW_goto 34 hX dX6_step_30 (by decide) ?_
      refine AW_iret hX hE dX6_step_34 rfl (Nat.le_refl _) (Nat.le_refl _) ?_
      have e : spStep (kp, yd, qk, pm, pg, (n, ks, ht, p, s, stp, fl, m, hd), w) (nI far) = (nI (p + far), (kp, yd, qk, pm, pg, (n, ks, ht, p + far, sa (ks (p + far)) s far, stp + 1, fl, m, hd), w)) := by
        show cif _ _ _ = _
        rw [cif_pos ⟨far, by omega, rfl⟩, cN_nI (by omega), cif_pos hy, cif_neg hfell]
      rw [e] at hK
      exact hK h' ⟨mp, ms, CJ_now g hsc' (fr_wide hfr' (by omega) (by omega))⟩ (fr_wide hfr' (by omega) (by omega))
set_option maxRecDepth 100000 in
set_option maxHeartbeats 4000000 in
theorem C_would {h : AH} {K : Option Value → AH → Prop} {kp yd qk pm n ht p s : Nat} {pg ks : Nat → Nat} {stp fl : Int32} {m : Nat} {hd : HD} {w : SV} {mp ms : Int32} (g : CJ h (kp, yd, qk, pm, pg, (n, ks, ht, p, s, stp, fl, m, hd), w) mp ms) (ok : Sok (kp, yd, qk, pm, pg, (n, ks, ht, p, s, stp, fl, m, hd), w)) (x : Int32) (hK : ∀ h' : AH, CI h' (spWould (kp, yd, qk, pm, pg, (n, ks, ht, p, s, stp, fl, m, hd), w) x).2 → fr h h' 0 34 → K (some (.int (spWould (kp, yd, qk, pm, pg, (n, ks, ht, p, s, stp, fl, m, hd), w) x).1)) h') : aX6_would 3 [.ref 0, .int x] h K := by
  obtain ⟨h0, hpg, hsc, ⟨u, hk, hku⟩, ⟨u2, hrc⟩, ⟨nm, fm, hme⟩, hro⟩ := id g
  obtain ⟨h3, ⟨f, hgr, hks⟩, hhe⟩ := id hsc
  obtain ⟨⟨ok1, ok2, ok3, ok4, ok5, ok6, ok7, ok8⟩, okp, okw, okq, okpm, okpg, oky⟩ := id ok
  have h1 := hpg.1
  have h4 := hgr.1
  have h6 := hhe.1
  unfold yO at h0
  refine AM.of [some (.ref 0), some (.int x), none] pn_X6_would rfl (Nat.le_of_ble_eq_true rfl) (fun X hX hE => ?_)
  refine AW_aload_n 1 hX dX6_would_0 rfl rfl ?_
  refine AW_iload_n 2 hX dX6_would_1 rfl rfl ?_
  refine AW_cV (As := [_]) 5 hX dX6_would_2 rfl ml_X6_130 mw_X6_refusalOfStep (by first | assumption | exact hset_eq | exact (hset_ne (by omega)).trans (by first | assumption | exact hset_eq | exact (hset_ne (by omega)).trans (by first | assumption | exact hset_eq | exact (hset_ne (by omega)).trans (by first | assumption | exact hset_eq | exact (hset_ne (by omega)).trans (by first | assumption | exact hset_eq))))) (by decide) rfl rfl rfl (Nat.le_of_ble_eq_true rfl) (by decide) ⟨(Nat.le_refl _), (Nat.le_refl _)⟩ (C_refusal g ok x (fun hno => ?_) (fun far hf ef hno => ?_) (fun far hf ef hy => ?_))
  · refine AW_istore_n 6 hX dX6_would_5 rfl (Nat.le_of_ble_eq_true rfl) rfl ?_
    refine AW_iload_n 7 hX dX6_would_6 rfl rfl ?_
    refine AW_if_eq 10 14 hX dX6_would_7 rfl (by decide) (fun c7 => absurd c7 (by decide)) (fun c7 => ?_)
    refine AW_iload_n 11 hX dX6_would_10 rfl rfl ?_
    refine AW_goto 22 hX dX6_would_11 (by decide) ?_
    refine AW_iret hX hE dX6_would_22 rfl (Nat.le_refl _) (Nat.le_refl _) ?_
    have e : spWould (kp, yd, qk, pm, pg, (n, ks, ht, p, s, stp, fl, m, hd), w) x = (-102, (kp, yd, qk, pm, pg, (n, ks, ht, p, s, stp, fl, m, hd), w)) := by
      show (cif _ _ _, _) = _
      rw [cif_neg hno]
    rw [e] at hK
    exact hK h ⟨mp, ms, g⟩ (fr_rf _ _ _)
  · subst ef
    refine AW_istore_n 6 hX dX6_would_5 rfl (Nat.le_of_ble_eq_true rfl) rfl ?_
    refine AW_iload_n 7 hX dX6_would_6 rfl rfl ?_
    refine AW_if_eq 10 14 hX dX6_would_7 rfl (by decide) (fun c7 => absurd c7 (by decide)) (fun c7 => ?_)
    refine AW_iload_n 11 hX dX6_would_10 rfl rfl ?_
    refine AW_goto 22 hX dX6_would_11 (by decide) ?_
    refine AW_iret hX hE dX6_would_22 rfl (Nat.le_refl _) (Nat.le_refl _) ?_
    have e : spWould (kp, yd, qk, pm, pg, (n, ks, ht, p, s, stp, fl, m, hd), w) (nI far) = (-103, (kp, yd, qk, pm, pg, (n, ks, ht, p, s, stp, fl, m, hd), w)) := by
      show (cif _ _ _, _) = _
      rw [cif_pos ⟨far, by omega, rfl⟩, cN_nI (by omega), cif_neg hno]
    rw [e] at hK
    exact hK h ⟨mp, ms, g⟩ (fr_rf _ _ _)
  · subst ef
    refine AW_istore_n 6 hX dX6_would_5 rfl (Nat.le_of_ble_eq_true rfl) rfl ?_
    refine AW_iload_n 7 hX dX6_would_6 rfl rfl ?_
    refine AW_if_eq 10 14 hX dX6_would_7 rfl (by decide) (fun c7 => ?_) (fun c7 => absurd rfl c7)
    refine AW_aload_n 15 hX dX6_would_14 rfl rfl ?_
    refine AW_get 18 hX dX6_would_15 rfl fl_X6_19 (by first | assumption | exact hset_eq | exact (hset_ne (by omega)).trans (by first | assumption | exact hset_eq | exact (hset_ne (by omega)).trans (by first | assumption | exact hset_eq | exact (hset_ne (by omega)).trans (by first | assumption | exact hset_eq | exact (hset_ne (by omega)).trans (by first | assumption | exact hset_eq))))) rfl ?_
    refine AW_iload_n 19 hX dX6_would_18 rfl rfl ?_
    refine AW_cV (As := [_]) 22 hX dX6_would_19 rfl ml_X6_139 mw_X5_swayBy (by first | assumption | exact hset_eq | exact (hset_ne (by omega)).trans (by first | assumption | exact hset_eq | exact (hset_ne (by omega)).trans (by first | assumption | exact hset_eq | exact (hset_ne (by omega)).trans (by first | assumption | exact hset_eq | exact (hset_ne (by omega)).trans (by first | assumption | exact hset_eq))))) (by decide) rfl rfl rfl (Nat.le_of_ble_eq_true rfl) (by decide) ⟨(Nat.le_refl _), (Nat.le_refl _)⟩ (c_sswayBy hsc ok2 (by omega) far hf hy ?_)
    refine AW_iret hX hE dX6_would_22 rfl (Nat.le_refl _) (Nat.le_refl _) ?_
    have e : spWould (kp, yd, qk, pm, pg, (n, ks, ht, p, s, stp, fl, m, hd), w) (nI far) = (nI (sa (ks (p + far)) s far), (kp, yd, qk, pm, pg, (n, ks, ht, p, s, stp, fl, m, hd), w)) := by
      show (cif _ _ _, _) = _
      rw [cif_pos ⟨far, by omega, rfl⟩, cN_nI (by omega), cif_pos hy]
    rw [e] at hK
    exact hK h ⟨mp, ms, g⟩ (fr_rf _ _ _)
set_option maxRecDepth 100000 in
set_option maxHeartbeats 4000000 in
theorem C_hear {h : AH} {K : Option Value → AH → Prop} {kp yd qk pm n ht p s : Nat} {pg ks : Nat → Nat} {stp fl : Int32} {m : Nat} {hd : HD} {w : SV} {mp ms : Int32} (g : CJ h (kp, yd, qk, pm, pg, (n, ks, ht, p, s, stp, fl, m, hd), w) mp ms) (ok : Sok (kp, yd, qk, pm, pg, (n, ks, ht, p, s, stp, fl, m, hd), w)) (x y z : Int32) (b : Nat) (hb1 : b ≤ 1) (hK : ∀ h' : AH, CI h' (spHear (kp, yd, qk, pm, pg, (n, ks, ht, p, s, stp, fl, m, hd), w) x y z (nI b)).2 → fr h h' 0 34 → K (some (.int (spHear (kp, yd, qk, pm, pg, (n, ks, ht, p, s, stp, fl, m, hd), w) x y z (nI b)).1)) h') : aX6_hear 1 [.ref 0, .int x, .int y, .int z, .int (nI b)] h K := by
  obtain ⟨h0, hpg, hsc, ⟨u, hk, hku⟩, ⟨u2, hrc⟩, ⟨nm, fm, hme⟩, hro⟩ := id g
  obtain ⟨h3, ⟨f, hgr, hks⟩, hhe⟩ := id hsc
  obtain ⟨⟨ok1, ok2, ok3, ok4, ok5, ok6, ok7, ok8⟩, okp, okw, okq, okpm, okpg, oky⟩ := id ok
  have h1 := hpg.1
  have h4 := hgr.1
  have h6 := hhe.1
  unfold yO at h0
  refine AM.of [some (.ref 0), some (.int x), some (.int y), some (.int z), some (.int (nI b))] pn_X6_hear rfl (Nat.le_of_ble_eq_true rfl) (fun X hX hE => ?_)
  refine AW_aload_n 1 hX dX6_hear_0 rfl rfl ?_
  refine AW_get 4 hX dX6_hear_1 rfl fl_X6_19 (by first | assumption | exact hset_eq | exact (hset_ne (by omega)).trans (by first | assumption | exact hset_eq | exact (hset_ne (by omega)).trans (by first | assumption | exact hset_eq | exact (hset_ne (by omega)).trans (by first | assumption | exact hset_eq | exact (hset_ne (by omega)).trans (by first | assumption | exact hset_eq))))) rfl ?_
  refine AW_get 7 hX dX6_hear_4 rfl fl_X6_82 (by first | assumption | exact hset_eq | exact (hset_ne (by omega)).trans (by first | assumption | exact hset_eq | exact (hset_ne (by omega)).trans (by first | assumption | exact hset_eq | exact (hset_ne (by omega)).trans (by first | assumption | exact hset_eq | exact (hset_ne (by omega)).trans (by first | assumption | exact hset_eq))))) rfl ?_
  refine AW_iload_n 8 hX dX6_hear_7 rfl rfl ?_
  refine AW_cV (As := [_]) 11 hX dX6_hear_8 rfl ml_X6_88 mw_X0_has (by first | assumption | exact hset_eq | exact (hset_ne (by omega)).trans (by first | assumption | exact hset_eq | exact (hset_ne (by omega)).trans (by first | assumption | exact hset_eq | exact (hset_ne (by omega)).trans (by first | assumption | exact hset_eq | exact (hset_ne (by omega)).trans (by first | assumption | exact hset_eq))))) (by decide) rfl rfl rfl (Nat.le_of_ble_eq_true rfl) (by decide) ⟨(Nat.le_refl _), (Nat.le_refl _)⟩ (c_has hgr x (fun q hq eq => ?_) (fun hno => ?_))
  · subst eq
    refine AW_if_ne 14 17 hX dX6_hear_11 rfl (by decide) (fun c11 => ?_) (fun c11 => absurd c11 (by decide))
    refine AW_iload_n 18 hX dX6_hear_17 rfl rfl ?_
    refine AW_iconst 19 hX dX6_hear_18 rfl ic_1 ?_
    refine AW_icmp_lt 22 37 hX dX6_hear_19 rfl (by decide) (fun c19 => ?_) (fun c19 => ?_)
    · refine AW_bipush 39 hX dX6_hear_37 rfl bp_m102 ?_
      refine AW_iret hX hE dX6_hear_39 rfl (Nat.le_refl _) (Nat.le_refl _) ?_
      have e : spHear (kp, yd, qk, pm, pg, (n, ks, ht, p, s, stp, fl, m, hd), w) (nI q) y z (nI b) = (-102, (kp, yd, qk, pm, pg, (n, ks, ht, p, s, stp, fl, m, hd), w)) := by
        show cif _ _ _ = _
        rw [cif_pos ⟨q, hq, rfl⟩, cif_pos (Or.inl (Or.inl c19))]
      rw [e] at hK
      exact hK h ⟨mp, ms, g⟩ (fr_rf _ _ _)
    · refine AW_iload_n 23 hX dX6_hear_22 rfl rfl ?_
      refine AW_iconst 24 hX dX6_hear_23 rfl ic_3 ?_
      refine AW_icmp_gt 27 37 hX dX6_hear_24 rfl (by decide) (fun c24 => ?_) (fun c24 => ?_)
      · refine AW_bipush 39 hX dX6_hear_37 rfl bp_m102 ?_
        refine AW_iret hX hE dX6_hear_39 rfl (Nat.le_refl _) (Nat.le_refl _) ?_
        have e : spHear (kp, yd, qk, pm, pg, (n, ks, ht, p, s, stp, fl, m, hd), w) (nI q) y z (nI b) = (-102, (kp, yd, qk, pm, pg, (n, ks, ht, p, s, stp, fl, m, hd), w)) := by
          show cif _ _ _ = _
          rw [cif_pos ⟨q, hq, rfl⟩, cif_pos (Or.inl (Or.inr c24))]
        rw [e] at hK
        exact hK h ⟨mp, ms, g⟩ (fr_rf _ _ _)
      · refine AW_iload_n 28 hX dX6_hear_27 rfl rfl ?_
        refine AW_if_lt 31 37 hX dX6_hear_28 rfl (by decide) (fun c28 => ?_) (fun c28 => ?_)
        · refine AW_bipush 39 hX dX6_hear_37 rfl bp_m102 ?_
          refine AW_iret hX hE dX6_hear_39 rfl (Nat.le_refl _) (Nat.le_refl _) ?_
          have e : spHear (kp, yd, qk, pm, pg, (n, ks, ht, p, s, stp, fl, m, hd), w) (nI q) y z (nI b) = (-102, (kp, yd, qk, pm, pg, (n, ks, ht, p, s, stp, fl, m, hd), w)) := by
            show cif _ _ _ = _
            rw [cif_pos ⟨q, hq, rfl⟩, cif_pos (Or.inr (Or.inl c28))]
          rw [e] at hK
          exact hK h ⟨mp, ms, g⟩ (fr_rf _ _ _)
        · refine AW_iload_n 32 hX dX6_hear_31 rfl rfl ?_
          refine AW_bipush 34 hX dX6_hear_32 rfl bp_12 ?_
          refine AW_icmp_lt 37 40 hX dX6_hear_34 rfl (by decide) (fun c34 => ?_) (fun c34 => ?_)
          · obtain ⟨cy, hy1, hy2, ey⟩ := rg (x := y) 1 3 (by decide) (by decide) c19 c24
            obtain ⟨cz, hz1, hz2, ez⟩ := rg (x := z) 0 11 (by decide) (by decide) c28 (fun q => absurd c34 (Int32.not_lt.mpr (Int32.le_iff_toInt_le.mpr (by have e := Int32.lt_iff_toInt_lt.mp q; rw [show (nI 11).toInt = 11 from rfl] at e; show (12 : Int) ≤ _; omega))))
            subst ey
            subst ez
            refine AW_aload_n 41 hX dX6_hear_40 rfl rfl ?_
            refine AW_get 44 hX dX6_hear_41 rfl fl_X6_19 (by first | assumption | exact hset_eq | exact (hset_ne (by omega)).trans (by first | assumption | exact hset_eq | exact (hset_ne (by omega)).trans (by first | assumption | exact hset_eq | exact (hset_ne (by omega)).trans (by first | assumption | exact hset_eq | exact (hset_ne (by omega)).trans (by first | assumption | exact hset_eq))))) rfl ?_
            refine AW_get 47 hX dX6_hear_44 rfl fl_X6_100 (by first | assumption | exact hset_eq | exact (hset_ne (by omega)).trans (by first | assumption | exact hset_eq | exact (hset_ne (by omega)).trans (by first | assumption | exact hset_eq | exact (hset_ne (by omega)).trans (by first | assumption | exact hset_eq | exact (hset_ne (by omega)).trans (by first | assumption | exact hset_eq))))) rfl ?_
            refine AW_iload_n 48 hX dX6_hear_47 rfl rfl ?_
            refine AW_iload_n 49 hX dX6_hear_48 rfl rfl ?_
            refine AW_iload_n 50 hX dX6_hear_49 rfl rfl ?_
            refine AW_iload 52 hX dX6_hear_50 rfl rfl ?_
            refine AW_cV (As := [_, _, _, _]) 55 hX dX6_hear_52 rfl ml_X6_161 mw_X1_append (by first | assumption | exact hset_eq | exact (hset_ne (by omega)).trans (by first | assumption | exact hset_eq | exact (hset_ne (by omega)).trans (by first | assumption | exact hset_eq | exact (hset_ne (by omega)).trans (by first | assumption | exact hset_eq | exact (hset_ne (by omega)).trans (by first | assumption | exact hset_eq))))) (by decide) rfl rfl rfl (Nat.le_of_ble_eq_true rfl) (by decide) ⟨(Nat.le_refl _), (Nat.le_refl _)⟩ (c_happend hhe q cy cz b hb1 (fun e6 => ?_) (fun h' hm6 hhe' hfr' => ?_))
            · refine AW_if_eq 58 71 hX dX6_hear_55 rfl (by decide) (fun c55 => ?_) (fun c55 => absurd rfl c55)
              refine AW_bipush 73 hX dX6_hear_71 rfl bp_m104 ?_
              refine AW_iret hX hE dX6_hear_73 rfl (Nat.le_refl _) (Nat.le_refl _) ?_
              have e : spHear (kp, yd, qk, pm, pg, (n, ks, ht, p, s, stp, fl, m, hd), w) (nI q) (nI cy) (nI cz) (nI b) = (-104, (kp, yd, qk, pm, pg, (n, ks, ht, p, s, stp, fl, m, hd), w)) := by
                show cif _ _ _ = _
                rw [cif_pos ⟨q, hq, rfl⟩, cif_neg (fun q => q.elim (fun q => rgI (lo := 1) (hi := 3) (by decide) rfl hy1 hy2 q) (fun q => rgI (lo := 0) (hi := 11) (by decide) rfl hz1 hz2 q)), cif_pos e6]
              rw [e] at hK
              exact hK h ⟨mp, ms, g⟩ (fr_rf _ _ _)
            · have h0' := (hfr' 0 (by omega)).trans h0
              have h3' := (hfr' 3 (by omega)).trans h3
              have h6' := hhe'.1
              refine AW_if_eq 58 71 hX dX6_hear_55 rfl (by decide) (fun c55 => absurd c55 (by decide)) (fun c55 => ?_)
              refine AW_aload_n 59 hX dX6_hear_58 rfl rfl ?_
              refine AW_get 62 hX dX6_hear_59 rfl fl_X6_19 (by first | assumption | exact hset_eq | exact (hset_ne (by omega)).trans (by first | assumption | exact hset_eq | exact (hset_ne (by omega)).trans (by first | assumption | exact hset_eq | exact (hset_ne (by omega)).trans (by first | assumption | exact hset_eq | exact (hset_ne (by omega)).trans (by first | assumption | exact hset_eq))))) rfl ?_
              refine AW_get 65 hX dX6_hear_62 rfl fl_X6_100 (by first | assumption | exact hset_eq | exact (hset_ne (by omega)).trans (by first | assumption | exact hset_eq | exact (hset_ne (by omega)).trans (by first | assumption | exact hset_eq | exact (hset_ne (by omega)).trans (by first | assumption | exact hset_eq | exact (hset_ne (by omega)).trans (by first | assumption | exact hset_eq))))) rfl ?_
              refine AW_cV (As := []) 68 hX dX6_hear_65 rfl ml_X6_164 mw_X1_size (by first | assumption | exact hset_eq | exact (hset_ne (by omega)).trans (by first | assumption | exact hset_eq | exact (hset_ne (by omega)).trans (by first | assumption | exact hset_eq | exact (hset_ne (by omega)).trans (by first | assumption | exact hset_eq | exact (hset_ne (by omega)).trans (by first | assumption | exact hset_eq))))) (by decide) rfl rfl rfl (Nat.le_of_ble_eq_true rfl) (by decide) ⟨(Nat.le_refl _), (Nat.le_refl _)⟩ (c_hsize hhe' ?_)
              refine AW_goto 73 hX dX6_hear_68 (by decide) ?_
              refine AW_iret hX hE dX6_hear_73 rfl (Nat.le_refl _) (Nat.le_refl _) ?_
              have e : spHear (kp, yd, qk, pm, pg, (n, ks, ht, p, s, stp, fl, m, hd), w) (nI q) (nI cy) (nI cz) (nI b) = (nI (m + 1), (kp, yd, qk, pm, pg, (n, ks, ht, p, s, stp, fl, m + 1, fun j => if j = m then (q, cy, cz, b) else hd j), w)) := by
                show cif _ _ _ = _
                rw [cif_pos ⟨q, hq, rfl⟩, cif_neg (fun q => q.elim (fun q => rgI (lo := 1) (hi := 3) (by decide) rfl hy1 hy2 q) (fun q => rgI (lo := 0) (hi := 11) (by decide) rfl hz1 hz2 q)), cif_neg (by omega), cN_nI (by omega), cN_nI (by omega), cN_nI (by omega), cN_nI (by omega)]
              rw [e] at hK
              exact hK h' ⟨mp, ms, CJ_now g ⟨h3', ⟨f, gr_fr hgr hfr' (by omega), hks⟩, hhe'⟩ (fr_wide hfr' (by omega) (by omega))⟩ (fr_wide hfr' (by omega) (by omega))
          · refine AW_bipush 39 hX dX6_hear_37 rfl bp_m102 ?_
            refine AW_iret hX hE dX6_hear_39 rfl (Nat.le_refl _) (Nat.le_refl _) ?_
            have e : spHear (kp, yd, qk, pm, pg, (n, ks, ht, p, s, stp, fl, m, hd), w) (nI q) y z (nI b) = (-102, (kp, yd, qk, pm, pg, (n, ks, ht, p, s, stp, fl, m, hd), w)) := by
              show cif _ _ _ = _
              rw [cif_pos ⟨q, hq, rfl⟩, cif_pos (Or.inr (Or.inr (Int32.lt_iff_toInt_lt.mpr (by have e := Int32.le_iff_toInt_le.mp (Int32.not_lt.mp c34); rw [show (12 : Int32).toInt = 12 from rfl] at e; show (11 : Int) < _; omega))))]
            rw [e] at hK
            exact hK h ⟨mp, ms, g⟩ (fr_rf _ _ _)
  · refine AW_if_ne 14 17 hX dX6_hear_11 rfl (by decide) (fun c11 => absurd rfl c11) (fun c11 => ?_)
    refine AW_bipush 16 hX dX6_hear_14 rfl bp_m101 ?_
    refine AW_iret hX hE dX6_hear_16 rfl (Nat.le_refl _) (Nat.le_refl _) ?_
    have e : spHear (kp, yd, qk, pm, pg, (n, ks, ht, p, s, stp, fl, m, hd), w) x y z (nI b) = (-101, (kp, yd, qk, pm, pg, (n, ks, ht, p, s, stp, fl, m, hd), w)) := by
      show cif _ _ _ = _
      rw [cif_neg (fun ⟨q, hq, eq⟩ => hno q hq eq)]
    rw [e] at hK
    exact hK h ⟨mp, ms, g⟩ (fr_rf _ _ _)
set_option maxRecDepth 100000 in
set_option maxHeartbeats 4000000 in
theorem C_forget {h : AH} {K : Option Value → AH → Prop} {kp yd qk pm n ht p s : Nat} {pg ks : Nat → Nat} {stp fl : Int32} {m : Nat} {hd : HD} {w : SV} {mp ms : Int32} (g : CJ h (kp, yd, qk, pm, pg, (n, ks, ht, p, s, stp, fl, m, hd), w) mp ms) (ok : Sok (kp, yd, qk, pm, pg, (n, ks, ht, p, s, stp, fl, m, hd), w)) (hK : ∀ h' : AH, CI h' (spForget (kp, yd, qk, pm, pg, (n, ks, ht, p, s, stp, fl, m, hd), w)).2 → fr h h' 0 34 → K (some (.int (spForget (kp, yd, qk, pm, pg, (n, ks, ht, p, s, stp, fl, m, hd), w)).1)) h') : aX6_forget 1 [.ref 0] h K := by
  obtain ⟨h0, hpg, hsc, ⟨u, hk, hku⟩, ⟨u2, hrc⟩, ⟨nm, fm, hme⟩, hro⟩ := id g
  obtain ⟨h3, ⟨f, hgr, hks⟩, hhe⟩ := id hsc
  obtain ⟨⟨ok1, ok2, ok3, ok4, ok5, ok6, ok7, ok8⟩, okp, okw, okq, okpm, okpg, oky⟩ := id ok
  have h1 := hpg.1
  have h4 := hgr.1
  have h6 := hhe.1
  unfold yO at h0
  refine AM.of [some (.ref 0)] pn_X6_forget rfl (Nat.le_of_ble_eq_true rfl) (fun X hX hE => ?_)
  refine AW_aload_n 1 hX dX6_forget_0 rfl rfl ?_
  refine AW_get 4 hX dX6_forget_1 rfl fl_X6_19 (by first | assumption | exact hset_eq | exact (hset_ne (by omega)).trans (by first | assumption | exact hset_eq | exact (hset_ne (by omega)).trans (by first | assumption | exact hset_eq | exact (hset_ne (by omega)).trans (by first | assumption | exact hset_eq | exact (hset_ne (by omega)).trans (by first | assumption | exact hset_eq))))) rfl ?_
  refine AW_get 7 hX dX6_forget_4 rfl fl_X6_100 (by first | assumption | exact hset_eq | exact (hset_ne (by omega)).trans (by first | assumption | exact hset_eq | exact (hset_ne (by omega)).trans (by first | assumption | exact hset_eq | exact (hset_ne (by omega)).trans (by first | assumption | exact hset_eq | exact (hset_ne (by omega)).trans (by first | assumption | exact hset_eq))))) rfl ?_
  refine AW_cV (As := []) 10 hX dX6_forget_7 rfl ml_X6_165 mw_X1_clear (by first | assumption | exact hset_eq | exact (hset_ne (by omega)).trans (by first | assumption | exact hset_eq | exact (hset_ne (by omega)).trans (by first | assumption | exact hset_eq | exact (hset_ne (by omega)).trans (by first | assumption | exact hset_eq | exact (hset_ne (by omega)).trans (by first | assumption | exact hset_eq))))) (by decide) rfl rfl rfl (Nat.le_of_ble_eq_true rfl) (by decide) ⟨(Nat.le_refl _), (Nat.le_refl _)⟩ (c_hclear hhe (fun h' hhe' hfr' => ?_))
  refine AW_iret hX hE dX6_forget_10 rfl (Nat.le_refl _) (Nat.le_refl _) ?_
  exact hK h' ⟨mp, ms, CJ_now g ⟨(hfr' 3 (by omega)).trans h3, ⟨f, gr_fr hgr hfr' (by omega), hks⟩, hhe'⟩ (fr_wide hfr' (by omega) (by omega))⟩ (fr_wide hfr' (by omega) (by omega))
set_option maxRecDepth 100000 in
set_option maxHeartbeats 4000000 in
theorem C_heights {h : AH} {K : Option Value → AH → Prop} {kp yd qk pm n ht p s : Nat} {pg ks : Nat → Nat} {stp fl : Int32} {m : Nat} {hd : HD} {w : SV} {mp ms : Int32} (g : CJ h (kp, yd, qk, pm, pg, (n, ks, ht, p, s, stp, fl, m, hd), w) mp ms) (ok : Sok (kp, yd, qk, pm, pg, (n, ks, ht, p, s, stp, fl, m, hd), w)) (hK : ∀ h' : AH, CI h' (spHeights (kp, yd, qk, pm, pg, (n, ks, ht, p, s, stp, fl, m, hd), w)).2 → fr h h' 0 34 → K (some (.int (spHeights (kp, yd, qk, pm, pg, (n, ks, ht, p, s, stp, fl, m, hd), w)).1)) h') : aX6_heights 4 [.ref 0] h K := by
  obtain ⟨h0, hpg, hsc, ⟨u, hk, hku⟩, ⟨u2, hrc⟩, ⟨nm, fm, hme⟩, hro⟩ := id g
  obtain ⟨h3, ⟨f, hgr, hks⟩, hhe⟩ := id hsc
  obtain ⟨⟨ok1, ok2, ok3, ok4, ok5, ok6, ok7, ok8⟩, okp, okw, okq, okpm, okpg, oky⟩ := id ok
  have h1 := hpg.1
  have h4 := hgr.1
  have h6 := hhe.1
  unfold yO at h0
  refine AM.of [some (.ref 0)] pn_X6_heights rfl (Nat.le_of_ble_eq_true rfl) (fun X hX hE => ?_)
  refine AW_aload_n 1 hX dX6_heights_0 rfl rfl ?_
  refine AW_cV (As := []) 4 hX dX6_heights_1 rfl ml_X6_124 mw_X6_hasYard (by first | assumption | exact hset_eq | exact (hset_ne (by omega)).trans (by first | assumption | exact hset_eq | exact (hset_ne (by omega)).trans (by first | assumption | exact hset_eq | exact (hset_ne (by omega)).trans (by first | assumption | exact hset_eq | exact (hset_ne (by omega)).trans (by first | assumption | exact hset_eq))))) (by decide) rfl rfl rfl (Nat.le_of_ble_eq_true rfl) (by decide) ⟨(Nat.le_refl _), (Nat.le_refl _)⟩ (C_hasYard g ok (fun hn => ?_) (fun hn => ?_))
  · refine AW_if_eq 7 27 hX dX6_heights_4 rfl (by decide) (fun c4 => absurd c4 (by decide)) (fun c4 => ?_)
    refine AW_aload_n 8 hX dX6_heights_7 rfl rfl ?_
    refine AW_get 11 hX dX6_heights_8 rfl fl_X6_19 (by first | assumption | exact hset_eq | exact (hset_ne (by omega)).trans (by first | assumption | exact hset_eq | exact (hset_ne (by omega)).trans (by first | assumption | exact hset_eq | exact (hset_ne (by omega)).trans (by first | assumption | exact hset_eq | exact (hset_ne (by omega)).trans (by first | assumption | exact hset_eq))))) rfl ?_
    refine AW_get 14 hX dX6_heights_11 rfl fl_X6_100 (by first | assumption | exact hset_eq | exact (hset_ne (by omega)).trans (by first | assumption | exact hset_eq | exact (hset_ne (by omega)).trans (by first | assumption | exact hset_eq | exact (hset_ne (by omega)).trans (by first | assumption | exact hset_eq | exact (hset_ne (by omega)).trans (by first | assumption | exact hset_eq))))) rfl ?_
    refine AW_aload_n 15 hX dX6_heights_14 rfl rfl ?_
    refine AW_get 18 hX dX6_heights_15 rfl fl_X6_19 (by first | assumption | exact hset_eq | exact (hset_ne (by omega)).trans (by first | assumption | exact hset_eq | exact (hset_ne (by omega)).trans (by first | assumption | exact hset_eq | exact (hset_ne (by omega)).trans (by first | assumption | exact hset_eq | exact (hset_ne (by omega)).trans (by first | assumption | exact hset_eq))))) rfl ?_
    refine AW_get 21 hX dX6_heights_18 rfl fl_X6_82 (by first | assumption | exact hset_eq | exact (hset_ne (by omega)).trans (by first | assumption | exact hset_eq | exact (hset_ne (by omega)).trans (by first | assumption | exact hset_eq | exact (hset_ne (by omega)).trans (by first | assumption | exact hset_eq | exact (hset_ne (by omega)).trans (by first | assumption | exact hset_eq))))) rfl ?_
    refine AW_cV (As := [_]) 24 hX dX6_heights_21 rfl ml_X6_166 mw_X1_heightBits (by first | assumption | exact hset_eq | exact (hset_ne (by omega)).trans (by first | assumption | exact hset_eq | exact (hset_ne (by omega)).trans (by first | assumption | exact hset_eq | exact (hset_ne (by omega)).trans (by first | assumption | exact hset_eq | exact (hset_ne (by omega)).trans (by first | assumption | exact hset_eq))))) (by decide) rfl rfl rfl (Nat.le_of_ble_eq_true rfl) (by decide) ⟨(Nat.le_refl _), (Nat.le_refl _)⟩ (c_heightBits hgr hks ok2 hhe ok5 ?_)
    refine AW_goto 29 hX dX6_heights_24 (by decide) ?_
    refine AW_iret hX hE dX6_heights_29 rfl (Nat.le_refl _) (Nat.le_refl _) ?_
    have e : spHeights (kp, yd, qk, pm, pg, (n, ks, ht, p, s, stp, fl, m, hd), w) = (hB ks hd m, (kp, yd, qk, pm, pg, (n, ks, ht, p, s, stp, fl, m, hd), w)) := by
      show (cif _ _ _, _) = _
      rw [cif_neg (by omega)]
    rw [e] at hK
    exact hK h ⟨mp, ms, g⟩ (fr_rf _ _ _)
  · refine AW_if_eq 7 27 hX dX6_heights_4 rfl (by decide) (fun c4 => ?_) (fun c4 => absurd rfl c4)
    refine AW_bipush 29 hX dX6_heights_27 rfl bp_m103 ?_
    refine AW_iret hX hE dX6_heights_29 rfl (Nat.le_refl _) (Nat.le_refl _) ?_
    have e : spHeights (kp, yd, qk, pm, pg, (n, ks, ht, p, s, stp, fl, m, hd), w) = (-103, (kp, yd, qk, pm, pg, (n, ks, ht, p, s, stp, fl, m, hd), w)) := by
      show (cif _ _ _, _) = _
      rw [cif_pos hn]
    rw [e] at hK
    exact hK h ⟨mp, ms, g⟩ (fr_rf _ _ _)
set_option maxRecDepth 100000 in
set_option maxHeartbeats 4000000 in
theorem C_races {h : AH} {K : Option Value → AH → Prop} {kp yd qk pm n ht p s : Nat} {pg ks : Nat → Nat} {stp fl : Int32} {m : Nat} {hd : HD} {w : SV} {mp ms : Int32} (g : CJ h (kp, yd, qk, pm, pg, (n, ks, ht, p, s, stp, fl, m, hd), w) mp ms) (ok : Sok (kp, yd, qk, pm, pg, (n, ks, ht, p, s, stp, fl, m, hd), w)) (x y z : Int32) (hK : ∀ h' : AH, CI h' (spRaces (kp, yd, qk, pm, pg, (n, ks, ht, p, s, stp, fl, m, hd), w) x y z).2 → fr h h' 0 34 → K (some (.int (spRaces (kp, yd, qk, pm, pg, (n, ks, ht, p, s, stp, fl, m, hd), w) x y z).1)) h') : aX6_races 5 [.ref 0, .int x, .int y, .int z] h K := by
  obtain ⟨h0, hpg, hsc, ⟨u, hk, hku⟩, ⟨u2, hrc⟩, ⟨nm, fm, hme⟩, hro⟩ := id g
  obtain ⟨h3, ⟨f, hgr, hks⟩, hhe⟩ := id hsc
  obtain ⟨⟨ok1, ok2, ok3, ok4, ok5, ok6, ok7, ok8⟩, okp, okw, okq, okpm, okpg, oky⟩ := id ok
  have h1 := hpg.1
  have h4 := hgr.1
  have h6 := hhe.1
  unfold yO at h0
  obtain ⟨n0, ks0, ht0, p0, s0, stp0, fl0, m0, hd0⟩ := u2
  have h19 := hrc.1
  refine AM.of [some (.ref 0), some (.int x), some (.int y), some (.int z), none] pn_X6_races rfl (Nat.le_of_ble_eq_true rfl) (fun X hX hE => ?_)
  refine AW_iload_n 1 hX dX6_races_0 rfl rfl ?_
  refine AW_iconst 2 hX dX6_races_1 rfl ic_1 ?_
  refine AW_icmp_lt 5 24 hX dX6_races_2 rfl (by decide) (fun c2 => ?_) (fun c2 => ?_)
  · refine AW_bipush 26 hX dX6_races_24 rfl bp_m102 ?_
    refine AW_iret hX hE dX6_races_26 rfl (Nat.le_refl _) (Nat.le_refl _) ?_
    have e : spRaces (kp, yd, qk, pm, pg, (n, ks, ht, p, s, stp, fl, m, hd), w) x y z = (-102, (kp, yd, qk, pm, pg, (n, ks, ht, p, s, stp, fl, m, hd), w)) := by
      show (cif _ _ _, _) = _
      rw [cif_pos (Or.inl (Or.inl c2))]
    rw [e] at hK
    exact hK h ⟨mp, ms, g⟩ (fr_rf _ _ _)
  · refine AW_iload_n 6 hX dX6_races_5 rfl rfl ?_
    refine AW_bipush 8 hX dX6_races_6 rfl bp_60 ?_
    refine AW_icmp_gt 11 24 hX dX6_races_8 rfl (by decide) (fun c8 => ?_) (fun c8 => ?_)
    · refine AW_bipush 26 hX dX6_races_24 rfl bp_m102 ?_
      refine AW_iret hX hE dX6_races_26 rfl (Nat.le_refl _) (Nat.le_refl _) ?_
      have e : spRaces (kp, yd, qk, pm, pg, (n, ks, ht, p, s, stp, fl, m, hd), w) x y z = (-102, (kp, yd, qk, pm, pg, (n, ks, ht, p, s, stp, fl, m, hd), w)) := by
        show (cif _ _ _, _) = _
        rw [cif_pos (Or.inl (Or.inr c8))]
      rw [e] at hK
      exact hK h ⟨mp, ms, g⟩ (fr_rf _ _ _)
    · refine AW_iload_n 12 hX dX6_races_11 rfl rfl ?_
      refine AW_if_lt 15 24 hX dX6_races_12 rfl (by decide) (fun c12 => ?_) (fun c12 => ?_)
      · refine AW_bipush 26 hX dX6_races_24 rfl bp_m102 ?_
        refine AW_iret hX hE dX6_races_26 rfl (Nat.le_refl _) (Nat.le_refl _) ?_
        have e : spRaces (kp, yd, qk, pm, pg, (n, ks, ht, p, s, stp, fl, m, hd), w) x y z = (-102, (kp, yd, qk, pm, pg, (n, ks, ht, p, s, stp, fl, m, hd), w)) := by
          show (cif _ _ _, _) = _
          rw [cif_pos (Or.inr (Or.inl c12))]
        rw [e] at hK
        exact hK h ⟨mp, ms, g⟩ (fr_rf _ _ _)
      · refine AW_iload_n 16 hX dX6_races_15 rfl rfl ?_
        refine AW_if_lt 19 24 hX dX6_races_16 rfl (by decide) (fun c16 => ?_) (fun c16 => ?_)
        · refine AW_bipush 26 hX dX6_races_24 rfl bp_m102 ?_
          refine AW_iret hX hE dX6_races_26 rfl (Nat.le_refl _) (Nat.le_refl _) ?_
          have e : spRaces (kp, yd, qk, pm, pg, (n, ks, ht, p, s, stp, fl, m, hd), w) x y z = (-102, (kp, yd, qk, pm, pg, (n, ks, ht, p, s, stp, fl, m, hd), w)) := by
            show (cif _ _ _, _) = _
            rw [cif_pos (Or.inr (Or.inr (Or.inl c16)))]
          rw [e] at hK
          exact hK h ⟨mp, ms, g⟩ (fr_rf _ _ _)
        · refine AW_iload_n 20 hX dX6_races_19 rfl rfl ?_
          refine AW_iconst 21 hX dX6_races_20 rfl ic_2 ?_
          refine AW_icmp_le 24 27 hX dX6_races_21 rfl (by decide) (fun c21 => ?_) (fun c21 => ?_)
          · obtain ⟨cx, hx1, hx2, ex⟩ := rg (x := x) 1 60 (by decide) (by decide) c2 c8
            obtain ⟨cy, hy1, ey⟩ := nI_of c12
            obtain ⟨cz, hz1, ez⟩ := isP_of (n := 3) (x := z) (by decide) c16 (fun q => by have e1 := Int32.le_iff_toInt_le.mp c21; have e2 := Int32.le_iff_toInt_le.mp q; rw [show (2 : Int32).toInt = 2 from rfl] at e1; rw [show (nI 3).toInt = 3 from rfl] at e2; omega)
            subst ex
            subst ey
            subst ez
            refine AW_aload_n 28 hX dX6_races_27 rfl rfl ?_
            refine AW_cV (As := []) 31 hX dX6_races_28 rfl ml_X6_124 mw_X6_hasYard (by first | assumption | exact hset_eq | exact (hset_ne (by omega)).trans (by first | assumption | exact hset_eq | exact (hset_ne (by omega)).trans (by first | assumption | exact hset_eq | exact (hset_ne (by omega)).trans (by first | assumption | exact hset_eq | exact (hset_ne (by omega)).trans (by first | assumption | exact hset_eq))))) (by decide) rfl rfl rfl (Nat.le_of_ble_eq_true rfl) (by decide) ⟨(Nat.le_refl _), (Nat.le_refl _)⟩ (C_hasYard g ok (fun hn => ?_) (fun hn => ?_))
            · refine AW_if_ne 34 37 hX dX6_races_31 rfl (by decide) (fun c31 => ?_) (fun c31 => absurd c31 (by decide))
              refine AW_aload_n 38 hX dX6_races_37 rfl rfl ?_
              refine AW_get 41 hX dX6_races_38 rfl fl_X6_26 (by first | assumption | exact hset_eq | exact (hset_ne (by omega)).trans (by first | assumption | exact hset_eq | exact (hset_ne (by omega)).trans (by first | assumption | exact hset_eq | exact (hset_ne (by omega)).trans (by first | assumption | exact hset_eq | exact (hset_ne (by omega)).trans (by first | assumption | exact hset_eq))))) rfl ?_
              refine AW_aload_n 42 hX dX6_races_41 rfl rfl ?_
              refine AW_get 45 hX dX6_races_42 rfl fl_X6_19 (by first | assumption | exact hset_eq | exact (hset_ne (by omega)).trans (by first | assumption | exact hset_eq | exact (hset_ne (by omega)).trans (by first | assumption | exact hset_eq | exact (hset_ne (by omega)).trans (by first | assumption | exact hset_eq | exact (hset_ne (by omega)).trans (by first | assumption | exact hset_eq))))) rfl ?_
              refine AW_cV (As := [_]) 48 hX dX6_races_45 rfl ml_X6_170 mw_X5_copyFrom (by first | assumption | exact hset_eq | exact (hset_ne (by omega)).trans (by first | assumption | exact hset_eq | exact (hset_ne (by omega)).trans (by first | assumption | exact hset_eq | exact (hset_ne (by omega)).trans (by first | assumption | exact hset_eq | exact (hset_ne (by omega)).trans (by first | assumption | exact hset_eq))))) (by decide) rfl rfl rfl (Nat.le_of_ble_eq_true rfl) (by decide) ⟨(Nat.le_refl _), (Nat.le_refl _)⟩ (c_scopy hrc hsc (by omega) (fun h2 hsc2 hfr2 => ?_))
              have g2 := CJ_raced g hsc2 (fr_wide hfr2 (by omega) (by omega))
              have h02 := (hfr2 0 (by omega)).trans h0
              have h192 := hsc2.1
              refine AW_aload_n 49 hX dX6_races_48 rfl rfl ?_
              refine AW_get 52 hX dX6_races_49 rfl fl_X6_26 (by first | assumption | exact hset_eq | exact (hset_ne (by omega)).trans (by first | assumption | exact hset_eq | exact (hset_ne (by omega)).trans (by first | assumption | exact hset_eq | exact (hset_ne (by omega)).trans (by first | assumption | exact hset_eq | exact (hset_ne (by omega)).trans (by first | assumption | exact hset_eq))))) rfl ?_
              refine AW_iload_n 53 hX dX6_races_52 rfl rfl ?_
              refine AW_iload_n 54 hX dX6_races_53 rfl rfl ?_
              refine AW_cV (As := [_, _]) 57 hX dX6_races_54 rfl ml_X6_174 mw_X5_race (by first | assumption | exact hset_eq | exact (hset_ne (by omega)).trans (by first | assumption | exact hset_eq | exact (hset_ne (by omega)).trans (by first | assumption | exact hset_eq | exact (hset_ne (by omega)).trans (by first | assumption | exact hset_eq | exact (hset_ne (by omega)).trans (by first | assumption | exact hset_eq))))) (by decide) rfl rfl rfl (Nat.le_of_ble_eq_true rfl) (by decide) ⟨(Nat.le_refl _), (Nat.le_refl _)⟩ (c_race hsc2 ok2 (by omega) hn ok1 (ok7 hn).1 ok4 cx cy hx2 hy1 (fun h3a stp3 hsc3 hfr3 => ?_))
              have h03 := (hfr3 0 (by omega)).trans h02
              have h193 := hsc3.1
              have h33 := (hfr3 3 (by omega)).trans ((hfr2 3 (by omega)).trans h3)
              refine AW_istore 59 hX dX6_races_57 rfl (Nat.le_of_ble_eq_true rfl) rfl ?_
              refine AW_iload_n 60 hX dX6_races_59 rfl rfl ?_
              rcases (show cz = 0 ∨ cz = 1 ∨ cz = 2 by omega) with rfl | rfl | rfl
              · refine AW_look (off := 28) 88 hX dX6_races_60 (by decide) (by decide) (by decide) ?_
                refine AW_aload_n 89 hX dX6_races_88 rfl rfl ?_
                refine AW_get 92 hX dX6_races_89 rfl fl_X6_26 (by first | assumption | exact hset_eq | exact (hset_ne (by omega)).trans (by first | assumption | exact hset_eq | exact (hset_ne (by omega)).trans (by first | assumption | exact hset_eq | exact (hset_ne (by omega)).trans (by first | assumption | exact hset_eq | exact (hset_ne (by omega)).trans (by first | assumption | exact hset_eq))))) rfl ?_
                refine AW_get 95 hX dX6_races_92 rfl fl_X6_177 (by first | assumption | exact hset_eq | exact (hset_ne (by omega)).trans (by first | assumption | exact hset_eq | exact (hset_ne (by omega)).trans (by first | assumption | exact hset_eq | exact (hset_ne (by omega)).trans (by first | assumption | exact hset_eq | exact (hset_ne (by omega)).trans (by first | assumption | exact hset_eq))))) rfl ?_
                refine AW_aload_n 96 hX dX6_races_95 rfl rfl ?_
                refine AW_get 99 hX dX6_races_96 rfl fl_X6_19 (by first | assumption | exact hset_eq | exact (hset_ne (by omega)).trans (by first | assumption | exact hset_eq | exact (hset_ne (by omega)).trans (by first | assumption | exact hset_eq | exact (hset_ne (by omega)).trans (by first | assumption | exact hset_eq | exact (hset_ne (by omega)).trans (by first | assumption | exact hset_eq))))) rfl ?_
                refine AW_get 102 hX dX6_races_99 rfl fl_X6_177 (by first | assumption | exact hset_eq | exact (hset_ne (by omega)).trans (by first | assumption | exact hset_eq | exact (hset_ne (by omega)).trans (by first | assumption | exact hset_eq | exact (hset_ne (by omega)).trans (by first | assumption | exact hset_eq | exact (hset_ne (by omega)).trans (by first | assumption | exact hset_eq))))) rfl ?_
                refine AW_isub 103 hX dX6_races_102 rfl ?_
                refine AW_iret hX hE dX6_races_103 rfl (Nat.le_refl _) (Nat.le_refl _) ?_
                have e : spRaces (kp, yd, qk, pm, pg, (n, ks, ht, p, s, stp, fl, m, hd), w) (nI cx) (nI cy) (nI 0) = (nI (rI n ks ht (p, s, cy, 0) cx).2.2.2, (kp, yd, qk, pm, pg, (n, ks, ht, p, s, stp, fl, m, hd), w)) := by
                  show (cif _ _ _, _) = _
                  rw [cif_neg (fun q => q.elim (fun q => rgI (lo := 1) (hi := 60) (by decide) rfl hx1 hx2 q) (fun q => q.elim (fun q => nI_pos (by omega) q) (fun q => rgI (lo := 0) (hi := 2) (by decide) rfl (Nat.zero_le _) (by omega) q))), cif_neg (by omega), cN_nI (by omega), cN_nI (by omega), cif_pos (show nI 0 = 0 from rfl)]
                rw [e] at hK
                rw [Int32.add_comm, Int32.add_sub_cancel]
                exact hK _ ⟨mp, ms, CJ_raced g2 hsc3 (fr_wide hfr3 (by omega) (by omega))⟩ (fr_tr (fr_wide hfr2 (by omega) (by omega)) (fr_wide hfr3 (by omega) (by omega)))
              · refine AW_look (off := 44) 104 hX dX6_races_60 (by decide) (by decide) (by decide) ?_
                refine AW_aload_n 105 hX dX6_races_104 rfl rfl ?_
                refine AW_get 108 hX dX6_races_105 rfl fl_X6_26 (by first | assumption | exact hset_eq | exact (hset_ne (by omega)).trans (by first | assumption | exact hset_eq | exact (hset_ne (by omega)).trans (by first | assumption | exact hset_eq | exact (hset_ne (by omega)).trans (by first | assumption | exact hset_eq | exact (hset_ne (by omega)).trans (by first | assumption | exact hset_eq))))) rfl ?_
                refine AW_get 111 hX dX6_races_108 rfl fl_X6_136 (by first | assumption | exact hset_eq | exact (hset_ne (by omega)).trans (by first | assumption | exact hset_eq | exact (hset_ne (by omega)).trans (by first | assumption | exact hset_eq | exact (hset_ne (by omega)).trans (by first | assumption | exact hset_eq | exact (hset_ne (by omega)).trans (by first | assumption | exact hset_eq))))) rfl ?_
                refine AW_iret hX hE dX6_races_111 rfl (Nat.le_refl _) (Nat.le_refl _) ?_
                have e : spRaces (kp, yd, qk, pm, pg, (n, ks, ht, p, s, stp, fl, m, hd), w) (nI cx) (nI cy) (nI 1) = (nI (rI n ks ht (p, s, cy, 0) cx).1, (kp, yd, qk, pm, pg, (n, ks, ht, p, s, stp, fl, m, hd), w)) := by
                  show (cif _ _ _, _) = _
                  rw [cif_neg (fun q => q.elim (fun q => rgI (lo := 1) (hi := 60) (by decide) rfl hx1 hx2 q) (fun q => q.elim (fun q => nI_pos (by omega) q) (fun q => rgI (lo := 0) (hi := 2) (by decide) rfl (Nat.zero_le _) (by omega) q))), cif_neg (by omega), cN_nI (by omega), cN_nI (by omega), cif_neg (show ¬ nI 1 = 0 by decide), cif_pos (show nI 1 = 1 from rfl)]
                rw [e] at hK
                exact hK _ ⟨mp, ms, CJ_raced g2 hsc3 (fr_wide hfr3 (by omega) (by omega))⟩ (fr_tr (fr_wide hfr2 (by omega) (by omega)) (fr_wide hfr3 (by omega) (by omega)))
              · refine AW_look (off := 52) 112 hX dX6_races_60 (by decide) (by decide) (by decide) ?_
                refine AW_iload 114 hX dX6_races_112 rfl rfl ?_
                refine AW_iret hX hE dX6_races_114 rfl (Nat.le_refl _) (Nat.le_refl _) ?_
                have e : spRaces (kp, yd, qk, pm, pg, (n, ks, ht, p, s, stp, fl, m, hd), w) (nI cx) (nI cy) (nI 2) = (nI (rI n ks ht (p, s, cy, 0) cx).2.2.1, (kp, yd, qk, pm, pg, (n, ks, ht, p, s, stp, fl, m, hd), w)) := by
                  show (cif _ _ _, _) = _
                  rw [cif_neg (fun q => q.elim (fun q => rgI (lo := 1) (hi := 60) (by decide) rfl hx1 hx2 q) (fun q => q.elim (fun q => nI_pos (by omega) q) (fun q => rgI (lo := 0) (hi := 2) (by decide) rfl (Nat.zero_le _) (by omega) q))), cif_neg (by omega), cN_nI (by omega), cN_nI (by omega), cif_neg (show ¬ nI 2 = 0 by decide), cif_neg (show ¬ nI 2 = 1 by decide)]
                rw [e] at hK
                exact hK _ ⟨mp, ms, CJ_raced g2 hsc3 (fr_wide hfr3 (by omega) (by omega))⟩ (fr_tr (fr_wide hfr2 (by omega) (by omega)) (fr_wide hfr3 (by omega) (by omega)))
            · refine AW_if_ne 34 37 hX dX6_races_31 rfl (by decide) (fun c31 => absurd rfl c31) (fun c31 => ?_)
              refine AW_bipush 36 hX dX6_races_34 rfl bp_m103 ?_
              refine AW_iret hX hE dX6_races_36 rfl (Nat.le_refl _) (Nat.le_refl _) ?_
              have e : spRaces (kp, yd, qk, pm, pg, (n, ks, ht, p, s, stp, fl, m, hd), w) (nI cx) (nI cy) (nI cz) = (-103, (kp, yd, qk, pm, pg, (n, ks, ht, p, s, stp, fl, m, hd), w)) := by
                show (cif _ _ _, _) = _
                rw [cif_neg (fun q => q.elim (fun q => rgI (lo := 1) (hi := 60) (by decide) rfl hx1 hx2 q) (fun q => q.elim (fun q => nI_pos (by omega) q) (fun q => rgI (lo := 0) (hi := 2) (by decide) rfl (Nat.zero_le _) (by omega) q))), cif_pos hn]
              rw [e] at hK
              exact hK h ⟨mp, ms, g⟩ (fr_rf _ _ _)
          · refine AW_bipush 26 hX dX6_races_24 rfl bp_m102 ?_
            refine AW_iret hX hE dX6_races_26 rfl (Nat.le_refl _) (Nat.le_refl _) ?_
            have e : spRaces (kp, yd, qk, pm, pg, (n, ks, ht, p, s, stp, fl, m, hd), w) x y z = (-102, (kp, yd, qk, pm, pg, (n, ks, ht, p, s, stp, fl, m, hd), w)) := by
              show (cif _ _ _, _) = _
              rw [cif_pos (Or.inr (Or.inr (Or.inr (Int32.not_le.mp c21))))]
            rw [e] at hK
            exact hK h ⟨mp, ms, g⟩ (fr_rf _ _ _)
set_option maxRecDepth 100000 in
set_option maxHeartbeats 4000000 in
theorem C_image {h : AH} {K : Option Value → AH → Prop} {kp yd qk pm n ht p s : Nat} {pg ks : Nat → Nat} {stp fl : Int32} {m : Nat} {hd : HD} {w : SV} {mp ms : Int32} (g : CJ h (kp, yd, qk, pm, pg, (n, ks, ht, p, s, stp, fl, m, hd), w) mp ms) (ok : Sok (kp, yd, qk, pm, pg, (n, ks, ht, p, s, stp, fl, m, hd), w)) (hK : ∀ h' : AH, CI h' (spImage (kp, yd, qk, pm, pg, (n, ks, ht, p, s, stp, fl, m, hd), w)).2 → fr h h' 0 34 → K (some (.int (spImage (kp, yd, qk, pm, pg, (n, ks, ht, p, s, stp, fl, m, hd), w)).1)) h') : aX6_image 4 [.ref 0] h K := by
  obtain ⟨h0, hpg, hsc, ⟨u, hk, hku⟩, ⟨u2, hrc⟩, ⟨nm, fm, hme⟩, hro⟩ := id g
  obtain ⟨h3, ⟨f, hgr, hks⟩, hhe⟩ := id hsc
  obtain ⟨⟨ok1, ok2, ok3, ok4, ok5, ok6, ok7, ok8⟩, okp, okw, okq, okpm, okpg, oky⟩ := id ok
  have h1 := hpg.1
  have h4 := hgr.1
  have h6 := hhe.1
  unfold yO at h0
  obtain ⟨n0, ks0, ht0, p0, s0, stp0, fl0, m0, hd0⟩ := u
  have h11 := hk.1
  refine AM.of [some (.ref 0)] pn_X6_image rfl (Nat.le_of_ble_eq_true rfl) (fun X hX hE => ?_)
  refine AW_aload_n 1 hX dX6_image_0 rfl rfl ?_
  refine AW_cV (As := []) 4 hX dX6_image_1 rfl ml_X6_124 mw_X6_hasYard (by first | assumption | exact hset_eq | exact (hset_ne (by omega)).trans (by first | assumption | exact hset_eq | exact (hset_ne (by omega)).trans (by first | assumption | exact hset_eq | exact (hset_ne (by omega)).trans (by first | assumption | exact hset_eq | exact (hset_ne (by omega)).trans (by first | assumption | exact hset_eq))))) (by decide) rfl rfl rfl (Nat.le_of_ble_eq_true rfl) (by decide) ⟨(Nat.le_refl _), (Nat.le_refl _)⟩ (C_hasYard g ok (fun hn => ?_) (fun hn => ?_))
  · refine AW_if_ne 7 10 hX dX6_image_4 rfl (by decide) (fun c4 => ?_) (fun c4 => absurd c4 (by decide))
    refine AW_aload_n 11 hX dX6_image_10 rfl rfl ?_
    refine AW_get 14 hX dX6_image_11 rfl fl_X6_23 (by first | assumption | exact hset_eq | exact (hset_ne (by omega)).trans (by first | assumption | exact hset_eq | exact (hset_ne (by omega)).trans (by first | assumption | exact hset_eq | exact (hset_ne (by omega)).trans (by first | assumption | exact hset_eq | exact (hset_ne (by omega)).trans (by first | assumption | exact hset_eq))))) rfl ?_
    refine AW_aload_n 15 hX dX6_image_14 rfl rfl ?_
    refine AW_get 18 hX dX6_image_15 rfl fl_X6_19 (by first | assumption | exact hset_eq | exact (hset_ne (by omega)).trans (by first | assumption | exact hset_eq | exact (hset_ne (by omega)).trans (by first | assumption | exact hset_eq | exact (hset_ne (by omega)).trans (by first | assumption | exact hset_eq | exact (hset_ne (by omega)).trans (by first | assumption | exact hset_eq))))) rfl ?_
    refine AW_cV (As := [_]) 21 hX dX6_image_18 rfl ml_X6_170 mw_X5_copyFrom (by first | assumption | exact hset_eq | exact (hset_ne (by omega)).trans (by first | assumption | exact hset_eq | exact (hset_ne (by omega)).trans (by first | assumption | exact hset_eq | exact (hset_ne (by omega)).trans (by first | assumption | exact hset_eq | exact (hset_ne (by omega)).trans (by first | assumption | exact hset_eq))))) (by decide) rfl rfl rfl (Nat.le_of_ble_eq_true rfl) (by decide) ⟨(Nat.le_refl _), (Nat.le_refl _)⟩ (c_scopy hk hsc (by omega) (fun h2 hsc2 hfr2 => ?_))
    have g2 := CJ_kept g hsc2 (fr_wide hfr2 (by omega) (by omega))
    have h02 := (hfr2 0 (by omega)).trans h0
    have h112 := hsc2.1
    refine AW_aload_n 22 hX dX6_image_21 rfl rfl ?_
    refine AW_iconst 23 hX dX6_image_22 rfl ic_1 ?_
    refine AW_put 26 hX dX6_image_23 rfl fl_X6_43 (by first | assumption | exact hset_eq | exact (hset_ne (by omega)).trans (by first | assumption | exact hset_eq | exact (hset_ne (by omega)).trans (by first | assumption | exact hset_eq | exact (hset_ne (by omega)).trans (by first | assumption | exact hset_eq | exact (hset_ne (by omega)).trans (by first | assumption | exact hset_eq))))) rfl (fun _ => rfl) (fun _ => rfl) (Nat.le_of_ble_eq_true rfl) ?_
    try rw [hset_hset]
    refine AW_aload_n 27 hX dX6_image_26 rfl rfl ?_
    refine AW_get 30 hX dX6_image_27 rfl fl_X6_23 (by first | assumption | exact hset_eq | exact (hset_ne (by omega)).trans (by first | assumption | exact hset_eq | exact (hset_ne (by omega)).trans (by first | assumption | exact hset_eq | exact (hset_ne (by omega)).trans (by first | assumption | exact hset_eq | exact (hset_ne (by omega)).trans (by first | assumption | exact hset_eq))))) rfl ?_
    refine AW_get 33 hX dX6_image_30 rfl fl_X6_180 (by first | assumption | exact hset_eq | exact (hset_ne (by omega)).trans (by first | assumption | exact hset_eq | exact (hset_ne (by omega)).trans (by first | assumption | exact hset_eq | exact (hset_ne (by omega)).trans (by first | assumption | exact hset_eq | exact (hset_ne (by omega)).trans (by first | assumption | exact hset_eq))))) rfl ?_
    refine AW_iret hX hE dX6_image_33 rfl (Nat.le_refl _) (Nat.le_refl _) ?_
    have e : spImage (kp, yd, qk, pm, pg, (n, ks, ht, p, s, stp, fl, m, hd), w) = (stp, (1, yd, qk, pm, pg, (n, ks, ht, p, s, stp, fl, m, hd), (n, ks, ht, p, s, stp, fl, m, hd))) := by
      show cif _ _ _ = _
      rw [cif_neg (show ¬ n = 0 by omega)]
    rw [e] at hK
    obtain ⟨a1, a2, a3, ⟨a4, a5, a6⟩, a7⟩ := CJ_obj (kp' := 0) (yd' := yd) (qk' := qk) (mp' := mp) (ms' := ms) (fun q => by omega) g2
    have e0 : fr h2 (hset h2 0 (yO 1 yd qk mp ms)) 0 1 := fr_set (by omega) (by omega)
    exact hK _ ⟨mp, ms, hset_eq, pgC_fr g2.2.1 e0 (by omega), sc_fr g2.2.2.1 e0 (by omega), ⟨_, sc_fr hsc2 e0 (by omega), fun _ => rfl⟩, (by obtain ⟨u9, q9⟩ := g2.2.2.2.2.1; exact ⟨u9, sc_fr q9 e0 (by omega)⟩), (by obtain ⟨n9, f9, q9⟩ := g2.2.2.2.2.2.1; exact ⟨n9, f9, gr_fr q9 e0 (by omega)⟩), rtA_fr g2.2.2.2.2.2.2 e0 (by omega)⟩ (fr_tr (fr_wide hfr2 (by omega) (by omega)) (fr_set (by omega) (by omega)))
  · refine AW_if_ne 7 10 hX dX6_image_4 rfl (by decide) (fun c4 => absurd rfl c4) (fun c4 => ?_)
    refine AW_bipush 9 hX dX6_image_7 rfl bp_m103 ?_
    refine AW_iret hX hE dX6_image_9 rfl (Nat.le_refl _) (Nat.le_refl _) ?_
    have e : spImage (kp, yd, qk, pm, pg, (n, ks, ht, p, s, stp, fl, m, hd), w) = (-103, (kp, yd, qk, pm, pg, (n, ks, ht, p, s, stp, fl, m, hd), w)) := by
      show cif _ _ _ = _
      rw [cif_pos (show n = 0 from hn)]
    rw [e] at hK
    exact hK h ⟨mp, ms, g⟩ (fr_rf _ _ _)
set_option maxRecDepth 100000 in
set_option maxHeartbeats 4000000 in
theorem C_restore {h : AH} {K : Option Value → AH → Prop} {kp yd qk pm n ht p s : Nat} {pg ks : Nat → Nat} {stp fl : Int32} {m : Nat} {hd : HD} {w : SV} {mp ms : Int32} (g : CJ h (kp, yd, qk, pm, pg, (n, ks, ht, p, s, stp, fl, m, hd), w) mp ms) (ok : Sok (kp, yd, qk, pm, pg, (n, ks, ht, p, s, stp, fl, m, hd), w)) (hK : ∀ h' : AH, CI h' (spRestore (kp, yd, qk, pm, pg, (n, ks, ht, p, s, stp, fl, m, hd), w)).2 → fr h h' 0 34 → K (some (.int (spRestore (kp, yd, qk, pm, pg, (n, ks, ht, p, s, stp, fl, m, hd), w)).1)) h') : aX6_restore 4 [.ref 0] h K := by
  obtain ⟨h0, hpg, hsc, ⟨u, hk, hku⟩, ⟨u2, hrc⟩, ⟨nm, fm, hme⟩, hro⟩ := id g
  obtain ⟨h3, ⟨f, hgr, hks⟩, hhe⟩ := id hsc
  obtain ⟨⟨ok1, ok2, ok3, ok4, ok5, ok6, ok7, ok8⟩, okp, okw, okq, okpm, okpg, oky⟩ := id ok
  have h1 := hpg.1
  have h4 := hgr.1
  have h6 := hhe.1
  unfold yO at h0
  have h11a : ∃ a, h 11 = some (.inl (4, a)) := by
    obtain ⟨n0, ks0, ht0, p0, s0, stp0, fl0, m0, hd0⟩ := u
    exact ⟨_, hk.1⟩
  obtain ⟨l11, h11⟩ := h11a
  refine AM.of [some (.ref 0)] pn_X6_restore rfl (Nat.le_of_ble_eq_true rfl) (fun X hX hE => ?_)
  refine AW_aload_n 1 hX dX6_restore_0 rfl rfl ?_
  refine AW_get 4 hX dX6_restore_1 rfl fl_X6_43 (by first | assumption | exact hset_eq | exact (hset_ne (by omega)).trans (by first | assumption | exact hset_eq | exact (hset_ne (by omega)).trans (by first | assumption | exact hset_eq | exact (hset_ne (by omega)).trans (by first | assumption | exact hset_eq | exact (hset_ne (by omega)).trans (by first | assumption | exact hset_eq))))) rfl ?_
  refine AW_if_ne 7 10 hX dX6_restore_4 rfl (by decide) (fun c4 => ?_) (fun c4 => ?_)
  · have hk1 : kp = 1 := by
      have : ¬ kp = 0 := fun q => c4 (by rw [q]; rfl)
      omega
    have ew := hku hk1
    subst ew
    obtain ⟨n1, ks1, ht1, p1, s1, stp1, fl1, m1, hd1⟩ := u
    refine AW_aload_n 11 hX dX6_restore_10 rfl rfl ?_
    refine AW_get 14 hX dX6_restore_11 rfl fl_X6_19 (by first | assumption | exact hset_eq | exact (hset_ne (by omega)).trans (by first | assumption | exact hset_eq | exact (hset_ne (by omega)).trans (by first | assumption | exact hset_eq | exact (hset_ne (by omega)).trans (by first | assumption | exact hset_eq | exact (hset_ne (by omega)).trans (by first | assumption | exact hset_eq))))) rfl ?_
    refine AW_aload_n 15 hX dX6_restore_14 rfl rfl ?_
    refine AW_get 18 hX dX6_restore_15 rfl fl_X6_23 (by first | assumption | exact hset_eq | exact (hset_ne (by omega)).trans (by first | assumption | exact hset_eq | exact (hset_ne (by omega)).trans (by first | assumption | exact hset_eq | exact (hset_ne (by omega)).trans (by first | assumption | exact hset_eq | exact (hset_ne (by omega)).trans (by first | assumption | exact hset_eq))))) rfl ?_
    refine AW_cV (As := [_]) 21 hX dX6_restore_18 rfl ml_X6_170 mw_X5_copyFrom (by first | assumption | exact hset_eq | exact (hset_ne (by omega)).trans (by first | assumption | exact hset_eq | exact (hset_ne (by omega)).trans (by first | assumption | exact hset_eq | exact (hset_ne (by omega)).trans (by first | assumption | exact hset_eq | exact (hset_ne (by omega)).trans (by first | assumption | exact hset_eq))))) (by decide) rfl rfl rfl (Nat.le_of_ble_eq_true rfl) (by decide) ⟨(Nat.le_refl _), (Nat.le_refl _)⟩ (c_scopy hsc hk (by omega) (fun h2 hsc2 hfr2 => ?_))
    have h02 := (hfr2 0 (by omega)).trans h0
    have h32 := hsc2.1
    refine AW_aload_n 22 hX dX6_restore_21 rfl rfl ?_
    refine AW_get 25 hX dX6_restore_22 rfl fl_X6_19 (by first | assumption | exact hset_eq | exact (hset_ne (by omega)).trans (by first | assumption | exact hset_eq | exact (hset_ne (by omega)).trans (by first | assumption | exact hset_eq | exact (hset_ne (by omega)).trans (by first | assumption | exact hset_eq | exact (hset_ne (by omega)).trans (by first | assumption | exact hset_eq))))) rfl ?_
    refine AW_get 28 hX dX6_restore_25 rfl fl_X6_180 (by first | assumption | exact hset_eq | exact (hset_ne (by omega)).trans (by first | assumption | exact hset_eq | exact (hset_ne (by omega)).trans (by first | assumption | exact hset_eq | exact (hset_ne (by omega)).trans (by first | assumption | exact hset_eq | exact (hset_ne (by omega)).trans (by first | assumption | exact hset_eq))))) rfl ?_
    refine AW_iret hX hE dX6_restore_28 rfl (Nat.le_refl _) (Nat.le_refl _) ?_
    have e : spRestore (kp, yd, qk, pm, pg, (n, ks, ht, p, s, stp, fl, m, hd), (n1, ks1, ht1, p1, s1, stp1, fl1, m1, hd1)) = (stp1, (kp, yd, qk, pm, pg, (n1, ks1, ht1, p1, s1, stp1, fl1, m1, hd1), (n1, ks1, ht1, p1, s1, stp1, fl1, m1, hd1))) := by
      show cif _ _ _ = _
      rw [cif_neg (show ¬ kp = 0 by omega)]
    rw [e] at hK
    exact hK _ ⟨mp, ms, CJ_now g hsc2 (fr_wide hfr2 (by omega) (by omega))⟩ (fr_wide hfr2 (by omega) (by omega))
  · refine AW_bipush 9 hX dX6_restore_7 rfl bp_m103 ?_
    refine AW_iret hX hE dX6_restore_9 rfl (Nat.le_refl _) (Nat.le_refl _) ?_
    have hk0 : kp = 0 := iEq (b := 0) c4
    have e : spRestore (kp, yd, qk, pm, pg, (n, ks, ht, p, s, stp, fl, m, hd), w) = (-103, (kp, yd, qk, pm, pg, (n, ks, ht, p, s, stp, fl, m, hd), w)) := by
      show cif _ _ _ = _
      rw [cif_pos hk0]
    rw [e] at hK
    exact hK h ⟨mp, ms, g⟩ (fr_rf _ _ _)
end
