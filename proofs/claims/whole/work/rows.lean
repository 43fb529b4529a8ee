section
-- ===== PART A: goes FIRST, ahead of the names: the tables' words, and 'selects' of the private methods out of them =====
/-- a private method of a class that the tables say can be made, by its rows of tables_1 -/
def lw_okq (q : MethodName × Nat) : Prop := (q.1.cls ≠ "java/lang/invoke/MethodHandle" ∧ q.1.cls ≠ "java/lang/invoke/VarHandle") ∧ Cond.instantiable q.1.cls q.2 ∈ tables_1 ∧ Cond.privateMethod q.1 ∈ tables_1 ∧ Cond.instanceMethod q.1 ∈ tables_1
theorem lw_p0 : lw_okq (⟨"ViewBroadcast", "refusedActor", "(I)I"⟩, 6) := ⟨⟨by decide +kernel, by decide +kernel⟩, List.mem_of_getElem? (i := 16) (by decide +kernel), List.mem_of_getElem? (i := 417) (by decide +kernel), List.mem_of_getElem? (i := 418) (by decide +kernel)⟩
theorem lw_p1 : lw_okq (⟨"ViewBroadcast", "come", "(I)I"⟩, 6) := ⟨⟨by decide +kernel, by decide +kernel⟩, List.mem_of_getElem? (i := 16) (by decide +kernel), List.mem_of_getElem? (i := 570) (by decide +kernel), List.mem_of_getElem? (i := 571) (by decide +kernel)⟩
theorem lw_p2 : lw_okq (⟨"ViewBroadcastModel", "isNode", "(I)Z"⟩, 16) := ⟨⟨by decide +kernel, by decide +kernel⟩, List.mem_of_getElem? (i := 847) (by decide +kernel), List.mem_of_getElem? (i := 930) (by decide +kernel), List.mem_of_getElem? (i := 931) (by decide +kernel)⟩
theorem lw_p3 : lw_okq (⟨"ViewBroadcastModel", "send", "(IIIII)V"⟩, 16) := ⟨⟨by decide +kernel, by decide +kernel⟩, List.mem_of_getElem? (i := 847) (by decide +kernel), List.mem_of_getElem? (i := 934) (by decide +kernel), List.mem_of_getElem? (i := 935) (by decide +kernel)⟩
theorem lw_p4 : lw_okq (⟨"ViewBroadcastModel", "sendList", "(IIIIII)V"⟩, 16) := ⟨⟨by decide +kernel, by decide +kernel⟩, List.mem_of_getElem? (i := 847) (by decide +kernel), List.mem_of_getElem? (i := 938) (by decide +kernel), List.mem_of_getElem? (i := 939) (by decide +kernel)⟩
theorem lw_p5 : lw_okq (⟨"ViewBroadcastModel", "post", "(IIIIII)V"⟩, 16) := ⟨⟨by decide +kernel, by decide +kernel⟩, List.mem_of_getElem? (i := 847) (by decide +kernel), List.mem_of_getElem? (i := 942) (by decide +kernel), List.mem_of_getElem? (i := 943) (by decide +kernel)⟩
theorem lw_p6 : lw_okq (⟨"ViewBroadcastModel", "ofLetter", "(II)I"⟩, 16) := ⟨⟨by decide +kernel, by decide +kernel⟩, List.mem_of_getElem? (i := 847) (by decide +kernel), List.mem_of_getElem? (i := 946) (by decide +kernel), List.mem_of_getElem? (i := 947) (by decide +kernel)⟩
theorem lw_p7 : lw_okq (⟨"ViewBroadcastModel", "takeOutLetter", "(I)V"⟩, 16) := ⟨⟨by decide +kernel, by decide +kernel⟩, List.mem_of_getElem? (i := 847) (by decide +kernel), List.mem_of_getElem? (i := 954) (by decide +kernel), List.mem_of_getElem? (i := 955) (by decide +kernel)⟩
theorem lw_p8 : lw_okq (⟨"ViewBroadcastModel", "isActive", "(II)Z"⟩, 16) := ⟨⟨by decide +kernel, by decide +kernel⟩, List.mem_of_getElem? (i := 847) (by decide +kernel), List.mem_of_getElem? (i := 958) (by decide +kernel), List.mem_of_getElem? (i := 959) (by decide +kernel)⟩
theorem lw_p9 : lw_okq (⟨"ViewBroadcastModel", "activeAt", "(II)I"⟩, 16) := ⟨⟨by decide +kernel, by decide +kernel⟩, List.mem_of_getElem? (i := 847) (by decide +kernel), List.mem_of_getElem? (i := 962) (by decide +kernel), List.mem_of_getElem? (i := 963) (by decide +kernel)⟩
theorem lw_p10 : lw_okq (⟨"ViewBroadcastModel", "isUnderWay", "(II)Z"⟩, 16) := ⟨⟨by decide +kernel, by decide +kernel⟩, List.mem_of_getElem? (i := 847) (by decide +kernel), List.mem_of_getElem? (i := 966) (by decide +kernel), List.mem_of_getElem? (i := 967) (by decide +kernel)⟩
theorem lw_p11 : lw_okq (⟨"ViewBroadcastModel", "draw", "(I)I"⟩, 16) := ⟨⟨by decide +kernel, by decide +kernel⟩, List.mem_of_getElem? (i := 847) (by decide +kernel), List.mem_of_getElem? (i := 974) (by decide +kernel), List.mem_of_getElem? (i := 975) (by decide +kernel)⟩
theorem lw_p12 : lw_okq (⟨"ViewBroadcastModel", "without", "(III)I"⟩, 16) := ⟨⟨by decide +kernel, by decide +kernel⟩, List.mem_of_getElem? (i := 847) (by decide +kernel), List.mem_of_getElem? (i := 978) (by decide +kernel), List.mem_of_getElem? (i := 979) (by decide +kernel)⟩
theorem lw_p13 : lw_okq (⟨"ViewBroadcastModel", "drawSome", "(II)V"⟩, 16) := ⟨⟨by decide +kernel, by decide +kernel⟩, List.mem_of_getElem? (i := 847) (by decide +kernel), List.mem_of_getElem? (i := 982) (by decide +kernel), List.mem_of_getElem? (i := 983) (by decide +kernel)⟩
theorem lw_p14 : lw_okq (⟨"ViewBroadcastModel", "drawOut", "(I)I"⟩, 16) := ⟨⟨by decide +kernel, by decide +kernel⟩, List.mem_of_getElem? (i := 847) (by decide +kernel), List.mem_of_getElem? (i := 986) (by decide +kernel), List.mem_of_getElem? (i := 987) (by decide +kernel)⟩
theorem lw_p15 : lw_okq (⟨"ViewBroadcastModel", "hear", "(IIII)V"⟩, 16) := ⟨⟨by decide +kernel, by decide +kernel⟩, List.mem_of_getElem? (i := 847) (by decide +kernel), List.mem_of_getElem? (i := 994) (by decide +kernel), List.mem_of_getElem? (i := 995) (by decide +kernel)⟩
def lw_privs_1 : List (MethodName × Nat) := [(⟨"ViewBroadcast", "refusedActor", "(I)I"⟩, 6), (⟨"ViewBroadcast", "come", "(I)I"⟩, 6), (⟨"ViewBroadcastModel", "isNode", "(I)Z"⟩, 16), (⟨"ViewBroadcastModel", "send", "(IIIII)V"⟩, 16), (⟨"ViewBroadcastModel", "sendList", "(IIIIII)V"⟩, 16), (⟨"ViewBroadcastModel", "post", "(IIIIII)V"⟩, 16), (⟨"ViewBroadcastModel", "ofLetter", "(II)I"⟩, 16), (⟨"ViewBroadcastModel", "takeOutLetter", "(I)V"⟩, 16), (⟨"ViewBroadcastModel", "isActive", "(II)Z"⟩, 16), (⟨"ViewBroadcastModel", "activeAt", "(II)I"⟩, 16), (⟨"ViewBroadcastModel", "isUnderWay", "(II)Z"⟩, 16), (⟨"ViewBroadcastModel", "draw", "(I)I"⟩, 16), (⟨"ViewBroadcastModel", "without", "(III)I"⟩, 16), (⟨"ViewBroadcastModel", "drawSome", "(II)V"⟩, 16), (⟨"ViewBroadcastModel", "drawOut", "(I)I"⟩, 16), (⟨"ViewBroadcastModel", "hear", "(IIII)V"⟩, 16)]
theorem lw_r1 : ∀ q ∈ lw_privs_1, lw_okq q := List.forall_mem_cons.mpr ⟨lw_p0, List.forall_mem_cons.mpr ⟨lw_p1, List.forall_mem_cons.mpr ⟨lw_p2, List.forall_mem_cons.mpr ⟨lw_p3, List.forall_mem_cons.mpr ⟨lw_p4, List.forall_mem_cons.mpr ⟨lw_p5, List.forall_mem_cons.mpr ⟨lw_p6, List.forall_mem_cons.mpr ⟨lw_p7, List.forall_mem_cons.mpr ⟨lw_p8, List.forall_mem_cons.mpr ⟨lw_p9, List.forall_mem_cons.mpr ⟨lw_p10, List.forall_mem_cons.mpr ⟨lw_p11, List.forall_mem_cons.mpr ⟨lw_p12, List.forall_mem_cons.mpr ⟨lw_p13, List.forall_mem_cons.mpr ⟨lw_p14, List.forall_mem_cons.mpr ⟨lw_p15, fun _ h => absurd h List.not_mem_nil⟩⟩⟩⟩⟩⟩⟩⟩⟩⟩⟩⟩⟩⟩⟩⟩
theorem lw_p16 : lw_okq (⟨"ViewBroadcastModel", "fetch", "(III)V"⟩, 16) := ⟨⟨by decide +kernel, by decide +kernel⟩, List.mem_of_getElem? (i := 847) (by decide +kernel), List.mem_of_getElem? (i := 1002) (by decide +kernel), List.mem_of_getElem? (i := 1003) (by decide +kernel)⟩
theorem lw_p17 : lw_okq (⟨"ViewBroadcastModel", "setLazy", "(III)V"⟩, 16) := ⟨⟨by decide +kernel, by decide +kernel⟩, List.mem_of_getElem? (i := 847) (by decide +kernel), List.mem_of_getElem? (i := 1006) (by decide +kernel), List.mem_of_getElem? (i := 1007) (by decide +kernel)⟩
theorem lw_p18 : lw_okq (⟨"ViewBroadcastModel", "canCome", "(I)Z"⟩, 16) := ⟨⟨by decide +kernel, by decide +kernel⟩, List.mem_of_getElem? (i := 847) (by decide +kernel), List.mem_of_getElem? (i := 1014) (by decide +kernel), List.mem_of_getElem? (i := 1015) (by decide +kernel)⟩
theorem lw_p19 : lw_okq (⟨"ViewBroadcastModel", "comes", "(I)I"⟩, 16) := ⟨⟨by decide +kernel, by decide +kernel⟩, List.mem_of_getElem? (i := 847) (by decide +kernel), List.mem_of_getElem? (i := 1018) (by decide +kernel), List.mem_of_getElem? (i := 1019) (by decide +kernel)⟩
theorem lw_p20 : lw_okq (⟨"ViewBroadcastModel", "joins", "(IIIII)V"⟩, 16) := ⟨⟨by decide +kernel, by decide +kernel⟩, List.mem_of_getElem? (i := 847) (by decide +kernel), List.mem_of_getElem? (i := 1022) (by decide +kernel), List.mem_of_getElem? (i := 1023) (by decide +kernel)⟩
theorem lw_p21 : lw_okq (⟨"ViewBroadcastModel", "add", "(II)V"⟩, 16) := ⟨⟨by decide +kernel, by decide +kernel⟩, List.mem_of_getElem? (i := 847) (by decide +kernel), List.mem_of_getElem? (i := 1026) (by decide +kernel), List.mem_of_getElem? (i := 1027) (by decide +kernel)⟩
theorem lw_p22 : lw_okq (⟨"ViewBroadcastModel", "leavesPassive", "(II)V"⟩, 16) := ⟨⟨by decide +kernel, by decide +kernel⟩, List.mem_of_getElem? (i := 847) (by decide +kernel), List.mem_of_getElem? (i := 1030) (by decide +kernel), List.mem_of_getElem? (i := 1031) (by decide +kernel)⟩
theorem lw_p23 : lw_okq (⟨"ViewBroadcastModel", "passiveAt", "(II)I"⟩, 16) := ⟨⟨by decide +kernel, by decide +kernel⟩, List.mem_of_getElem? (i := 847) (by decide +kernel), List.mem_of_getElem? (i := 1034) (by decide +kernel), List.mem_of_getElem? (i := 1035) (by decide +kernel)⟩
theorem lw_p24 : lw_okq (⟨"ViewBroadcastModel", "leavesActive", "(II)V"⟩, 16) := ⟨⟨by decide +kernel, by decide +kernel⟩, List.mem_of_getElem? (i := 847) (by decide +kernel), List.mem_of_getElem? (i := 1038) (by decide +kernel), List.mem_of_getElem? (i := 1039) (by decide +kernel)⟩
theorem lw_p25 : lw_okq (⟨"ViewBroadcastModel", "forgetTeller", "(II)V"⟩, 16) := ⟨⟨by decide +kernel, by decide +kernel⟩, List.mem_of_getElem? (i := 847) (by decide +kernel), List.mem_of_getElem? (i := 1042) (by decide +kernel), List.mem_of_getElem? (i := 1043) (by decide +kernel)⟩
theorem lw_p26 : lw_okq (⟨"ViewBroadcastModel", "note", "(II)V"⟩, 16) := ⟨⟨by decide +kernel, by decide +kernel⟩, List.mem_of_getElem? (i := 847) (by decide +kernel), List.mem_of_getElem? (i := 1046) (by decide +kernel), List.mem_of_getElem? (i := 1047) (by decide +kernel)⟩
theorem lw_p27 : lw_okq (⟨"ViewBroadcastModel", "goesOn", "(IIII)V"⟩, 16) := ⟨⟨by decide +kernel, by decide +kernel⟩, List.mem_of_getElem? (i := 847) (by decide +kernel), List.mem_of_getElem? (i := 1050) (by decide +kernel), List.mem_of_getElem? (i := 1051) (by decide +kernel)⟩
theorem lw_p28 : lw_okq (⟨"ViewBroadcastModel", "mends", "(IIII)V"⟩, 16) := ⟨⟨by decide +kernel, by decide +kernel⟩, List.mem_of_getElem? (i := 847) (by decide +kernel), List.mem_of_getElem? (i := 1054) (by decide +kernel), List.mem_of_getElem? (i := 1055) (by decide +kernel)⟩
theorem lw_p29 : lw_okq (⟨"ViewBroadcastModel", "mend", "(I)V"⟩, 16) := ⟨⟨by decide +kernel, by decide +kernel⟩, List.mem_of_getElem? (i := 847) (by decide +kernel), List.mem_of_getElem? (i := 1058) (by decide +kernel), List.mem_of_getElem? (i := 1059) (by decide +kernel)⟩
theorem lw_p30 : lw_okq (⟨"ViewBroadcastModel", "mixes", "(IIIII)V"⟩, 16) := ⟨⟨by decide +kernel, by decide +kernel⟩, List.mem_of_getElem? (i := 847) (by decide +kernel), List.mem_of_getElem? (i := 1062) (by decide +kernel), List.mem_of_getElem? (i := 1063) (by decide +kernel)⟩
theorem lw_p31 : lw_okq (⟨"ViewBroadcastModel", "tells", "(IIIII)V"⟩, 16) := ⟨⟨by decide +kernel, by decide +kernel⟩, List.mem_of_getElem? (i := 847) (by decide +kernel), List.mem_of_getElem? (i := 1066) (by decide +kernel), List.mem_of_getElem? (i := 1067) (by decide +kernel)⟩
def lw_privs_2 : List (MethodName × Nat) := [(⟨"ViewBroadcastModel", "fetch", "(III)V"⟩, 16), (⟨"ViewBroadcastModel", "setLazy", "(III)V"⟩, 16), (⟨"ViewBroadcastModel", "canCome", "(I)Z"⟩, 16), (⟨"ViewBroadcastModel", "comes", "(I)I"⟩, 16), (⟨"ViewBroadcastModel", "joins", "(IIIII)V"⟩, 16), (⟨"ViewBroadcastModel", "add", "(II)V"⟩, 16), (⟨"ViewBroadcastModel", "leavesPassive", "(II)V"⟩, 16), (⟨"ViewBroadcastModel", "passiveAt", "(II)I"⟩, 16), (⟨"ViewBroadcastModel", "leavesActive", "(II)V"⟩, 16), (⟨"ViewBroadcastModel", "forgetTeller", "(II)V"⟩, 16), (⟨"ViewBroadcastModel", "note", "(II)V"⟩, 16), (⟨"ViewBroadcastModel", "goesOn", "(IIII)V"⟩, 16), (⟨"ViewBroadcastModel", "mends", "(IIII)V"⟩, 16), (⟨"ViewBroadcastModel", "mend", "(I)V"⟩, 16), (⟨"ViewBroadcastModel", "mixes", "(IIIII)V"⟩, 16), (⟨"ViewBroadcastModel", "tells", "(IIIII)V"⟩, 16)]
theorem lw_r2 : ∀ q ∈ lw_privs_2, lw_okq q := List.forall_mem_cons.mpr ⟨lw_p16, List.forall_mem_cons.mpr ⟨lw_p17, List.forall_mem_cons.mpr ⟨lw_p18, List.forall_mem_cons.mpr ⟨lw_p19, List.forall_mem_cons.mpr ⟨lw_p20, List.forall_mem_cons.mpr ⟨lw_p21, List.forall_mem_cons.mpr ⟨lw_p22, List.forall_mem_cons.mpr ⟨lw_p23, List.forall_mem_cons.mpr ⟨lw_p24, List.forall_mem_cons.mpr ⟨lw_p25, List.forall_mem_cons.mpr ⟨lw_p26, List.forall_mem_cons.mpr ⟨lw_p27, List.forall_mem_cons.mpr ⟨lw_p28, List.forall_mem_cons.mpr ⟨lw_p29, List.forall_mem_cons.mpr ⟨lw_p30, List.forall_mem_cons.mpr ⟨lw_p31, fun _ h => absurd h List.not_mem_nil⟩⟩⟩⟩⟩⟩⟩⟩⟩⟩⟩⟩⟩⟩⟩⟩
theorem lw_p32 : lw_okq (⟨"ViewBroadcastModel", "isTale", "(I)Z"⟩, 16) := ⟨⟨by decide +kernel, by decide +kernel⟩, List.mem_of_getElem? (i := 847) (by decide +kernel), List.mem_of_getElem? (i := 1087) (by decide +kernel), List.mem_of_getElem? (i := 1088) (by decide +kernel)⟩
theorem lw_p33 : lw_okq (⟨"ViewBroadcastModel", "isOther", "(III)Z"⟩, 16) := ⟨⟨by decide +kernel, by decide +kernel⟩, List.mem_of_getElem? (i := 847) (by decide +kernel), List.mem_of_getElem? (i := 1136) (by decide +kernel), List.mem_of_getElem? (i := 1137) (by decide +kernel)⟩
theorem lw_p34 : lw_okq (⟨"ViewBroadcastModel", "heardOther", "(II)Z"⟩, 16) := ⟨⟨by decide +kernel, by decide +kernel⟩, List.mem_of_getElem? (i := 847) (by decide +kernel), List.mem_of_getElem? (i := 1140) (by decide +kernel), List.mem_of_getElem? (i := 1141) (by decide +kernel)⟩
def lw_privs_3 : List (MethodName × Nat) := [(⟨"ViewBroadcastModel", "isTale", "(I)Z"⟩, 16), (⟨"ViewBroadcastModel", "isOther", "(III)Z"⟩, 16), (⟨"ViewBroadcastModel", "heardOther", "(II)Z"⟩, 16)]
theorem lw_r3 : ∀ q ∈ lw_privs_3, lw_okq q := List.forall_mem_cons.mpr ⟨lw_p32, List.forall_mem_cons.mpr ⟨lw_p33, List.forall_mem_cons.mpr ⟨lw_p34, fun _ h => absurd h List.not_mem_nil⟩⟩⟩
def lw_privs : List (MethodName × Nat) := lw_privs_1 ++ (lw_privs_2 ++ (lw_privs_3))
def lw_tbl : List Cond := k2_sels lw_privs ++ tables_1
theorem lw_privs_ok : ∀ q ∈ lw_privs, lw_okq q := by
  show ∀ q ∈ lw_privs_1 ++ (lw_privs_2 ++ (lw_privs_3)), lw_okq q
  exact List.forall_mem_append.mpr ⟨lw_r1, List.forall_mem_append.mpr ⟨lw_r2, lw_r3⟩⟩

def RX0 : String := "ViewBroadcast$Coins"
def TX0 : u_T := fun k => match k with
  | 0 => ("ViewBroadcast$Coins", "values", "[I", true)
  | _ => ("ViewBroadcast$Coins", "count", "I", false)
def tyX0 : Nat → FieldType := fun k => match k with
  | 0 => .array .int
  | _ => .int
abbrev wsX00 : List Cond := u_ws RX0 TX0 2
theorem nmX0 : ∀ a, a < 2 → ∀ b, b < 2 → a ≠ b → (TX0 a).2.1 ≠ (TX0 b).2.1 := by decide +kernel
theorem tyX0_ok : ∀ k, k < 2 → parseFieldDescriptor (TX0 k).2.2.1 = some (tyX0 k) := by decide +kernel
abbrev cX0_init : ByteArray := prog_2_method_1_code
def yX0_init : MethodName := ⟨RX0, "<init>", "()V"⟩
abbrev cX0_put : ByteArray := prog_2_method_2_code
def yX0_put : MethodName := ⟨RX0, "put", "(I)Z"⟩
abbrev cX0_at : ByteArray := prog_2_method_3_code
def yX0_at : MethodName := ⟨RX0, "at", "(I)I"⟩
abbrev cX0_behind : ByteArray := prog_2_method_4_code
def yX0_behind : MethodName := ⟨RX0, "behind", "(I)I"⟩
def RX1 : String := "ViewBroadcast$Letter"
def TX1 : u_T := fun k => match k with
  | 0 => ("ViewBroadcast$Letter", "sender", "I", false)
  | 1 => ("ViewBroadcast$Letter", "receiver", "I", false)
  | 2 => ("ViewBroadcast$Letter", "kind", "I", false)
  | 3 => ("ViewBroadcast$Letter", "x", "I", false)
  | 4 => ("ViewBroadcast$Letter", "y", "I", false)
  | _ => ("ViewBroadcast$Letter", "list", "LViewBroadcast$NodeList;", true)
def tyX1 : Nat → FieldType := fun k => match k with
  | 0 => .int
  | 1 => .int
  | 2 => .int
  | 3 => .int
  | 4 => .int
  | _ => .object "ViewBroadcast$NodeList"
abbrev wsX10 : List Cond := u_ws RX1 TX1 6
theorem nmX1 : ∀ a, a < 6 → ∀ b, b < 6 → a ≠ b → (TX1 a).2.1 ≠ (TX1 b).2.1 := by decide +kernel
theorem tyX1_ok : ∀ k, k < 6 → parseFieldDescriptor (TX1 k).2.2.1 = some (tyX1 k) := by decide +kernel
abbrev cX1_init : ByteArray := prog_3_method_1_code
def yX1_init : MethodName := ⟨RX1, "<init>", "()V"⟩
abbrev cX1_write : ByteArray := prog_3_method_2_code
def yX1_write : MethodName := ⟨RX1, "write", "(IIIII)V"⟩
abbrev cX1_copyFrom : ByteArray := prog_3_method_3_code
def yX1_copyFrom : MethodName := ⟨RX1, "copyFrom", "(LViewBroadcast$Letter;)V"⟩
def RX2 : String := "ViewBroadcast$Miss"
def TX2 : u_T := fun k => match k with
  | 0 => ("ViewBroadcast$Miss", "open", "Z", false)
  | 1 => ("ViewBroadcast$Miss", "hour", "I", false)
  | _ => ("ViewBroadcast$Miss", "tellers", "LViewBroadcast$NodeList;", true)
def tyX2 : Nat → FieldType := fun k => match k with
  | 0 => .boolean
  | 1 => .int
  | _ => .object "ViewBroadcast$NodeList"
abbrev wsX20 : List Cond := u_ws RX2 TX2 3
theorem nmX2 : ∀ a, a < 3 → ∀ b, b < 3 → a ≠ b → (TX2 a).2.1 ≠ (TX2 b).2.1 := by decide +kernel
theorem tyX2_ok : ∀ k, k < 3 → parseFieldDescriptor (TX2 k).2.2.1 = some (tyX2 k) := by decide +kernel
abbrev cX2_init : ByteArray := prog_4_method_1_code
def yX2_init : MethodName := ⟨RX2, "<init>", "()V"⟩
abbrev cX2_end : ByteArray := prog_4_method_2_code
def yX2_end : MethodName := ⟨RX2, "end", "()V"⟩
abbrev cX2_copyFrom : ByteArray := prog_4_method_3_code
def yX2_copyFrom : MethodName := ⟨RX2, "copyFrom", "(LViewBroadcast$Miss;)V"⟩
def RX3 : String := "ViewBroadcast$Node"
def TX3 : u_T := fun k => match k with
  | 0 => ("ViewBroadcast$Node", "number", "I", true)
  | 1 => ("ViewBroadcast$Node", "live", "Z", false)
  | 2 => ("ViewBroadcast$Node", "active", "LViewBroadcast$NodeList;", true)
  | 3 => ("ViewBroadcast$Node", "passive", "LViewBroadcast$NodeList;", true)
  | 4 => ("ViewBroadcast$Node", "lazy", "I", false)
  | 5 => ("ViewBroadcast$Node", "asks", "I", false)
  | 6 => ("ViewBroadcast$Node", "asked", "I", false)
  | 7 => ("ViewBroadcast$Node", "arrived", "I", false)
  | 8 => ("ViewBroadcast$Node", "hops", "[I", true)
  | _ => ("ViewBroadcast$Node", "misses", "[LViewBroadcast$Miss;", true)
def tyX3 : Nat → FieldType := fun k => match k with
  | 0 => .int
  | 1 => .boolean
  | 2 => .object "ViewBroadcast$NodeList"
  | 3 => .object "ViewBroadcast$NodeList"
  | 4 => .int
  | 5 => .int
  | 6 => .int
  | 7 => .int
  | 8 => .array .int
  | _ => .array (.object "ViewBroadcast$Miss")
abbrev wsX30 : List Cond := u_ws RX3 TX3 10
theorem nmX3 : ∀ a, a < 10 → ∀ b, b < 10 → a ≠ b → (TX3 a).2.1 ≠ (TX3 b).2.1 := by decide +kernel
theorem tyX3_ok : ∀ k, k < 10 → parseFieldDescriptor (TX3 k).2.2.1 = some (tyX3 k) := by decide +kernel
abbrev cX3_init : ByteArray := prog_5_method_1_code
def yX3_init : MethodName := ⟨RX3, "<init>", "(I)V"⟩
abbrev cX3_begin : ByteArray := prog_5_method_2_code
def yX3_begin : MethodName := ⟨RX3, "begin", "()V"⟩
abbrev cX3_isLazy : ByteArray := prog_5_method_3_code
def yX3_isLazy : MethodName := ⟨RX3, "isLazy", "(I)Z"⟩
abbrev cX3_makeLazy : ByteArray := prog_5_method_4_code
def yX3_makeLazy : MethodName := ⟨RX3, "makeLazy", "(I)V"⟩
abbrev cX3_makeEager : ByteArray := prog_5_method_5_code
def yX3_makeEager : MethodName := ⟨RX3, "makeEager", "(I)V"⟩
abbrev cX3_hopsOf : ByteArray := prog_5_method_6_code
def yX3_hopsOf : MethodName := ⟨RX3, "hopsOf", "(I)I"⟩
abbrev cX3_missOf : ByteArray := prog_5_method_7_code
def yX3_missOf : MethodName := ⟨RX3, "missOf", "(I)LViewBroadcast$Miss;"⟩
abbrev cX3_knows : ByteArray := prog_5_method_8_code
def yX3_knows : MethodName := ⟨RX3, "knows", "(I)Z"⟩
abbrev cX3_learn : ByteArray := prog_5_method_9_code
def yX3_learn : MethodName := ⟨RX3, "learn", "(II)V"⟩
abbrev cX3_heardCount : ByteArray := prog_5_method_10_code
def yX3_heardCount : MethodName := ⟨RX3, "heardCount", "()I"⟩
abbrev cX3_missedCount : ByteArray := prog_5_method_11_code
def yX3_missedCount : MethodName := ⟨RX3, "missedCount", "()I"⟩
abbrev cX3_unlink : ByteArray := prog_5_method_12_code
def yX3_unlink : MethodName := ⟨RX3, "unlink", "(I)V"⟩
abbrev cX3_copyFrom : ByteArray := prog_5_method_13_code
def yX3_copyFrom : MethodName := ⟨RX3, "copyFrom", "(LViewBroadcast$Node;)V"⟩
abbrev cX3_looksLike : ByteArray := prog_5_method_14_code
def yX3_looksLike : MethodName := ⟨RX3, "looksLike", "(LViewBroadcast$Node;)Z"⟩
def RX4 : String := "ViewBroadcast$NodeList"
def TX4 : u_T := fun k => match k with
  | 0 => ("ViewBroadcast$NodeList", "numbers", "[I", true)
  | _ => ("ViewBroadcast$NodeList", "count", "I", false)
def tyX4 : Nat → FieldType := fun k => match k with
  | 0 => .array .int
  | _ => .int
abbrev wsX40 : List Cond := u_ws RX4 TX4 2
theorem nmX4 : ∀ a, a < 2 → ∀ b, b < 2 → a ≠ b → (TX4 a).2.1 ≠ (TX4 b).2.1 := by decide +kernel
theorem tyX4_ok : ∀ k, k < 2 → parseFieldDescriptor (TX4 k).2.2.1 = some (tyX4 k) := by decide +kernel
abbrev cX4_init : ByteArray := prog_6_method_1_code
def yX4_init : MethodName := ⟨RX4, "<init>", "(I)V"⟩
abbrev cX4_at : ByteArray := prog_6_method_2_code
def yX4_at : MethodName := ⟨RX4, "at", "(I)I"⟩
abbrev cX4_placeOf : ByteArray := prog_6_method_3_code
def yX4_placeOf : MethodName := ⟨RX4, "placeOf", "(I)I"⟩
abbrev cX4_has : ByteArray := prog_6_method_4_code
def yX4_has : MethodName := ⟨RX4, "has", "(I)Z"⟩
abbrev cX4_put : ByteArray := prog_6_method_5_code
def yX4_put : MethodName := ⟨RX4, "put", "(I)V"⟩
abbrev cX4_removeAt : ByteArray := prog_6_method_6_code
def yX4_removeAt : MethodName := ⟨RX4, "removeAt", "(I)V"⟩
abbrev cX4_remove : ByteArray := prog_6_method_7_code
def yX4_remove : MethodName := ⟨RX4, "remove", "(I)V"⟩
abbrev cX4_clear : ByteArray := prog_6_method_8_code
def yX4_clear : MethodName := ⟨RX4, "clear", "()V"⟩
abbrev cX4_copyFrom : ByteArray := prog_6_method_9_code
def yX4_copyFrom : MethodName := ⟨RX4, "copyFrom", "(LViewBroadcast$NodeList;)V"⟩
abbrev cX4_isSameAs : ByteArray := prog_6_method_10_code
def yX4_isSameAs : MethodName := ⟨RX4, "isSameAs", "(LViewBroadcast$NodeList;)Z"⟩
def RX5 : String := "ViewBroadcast$Row"
def TX5 : u_T := fun k => match k with
  | 0 => ("ViewBroadcast$Row", "ring", "[LViewBroadcast$Letter;", true)
  | 1 => ("ViewBroadcast$Row", "first", "I", false)
  | 2 => ("ViewBroadcast$Row", "count", "I", false)
  | _ => ("ViewBroadcast$Row", "spilt", "I", false)
def tyX5 : Nat → FieldType := fun k => match k with
  | 0 => .array (.object "ViewBroadcast$Letter")
  | 1 => .int
  | 2 => .int
  | _ => .int
abbrev wsX50 : List Cond := u_ws RX5 TX5 4
theorem nmX5 : ∀ a, a < 4 → ∀ b, b < 4 → a ≠ b → (TX5 a).2.1 ≠ (TX5 b).2.1 := by decide +kernel
theorem tyX5_ok : ∀ k, k < 4 → parseFieldDescriptor (TX5 k).2.2.1 = some (tyX5 k) := by decide +kernel
abbrev cX5_init : ByteArray := prog_7_method_1_code
def yX5_init : MethodName := ⟨RX5, "<init>", "()V"⟩
abbrev cX5_place : ByteArray := prog_7_method_2_code
def yX5_place : MethodName := ⟨RX5, "place", "(I)I"⟩
abbrev cX5_isLetter : ByteArray := prog_7_method_3_code
def yX5_isLetter : MethodName := ⟨RX5, "isLetter", "(I)Z"⟩
abbrev cX5_at : ByteArray := prog_7_method_4_code
def yX5_at : MethodName := ⟨RX5, "at", "(I)LViewBroadcast$Letter;"⟩
abbrev cX5_open : ByteArray := prog_7_method_5_code
def yX5_open : MethodName := ⟨RX5, "open", "()LViewBroadcast$Letter;"⟩
abbrev cX5_removeAt : ByteArray := prog_7_method_6_code
def yX5_removeAt : MethodName := ⟨RX5, "removeAt", "(I)V"⟩
abbrev cX5_removeTo : ByteArray := prog_7_method_7_code
def yX5_removeTo : MethodName := ⟨RX5, "removeTo", "(I)I"⟩
abbrev cX5_canCome : ByteArray := prog_7_method_8_code
def yX5_canCome : MethodName := ⟨RX5, "canCome", "(I)Z"⟩
abbrev cX5_hasAhead : ByteArray := prog_7_method_9_code
def yX5_hasAhead : MethodName := ⟨RX5, "hasAhead", "(III)Z"⟩
abbrev cX5_copyFrom : ByteArray := prog_7_method_10_code
def yX5_copyFrom : MethodName := ⟨RX5, "copyFrom", "(LViewBroadcast$Row;)V"⟩
def RX6 : String := "ViewBroadcast$Sizes"
def TX6 : u_T := fun k => match k with
  | 0 => ("ViewBroadcast$Sizes", "active", "I", false)
  | 1 => ("ViewBroadcast$Sizes", "passive", "I", false)
  | 2 => ("ViewBroadcast$Sizes", "longWalk", "I", false)
  | 3 => ("ViewBroadcast$Sizes", "shortWalk", "I", false)
  | _ => ("ViewBroadcast$Sizes", "wait", "I", false)
def tyX6 : Nat → FieldType := fun k => match k with
  | 0 => .int
  | 1 => .int
  | 2 => .int
  | 3 => .int
  | _ => .int
abbrev wsX60 : List Cond := u_ws RX6 TX6 5
theorem nmX6 : ∀ a, a < 5 → ∀ b, b < 5 → a ≠ b → (TX6 a).2.1 ≠ (TX6 b).2.1 := by decide +kernel
theorem tyX6_ok : ∀ k, k < 5 → parseFieldDescriptor (TX6 k).2.2.1 = some (tyX6 k) := by decide +kernel
abbrev cX6_init : ByteArray := prog_8_method_1_code
def yX6_init : MethodName := ⟨RX6, "<init>", "()V"⟩
abbrev cX6_copyFrom : ByteArray := prog_8_method_2_code
def yX6_copyFrom : MethodName := ⟨RX6, "copyFrom", "(LViewBroadcast$Sizes;)V"⟩
def RX7 : String := "ViewBroadcast$Tales"
def TX7 : u_T := fun k => match k with
  | _ => ("ViewBroadcast$Tales", "world", "LViewBroadcast$World;", true)
def tyX7 : Nat → FieldType := fun k => match k with
  | _ => .object "ViewBroadcast$World"
abbrev wsX70 : List Cond := u_ws RX7 TX7 1
theorem nmX7 : ∀ a, a < 1 → ∀ b, b < 1 → a ≠ b → (TX7 a).2.1 ≠ (TX7 b).2.1 := by decide +kernel
theorem tyX7_ok : ∀ k, k < 1 → parseFieldDescriptor (TX7 k).2.2.1 = some (tyX7 k) := by decide +kernel
abbrev cX7_init : ByteArray := prog_9_method_1_code
def yX7_init : MethodName := ⟨RX7, "<init>", "(LViewBroadcast$World;)V"⟩
abbrev cX7_send : ByteArray := prog_9_method_2_code
def yX7_send : MethodName := ⟨RX7, "send", "(LViewBroadcast$Node;IIII)V"⟩
abbrev cX7_hear : ByteArray := prog_9_method_3_code
def yX7_hear : MethodName := ⟨RX7, "hear", "(LViewBroadcast$Node;III)V"⟩
abbrev cX7_onTell : ByteArray := prog_9_method_4_code
def yX7_onTell : MethodName := ⟨RX7, "onTell", "(LViewBroadcast$Node;III)V"⟩
abbrev cX7_onNote : ByteArray := prog_9_method_5_code
def yX7_onNote : MethodName := ⟨RX7, "onNote", "(LViewBroadcast$Node;II)V"⟩
abbrev cX7_onChoice : ByteArray := prog_9_method_6_code
def yX7_onChoice : MethodName := ⟨RX7, "onChoice", "(LViewBroadcast$Node;III)V"⟩
abbrev cX7_pass : ByteArray := prog_9_method_7_code
def yX7_pass : MethodName := ⟨RX7, "pass", "()I"⟩
abbrev cX7_fetchDue : ByteArray := prog_9_method_8_code
def yX7_fetchDue : MethodName := ⟨RX7, "fetchDue", "(LViewBroadcast$Node;)V"⟩
abbrev cX7_fetch : ByteArray := prog_9_method_9_code
def yX7_fetch : MethodName := ⟨RX7, "fetch", "(LViewBroadcast$Node;ILViewBroadcast$Miss;)V"⟩
def RX8 : String := "ViewBroadcast$Views"
def TX8 : u_T := fun k => match k with
  | 0 => ("ViewBroadcast$Views", "world", "LViewBroadcast$World;", true)
  | 1 => ("ViewBroadcast$Views", "sizes", "LViewBroadcast$Sizes;", true)
  | 2 => ("ViewBroadcast$Views", "pool", "LViewBroadcast$NodeList;", true)
  | _ => ("ViewBroadcast$Views", "listed", "LViewBroadcast$NodeList;", true)
def tyX8 : Nat → FieldType := fun k => match k with
  | 0 => .object "ViewBroadcast$World"
  | 1 => .object "ViewBroadcast$Sizes"
  | 2 => .object "ViewBroadcast$NodeList"
  | _ => .object "ViewBroadcast$NodeList"
abbrev wsX80 : List Cond := u_ws RX8 TX8 4
theorem nmX8 : ∀ a, a < 4 → ∀ b, b < 4 → a ≠ b → (TX8 a).2.1 ≠ (TX8 b).2.1 := by decide +kernel
theorem tyX8_ok : ∀ k, k < 4 → parseFieldDescriptor (TX8 k).2.2.1 = some (tyX8 k) := by decide +kernel
abbrev cX8_init : ByteArray := prog_10_method_1_code
def yX8_init : MethodName := ⟨RX8, "<init>", "(LViewBroadcast$World;)V"⟩
abbrev cX8_send : ByteArray := prog_10_method_2_code
def yX8_send : MethodName := ⟨RX8, "send", "(LViewBroadcast$Node;IIII)V"⟩
abbrev cX8_fillPool : ByteArray := prog_10_method_3_code
def yX8_fillPool : MethodName := ⟨RX8, "fillPool", "(LViewBroadcast$NodeList;II)V"⟩
abbrev cX8_drawOfPool : ByteArray := prog_10_method_4_code
def yX8_drawOfPool : MethodName := ⟨RX8, "drawOfPool", "()I"⟩
abbrev cX8_listFromPool : ByteArray := prog_10_method_5_code
def yX8_listFromPool : MethodName := ⟨RX8, "listFromPool", "(I)V"⟩
abbrev cX8_isFull : ByteArray := prog_10_method_6_code
def yX8_isFull : MethodName := ⟨RX8, "isFull", "(LViewBroadcast$Node;)Z"⟩
abbrev cX8_add : ByteArray := prog_10_method_7_code
def yX8_add : MethodName := ⟨RX8, "add", "(LViewBroadcast$Node;I)V"⟩
abbrev cX8_drop : ByteArray := prog_10_method_8_code
def yX8_drop : MethodName := ⟨RX8, "drop", "(LViewBroadcast$Node;I)V"⟩
abbrev cX8_note : ByteArray := prog_10_method_9_code
def yX8_note : MethodName := ⟨RX8, "note", "(LViewBroadcast$Node;I)V"⟩
abbrev cX8_mend : ByteArray := prog_10_method_10_code
def yX8_mend : MethodName := ⟨RX8, "mend", "(LViewBroadcast$Node;)V"⟩
abbrev cX8_onJoin : ByteArray := prog_10_method_11_code
def yX8_onJoin : MethodName := ⟨RX8, "onJoin", "(LViewBroadcast$Node;I)V"⟩
abbrev cX8_onWalk : ByteArray := prog_10_method_12_code
def yX8_onWalk : MethodName := ⟨RX8, "onWalk", "(LViewBroadcast$Node;III)V"⟩
abbrev cX8_onWelcome : ByteArray := prog_10_method_13_code
def yX8_onWelcome : MethodName := ⟨RX8, "onWelcome", "(LViewBroadcast$Node;I)V"⟩
abbrev cX8_onParting : ByteArray := prog_10_method_14_code
def yX8_onParting : MethodName := ⟨RX8, "onParting", "(LViewBroadcast$Node;I)V"⟩
abbrev cX8_onAsking : ByteArray := prog_10_method_15_code
def yX8_onAsking : MethodName := ⟨RX8, "onAsking", "(LViewBroadcast$Node;II)V"⟩
abbrev cX8_onRefusal : ByteArray := prog_10_method_16_code
def yX8_onRefusal : MethodName := ⟨RX8, "onRefusal", "(LViewBroadcast$Node;I)V"⟩
abbrev cX8_onMix : ByteArray := prog_10_method_17_code
def yX8_onMix : MethodName := ⟨RX8, "onMix", "(LViewBroadcast$Node;LViewBroadcast$Letter;)V"⟩
abbrev cX8_answerMix : ByteArray := prog_10_method_18_code
def yX8_answerMix : MethodName := ⟨RX8, "answerMix", "(LViewBroadcast$Node;II)V"⟩
abbrev cX8_takeList : ByteArray := prog_10_method_19_code
def yX8_takeList : MethodName := ⟨RX8, "takeList", "(LViewBroadcast$Node;LViewBroadcast$NodeList;)V"⟩
abbrev cX8_onStopped : ByteArray := prog_10_method_20_code
def yX8_onStopped : MethodName := ⟨RX8, "onStopped", "(LViewBroadcast$Node;I)V"⟩
abbrev cX8_beginMix : ByteArray := prog_10_method_21_code
def yX8_beginMix : MethodName := ⟨RX8, "beginMix", "(LViewBroadcast$Node;)I"⟩
def RX9 : String := "ViewBroadcast$World"
def TX9 : u_T := fun k => match k with
  | 0 => ("ViewBroadcast$World", "coins", "LViewBroadcast$Coins;", true)
  | 1 => ("ViewBroadcast$World", "sizes", "LViewBroadcast$Sizes;", true)
  | 2 => ("ViewBroadcast$World", "nodes", "[LViewBroadcast$Node;", true)
  | 3 => ("ViewBroadcast$World", "nobody", "LViewBroadcast$Node;", true)
  | 4 => ("ViewBroadcast$World", "row", "LViewBroadcast$Row;", true)
  | 5 => ("ViewBroadcast$World", "coming", "LViewBroadcast$Letter;", true)
  | 6 => ("ViewBroadcast$World", "arrivals", "[I", true)
  | 7 => ("ViewBroadcast$World", "nodeCount", "I", false)
  | 8 => ("ViewBroadcast$World", "taleCount", "I", false)
  | 9 => ("ViewBroadcast$World", "time", "I", false)
  | _ => ("ViewBroadcast$World", "nextCoin", "I", false)
def tyX9 : Nat → FieldType := fun k => match k with
  | 0 => .object "ViewBroadcast$Coins"
  | 1 => .object "ViewBroadcast$Sizes"
  | 2 => .array (.object "ViewBroadcast$Node")
  | 3 => .object "ViewBroadcast$Node"
  | 4 => .object "ViewBroadcast$Row"
  | 5 => .object "ViewBroadcast$Letter"
  | 6 => .array .int
  | 7 => .int
  | 8 => .int
  | 9 => .int
  | _ => .int
abbrev wsX90 : List Cond := u_ws RX9 TX9 11
theorem nmX9 : ∀ a, a < 11 → ∀ b, b < 11 → a ≠ b → (TX9 a).2.1 ≠ (TX9 b).2.1 := by decide +kernel
theorem tyX9_ok : ∀ k, k < 11 → parseFieldDescriptor (TX9 k).2.2.1 = some (tyX9 k) := by decide +kernel
abbrev cX9_init : ByteArray := prog_11_method_1_code
def yX9_init : MethodName := ⟨RX9, "<init>", "(LViewBroadcast$Coins;)V"⟩
abbrev cX9_isNode : ByteArray := prog_11_method_2_code
def yX9_isNode : MethodName := ⟨RX9, "isNode", "(I)Z"⟩
abbrev cX9_isTale : ByteArray := prog_11_method_3_code
def yX9_isTale : MethodName := ⟨RX9, "isTale", "(I)Z"⟩
abbrev cX9_nodeAt : ByteArray := prog_11_method_4_code
def yX9_nodeAt : MethodName := ⟨RX9, "nodeAt", "(I)LViewBroadcast$Node;"⟩
abbrev cX9_openNode : ByteArray := prog_11_method_5_code
def yX9_openNode : MethodName := ⟨RX9, "openNode", "()I"⟩
abbrev cX9_draw : ByteArray := prog_11_method_6_code
def yX9_draw : MethodName := ⟨RX9, "draw", "(I)I"⟩
abbrev cX9_send : ByteArray := prog_11_method_7_code
def yX9_send : MethodName := ⟨RX9, "send", "(IIIII)LViewBroadcast$Letter;"⟩
abbrev cX9_sendList : ByteArray := prog_11_method_8_code
def yX9_sendList : MethodName := ⟨RX9, "sendList", "(IIIIILViewBroadcast$NodeList;)V"⟩
abbrev cX9_takeLetter : ByteArray := prog_11_method_9_code
def yX9_takeLetter : MethodName := ⟨RX9, "takeLetter", "(I)LViewBroadcast$Letter;"⟩
abbrev cX9_halt : ByteArray := prog_11_method_10_code
def yX9_halt : MethodName := ⟨RX9, "halt", "(LViewBroadcast$Node;)I"⟩
abbrev cX9_mustLearnOfStop : ByteArray := prog_11_method_11_code
def yX9_mustLearnOfStop : MethodName := ⟨RX9, "mustLearnOfStop", "(LViewBroadcast$Node;I)Z"⟩
abbrev cX9_liveCount : ByteArray := prog_11_method_12_code
def yX9_liveCount : MethodName := ⟨RX9, "liveCount", "()I"⟩
abbrev cX9_hearersOf : ByteArray := prog_11_method_13_code
def yX9_hearersOf : MethodName := ⟨RX9, "hearersOf", "(I)I"⟩
abbrev cX9_isEven : ByteArray := prog_11_method_14_code
def yX9_isEven : MethodName := ⟨RX9, "isEven", "()Z"⟩
abbrev cX9_hasOneSidedLink : ByteArray := prog_11_method_15_code
def yX9_hasOneSidedLink : MethodName := ⟨RX9, "hasOneSidedLink", "(LViewBroadcast$Node;)Z"⟩
abbrev cX9_reachFrom : ByteArray := prog_11_method_16_code
def yX9_reachFrom : MethodName := ⟨RX9, "reachFrom", "(I)I"⟩
abbrev cX9_liveLinksOf : ByteArray := prog_11_method_17_code
def yX9_liveLinksOf : MethodName := ⟨RX9, "liveLinksOf", "(LViewBroadcast$Node;)I"⟩
abbrev cX9_firstOtherNode : ByteArray := prog_11_method_18_code
def yX9_firstOtherNode : MethodName := ⟨RX9, "firstOtherNode", "(LViewBroadcast$World;)I"⟩
abbrev cX9_copyFrom : ByteArray := prog_11_method_19_code
def yX9_copyFrom : MethodName := ⟨RX9, "copyFrom", "(LViewBroadcast$World;)V"⟩
def RX10 : String := "ViewBroadcast"
def TX10 : u_T := fun k => match k with
  | 0 => ("ViewBroadcast", "coins", "LViewBroadcast$Coins;", true)
  | 1 => ("ViewBroadcast", "world", "LViewBroadcast$World;", true)
  | 2 => ("ViewBroadcast", "views", "LViewBroadcast$Views;", true)
  | 3 => ("ViewBroadcast", "tales", "LViewBroadcast$Tales;", true)
  | 4 => ("ViewBroadcast", "kept", "[LViewBroadcast$World;", true)
  | _ => ("ViewBroadcast", "isKept", "[Z", true)
def tyX10 : Nat → FieldType := fun k => match k with
  | 0 => .object "ViewBroadcast$Coins"
  | 1 => .object "ViewBroadcast$World"
  | 2 => .object "ViewBroadcast$Views"
  | 3 => .object "ViewBroadcast$Tales"
  | 4 => .array (.object "ViewBroadcast$World")
  | _ => .array .boolean
abbrev wsX100 : List Cond := u_ws RX10 TX10 6
theorem nmX10 : ∀ a, a < 6 → ∀ b, b < 6 → a ≠ b → (TX10 a).2.1 ≠ (TX10 b).2.1 := by decide +kernel
theorem tyX10_ok : ∀ k, k < 6 → parseFieldDescriptor (TX10 k).2.2.1 = some (tyX10 k) := by decide +kernel
abbrev cX10_init : ByteArray := prog_1_method_1_code
def yX10_init : MethodName := ⟨RX10, "<init>", "()V"⟩
abbrev cX10_sizes : ByteArray := prog_1_method_2_code
def yX10_sizes : MethodName := ⟨RX10, "sizes", "(II)I"⟩
abbrev cX10_walks : ByteArray := prog_1_method_3_code
def yX10_walks : MethodName := ⟨RX10, "walks", "(III)I"⟩
abbrev cX10_coin : ByteArray := prog_1_method_4_code
def yX10_coin : MethodName := ⟨RX10, "coin", "(I)I"⟩
abbrev cX10_node : ByteArray := prog_1_method_5_code
def yX10_node : MethodName := ⟨RX10, "node", "()I"⟩
abbrev cX10_join : ByteArray := prog_1_method_6_code
def yX10_join : MethodName := ⟨RX10, "join", "(II)I"⟩
abbrev cX10_stop : ByteArray := prog_1_method_7_code
def yX10_stop : MethodName := ⟨RX10, "stop", "(I)I"⟩
abbrev cX10_mix : ByteArray := prog_1_method_8_code
def yX10_mix : MethodName := ⟨RX10, "mix", "(I)I"⟩
abbrev cX10_tale : ByteArray := prog_1_method_9_code
def yX10_tale : MethodName := ⟨RX10, "tale", "(I)I"⟩
abbrev cX10_tick : ByteArray := prog_1_method_10_code
def yX10_tick : MethodName := ⟨RX10, "tick", "()I"⟩
abbrev cX10_deliver : ByteArray := prog_1_method_11_code
def yX10_deliver : MethodName := ⟨RX10, "deliver", "(I)I"⟩
abbrev cX10_go : ByteArray := prog_1_method_12_code
def yX10_go : MethodName := ⟨RX10, "go", "(I)I"⟩
abbrev cX10_view : ByteArray := prog_1_method_13_code
def yX10_view : MethodName := ⟨RX10, "view", "(III)I"⟩
abbrev cX10_how : ByteArray := prog_1_method_14_code
def yX10_how : MethodName := ⟨RX10, "how", "(II)I"⟩
abbrev cX10_heard : ByteArray := prog_1_method_15_code
def yX10_heard : MethodName := ⟨RX10, "heard", "(II)I"⟩
abbrev cX10_missed : ByteArray := prog_1_method_16_code
def yX10_missed : MethodName := ⟨RX10, "missed", "(II)I"⟩
abbrev cX10_about : ByteArray := prog_1_method_17_code
def yX10_about : MethodName := ⟨RX10, "about", "(II)I"⟩
abbrev cX10_letter : ByteArray := prog_1_method_18_code
def yX10_letter : MethodName := ⟨RX10, "letter", "(II)I"⟩
abbrev cX10_even : ByteArray := prog_1_method_19_code
def yX10_even : MethodName := ⟨RX10, "even", "()I"⟩
abbrev cX10_reach : ByteArray := prog_1_method_20_code
def yX10_reach : MethodName := ⟨RX10, "reach", "(I)I"⟩
abbrev cX10_came : ByteArray := prog_1_method_21_code
def yX10_came : MethodName := ⟨RX10, "came", "(I)I"⟩
abbrev cX10_spread : ByteArray := prog_1_method_22_code
def yX10_spread : MethodName := ⟨RX10, "spread", "(I)I"⟩
abbrev cX10_told : ByteArray := prog_1_method_23_code
def yX10_told : MethodName := ⟨RX10, "told", "(I)I"⟩
abbrev cX10_keep : ByteArray := prog_1_method_24_code
def yX10_keep : MethodName := ⟨RX10, "keep", "(I)I"⟩
abbrev cX10_back : ByteArray := prog_1_method_25_code
def yX10_back : MethodName := ⟨RX10, "back", "(I)I"⟩
abbrev cX10_differs : ByteArray := prog_1_method_26_code
def yX10_differs : MethodName := ⟨RX10, "differs", "(I)I"⟩
abbrev cX10_isPlace : ByteArray := prog_1_method_27_code
def yX10_isPlace : MethodName := ⟨RX10, "isPlace", "(I)Z"⟩
abbrev cX10_refusedActor : ByteArray := prog_1_method_28_code
def yX10_refusedActor : MethodName := ⟨RX10, "refusedActor", "(I)I"⟩
abbrev cX10_come : ByteArray := prog_1_method_29_code
def yX10_come : MethodName := ⟨RX10, "come", "(I)I"⟩
def RX11 : String := "ViewBroadcastModel"
def TX11 : u_T := fun k => match k with
  | 0 => ("ViewBroadcastModel", "z", "[I", true)
  | 1 => ("ViewBroadcastModel", "mostActive", "I", false)
  | 2 => ("ViewBroadcastModel", "mostPassive", "I", false)
  | 3 => ("ViewBroadcastModel", "far", "I", false)
  | 4 => ("ViewBroadcastModel", "near", "I", false)
  | 5 => ("ViewBroadcastModel", "wait", "I", false)
  | 6 => ("ViewBroadcastModel", "coins", "[I", true)
  | 7 => ("ViewBroadcastModel", "coinMany", "I", false)
  | 8 => ("ViewBroadcastModel", "list", "[I", true)
  | 9 => ("ViewBroadcastModel", "listMany", "I", false)
  | 10 => ("ViewBroadcastModel", "some", "[I", true)
  | 11 => ("ViewBroadcastModel", "got", "[I", true)
  | 12 => ("ViewBroadcastModel", "gotMany", "I", false)
  | 13 => ("ViewBroadcastModel", "kept", "[I", true)
  | 14 => ("ViewBroadcastModel", "isKept", "[Z", true)
  | _ => ("ViewBroadcastModel", "keptSizes", "[I", true)
def tyX11 : Nat → FieldType := fun k => match k with
  | 0 => .array .int
  | 1 => .int
  | 2 => .int
  | 3 => .int
  | 4 => .int
  | 5 => .int
  | 6 => .array .int
  | 7 => .int
  | 8 => .array .int
  | 9 => .int
  | 10 => .array .int
  | 11 => .array .int
  | 12 => .int
  | 13 => .array .int
  | 14 => .array .boolean
  | _ => .array .int
abbrev wsX110 : List Cond := u_ws RX11 TX11 16
theorem nmX11 : ∀ a, a < 16 → ∀ b, b < 16 → a ≠ b → (TX11 a).2.1 ≠ (TX11 b).2.1 := by decide +kernel
theorem tyX11_ok : ∀ k, k < 16 → parseFieldDescriptor (TX11 k).2.2.1 = some (tyX11 k) := by decide +kernel
abbrev cX11_init : ByteArray := prog_13_method_1_code
def yX11_init : MethodName := ⟨RX11, "<init>", "()V"⟩
abbrev cX11_in : ByteArray := prog_13_method_3_code
def yX11_in : MethodName := ⟨RX11, "in", "(JJJ)Z"⟩
abbrev cX11_isNode : ByteArray := prog_13_method_4_code
def yX11_isNode : MethodName := ⟨RX11, "isNode", "(I)Z"⟩
abbrev cX11_isTale : ByteArray := prog_13_method_5_code
def yX11_isTale : MethodName := ⟨RX11, "isTale", "(I)Z"⟩
abbrev cX11_sizes : ByteArray := prog_13_method_6_code
def yX11_sizes : MethodName := ⟨RX11, "sizes", "(II)I"⟩
abbrev cX11_walks : ByteArray := prog_13_method_7_code
def yX11_walks : MethodName := ⟨RX11, "walks", "(III)I"⟩
abbrev cX11_coin : ByteArray := prog_13_method_8_code
def yX11_coin : MethodName := ⟨RX11, "coin", "(I)I"⟩
abbrev cX11_draw : ByteArray := prog_13_method_9_code
def yX11_draw : MethodName := ⟨RX11, "draw", "(I)I"⟩
abbrev cX11_ofLetter : ByteArray := prog_13_method_10_code
def yX11_ofLetter : MethodName := ⟨RX11, "ofLetter", "(II)I"⟩
abbrev cX11_post : ByteArray := prog_13_method_11_code
def yX11_post : MethodName := ⟨RX11, "post", "(IIIIII)V"⟩
abbrev cX11_sendList : ByteArray := prog_13_method_12_code
def yX11_sendList : MethodName := ⟨RX11, "sendList", "(IIIIII)V"⟩
abbrev cX11_send : ByteArray := prog_13_method_13_code
def yX11_send : MethodName := ⟨RX11, "send", "(IIIII)V"⟩
abbrev cX11_takeOutLetter : ByteArray := prog_13_method_14_code
def yX11_takeOutLetter : MethodName := ⟨RX11, "takeOutLetter", "(I)V"⟩
abbrev cX11_activeAt : ByteArray := prog_13_method_15_code
def yX11_activeAt : MethodName := ⟨RX11, "activeAt", "(II)I"⟩
abbrev cX11_passiveAt : ByteArray := prog_13_method_16_code
def yX11_passiveAt : MethodName := ⟨RX11, "passiveAt", "(II)I"⟩
abbrev cX11_isActive : ByteArray := prog_13_method_17_code
def yX11_isActive : MethodName := ⟨RX11, "isActive", "(II)Z"⟩
abbrev cX11_leavesPassive : ByteArray := prog_13_method_18_code
def yX11_leavesPassive : MethodName := ⟨RX11, "leavesPassive", "(II)V"⟩
abbrev cX11_leavesActive : ByteArray := prog_13_method_19_code
def yX11_leavesActive : MethodName := ⟨RX11, "leavesActive", "(II)V"⟩
abbrev cX11_forgetTeller : ByteArray := prog_13_method_20_code
def yX11_forgetTeller : MethodName := ⟨RX11, "forgetTeller", "(II)V"⟩
abbrev cX11_setLazy : ByteArray := prog_13_method_21_code
def yX11_setLazy : MethodName := ⟨RX11, "setLazy", "(III)V"⟩
abbrev cX11_note : ByteArray := prog_13_method_22_code
def yX11_note : MethodName := ⟨RX11, "note", "(II)V"⟩
abbrev cX11_add : ByteArray := prog_13_method_23_code
def yX11_add : MethodName := ⟨RX11, "add", "(II)V"⟩
abbrev cX11_mend : ByteArray := prog_13_method_24_code
def yX11_mend : MethodName := ⟨RX11, "mend", "(I)V"⟩
abbrev cX11_without : ByteArray := prog_13_method_25_code
def yX11_without : MethodName := ⟨RX11, "without", "(III)I"⟩
abbrev cX11_drawOut : ByteArray := prog_13_method_26_code
def yX11_drawOut : MethodName := ⟨RX11, "drawOut", "(I)I"⟩
abbrev cX11_node : ByteArray := prog_13_method_27_code
def yX11_node : MethodName := ⟨RX11, "node", "()I"⟩
abbrev cX11_join : ByteArray := prog_13_method_28_code
def yX11_join : MethodName := ⟨RX11, "join", "(II)I"⟩
abbrev cX11_stop : ByteArray := prog_13_method_29_code
def yX11_stop : MethodName := ⟨RX11, "stop", "(I)I"⟩
abbrev cX11_isUnderWay : ByteArray := prog_13_method_30_code
def yX11_isUnderWay : MethodName := ⟨RX11, "isUnderWay", "(II)Z"⟩
abbrev cX11_mix : ByteArray := prog_13_method_31_code
def yX11_mix : MethodName := ⟨RX11, "mix", "(I)I"⟩
abbrev cX11_drawSome : ByteArray := prog_13_method_32_code
def yX11_drawSome : MethodName := ⟨RX11, "drawSome", "(II)V"⟩
abbrev cX11_tale : ByteArray := prog_13_method_33_code
def yX11_tale : MethodName := ⟨RX11, "tale", "(I)I"⟩
abbrev cX11_hear : ByteArray := prog_13_method_34_code
def yX11_hear : MethodName := ⟨RX11, "hear", "(IIII)V"⟩
abbrev cX11_tick : ByteArray := prog_13_method_35_code
def yX11_tick : MethodName := ⟨RX11, "tick", "()I"⟩
abbrev cX11_fetch : ByteArray := prog_13_method_36_code
def yX11_fetch : MethodName := ⟨RX11, "fetch", "(III)V"⟩
abbrev cX11_canCome : ByteArray := prog_13_method_37_code
def yX11_canCome : MethodName := ⟨RX11, "canCome", "(I)Z"⟩
abbrev cX11_deliver : ByteArray := prog_13_method_38_code
def yX11_deliver : MethodName := ⟨RX11, "deliver", "(I)I"⟩
abbrev cX11_go : ByteArray := prog_13_method_39_code
def yX11_go : MethodName := ⟨RX11, "go", "(I)I"⟩
abbrev cX11_comes : ByteArray := prog_13_method_40_code
def yX11_comes : MethodName := ⟨RX11, "comes", "(I)I"⟩
abbrev cX11_joins : ByteArray := prog_13_method_41_code
def yX11_joins : MethodName := ⟨RX11, "joins", "(IIIII)V"⟩
abbrev cX11_goesOn : ByteArray := prog_13_method_42_code
def yX11_goesOn : MethodName := ⟨RX11, "goesOn", "(IIII)V"⟩
abbrev cX11_mends : ByteArray := prog_13_method_43_code
def yX11_mends : MethodName := ⟨RX11, "mends", "(IIII)V"⟩
abbrev cX11_mixes : ByteArray := prog_13_method_44_code
def yX11_mixes : MethodName := ⟨RX11, "mixes", "(IIIII)V"⟩
abbrev cX11_tells : ByteArray := prog_13_method_45_code
def yX11_tells : MethodName := ⟨RX11, "tells", "(IIIII)V"⟩
abbrev cX11_view : ByteArray := prog_13_method_46_code
def yX11_view : MethodName := ⟨RX11, "view", "(III)I"⟩
abbrev cX11_how : ByteArray := prog_13_method_47_code
def yX11_how : MethodName := ⟨RX11, "how", "(II)I"⟩
abbrev cX11_heard : ByteArray := prog_13_method_48_code
def yX11_heard : MethodName := ⟨RX11, "heard", "(II)I"⟩
abbrev cX11_missed : ByteArray := prog_13_method_49_code
def yX11_missed : MethodName := ⟨RX11, "missed", "(II)I"⟩
abbrev cX11_about : ByteArray := prog_13_method_50_code
def yX11_about : MethodName := ⟨RX11, "about", "(II)I"⟩
abbrev cX11_letter : ByteArray := prog_13_method_51_code
def yX11_letter : MethodName := ⟨RX11, "letter", "(II)I"⟩
abbrev cX11_even : ByteArray := prog_13_method_52_code
def yX11_even : MethodName := ⟨RX11, "even", "()I"⟩
abbrev cX11_reach : ByteArray := prog_13_method_53_code
def yX11_reach : MethodName := ⟨RX11, "reach", "(I)I"⟩
abbrev cX11_came : ByteArray := prog_13_method_54_code
def yX11_came : MethodName := ⟨RX11, "came", "(I)I"⟩
abbrev cX11_spread : ByteArray := prog_13_method_55_code
def yX11_spread : MethodName := ⟨RX11, "spread", "(I)I"⟩
abbrev cX11_told : ByteArray := prog_13_method_56_code
def yX11_told : MethodName := ⟨RX11, "told", "(I)I"⟩
abbrev cX11_keep : ByteArray := prog_13_method_57_code
def yX11_keep : MethodName := ⟨RX11, "keep", "(I)I"⟩
abbrev cX11_back : ByteArray := prog_13_method_58_code
def yX11_back : MethodName := ⟨RX11, "back", "(I)I"⟩
abbrev cX11_isOther : ByteArray := prog_13_method_59_code
def yX11_isOther : MethodName := ⟨RX11, "isOther", "(III)Z"⟩
abbrev cX11_differs : ByteArray := prog_13_method_60_code
def yX11_differs : MethodName := ⟨RX11, "differs", "(I)I"⟩
abbrev cX11_heardOther : ByteArray := prog_13_method_61_code
def yX11_heardOther : MethodName := ⟨RX11, "heardOther", "(II)Z"⟩
def RL : String := "ViewBroadcastLaw"
abbrev cL_law : ByteArray := code
def yL_law : MethodName := ⟨RL, "law", "([I)Z"⟩
abbrev vwCl : List vw_C := [(RX0, TX0, 2), (RX1, TX1, 6), (RX2, TX2, 3), (RX3, TX3, 10), (RX4, TX4, 2), (RX5, TX5, 4), (RX6, TX6, 5), (RX7, TX7, 1), (RX8, TX8, 4), (RX9, TX9, 11), (RX10, TX10, 6), (RX11, TX11, 16)]
def pU : List Cond := lw_tbl.filter goodWord
theorem pU_good : ∀ w ∈ pU, goodWord w = true := fun _ h => (List.mem_filter.mp h).2
theorem pU_in : ∀ w ∈ pU, w ∈ lw_tbl := fun _ h => (List.mem_filter.mp h).1
theorem pU_of {i : Nat} {w : Cond} (h : lw_tbl[i]? = some w) (hg : goodWord w = true) : w ∈ pU := List.mem_filter.mpr ⟨List.mem_of_getElem? h, hg⟩
end
section
theorem u_0 : ((Jvm.Cond.initialized "ViewBroadcastLaw")) ∈ pU := pU_of (i := 35) rfl rfl
theorem u_1 : ((Jvm.Cond.initialized "ViewBroadcast")) ∈ pU := pU_of (i := 36) rfl rfl
theorem u_2 : ((Jvm.Cond.initialized "ViewBroadcast$Coins")) ∈ pU := pU_of (i := 37) rfl rfl
theorem u_3 : ((Jvm.Cond.initialized "ViewBroadcast$World")) ∈ pU := pU_of (i := 38) rfl rfl
theorem u_4 : ((Jvm.Cond.initialized "ViewBroadcast$Sizes")) ∈ pU := pU_of (i := 39) rfl rfl
theorem u_5 : ((Jvm.Cond.initialized "ViewBroadcast$Node")) ∈ pU := pU_of (i := 40) rfl rfl
theorem u_6 : ((Jvm.Cond.initialized "ViewBroadcast$NodeList")) ∈ pU := pU_of (i := 41) rfl rfl
theorem u_7 : ((Jvm.Cond.initialized "java/lang/Math")) ∈ pU := pU_of (i := 42) rfl rfl
theorem u_8 : ((Jvm.Cond.initialized "ViewBroadcast$Miss")) ∈ pU := pU_of (i := 43) rfl rfl
theorem u_9 : ((Jvm.Cond.initialized "ViewBroadcast$Row")) ∈ pU := pU_of (i := 44) rfl rfl
theorem u_10 : ((Jvm.Cond.initialized "ViewBroadcast$Letter")) ∈ pU := pU_of (i := 45) rfl rfl
theorem u_11 : ((Jvm.Cond.initialized "ViewBroadcast$Views")) ∈ pU := pU_of (i := 46) rfl rfl
theorem u_12 : ((Jvm.Cond.initialized "ViewBroadcast$Tales")) ∈ pU := pU_of (i := 47) rfl rfl
theorem u_13 : ((Jvm.Cond.initialized "ViewBroadcastModel")) ∈ pU := pU_of (i := 48) rfl rfl
theorem u_14 : ((Jvm.Cond.initialized "java/lang/Integer")) ∈ pU := pU_of (i := 49) rfl rfl
theorem u_15 : ((Jvm.Cond.classLink "ViewBroadcastLaw" (7 : Nat) "ViewBroadcast")) ∈ pU := pU_of (i := 50) rfl rfl
theorem u_16 : ((Jvm.Cond.instantiable "ViewBroadcast" (6 : Nat))) ∈ pU := pU_of (i := 51) rfl rfl
theorem u_17 : ((Jvm.Cond.methodLink "ViewBroadcastLaw" (9 : Nat) ({ cls := "ViewBroadcast", name := "<init>", desc := "()V" } : Jvm.MethodName))) ∈ pU := pU_of (i := 52) rfl rfl
theorem u_18 : ((Jvm.Cond.instanceMethod ({ cls := "ViewBroadcast", name := "<init>", desc := "()V" } : Jvm.MethodName))) ∈ pU := pU_of (i := 53) rfl rfl
theorem u_19 : ((Jvm.Cond.code ({ cls := "ViewBroadcast", name := "<init>", desc := "()V" } : Jvm.MethodName) prog_1_method_1_code (2 : Nat) (Option.none : Option Jvm.ClassFile.FieldType))) ∈ pU := pU_of (i := 54) rfl rfl
theorem u_20 : ((Jvm.Cond.methodLink "ViewBroadcast" (1 : Nat) ({ cls := "java/lang/Object", name := "<init>", desc := "()V" } : Jvm.MethodName))) ∈ pU := pU_of (i := 55) rfl rfl
theorem u_21 : ((Jvm.Cond.instanceMethod ({ cls := "java/lang/Object", name := "<init>", desc := "()V" } : Jvm.MethodName))) ∈ pU := pU_of (i := 56) rfl rfl
theorem u_22 : ((Jvm.Cond.code ({ cls := "java/lang/Object", name := "<init>", desc := "()V" } : Jvm.MethodName) object_method_1_code (1 : Nat) (Option.none : Option Jvm.ClassFile.FieldType))) ∈ pU := pU_of (i := 57) rfl rfl
theorem u_23 : ((Jvm.Cond.classLink "ViewBroadcast" (7 : Nat) "ViewBroadcast$Coins")) ∈ pU := pU_of (i := 58) rfl rfl
theorem u_24 : ((Jvm.Cond.instantiable "ViewBroadcast$Coins" (2 : Nat))) ∈ pU := pU_of (i := 59) rfl rfl
theorem u_26 : ((Jvm.Cond.instanceMethod ({ cls := "ViewBroadcast$Coins", name := "<init>", desc := "()V" } : Jvm.MethodName))) ∈ pU := pU_of (i := 61) rfl rfl
theorem u_27 : ((Jvm.Cond.code ({ cls := "ViewBroadcast$Coins", name := "<init>", desc := "()V" } : Jvm.MethodName) prog_2_method_1_code (1 : Nat) (Option.none : Option Jvm.ClassFile.FieldType))) ∈ pU := pU_of (i := 62) rfl rfl
theorem u_28 : ((Jvm.Cond.methodLink "ViewBroadcast$Coins" (3 : Nat) ({ cls := "java/lang/Object", name := "<init>", desc := "()V" } : Jvm.MethodName))) ∈ pU := pU_of (i := 63) rfl rfl
theorem u_29 : ((Jvm.Cond.fieldLink "ViewBroadcast$Coins" (9 : Nat) "ViewBroadcast$Coins" "values" "[I")) ∈ pU := pU_of (i := 64) rfl rfl
theorem u_30 : ((Jvm.Cond.fieldLink "ViewBroadcast$Coins" (15 : Nat) "ViewBroadcast$Coins" "count" "I")) ∈ pU := pU_of (i := 65) rfl rfl
theorem u_31 : ((Jvm.Cond.fieldLink "ViewBroadcast" (78 : Nat) "ViewBroadcast$Coins" "count" "I")) ∈ pU := pU_of (i := 66) rfl rfl
theorem u_32 : ((Jvm.Cond.fieldLink "ViewBroadcast$World" (73 : Nat) "ViewBroadcast$Coins" "count" "I")) ∈ pU := pU_of (i := 67) rfl rfl
theorem u_38 : ((Jvm.Cond.arrayClass Jvm.ClassFile.FieldType.int)) ∈ pU := pU_of (i := 73) rfl rfl
theorem u_39 : ((Jvm.Cond.classLink "ViewBroadcast" (16 : Nat) "ViewBroadcast$World")) ∈ pU := pU_of (i := 74) rfl rfl
theorem u_40 : ((Jvm.Cond.instantiable "ViewBroadcast$World" (11 : Nat))) ∈ pU := pU_of (i := 75) rfl rfl
theorem u_41 : ((Jvm.Cond.methodLink "ViewBroadcast" (18 : Nat) ({ cls := "ViewBroadcast$World", name := "<init>", desc := "(LViewBroadcast$Coins;)V" } : Jvm.MethodName))) ∈ pU := pU_of (i := 76) rfl rfl
theorem u_42 : ((Jvm.Cond.instanceMethod ({ cls := "ViewBroadcast$World", name := "<init>", desc := "(LViewBroadcast$Coins;)V" } : Jvm.MethodName))) ∈ pU := pU_of (i := 77) rfl rfl
theorem u_43 : ((Jvm.Cond.code ({ cls := "ViewBroadcast$World", name := "<init>", desc := "(LViewBroadcast$Coins;)V" } : Jvm.MethodName) prog_11_method_1_code (3 : Nat) (Option.none : Option Jvm.ClassFile.FieldType))) ∈ pU := pU_of (i := 78) rfl rfl
theorem u_44 : ((Jvm.Cond.methodLink "ViewBroadcast$World" (3 : Nat) ({ cls := "java/lang/Object", name := "<init>", desc := "()V" } : Jvm.MethodName))) ∈ pU := pU_of (i := 79) rfl rfl
theorem u_45 : ((Jvm.Cond.classLink "ViewBroadcast$World" (9 : Nat) "ViewBroadcast$Sizes")) ∈ pU := pU_of (i := 80) rfl rfl
theorem u_46 : ((Jvm.Cond.instantiable "ViewBroadcast$Sizes" (5 : Nat))) ∈ pU := pU_of (i := 81) rfl rfl
theorem u_48 : ((Jvm.Cond.instanceMethod ({ cls := "ViewBroadcast$Sizes", name := "<init>", desc := "()V" } : Jvm.MethodName))) ∈ pU := pU_of (i := 83) rfl rfl
theorem u_49 : ((Jvm.Cond.code ({ cls := "ViewBroadcast$Sizes", name := "<init>", desc := "()V" } : Jvm.MethodName) prog_8_method_1_code (1 : Nat) (Option.none : Option Jvm.ClassFile.FieldType))) ∈ pU := pU_of (i := 84) rfl rfl
theorem u_50 : ((Jvm.Cond.methodLink "ViewBroadcast$Sizes" (1 : Nat) ({ cls := "java/lang/Object", name := "<init>", desc := "()V" } : Jvm.MethodName))) ∈ pU := pU_of (i := 85) rfl rfl
theorem u_51 : ((Jvm.Cond.fieldLink "ViewBroadcast$Sizes" (7 : Nat) "ViewBroadcast$Sizes" "active" "I")) ∈ pU := pU_of (i := 86) rfl rfl
theorem u_52 : ((Jvm.Cond.fieldLink "ViewBroadcast" (57 : Nat) "ViewBroadcast$Sizes" "active" "I")) ∈ pU := pU_of (i := 87) rfl rfl
theorem u_53 : ((Jvm.Cond.fieldLink "ViewBroadcast$Views" (70 : Nat) "ViewBroadcast$Sizes" "active" "I")) ∈ pU := pU_of (i := 88) rfl rfl
theorem u_54 : ((Jvm.Cond.fieldLink "ViewBroadcast$Sizes" (13 : Nat) "ViewBroadcast$Sizes" "passive" "I")) ∈ pU := pU_of (i := 89) rfl rfl
theorem u_55 : ((Jvm.Cond.fieldLink "ViewBroadcast" (62 : Nat) "ViewBroadcast$Sizes" "passive" "I")) ∈ pU := pU_of (i := 90) rfl rfl
theorem u_56 : ((Jvm.Cond.fieldLink "ViewBroadcast$Views" (104 : Nat) "ViewBroadcast$Sizes" "passive" "I")) ∈ pU := pU_of (i := 91) rfl rfl
theorem u_57 : ((Jvm.Cond.fieldLink "ViewBroadcast$Sizes" (16 : Nat) "ViewBroadcast$Sizes" "longWalk" "I")) ∈ pU := pU_of (i := 92) rfl rfl
theorem u_58 : ((Jvm.Cond.fieldLink "ViewBroadcast" (65 : Nat) "ViewBroadcast$Sizes" "longWalk" "I")) ∈ pU := pU_of (i := 93) rfl rfl
theorem u_59 : ((Jvm.Cond.fieldLink "ViewBroadcast$Views" (115 : Nat) "ViewBroadcast$Sizes" "longWalk" "I")) ∈ pU := pU_of (i := 94) rfl rfl
theorem u_60 : ((Jvm.Cond.fieldLink "ViewBroadcast$Sizes" (19 : Nat) "ViewBroadcast$Sizes" "shortWalk" "I")) ∈ pU := pU_of (i := 95) rfl rfl
theorem u_61 : ((Jvm.Cond.fieldLink "ViewBroadcast" (68 : Nat) "ViewBroadcast$Sizes" "shortWalk" "I")) ∈ pU := pU_of (i := 96) rfl rfl
theorem u_62 : ((Jvm.Cond.fieldLink "ViewBroadcast$Views" (118 : Nat) "ViewBroadcast$Sizes" "shortWalk" "I")) ∈ pU := pU_of (i := 97) rfl rfl
theorem u_63 : ((Jvm.Cond.fieldLink "ViewBroadcast$Sizes" (22 : Nat) "ViewBroadcast$Sizes" "wait" "I")) ∈ pU := pU_of (i := 98) rfl rfl
theorem u_64 : ((Jvm.Cond.fieldLink "ViewBroadcast" (71 : Nat) "ViewBroadcast$Sizes" "wait" "I")) ∈ pU := pU_of (i := 99) rfl rfl
theorem u_65 : ((Jvm.Cond.fieldLink "ViewBroadcast$Tales" (85 : Nat) "ViewBroadcast$Sizes" "wait" "I")) ∈ pU := pU_of (i := 100) rfl rfl
theorem u_77 : ((Jvm.Cond.classLink "ViewBroadcast$World" (18 : Nat) "ViewBroadcast$Node")) ∈ pU := pU_of (i := 112) rfl rfl
theorem u_79 : ((Jvm.Cond.instantiable "ViewBroadcast$Node" (10 : Nat))) ∈ pU := pU_of (i := 114) rfl rfl
theorem u_80 : ((Jvm.Cond.methodLink "ViewBroadcast$World" (24 : Nat) ({ cls := "ViewBroadcast$Node", name := "<init>", desc := "(I)V" } : Jvm.MethodName))) ∈ pU := pU_of (i := 115) rfl rfl
theorem u_81 : ((Jvm.Cond.instanceMethod ({ cls := "ViewBroadcast$Node", name := "<init>", desc := "(I)V" } : Jvm.MethodName))) ∈ pU := pU_of (i := 116) rfl rfl
theorem u_82 : ((Jvm.Cond.code ({ cls := "ViewBroadcast$Node", name := "<init>", desc := "(I)V" } : Jvm.MethodName) prog_5_method_1_code (3 : Nat) (Option.none : Option Jvm.ClassFile.FieldType))) ∈ pU := pU_of (i := 117) rfl rfl
theorem u_83 : ((Jvm.Cond.methodLink "ViewBroadcast$Node" (3 : Nat) ({ cls := "java/lang/Object", name := "<init>", desc := "()V" } : Jvm.MethodName))) ∈ pU := pU_of (i := 118) rfl rfl
theorem u_84 : ((Jvm.Cond.classLink "ViewBroadcast$Node" (15 : Nat) "ViewBroadcast$NodeList")) ∈ pU := pU_of (i := 119) rfl rfl
theorem u_85 : ((Jvm.Cond.instantiable "ViewBroadcast$NodeList" (2 : Nat))) ∈ pU := pU_of (i := 120) rfl rfl
theorem u_86 : ((Jvm.Cond.methodLink "ViewBroadcast$Node" (17 : Nat) ({ cls := "ViewBroadcast$NodeList", name := "<init>", desc := "(I)V" } : Jvm.MethodName))) ∈ pU := pU_of (i := 121) rfl rfl
theorem u_87 : ((Jvm.Cond.instanceMethod ({ cls := "ViewBroadcast$NodeList", name := "<init>", desc := "(I)V" } : Jvm.MethodName))) ∈ pU := pU_of (i := 122) rfl rfl
theorem u_88 : ((Jvm.Cond.code ({ cls := "ViewBroadcast$NodeList", name := "<init>", desc := "(I)V" } : Jvm.MethodName) prog_6_method_1_code (2 : Nat) (Option.none : Option Jvm.ClassFile.FieldType))) ∈ pU := pU_of (i := 123) rfl rfl
theorem u_89 : ((Jvm.Cond.methodLink "ViewBroadcast$NodeList" (3 : Nat) ({ cls := "java/lang/Object", name := "<init>", desc := "()V" } : Jvm.MethodName))) ∈ pU := pU_of (i := 124) rfl rfl
theorem u_90 : ((Jvm.Cond.methodLink "ViewBroadcast$NodeList" (15 : Nat) ({ cls := "java/lang/Math", name := "max", desc := "(II)I" } : Jvm.MethodName))) ∈ pU := pU_of (i := 125) rfl rfl
theorem u_91 : ((Jvm.Cond.static ({ cls := "java/lang/Math", name := "max", desc := "(II)I" } : Jvm.MethodName))) ∈ pU := pU_of (i := 126) rfl rfl
theorem u_92 : ((Jvm.Cond.code ({ cls := "java/lang/Math", name := "max", desc := "(II)I" } : Jvm.MethodName) prog_15_method_65_code (2 : Nat) (Option.some Jvm.ClassFile.FieldType.int))) ∈ pU := pU_of (i := 127) rfl rfl
theorem u_93 : ((Jvm.Cond.fieldLink "ViewBroadcast$NodeList" (21 : Nat) "ViewBroadcast$NodeList" "numbers" "[I")) ∈ pU := pU_of (i := 128) rfl rfl
theorem u_94 : ((Jvm.Cond.fieldLink "ViewBroadcast$NodeList" (9 : Nat) "ViewBroadcast$NodeList" "count" "I")) ∈ pU := pU_of (i := 129) rfl rfl
theorem u_95 : ((Jvm.Cond.fieldLink "ViewBroadcast$Views" (47 : Nat) "ViewBroadcast$NodeList" "count" "I")) ∈ pU := pU_of (i := 130) rfl rfl
theorem u_96 : ((Jvm.Cond.fieldLink "ViewBroadcast$Tales" (35 : Nat) "ViewBroadcast$NodeList" "count" "I")) ∈ pU := pU_of (i := 131) rfl rfl
theorem u_97 : ((Jvm.Cond.fieldLink "ViewBroadcast" (144 : Nat) "ViewBroadcast$NodeList" "count" "I")) ∈ pU := pU_of (i := 132) rfl rfl
theorem u_98 : ((Jvm.Cond.fieldLink "ViewBroadcast$World" (164 : Nat) "ViewBroadcast$NodeList" "count" "I")) ∈ pU := pU_of (i := 133) rfl rfl
theorem u_104 : ((Jvm.Cond.classLink "ViewBroadcast$Node" (44 : Nat) "ViewBroadcast$Miss")) ∈ pU := pU_of (i := 139) rfl rfl
theorem u_106 : ((Jvm.Cond.instantiable "ViewBroadcast$Miss" (3 : Nat))) ∈ pU := pU_of (i := 141) rfl rfl
theorem u_108 : ((Jvm.Cond.instanceMethod ({ cls := "ViewBroadcast$Miss", name := "<init>", desc := "()V" } : Jvm.MethodName))) ∈ pU := pU_of (i := 143) rfl rfl
theorem u_109 : ((Jvm.Cond.code ({ cls := "ViewBroadcast$Miss", name := "<init>", desc := "()V" } : Jvm.MethodName) prog_4_method_1_code (1 : Nat) (Option.none : Option Jvm.ClassFile.FieldType))) ∈ pU := pU_of (i := 144) rfl rfl
theorem u_110 : ((Jvm.Cond.methodLink "ViewBroadcast$Miss" (3 : Nat) ({ cls := "java/lang/Object", name := "<init>", desc := "()V" } : Jvm.MethodName))) ∈ pU := pU_of (i := 145) rfl rfl
theorem u_111 : ((Jvm.Cond.classLink "ViewBroadcast$Miss" (19 : Nat) "ViewBroadcast$NodeList")) ∈ pU := pU_of (i := 146) rfl rfl
theorem u_112 : ((Jvm.Cond.methodLink "ViewBroadcast$Miss" (21 : Nat) ({ cls := "ViewBroadcast$NodeList", name := "<init>", desc := "(I)V" } : Jvm.MethodName))) ∈ pU := pU_of (i := 147) rfl rfl
theorem u_113 : ((Jvm.Cond.fieldLink "ViewBroadcast$Miss" (9 : Nat) "ViewBroadcast$Miss" "open" "Z")) ∈ pU := pU_of (i := 148) rfl rfl
theorem u_114 : ((Jvm.Cond.fieldLink "ViewBroadcast$Tales" (72 : Nat) "ViewBroadcast$Miss" "open" "Z")) ∈ pU := pU_of (i := 149) rfl rfl
theorem u_115 : ((Jvm.Cond.fieldLink "ViewBroadcast$Node" (68 : Nat) "ViewBroadcast$Miss" "open" "Z")) ∈ pU := pU_of (i := 150) rfl rfl
theorem u_116 : ((Jvm.Cond.fieldLink "ViewBroadcast$Miss" (15 : Nat) "ViewBroadcast$Miss" "hour" "I")) ∈ pU := pU_of (i := 151) rfl rfl
theorem u_117 : ((Jvm.Cond.fieldLink "ViewBroadcast$Tales" (90 : Nat) "ViewBroadcast$Miss" "hour" "I")) ∈ pU := pU_of (i := 152) rfl rfl
theorem u_118 : ((Jvm.Cond.fieldLink "ViewBroadcast$Miss" (24 : Nat) "ViewBroadcast$Miss" "tellers" "LViewBroadcast$NodeList;")) ∈ pU := pU_of (i := 153) rfl rfl
theorem u_119 : ((Jvm.Cond.fieldLink "ViewBroadcast$Tales" (93 : Nat) "ViewBroadcast$Miss" "tellers" "LViewBroadcast$NodeList;")) ∈ pU := pU_of (i := 154) rfl rfl
theorem u_120 : ((Jvm.Cond.fieldLink "ViewBroadcast$Node" (77 : Nat) "ViewBroadcast$Miss" "tellers" "LViewBroadcast$NodeList;")) ∈ pU := pU_of (i := 155) rfl rfl
theorem u_121 : ((Jvm.Cond.fieldLink "ViewBroadcast" (166 : Nat) "ViewBroadcast$Miss" "tellers" "LViewBroadcast$NodeList;")) ∈ pU := pU_of (i := 156) rfl rfl
theorem u_129 : ((Jvm.Cond.fieldLink "ViewBroadcast$Node" (50 : Nat) "ViewBroadcast$Node" "number" "I")) ∈ pU := pU_of (i := 164) rfl rfl
theorem u_130 : ((Jvm.Cond.fieldLink "ViewBroadcast$Tales" (15 : Nat) "ViewBroadcast$Node" "number" "I")) ∈ pU := pU_of (i := 165) rfl rfl
theorem u_131 : ((Jvm.Cond.fieldLink "ViewBroadcast$Views" (34 : Nat) "ViewBroadcast$Node" "number" "I")) ∈ pU := pU_of (i := 166) rfl rfl
theorem u_132 : ((Jvm.Cond.fieldLink "ViewBroadcast$World" (133 : Nat) "ViewBroadcast$Node" "number" "I")) ∈ pU := pU_of (i := 167) rfl rfl
theorem u_133 : ((Jvm.Cond.fieldLink "ViewBroadcast$Node" (9 : Nat) "ViewBroadcast$Node" "live" "Z")) ∈ pU := pU_of (i := 168) rfl rfl
theorem u_134 : ((Jvm.Cond.fieldLink "ViewBroadcast" (92 : Nat) "ViewBroadcast$Node" "live" "Z")) ∈ pU := pU_of (i := 169) rfl rfl
theorem u_135 : ((Jvm.Cond.fieldLink "ViewBroadcast$World" (93 : Nat) "ViewBroadcast$Node" "live" "Z")) ∈ pU := pU_of (i := 170) rfl rfl
theorem u_136 : ((Jvm.Cond.fieldLink "ViewBroadcast$Tales" (109 : Nat) "ViewBroadcast$Node" "live" "Z")) ∈ pU := pU_of (i := 171) rfl rfl
theorem u_137 : ((Jvm.Cond.fieldLink "ViewBroadcast$Node" (20 : Nat) "ViewBroadcast$Node" "active" "LViewBroadcast$NodeList;")) ∈ pU := pU_of (i := 172) rfl rfl
theorem u_138 : ((Jvm.Cond.fieldLink "ViewBroadcast$Tales" (31 : Nat) "ViewBroadcast$Node" "active" "LViewBroadcast$NodeList;")) ∈ pU := pU_of (i := 173) rfl rfl
theorem u_139 : ((Jvm.Cond.fieldLink "ViewBroadcast$Views" (67 : Nat) "ViewBroadcast$Node" "active" "LViewBroadcast$NodeList;")) ∈ pU := pU_of (i := 174) rfl rfl
theorem u_140 : ((Jvm.Cond.fieldLink "ViewBroadcast$World" (143 : Nat) "ViewBroadcast$Node" "active" "LViewBroadcast$NodeList;")) ∈ pU := pU_of (i := 175) rfl rfl
theorem u_141 : ((Jvm.Cond.fieldLink "ViewBroadcast" (139 : Nat) "ViewBroadcast$Node" "active" "LViewBroadcast$NodeList;")) ∈ pU := pU_of (i := 176) rfl rfl
theorem u_142 : ((Jvm.Cond.fieldLink "ViewBroadcast$Node" (24 : Nat) "ViewBroadcast$Node" "passive" "LViewBroadcast$NodeList;")) ∈ pU := pU_of (i := 177) rfl rfl
theorem u_143 : ((Jvm.Cond.fieldLink "ViewBroadcast$Views" (78 : Nat) "ViewBroadcast$Node" "passive" "LViewBroadcast$NodeList;")) ∈ pU := pU_of (i := 178) rfl rfl
theorem u_144 : ((Jvm.Cond.fieldLink "ViewBroadcast" (142 : Nat) "ViewBroadcast$Node" "passive" "LViewBroadcast$NodeList;")) ∈ pU := pU_of (i := 179) rfl rfl
theorem u_145 : ((Jvm.Cond.fieldLink "ViewBroadcast$Node" (27 : Nat) "ViewBroadcast$Node" "lazy" "I")) ∈ pU := pU_of (i := 180) rfl rfl
theorem u_146 : ((Jvm.Cond.fieldLink "ViewBroadcast$Node" (31 : Nat) "ViewBroadcast$Node" "asks" "I")) ∈ pU := pU_of (i := 181) rfl rfl
theorem u_147 : ((Jvm.Cond.fieldLink "ViewBroadcast$Views" (95 : Nat) "ViewBroadcast$Node" "asks" "I")) ∈ pU := pU_of (i := 182) rfl rfl
theorem u_148 : ((Jvm.Cond.fieldLink "ViewBroadcast$World" (149 : Nat) "ViewBroadcast$Node" "asks" "I")) ∈ pU := pU_of (i := 183) rfl rfl
theorem u_149 : ((Jvm.Cond.fieldLink "ViewBroadcast" (171 : Nat) "ViewBroadcast$Node" "asks" "I")) ∈ pU := pU_of (i := 184) rfl rfl
theorem u_150 : ((Jvm.Cond.fieldLink "ViewBroadcast$Node" (34 : Nat) "ViewBroadcast$Node" "asked" "I")) ∈ pU := pU_of (i := 185) rfl rfl
theorem u_151 : ((Jvm.Cond.fieldLink "ViewBroadcast$Views" (106 : Nat) "ViewBroadcast$Node" "asked" "I")) ∈ pU := pU_of (i := 186) rfl rfl
theorem u_152 : ((Jvm.Cond.fieldLink "ViewBroadcast" (174 : Nat) "ViewBroadcast$Node" "asked" "I")) ∈ pU := pU_of (i := 187) rfl rfl
theorem u_153 : ((Jvm.Cond.fieldLink "ViewBroadcast$Node" (37 : Nat) "ViewBroadcast$Node" "arrived" "I")) ∈ pU := pU_of (i := 188) rfl rfl
theorem u_154 : ((Jvm.Cond.fieldLink "ViewBroadcast$World" (130 : Nat) "ViewBroadcast$Node" "arrived" "I")) ∈ pU := pU_of (i := 189) rfl rfl
theorem u_155 : ((Jvm.Cond.fieldLink "ViewBroadcast" (183 : Nat) "ViewBroadcast$Node" "arrived" "I")) ∈ pU := pU_of (i := 190) rfl rfl
theorem u_156 : ((Jvm.Cond.fieldLink "ViewBroadcast$Node" (40 : Nat) "ViewBroadcast$Node" "hops" "[I")) ∈ pU := pU_of (i := 191) rfl rfl
theorem u_157 : ((Jvm.Cond.fieldLink "ViewBroadcast$Node" (46 : Nat) "ViewBroadcast$Node" "misses" "[LViewBroadcast$Miss;")) ∈ pU := pU_of (i := 192) rfl rfl
theorem u_179 : ((Jvm.Cond.classLink "ViewBroadcast$World" (31 : Nat) "ViewBroadcast$Row")) ∈ pU := pU_of (i := 214) rfl rfl
theorem u_180 : ((Jvm.Cond.instantiable "ViewBroadcast$Row" (4 : Nat))) ∈ pU := pU_of (i := 215) rfl rfl
theorem u_181 : ((Jvm.Cond.methodLink "ViewBroadcast$World" (33 : Nat) ({ cls := "ViewBroadcast$Row", name := "<init>", desc := "()V" } : Jvm.MethodName))) ∈ pU := pU_of (i := 216) rfl rfl
theorem u_182 : ((Jvm.Cond.instanceMethod ({ cls := "ViewBroadcast$Row", name := "<init>", desc := "()V" } : Jvm.MethodName))) ∈ pU := pU_of (i := 217) rfl rfl
theorem u_183 : ((Jvm.Cond.code ({ cls := "ViewBroadcast$Row", name := "<init>", desc := "()V" } : Jvm.MethodName) prog_7_method_1_code (2 : Nat) (Option.none : Option Jvm.ClassFile.FieldType))) ∈ pU := pU_of (i := 218) rfl rfl
theorem u_184 : ((Jvm.Cond.methodLink "ViewBroadcast$Row" (3 : Nat) ({ cls := "java/lang/Object", name := "<init>", desc := "()V" } : Jvm.MethodName))) ∈ pU := pU_of (i := 219) rfl rfl
theorem u_185 : ((Jvm.Cond.classLink "ViewBroadcast$Row" (9 : Nat) "ViewBroadcast$Letter")) ∈ pU := pU_of (i := 220) rfl rfl
theorem u_187 : ((Jvm.Cond.instantiable "ViewBroadcast$Letter" (6 : Nat))) ∈ pU := pU_of (i := 222) rfl rfl
theorem u_189 : ((Jvm.Cond.instanceMethod ({ cls := "ViewBroadcast$Letter", name := "<init>", desc := "()V" } : Jvm.MethodName))) ∈ pU := pU_of (i := 224) rfl rfl
theorem u_190 : ((Jvm.Cond.code ({ cls := "ViewBroadcast$Letter", name := "<init>", desc := "()V" } : Jvm.MethodName) prog_3_method_1_code (1 : Nat) (Option.none : Option Jvm.ClassFile.FieldType))) ∈ pU := pU_of (i := 225) rfl rfl
theorem u_191 : ((Jvm.Cond.methodLink "ViewBroadcast$Letter" (3 : Nat) ({ cls := "java/lang/Object", name := "<init>", desc := "()V" } : Jvm.MethodName))) ∈ pU := pU_of (i := 226) rfl rfl
theorem u_192 : ((Jvm.Cond.classLink "ViewBroadcast$Letter" (9 : Nat) "ViewBroadcast$NodeList")) ∈ pU := pU_of (i := 227) rfl rfl
theorem u_193 : ((Jvm.Cond.methodLink "ViewBroadcast$Letter" (11 : Nat) ({ cls := "ViewBroadcast$NodeList", name := "<init>", desc := "(I)V" } : Jvm.MethodName))) ∈ pU := pU_of (i := 228) rfl rfl
theorem u_194 : ((Jvm.Cond.fieldLink "ViewBroadcast$Letter" (20 : Nat) "ViewBroadcast$Letter" "sender" "I")) ∈ pU := pU_of (i := 229) rfl rfl
theorem u_195 : ((Jvm.Cond.fieldLink "ViewBroadcast$Row" (43 : Nat) "ViewBroadcast$Letter" "sender" "I")) ∈ pU := pU_of (i := 230) rfl rfl
theorem u_196 : ((Jvm.Cond.fieldLink "ViewBroadcast$Views" (134 : Nat) "ViewBroadcast$Letter" "sender" "I")) ∈ pU := pU_of (i := 231) rfl rfl
theorem u_197 : ((Jvm.Cond.fieldLink "ViewBroadcast" (189 : Nat) "ViewBroadcast$Letter" "sender" "I")) ∈ pU := pU_of (i := 232) rfl rfl
theorem u_198 : ((Jvm.Cond.fieldLink "ViewBroadcast$Letter" (24 : Nat) "ViewBroadcast$Letter" "receiver" "I")) ∈ pU := pU_of (i := 233) rfl rfl
theorem u_199 : ((Jvm.Cond.fieldLink "ViewBroadcast$Row" (40 : Nat) "ViewBroadcast$Letter" "receiver" "I")) ∈ pU := pU_of (i := 234) rfl rfl
theorem u_200 : ((Jvm.Cond.fieldLink "ViewBroadcast$World" (127 : Nat) "ViewBroadcast$Letter" "receiver" "I")) ∈ pU := pU_of (i := 235) rfl rfl
theorem u_201 : ((Jvm.Cond.fieldLink "ViewBroadcast" (194 : Nat) "ViewBroadcast$Letter" "receiver" "I")) ∈ pU := pU_of (i := 236) rfl rfl
theorem u_202 : ((Jvm.Cond.fieldLink "ViewBroadcast$Letter" (27 : Nat) "ViewBroadcast$Letter" "kind" "I")) ∈ pU := pU_of (i := 237) rfl rfl
theorem u_203 : ((Jvm.Cond.fieldLink "ViewBroadcast$World" (105 : Nat) "ViewBroadcast$Letter" "kind" "I")) ∈ pU := pU_of (i := 238) rfl rfl
theorem u_204 : ((Jvm.Cond.fieldLink "ViewBroadcast" (197 : Nat) "ViewBroadcast$Letter" "kind" "I")) ∈ pU := pU_of (i := 239) rfl rfl
theorem u_205 : ((Jvm.Cond.fieldLink "ViewBroadcast$Letter" (30 : Nat) "ViewBroadcast$Letter" "x" "I")) ∈ pU := pU_of (i := 240) rfl rfl
theorem u_206 : ((Jvm.Cond.fieldLink "ViewBroadcast$Views" (137 : Nat) "ViewBroadcast$Letter" "x" "I")) ∈ pU := pU_of (i := 241) rfl rfl
theorem u_207 : ((Jvm.Cond.fieldLink "ViewBroadcast" (200 : Nat) "ViewBroadcast$Letter" "x" "I")) ∈ pU := pU_of (i := 242) rfl rfl
theorem u_208 : ((Jvm.Cond.fieldLink "ViewBroadcast$Letter" (33 : Nat) "ViewBroadcast$Letter" "y" "I")) ∈ pU := pU_of (i := 243) rfl rfl
theorem u_209 : ((Jvm.Cond.fieldLink "ViewBroadcast$Views" (129 : Nat) "ViewBroadcast$Letter" "y" "I")) ∈ pU := pU_of (i := 244) rfl rfl
theorem u_210 : ((Jvm.Cond.fieldLink "ViewBroadcast" (203 : Nat) "ViewBroadcast$Letter" "y" "I")) ∈ pU := pU_of (i := 245) rfl rfl
theorem u_211 : ((Jvm.Cond.fieldLink "ViewBroadcast$Letter" (14 : Nat) "ViewBroadcast$Letter" "list" "LViewBroadcast$NodeList;")) ∈ pU := pU_of (i := 246) rfl rfl
theorem u_212 : ((Jvm.Cond.fieldLink "ViewBroadcast$World" (108 : Nat) "ViewBroadcast$Letter" "list" "LViewBroadcast$NodeList;")) ∈ pU := pU_of (i := 247) rfl rfl
theorem u_213 : ((Jvm.Cond.fieldLink "ViewBroadcast$Views" (140 : Nat) "ViewBroadcast$Letter" "list" "LViewBroadcast$NodeList;")) ∈ pU := pU_of (i := 248) rfl rfl
theorem u_214 : ((Jvm.Cond.fieldLink "ViewBroadcast" (206 : Nat) "ViewBroadcast$Letter" "list" "LViewBroadcast$NodeList;")) ∈ pU := pU_of (i := 249) rfl rfl
theorem u_228 : ((Jvm.Cond.fieldLink "ViewBroadcast$Row" (11 : Nat) "ViewBroadcast$Row" "ring" "[LViewBroadcast$Letter;")) ∈ pU := pU_of (i := 263) rfl rfl
theorem u_229 : ((Jvm.Cond.fieldLink "ViewBroadcast$Row" (17 : Nat) "ViewBroadcast$Row" "first" "I")) ∈ pU := pU_of (i := 264) rfl rfl
theorem u_230 : ((Jvm.Cond.fieldLink "ViewBroadcast$Row" (21 : Nat) "ViewBroadcast$Row" "count" "I")) ∈ pU := pU_of (i := 265) rfl rfl
theorem u_231 : ((Jvm.Cond.fieldLink "ViewBroadcast" (106 : Nat) "ViewBroadcast$Row" "count" "I")) ∈ pU := pU_of (i := 266) rfl rfl
theorem u_232 : ((Jvm.Cond.fieldLink "ViewBroadcast$World" (152 : Nat) "ViewBroadcast$Row" "count" "I")) ∈ pU := pU_of (i := 267) rfl rfl
theorem u_233 : ((Jvm.Cond.fieldLink "ViewBroadcast$Row" (24 : Nat) "ViewBroadcast$Row" "spilt" "I")) ∈ pU := pU_of (i := 268) rfl rfl
theorem u_234 : ((Jvm.Cond.fieldLink "ViewBroadcast" (226 : Nat) "ViewBroadcast$Row" "spilt" "I")) ∈ pU := pU_of (i := 269) rfl rfl
theorem u_244 : ((Jvm.Cond.classLink "ViewBroadcast$World" (38 : Nat) "ViewBroadcast$Letter")) ∈ pU := pU_of (i := 279) rfl rfl
theorem u_246 : ((Jvm.Cond.fieldLink "ViewBroadcast$World" (62 : Nat) "ViewBroadcast$World" "coins" "LViewBroadcast$Coins;")) ∈ pU := pU_of (i := 281) rfl rfl
theorem u_247 : ((Jvm.Cond.fieldLink "ViewBroadcast$World" (12 : Nat) "ViewBroadcast$World" "sizes" "LViewBroadcast$Sizes;")) ∈ pU := pU_of (i := 282) rfl rfl
theorem u_248 : ((Jvm.Cond.fieldLink "ViewBroadcast$Views" (27 : Nat) "ViewBroadcast$World" "sizes" "LViewBroadcast$Sizes;")) ∈ pU := pU_of (i := 283) rfl rfl
theorem u_249 : ((Jvm.Cond.fieldLink "ViewBroadcast" (53 : Nat) "ViewBroadcast$World" "sizes" "LViewBroadcast$Sizes;")) ∈ pU := pU_of (i := 284) rfl rfl
theorem u_250 : ((Jvm.Cond.fieldLink "ViewBroadcast$Tales" (81 : Nat) "ViewBroadcast$World" "sizes" "LViewBroadcast$Sizes;")) ∈ pU := pU_of (i := 285) rfl rfl
theorem u_251 : ((Jvm.Cond.fieldLink "ViewBroadcast$World" (20 : Nat) "ViewBroadcast$World" "nodes" "[LViewBroadcast$Node;")) ∈ pU := pU_of (i := 286) rfl rfl
theorem u_252 : ((Jvm.Cond.fieldLink "ViewBroadcast$World" (27 : Nat) "ViewBroadcast$World" "nobody" "LViewBroadcast$Node;")) ∈ pU := pU_of (i := 287) rfl rfl
theorem u_253 : ((Jvm.Cond.fieldLink "ViewBroadcast$World" (34 : Nat) "ViewBroadcast$World" "row" "LViewBroadcast$Row;")) ∈ pU := pU_of (i := 288) rfl rfl
theorem u_254 : ((Jvm.Cond.fieldLink "ViewBroadcast" (102 : Nat) "ViewBroadcast$World" "row" "LViewBroadcast$Row;")) ∈ pU := pU_of (i := 289) rfl rfl
theorem u_255 : ((Jvm.Cond.fieldLink "ViewBroadcast$World" (41 : Nat) "ViewBroadcast$World" "coming" "LViewBroadcast$Letter;")) ∈ pU := pU_of (i := 290) rfl rfl
theorem u_256 : ((Jvm.Cond.fieldLink "ViewBroadcast$World" (45 : Nat) "ViewBroadcast$World" "arrivals" "[I")) ∈ pU := pU_of (i := 291) rfl rfl
theorem u_257 : ((Jvm.Cond.fieldLink "ViewBroadcast" (216 : Nat) "ViewBroadcast$World" "arrivals" "[I")) ∈ pU := pU_of (i := 292) rfl rfl
theorem u_258 : ((Jvm.Cond.fieldLink "ViewBroadcast$World" (49 : Nat) "ViewBroadcast$World" "nodeCount" "I")) ∈ pU := pU_of (i := 293) rfl rfl
theorem u_259 : ((Jvm.Cond.fieldLink "ViewBroadcast" (49 : Nat) "ViewBroadcast$World" "nodeCount" "I")) ∈ pU := pU_of (i := 294) rfl rfl
theorem u_260 : ((Jvm.Cond.fieldLink "ViewBroadcast$Tales" (102 : Nat) "ViewBroadcast$World" "nodeCount" "I")) ∈ pU := pU_of (i := 295) rfl rfl
theorem u_261 : ((Jvm.Cond.fieldLink "ViewBroadcast$World" (53 : Nat) "ViewBroadcast$World" "taleCount" "I")) ∈ pU := pU_of (i := 296) rfl rfl
theorem u_262 : ((Jvm.Cond.fieldLink "ViewBroadcast$Tales" (116 : Nat) "ViewBroadcast$World" "taleCount" "I")) ∈ pU := pU_of (i := 297) rfl rfl
theorem u_263 : ((Jvm.Cond.fieldLink "ViewBroadcast" (120 : Nat) "ViewBroadcast$World" "taleCount" "I")) ∈ pU := pU_of (i := 298) rfl rfl
theorem u_264 : ((Jvm.Cond.fieldLink "ViewBroadcast$World" (56 : Nat) "ViewBroadcast$World" "time" "I")) ∈ pU := pU_of (i := 299) rfl rfl
theorem u_265 : ((Jvm.Cond.fieldLink "ViewBroadcast$Tales" (78 : Nat) "ViewBroadcast$World" "time" "I")) ∈ pU := pU_of (i := 300) rfl rfl
theorem u_266 : ((Jvm.Cond.fieldLink "ViewBroadcast" (229 : Nat) "ViewBroadcast$World" "time" "I")) ∈ pU := pU_of (i := 301) rfl rfl
theorem u_267 : ((Jvm.Cond.fieldLink "ViewBroadcast$World" (59 : Nat) "ViewBroadcast$World" "nextCoin" "I")) ∈ pU := pU_of (i := 302) rfl rfl
theorem u_268 : ((Jvm.Cond.fieldLink "ViewBroadcast" (232 : Nat) "ViewBroadcast$World" "nextCoin" "I")) ∈ pU := pU_of (i := 303) rfl rfl
theorem u_292 : ((Jvm.Cond.classLink "ViewBroadcast" (25 : Nat) "ViewBroadcast$Views")) ∈ pU := pU_of (i := 327) rfl rfl
theorem u_293 : ((Jvm.Cond.instantiable "ViewBroadcast$Views" (4 : Nat))) ∈ pU := pU_of (i := 328) rfl rfl
theorem u_294 : ((Jvm.Cond.methodLink "ViewBroadcast" (27 : Nat) ({ cls := "ViewBroadcast$Views", name := "<init>", desc := "(LViewBroadcast$World;)V" } : Jvm.MethodName))) ∈ pU := pU_of (i := 329) rfl rfl
theorem u_295 : ((Jvm.Cond.instanceMethod ({ cls := "ViewBroadcast$Views", name := "<init>", desc := "(LViewBroadcast$World;)V" } : Jvm.MethodName))) ∈ pU := pU_of (i := 330) rfl rfl
theorem u_296 : ((Jvm.Cond.code ({ cls := "ViewBroadcast$Views", name := "<init>", desc := "(LViewBroadcast$World;)V" } : Jvm.MethodName) prog_10_method_1_code (2 : Nat) (Option.none : Option Jvm.ClassFile.FieldType))) ∈ pU := pU_of (i := 331) rfl rfl
theorem u_297 : ((Jvm.Cond.methodLink "ViewBroadcast$Views" (3 : Nat) ({ cls := "java/lang/Object", name := "<init>", desc := "()V" } : Jvm.MethodName))) ∈ pU := pU_of (i := 332) rfl rfl
theorem u_298 : ((Jvm.Cond.classLink "ViewBroadcast$Views" (9 : Nat) "ViewBroadcast$NodeList")) ∈ pU := pU_of (i := 333) rfl rfl
theorem u_299 : ((Jvm.Cond.methodLink "ViewBroadcast$Views" (11 : Nat) ({ cls := "ViewBroadcast$NodeList", name := "<init>", desc := "(I)V" } : Jvm.MethodName))) ∈ pU := pU_of (i := 334) rfl rfl
theorem u_300 : ((Jvm.Cond.fieldLink "ViewBroadcast$Views" (23 : Nat) "ViewBroadcast$Views" "world" "LViewBroadcast$World;")) ∈ pU := pU_of (i := 335) rfl rfl
theorem u_301 : ((Jvm.Cond.fieldLink "ViewBroadcast$Views" (33 : Nat) "ViewBroadcast$Views" "sizes" "LViewBroadcast$Sizes;")) ∈ pU := pU_of (i := 336) rfl rfl
theorem u_302 : ((Jvm.Cond.fieldLink "ViewBroadcast$Views" (14 : Nat) "ViewBroadcast$Views" "pool" "LViewBroadcast$NodeList;")) ∈ pU := pU_of (i := 337) rfl rfl
theorem u_303 : ((Jvm.Cond.fieldLink "ViewBroadcast$Views" (20 : Nat) "ViewBroadcast$Views" "listed" "LViewBroadcast$NodeList;")) ∈ pU := pU_of (i := 338) rfl rfl
theorem u_313 : ((Jvm.Cond.classLink "ViewBroadcast" (34 : Nat) "ViewBroadcast$Tales")) ∈ pU := pU_of (i := 348) rfl rfl
theorem u_314 : ((Jvm.Cond.instantiable "ViewBroadcast$Tales" (1 : Nat))) ∈ pU := pU_of (i := 349) rfl rfl
theorem u_315 : ((Jvm.Cond.methodLink "ViewBroadcast" (36 : Nat) ({ cls := "ViewBroadcast$Tales", name := "<init>", desc := "(LViewBroadcast$World;)V" } : Jvm.MethodName))) ∈ pU := pU_of (i := 350) rfl rfl
theorem u_316 : ((Jvm.Cond.instanceMethod ({ cls := "ViewBroadcast$Tales", name := "<init>", desc := "(LViewBroadcast$World;)V" } : Jvm.MethodName))) ∈ pU := pU_of (i := 351) rfl rfl
theorem u_317 : ((Jvm.Cond.code ({ cls := "ViewBroadcast$Tales", name := "<init>", desc := "(LViewBroadcast$World;)V" } : Jvm.MethodName) prog_9_method_1_code (2 : Nat) (Option.none : Option Jvm.ClassFile.FieldType))) ∈ pU := pU_of (i := 352) rfl rfl
theorem u_318 : ((Jvm.Cond.methodLink "ViewBroadcast$Tales" (3 : Nat) ({ cls := "java/lang/Object", name := "<init>", desc := "()V" } : Jvm.MethodName))) ∈ pU := pU_of (i := 353) rfl rfl
theorem u_319 : ((Jvm.Cond.fieldLink "ViewBroadcast$Tales" (9 : Nat) "ViewBroadcast$Tales" "world" "LViewBroadcast$World;")) ∈ pU := pU_of (i := 354) rfl rfl
theorem u_324 : ((Jvm.Cond.fieldLink "ViewBroadcast" (10 : Nat) "ViewBroadcast" "coins" "LViewBroadcast$Coins;")) ∈ pU := pU_of (i := 359) rfl rfl
theorem u_325 : ((Jvm.Cond.fieldLink "ViewBroadcast" (21 : Nat) "ViewBroadcast" "world" "LViewBroadcast$World;")) ∈ pU := pU_of (i := 360) rfl rfl
theorem u_326 : ((Jvm.Cond.fieldLink "ViewBroadcast" (30 : Nat) "ViewBroadcast" "views" "LViewBroadcast$Views;")) ∈ pU := pU_of (i := 361) rfl rfl
theorem u_327 : ((Jvm.Cond.fieldLink "ViewBroadcast" (37 : Nat) "ViewBroadcast" "tales" "LViewBroadcast$Tales;")) ∈ pU := pU_of (i := 362) rfl rfl
theorem u_328 : ((Jvm.Cond.fieldLink "ViewBroadcast" (41 : Nat) "ViewBroadcast" "kept" "[LViewBroadcast$World;")) ∈ pU := pU_of (i := 363) rfl rfl
theorem u_329 : ((Jvm.Cond.fieldLink "ViewBroadcast" (45 : Nat) "ViewBroadcast" "isKept" "[Z")) ∈ pU := pU_of (i := 364) rfl rfl
theorem u_343 : ((Jvm.Cond.arrayClass Jvm.ClassFile.FieldType.boolean)) ∈ pU := pU_of (i := 378) rfl rfl
theorem u_344 : ((Jvm.Cond.methodLink "ViewBroadcastLaw" (13 : Nat) ({ cls := "ViewBroadcast", name := "sizes", desc := "(II)I" } : Jvm.MethodName))) ∈ pU := pU_of (i := 379) rfl rfl
theorem u_345 : ((Jvm.Cond.instanceMethod ({ cls := "ViewBroadcast", name := "sizes", desc := "(II)I" } : Jvm.MethodName))) ∈ pU := pU_of (i := 380) rfl rfl
theorem u_346 : ((Jvm.Cond.selects "ViewBroadcast" ({ cls := "ViewBroadcast", name := "sizes", desc := "(II)I" } : Jvm.MethodName) ({ cls := "ViewBroadcast", name := "sizes", desc := "(II)I" } : Jvm.MethodName))) ∈ pU := pU_of (i := 381) rfl rfl
theorem u_347 : ((Jvm.Cond.code ({ cls := "ViewBroadcast", name := "sizes", desc := "(II)I" } : Jvm.MethodName) prog_1_method_2_code (3 : Nat) (Option.some Jvm.ClassFile.FieldType.int))) ∈ pU := pU_of (i := 382) rfl rfl
theorem u_348 : ((Jvm.Cond.methodLink "ViewBroadcastLaw" (18 : Nat) ({ cls := "ViewBroadcast", name := "walks", desc := "(III)I" } : Jvm.MethodName))) ∈ pU := pU_of (i := 383) rfl rfl
theorem u_349 : ((Jvm.Cond.instanceMethod ({ cls := "ViewBroadcast", name := "walks", desc := "(III)I" } : Jvm.MethodName))) ∈ pU := pU_of (i := 384) rfl rfl
theorem u_350 : ((Jvm.Cond.selects "ViewBroadcast" ({ cls := "ViewBroadcast", name := "walks", desc := "(III)I" } : Jvm.MethodName) ({ cls := "ViewBroadcast", name := "walks", desc := "(III)I" } : Jvm.MethodName))) ∈ pU := pU_of (i := 385) rfl rfl
theorem u_351 : ((Jvm.Cond.code ({ cls := "ViewBroadcast", name := "walks", desc := "(III)I" } : Jvm.MethodName) prog_1_method_3_code (4 : Nat) (Option.some Jvm.ClassFile.FieldType.int))) ∈ pU := pU_of (i := 386) rfl rfl
theorem u_352 : ((Jvm.Cond.methodLink "ViewBroadcastLaw" (23 : Nat) ({ cls := "ViewBroadcast", name := "coin", desc := "(I)I" } : Jvm.MethodName))) ∈ pU := pU_of (i := 387) rfl rfl
theorem u_353 : ((Jvm.Cond.instanceMethod ({ cls := "ViewBroadcast", name := "coin", desc := "(I)I" } : Jvm.MethodName))) ∈ pU := pU_of (i := 388) rfl rfl
theorem u_354 : ((Jvm.Cond.selects "ViewBroadcast" ({ cls := "ViewBroadcast", name := "coin", desc := "(I)I" } : Jvm.MethodName) ({ cls := "ViewBroadcast", name := "coin", desc := "(I)I" } : Jvm.MethodName))) ∈ pU := pU_of (i := 389) rfl rfl
theorem u_355 : ((Jvm.Cond.code ({ cls := "ViewBroadcast", name := "coin", desc := "(I)I" } : Jvm.MethodName) prog_1_method_4_code (2 : Nat) (Option.some Jvm.ClassFile.FieldType.int))) ∈ pU := pU_of (i := 390) rfl rfl
theorem u_356 : ((Jvm.Cond.methodLink "ViewBroadcast" (74 : Nat) ({ cls := "ViewBroadcast$Coins", name := "put", desc := "(I)Z" } : Jvm.MethodName))) ∈ pU := pU_of (i := 391) rfl rfl
theorem u_357 : ((Jvm.Cond.instanceMethod ({ cls := "ViewBroadcast$Coins", name := "put", desc := "(I)Z" } : Jvm.MethodName))) ∈ pU := pU_of (i := 392) rfl rfl
theorem u_358 : ((Jvm.Cond.selects "ViewBroadcast$Coins" ({ cls := "ViewBroadcast$Coins", name := "put", desc := "(I)Z" } : Jvm.MethodName) ({ cls := "ViewBroadcast$Coins", name := "put", desc := "(I)Z" } : Jvm.MethodName))) ∈ pU := pU_of (i := 393) rfl rfl
theorem u_359 : ((Jvm.Cond.code ({ cls := "ViewBroadcast$Coins", name := "put", desc := "(I)Z" } : Jvm.MethodName) prog_2_method_2_code (2 : Nat) (Option.some Jvm.ClassFile.FieldType.boolean))) ∈ pU := pU_of (i := 394) rfl rfl
theorem u_360 : ((Jvm.Cond.methodLink "ViewBroadcastLaw" (28 : Nat) ({ cls := "ViewBroadcast", name := "node", desc := "()I" } : Jvm.MethodName))) ∈ pU := pU_of (i := 395) rfl rfl
theorem u_361 : ((Jvm.Cond.instanceMethod ({ cls := "ViewBroadcast", name := "node", desc := "()I" } : Jvm.MethodName))) ∈ pU := pU_of (i := 396) rfl rfl
theorem u_362 : ((Jvm.Cond.selects "ViewBroadcast" ({ cls := "ViewBroadcast", name := "node", desc := "()I" } : Jvm.MethodName) ({ cls := "ViewBroadcast", name := "node", desc := "()I" } : Jvm.MethodName))) ∈ pU := pU_of (i := 397) rfl rfl
theorem u_363 : ((Jvm.Cond.code ({ cls := "ViewBroadcast", name := "node", desc := "()I" } : Jvm.MethodName) prog_1_method_5_code (1 : Nat) (Option.some Jvm.ClassFile.FieldType.int))) ∈ pU := pU_of (i := 398) rfl rfl
theorem u_364 : ((Jvm.Cond.methodLink "ViewBroadcast" (81 : Nat) ({ cls := "ViewBroadcast$World", name := "openNode", desc := "()I" } : Jvm.MethodName))) ∈ pU := pU_of (i := 399) rfl rfl
theorem u_365 : ((Jvm.Cond.instanceMethod ({ cls := "ViewBroadcast$World", name := "openNode", desc := "()I" } : Jvm.MethodName))) ∈ pU := pU_of (i := 400) rfl rfl
set_option maxRecDepth 20000 in
theorem u_366 : ((Jvm.Cond.selects "ViewBroadcast$World" ({ cls := "ViewBroadcast$World", name := "openNode", desc := "()I" } : Jvm.MethodName) ({ cls := "ViewBroadcast$World", name := "openNode", desc := "()I" } : Jvm.MethodName))) ∈ pU := pU_of (i := 401) rfl rfl
set_option maxRecDepth 20000 in
theorem u_367 : ((Jvm.Cond.code ({ cls := "ViewBroadcast$World", name := "openNode", desc := "()I" } : Jvm.MethodName) prog_11_method_5_code (1 : Nat) (Option.some Jvm.ClassFile.FieldType.int))) ∈ pU := pU_of (i := 402) rfl rfl
set_option maxRecDepth 20000 in
theorem u_368 : ((Jvm.Cond.methodLink "ViewBroadcast$World" (70 : Nat) ({ cls := "ViewBroadcast$Node", name := "begin", desc := "()V" } : Jvm.MethodName))) ∈ pU := pU_of (i := 403) rfl rfl
set_option maxRecDepth 20000 in
theorem u_369 : ((Jvm.Cond.instanceMethod ({ cls := "ViewBroadcast$Node", name := "begin", desc := "()V" } : Jvm.MethodName))) ∈ pU := pU_of (i := 404) rfl rfl
set_option maxRecDepth 20000 in
theorem u_370 : ((Jvm.Cond.selects "ViewBroadcast$Node" ({ cls := "ViewBroadcast$Node", name := "begin", desc := "()V" } : Jvm.MethodName) ({ cls := "ViewBroadcast$Node", name := "begin", desc := "()V" } : Jvm.MethodName))) ∈ pU := pU_of (i := 405) rfl rfl
set_option maxRecDepth 20000 in
theorem u_371 : ((Jvm.Cond.code ({ cls := "ViewBroadcast$Node", name := "begin", desc := "()V" } : Jvm.MethodName) prog_5_method_2_code (2 : Nat) (Option.none : Option Jvm.ClassFile.FieldType))) ∈ pU := pU_of (i := 406) rfl rfl
set_option maxRecDepth 20000 in
theorem u_372 : ((Jvm.Cond.methodLink "ViewBroadcast$Node" (54 : Nat) ({ cls := "ViewBroadcast$NodeList", name := "clear", desc := "()V" } : Jvm.MethodName))) ∈ pU := pU_of (i := 407) rfl rfl
set_option maxRecDepth 20000 in
theorem u_373 : ((Jvm.Cond.instanceMethod ({ cls := "ViewBroadcast$NodeList", name := "clear", desc := "()V" } : Jvm.MethodName))) ∈ pU := pU_of (i := 408) rfl rfl
set_option maxRecDepth 20000 in
theorem u_374 : ((Jvm.Cond.selects "ViewBroadcast$NodeList" ({ cls := "ViewBroadcast$NodeList", name := "clear", desc := "()V" } : Jvm.MethodName) ({ cls := "ViewBroadcast$NodeList", name := "clear", desc := "()V" } : Jvm.MethodName))) ∈ pU := pU_of (i := 409) rfl rfl
set_option maxRecDepth 20000 in
theorem u_375 : ((Jvm.Cond.code ({ cls := "ViewBroadcast$NodeList", name := "clear", desc := "()V" } : Jvm.MethodName) prog_6_method_8_code (1 : Nat) (Option.none : Option Jvm.ClassFile.FieldType))) ∈ pU := pU_of (i := 410) rfl rfl
set_option maxRecDepth 20000 in
theorem u_376 : ((Jvm.Cond.methodLink "ViewBroadcast$Node" (57 : Nat) ({ cls := "ViewBroadcast$Miss", name := "end", desc := "()V" } : Jvm.MethodName))) ∈ pU := pU_of (i := 411) rfl rfl
set_option maxRecDepth 20000 in
theorem u_377 : ((Jvm.Cond.instanceMethod ({ cls := "ViewBroadcast$Miss", name := "end", desc := "()V" } : Jvm.MethodName))) ∈ pU := pU_of (i := 412) rfl rfl
set_option maxRecDepth 20000 in
theorem u_378 : ((Jvm.Cond.selects "ViewBroadcast$Miss" ({ cls := "ViewBroadcast$Miss", name := "end", desc := "()V" } : Jvm.MethodName) ({ cls := "ViewBroadcast$Miss", name := "end", desc := "()V" } : Jvm.MethodName))) ∈ pU := pU_of (i := 413) rfl rfl
set_option maxRecDepth 20000 in
theorem u_379 : ((Jvm.Cond.code ({ cls := "ViewBroadcast$Miss", name := "end", desc := "()V" } : Jvm.MethodName) prog_4_method_2_code (1 : Nat) (Option.none : Option Jvm.ClassFile.FieldType))) ∈ pU := pU_of (i := 414) rfl rfl
set_option maxRecDepth 20000 in
theorem u_380 : ((Jvm.Cond.methodLink "ViewBroadcast$Miss" (28 : Nat) ({ cls := "ViewBroadcast$NodeList", name := "clear", desc := "()V" } : Jvm.MethodName))) ∈ pU := pU_of (i := 415) rfl rfl
set_option maxRecDepth 20000 in
theorem u_381 : ((Jvm.Cond.methodLink "ViewBroadcastLaw" (33 : Nat) ({ cls := "ViewBroadcast", name := "join", desc := "(II)I" } : Jvm.MethodName))) ∈ pU := pU_of (i := 416) rfl rfl
set_option maxRecDepth 20000 in
theorem u_382 : ((Jvm.Cond.instanceMethod ({ cls := "ViewBroadcast", name := "join", desc := "(II)I" } : Jvm.MethodName))) ∈ pU := pU_of (i := 417) rfl rfl
set_option maxRecDepth 20000 in
theorem u_383 : ((Jvm.Cond.selects "ViewBroadcast" ({ cls := "ViewBroadcast", name := "join", desc := "(II)I" } : Jvm.MethodName) ({ cls := "ViewBroadcast", name := "join", desc := "(II)I" } : Jvm.MethodName))) ∈ pU := pU_of (i := 418) rfl rfl
set_option maxRecDepth 20000 in
theorem u_384 : ((Jvm.Cond.code ({ cls := "ViewBroadcast", name := "join", desc := "(II)I" } : Jvm.MethodName) prog_1_method_6_code (3 : Nat) (Option.some Jvm.ClassFile.FieldType.int))) ∈ pU := pU_of (i := 419) rfl rfl
set_option maxRecDepth 20000 in
theorem u_385 : ((Jvm.Cond.methodLink "ViewBroadcast" (85 : Nat) ({ cls := "ViewBroadcast$World", name := "isNode", desc := "(I)Z" } : Jvm.MethodName))) ∈ pU := pU_of (i := 420) rfl rfl
set_option maxRecDepth 20000 in
theorem u_386 : ((Jvm.Cond.instanceMethod ({ cls := "ViewBroadcast$World", name := "isNode", desc := "(I)Z" } : Jvm.MethodName))) ∈ pU := pU_of (i := 421) rfl rfl
set_option maxRecDepth 20000 in
theorem u_387 : ((Jvm.Cond.selects "ViewBroadcast$World" ({ cls := "ViewBroadcast$World", name := "isNode", desc := "(I)Z" } : Jvm.MethodName) ({ cls := "ViewBroadcast$World", name := "isNode", desc := "(I)Z" } : Jvm.MethodName))) ∈ pU := pU_of (i := 422) rfl rfl
set_option maxRecDepth 20000 in
theorem u_388 : ((Jvm.Cond.code ({ cls := "ViewBroadcast$World", name := "isNode", desc := "(I)Z" } : Jvm.MethodName) prog_11_method_2_code (2 : Nat) (Option.some Jvm.ClassFile.FieldType.boolean))) ∈ pU := pU_of (i := 423) rfl rfl
set_option maxRecDepth 20000 in
theorem u_389 : ((Jvm.Cond.methodLink "ViewBroadcast" (88 : Nat) ({ cls := "ViewBroadcast$World", name := "nodeAt", desc := "(I)LViewBroadcast$Node;" } : Jvm.MethodName))) ∈ pU := pU_of (i := 424) rfl rfl
set_option maxRecDepth 20000 in
theorem u_390 : ((Jvm.Cond.instanceMethod ({ cls := "ViewBroadcast$World", name := "nodeAt", desc := "(I)LViewBroadcast$Node;" } : Jvm.MethodName))) ∈ pU := pU_of (i := 425) rfl rfl
set_option maxRecDepth 20000 in
theorem u_391 : ((Jvm.Cond.selects "ViewBroadcast$World" ({ cls := "ViewBroadcast$World", name := "nodeAt", desc := "(I)LViewBroadcast$Node;" } : Jvm.MethodName) ({ cls := "ViewBroadcast$World", name := "nodeAt", desc := "(I)LViewBroadcast$Node;" } : Jvm.MethodName))) ∈ pU := pU_of (i := 426) rfl rfl
set_option maxRecDepth 20000 in
theorem u_392 : ((Jvm.Cond.code ({ cls := "ViewBroadcast$World", name := "nodeAt", desc := "(I)LViewBroadcast$Node;" } : Jvm.MethodName) prog_11_method_4_code (2 : Nat) (Option.some (Jvm.ClassFile.FieldType.object "ViewBroadcast$Node")))) ∈ pU := pU_of (i := 427) rfl rfl
set_option maxRecDepth 20000 in
theorem u_393 : ((Jvm.Cond.methodLink "ViewBroadcast$World" (66 : Nat) ({ cls := "ViewBroadcast$World", name := "isNode", desc := "(I)Z" } : Jvm.MethodName))) ∈ pU := pU_of (i := 428) rfl rfl
set_option maxRecDepth 20000 in
theorem u_394 : ((Jvm.Cond.methodLink "ViewBroadcast" (98 : Nat) ({ cls := "ViewBroadcast$World", name := "send", desc := "(IIIII)LViewBroadcast$Letter;" } : Jvm.MethodName))) ∈ pU := pU_of (i := 429) rfl rfl
set_option maxRecDepth 20000 in
theorem u_395 : ((Jvm.Cond.instanceMethod ({ cls := "ViewBroadcast$World", name := "send", desc := "(IIIII)LViewBroadcast$Letter;" } : Jvm.MethodName))) ∈ pU := pU_of (i := 430) rfl rfl
set_option maxRecDepth 20000 in
theorem u_396 : ((Jvm.Cond.selects "ViewBroadcast$World" ({ cls := "ViewBroadcast$World", name := "send", desc := "(IIIII)LViewBroadcast$Letter;" } : Jvm.MethodName) ({ cls := "ViewBroadcast$World", name := "send", desc := "(IIIII)LViewBroadcast$Letter;" } : Jvm.MethodName))) ∈ pU := pU_of (i := 431) rfl rfl
set_option maxRecDepth 20000 in
theorem u_397 : ((Jvm.Cond.code ({ cls := "ViewBroadcast$World", name := "send", desc := "(IIIII)LViewBroadcast$Letter;" } : Jvm.MethodName) prog_11_method_7_code (7 : Nat) (Option.some (Jvm.ClassFile.FieldType.object "ViewBroadcast$Letter")))) ∈ pU := pU_of (i := 432) rfl rfl
set_option maxRecDepth 20000 in
theorem u_398 : ((Jvm.Cond.methodLink "ViewBroadcast$World" (85 : Nat) ({ cls := "ViewBroadcast$Row", name := "open", desc := "()LViewBroadcast$Letter;" } : Jvm.MethodName))) ∈ pU := pU_of (i := 433) rfl rfl
set_option maxRecDepth 20000 in
theorem u_399 : ((Jvm.Cond.instanceMethod ({ cls := "ViewBroadcast$Row", name := "open", desc := "()LViewBroadcast$Letter;" } : Jvm.MethodName))) ∈ pU := pU_of (i := 434) rfl rfl
set_option maxRecDepth 20000 in
theorem u_400 : ((Jvm.Cond.selects "ViewBroadcast$Row" ({ cls := "ViewBroadcast$Row", name := "open", desc := "()LViewBroadcast$Letter;" } : Jvm.MethodName) ({ cls := "ViewBroadcast$Row", name := "open", desc := "()LViewBroadcast$Letter;" } : Jvm.MethodName))) ∈ pU := pU_of (i := 435) rfl rfl
set_option maxRecDepth 20000 in
theorem u_401 : ((Jvm.Cond.code ({ cls := "ViewBroadcast$Row", name := "open", desc := "()LViewBroadcast$Letter;" } : Jvm.MethodName) prog_7_method_5_code (1 : Nat) (Option.some (Jvm.ClassFile.FieldType.object "ViewBroadcast$Letter")))) ∈ pU := pU_of (i := 436) rfl rfl
set_option maxRecDepth 20000 in
theorem u_402 : ((Jvm.Cond.methodLink "ViewBroadcast$Row" (28 : Nat) ({ cls := "ViewBroadcast$Row", name := "place", desc := "(I)I" } : Jvm.MethodName))) ∈ pU := pU_of (i := 437) rfl rfl
set_option maxRecDepth 20000 in
theorem u_403 : ((Jvm.Cond.instanceMethod ({ cls := "ViewBroadcast$Row", name := "place", desc := "(I)I" } : Jvm.MethodName))) ∈ pU := pU_of (i := 438) rfl rfl
set_option maxRecDepth 20000 in
theorem u_404 : ((Jvm.Cond.selects "ViewBroadcast$Row" ({ cls := "ViewBroadcast$Row", name := "place", desc := "(I)I" } : Jvm.MethodName) ({ cls := "ViewBroadcast$Row", name := "place", desc := "(I)I" } : Jvm.MethodName))) ∈ pU := pU_of (i := 439) rfl rfl
set_option maxRecDepth 20000 in
theorem u_405 : ((Jvm.Cond.code ({ cls := "ViewBroadcast$Row", name := "place", desc := "(I)I" } : Jvm.MethodName) prog_7_method_2_code (2 : Nat) (Option.some Jvm.ClassFile.FieldType.int))) ∈ pU := pU_of (i := 440) rfl rfl
set_option maxRecDepth 20000 in
theorem u_406 : ((Jvm.Cond.methodLink "ViewBroadcast$World" (89 : Nat) ({ cls := "ViewBroadcast$World", name := "nodeAt", desc := "(I)LViewBroadcast$Node;" } : Jvm.MethodName))) ∈ pU := pU_of (i := 441) rfl rfl
set_option maxRecDepth 20000 in
theorem u_407 : ((Jvm.Cond.methodLink "ViewBroadcast$World" (97 : Nat) ({ cls := "ViewBroadcast$Letter", name := "write", desc := "(IIIII)V" } : Jvm.MethodName))) ∈ pU := pU_of (i := 442) rfl rfl
set_option maxRecDepth 20000 in
theorem u_408 : ((Jvm.Cond.instanceMethod ({ cls := "ViewBroadcast$Letter", name := "write", desc := "(IIIII)V" } : Jvm.MethodName))) ∈ pU := pU_of (i := 443) rfl rfl
set_option maxRecDepth 20000 in
theorem u_409 : ((Jvm.Cond.selects "ViewBroadcast$Letter" ({ cls := "ViewBroadcast$Letter", name := "write", desc := "(IIIII)V" } : Jvm.MethodName) ({ cls := "ViewBroadcast$Letter", name := "write", desc := "(IIIII)V" } : Jvm.MethodName))) ∈ pU := pU_of (i := 444) rfl rfl
set_option maxRecDepth 20000 in
theorem u_410 : ((Jvm.Cond.code ({ cls := "ViewBroadcast$Letter", name := "write", desc := "(IIIII)V" } : Jvm.MethodName) prog_3_method_2_code (6 : Nat) (Option.none : Option Jvm.ClassFile.FieldType))) ∈ pU := pU_of (i := 445) rfl rfl
set_option maxRecDepth 20000 in
theorem u_411 : ((Jvm.Cond.methodLink "ViewBroadcast$Letter" (36 : Nat) ({ cls := "ViewBroadcast$NodeList", name := "clear", desc := "()V" } : Jvm.MethodName))) ∈ pU := pU_of (i := 446) rfl rfl
set_option maxRecDepth 20000 in
theorem u_412 : ((Jvm.Cond.methodLink "ViewBroadcastLaw" (37 : Nat) ({ cls := "ViewBroadcast", name := "stop", desc := "(I)I" } : Jvm.MethodName))) ∈ pU := pU_of (i := 447) rfl rfl
set_option maxRecDepth 20000 in
theorem u_413 : ((Jvm.Cond.instanceMethod ({ cls := "ViewBroadcast", name := "stop", desc := "(I)I" } : Jvm.MethodName))) ∈ pU := pU_of (i := 448) rfl rfl
set_option maxRecDepth 20000 in
theorem u_414 : ((Jvm.Cond.selects "ViewBroadcast" ({ cls := "ViewBroadcast", name := "stop", desc := "(I)I" } : Jvm.MethodName) ({ cls := "ViewBroadcast", name := "stop", desc := "(I)I" } : Jvm.MethodName))) ∈ pU := pU_of (i := 449) rfl rfl
set_option maxRecDepth 20000 in
theorem u_415 : ((Jvm.Cond.code ({ cls := "ViewBroadcast", name := "stop", desc := "(I)I" } : Jvm.MethodName) prog_1_method_7_code (3 : Nat) (Option.some Jvm.ClassFile.FieldType.int))) ∈ pU := pU_of (i := 450) rfl rfl
set_option maxRecDepth 20000 in
theorem u_416 : ((Jvm.Cond.methodLink "ViewBroadcast" (109 : Nat) ({ cls := "ViewBroadcast", name := "refusedActor", desc := "(I)I" } : Jvm.MethodName))) ∈ pU := pU_of (i := 451) rfl rfl
set_option maxRecDepth 20000 in
theorem u_418 : ((Jvm.Cond.instanceMethod ({ cls := "ViewBroadcast", name := "refusedActor", desc := "(I)I" } : Jvm.MethodName))) ∈ pU := pU_of (i := 453) rfl rfl
set_option maxRecDepth 20000 in
theorem u_419 : ((Jvm.Cond.code ({ cls := "ViewBroadcast", name := "refusedActor", desc := "(I)I" } : Jvm.MethodName) prog_1_method_28_code (2 : Nat) (Option.some Jvm.ClassFile.FieldType.int))) ∈ pU := pU_of (i := 454) rfl rfl
set_option maxRecDepth 20000 in
theorem u_420 : ((Jvm.Cond.methodLink "ViewBroadcast" (113 : Nat) ({ cls := "ViewBroadcast$World", name := "halt", desc := "(LViewBroadcast$Node;)I" } : Jvm.MethodName))) ∈ pU := pU_of (i := 455) rfl rfl
set_option maxRecDepth 20000 in
theorem u_421 : ((Jvm.Cond.instanceMethod ({ cls := "ViewBroadcast$World", name := "halt", desc := "(LViewBroadcast$Node;)I" } : Jvm.MethodName))) ∈ pU := pU_of (i := 456) rfl rfl
set_option maxRecDepth 20000 in
theorem u_422 : ((Jvm.Cond.selects "ViewBroadcast$World" ({ cls := "ViewBroadcast$World", name := "halt", desc := "(LViewBroadcast$Node;)I" } : Jvm.MethodName) ({ cls := "ViewBroadcast$World", name := "halt", desc := "(LViewBroadcast$Node;)I" } : Jvm.MethodName))) ∈ pU := pU_of (i := 457) rfl rfl
set_option maxRecDepth 20000 in
theorem u_423 : ((Jvm.Cond.code ({ cls := "ViewBroadcast$World", name := "halt", desc := "(LViewBroadcast$Node;)I" } : Jvm.MethodName) prog_11_method_10_code (4 : Nat) (Option.some Jvm.ClassFile.FieldType.int))) ∈ pU := pU_of (i := 458) rfl rfl
set_option maxRecDepth 20000 in
theorem u_424 : ((Jvm.Cond.methodLink "ViewBroadcast$World" (136 : Nat) ({ cls := "ViewBroadcast$Row", name := "removeTo", desc := "(I)I" } : Jvm.MethodName))) ∈ pU := pU_of (i := 459) rfl rfl
set_option maxRecDepth 20000 in
theorem u_425 : ((Jvm.Cond.instanceMethod ({ cls := "ViewBroadcast$Row", name := "removeTo", desc := "(I)I" } : Jvm.MethodName))) ∈ pU := pU_of (i := 460) rfl rfl
set_option maxRecDepth 20000 in
theorem u_426 : ((Jvm.Cond.selects "ViewBroadcast$Row" ({ cls := "ViewBroadcast$Row", name := "removeTo", desc := "(I)I" } : Jvm.MethodName) ({ cls := "ViewBroadcast$Row", name := "removeTo", desc := "(I)I" } : Jvm.MethodName))) ∈ pU := pU_of (i := 461) rfl rfl
set_option maxRecDepth 20000 in
theorem u_427 : ((Jvm.Cond.code ({ cls := "ViewBroadcast$Row", name := "removeTo", desc := "(I)I" } : Jvm.MethodName) prog_7_method_7_code (5 : Nat) (Option.some Jvm.ClassFile.FieldType.int))) ∈ pU := pU_of (i := 462) rfl rfl
set_option maxRecDepth 20000 in
theorem u_428 : ((Jvm.Cond.methodLink "ViewBroadcast$Row" (36 : Nat) ({ cls := "ViewBroadcast$Row", name := "at", desc := "(I)LViewBroadcast$Letter;" } : Jvm.MethodName))) ∈ pU := pU_of (i := 463) rfl rfl
set_option maxRecDepth 20000 in
theorem u_429 : ((Jvm.Cond.instanceMethod ({ cls := "ViewBroadcast$Row", name := "at", desc := "(I)LViewBroadcast$Letter;" } : Jvm.MethodName))) ∈ pU := pU_of (i := 464) rfl rfl
set_option maxRecDepth 20000 in
theorem u_430 : ((Jvm.Cond.selects "ViewBroadcast$Row" ({ cls := "ViewBroadcast$Row", name := "at", desc := "(I)LViewBroadcast$Letter;" } : Jvm.MethodName) ({ cls := "ViewBroadcast$Row", name := "at", desc := "(I)LViewBroadcast$Letter;" } : Jvm.MethodName))) ∈ pU := pU_of (i := 465) rfl rfl
set_option maxRecDepth 20000 in
theorem u_431 : ((Jvm.Cond.code ({ cls := "ViewBroadcast$Row", name := "at", desc := "(I)LViewBroadcast$Letter;" } : Jvm.MethodName) prog_7_method_4_code (2 : Nat) (Option.some (Jvm.ClassFile.FieldType.object "ViewBroadcast$Letter")))) ∈ pU := pU_of (i := 466) rfl rfl
set_option maxRecDepth 20000 in
theorem u_432 : ((Jvm.Cond.methodLink "ViewBroadcast$World" (139 : Nat) ({ cls := "ViewBroadcast$World", name := "mustLearnOfStop", desc := "(LViewBroadcast$Node;I)Z" } : Jvm.MethodName))) ∈ pU := pU_of (i := 467) rfl rfl
set_option maxRecDepth 20000 in
theorem u_433 : ((Jvm.Cond.instanceMethod ({ cls := "ViewBroadcast$World", name := "mustLearnOfStop", desc := "(LViewBroadcast$Node;I)Z" } : Jvm.MethodName))) ∈ pU := pU_of (i := 468) rfl rfl
set_option maxRecDepth 20000 in
theorem u_434 : ((Jvm.Cond.selects "ViewBroadcast$World" ({ cls := "ViewBroadcast$World", name := "mustLearnOfStop", desc := "(LViewBroadcast$Node;I)Z" } : Jvm.MethodName) ({ cls := "ViewBroadcast$World", name := "mustLearnOfStop", desc := "(LViewBroadcast$Node;I)Z" } : Jvm.MethodName))) ∈ pU := pU_of (i := 469) rfl rfl
set_option maxRecDepth 20000 in
theorem u_435 : ((Jvm.Cond.code ({ cls := "ViewBroadcast$World", name := "mustLearnOfStop", desc := "(LViewBroadcast$Node;I)Z" } : Jvm.MethodName) prog_11_method_11_code (3 : Nat) (Option.some Jvm.ClassFile.FieldType.boolean))) ∈ pU := pU_of (i := 470) rfl rfl
set_option maxRecDepth 20000 in
theorem u_436 : ((Jvm.Cond.methodLink "ViewBroadcast$World" (146 : Nat) ({ cls := "ViewBroadcast$NodeList", name := "has", desc := "(I)Z" } : Jvm.MethodName))) ∈ pU := pU_of (i := 471) rfl rfl
set_option maxRecDepth 20000 in
theorem u_437 : ((Jvm.Cond.instanceMethod ({ cls := "ViewBroadcast$NodeList", name := "has", desc := "(I)Z" } : Jvm.MethodName))) ∈ pU := pU_of (i := 472) rfl rfl
set_option maxRecDepth 20000 in
theorem u_438 : ((Jvm.Cond.selects "ViewBroadcast$NodeList" ({ cls := "ViewBroadcast$NodeList", name := "has", desc := "(I)Z" } : Jvm.MethodName) ({ cls := "ViewBroadcast$NodeList", name := "has", desc := "(I)Z" } : Jvm.MethodName))) ∈ pU := pU_of (i := 473) rfl rfl
set_option maxRecDepth 20000 in
theorem u_439 : ((Jvm.Cond.code ({ cls := "ViewBroadcast$NodeList", name := "has", desc := "(I)Z" } : Jvm.MethodName) prog_6_method_4_code (2 : Nat) (Option.some Jvm.ClassFile.FieldType.boolean))) ∈ pU := pU_of (i := 474) rfl rfl
set_option maxRecDepth 20000 in
theorem u_440 : ((Jvm.Cond.methodLink "ViewBroadcast$NodeList" (25 : Nat) ({ cls := "ViewBroadcast$NodeList", name := "placeOf", desc := "(I)I" } : Jvm.MethodName))) ∈ pU := pU_of (i := 475) rfl rfl
set_option maxRecDepth 20000 in
theorem u_441 : ((Jvm.Cond.instanceMethod ({ cls := "ViewBroadcast$NodeList", name := "placeOf", desc := "(I)I" } : Jvm.MethodName))) ∈ pU := pU_of (i := 476) rfl rfl
set_option maxRecDepth 20000 in
theorem u_442 : ((Jvm.Cond.selects "ViewBroadcast$NodeList" ({ cls := "ViewBroadcast$NodeList", name := "placeOf", desc := "(I)I" } : Jvm.MethodName) ({ cls := "ViewBroadcast$NodeList", name := "placeOf", desc := "(I)I" } : Jvm.MethodName))) ∈ pU := pU_of (i := 477) rfl rfl
set_option maxRecDepth 20000 in
theorem u_443 : ((Jvm.Cond.code ({ cls := "ViewBroadcast$NodeList", name := "placeOf", desc := "(I)I" } : Jvm.MethodName) prog_6_method_3_code (3 : Nat) (Option.some Jvm.ClassFile.FieldType.int))) ∈ pU := pU_of (i := 478) rfl rfl
set_option maxRecDepth 20000 in
theorem u_444 : ((Jvm.Cond.methodLink "ViewBroadcast$World" (153 : Nat) ({ cls := "ViewBroadcast$Row", name := "hasAhead", desc := "(III)Z" } : Jvm.MethodName))) ∈ pU := pU_of (i := 479) rfl rfl
set_option maxRecDepth 20000 in
theorem u_445 : ((Jvm.Cond.instanceMethod ({ cls := "ViewBroadcast$Row", name := "hasAhead", desc := "(III)Z" } : Jvm.MethodName))) ∈ pU := pU_of (i := 480) rfl rfl
set_option maxRecDepth 20000 in
theorem u_446 : ((Jvm.Cond.selects "ViewBroadcast$Row" ({ cls := "ViewBroadcast$Row", name := "hasAhead", desc := "(III)Z" } : Jvm.MethodName) ({ cls := "ViewBroadcast$Row", name := "hasAhead", desc := "(III)Z" } : Jvm.MethodName))) ∈ pU := pU_of (i := 481) rfl rfl
set_option maxRecDepth 20000 in
theorem u_447 : ((Jvm.Cond.code ({ cls := "ViewBroadcast$Row", name := "hasAhead", desc := "(III)Z" } : Jvm.MethodName) prog_7_method_9_code (6 : Nat) (Option.some Jvm.ClassFile.FieldType.boolean))) ∈ pU := pU_of (i := 482) rfl rfl
set_option maxRecDepth 20000 in
theorem u_448 : ((Jvm.Cond.methodLink "ViewBroadcast$World" (101 : Nat) ({ cls := "ViewBroadcast$World", name := "send", desc := "(IIIII)LViewBroadcast$Letter;" } : Jvm.MethodName))) ∈ pU := pU_of (i := 483) rfl rfl
set_option maxRecDepth 20000 in
theorem u_449 : ((Jvm.Cond.methodLink "ViewBroadcastLaw" (41 : Nat) ({ cls := "ViewBroadcast", name := "mix", desc := "(I)I" } : Jvm.MethodName))) ∈ pU := pU_of (i := 484) rfl rfl
set_option maxRecDepth 20000 in
theorem u_450 : ((Jvm.Cond.instanceMethod ({ cls := "ViewBroadcast", name := "mix", desc := "(I)I" } : Jvm.MethodName))) ∈ pU := pU_of (i := 485) rfl rfl
set_option maxRecDepth 20000 in
theorem u_451 : ((Jvm.Cond.selects "ViewBroadcast" ({ cls := "ViewBroadcast", name := "mix", desc := "(I)I" } : Jvm.MethodName) ({ cls := "ViewBroadcast", name := "mix", desc := "(I)I" } : Jvm.MethodName))) ∈ pU := pU_of (i := 486) rfl rfl
set_option maxRecDepth 20000 in
theorem u_452 : ((Jvm.Cond.code ({ cls := "ViewBroadcast", name := "mix", desc := "(I)I" } : Jvm.MethodName) prog_1_method_8_code (3 : Nat) (Option.some Jvm.ClassFile.FieldType.int))) ∈ pU := pU_of (i := 487) rfl rfl
set_option maxRecDepth 20000 in
theorem u_453 : ((Jvm.Cond.methodLink "ViewBroadcast" (117 : Nat) ({ cls := "ViewBroadcast$Views", name := "beginMix", desc := "(LViewBroadcast$Node;)I" } : Jvm.MethodName))) ∈ pU := pU_of (i := 488) rfl rfl
set_option maxRecDepth 20000 in
theorem u_454 : ((Jvm.Cond.instanceMethod ({ cls := "ViewBroadcast$Views", name := "beginMix", desc := "(LViewBroadcast$Node;)I" } : Jvm.MethodName))) ∈ pU := pU_of (i := 489) rfl rfl
set_option maxRecDepth 20000 in
theorem u_455 : ((Jvm.Cond.selects "ViewBroadcast$Views" ({ cls := "ViewBroadcast$Views", name := "beginMix", desc := "(LViewBroadcast$Node;)I" } : Jvm.MethodName) ({ cls := "ViewBroadcast$Views", name := "beginMix", desc := "(LViewBroadcast$Node;)I" } : Jvm.MethodName))) ∈ pU := pU_of (i := 490) rfl rfl
set_option maxRecDepth 20000 in
theorem u_456 : ((Jvm.Cond.code ({ cls := "ViewBroadcast$Views", name := "beginMix", desc := "(LViewBroadcast$Node;)I" } : Jvm.MethodName) prog_10_method_21_code (3 : Nat) (Option.some Jvm.ClassFile.FieldType.int))) ∈ pU := pU_of (i := 491) rfl rfl
set_option maxRecDepth 20000 in
theorem u_457 : ((Jvm.Cond.methodLink "ViewBroadcast$Views" (121 : Nat) ({ cls := "ViewBroadcast$Views", name := "fillPool", desc := "(LViewBroadcast$NodeList;II)V" } : Jvm.MethodName))) ∈ pU := pU_of (i := 492) rfl rfl
set_option maxRecDepth 20000 in
theorem u_458 : ((Jvm.Cond.instanceMethod ({ cls := "ViewBroadcast$Views", name := "fillPool", desc := "(LViewBroadcast$NodeList;II)V" } : Jvm.MethodName))) ∈ pU := pU_of (i := 493) rfl rfl
set_option maxRecDepth 20000 in
theorem u_459 : ((Jvm.Cond.selects "ViewBroadcast$Views" ({ cls := "ViewBroadcast$Views", name := "fillPool", desc := "(LViewBroadcast$NodeList;II)V" } : Jvm.MethodName) ({ cls := "ViewBroadcast$Views", name := "fillPool", desc := "(LViewBroadcast$NodeList;II)V" } : Jvm.MethodName))) ∈ pU := pU_of (i := 494) rfl rfl
set_option maxRecDepth 20000 in
theorem u_460 : ((Jvm.Cond.code ({ cls := "ViewBroadcast$Views", name := "fillPool", desc := "(LViewBroadcast$NodeList;II)V" } : Jvm.MethodName) prog_10_method_3_code (6 : Nat) (Option.none : Option Jvm.ClassFile.FieldType))) ∈ pU := pU_of (i := 495) rfl rfl
set_option maxRecDepth 20000 in
theorem u_461 : ((Jvm.Cond.methodLink "ViewBroadcast$Views" (44 : Nat) ({ cls := "ViewBroadcast$NodeList", name := "clear", desc := "()V" } : Jvm.MethodName))) ∈ pU := pU_of (i := 496) rfl rfl
set_option maxRecDepth 20000 in
theorem u_462 : ((Jvm.Cond.methodLink "ViewBroadcast$Views" (50 : Nat) ({ cls := "ViewBroadcast$NodeList", name := "at", desc := "(I)I" } : Jvm.MethodName))) ∈ pU := pU_of (i := 497) rfl rfl
set_option maxRecDepth 20000 in
theorem u_463 : ((Jvm.Cond.instanceMethod ({ cls := "ViewBroadcast$NodeList", name := "at", desc := "(I)I" } : Jvm.MethodName))) ∈ pU := pU_of (i := 498) rfl rfl
set_option maxRecDepth 20000 in
theorem u_464 : ((Jvm.Cond.selects "ViewBroadcast$NodeList" ({ cls := "ViewBroadcast$NodeList", name := "at", desc := "(I)I" } : Jvm.MethodName) ({ cls := "ViewBroadcast$NodeList", name := "at", desc := "(I)I" } : Jvm.MethodName))) ∈ pU := pU_of (i := 499) rfl rfl
set_option maxRecDepth 20000 in
theorem u_465 : ((Jvm.Cond.code ({ cls := "ViewBroadcast$NodeList", name := "at", desc := "(I)I" } : Jvm.MethodName) prog_6_method_2_code (2 : Nat) (Option.some Jvm.ClassFile.FieldType.int))) ∈ pU := pU_of (i := 500) rfl rfl
set_option maxRecDepth 20000 in
theorem u_466 : ((Jvm.Cond.methodLink "ViewBroadcast$Views" (54 : Nat) ({ cls := "ViewBroadcast$NodeList", name := "put", desc := "(I)V" } : Jvm.MethodName))) ∈ pU := pU_of (i := 501) rfl rfl
set_option maxRecDepth 20000 in
theorem u_467 : ((Jvm.Cond.instanceMethod ({ cls := "ViewBroadcast$NodeList", name := "put", desc := "(I)V" } : Jvm.MethodName))) ∈ pU := pU_of (i := 502) rfl rfl
set_option maxRecDepth 20000 in
theorem u_468 : ((Jvm.Cond.selects "ViewBroadcast$NodeList" ({ cls := "ViewBroadcast$NodeList", name := "put", desc := "(I)V" } : Jvm.MethodName) ({ cls := "ViewBroadcast$NodeList", name := "put", desc := "(I)V" } : Jvm.MethodName))) ∈ pU := pU_of (i := 503) rfl rfl
set_option maxRecDepth 20000 in
theorem u_469 : ((Jvm.Cond.code ({ cls := "ViewBroadcast$NodeList", name := "put", desc := "(I)V" } : Jvm.MethodName) prog_6_method_5_code (2 : Nat) (Option.none : Option Jvm.ClassFile.FieldType))) ∈ pU := pU_of (i := 504) rfl rfl
set_option maxRecDepth 20000 in
theorem u_470 : ((Jvm.Cond.methodLink "ViewBroadcast$Views" (63 : Nat) ({ cls := "ViewBroadcast$Views", name := "drawOfPool", desc := "()I" } : Jvm.MethodName))) ∈ pU := pU_of (i := 505) rfl rfl
set_option maxRecDepth 20000 in
theorem u_471 : ((Jvm.Cond.instanceMethod ({ cls := "ViewBroadcast$Views", name := "drawOfPool", desc := "()I" } : Jvm.MethodName))) ∈ pU := pU_of (i := 506) rfl rfl
set_option maxRecDepth 20000 in
theorem u_472 : ((Jvm.Cond.selects "ViewBroadcast$Views" ({ cls := "ViewBroadcast$Views", name := "drawOfPool", desc := "()I" } : Jvm.MethodName) ({ cls := "ViewBroadcast$Views", name := "drawOfPool", desc := "()I" } : Jvm.MethodName))) ∈ pU := pU_of (i := 507) rfl rfl
set_option maxRecDepth 20000 in
theorem u_473 : ((Jvm.Cond.code ({ cls := "ViewBroadcast$Views", name := "drawOfPool", desc := "()I" } : Jvm.MethodName) prog_10_method_4_code (3 : Nat) (Option.some Jvm.ClassFile.FieldType.int))) ∈ pU := pU_of (i := 508) rfl rfl
set_option maxRecDepth 20000 in
theorem u_474 : ((Jvm.Cond.methodLink "ViewBroadcast$Views" (57 : Nat) ({ cls := "ViewBroadcast$World", name := "draw", desc := "(I)I" } : Jvm.MethodName))) ∈ pU := pU_of (i := 509) rfl rfl
set_option maxRecDepth 20000 in
theorem u_475 : ((Jvm.Cond.instanceMethod ({ cls := "ViewBroadcast$World", name := "draw", desc := "(I)I" } : Jvm.MethodName))) ∈ pU := pU_of (i := 510) rfl rfl
set_option maxRecDepth 20000 in
theorem u_476 : ((Jvm.Cond.selects "ViewBroadcast$World" ({ cls := "ViewBroadcast$World", name := "draw", desc := "(I)I" } : Jvm.MethodName) ({ cls := "ViewBroadcast$World", name := "draw", desc := "(I)I" } : Jvm.MethodName))) ∈ pU := pU_of (i := 511) rfl rfl
set_option maxRecDepth 20000 in
theorem u_477 : ((Jvm.Cond.code ({ cls := "ViewBroadcast$World", name := "draw", desc := "(I)I" } : Jvm.MethodName) prog_11_method_6_code (3 : Nat) (Option.some Jvm.ClassFile.FieldType.int))) ∈ pU := pU_of (i := 512) rfl rfl
set_option maxRecDepth 20000 in
theorem u_478 : ((Jvm.Cond.methodLink "ViewBroadcast$World" (78 : Nat) ({ cls := "ViewBroadcast$Coins", name := "at", desc := "(I)I" } : Jvm.MethodName))) ∈ pU := pU_of (i := 513) rfl rfl
set_option maxRecDepth 20000 in
theorem u_479 : ((Jvm.Cond.instanceMethod ({ cls := "ViewBroadcast$Coins", name := "at", desc := "(I)I" } : Jvm.MethodName))) ∈ pU := pU_of (i := 514) rfl rfl
set_option maxRecDepth 20000 in
theorem u_480 : ((Jvm.Cond.selects "ViewBroadcast$Coins" ({ cls := "ViewBroadcast$Coins", name := "at", desc := "(I)I" } : Jvm.MethodName) ({ cls := "ViewBroadcast$Coins", name := "at", desc := "(I)I" } : Jvm.MethodName))) ∈ pU := pU_of (i := 515) rfl rfl
set_option maxRecDepth 20000 in
theorem u_481 : ((Jvm.Cond.code ({ cls := "ViewBroadcast$Coins", name := "at", desc := "(I)I" } : Jvm.MethodName) prog_2_method_3_code (2 : Nat) (Option.some Jvm.ClassFile.FieldType.int))) ∈ pU := pU_of (i := 516) rfl rfl
set_option maxRecDepth 20000 in
theorem u_482 : ((Jvm.Cond.methodLink "ViewBroadcast$World" (82 : Nat) ({ cls := "ViewBroadcast$Coins", name := "behind", desc := "(I)I" } : Jvm.MethodName))) ∈ pU := pU_of (i := 517) rfl rfl
set_option maxRecDepth 20000 in
theorem u_483 : ((Jvm.Cond.instanceMethod ({ cls := "ViewBroadcast$Coins", name := "behind", desc := "(I)I" } : Jvm.MethodName))) ∈ pU := pU_of (i := 518) rfl rfl
set_option maxRecDepth 20000 in
theorem u_484 : ((Jvm.Cond.selects "ViewBroadcast$Coins" ({ cls := "ViewBroadcast$Coins", name := "behind", desc := "(I)I" } : Jvm.MethodName) ({ cls := "ViewBroadcast$Coins", name := "behind", desc := "(I)I" } : Jvm.MethodName))) ∈ pU := pU_of (i := 519) rfl rfl
set_option maxRecDepth 20000 in
theorem u_485 : ((Jvm.Cond.code ({ cls := "ViewBroadcast$Coins", name := "behind", desc := "(I)I" } : Jvm.MethodName) prog_2_method_4_code (2 : Nat) (Option.some Jvm.ClassFile.FieldType.int))) ∈ pU := pU_of (i := 520) rfl rfl
set_option maxRecDepth 20000 in
theorem u_486 : ((Jvm.Cond.methodLink "ViewBroadcast$Views" (60 : Nat) ({ cls := "ViewBroadcast$NodeList", name := "removeAt", desc := "(I)V" } : Jvm.MethodName))) ∈ pU := pU_of (i := 521) rfl rfl
set_option maxRecDepth 20000 in
theorem u_487 : ((Jvm.Cond.instanceMethod ({ cls := "ViewBroadcast$NodeList", name := "removeAt", desc := "(I)V" } : Jvm.MethodName))) ∈ pU := pU_of (i := 522) rfl rfl
set_option maxRecDepth 20000 in
theorem u_488 : ((Jvm.Cond.selects "ViewBroadcast$NodeList" ({ cls := "ViewBroadcast$NodeList", name := "removeAt", desc := "(I)V" } : Jvm.MethodName) ({ cls := "ViewBroadcast$NodeList", name := "removeAt", desc := "(I)V" } : Jvm.MethodName))) ∈ pU := pU_of (i := 523) rfl rfl
set_option maxRecDepth 20000 in
theorem u_489 : ((Jvm.Cond.code ({ cls := "ViewBroadcast$NodeList", name := "removeAt", desc := "(I)V" } : Jvm.MethodName) prog_6_method_6_code (3 : Nat) (Option.none : Option Jvm.ClassFile.FieldType))) ∈ pU := pU_of (i := 524) rfl rfl
set_option maxRecDepth 20000 in
theorem u_490 : ((Jvm.Cond.methodLink "ViewBroadcast$Views" (155 : Nat) ({ cls := "ViewBroadcast$Views", name := "listFromPool", desc := "(I)V" } : Jvm.MethodName))) ∈ pU := pU_of (i := 525) rfl rfl
set_option maxRecDepth 20000 in
theorem u_491 : ((Jvm.Cond.instanceMethod ({ cls := "ViewBroadcast$Views", name := "listFromPool", desc := "(I)V" } : Jvm.MethodName))) ∈ pU := pU_of (i := 526) rfl rfl
set_option maxRecDepth 20000 in
theorem u_492 : ((Jvm.Cond.selects "ViewBroadcast$Views" ({ cls := "ViewBroadcast$Views", name := "listFromPool", desc := "(I)V" } : Jvm.MethodName) ({ cls := "ViewBroadcast$Views", name := "listFromPool", desc := "(I)V" } : Jvm.MethodName))) ∈ pU := pU_of (i := 527) rfl rfl
set_option maxRecDepth 20000 in
theorem u_493 : ((Jvm.Cond.code ({ cls := "ViewBroadcast$Views", name := "listFromPool", desc := "(I)V" } : Jvm.MethodName) prog_10_method_5_code (3 : Nat) (Option.none : Option Jvm.ClassFile.FieldType))) ∈ pU := pU_of (i := 528) rfl rfl
set_option maxRecDepth 20000 in
theorem u_494 : ((Jvm.Cond.methodLink "ViewBroadcast$Views" (143 : Nat) ({ cls := "ViewBroadcast$World", name := "sendList", desc := "(IIIIILViewBroadcast$NodeList;)V" } : Jvm.MethodName))) ∈ pU := pU_of (i := 529) rfl rfl
set_option maxRecDepth 20000 in
theorem u_495 : ((Jvm.Cond.instanceMethod ({ cls := "ViewBroadcast$World", name := "sendList", desc := "(IIIIILViewBroadcast$NodeList;)V" } : Jvm.MethodName))) ∈ pU := pU_of (i := 530) rfl rfl
set_option maxRecDepth 20000 in
theorem u_496 : ((Jvm.Cond.selects "ViewBroadcast$World" ({ cls := "ViewBroadcast$World", name := "sendList", desc := "(IIIIILViewBroadcast$NodeList;)V" } : Jvm.MethodName) ({ cls := "ViewBroadcast$World", name := "sendList", desc := "(IIIIILViewBroadcast$NodeList;)V" } : Jvm.MethodName))) ∈ pU := pU_of (i := 531) rfl rfl
set_option maxRecDepth 20000 in
theorem u_497 : ((Jvm.Cond.code ({ cls := "ViewBroadcast$World", name := "sendList", desc := "(IIIIILViewBroadcast$NodeList;)V" } : Jvm.MethodName) prog_11_method_8_code (8 : Nat) (Option.none : Option Jvm.ClassFile.FieldType))) ∈ pU := pU_of (i := 532) rfl rfl
set_option maxRecDepth 20000 in
theorem u_498 : ((Jvm.Cond.methodLink "ViewBroadcast$World" (112 : Nat) ({ cls := "ViewBroadcast$NodeList", name := "copyFrom", desc := "(LViewBroadcast$NodeList;)V" } : Jvm.MethodName))) ∈ pU := pU_of (i := 533) rfl rfl
set_option maxRecDepth 20000 in
theorem u_499 : ((Jvm.Cond.instanceMethod ({ cls := "ViewBroadcast$NodeList", name := "copyFrom", desc := "(LViewBroadcast$NodeList;)V" } : Jvm.MethodName))) ∈ pU := pU_of (i := 534) rfl rfl
set_option maxRecDepth 20000 in
theorem u_500 : ((Jvm.Cond.selects "ViewBroadcast$NodeList" ({ cls := "ViewBroadcast$NodeList", name := "copyFrom", desc := "(LViewBroadcast$NodeList;)V" } : Jvm.MethodName) ({ cls := "ViewBroadcast$NodeList", name := "copyFrom", desc := "(LViewBroadcast$NodeList;)V" } : Jvm.MethodName))) ∈ pU := pU_of (i := 535) rfl rfl
set_option maxRecDepth 20000 in
theorem u_501 : ((Jvm.Cond.code ({ cls := "ViewBroadcast$NodeList", name := "copyFrom", desc := "(LViewBroadcast$NodeList;)V" } : Jvm.MethodName) prog_6_method_9_code (3 : Nat) (Option.none : Option Jvm.ClassFile.FieldType))) ∈ pU := pU_of (i := 536) rfl rfl
set_option maxRecDepth 20000 in
theorem u_502 : ((Jvm.Cond.methodLink "ViewBroadcast$NodeList" (33 : Nat) ({ cls := "java/lang/Math", name := "min", desc := "(II)I" } : Jvm.MethodName))) ∈ pU := pU_of (i := 537) rfl rfl
set_option maxRecDepth 20000 in
theorem u_503 : ((Jvm.Cond.static ({ cls := "java/lang/Math", name := "min", desc := "(II)I" } : Jvm.MethodName))) ∈ pU := pU_of (i := 538) rfl rfl
set_option maxRecDepth 20000 in
theorem u_504 : ((Jvm.Cond.code ({ cls := "java/lang/Math", name := "min", desc := "(II)I" } : Jvm.MethodName) prog_15_method_69_code (2 : Nat) (Option.some Jvm.ClassFile.FieldType.int))) ∈ pU := pU_of (i := 539) rfl rfl
set_option maxRecDepth 20000 in
theorem u_505 : ((Jvm.Cond.methodLink "ViewBroadcast$NodeList" (36 : Nat) ({ cls := "ViewBroadcast$NodeList", name := "at", desc := "(I)I" } : Jvm.MethodName))) ∈ pU := pU_of (i := 540) rfl rfl
set_option maxRecDepth 20000 in
theorem u_506 : ((Jvm.Cond.methodLink "ViewBroadcastLaw" (45 : Nat) ({ cls := "ViewBroadcast", name := "tale", desc := "(I)I" } : Jvm.MethodName))) ∈ pU := pU_of (i := 541) rfl rfl
set_option maxRecDepth 20000 in
theorem u_507 : ((Jvm.Cond.instanceMethod ({ cls := "ViewBroadcast", name := "tale", desc := "(I)I" } : Jvm.MethodName))) ∈ pU := pU_of (i := 542) rfl rfl
set_option maxRecDepth 20000 in
theorem u_508 : ((Jvm.Cond.selects "ViewBroadcast" ({ cls := "ViewBroadcast", name := "tale", desc := "(I)I" } : Jvm.MethodName) ({ cls := "ViewBroadcast", name := "tale", desc := "(I)I" } : Jvm.MethodName))) ∈ pU := pU_of (i := 543) rfl rfl
set_option maxRecDepth 20000 in
theorem u_509 : ((Jvm.Cond.code ({ cls := "ViewBroadcast", name := "tale", desc := "(I)I" } : Jvm.MethodName) prog_1_method_9_code (4 : Nat) (Option.some Jvm.ClassFile.FieldType.int))) ∈ pU := pU_of (i := 544) rfl rfl
set_option maxRecDepth 20000 in
theorem u_510 : ((Jvm.Cond.methodLink "ViewBroadcast" (123 : Nat) ({ cls := "ViewBroadcast$Tales", name := "hear", desc := "(LViewBroadcast$Node;III)V" } : Jvm.MethodName))) ∈ pU := pU_of (i := 545) rfl rfl
set_option maxRecDepth 20000 in
theorem u_511 : ((Jvm.Cond.instanceMethod ({ cls := "ViewBroadcast$Tales", name := "hear", desc := "(LViewBroadcast$Node;III)V" } : Jvm.MethodName))) ∈ pU := pU_of (i := 546) rfl rfl
set_option maxRecDepth 20000 in
theorem u_512 : ((Jvm.Cond.selects "ViewBroadcast$Tales" ({ cls := "ViewBroadcast$Tales", name := "hear", desc := "(LViewBroadcast$Node;III)V" } : Jvm.MethodName) ({ cls := "ViewBroadcast$Tales", name := "hear", desc := "(LViewBroadcast$Node;III)V" } : Jvm.MethodName))) ∈ pU := pU_of (i := 547) rfl rfl
set_option maxRecDepth 20000 in
theorem u_513 : ((Jvm.Cond.code ({ cls := "ViewBroadcast$Tales", name := "hear", desc := "(LViewBroadcast$Node;III)V" } : Jvm.MethodName) prog_9_method_3_code (7 : Nat) (Option.none : Option Jvm.ClassFile.FieldType))) ∈ pU := pU_of (i := 548) rfl rfl
set_option maxRecDepth 20000 in
theorem u_514 : ((Jvm.Cond.methodLink "ViewBroadcast$Tales" (27 : Nat) ({ cls := "ViewBroadcast$Node", name := "learn", desc := "(II)V" } : Jvm.MethodName))) ∈ pU := pU_of (i := 549) rfl rfl
set_option maxRecDepth 20000 in
theorem u_515 : ((Jvm.Cond.instanceMethod ({ cls := "ViewBroadcast$Node", name := "learn", desc := "(II)V" } : Jvm.MethodName))) ∈ pU := pU_of (i := 550) rfl rfl
set_option maxRecDepth 20000 in
theorem u_516 : ((Jvm.Cond.selects "ViewBroadcast$Node" ({ cls := "ViewBroadcast$Node", name := "learn", desc := "(II)V" } : Jvm.MethodName) ({ cls := "ViewBroadcast$Node", name := "learn", desc := "(II)V" } : Jvm.MethodName))) ∈ pU := pU_of (i := 551) rfl rfl
set_option maxRecDepth 20000 in
theorem u_517 : ((Jvm.Cond.code ({ cls := "ViewBroadcast$Node", name := "learn", desc := "(II)V" } : Jvm.MethodName) prog_5_method_9_code (3 : Nat) (Option.none : Option Jvm.ClassFile.FieldType))) ∈ pU := pU_of (i := 552) rfl rfl
set_option maxRecDepth 20000 in
theorem u_518 : ((Jvm.Cond.methodLink "ViewBroadcast$Tales" (40 : Nat) ({ cls := "ViewBroadcast$NodeList", name := "at", desc := "(I)I" } : Jvm.MethodName))) ∈ pU := pU_of (i := 553) rfl rfl
set_option maxRecDepth 20000 in
theorem u_519 : ((Jvm.Cond.methodLink "ViewBroadcast$Tales" (44 : Nat) ({ cls := "ViewBroadcast$Node", name := "isLazy", desc := "(I)Z" } : Jvm.MethodName))) ∈ pU := pU_of (i := 554) rfl rfl
set_option maxRecDepth 20000 in
theorem u_520 : ((Jvm.Cond.instanceMethod ({ cls := "ViewBroadcast$Node", name := "isLazy", desc := "(I)Z" } : Jvm.MethodName))) ∈ pU := pU_of (i := 555) rfl rfl
set_option maxRecDepth 20000 in
theorem u_521 : ((Jvm.Cond.selects "ViewBroadcast$Node" ({ cls := "ViewBroadcast$Node", name := "isLazy", desc := "(I)Z" } : Jvm.MethodName) ({ cls := "ViewBroadcast$Node", name := "isLazy", desc := "(I)Z" } : Jvm.MethodName))) ∈ pU := pU_of (i := 556) rfl rfl
set_option maxRecDepth 20000 in
theorem u_522 : ((Jvm.Cond.code ({ cls := "ViewBroadcast$Node", name := "isLazy", desc := "(I)Z" } : Jvm.MethodName) prog_5_method_3_code (2 : Nat) (Option.some Jvm.ClassFile.FieldType.boolean))) ∈ pU := pU_of (i := 557) rfl rfl
set_option maxRecDepth 20000 in
theorem u_523 : ((Jvm.Cond.methodLink "ViewBroadcast$Tales" (48 : Nat) ({ cls := "ViewBroadcast$Tales", name := "send", desc := "(LViewBroadcast$Node;IIII)V" } : Jvm.MethodName))) ∈ pU := pU_of (i := 558) rfl rfl
set_option maxRecDepth 20000 in
theorem u_524 : ((Jvm.Cond.instanceMethod ({ cls := "ViewBroadcast$Tales", name := "send", desc := "(LViewBroadcast$Node;IIII)V" } : Jvm.MethodName))) ∈ pU := pU_of (i := 559) rfl rfl
set_option maxRecDepth 20000 in
theorem u_525 : ((Jvm.Cond.selects "ViewBroadcast$Tales" ({ cls := "ViewBroadcast$Tales", name := "send", desc := "(LViewBroadcast$Node;IIII)V" } : Jvm.MethodName) ({ cls := "ViewBroadcast$Tales", name := "send", desc := "(LViewBroadcast$Node;IIII)V" } : Jvm.MethodName))) ∈ pU := pU_of (i := 560) rfl rfl
set_option maxRecDepth 20000 in
theorem u_526 : ((Jvm.Cond.code ({ cls := "ViewBroadcast$Tales", name := "send", desc := "(LViewBroadcast$Node;IIII)V" } : Jvm.MethodName) prog_9_method_2_code (6 : Nat) (Option.none : Option Jvm.ClassFile.FieldType))) ∈ pU := pU_of (i := 561) rfl rfl
set_option maxRecDepth 20000 in
theorem u_527 : ((Jvm.Cond.methodLink "ViewBroadcast$Tales" (21 : Nat) ({ cls := "ViewBroadcast$World", name := "send", desc := "(IIIII)LViewBroadcast$Letter;" } : Jvm.MethodName))) ∈ pU := pU_of (i := 562) rfl rfl
set_option maxRecDepth 20000 in
theorem u_528 : ((Jvm.Cond.methodLink "ViewBroadcastLaw" (49 : Nat) ({ cls := "ViewBroadcast", name := "tick", desc := "()I" } : Jvm.MethodName))) ∈ pU := pU_of (i := 563) rfl rfl
set_option maxRecDepth 20000 in
theorem u_529 : ((Jvm.Cond.instanceMethod ({ cls := "ViewBroadcast", name := "tick", desc := "()I" } : Jvm.MethodName))) ∈ pU := pU_of (i := 564) rfl rfl
set_option maxRecDepth 20000 in
theorem u_530 : ((Jvm.Cond.selects "ViewBroadcast" ({ cls := "ViewBroadcast", name := "tick", desc := "()I" } : Jvm.MethodName) ({ cls := "ViewBroadcast", name := "tick", desc := "()I" } : Jvm.MethodName))) ∈ pU := pU_of (i := 565) rfl rfl
set_option maxRecDepth 20000 in
theorem u_531 : ((Jvm.Cond.code ({ cls := "ViewBroadcast", name := "tick", desc := "()I" } : Jvm.MethodName) prog_1_method_10_code (1 : Nat) (Option.some Jvm.ClassFile.FieldType.int))) ∈ pU := pU_of (i := 566) rfl rfl
set_option maxRecDepth 20000 in
theorem u_532 : ((Jvm.Cond.methodLink "ViewBroadcast" (127 : Nat) ({ cls := "ViewBroadcast$Tales", name := "pass", desc := "()I" } : Jvm.MethodName))) ∈ pU := pU_of (i := 567) rfl rfl
set_option maxRecDepth 20000 in
theorem u_533 : ((Jvm.Cond.instanceMethod ({ cls := "ViewBroadcast$Tales", name := "pass", desc := "()I" } : Jvm.MethodName))) ∈ pU := pU_of (i := 568) rfl rfl
set_option maxRecDepth 20000 in
theorem u_534 : ((Jvm.Cond.selects "ViewBroadcast$Tales" ({ cls := "ViewBroadcast$Tales", name := "pass", desc := "()I" } : Jvm.MethodName) ({ cls := "ViewBroadcast$Tales", name := "pass", desc := "()I" } : Jvm.MethodName))) ∈ pU := pU_of (i := 569) rfl rfl
set_option maxRecDepth 20000 in
theorem u_535 : ((Jvm.Cond.code ({ cls := "ViewBroadcast$Tales", name := "pass", desc := "()I" } : Jvm.MethodName) prog_9_method_7_code (2 : Nat) (Option.some Jvm.ClassFile.FieldType.int))) ∈ pU := pU_of (i := 570) rfl rfl
set_option maxRecDepth 20000 in
theorem u_536 : ((Jvm.Cond.methodLink "ViewBroadcast$Tales" (105 : Nat) ({ cls := "ViewBroadcast$World", name := "nodeAt", desc := "(I)LViewBroadcast$Node;" } : Jvm.MethodName))) ∈ pU := pU_of (i := 571) rfl rfl
set_option maxRecDepth 20000 in
theorem u_537 : ((Jvm.Cond.methodLink "ViewBroadcast$Tales" (112 : Nat) ({ cls := "ViewBroadcast$Tales", name := "fetchDue", desc := "(LViewBroadcast$Node;)V" } : Jvm.MethodName))) ∈ pU := pU_of (i := 572) rfl rfl
set_option maxRecDepth 20000 in
theorem u_538 : ((Jvm.Cond.instanceMethod ({ cls := "ViewBroadcast$Tales", name := "fetchDue", desc := "(LViewBroadcast$Node;)V" } : Jvm.MethodName))) ∈ pU := pU_of (i := 573) rfl rfl
set_option maxRecDepth 20000 in
theorem u_539 : ((Jvm.Cond.selects "ViewBroadcast$Tales" ({ cls := "ViewBroadcast$Tales", name := "fetchDue", desc := "(LViewBroadcast$Node;)V" } : Jvm.MethodName) ({ cls := "ViewBroadcast$Tales", name := "fetchDue", desc := "(LViewBroadcast$Node;)V" } : Jvm.MethodName))) ∈ pU := pU_of (i := 574) rfl rfl
set_option maxRecDepth 20000 in
theorem u_540 : ((Jvm.Cond.code ({ cls := "ViewBroadcast$Tales", name := "fetchDue", desc := "(LViewBroadcast$Node;)V" } : Jvm.MethodName) prog_9_method_8_code (4 : Nat) (Option.none : Option Jvm.ClassFile.FieldType))) ∈ pU := pU_of (i := 575) rfl rfl
set_option maxRecDepth 20000 in
theorem u_541 : ((Jvm.Cond.methodLink "ViewBroadcast$Tales" (68 : Nat) ({ cls := "ViewBroadcast$Node", name := "missOf", desc := "(I)LViewBroadcast$Miss;" } : Jvm.MethodName))) ∈ pU := pU_of (i := 576) rfl rfl
set_option maxRecDepth 20000 in
theorem u_542 : ((Jvm.Cond.instanceMethod ({ cls := "ViewBroadcast$Node", name := "missOf", desc := "(I)LViewBroadcast$Miss;" } : Jvm.MethodName))) ∈ pU := pU_of (i := 577) rfl rfl
set_option maxRecDepth 20000 in
theorem u_543 : ((Jvm.Cond.selects "ViewBroadcast$Node" ({ cls := "ViewBroadcast$Node", name := "missOf", desc := "(I)LViewBroadcast$Miss;" } : Jvm.MethodName) ({ cls := "ViewBroadcast$Node", name := "missOf", desc := "(I)LViewBroadcast$Miss;" } : Jvm.MethodName))) ∈ pU := pU_of (i := 578) rfl rfl
set_option maxRecDepth 20000 in
theorem u_544 : ((Jvm.Cond.code ({ cls := "ViewBroadcast$Node", name := "missOf", desc := "(I)LViewBroadcast$Miss;" } : Jvm.MethodName) prog_5_method_7_code (2 : Nat) (Option.some (Jvm.ClassFile.FieldType.object "ViewBroadcast$Miss")))) ∈ pU := pU_of (i := 579) rfl rfl
set_option maxRecDepth 20000 in
theorem u_545 : ((Jvm.Cond.methodLink "ViewBroadcast$Tales" (119 : Nat) ({ cls := "ViewBroadcast$Tales", name := "fetch", desc := "(LViewBroadcast$Node;ILViewBroadcast$Miss;)V" } : Jvm.MethodName))) ∈ pU := pU_of (i := 580) rfl rfl
set_option maxRecDepth 20000 in
theorem u_546 : ((Jvm.Cond.instanceMethod ({ cls := "ViewBroadcast$Tales", name := "fetch", desc := "(LViewBroadcast$Node;ILViewBroadcast$Miss;)V" } : Jvm.MethodName))) ∈ pU := pU_of (i := 581) rfl rfl
set_option maxRecDepth 20000 in
theorem u_547 : ((Jvm.Cond.selects "ViewBroadcast$Tales" ({ cls := "ViewBroadcast$Tales", name := "fetch", desc := "(LViewBroadcast$Node;ILViewBroadcast$Miss;)V" } : Jvm.MethodName) ({ cls := "ViewBroadcast$Tales", name := "fetch", desc := "(LViewBroadcast$Node;ILViewBroadcast$Miss;)V" } : Jvm.MethodName))) ∈ pU := pU_of (i := 582) rfl rfl
set_option maxRecDepth 20000 in
theorem u_548 : ((Jvm.Cond.code ({ cls := "ViewBroadcast$Tales", name := "fetch", desc := "(LViewBroadcast$Node;ILViewBroadcast$Miss;)V" } : Jvm.MethodName) prog_9_method_9_code (5 : Nat) (Option.none : Option Jvm.ClassFile.FieldType))) ∈ pU := pU_of (i := 583) rfl rfl
set_option maxRecDepth 20000 in
theorem u_549 : ((Jvm.Cond.methodLink "ViewBroadcast$Tales" (123 : Nat) ({ cls := "ViewBroadcast$Miss", name := "end", desc := "()V" } : Jvm.MethodName))) ∈ pU := pU_of (i := 584) rfl rfl
set_option maxRecDepth 20000 in
theorem u_550 : ((Jvm.Cond.methodLink "ViewBroadcast$Tales" (126 : Nat) ({ cls := "ViewBroadcast$NodeList", name := "removeAt", desc := "(I)V" } : Jvm.MethodName))) ∈ pU := pU_of (i := 585) rfl rfl
set_option maxRecDepth 20000 in
theorem u_551 : ((Jvm.Cond.methodLink "ViewBroadcast$Tales" (61 : Nat) ({ cls := "ViewBroadcast$Node", name := "makeEager", desc := "(I)V" } : Jvm.MethodName))) ∈ pU := pU_of (i := 586) rfl rfl
set_option maxRecDepth 20000 in
theorem u_552 : ((Jvm.Cond.instanceMethod ({ cls := "ViewBroadcast$Node", name := "makeEager", desc := "(I)V" } : Jvm.MethodName))) ∈ pU := pU_of (i := 587) rfl rfl
set_option maxRecDepth 20000 in
theorem u_553 : ((Jvm.Cond.selects "ViewBroadcast$Node" ({ cls := "ViewBroadcast$Node", name := "makeEager", desc := "(I)V" } : Jvm.MethodName) ({ cls := "ViewBroadcast$Node", name := "makeEager", desc := "(I)V" } : Jvm.MethodName))) ∈ pU := pU_of (i := 588) rfl rfl
set_option maxRecDepth 20000 in
theorem u_554 : ((Jvm.Cond.code ({ cls := "ViewBroadcast$Node", name := "makeEager", desc := "(I)V" } : Jvm.MethodName) prog_5_method_5_code (2 : Nat) (Option.none : Option Jvm.ClassFile.FieldType))) ∈ pU := pU_of (i := 589) rfl rfl
set_option maxRecDepth 20000 in
theorem u_555 : ((Jvm.Cond.methodLink "ViewBroadcast$Tales" (129 : Nat) ({ cls := "java/lang/Math", name := "max", desc := "(II)I" } : Jvm.MethodName))) ∈ pU := pU_of (i := 590) rfl rfl
set_option maxRecDepth 20000 in
theorem u_556 : ((Jvm.Cond.methodLink "ViewBroadcastLaw" (53 : Nat) ({ cls := "ViewBroadcast", name := "deliver", desc := "(I)I" } : Jvm.MethodName))) ∈ pU := pU_of (i := 591) rfl rfl
set_option maxRecDepth 20000 in
theorem u_557 : ((Jvm.Cond.instanceMethod ({ cls := "ViewBroadcast", name := "deliver", desc := "(I)I" } : Jvm.MethodName))) ∈ pU := pU_of (i := 592) rfl rfl
set_option maxRecDepth 20000 in
theorem u_558 : ((Jvm.Cond.selects "ViewBroadcast" ({ cls := "ViewBroadcast", name := "deliver", desc := "(I)I" } : Jvm.MethodName) ({ cls := "ViewBroadcast", name := "deliver", desc := "(I)I" } : Jvm.MethodName))) ∈ pU := pU_of (i := 593) rfl rfl
set_option maxRecDepth 20000 in
theorem u_559 : ((Jvm.Cond.code ({ cls := "ViewBroadcast", name := "deliver", desc := "(I)I" } : Jvm.MethodName) prog_1_method_11_code (2 : Nat) (Option.some Jvm.ClassFile.FieldType.int))) ∈ pU := pU_of (i := 594) rfl rfl
set_option maxRecDepth 20000 in
theorem u_560 : ((Jvm.Cond.methodLink "ViewBroadcast" (130 : Nat) ({ cls := "ViewBroadcast$Row", name := "isLetter", desc := "(I)Z" } : Jvm.MethodName))) ∈ pU := pU_of (i := 595) rfl rfl
set_option maxRecDepth 20000 in
theorem u_561 : ((Jvm.Cond.instanceMethod ({ cls := "ViewBroadcast$Row", name := "isLetter", desc := "(I)Z" } : Jvm.MethodName))) ∈ pU := pU_of (i := 596) rfl rfl
set_option maxRecDepth 20000 in
theorem u_562 : ((Jvm.Cond.selects "ViewBroadcast$Row" ({ cls := "ViewBroadcast$Row", name := "isLetter", desc := "(I)Z" } : Jvm.MethodName) ({ cls := "ViewBroadcast$Row", name := "isLetter", desc := "(I)Z" } : Jvm.MethodName))) ∈ pU := pU_of (i := 597) rfl rfl
set_option maxRecDepth 20000 in
theorem u_563 : ((Jvm.Cond.code ({ cls := "ViewBroadcast$Row", name := "isLetter", desc := "(I)Z" } : Jvm.MethodName) prog_7_method_3_code (2 : Nat) (Option.some Jvm.ClassFile.FieldType.boolean))) ∈ pU := pU_of (i := 598) rfl rfl
set_option maxRecDepth 20000 in
theorem u_564 : ((Jvm.Cond.methodLink "ViewBroadcast" (133 : Nat) ({ cls := "ViewBroadcast$Row", name := "canCome", desc := "(I)Z" } : Jvm.MethodName))) ∈ pU := pU_of (i := 599) rfl rfl
set_option maxRecDepth 20000 in
theorem u_565 : ((Jvm.Cond.instanceMethod ({ cls := "ViewBroadcast$Row", name := "canCome", desc := "(I)Z" } : Jvm.MethodName))) ∈ pU := pU_of (i := 600) rfl rfl
set_option maxRecDepth 20000 in
theorem u_566 : ((Jvm.Cond.selects "ViewBroadcast$Row" ({ cls := "ViewBroadcast$Row", name := "canCome", desc := "(I)Z" } : Jvm.MethodName) ({ cls := "ViewBroadcast$Row", name := "canCome", desc := "(I)Z" } : Jvm.MethodName))) ∈ pU := pU_of (i := 601) rfl rfl
set_option maxRecDepth 20000 in
theorem u_567 : ((Jvm.Cond.code ({ cls := "ViewBroadcast$Row", name := "canCome", desc := "(I)Z" } : Jvm.MethodName) prog_7_method_8_code (3 : Nat) (Option.some Jvm.ClassFile.FieldType.boolean))) ∈ pU := pU_of (i := 602) rfl rfl
set_option maxRecDepth 20000 in
theorem u_568 : ((Jvm.Cond.methodLink "ViewBroadcast$Row" (46 : Nat) ({ cls := "ViewBroadcast$Row", name := "hasAhead", desc := "(III)Z" } : Jvm.MethodName))) ∈ pU := pU_of (i := 603) rfl rfl
set_option maxRecDepth 20000 in
theorem u_569 : ((Jvm.Cond.methodLink "ViewBroadcast" (136 : Nat) ({ cls := "ViewBroadcast", name := "come", desc := "(I)I" } : Jvm.MethodName))) ∈ pU := pU_of (i := 604) rfl rfl
set_option maxRecDepth 20000 in
theorem u_571 : ((Jvm.Cond.instanceMethod ({ cls := "ViewBroadcast", name := "come", desc := "(I)I" } : Jvm.MethodName))) ∈ pU := pU_of (i := 606) rfl rfl
set_option maxRecDepth 20000 in
theorem u_572 : ((Jvm.Cond.code ({ cls := "ViewBroadcast", name := "come", desc := "(I)I" } : Jvm.MethodName) prog_1_method_29_code (4 : Nat) (Option.some Jvm.ClassFile.FieldType.int))) ∈ pU := pU_of (i := 607) rfl rfl
set_option maxRecDepth 20000 in
theorem u_573 : ((Jvm.Cond.methodLink "ViewBroadcast" (245 : Nat) ({ cls := "ViewBroadcast$World", name := "takeLetter", desc := "(I)LViewBroadcast$Letter;" } : Jvm.MethodName))) ∈ pU := pU_of (i := 608) rfl rfl
set_option maxRecDepth 20000 in
theorem u_574 : ((Jvm.Cond.instanceMethod ({ cls := "ViewBroadcast$World", name := "takeLetter", desc := "(I)LViewBroadcast$Letter;" } : Jvm.MethodName))) ∈ pU := pU_of (i := 609) rfl rfl
set_option maxRecDepth 20000 in
theorem u_575 : ((Jvm.Cond.selects "ViewBroadcast$World" ({ cls := "ViewBroadcast$World", name := "takeLetter", desc := "(I)LViewBroadcast$Letter;" } : Jvm.MethodName) ({ cls := "ViewBroadcast$World", name := "takeLetter", desc := "(I)LViewBroadcast$Letter;" } : Jvm.MethodName))) ∈ pU := pU_of (i := 610) rfl rfl
set_option maxRecDepth 20000 in
theorem u_576 : ((Jvm.Cond.code ({ cls := "ViewBroadcast$World", name := "takeLetter", desc := "(I)LViewBroadcast$Letter;" } : Jvm.MethodName) prog_11_method_9_code (2 : Nat) (Option.some (Jvm.ClassFile.FieldType.object "ViewBroadcast$Letter")))) ∈ pU := pU_of (i := 611) rfl rfl
set_option maxRecDepth 20000 in
theorem u_577 : ((Jvm.Cond.methodLink "ViewBroadcast$World" (118 : Nat) ({ cls := "ViewBroadcast$Row", name := "at", desc := "(I)LViewBroadcast$Letter;" } : Jvm.MethodName))) ∈ pU := pU_of (i := 612) rfl rfl
set_option maxRecDepth 20000 in
theorem u_578 : ((Jvm.Cond.methodLink "ViewBroadcast$World" (121 : Nat) ({ cls := "ViewBroadcast$Letter", name := "copyFrom", desc := "(LViewBroadcast$Letter;)V" } : Jvm.MethodName))) ∈ pU := pU_of (i := 613) rfl rfl
set_option maxRecDepth 20000 in
theorem u_579 : ((Jvm.Cond.instanceMethod ({ cls := "ViewBroadcast$Letter", name := "copyFrom", desc := "(LViewBroadcast$Letter;)V" } : Jvm.MethodName))) ∈ pU := pU_of (i := 614) rfl rfl
set_option maxRecDepth 20000 in
theorem u_580 : ((Jvm.Cond.selects "ViewBroadcast$Letter" ({ cls := "ViewBroadcast$Letter", name := "copyFrom", desc := "(LViewBroadcast$Letter;)V" } : Jvm.MethodName) ({ cls := "ViewBroadcast$Letter", name := "copyFrom", desc := "(LViewBroadcast$Letter;)V" } : Jvm.MethodName))) ∈ pU := pU_of (i := 615) rfl rfl
set_option maxRecDepth 20000 in
theorem u_581 : ((Jvm.Cond.code ({ cls := "ViewBroadcast$Letter", name := "copyFrom", desc := "(LViewBroadcast$Letter;)V" } : Jvm.MethodName) prog_3_method_3_code (2 : Nat) (Option.none : Option Jvm.ClassFile.FieldType))) ∈ pU := pU_of (i := 616) rfl rfl
set_option maxRecDepth 20000 in
theorem u_582 : ((Jvm.Cond.methodLink "ViewBroadcast$Letter" (39 : Nat) ({ cls := "ViewBroadcast$Letter", name := "write", desc := "(IIIII)V" } : Jvm.MethodName))) ∈ pU := pU_of (i := 617) rfl rfl
set_option maxRecDepth 20000 in
theorem u_583 : ((Jvm.Cond.methodLink "ViewBroadcast$Letter" (43 : Nat) ({ cls := "ViewBroadcast$NodeList", name := "copyFrom", desc := "(LViewBroadcast$NodeList;)V" } : Jvm.MethodName))) ∈ pU := pU_of (i := 618) rfl rfl
set_option maxRecDepth 20000 in
theorem u_584 : ((Jvm.Cond.methodLink "ViewBroadcast$World" (124 : Nat) ({ cls := "ViewBroadcast$Row", name := "removeAt", desc := "(I)V" } : Jvm.MethodName))) ∈ pU := pU_of (i := 619) rfl rfl
set_option maxRecDepth 20000 in
theorem u_585 : ((Jvm.Cond.instanceMethod ({ cls := "ViewBroadcast$Row", name := "removeAt", desc := "(I)V" } : Jvm.MethodName))) ∈ pU := pU_of (i := 620) rfl rfl
set_option maxRecDepth 20000 in
theorem u_586 : ((Jvm.Cond.selects "ViewBroadcast$Row" ({ cls := "ViewBroadcast$Row", name := "removeAt", desc := "(I)V" } : Jvm.MethodName) ({ cls := "ViewBroadcast$Row", name := "removeAt", desc := "(I)V" } : Jvm.MethodName))) ∈ pU := pU_of (i := 621) rfl rfl
set_option maxRecDepth 20000 in
theorem u_587 : ((Jvm.Cond.code ({ cls := "ViewBroadcast$Row", name := "removeAt", desc := "(I)V" } : Jvm.MethodName) prog_7_method_6_code (4 : Nat) (Option.none : Option Jvm.ClassFile.FieldType))) ∈ pU := pU_of (i := 622) rfl rfl
set_option maxRecDepth 20000 in
theorem u_588 : ((Jvm.Cond.methodLink "ViewBroadcast$Row" (32 : Nat) ({ cls := "ViewBroadcast$Row", name := "isLetter", desc := "(I)Z" } : Jvm.MethodName))) ∈ pU := pU_of (i := 623) rfl rfl
set_option maxRecDepth 20000 in
theorem u_589 : ((Jvm.Cond.methodLink "ViewBroadcast" (248 : Nat) ({ cls := "ViewBroadcast$Views", name := "onJoin", desc := "(LViewBroadcast$Node;I)V" } : Jvm.MethodName))) ∈ pU := pU_of (i := 624) rfl rfl
set_option maxRecDepth 20000 in
theorem u_590 : ((Jvm.Cond.instanceMethod ({ cls := "ViewBroadcast$Views", name := "onJoin", desc := "(LViewBroadcast$Node;I)V" } : Jvm.MethodName))) ∈ pU := pU_of (i := 625) rfl rfl
set_option maxRecDepth 20000 in
theorem u_591 : ((Jvm.Cond.selects "ViewBroadcast$Views" ({ cls := "ViewBroadcast$Views", name := "onJoin", desc := "(LViewBroadcast$Node;I)V" } : Jvm.MethodName) ({ cls := "ViewBroadcast$Views", name := "onJoin", desc := "(LViewBroadcast$Node;I)V" } : Jvm.MethodName))) ∈ pU := pU_of (i := 626) rfl rfl
set_option maxRecDepth 20000 in
theorem u_592 : ((Jvm.Cond.code ({ cls := "ViewBroadcast$Views", name := "onJoin", desc := "(LViewBroadcast$Node;I)V" } : Jvm.MethodName) prog_10_method_11_code (5 : Nat) (Option.none : Option Jvm.ClassFile.FieldType))) ∈ pU := pU_of (i := 627) rfl rfl
set_option maxRecDepth 20000 in
theorem u_593 : ((Jvm.Cond.methodLink "ViewBroadcast$Views" (112 : Nat) ({ cls := "ViewBroadcast$Views", name := "add", desc := "(LViewBroadcast$Node;I)V" } : Jvm.MethodName))) ∈ pU := pU_of (i := 628) rfl rfl
set_option maxRecDepth 20000 in
theorem u_594 : ((Jvm.Cond.instanceMethod ({ cls := "ViewBroadcast$Views", name := "add", desc := "(LViewBroadcast$Node;I)V" } : Jvm.MethodName))) ∈ pU := pU_of (i := 629) rfl rfl
set_option maxRecDepth 20000 in
theorem u_595 : ((Jvm.Cond.selects "ViewBroadcast$Views" ({ cls := "ViewBroadcast$Views", name := "add", desc := "(LViewBroadcast$Node;I)V" } : Jvm.MethodName) ({ cls := "ViewBroadcast$Views", name := "add", desc := "(LViewBroadcast$Node;I)V" } : Jvm.MethodName))) ∈ pU := pU_of (i := 630) rfl rfl
set_option maxRecDepth 20000 in
theorem u_596 : ((Jvm.Cond.code ({ cls := "ViewBroadcast$Views", name := "add", desc := "(LViewBroadcast$Node;I)V" } : Jvm.MethodName) prog_10_method_7_code (3 : Nat) (Option.none : Option Jvm.ClassFile.FieldType))) ∈ pU := pU_of (i := 631) rfl rfl
set_option maxRecDepth 20000 in
theorem u_597 : ((Jvm.Cond.methodLink "ViewBroadcast$Views" (74 : Nat) ({ cls := "ViewBroadcast$NodeList", name := "has", desc := "(I)Z" } : Jvm.MethodName))) ∈ pU := pU_of (i := 632) rfl rfl
set_option maxRecDepth 20000 in
theorem u_598 : ((Jvm.Cond.methodLink "ViewBroadcast$Views" (81 : Nat) ({ cls := "ViewBroadcast$NodeList", name := "remove", desc := "(I)V" } : Jvm.MethodName))) ∈ pU := pU_of (i := 633) rfl rfl
set_option maxRecDepth 20000 in
theorem u_599 : ((Jvm.Cond.instanceMethod ({ cls := "ViewBroadcast$NodeList", name := "remove", desc := "(I)V" } : Jvm.MethodName))) ∈ pU := pU_of (i := 634) rfl rfl
set_option maxRecDepth 20000 in
theorem u_600 : ((Jvm.Cond.selects "ViewBroadcast$NodeList" ({ cls := "ViewBroadcast$NodeList", name := "remove", desc := "(I)V" } : Jvm.MethodName) ({ cls := "ViewBroadcast$NodeList", name := "remove", desc := "(I)V" } : Jvm.MethodName))) ∈ pU := pU_of (i := 635) rfl rfl
set_option maxRecDepth 20000 in
theorem u_601 : ((Jvm.Cond.code ({ cls := "ViewBroadcast$NodeList", name := "remove", desc := "(I)V" } : Jvm.MethodName) prog_6_method_7_code (2 : Nat) (Option.none : Option Jvm.ClassFile.FieldType))) ∈ pU := pU_of (i := 636) rfl rfl
set_option maxRecDepth 20000 in
theorem u_602 : ((Jvm.Cond.methodLink "ViewBroadcast$NodeList" (29 : Nat) ({ cls := "ViewBroadcast$NodeList", name := "removeAt", desc := "(I)V" } : Jvm.MethodName))) ∈ pU := pU_of (i := 637) rfl rfl
set_option maxRecDepth 20000 in
theorem u_603 : ((Jvm.Cond.methodLink "ViewBroadcast$Views" (84 : Nat) ({ cls := "ViewBroadcast$Views", name := "isFull", desc := "(LViewBroadcast$Node;)Z" } : Jvm.MethodName))) ∈ pU := pU_of (i := 638) rfl rfl
set_option maxRecDepth 20000 in
theorem u_604 : ((Jvm.Cond.instanceMethod ({ cls := "ViewBroadcast$Views", name := "isFull", desc := "(LViewBroadcast$Node;)Z" } : Jvm.MethodName))) ∈ pU := pU_of (i := 639) rfl rfl
set_option maxRecDepth 20000 in
theorem u_605 : ((Jvm.Cond.selects "ViewBroadcast$Views" ({ cls := "ViewBroadcast$Views", name := "isFull", desc := "(LViewBroadcast$Node;)Z" } : Jvm.MethodName) ({ cls := "ViewBroadcast$Views", name := "isFull", desc := "(LViewBroadcast$Node;)Z" } : Jvm.MethodName))) ∈ pU := pU_of (i := 640) rfl rfl
set_option maxRecDepth 20000 in
theorem u_606 : ((Jvm.Cond.code ({ cls := "ViewBroadcast$Views", name := "isFull", desc := "(LViewBroadcast$Node;)Z" } : Jvm.MethodName) prog_10_method_6_code (2 : Nat) (Option.some Jvm.ClassFile.FieldType.boolean))) ∈ pU := pU_of (i := 641) rfl rfl
set_option maxRecDepth 20000 in
theorem u_607 : ((Jvm.Cond.methodLink "ViewBroadcast$Views" (88 : Nat) ({ cls := "ViewBroadcast$Views", name := "drop", desc := "(LViewBroadcast$Node;I)V" } : Jvm.MethodName))) ∈ pU := pU_of (i := 642) rfl rfl
set_option maxRecDepth 20000 in
theorem u_608 : ((Jvm.Cond.instanceMethod ({ cls := "ViewBroadcast$Views", name := "drop", desc := "(LViewBroadcast$Node;I)V" } : Jvm.MethodName))) ∈ pU := pU_of (i := 643) rfl rfl
set_option maxRecDepth 20000 in
theorem u_609 : ((Jvm.Cond.selects "ViewBroadcast$Views" ({ cls := "ViewBroadcast$Views", name := "drop", desc := "(LViewBroadcast$Node;I)V" } : Jvm.MethodName) ({ cls := "ViewBroadcast$Views", name := "drop", desc := "(LViewBroadcast$Node;I)V" } : Jvm.MethodName))) ∈ pU := pU_of (i := 644) rfl rfl
set_option maxRecDepth 20000 in
theorem u_610 : ((Jvm.Cond.code ({ cls := "ViewBroadcast$Views", name := "drop", desc := "(LViewBroadcast$Node;I)V" } : Jvm.MethodName) prog_10_method_8_code (3 : Nat) (Option.none : Option Jvm.ClassFile.FieldType))) ∈ pU := pU_of (i := 645) rfl rfl
set_option maxRecDepth 20000 in
theorem u_611 : ((Jvm.Cond.methodLink "ViewBroadcast$Views" (40 : Nat) ({ cls := "ViewBroadcast$World", name := "send", desc := "(IIIII)LViewBroadcast$Letter;" } : Jvm.MethodName))) ∈ pU := pU_of (i := 646) rfl rfl
set_option maxRecDepth 20000 in
theorem u_612 : ((Jvm.Cond.methodLink "ViewBroadcast$Views" (98 : Nat) ({ cls := "ViewBroadcast$Node", name := "unlink", desc := "(I)V" } : Jvm.MethodName))) ∈ pU := pU_of (i := 647) rfl rfl
set_option maxRecDepth 20000 in
theorem u_613 : ((Jvm.Cond.instanceMethod ({ cls := "ViewBroadcast$Node", name := "unlink", desc := "(I)V" } : Jvm.MethodName))) ∈ pU := pU_of (i := 648) rfl rfl
set_option maxRecDepth 20000 in
theorem u_614 : ((Jvm.Cond.selects "ViewBroadcast$Node" ({ cls := "ViewBroadcast$Node", name := "unlink", desc := "(I)V" } : Jvm.MethodName) ({ cls := "ViewBroadcast$Node", name := "unlink", desc := "(I)V" } : Jvm.MethodName))) ∈ pU := pU_of (i := 649) rfl rfl
set_option maxRecDepth 20000 in
theorem u_615 : ((Jvm.Cond.code ({ cls := "ViewBroadcast$Node", name := "unlink", desc := "(I)V" } : Jvm.MethodName) prog_5_method_12_code (3 : Nat) (Option.none : Option Jvm.ClassFile.FieldType))) ∈ pU := pU_of (i := 650) rfl rfl
set_option maxRecDepth 20000 in
theorem u_616 : ((Jvm.Cond.methodLink "ViewBroadcast$Node" (71 : Nat) ({ cls := "ViewBroadcast$NodeList", name := "remove", desc := "(I)V" } : Jvm.MethodName))) ∈ pU := pU_of (i := 651) rfl rfl
set_option maxRecDepth 20000 in
theorem u_617 : ((Jvm.Cond.methodLink "ViewBroadcast$Node" (74 : Nat) ({ cls := "ViewBroadcast$Node", name := "makeEager", desc := "(I)V" } : Jvm.MethodName))) ∈ pU := pU_of (i := 652) rfl rfl
set_option maxRecDepth 20000 in
theorem u_618 : ((Jvm.Cond.methodLink "ViewBroadcast$Views" (101 : Nat) ({ cls := "ViewBroadcast$Views", name := "note", desc := "(LViewBroadcast$Node;I)V" } : Jvm.MethodName))) ∈ pU := pU_of (i := 653) rfl rfl
set_option maxRecDepth 20000 in
theorem u_619 : ((Jvm.Cond.instanceMethod ({ cls := "ViewBroadcast$Views", name := "note", desc := "(LViewBroadcast$Node;I)V" } : Jvm.MethodName))) ∈ pU := pU_of (i := 654) rfl rfl
set_option maxRecDepth 20000 in
theorem u_620 : ((Jvm.Cond.selects "ViewBroadcast$Views" ({ cls := "ViewBroadcast$Views", name := "note", desc := "(LViewBroadcast$Node;I)V" } : Jvm.MethodName) ({ cls := "ViewBroadcast$Views", name := "note", desc := "(LViewBroadcast$Node;I)V" } : Jvm.MethodName))) ∈ pU := pU_of (i := 655) rfl rfl
set_option maxRecDepth 20000 in
theorem u_621 : ((Jvm.Cond.code ({ cls := "ViewBroadcast$Views", name := "note", desc := "(LViewBroadcast$Node;I)V" } : Jvm.MethodName) prog_10_method_9_code (3 : Nat) (Option.none : Option Jvm.ClassFile.FieldType))) ∈ pU := pU_of (i := 656) rfl rfl
set_option maxRecDepth 20000 in
theorem u_622 : ((Jvm.Cond.methodLink "ViewBroadcast$Views" (92 : Nat) ({ cls := "ViewBroadcast$Node", name := "makeEager", desc := "(I)V" } : Jvm.MethodName))) ∈ pU := pU_of (i := 657) rfl rfl
set_option maxRecDepth 20000 in
theorem u_623 : ((Jvm.Cond.methodLink "ViewBroadcast$Views" (109 : Nat) ({ cls := "ViewBroadcast$Views", name := "send", desc := "(LViewBroadcast$Node;IIII)V" } : Jvm.MethodName))) ∈ pU := pU_of (i := 658) rfl rfl
set_option maxRecDepth 20000 in
theorem u_624 : ((Jvm.Cond.instanceMethod ({ cls := "ViewBroadcast$Views", name := "send", desc := "(LViewBroadcast$Node;IIII)V" } : Jvm.MethodName))) ∈ pU := pU_of (i := 659) rfl rfl
set_option maxRecDepth 20000 in
theorem u_625 : ((Jvm.Cond.selects "ViewBroadcast$Views" ({ cls := "ViewBroadcast$Views", name := "send", desc := "(LViewBroadcast$Node;IIII)V" } : Jvm.MethodName) ({ cls := "ViewBroadcast$Views", name := "send", desc := "(LViewBroadcast$Node;IIII)V" } : Jvm.MethodName))) ∈ pU := pU_of (i := 660) rfl rfl
set_option maxRecDepth 20000 in
theorem u_626 : ((Jvm.Cond.code ({ cls := "ViewBroadcast$Views", name := "send", desc := "(LViewBroadcast$Node;IIII)V" } : Jvm.MethodName) prog_10_method_2_code (6 : Nat) (Option.none : Option Jvm.ClassFile.FieldType))) ∈ pU := pU_of (i := 661) rfl rfl
set_option maxRecDepth 20000 in
theorem u_627 : ((Jvm.Cond.methodLink "ViewBroadcast" (252 : Nat) ({ cls := "ViewBroadcast$Views", name := "onWalk", desc := "(LViewBroadcast$Node;III)V" } : Jvm.MethodName))) ∈ pU := pU_of (i := 662) rfl rfl
set_option maxRecDepth 20000 in
theorem u_628 : ((Jvm.Cond.instanceMethod ({ cls := "ViewBroadcast$Views", name := "onWalk", desc := "(LViewBroadcast$Node;III)V" } : Jvm.MethodName))) ∈ pU := pU_of (i := 663) rfl rfl
set_option maxRecDepth 20000 in
theorem u_629 : ((Jvm.Cond.selects "ViewBroadcast$Views" ({ cls := "ViewBroadcast$Views", name := "onWalk", desc := "(LViewBroadcast$Node;III)V" } : Jvm.MethodName) ({ cls := "ViewBroadcast$Views", name := "onWalk", desc := "(LViewBroadcast$Node;III)V" } : Jvm.MethodName))) ∈ pU := pU_of (i := 664) rfl rfl
set_option maxRecDepth 20000 in
theorem u_630 : ((Jvm.Cond.code ({ cls := "ViewBroadcast$Views", name := "onWalk", desc := "(LViewBroadcast$Node;III)V" } : Jvm.MethodName) prog_10_method_12_code (6 : Nat) (Option.none : Option Jvm.ClassFile.FieldType))) ∈ pU := pU_of (i := 665) rfl rfl
set_option maxRecDepth 20000 in
theorem u_631 : ((Jvm.Cond.methodLink "ViewBroadcast" (255 : Nat) ({ cls := "ViewBroadcast$Views", name := "onWelcome", desc := "(LViewBroadcast$Node;I)V" } : Jvm.MethodName))) ∈ pU := pU_of (i := 666) rfl rfl
set_option maxRecDepth 20000 in
theorem u_632 : ((Jvm.Cond.instanceMethod ({ cls := "ViewBroadcast$Views", name := "onWelcome", desc := "(LViewBroadcast$Node;I)V" } : Jvm.MethodName))) ∈ pU := pU_of (i := 667) rfl rfl
set_option maxRecDepth 20000 in
theorem u_633 : ((Jvm.Cond.selects "ViewBroadcast$Views" ({ cls := "ViewBroadcast$Views", name := "onWelcome", desc := "(LViewBroadcast$Node;I)V" } : Jvm.MethodName) ({ cls := "ViewBroadcast$Views", name := "onWelcome", desc := "(LViewBroadcast$Node;I)V" } : Jvm.MethodName))) ∈ pU := pU_of (i := 668) rfl rfl
set_option maxRecDepth 20000 in
theorem u_634 : ((Jvm.Cond.code ({ cls := "ViewBroadcast$Views", name := "onWelcome", desc := "(LViewBroadcast$Node;I)V" } : Jvm.MethodName) prog_10_method_13_code (3 : Nat) (Option.none : Option Jvm.ClassFile.FieldType))) ∈ pU := pU_of (i := 669) rfl rfl
set_option maxRecDepth 20000 in
theorem u_635 : ((Jvm.Cond.methodLink "ViewBroadcast" (258 : Nat) ({ cls := "ViewBroadcast$Views", name := "onParting", desc := "(LViewBroadcast$Node;I)V" } : Jvm.MethodName))) ∈ pU := pU_of (i := 670) rfl rfl
set_option maxRecDepth 20000 in
theorem u_636 : ((Jvm.Cond.instanceMethod ({ cls := "ViewBroadcast$Views", name := "onParting", desc := "(LViewBroadcast$Node;I)V" } : Jvm.MethodName))) ∈ pU := pU_of (i := 671) rfl rfl
set_option maxRecDepth 20000 in
theorem u_637 : ((Jvm.Cond.selects "ViewBroadcast$Views" ({ cls := "ViewBroadcast$Views", name := "onParting", desc := "(LViewBroadcast$Node;I)V" } : Jvm.MethodName) ({ cls := "ViewBroadcast$Views", name := "onParting", desc := "(LViewBroadcast$Node;I)V" } : Jvm.MethodName))) ∈ pU := pU_of (i := 672) rfl rfl
set_option maxRecDepth 20000 in
theorem u_638 : ((Jvm.Cond.code ({ cls := "ViewBroadcast$Views", name := "onParting", desc := "(LViewBroadcast$Node;I)V" } : Jvm.MethodName) prog_10_method_14_code (3 : Nat) (Option.none : Option Jvm.ClassFile.FieldType))) ∈ pU := pU_of (i := 673) rfl rfl
set_option maxRecDepth 20000 in
theorem u_639 : ((Jvm.Cond.methodLink "ViewBroadcast$Views" (125 : Nat) ({ cls := "ViewBroadcast$Views", name := "mend", desc := "(LViewBroadcast$Node;)V" } : Jvm.MethodName))) ∈ pU := pU_of (i := 674) rfl rfl
set_option maxRecDepth 20000 in
theorem u_640 : ((Jvm.Cond.instanceMethod ({ cls := "ViewBroadcast$Views", name := "mend", desc := "(LViewBroadcast$Node;)V" } : Jvm.MethodName))) ∈ pU := pU_of (i := 675) rfl rfl
set_option maxRecDepth 20000 in
theorem u_641 : ((Jvm.Cond.selects "ViewBroadcast$Views" ({ cls := "ViewBroadcast$Views", name := "mend", desc := "(LViewBroadcast$Node;)V" } : Jvm.MethodName) ({ cls := "ViewBroadcast$Views", name := "mend", desc := "(LViewBroadcast$Node;)V" } : Jvm.MethodName))) ∈ pU := pU_of (i := 676) rfl rfl
set_option maxRecDepth 20000 in
theorem u_642 : ((Jvm.Cond.code ({ cls := "ViewBroadcast$Views", name := "mend", desc := "(LViewBroadcast$Node;)V" } : Jvm.MethodName) prog_10_method_10_code (4 : Nat) (Option.none : Option Jvm.ClassFile.FieldType))) ∈ pU := pU_of (i := 677) rfl rfl
set_option maxRecDepth 20000 in
theorem u_643 : ((Jvm.Cond.methodLink "ViewBroadcast" (261 : Nat) ({ cls := "ViewBroadcast$Views", name := "onAsking", desc := "(LViewBroadcast$Node;II)V" } : Jvm.MethodName))) ∈ pU := pU_of (i := 678) rfl rfl
set_option maxRecDepth 20000 in
theorem u_644 : ((Jvm.Cond.instanceMethod ({ cls := "ViewBroadcast$Views", name := "onAsking", desc := "(LViewBroadcast$Node;II)V" } : Jvm.MethodName))) ∈ pU := pU_of (i := 679) rfl rfl
set_option maxRecDepth 20000 in
theorem u_645 : ((Jvm.Cond.selects "ViewBroadcast$Views" ({ cls := "ViewBroadcast$Views", name := "onAsking", desc := "(LViewBroadcast$Node;II)V" } : Jvm.MethodName) ({ cls := "ViewBroadcast$Views", name := "onAsking", desc := "(LViewBroadcast$Node;II)V" } : Jvm.MethodName))) ∈ pU := pU_of (i := 680) rfl rfl
set_option maxRecDepth 20000 in
theorem u_646 : ((Jvm.Cond.code ({ cls := "ViewBroadcast$Views", name := "onAsking", desc := "(LViewBroadcast$Node;II)V" } : Jvm.MethodName) prog_10_method_15_code (4 : Nat) (Option.none : Option Jvm.ClassFile.FieldType))) ∈ pU := pU_of (i := 681) rfl rfl
set_option maxRecDepth 20000 in
theorem u_647 : ((Jvm.Cond.methodLink "ViewBroadcast" (265 : Nat) ({ cls := "ViewBroadcast$Views", name := "onRefusal", desc := "(LViewBroadcast$Node;I)V" } : Jvm.MethodName))) ∈ pU := pU_of (i := 682) rfl rfl
set_option maxRecDepth 20000 in
theorem u_648 : ((Jvm.Cond.instanceMethod ({ cls := "ViewBroadcast$Views", name := "onRefusal", desc := "(LViewBroadcast$Node;I)V" } : Jvm.MethodName))) ∈ pU := pU_of (i := 683) rfl rfl
set_option maxRecDepth 20000 in
theorem u_649 : ((Jvm.Cond.selects "ViewBroadcast$Views" ({ cls := "ViewBroadcast$Views", name := "onRefusal", desc := "(LViewBroadcast$Node;I)V" } : Jvm.MethodName) ({ cls := "ViewBroadcast$Views", name := "onRefusal", desc := "(LViewBroadcast$Node;I)V" } : Jvm.MethodName))) ∈ pU := pU_of (i := 684) rfl rfl
set_option maxRecDepth 20000 in
theorem u_650 : ((Jvm.Cond.code ({ cls := "ViewBroadcast$Views", name := "onRefusal", desc := "(LViewBroadcast$Node;I)V" } : Jvm.MethodName) prog_10_method_16_code (3 : Nat) (Option.none : Option Jvm.ClassFile.FieldType))) ∈ pU := pU_of (i := 685) rfl rfl
set_option maxRecDepth 20000 in
theorem u_651 : ((Jvm.Cond.methodLink "ViewBroadcast" (268 : Nat) ({ cls := "ViewBroadcast$Views", name := "onMix", desc := "(LViewBroadcast$Node;LViewBroadcast$Letter;)V" } : Jvm.MethodName))) ∈ pU := pU_of (i := 686) rfl rfl
set_option maxRecDepth 20000 in
theorem u_652 : ((Jvm.Cond.instanceMethod ({ cls := "ViewBroadcast$Views", name := "onMix", desc := "(LViewBroadcast$Node;LViewBroadcast$Letter;)V" } : Jvm.MethodName))) ∈ pU := pU_of (i := 687) rfl rfl
set_option maxRecDepth 20000 in
theorem u_653 : ((Jvm.Cond.selects "ViewBroadcast$Views" ({ cls := "ViewBroadcast$Views", name := "onMix", desc := "(LViewBroadcast$Node;LViewBroadcast$Letter;)V" } : Jvm.MethodName) ({ cls := "ViewBroadcast$Views", name := "onMix", desc := "(LViewBroadcast$Node;LViewBroadcast$Letter;)V" } : Jvm.MethodName))) ∈ pU := pU_of (i := 688) rfl rfl
set_option maxRecDepth 20000 in
theorem u_654 : ((Jvm.Cond.code ({ cls := "ViewBroadcast$Views", name := "onMix", desc := "(LViewBroadcast$Node;LViewBroadcast$Letter;)V" } : Jvm.MethodName) prog_10_method_17_code (4 : Nat) (Option.none : Option Jvm.ClassFile.FieldType))) ∈ pU := pU_of (i := 689) rfl rfl
set_option maxRecDepth 20000 in
theorem u_655 : ((Jvm.Cond.methodLink "ViewBroadcast$Views" (147 : Nat) ({ cls := "ViewBroadcast$Views", name := "answerMix", desc := "(LViewBroadcast$Node;II)V" } : Jvm.MethodName))) ∈ pU := pU_of (i := 690) rfl rfl
set_option maxRecDepth 20000 in
theorem u_656 : ((Jvm.Cond.instanceMethod ({ cls := "ViewBroadcast$Views", name := "answerMix", desc := "(LViewBroadcast$Node;II)V" } : Jvm.MethodName))) ∈ pU := pU_of (i := 691) rfl rfl
set_option maxRecDepth 20000 in
theorem u_657 : ((Jvm.Cond.selects "ViewBroadcast$Views" ({ cls := "ViewBroadcast$Views", name := "answerMix", desc := "(LViewBroadcast$Node;II)V" } : Jvm.MethodName) ({ cls := "ViewBroadcast$Views", name := "answerMix", desc := "(LViewBroadcast$Node;II)V" } : Jvm.MethodName))) ∈ pU := pU_of (i := 692) rfl rfl
set_option maxRecDepth 20000 in
theorem u_658 : ((Jvm.Cond.code ({ cls := "ViewBroadcast$Views", name := "answerMix", desc := "(LViewBroadcast$Node;II)V" } : Jvm.MethodName) prog_10_method_18_code (4 : Nat) (Option.none : Option Jvm.ClassFile.FieldType))) ∈ pU := pU_of (i := 693) rfl rfl
set_option maxRecDepth 20000 in
theorem u_659 : ((Jvm.Cond.methodLink "ViewBroadcast$Views" (151 : Nat) ({ cls := "ViewBroadcast$Views", name := "takeList", desc := "(LViewBroadcast$Node;LViewBroadcast$NodeList;)V" } : Jvm.MethodName))) ∈ pU := pU_of (i := 694) rfl rfl
set_option maxRecDepth 20000 in
theorem u_660 : ((Jvm.Cond.instanceMethod ({ cls := "ViewBroadcast$Views", name := "takeList", desc := "(LViewBroadcast$Node;LViewBroadcast$NodeList;)V" } : Jvm.MethodName))) ∈ pU := pU_of (i := 695) rfl rfl
set_option maxRecDepth 20000 in
theorem u_661 : ((Jvm.Cond.selects "ViewBroadcast$Views" ({ cls := "ViewBroadcast$Views", name := "takeList", desc := "(LViewBroadcast$Node;LViewBroadcast$NodeList;)V" } : Jvm.MethodName) ({ cls := "ViewBroadcast$Views", name := "takeList", desc := "(LViewBroadcast$Node;LViewBroadcast$NodeList;)V" } : Jvm.MethodName))) ∈ pU := pU_of (i := 696) rfl rfl
set_option maxRecDepth 20000 in
theorem u_662 : ((Jvm.Cond.code ({ cls := "ViewBroadcast$Views", name := "takeList", desc := "(LViewBroadcast$Node;LViewBroadcast$NodeList;)V" } : Jvm.MethodName) prog_10_method_19_code (4 : Nat) (Option.none : Option Jvm.ClassFile.FieldType))) ∈ pU := pU_of (i := 697) rfl rfl
set_option maxRecDepth 20000 in
theorem u_663 : ((Jvm.Cond.methodLink "ViewBroadcast" (272 : Nat) ({ cls := "ViewBroadcast$Views", name := "takeList", desc := "(LViewBroadcast$Node;LViewBroadcast$NodeList;)V" } : Jvm.MethodName))) ∈ pU := pU_of (i := 698) rfl rfl
set_option maxRecDepth 20000 in
theorem u_664 : ((Jvm.Cond.methodLink "ViewBroadcast" (276 : Nat) ({ cls := "ViewBroadcast$Tales", name := "onTell", desc := "(LViewBroadcast$Node;III)V" } : Jvm.MethodName))) ∈ pU := pU_of (i := 699) rfl rfl
set_option maxRecDepth 20000 in
theorem u_665 : ((Jvm.Cond.instanceMethod ({ cls := "ViewBroadcast$Tales", name := "onTell", desc := "(LViewBroadcast$Node;III)V" } : Jvm.MethodName))) ∈ pU := pU_of (i := 700) rfl rfl
set_option maxRecDepth 20000 in
theorem u_666 : ((Jvm.Cond.selects "ViewBroadcast$Tales" ({ cls := "ViewBroadcast$Tales", name := "onTell", desc := "(LViewBroadcast$Node;III)V" } : Jvm.MethodName) ({ cls := "ViewBroadcast$Tales", name := "onTell", desc := "(LViewBroadcast$Node;III)V" } : Jvm.MethodName))) ∈ pU := pU_of (i := 701) rfl rfl
set_option maxRecDepth 20000 in
theorem u_667 : ((Jvm.Cond.code ({ cls := "ViewBroadcast$Tales", name := "onTell", desc := "(LViewBroadcast$Node;III)V" } : Jvm.MethodName) prog_9_method_4_code (5 : Nat) (Option.none : Option Jvm.ClassFile.FieldType))) ∈ pU := pU_of (i := 702) rfl rfl
set_option maxRecDepth 20000 in
theorem u_668 : ((Jvm.Cond.methodLink "ViewBroadcast$Tales" (51 : Nat) ({ cls := "ViewBroadcast$NodeList", name := "has", desc := "(I)Z" } : Jvm.MethodName))) ∈ pU := pU_of (i := 703) rfl rfl
set_option maxRecDepth 20000 in
theorem u_669 : ((Jvm.Cond.methodLink "ViewBroadcast$Tales" (54 : Nat) ({ cls := "ViewBroadcast$Node", name := "knows", desc := "(I)Z" } : Jvm.MethodName))) ∈ pU := pU_of (i := 704) rfl rfl
set_option maxRecDepth 20000 in
theorem u_670 : ((Jvm.Cond.instanceMethod ({ cls := "ViewBroadcast$Node", name := "knows", desc := "(I)Z" } : Jvm.MethodName))) ∈ pU := pU_of (i := 705) rfl rfl
set_option maxRecDepth 20000 in
theorem u_671 : ((Jvm.Cond.selects "ViewBroadcast$Node" ({ cls := "ViewBroadcast$Node", name := "knows", desc := "(I)Z" } : Jvm.MethodName) ({ cls := "ViewBroadcast$Node", name := "knows", desc := "(I)Z" } : Jvm.MethodName))) ∈ pU := pU_of (i := 706) rfl rfl
set_option maxRecDepth 20000 in
theorem u_672 : ((Jvm.Cond.code ({ cls := "ViewBroadcast$Node", name := "knows", desc := "(I)Z" } : Jvm.MethodName) prog_5_method_8_code (2 : Nat) (Option.some Jvm.ClassFile.FieldType.boolean))) ∈ pU := pU_of (i := 707) rfl rfl
set_option maxRecDepth 20000 in
theorem u_673 : ((Jvm.Cond.methodLink "ViewBroadcast$Node" (60 : Nat) ({ cls := "ViewBroadcast$Node", name := "hopsOf", desc := "(I)I" } : Jvm.MethodName))) ∈ pU := pU_of (i := 708) rfl rfl
set_option maxRecDepth 20000 in
theorem u_674 : ((Jvm.Cond.instanceMethod ({ cls := "ViewBroadcast$Node", name := "hopsOf", desc := "(I)I" } : Jvm.MethodName))) ∈ pU := pU_of (i := 709) rfl rfl
set_option maxRecDepth 20000 in
theorem u_675 : ((Jvm.Cond.selects "ViewBroadcast$Node" ({ cls := "ViewBroadcast$Node", name := "hopsOf", desc := "(I)I" } : Jvm.MethodName) ({ cls := "ViewBroadcast$Node", name := "hopsOf", desc := "(I)I" } : Jvm.MethodName))) ∈ pU := pU_of (i := 710) rfl rfl
set_option maxRecDepth 20000 in
theorem u_676 : ((Jvm.Cond.code ({ cls := "ViewBroadcast$Node", name := "hopsOf", desc := "(I)I" } : Jvm.MethodName) prog_5_method_6_code (2 : Nat) (Option.some Jvm.ClassFile.FieldType.int))) ∈ pU := pU_of (i := 711) rfl rfl
set_option maxRecDepth 20000 in
theorem u_677 : ((Jvm.Cond.methodLink "ViewBroadcast$Tales" (57 : Nat) ({ cls := "ViewBroadcast$Node", name := "makeLazy", desc := "(I)V" } : Jvm.MethodName))) ∈ pU := pU_of (i := 712) rfl rfl
set_option maxRecDepth 20000 in
theorem u_678 : ((Jvm.Cond.instanceMethod ({ cls := "ViewBroadcast$Node", name := "makeLazy", desc := "(I)V" } : Jvm.MethodName))) ∈ pU := pU_of (i := 713) rfl rfl
set_option maxRecDepth 20000 in
theorem u_679 : ((Jvm.Cond.selects "ViewBroadcast$Node" ({ cls := "ViewBroadcast$Node", name := "makeLazy", desc := "(I)V" } : Jvm.MethodName) ({ cls := "ViewBroadcast$Node", name := "makeLazy", desc := "(I)V" } : Jvm.MethodName))) ∈ pU := pU_of (i := 714) rfl rfl
set_option maxRecDepth 20000 in
theorem u_680 : ((Jvm.Cond.code ({ cls := "ViewBroadcast$Node", name := "makeLazy", desc := "(I)V" } : Jvm.MethodName) prog_5_method_4_code (2 : Nat) (Option.none : Option Jvm.ClassFile.FieldType))) ∈ pU := pU_of (i := 715) rfl rfl
set_option maxRecDepth 20000 in
theorem u_681 : ((Jvm.Cond.methodLink "ViewBroadcast$Tales" (64 : Nat) ({ cls := "ViewBroadcast$Tales", name := "hear", desc := "(LViewBroadcast$Node;III)V" } : Jvm.MethodName))) ∈ pU := pU_of (i := 716) rfl rfl
set_option maxRecDepth 20000 in
theorem u_682 : ((Jvm.Cond.methodLink "ViewBroadcast" (279 : Nat) ({ cls := "ViewBroadcast$Tales", name := "onNote", desc := "(LViewBroadcast$Node;II)V" } : Jvm.MethodName))) ∈ pU := pU_of (i := 717) rfl rfl
set_option maxRecDepth 20000 in
theorem u_683 : ((Jvm.Cond.instanceMethod ({ cls := "ViewBroadcast$Tales", name := "onNote", desc := "(LViewBroadcast$Node;II)V" } : Jvm.MethodName))) ∈ pU := pU_of (i := 718) rfl rfl
set_option maxRecDepth 20000 in
theorem u_684 : ((Jvm.Cond.selects "ViewBroadcast$Tales" ({ cls := "ViewBroadcast$Tales", name := "onNote", desc := "(LViewBroadcast$Node;II)V" } : Jvm.MethodName) ({ cls := "ViewBroadcast$Tales", name := "onNote", desc := "(LViewBroadcast$Node;II)V" } : Jvm.MethodName))) ∈ pU := pU_of (i := 719) rfl rfl
set_option maxRecDepth 20000 in
theorem u_685 : ((Jvm.Cond.code ({ cls := "ViewBroadcast$Tales", name := "onNote", desc := "(LViewBroadcast$Node;II)V" } : Jvm.MethodName) prog_9_method_5_code (5 : Nat) (Option.none : Option Jvm.ClassFile.FieldType))) ∈ pU := pU_of (i := 720) rfl rfl
set_option maxRecDepth 20000 in
theorem u_686 : ((Jvm.Cond.methodLink "ViewBroadcast$Tales" (96 : Nat) ({ cls := "ViewBroadcast$NodeList", name := "put", desc := "(I)V" } : Jvm.MethodName))) ∈ pU := pU_of (i := 721) rfl rfl
set_option maxRecDepth 20000 in
theorem u_687 : ((Jvm.Cond.methodLink "ViewBroadcast" (282 : Nat) ({ cls := "ViewBroadcast$Tales", name := "onChoice", desc := "(LViewBroadcast$Node;III)V" } : Jvm.MethodName))) ∈ pU := pU_of (i := 722) rfl rfl
set_option maxRecDepth 20000 in
theorem u_688 : ((Jvm.Cond.instanceMethod ({ cls := "ViewBroadcast$Tales", name := "onChoice", desc := "(LViewBroadcast$Node;III)V" } : Jvm.MethodName))) ∈ pU := pU_of (i := 723) rfl rfl
set_option maxRecDepth 20000 in
theorem u_689 : ((Jvm.Cond.selects "ViewBroadcast$Tales" ({ cls := "ViewBroadcast$Tales", name := "onChoice", desc := "(LViewBroadcast$Node;III)V" } : Jvm.MethodName) ({ cls := "ViewBroadcast$Tales", name := "onChoice", desc := "(LViewBroadcast$Node;III)V" } : Jvm.MethodName))) ∈ pU := pU_of (i := 724) rfl rfl
set_option maxRecDepth 20000 in
theorem u_690 : ((Jvm.Cond.code ({ cls := "ViewBroadcast$Tales", name := "onChoice", desc := "(LViewBroadcast$Node;III)V" } : Jvm.MethodName) prog_9_method_6_code (5 : Nat) (Option.none : Option Jvm.ClassFile.FieldType))) ∈ pU := pU_of (i := 725) rfl rfl
set_option maxRecDepth 20000 in
theorem u_691 : ((Jvm.Cond.methodLink "ViewBroadcast$Tales" (99 : Nat) ({ cls := "ViewBroadcast$Node", name := "hopsOf", desc := "(I)I" } : Jvm.MethodName))) ∈ pU := pU_of (i := 726) rfl rfl
set_option maxRecDepth 20000 in
theorem u_692 : ((Jvm.Cond.methodLink "ViewBroadcast" (285 : Nat) ({ cls := "ViewBroadcast$Views", name := "onStopped", desc := "(LViewBroadcast$Node;I)V" } : Jvm.MethodName))) ∈ pU := pU_of (i := 727) rfl rfl
set_option maxRecDepth 20000 in
theorem u_693 : ((Jvm.Cond.instanceMethod ({ cls := "ViewBroadcast$Views", name := "onStopped", desc := "(LViewBroadcast$Node;I)V" } : Jvm.MethodName))) ∈ pU := pU_of (i := 728) rfl rfl
set_option maxRecDepth 20000 in
theorem u_694 : ((Jvm.Cond.selects "ViewBroadcast$Views" ({ cls := "ViewBroadcast$Views", name := "onStopped", desc := "(LViewBroadcast$Node;I)V" } : Jvm.MethodName) ({ cls := "ViewBroadcast$Views", name := "onStopped", desc := "(LViewBroadcast$Node;I)V" } : Jvm.MethodName))) ∈ pU := pU_of (i := 729) rfl rfl
set_option maxRecDepth 20000 in
theorem u_695 : ((Jvm.Cond.code ({ cls := "ViewBroadcast$Views", name := "onStopped", desc := "(LViewBroadcast$Node;I)V" } : Jvm.MethodName) prog_10_method_20_code (3 : Nat) (Option.none : Option Jvm.ClassFile.FieldType))) ∈ pU := pU_of (i := 730) rfl rfl
set_option maxRecDepth 20000 in
theorem u_696 : ((Jvm.Cond.methodLink "ViewBroadcastLaw" (57 : Nat) ({ cls := "ViewBroadcast", name := "go", desc := "(I)I" } : Jvm.MethodName))) ∈ pU := pU_of (i := 731) rfl rfl
set_option maxRecDepth 20000 in
theorem u_697 : ((Jvm.Cond.instanceMethod ({ cls := "ViewBroadcast", name := "go", desc := "(I)I" } : Jvm.MethodName))) ∈ pU := pU_of (i := 732) rfl rfl
set_option maxRecDepth 20000 in
theorem u_698 : ((Jvm.Cond.selects "ViewBroadcast" ({ cls := "ViewBroadcast", name := "go", desc := "(I)I" } : Jvm.MethodName) ({ cls := "ViewBroadcast", name := "go", desc := "(I)I" } : Jvm.MethodName))) ∈ pU := pU_of (i := 733) rfl rfl
set_option maxRecDepth 20000 in
theorem u_699 : ((Jvm.Cond.code ({ cls := "ViewBroadcast", name := "go", desc := "(I)I" } : Jvm.MethodName) prog_1_method_12_code (3 : Nat) (Option.some Jvm.ClassFile.FieldType.int))) ∈ pU := pU_of (i := 734) rfl rfl
set_option maxRecDepth 20000 in
theorem u_700 : ((Jvm.Cond.methodLink "ViewBroadcastLaw" (61 : Nat) ({ cls := "ViewBroadcast", name := "view", desc := "(III)I" } : Jvm.MethodName))) ∈ pU := pU_of (i := 735) rfl rfl
set_option maxRecDepth 20000 in
theorem u_701 : ((Jvm.Cond.instanceMethod ({ cls := "ViewBroadcast", name := "view", desc := "(III)I" } : Jvm.MethodName))) ∈ pU := pU_of (i := 736) rfl rfl
set_option maxRecDepth 20000 in
theorem u_702 : ((Jvm.Cond.selects "ViewBroadcast" ({ cls := "ViewBroadcast", name := "view", desc := "(III)I" } : Jvm.MethodName) ({ cls := "ViewBroadcast", name := "view", desc := "(III)I" } : Jvm.MethodName))) ∈ pU := pU_of (i := 737) rfl rfl
set_option maxRecDepth 20000 in
theorem u_703 : ((Jvm.Cond.code ({ cls := "ViewBroadcast", name := "view", desc := "(III)I" } : Jvm.MethodName) prog_1_method_13_code (6 : Nat) (Option.some Jvm.ClassFile.FieldType.int))) ∈ pU := pU_of (i := 738) rfl rfl
set_option maxRecDepth 20000 in
theorem u_704 : ((Jvm.Cond.methodLink "ViewBroadcast" (147 : Nat) ({ cls := "ViewBroadcast$NodeList", name := "at", desc := "(I)I" } : Jvm.MethodName))) ∈ pU := pU_of (i := 739) rfl rfl
set_option maxRecDepth 20000 in
theorem u_705 : ((Jvm.Cond.methodLink "ViewBroadcastLaw" (65 : Nat) ({ cls := "ViewBroadcast", name := "how", desc := "(II)I" } : Jvm.MethodName))) ∈ pU := pU_of (i := 740) rfl rfl
set_option maxRecDepth 20000 in
theorem u_706 : ((Jvm.Cond.instanceMethod ({ cls := "ViewBroadcast", name := "how", desc := "(II)I" } : Jvm.MethodName))) ∈ pU := pU_of (i := 741) rfl rfl
set_option maxRecDepth 20000 in
theorem u_707 : ((Jvm.Cond.selects "ViewBroadcast" ({ cls := "ViewBroadcast", name := "how", desc := "(II)I" } : Jvm.MethodName) ({ cls := "ViewBroadcast", name := "how", desc := "(II)I" } : Jvm.MethodName))) ∈ pU := pU_of (i := 742) rfl rfl
set_option maxRecDepth 20000 in
theorem u_708 : ((Jvm.Cond.code ({ cls := "ViewBroadcast", name := "how", desc := "(II)I" } : Jvm.MethodName) prog_1_method_14_code (4 : Nat) (Option.some Jvm.ClassFile.FieldType.int))) ∈ pU := pU_of (i := 743) rfl rfl
set_option maxRecDepth 20000 in
theorem u_709 : ((Jvm.Cond.methodLink "ViewBroadcast" (150 : Nat) ({ cls := "ViewBroadcast$NodeList", name := "has", desc := "(I)Z" } : Jvm.MethodName))) ∈ pU := pU_of (i := 744) rfl rfl
set_option maxRecDepth 20000 in
theorem u_710 : ((Jvm.Cond.methodLink "ViewBroadcast" (153 : Nat) ({ cls := "ViewBroadcast$Node", name := "isLazy", desc := "(I)Z" } : Jvm.MethodName))) ∈ pU := pU_of (i := 745) rfl rfl
set_option maxRecDepth 20000 in
theorem u_711 : ((Jvm.Cond.methodLink "ViewBroadcastLaw" (69 : Nat) ({ cls := "ViewBroadcast", name := "heard", desc := "(II)I" } : Jvm.MethodName))) ∈ pU := pU_of (i := 746) rfl rfl
set_option maxRecDepth 20000 in
theorem u_712 : ((Jvm.Cond.instanceMethod ({ cls := "ViewBroadcast", name := "heard", desc := "(II)I" } : Jvm.MethodName))) ∈ pU := pU_of (i := 747) rfl rfl
set_option maxRecDepth 20000 in
theorem u_713 : ((Jvm.Cond.selects "ViewBroadcast" ({ cls := "ViewBroadcast", name := "heard", desc := "(II)I" } : Jvm.MethodName) ({ cls := "ViewBroadcast", name := "heard", desc := "(II)I" } : Jvm.MethodName))) ∈ pU := pU_of (i := 748) rfl rfl
set_option maxRecDepth 20000 in
theorem u_714 : ((Jvm.Cond.code ({ cls := "ViewBroadcast", name := "heard", desc := "(II)I" } : Jvm.MethodName) prog_1_method_15_code (3 : Nat) (Option.some Jvm.ClassFile.FieldType.int))) ∈ pU := pU_of (i := 749) rfl rfl
set_option maxRecDepth 20000 in
theorem u_715 : ((Jvm.Cond.methodLink "ViewBroadcast" (156 : Nat) ({ cls := "ViewBroadcast$World", name := "isTale", desc := "(I)Z" } : Jvm.MethodName))) ∈ pU := pU_of (i := 750) rfl rfl
set_option maxRecDepth 20000 in
theorem u_716 : ((Jvm.Cond.instanceMethod ({ cls := "ViewBroadcast$World", name := "isTale", desc := "(I)Z" } : Jvm.MethodName))) ∈ pU := pU_of (i := 751) rfl rfl
set_option maxRecDepth 20000 in
theorem u_717 : ((Jvm.Cond.selects "ViewBroadcast$World" ({ cls := "ViewBroadcast$World", name := "isTale", desc := "(I)Z" } : Jvm.MethodName) ({ cls := "ViewBroadcast$World", name := "isTale", desc := "(I)Z" } : Jvm.MethodName))) ∈ pU := pU_of (i := 752) rfl rfl
set_option maxRecDepth 20000 in
theorem u_718 : ((Jvm.Cond.code ({ cls := "ViewBroadcast$World", name := "isTale", desc := "(I)Z" } : Jvm.MethodName) prog_11_method_3_code (2 : Nat) (Option.some Jvm.ClassFile.FieldType.boolean))) ∈ pU := pU_of (i := 753) rfl rfl
set_option maxRecDepth 20000 in
theorem u_719 : ((Jvm.Cond.methodLink "ViewBroadcast" (159 : Nat) ({ cls := "ViewBroadcast$Node", name := "hopsOf", desc := "(I)I" } : Jvm.MethodName))) ∈ pU := pU_of (i := 754) rfl rfl
set_option maxRecDepth 20000 in
theorem u_720 : ((Jvm.Cond.methodLink "ViewBroadcastLaw" (73 : Nat) ({ cls := "ViewBroadcast", name := "missed", desc := "(II)I" } : Jvm.MethodName))) ∈ pU := pU_of (i := 755) rfl rfl
set_option maxRecDepth 20000 in
theorem u_721 : ((Jvm.Cond.instanceMethod ({ cls := "ViewBroadcast", name := "missed", desc := "(II)I" } : Jvm.MethodName))) ∈ pU := pU_of (i := 756) rfl rfl
set_option maxRecDepth 20000 in
theorem u_722 : ((Jvm.Cond.selects "ViewBroadcast" ({ cls := "ViewBroadcast", name := "missed", desc := "(II)I" } : Jvm.MethodName) ({ cls := "ViewBroadcast", name := "missed", desc := "(II)I" } : Jvm.MethodName))) ∈ pU := pU_of (i := 757) rfl rfl
set_option maxRecDepth 20000 in
theorem u_723 : ((Jvm.Cond.code ({ cls := "ViewBroadcast", name := "missed", desc := "(II)I" } : Jvm.MethodName) prog_1_method_16_code (3 : Nat) (Option.some Jvm.ClassFile.FieldType.int))) ∈ pU := pU_of (i := 758) rfl rfl
set_option maxRecDepth 20000 in
theorem u_724 : ((Jvm.Cond.methodLink "ViewBroadcast" (162 : Nat) ({ cls := "ViewBroadcast$Node", name := "missOf", desc := "(I)LViewBroadcast$Miss;" } : Jvm.MethodName))) ∈ pU := pU_of (i := 759) rfl rfl
set_option maxRecDepth 20000 in
theorem u_725 : ((Jvm.Cond.methodLink "ViewBroadcastLaw" (77 : Nat) ({ cls := "ViewBroadcast", name := "about", desc := "(II)I" } : Jvm.MethodName))) ∈ pU := pU_of (i := 760) rfl rfl
set_option maxRecDepth 20000 in
theorem u_726 : ((Jvm.Cond.instanceMethod ({ cls := "ViewBroadcast", name := "about", desc := "(II)I" } : Jvm.MethodName))) ∈ pU := pU_of (i := 761) rfl rfl
set_option maxRecDepth 20000 in
theorem u_727 : ((Jvm.Cond.selects "ViewBroadcast" ({ cls := "ViewBroadcast", name := "about", desc := "(II)I" } : Jvm.MethodName) ({ cls := "ViewBroadcast", name := "about", desc := "(II)I" } : Jvm.MethodName))) ∈ pU := pU_of (i := 762) rfl rfl
set_option maxRecDepth 20000 in
theorem u_728 : ((Jvm.Cond.code ({ cls := "ViewBroadcast", name := "about", desc := "(II)I" } : Jvm.MethodName) prog_1_method_17_code (4 : Nat) (Option.some Jvm.ClassFile.FieldType.int))) ∈ pU := pU_of (i := 763) rfl rfl
set_option maxRecDepth 20000 in
theorem u_729 : ((Jvm.Cond.methodLink "ViewBroadcast" (177 : Nat) ({ cls := "ViewBroadcast$Node", name := "heardCount", desc := "()I" } : Jvm.MethodName))) ∈ pU := pU_of (i := 764) rfl rfl
set_option maxRecDepth 20000 in
theorem u_730 : ((Jvm.Cond.instanceMethod ({ cls := "ViewBroadcast$Node", name := "heardCount", desc := "()I" } : Jvm.MethodName))) ∈ pU := pU_of (i := 765) rfl rfl
set_option maxRecDepth 20000 in
theorem u_731 : ((Jvm.Cond.selects "ViewBroadcast$Node" ({ cls := "ViewBroadcast$Node", name := "heardCount", desc := "()I" } : Jvm.MethodName) ({ cls := "ViewBroadcast$Node", name := "heardCount", desc := "()I" } : Jvm.MethodName))) ∈ pU := pU_of (i := 766) rfl rfl
set_option maxRecDepth 20000 in
theorem u_732 : ((Jvm.Cond.code ({ cls := "ViewBroadcast$Node", name := "heardCount", desc := "()I" } : Jvm.MethodName) prog_5_method_10_code (3 : Nat) (Option.some Jvm.ClassFile.FieldType.int))) ∈ pU := pU_of (i := 767) rfl rfl
set_option maxRecDepth 20000 in
theorem u_733 : ((Jvm.Cond.methodLink "ViewBroadcast$Node" (64 : Nat) ({ cls := "ViewBroadcast$Node", name := "knows", desc := "(I)Z" } : Jvm.MethodName))) ∈ pU := pU_of (i := 768) rfl rfl
set_option maxRecDepth 20000 in
theorem u_734 : ((Jvm.Cond.methodLink "ViewBroadcast" (180 : Nat) ({ cls := "ViewBroadcast$Node", name := "missedCount", desc := "()I" } : Jvm.MethodName))) ∈ pU := pU_of (i := 769) rfl rfl
set_option maxRecDepth 20000 in
theorem u_735 : ((Jvm.Cond.instanceMethod ({ cls := "ViewBroadcast$Node", name := "missedCount", desc := "()I" } : Jvm.MethodName))) ∈ pU := pU_of (i := 770) rfl rfl
set_option maxRecDepth 20000 in
theorem u_736 : ((Jvm.Cond.selects "ViewBroadcast$Node" ({ cls := "ViewBroadcast$Node", name := "missedCount", desc := "()I" } : Jvm.MethodName) ({ cls := "ViewBroadcast$Node", name := "missedCount", desc := "()I" } : Jvm.MethodName))) ∈ pU := pU_of (i := 771) rfl rfl
set_option maxRecDepth 20000 in
theorem u_737 : ((Jvm.Cond.code ({ cls := "ViewBroadcast$Node", name := "missedCount", desc := "()I" } : Jvm.MethodName) prog_5_method_11_code (3 : Nat) (Option.some Jvm.ClassFile.FieldType.int))) ∈ pU := pU_of (i := 772) rfl rfl
set_option maxRecDepth 20000 in
theorem u_738 : ((Jvm.Cond.methodLink "ViewBroadcastLaw" (81 : Nat) ({ cls := "ViewBroadcast", name := "letter", desc := "(II)I" } : Jvm.MethodName))) ∈ pU := pU_of (i := 773) rfl rfl
set_option maxRecDepth 20000 in
theorem u_739 : ((Jvm.Cond.instanceMethod ({ cls := "ViewBroadcast", name := "letter", desc := "(II)I" } : Jvm.MethodName))) ∈ pU := pU_of (i := 774) rfl rfl
set_option maxRecDepth 20000 in
theorem u_740 : ((Jvm.Cond.selects "ViewBroadcast" ({ cls := "ViewBroadcast", name := "letter", desc := "(II)I" } : Jvm.MethodName) ({ cls := "ViewBroadcast", name := "letter", desc := "(II)I" } : Jvm.MethodName))) ∈ pU := pU_of (i := 775) rfl rfl
set_option maxRecDepth 20000 in
theorem u_741 : ((Jvm.Cond.code ({ cls := "ViewBroadcast", name := "letter", desc := "(II)I" } : Jvm.MethodName) prog_1_method_18_code (4 : Nat) (Option.some Jvm.ClassFile.FieldType.int))) ∈ pU := pU_of (i := 776) rfl rfl
set_option maxRecDepth 20000 in
theorem u_742 : ((Jvm.Cond.methodLink "ViewBroadcast" (186 : Nat) ({ cls := "ViewBroadcast$Row", name := "at", desc := "(I)LViewBroadcast$Letter;" } : Jvm.MethodName))) ∈ pU := pU_of (i := 777) rfl rfl
set_option maxRecDepth 20000 in
theorem u_743 : ((Jvm.Cond.methodLink "ViewBroadcastLaw" (85 : Nat) ({ cls := "ViewBroadcast", name := "even", desc := "()I" } : Jvm.MethodName))) ∈ pU := pU_of (i := 778) rfl rfl
set_option maxRecDepth 20000 in
theorem u_744 : ((Jvm.Cond.instanceMethod ({ cls := "ViewBroadcast", name := "even", desc := "()I" } : Jvm.MethodName))) ∈ pU := pU_of (i := 779) rfl rfl
set_option maxRecDepth 20000 in
theorem u_745 : ((Jvm.Cond.selects "ViewBroadcast" ({ cls := "ViewBroadcast", name := "even", desc := "()I" } : Jvm.MethodName) ({ cls := "ViewBroadcast", name := "even", desc := "()I" } : Jvm.MethodName))) ∈ pU := pU_of (i := 780) rfl rfl
set_option maxRecDepth 20000 in
theorem u_746 : ((Jvm.Cond.code ({ cls := "ViewBroadcast", name := "even", desc := "()I" } : Jvm.MethodName) prog_1_method_19_code (1 : Nat) (Option.some Jvm.ClassFile.FieldType.int))) ∈ pU := pU_of (i := 781) rfl rfl
set_option maxRecDepth 20000 in
theorem u_747 : ((Jvm.Cond.methodLink "ViewBroadcast" (209 : Nat) ({ cls := "ViewBroadcast$World", name := "isEven", desc := "()Z" } : Jvm.MethodName))) ∈ pU := pU_of (i := 782) rfl rfl
set_option maxRecDepth 20000 in
theorem u_748 : ((Jvm.Cond.instanceMethod ({ cls := "ViewBroadcast$World", name := "isEven", desc := "()Z" } : Jvm.MethodName))) ∈ pU := pU_of (i := 783) rfl rfl
set_option maxRecDepth 20000 in
theorem u_749 : ((Jvm.Cond.selects "ViewBroadcast$World" ({ cls := "ViewBroadcast$World", name := "isEven", desc := "()Z" } : Jvm.MethodName) ({ cls := "ViewBroadcast$World", name := "isEven", desc := "()Z" } : Jvm.MethodName))) ∈ pU := pU_of (i := 784) rfl rfl
set_option maxRecDepth 20000 in
theorem u_750 : ((Jvm.Cond.code ({ cls := "ViewBroadcast$World", name := "isEven", desc := "()Z" } : Jvm.MethodName) prog_11_method_14_code (2 : Nat) (Option.some Jvm.ClassFile.FieldType.boolean))) ∈ pU := pU_of (i := 785) rfl rfl
set_option maxRecDepth 20000 in
theorem u_751 : ((Jvm.Cond.methodLink "ViewBroadcast$World" (160 : Nat) ({ cls := "ViewBroadcast$World", name := "hasOneSidedLink", desc := "(LViewBroadcast$Node;)Z" } : Jvm.MethodName))) ∈ pU := pU_of (i := 786) rfl rfl
set_option maxRecDepth 20000 in
theorem u_752 : ((Jvm.Cond.instanceMethod ({ cls := "ViewBroadcast$World", name := "hasOneSidedLink", desc := "(LViewBroadcast$Node;)Z" } : Jvm.MethodName))) ∈ pU := pU_of (i := 787) rfl rfl
set_option maxRecDepth 20000 in
theorem u_753 : ((Jvm.Cond.selects "ViewBroadcast$World" ({ cls := "ViewBroadcast$World", name := "hasOneSidedLink", desc := "(LViewBroadcast$Node;)Z" } : Jvm.MethodName) ({ cls := "ViewBroadcast$World", name := "hasOneSidedLink", desc := "(LViewBroadcast$Node;)Z" } : Jvm.MethodName))) ∈ pU := pU_of (i := 788) rfl rfl
set_option maxRecDepth 20000 in
theorem u_754 : ((Jvm.Cond.code ({ cls := "ViewBroadcast$World", name := "hasOneSidedLink", desc := "(LViewBroadcast$Node;)Z" } : Jvm.MethodName) prog_11_method_15_code (4 : Nat) (Option.some Jvm.ClassFile.FieldType.boolean))) ∈ pU := pU_of (i := 789) rfl rfl
set_option maxRecDepth 20000 in
theorem u_755 : ((Jvm.Cond.methodLink "ViewBroadcast$World" (165 : Nat) ({ cls := "ViewBroadcast$NodeList", name := "at", desc := "(I)I" } : Jvm.MethodName))) ∈ pU := pU_of (i := 790) rfl rfl
set_option maxRecDepth 20000 in
theorem u_756 : ((Jvm.Cond.methodLink "ViewBroadcastLaw" (89 : Nat) ({ cls := "ViewBroadcast", name := "reach", desc := "(I)I" } : Jvm.MethodName))) ∈ pU := pU_of (i := 791) rfl rfl
set_option maxRecDepth 20000 in
theorem u_757 : ((Jvm.Cond.instanceMethod ({ cls := "ViewBroadcast", name := "reach", desc := "(I)I" } : Jvm.MethodName))) ∈ pU := pU_of (i := 792) rfl rfl
set_option maxRecDepth 20000 in
theorem u_758 : ((Jvm.Cond.selects "ViewBroadcast" ({ cls := "ViewBroadcast", name := "reach", desc := "(I)I" } : Jvm.MethodName) ({ cls := "ViewBroadcast", name := "reach", desc := "(I)I" } : Jvm.MethodName))) ∈ pU := pU_of (i := 793) rfl rfl
set_option maxRecDepth 20000 in
theorem u_759 : ((Jvm.Cond.code ({ cls := "ViewBroadcast", name := "reach", desc := "(I)I" } : Jvm.MethodName) prog_1_method_20_code (3 : Nat) (Option.some Jvm.ClassFile.FieldType.int))) ∈ pU := pU_of (i := 794) rfl rfl
set_option maxRecDepth 20000 in
theorem u_760 : ((Jvm.Cond.methodLink "ViewBroadcast" (213 : Nat) ({ cls := "ViewBroadcast$World", name := "reachFrom", desc := "(I)I" } : Jvm.MethodName))) ∈ pU := pU_of (i := 795) rfl rfl
set_option maxRecDepth 20000 in
theorem u_761 : ((Jvm.Cond.instanceMethod ({ cls := "ViewBroadcast$World", name := "reachFrom", desc := "(I)I" } : Jvm.MethodName))) ∈ pU := pU_of (i := 796) rfl rfl
set_option maxRecDepth 20000 in
theorem u_762 : ((Jvm.Cond.selects "ViewBroadcast$World" ({ cls := "ViewBroadcast$World", name := "reachFrom", desc := "(I)I" } : Jvm.MethodName) ({ cls := "ViewBroadcast$World", name := "reachFrom", desc := "(I)I" } : Jvm.MethodName))) ∈ pU := pU_of (i := 797) rfl rfl
set_option maxRecDepth 20000 in
theorem u_763 : ((Jvm.Cond.code ({ cls := "ViewBroadcast$World", name := "reachFrom", desc := "(I)I" } : Jvm.MethodName) prog_11_method_16_code (5 : Nat) (Option.some Jvm.ClassFile.FieldType.int))) ∈ pU := pU_of (i := 798) rfl rfl
set_option maxRecDepth 20000 in
theorem u_764 : ((Jvm.Cond.methodLink "ViewBroadcast$World" (166 : Nat) ({ cls := "ViewBroadcast$World", name := "liveLinksOf", desc := "(LViewBroadcast$Node;)I" } : Jvm.MethodName))) ∈ pU := pU_of (i := 799) rfl rfl
set_option maxRecDepth 20000 in
theorem u_765 : ((Jvm.Cond.instanceMethod ({ cls := "ViewBroadcast$World", name := "liveLinksOf", desc := "(LViewBroadcast$Node;)I" } : Jvm.MethodName))) ∈ pU := pU_of (i := 800) rfl rfl
set_option maxRecDepth 20000 in
theorem u_766 : ((Jvm.Cond.selects "ViewBroadcast$World" ({ cls := "ViewBroadcast$World", name := "liveLinksOf", desc := "(LViewBroadcast$Node;)I" } : Jvm.MethodName) ({ cls := "ViewBroadcast$World", name := "liveLinksOf", desc := "(LViewBroadcast$Node;)I" } : Jvm.MethodName))) ∈ pU := pU_of (i := 801) rfl rfl
set_option maxRecDepth 20000 in
theorem u_767 : ((Jvm.Cond.code ({ cls := "ViewBroadcast$World", name := "liveLinksOf", desc := "(LViewBroadcast$Node;)I" } : Jvm.MethodName) prog_11_method_17_code (5 : Nat) (Option.some Jvm.ClassFile.FieldType.int))) ∈ pU := pU_of (i := 802) rfl rfl
set_option maxRecDepth 20000 in
theorem u_768 : ((Jvm.Cond.methodLink "ViewBroadcast$World" (170 : Nat) ({ cls := "java/lang/Integer", name := "bitCount", desc := "(I)I" } : Jvm.MethodName))) ∈ pU := pU_of (i := 803) rfl rfl
set_option maxRecDepth 20000 in
theorem u_769 : ((Jvm.Cond.static ({ cls := "java/lang/Integer", name := "bitCount", desc := "(I)I" } : Jvm.MethodName))) ∈ pU := pU_of (i := 804) rfl rfl
set_option maxRecDepth 20000 in
theorem u_770 : ((Jvm.Cond.code ({ cls := "java/lang/Integer", name := "bitCount", desc := "(I)I" } : Jvm.MethodName) prog_14_method_49_code (1 : Nat) (Option.some Jvm.ClassFile.FieldType.int))) ∈ pU := pU_of (i := 805) rfl rfl
set_option maxRecDepth 20000 in
theorem u_771 : ((Jvm.Cond.constant "java/lang/Integer" (265 : Nat) (1431655765 : Int32))) ∈ pU := pU_of (i := 806) rfl rfl
set_option maxRecDepth 20000 in
theorem u_772 : ((Jvm.Cond.constant "java/lang/Integer" (266 : Nat) (858993459 : Int32))) ∈ pU := pU_of (i := 807) rfl rfl
set_option maxRecDepth 20000 in
theorem u_773 : ((Jvm.Cond.constant "java/lang/Integer" (267 : Nat) (252645135 : Int32))) ∈ pU := pU_of (i := 808) rfl rfl
set_option maxRecDepth 20000 in
theorem u_774 : ((Jvm.Cond.methodLink "ViewBroadcastLaw" (93 : Nat) ({ cls := "ViewBroadcast", name := "came", desc := "(I)I" } : Jvm.MethodName))) ∈ pU := pU_of (i := 809) rfl rfl
set_option maxRecDepth 20000 in
theorem u_775 : ((Jvm.Cond.instanceMethod ({ cls := "ViewBroadcast", name := "came", desc := "(I)I" } : Jvm.MethodName))) ∈ pU := pU_of (i := 810) rfl rfl
set_option maxRecDepth 20000 in
theorem u_776 : ((Jvm.Cond.selects "ViewBroadcast" ({ cls := "ViewBroadcast", name := "came", desc := "(I)I" } : Jvm.MethodName) ({ cls := "ViewBroadcast", name := "came", desc := "(I)I" } : Jvm.MethodName))) ∈ pU := pU_of (i := 811) rfl rfl
set_option maxRecDepth 20000 in
theorem u_777 : ((Jvm.Cond.code ({ cls := "ViewBroadcast", name := "came", desc := "(I)I" } : Jvm.MethodName) prog_1_method_21_code (2 : Nat) (Option.some Jvm.ClassFile.FieldType.int))) ∈ pU := pU_of (i := 812) rfl rfl
set_option maxRecDepth 20000 in
theorem u_778 : ((Jvm.Cond.methodLink "ViewBroadcastLaw" (97 : Nat) ({ cls := "ViewBroadcast", name := "spread", desc := "(I)I" } : Jvm.MethodName))) ∈ pU := pU_of (i := 813) rfl rfl
set_option maxRecDepth 20000 in
theorem u_779 : ((Jvm.Cond.instanceMethod ({ cls := "ViewBroadcast", name := "spread", desc := "(I)I" } : Jvm.MethodName))) ∈ pU := pU_of (i := 814) rfl rfl
set_option maxRecDepth 20000 in
theorem u_780 : ((Jvm.Cond.selects "ViewBroadcast" ({ cls := "ViewBroadcast", name := "spread", desc := "(I)I" } : Jvm.MethodName) ({ cls := "ViewBroadcast", name := "spread", desc := "(I)I" } : Jvm.MethodName))) ∈ pU := pU_of (i := 815) rfl rfl
set_option maxRecDepth 20000 in
theorem u_781 : ((Jvm.Cond.code ({ cls := "ViewBroadcast", name := "spread", desc := "(I)I" } : Jvm.MethodName) prog_1_method_22_code (2 : Nat) (Option.some Jvm.ClassFile.FieldType.int))) ∈ pU := pU_of (i := 816) rfl rfl
set_option maxRecDepth 20000 in
theorem u_782 : ((Jvm.Cond.methodLink "ViewBroadcast" (220 : Nat) ({ cls := "ViewBroadcast$World", name := "hearersOf", desc := "(I)I" } : Jvm.MethodName))) ∈ pU := pU_of (i := 817) rfl rfl
set_option maxRecDepth 20000 in
theorem u_783 : ((Jvm.Cond.instanceMethod ({ cls := "ViewBroadcast$World", name := "hearersOf", desc := "(I)I" } : Jvm.MethodName))) ∈ pU := pU_of (i := 818) rfl rfl
set_option maxRecDepth 20000 in
theorem u_784 : ((Jvm.Cond.selects "ViewBroadcast$World" ({ cls := "ViewBroadcast$World", name := "hearersOf", desc := "(I)I" } : Jvm.MethodName) ({ cls := "ViewBroadcast$World", name := "hearersOf", desc := "(I)I" } : Jvm.MethodName))) ∈ pU := pU_of (i := 819) rfl rfl
set_option maxRecDepth 20000 in
theorem u_785 : ((Jvm.Cond.code ({ cls := "ViewBroadcast$World", name := "hearersOf", desc := "(I)I" } : Jvm.MethodName) prog_11_method_13_code (4 : Nat) (Option.some Jvm.ClassFile.FieldType.int))) ∈ pU := pU_of (i := 820) rfl rfl
set_option maxRecDepth 20000 in
theorem u_786 : ((Jvm.Cond.methodLink "ViewBroadcast$World" (157 : Nat) ({ cls := "ViewBroadcast$Node", name := "knows", desc := "(I)Z" } : Jvm.MethodName))) ∈ pU := pU_of (i := 821) rfl rfl
set_option maxRecDepth 20000 in
theorem u_787 : ((Jvm.Cond.methodLink "ViewBroadcastLaw" (101 : Nat) ({ cls := "ViewBroadcast", name := "told", desc := "(I)I" } : Jvm.MethodName))) ∈ pU := pU_of (i := 822) rfl rfl
set_option maxRecDepth 20000 in
theorem u_788 : ((Jvm.Cond.instanceMethod ({ cls := "ViewBroadcast", name := "told", desc := "(I)I" } : Jvm.MethodName))) ∈ pU := pU_of (i := 823) rfl rfl
set_option maxRecDepth 20000 in
theorem u_789 : ((Jvm.Cond.selects "ViewBroadcast" ({ cls := "ViewBroadcast", name := "told", desc := "(I)I" } : Jvm.MethodName) ({ cls := "ViewBroadcast", name := "told", desc := "(I)I" } : Jvm.MethodName))) ∈ pU := pU_of (i := 824) rfl rfl
set_option maxRecDepth 20000 in
theorem u_790 : ((Jvm.Cond.code ({ cls := "ViewBroadcast", name := "told", desc := "(I)I" } : Jvm.MethodName) prog_1_method_23_code (2 : Nat) (Option.some Jvm.ClassFile.FieldType.int))) ∈ pU := pU_of (i := 825) rfl rfl
set_option maxRecDepth 20000 in
theorem u_791 : ((Jvm.Cond.methodLink "ViewBroadcast" (223 : Nat) ({ cls := "ViewBroadcast$World", name := "liveCount", desc := "()I" } : Jvm.MethodName))) ∈ pU := pU_of (i := 826) rfl rfl
set_option maxRecDepth 20000 in
theorem u_792 : ((Jvm.Cond.instanceMethod ({ cls := "ViewBroadcast$World", name := "liveCount", desc := "()I" } : Jvm.MethodName))) ∈ pU := pU_of (i := 827) rfl rfl
set_option maxRecDepth 20000 in
theorem u_793 : ((Jvm.Cond.selects "ViewBroadcast$World" ({ cls := "ViewBroadcast$World", name := "liveCount", desc := "()I" } : Jvm.MethodName) ({ cls := "ViewBroadcast$World", name := "liveCount", desc := "()I" } : Jvm.MethodName))) ∈ pU := pU_of (i := 828) rfl rfl
set_option maxRecDepth 20000 in
theorem u_794 : ((Jvm.Cond.code ({ cls := "ViewBroadcast$World", name := "liveCount", desc := "()I" } : Jvm.MethodName) prog_11_method_12_code (3 : Nat) (Option.some Jvm.ClassFile.FieldType.int))) ∈ pU := pU_of (i := 829) rfl rfl
set_option maxRecDepth 20000 in
theorem u_795 : ((Jvm.Cond.methodLink "ViewBroadcastLaw" (105 : Nat) ({ cls := "ViewBroadcast", name := "keep", desc := "(I)I" } : Jvm.MethodName))) ∈ pU := pU_of (i := 830) rfl rfl
set_option maxRecDepth 20000 in
theorem u_796 : ((Jvm.Cond.instanceMethod ({ cls := "ViewBroadcast", name := "keep", desc := "(I)I" } : Jvm.MethodName))) ∈ pU := pU_of (i := 831) rfl rfl
set_option maxRecDepth 20000 in
theorem u_797 : ((Jvm.Cond.selects "ViewBroadcast" ({ cls := "ViewBroadcast", name := "keep", desc := "(I)I" } : Jvm.MethodName) ({ cls := "ViewBroadcast", name := "keep", desc := "(I)I" } : Jvm.MethodName))) ∈ pU := pU_of (i := 832) rfl rfl
set_option maxRecDepth 20000 in
theorem u_798 : ((Jvm.Cond.code ({ cls := "ViewBroadcast", name := "keep", desc := "(I)I" } : Jvm.MethodName) prog_1_method_24_code (2 : Nat) (Option.some Jvm.ClassFile.FieldType.int))) ∈ pU := pU_of (i := 833) rfl rfl
set_option maxRecDepth 20000 in
theorem u_799 : ((Jvm.Cond.methodLink "ViewBroadcast" (235 : Nat) ({ cls := "ViewBroadcast", name := "isPlace", desc := "(I)Z" } : Jvm.MethodName))) ∈ pU := pU_of (i := 834) rfl rfl
set_option maxRecDepth 20000 in
theorem u_800 : ((Jvm.Cond.static ({ cls := "ViewBroadcast", name := "isPlace", desc := "(I)Z" } : Jvm.MethodName))) ∈ pU := pU_of (i := 835) rfl rfl
set_option maxRecDepth 20000 in
theorem u_801 : ((Jvm.Cond.code ({ cls := "ViewBroadcast", name := "isPlace", desc := "(I)Z" } : Jvm.MethodName) prog_1_method_27_code (1 : Nat) (Option.some Jvm.ClassFile.FieldType.boolean))) ∈ pU := pU_of (i := 836) rfl rfl
set_option maxRecDepth 20000 in
theorem u_802 : ((Jvm.Cond.methodLink "ViewBroadcast" (238 : Nat) ({ cls := "ViewBroadcast$World", name := "copyFrom", desc := "(LViewBroadcast$World;)V" } : Jvm.MethodName))) ∈ pU := pU_of (i := 837) rfl rfl
set_option maxRecDepth 20000 in
theorem u_803 : ((Jvm.Cond.instanceMethod ({ cls := "ViewBroadcast$World", name := "copyFrom", desc := "(LViewBroadcast$World;)V" } : Jvm.MethodName))) ∈ pU := pU_of (i := 838) rfl rfl
set_option maxRecDepth 20000 in
theorem u_804 : ((Jvm.Cond.selects "ViewBroadcast$World" ({ cls := "ViewBroadcast$World", name := "copyFrom", desc := "(LViewBroadcast$World;)V" } : Jvm.MethodName) ({ cls := "ViewBroadcast$World", name := "copyFrom", desc := "(LViewBroadcast$World;)V" } : Jvm.MethodName))) ∈ pU := pU_of (i := 839) rfl rfl
set_option maxRecDepth 20000 in
theorem u_805 : ((Jvm.Cond.code ({ cls := "ViewBroadcast$World", name := "copyFrom", desc := "(LViewBroadcast$World;)V" } : Jvm.MethodName) prog_11_method_19_code (3 : Nat) (Option.none : Option Jvm.ClassFile.FieldType))) ∈ pU := pU_of (i := 840) rfl rfl
set_option maxRecDepth 20000 in
theorem u_806 : ((Jvm.Cond.methodLink "ViewBroadcast$World" (178 : Nat) ({ cls := "ViewBroadcast$Sizes", name := "copyFrom", desc := "(LViewBroadcast$Sizes;)V" } : Jvm.MethodName))) ∈ pU := pU_of (i := 841) rfl rfl
set_option maxRecDepth 20000 in
theorem u_807 : ((Jvm.Cond.instanceMethod ({ cls := "ViewBroadcast$Sizes", name := "copyFrom", desc := "(LViewBroadcast$Sizes;)V" } : Jvm.MethodName))) ∈ pU := pU_of (i := 842) rfl rfl
set_option maxRecDepth 20000 in
theorem u_808 : ((Jvm.Cond.selects "ViewBroadcast$Sizes" ({ cls := "ViewBroadcast$Sizes", name := "copyFrom", desc := "(LViewBroadcast$Sizes;)V" } : Jvm.MethodName) ({ cls := "ViewBroadcast$Sizes", name := "copyFrom", desc := "(LViewBroadcast$Sizes;)V" } : Jvm.MethodName))) ∈ pU := pU_of (i := 843) rfl rfl
set_option maxRecDepth 20000 in
theorem u_809 : ((Jvm.Cond.code ({ cls := "ViewBroadcast$Sizes", name := "copyFrom", desc := "(LViewBroadcast$Sizes;)V" } : Jvm.MethodName) prog_8_method_2_code (2 : Nat) (Option.none : Option Jvm.ClassFile.FieldType))) ∈ pU := pU_of (i := 844) rfl rfl
set_option maxRecDepth 20000 in
theorem u_810 : ((Jvm.Cond.methodLink "ViewBroadcast$World" (181 : Nat) ({ cls := "ViewBroadcast$Node", name := "copyFrom", desc := "(LViewBroadcast$Node;)V" } : Jvm.MethodName))) ∈ pU := pU_of (i := 845) rfl rfl
set_option maxRecDepth 20000 in
theorem u_811 : ((Jvm.Cond.instanceMethod ({ cls := "ViewBroadcast$Node", name := "copyFrom", desc := "(LViewBroadcast$Node;)V" } : Jvm.MethodName))) ∈ pU := pU_of (i := 846) rfl rfl
set_option maxRecDepth 20000 in
theorem u_812 : ((Jvm.Cond.selects "ViewBroadcast$Node" ({ cls := "ViewBroadcast$Node", name := "copyFrom", desc := "(LViewBroadcast$Node;)V" } : Jvm.MethodName) ({ cls := "ViewBroadcast$Node", name := "copyFrom", desc := "(LViewBroadcast$Node;)V" } : Jvm.MethodName))) ∈ pU := pU_of (i := 847) rfl rfl
set_option maxRecDepth 20000 in
theorem u_813 : ((Jvm.Cond.code ({ cls := "ViewBroadcast$Node", name := "copyFrom", desc := "(LViewBroadcast$Node;)V" } : Jvm.MethodName) prog_5_method_13_code (3 : Nat) (Option.none : Option Jvm.ClassFile.FieldType))) ∈ pU := pU_of (i := 848) rfl rfl
set_option maxRecDepth 20000 in
theorem u_814 : ((Jvm.Cond.methodLink "ViewBroadcast$Node" (80 : Nat) ({ cls := "ViewBroadcast$NodeList", name := "copyFrom", desc := "(LViewBroadcast$NodeList;)V" } : Jvm.MethodName))) ∈ pU := pU_of (i := 849) rfl rfl
set_option maxRecDepth 20000 in
theorem u_815 : ((Jvm.Cond.methodLink "ViewBroadcast$Node" (84 : Nat) ({ cls := "ViewBroadcast$Node", name := "missOf", desc := "(I)LViewBroadcast$Miss;" } : Jvm.MethodName))) ∈ pU := pU_of (i := 850) rfl rfl
set_option maxRecDepth 20000 in
theorem u_816 : ((Jvm.Cond.methodLink "ViewBroadcast$Node" (88 : Nat) ({ cls := "ViewBroadcast$Miss", name := "copyFrom", desc := "(LViewBroadcast$Miss;)V" } : Jvm.MethodName))) ∈ pU := pU_of (i := 851) rfl rfl
set_option maxRecDepth 20000 in
theorem u_817 : ((Jvm.Cond.instanceMethod ({ cls := "ViewBroadcast$Miss", name := "copyFrom", desc := "(LViewBroadcast$Miss;)V" } : Jvm.MethodName))) ∈ pU := pU_of (i := 852) rfl rfl
set_option maxRecDepth 20000 in
theorem u_818 : ((Jvm.Cond.selects "ViewBroadcast$Miss" ({ cls := "ViewBroadcast$Miss", name := "copyFrom", desc := "(LViewBroadcast$Miss;)V" } : Jvm.MethodName) ({ cls := "ViewBroadcast$Miss", name := "copyFrom", desc := "(LViewBroadcast$Miss;)V" } : Jvm.MethodName))) ∈ pU := pU_of (i := 853) rfl rfl
set_option maxRecDepth 20000 in
theorem u_819 : ((Jvm.Cond.code ({ cls := "ViewBroadcast$Miss", name := "copyFrom", desc := "(LViewBroadcast$Miss;)V" } : Jvm.MethodName) prog_4_method_3_code (2 : Nat) (Option.none : Option Jvm.ClassFile.FieldType))) ∈ pU := pU_of (i := 854) rfl rfl
set_option maxRecDepth 20000 in
theorem u_820 : ((Jvm.Cond.methodLink "ViewBroadcast$Miss" (31 : Nat) ({ cls := "ViewBroadcast$NodeList", name := "copyFrom", desc := "(LViewBroadcast$NodeList;)V" } : Jvm.MethodName))) ∈ pU := pU_of (i := 855) rfl rfl
set_option maxRecDepth 20000 in
theorem u_821 : ((Jvm.Cond.methodLink "ViewBroadcast$World" (184 : Nat) ({ cls := "ViewBroadcast$Row", name := "copyFrom", desc := "(LViewBroadcast$Row;)V" } : Jvm.MethodName))) ∈ pU := pU_of (i := 856) rfl rfl
set_option maxRecDepth 20000 in
theorem u_822 : ((Jvm.Cond.instanceMethod ({ cls := "ViewBroadcast$Row", name := "copyFrom", desc := "(LViewBroadcast$Row;)V" } : Jvm.MethodName))) ∈ pU := pU_of (i := 857) rfl rfl
set_option maxRecDepth 20000 in
theorem u_823 : ((Jvm.Cond.selects "ViewBroadcast$Row" ({ cls := "ViewBroadcast$Row", name := "copyFrom", desc := "(LViewBroadcast$Row;)V" } : Jvm.MethodName) ({ cls := "ViewBroadcast$Row", name := "copyFrom", desc := "(LViewBroadcast$Row;)V" } : Jvm.MethodName))) ∈ pU := pU_of (i := 858) rfl rfl
set_option maxRecDepth 20000 in
theorem u_824 : ((Jvm.Cond.code ({ cls := "ViewBroadcast$Row", name := "copyFrom", desc := "(LViewBroadcast$Row;)V" } : Jvm.MethodName) prog_7_method_10_code (3 : Nat) (Option.none : Option Jvm.ClassFile.FieldType))) ∈ pU := pU_of (i := 859) rfl rfl
set_option maxRecDepth 20000 in
theorem u_825 : ((Jvm.Cond.methodLink "ViewBroadcast$Row" (50 : Nat) ({ cls := "ViewBroadcast$Letter", name := "copyFrom", desc := "(LViewBroadcast$Letter;)V" } : Jvm.MethodName))) ∈ pU := pU_of (i := 860) rfl rfl
set_option maxRecDepth 20000 in
theorem u_826 : ((Jvm.Cond.methodLink "ViewBroadcastLaw" (109 : Nat) ({ cls := "ViewBroadcast", name := "back", desc := "(I)I" } : Jvm.MethodName))) ∈ pU := pU_of (i := 861) rfl rfl
set_option maxRecDepth 20000 in
theorem u_827 : ((Jvm.Cond.instanceMethod ({ cls := "ViewBroadcast", name := "back", desc := "(I)I" } : Jvm.MethodName))) ∈ pU := pU_of (i := 862) rfl rfl
set_option maxRecDepth 20000 in
theorem u_828 : ((Jvm.Cond.selects "ViewBroadcast" ({ cls := "ViewBroadcast", name := "back", desc := "(I)I" } : Jvm.MethodName) ({ cls := "ViewBroadcast", name := "back", desc := "(I)I" } : Jvm.MethodName))) ∈ pU := pU_of (i := 863) rfl rfl
set_option maxRecDepth 20000 in
theorem u_829 : ((Jvm.Cond.code ({ cls := "ViewBroadcast", name := "back", desc := "(I)I" } : Jvm.MethodName) prog_1_method_25_code (2 : Nat) (Option.some Jvm.ClassFile.FieldType.int))) ∈ pU := pU_of (i := 864) rfl rfl
set_option maxRecDepth 20000 in
theorem u_830 : ((Jvm.Cond.methodLink "ViewBroadcastLaw" (113 : Nat) ({ cls := "ViewBroadcast", name := "differs", desc := "(I)I" } : Jvm.MethodName))) ∈ pU := pU_of (i := 865) rfl rfl
set_option maxRecDepth 20000 in
theorem u_831 : ((Jvm.Cond.instanceMethod ({ cls := "ViewBroadcast", name := "differs", desc := "(I)I" } : Jvm.MethodName))) ∈ pU := pU_of (i := 866) rfl rfl
set_option maxRecDepth 20000 in
theorem u_832 : ((Jvm.Cond.selects "ViewBroadcast" ({ cls := "ViewBroadcast", name := "differs", desc := "(I)I" } : Jvm.MethodName) ({ cls := "ViewBroadcast", name := "differs", desc := "(I)I" } : Jvm.MethodName))) ∈ pU := pU_of (i := 867) rfl rfl
set_option maxRecDepth 20000 in
theorem u_833 : ((Jvm.Cond.code ({ cls := "ViewBroadcast", name := "differs", desc := "(I)I" } : Jvm.MethodName) prog_1_method_26_code (2 : Nat) (Option.some Jvm.ClassFile.FieldType.int))) ∈ pU := pU_of (i := 868) rfl rfl
set_option maxRecDepth 20000 in
theorem u_834 : ((Jvm.Cond.methodLink "ViewBroadcast" (241 : Nat) ({ cls := "ViewBroadcast$World", name := "firstOtherNode", desc := "(LViewBroadcast$World;)I" } : Jvm.MethodName))) ∈ pU := pU_of (i := 869) rfl rfl
set_option maxRecDepth 20000 in
theorem u_835 : ((Jvm.Cond.instanceMethod ({ cls := "ViewBroadcast$World", name := "firstOtherNode", desc := "(LViewBroadcast$World;)I" } : Jvm.MethodName))) ∈ pU := pU_of (i := 870) rfl rfl
set_option maxRecDepth 20000 in
theorem u_836 : ((Jvm.Cond.selects "ViewBroadcast$World" ({ cls := "ViewBroadcast$World", name := "firstOtherNode", desc := "(LViewBroadcast$World;)I" } : Jvm.MethodName) ({ cls := "ViewBroadcast$World", name := "firstOtherNode", desc := "(LViewBroadcast$World;)I" } : Jvm.MethodName))) ∈ pU := pU_of (i := 871) rfl rfl
set_option maxRecDepth 20000 in
theorem u_837 : ((Jvm.Cond.code ({ cls := "ViewBroadcast$World", name := "firstOtherNode", desc := "(LViewBroadcast$World;)I" } : Jvm.MethodName) prog_11_method_18_code (3 : Nat) (Option.some Jvm.ClassFile.FieldType.int))) ∈ pU := pU_of (i := 872) rfl rfl
set_option maxRecDepth 20000 in
theorem u_838 : ((Jvm.Cond.methodLink "ViewBroadcast$World" (175 : Nat) ({ cls := "ViewBroadcast$Node", name := "looksLike", desc := "(LViewBroadcast$Node;)Z" } : Jvm.MethodName))) ∈ pU := pU_of (i := 873) rfl rfl
set_option maxRecDepth 20000 in
theorem u_839 : ((Jvm.Cond.instanceMethod ({ cls := "ViewBroadcast$Node", name := "looksLike", desc := "(LViewBroadcast$Node;)Z" } : Jvm.MethodName))) ∈ pU := pU_of (i := 874) rfl rfl
set_option maxRecDepth 20000 in
theorem u_840 : ((Jvm.Cond.selects "ViewBroadcast$Node" ({ cls := "ViewBroadcast$Node", name := "looksLike", desc := "(LViewBroadcast$Node;)Z" } : Jvm.MethodName) ({ cls := "ViewBroadcast$Node", name := "looksLike", desc := "(LViewBroadcast$Node;)Z" } : Jvm.MethodName))) ∈ pU := pU_of (i := 875) rfl rfl
set_option maxRecDepth 20000 in
theorem u_841 : ((Jvm.Cond.code ({ cls := "ViewBroadcast$Node", name := "looksLike", desc := "(LViewBroadcast$Node;)Z" } : Jvm.MethodName) prog_5_method_14_code (3 : Nat) (Option.some Jvm.ClassFile.FieldType.boolean))) ∈ pU := pU_of (i := 876) rfl rfl
set_option maxRecDepth 20000 in
theorem u_842 : ((Jvm.Cond.methodLink "ViewBroadcast$Node" (91 : Nat) ({ cls := "ViewBroadcast$NodeList", name := "isSameAs", desc := "(LViewBroadcast$NodeList;)Z" } : Jvm.MethodName))) ∈ pU := pU_of (i := 877) rfl rfl
set_option maxRecDepth 20000 in
theorem u_843 : ((Jvm.Cond.instanceMethod ({ cls := "ViewBroadcast$NodeList", name := "isSameAs", desc := "(LViewBroadcast$NodeList;)Z" } : Jvm.MethodName))) ∈ pU := pU_of (i := 878) rfl rfl
set_option maxRecDepth 20000 in
theorem u_844 : ((Jvm.Cond.selects "ViewBroadcast$NodeList" ({ cls := "ViewBroadcast$NodeList", name := "isSameAs", desc := "(LViewBroadcast$NodeList;)Z" } : Jvm.MethodName) ({ cls := "ViewBroadcast$NodeList", name := "isSameAs", desc := "(LViewBroadcast$NodeList;)Z" } : Jvm.MethodName))) ∈ pU := pU_of (i := 879) rfl rfl
set_option maxRecDepth 20000 in
theorem u_845 : ((Jvm.Cond.code ({ cls := "ViewBroadcast$NodeList", name := "isSameAs", desc := "(LViewBroadcast$NodeList;)Z" } : Jvm.MethodName) prog_6_method_10_code (3 : Nat) (Option.some Jvm.ClassFile.FieldType.boolean))) ∈ pU := pU_of (i := 880) rfl rfl
set_option maxRecDepth 20000 in
theorem u_846 : ((Jvm.Cond.classLink "ViewBroadcastLaw" (10 : Nat) "ViewBroadcastModel")) ∈ pU := pU_of (i := 881) rfl rfl
set_option maxRecDepth 20000 in
theorem u_847 : ((Jvm.Cond.instantiable "ViewBroadcastModel" (16 : Nat))) ∈ pU := pU_of (i := 882) rfl rfl
set_option maxRecDepth 20000 in
theorem u_848 : ((Jvm.Cond.methodLink "ViewBroadcastLaw" (12 : Nat) ({ cls := "ViewBroadcastModel", name := "<init>", desc := "()V" } : Jvm.MethodName))) ∈ pU := pU_of (i := 883) rfl rfl
set_option maxRecDepth 20000 in
theorem u_849 : ((Jvm.Cond.instanceMethod ({ cls := "ViewBroadcastModel", name := "<init>", desc := "()V" } : Jvm.MethodName))) ∈ pU := pU_of (i := 884) rfl rfl
set_option maxRecDepth 20000 in
theorem u_850 : ((Jvm.Cond.code ({ cls := "ViewBroadcastModel", name := "<init>", desc := "()V" } : Jvm.MethodName) prog_13_method_1_code (1 : Nat) (Option.none : Option Jvm.ClassFile.FieldType))) ∈ pU := pU_of (i := 885) rfl rfl
set_option maxRecDepth 20000 in
theorem u_851 : ((Jvm.Cond.methodLink "ViewBroadcastModel" (1 : Nat) ({ cls := "java/lang/Object", name := "<init>", desc := "()V" } : Jvm.MethodName))) ∈ pU := pU_of (i := 886) rfl rfl
set_option maxRecDepth 20000 in
theorem u_852 : ((Jvm.Cond.fieldLink "ViewBroadcastModel" (7 : Nat) "ViewBroadcastModel" "z" "[I")) ∈ pU := pU_of (i := 887) rfl rfl
set_option maxRecDepth 20000 in
theorem u_853 : ((Jvm.Cond.fieldLink "ViewBroadcastModel" (13 : Nat) "ViewBroadcastModel" "mostActive" "I")) ∈ pU := pU_of (i := 888) rfl rfl
set_option maxRecDepth 20000 in
theorem u_854 : ((Jvm.Cond.fieldLink "ViewBroadcastModel" (17 : Nat) "ViewBroadcastModel" "mostPassive" "I")) ∈ pU := pU_of (i := 889) rfl rfl
set_option maxRecDepth 20000 in
theorem u_855 : ((Jvm.Cond.fieldLink "ViewBroadcastModel" (20 : Nat) "ViewBroadcastModel" "far" "I")) ∈ pU := pU_of (i := 890) rfl rfl
set_option maxRecDepth 20000 in
theorem u_856 : ((Jvm.Cond.fieldLink "ViewBroadcastModel" (23 : Nat) "ViewBroadcastModel" "near" "I")) ∈ pU := pU_of (i := 891) rfl rfl
set_option maxRecDepth 20000 in
theorem u_857 : ((Jvm.Cond.fieldLink "ViewBroadcastModel" (26 : Nat) "ViewBroadcastModel" "wait" "I")) ∈ pU := pU_of (i := 892) rfl rfl
set_option maxRecDepth 20000 in
theorem u_858 : ((Jvm.Cond.fieldLink "ViewBroadcastModel" (29 : Nat) "ViewBroadcastModel" "coins" "[I")) ∈ pU := pU_of (i := 893) rfl rfl
set_option maxRecDepth 20000 in
theorem u_859 : ((Jvm.Cond.fieldLink "ViewBroadcastModel" (65 : Nat) "ViewBroadcastModel" "coinMany" "I")) ∈ pU := pU_of (i := 894) rfl rfl
set_option maxRecDepth 20000 in
theorem u_860 : ((Jvm.Cond.fieldLink "ViewBroadcastModel" (32 : Nat) "ViewBroadcastModel" "list" "[I")) ∈ pU := pU_of (i := 895) rfl rfl
set_option maxRecDepth 20000 in
theorem u_861 : ((Jvm.Cond.fieldLink "ViewBroadcastModel" (121 : Nat) "ViewBroadcastModel" "listMany" "I")) ∈ pU := pU_of (i := 896) rfl rfl
set_option maxRecDepth 20000 in
theorem u_862 : ((Jvm.Cond.fieldLink "ViewBroadcastModel" (35 : Nat) "ViewBroadcastModel" "some" "[I")) ∈ pU := pU_of (i := 897) rfl rfl
set_option maxRecDepth 20000 in
theorem u_863 : ((Jvm.Cond.fieldLink "ViewBroadcastModel" (38 : Nat) "ViewBroadcastModel" "got" "[I")) ∈ pU := pU_of (i := 898) rfl rfl
set_option maxRecDepth 20000 in
theorem u_864 : ((Jvm.Cond.fieldLink "ViewBroadcastModel" (153 : Nat) "ViewBroadcastModel" "gotMany" "I")) ∈ pU := pU_of (i := 899) rfl rfl
set_option maxRecDepth 20000 in
theorem u_865 : ((Jvm.Cond.fieldLink "ViewBroadcastModel" (41 : Nat) "ViewBroadcastModel" "kept" "[I")) ∈ pU := pU_of (i := 900) rfl rfl
set_option maxRecDepth 20000 in
theorem u_866 : ((Jvm.Cond.fieldLink "ViewBroadcastModel" (44 : Nat) "ViewBroadcastModel" "isKept" "[Z")) ∈ pU := pU_of (i := 901) rfl rfl
set_option maxRecDepth 20000 in
theorem u_867 : ((Jvm.Cond.fieldLink "ViewBroadcastModel" (48 : Nat) "ViewBroadcastModel" "keptSizes" "[I")) ∈ pU := pU_of (i := 902) rfl rfl
set_option maxRecDepth 20000 in
theorem u_901 : ((Jvm.Cond.methodLink "ViewBroadcastLaw" (17 : Nat) ({ cls := "ViewBroadcastModel", name := "sizes", desc := "(II)I" } : Jvm.MethodName))) ∈ pU := pU_of (i := 936) rfl rfl
set_option maxRecDepth 20000 in
theorem u_902 : ((Jvm.Cond.instanceMethod ({ cls := "ViewBroadcastModel", name := "sizes", desc := "(II)I" } : Jvm.MethodName))) ∈ pU := pU_of (i := 937) rfl rfl
set_option maxRecDepth 20000 in
theorem u_903 : ((Jvm.Cond.selects "ViewBroadcastModel" ({ cls := "ViewBroadcastModel", name := "sizes", desc := "(II)I" } : Jvm.MethodName) ({ cls := "ViewBroadcastModel", name := "sizes", desc := "(II)I" } : Jvm.MethodName))) ∈ pU := pU_of (i := 938) rfl rfl
set_option maxRecDepth 20000 in
theorem u_904 : ((Jvm.Cond.code ({ cls := "ViewBroadcastModel", name := "sizes", desc := "(II)I" } : Jvm.MethodName) prog_13_method_6_code (3 : Nat) (Option.some Jvm.ClassFile.FieldType.int))) ∈ pU := pU_of (i := 939) rfl rfl
set_option maxRecDepth 20000 in
theorem u_905 : ((Jvm.Cond.constantLong "ViewBroadcastModel" (55 : Nat) (2 : Int64))) ∈ pU := pU_of (i := 940) rfl rfl
set_option maxRecDepth 20000 in
theorem u_906 : ((Jvm.Cond.constantLong "ViewBroadcastModel" (57 : Nat) (5 : Int64))) ∈ pU := pU_of (i := 941) rfl rfl
set_option maxRecDepth 20000 in
theorem u_907 : ((Jvm.Cond.methodLink "ViewBroadcastModel" (51 : Nat) ({ cls := "ViewBroadcastModel", name := "in", desc := "(JJJ)Z" } : Jvm.MethodName))) ∈ pU := pU_of (i := 942) rfl rfl
set_option maxRecDepth 20000 in
theorem u_908 : ((Jvm.Cond.static ({ cls := "ViewBroadcastModel", name := "in", desc := "(JJJ)Z" } : Jvm.MethodName))) ∈ pU := pU_of (i := 943) rfl rfl
set_option maxRecDepth 20000 in
theorem u_909 : ((Jvm.Cond.code ({ cls := "ViewBroadcastModel", name := "in", desc := "(JJJ)Z" } : Jvm.MethodName) prog_13_method_3_code (6 : Nat) (Option.some Jvm.ClassFile.FieldType.boolean))) ∈ pU := pU_of (i := 944) rfl rfl
set_option maxRecDepth 20000 in
theorem u_910 : ((Jvm.Cond.constantLong "ViewBroadcastModel" (59 : Nat) (8 : Int64))) ∈ pU := pU_of (i := 945) rfl rfl
set_option maxRecDepth 20000 in
theorem u_911 : ((Jvm.Cond.methodLink "ViewBroadcastLaw" (22 : Nat) ({ cls := "ViewBroadcastModel", name := "walks", desc := "(III)I" } : Jvm.MethodName))) ∈ pU := pU_of (i := 946) rfl rfl
set_option maxRecDepth 20000 in
theorem u_912 : ((Jvm.Cond.instanceMethod ({ cls := "ViewBroadcastModel", name := "walks", desc := "(III)I" } : Jvm.MethodName))) ∈ pU := pU_of (i := 947) rfl rfl
set_option maxRecDepth 20000 in
theorem u_913 : ((Jvm.Cond.selects "ViewBroadcastModel" ({ cls := "ViewBroadcastModel", name := "walks", desc := "(III)I" } : Jvm.MethodName) ({ cls := "ViewBroadcastModel", name := "walks", desc := "(III)I" } : Jvm.MethodName))) ∈ pU := pU_of (i := 948) rfl rfl
set_option maxRecDepth 20000 in
theorem u_914 : ((Jvm.Cond.code ({ cls := "ViewBroadcastModel", name := "walks", desc := "(III)I" } : Jvm.MethodName) prog_13_method_7_code (4 : Nat) (Option.some Jvm.ClassFile.FieldType.int))) ∈ pU := pU_of (i := 949) rfl rfl
set_option maxRecDepth 20000 in
theorem u_915 : ((Jvm.Cond.constantLong "ViewBroadcastModel" (61 : Nat) (6 : Int64))) ∈ pU := pU_of (i := 950) rfl rfl
set_option maxRecDepth 20000 in
theorem u_916 : ((Jvm.Cond.constantLong "ViewBroadcastModel" (63 : Nat) (20 : Int64))) ∈ pU := pU_of (i := 951) rfl rfl
set_option maxRecDepth 20000 in
theorem u_917 : ((Jvm.Cond.methodLink "ViewBroadcastLaw" (27 : Nat) ({ cls := "ViewBroadcastModel", name := "coin", desc := "(I)I" } : Jvm.MethodName))) ∈ pU := pU_of (i := 952) rfl rfl
set_option maxRecDepth 20000 in
theorem u_918 : ((Jvm.Cond.instanceMethod ({ cls := "ViewBroadcastModel", name := "coin", desc := "(I)I" } : Jvm.MethodName))) ∈ pU := pU_of (i := 953) rfl rfl
set_option maxRecDepth 20000 in
theorem u_919 : ((Jvm.Cond.selects "ViewBroadcastModel" ({ cls := "ViewBroadcastModel", name := "coin", desc := "(I)I" } : Jvm.MethodName) ({ cls := "ViewBroadcastModel", name := "coin", desc := "(I)I" } : Jvm.MethodName))) ∈ pU := pU_of (i := 954) rfl rfl
set_option maxRecDepth 20000 in
theorem u_920 : ((Jvm.Cond.code ({ cls := "ViewBroadcastModel", name := "coin", desc := "(I)I" } : Jvm.MethodName) prog_13_method_8_code (2 : Nat) (Option.some Jvm.ClassFile.FieldType.int))) ∈ pU := pU_of (i := 955) rfl rfl
set_option maxRecDepth 20000 in
theorem u_921 : ((Jvm.Cond.methodLink "ViewBroadcastLaw" (32 : Nat) ({ cls := "ViewBroadcastModel", name := "node", desc := "()I" } : Jvm.MethodName))) ∈ pU := pU_of (i := 956) rfl rfl
set_option maxRecDepth 20000 in
theorem u_922 : ((Jvm.Cond.instanceMethod ({ cls := "ViewBroadcastModel", name := "node", desc := "()I" } : Jvm.MethodName))) ∈ pU := pU_of (i := 957) rfl rfl
set_option maxRecDepth 20000 in
theorem u_923 : ((Jvm.Cond.selects "ViewBroadcastModel" ({ cls := "ViewBroadcastModel", name := "node", desc := "()I" } : Jvm.MethodName) ({ cls := "ViewBroadcastModel", name := "node", desc := "()I" } : Jvm.MethodName))) ∈ pU := pU_of (i := 958) rfl rfl
set_option maxRecDepth 20000 in
theorem u_924 : ((Jvm.Cond.code ({ cls := "ViewBroadcastModel", name := "node", desc := "()I" } : Jvm.MethodName) prog_13_method_27_code (3 : Nat) (Option.some Jvm.ClassFile.FieldType.int))) ∈ pU := pU_of (i := 959) rfl rfl
set_option maxRecDepth 20000 in
theorem u_925 : ((Jvm.Cond.methodLink "ViewBroadcastLaw" (36 : Nat) ({ cls := "ViewBroadcastModel", name := "join", desc := "(II)I" } : Jvm.MethodName))) ∈ pU := pU_of (i := 960) rfl rfl
set_option maxRecDepth 20000 in
theorem u_926 : ((Jvm.Cond.instanceMethod ({ cls := "ViewBroadcastModel", name := "join", desc := "(II)I" } : Jvm.MethodName))) ∈ pU := pU_of (i := 961) rfl rfl
set_option maxRecDepth 20000 in
theorem u_927 : ((Jvm.Cond.selects "ViewBroadcastModel" ({ cls := "ViewBroadcastModel", name := "join", desc := "(II)I" } : Jvm.MethodName) ({ cls := "ViewBroadcastModel", name := "join", desc := "(II)I" } : Jvm.MethodName))) ∈ pU := pU_of (i := 962) rfl rfl
set_option maxRecDepth 20000 in
theorem u_928 : ((Jvm.Cond.code ({ cls := "ViewBroadcastModel", name := "join", desc := "(II)I" } : Jvm.MethodName) prog_13_method_28_code (3 : Nat) (Option.some Jvm.ClassFile.FieldType.int))) ∈ pU := pU_of (i := 963) rfl rfl
set_option maxRecDepth 20000 in
theorem u_929 : ((Jvm.Cond.methodLink "ViewBroadcastModel" (110 : Nat) ({ cls := "ViewBroadcastModel", name := "isNode", desc := "(I)Z" } : Jvm.MethodName))) ∈ pU := pU_of (i := 964) rfl rfl
set_option maxRecDepth 20000 in
theorem u_931 : ((Jvm.Cond.instanceMethod ({ cls := "ViewBroadcastModel", name := "isNode", desc := "(I)Z" } : Jvm.MethodName))) ∈ pU := pU_of (i := 966) rfl rfl
set_option maxRecDepth 20000 in
theorem u_932 : ((Jvm.Cond.code ({ cls := "ViewBroadcastModel", name := "isNode", desc := "(I)Z" } : Jvm.MethodName) prog_13_method_4_code (2 : Nat) (Option.some Jvm.ClassFile.FieldType.boolean))) ∈ pU := pU_of (i := 967) rfl rfl
set_option maxRecDepth 20000 in
theorem u_933 : ((Jvm.Cond.methodLink "ViewBroadcastModel" (100 : Nat) ({ cls := "ViewBroadcastModel", name := "send", desc := "(IIIII)V" } : Jvm.MethodName))) ∈ pU := pU_of (i := 968) rfl rfl
set_option maxRecDepth 20000 in
theorem u_935 : ((Jvm.Cond.instanceMethod ({ cls := "ViewBroadcastModel", name := "send", desc := "(IIIII)V" } : Jvm.MethodName))) ∈ pU := pU_of (i := 970) rfl rfl
set_option maxRecDepth 20000 in
theorem u_936 : ((Jvm.Cond.code ({ cls := "ViewBroadcastModel", name := "send", desc := "(IIIII)V" } : Jvm.MethodName) prog_13_method_13_code (6 : Nat) (Option.none : Option Jvm.ClassFile.FieldType))) ∈ pU := pU_of (i := 971) rfl rfl
set_option maxRecDepth 20000 in
theorem u_937 : ((Jvm.Cond.methodLink "ViewBroadcastModel" (76 : Nat) ({ cls := "ViewBroadcastModel", name := "sendList", desc := "(IIIIII)V" } : Jvm.MethodName))) ∈ pU := pU_of (i := 972) rfl rfl
set_option maxRecDepth 20000 in
theorem u_939 : ((Jvm.Cond.instanceMethod ({ cls := "ViewBroadcastModel", name := "sendList", desc := "(IIIIII)V" } : Jvm.MethodName))) ∈ pU := pU_of (i := 974) rfl rfl
set_option maxRecDepth 20000 in
theorem u_940 : ((Jvm.Cond.code ({ cls := "ViewBroadcastModel", name := "sendList", desc := "(IIIIII)V" } : Jvm.MethodName) prog_13_method_12_code (7 : Nat) (Option.none : Option Jvm.ClassFile.FieldType))) ∈ pU := pU_of (i := 975) rfl rfl
set_option maxRecDepth 20000 in
theorem u_941 : ((Jvm.Cond.methodLink "ViewBroadcastModel" (72 : Nat) ({ cls := "ViewBroadcastModel", name := "post", desc := "(IIIIII)V" } : Jvm.MethodName))) ∈ pU := pU_of (i := 976) rfl rfl
set_option maxRecDepth 20000 in
theorem u_943 : ((Jvm.Cond.instanceMethod ({ cls := "ViewBroadcastModel", name := "post", desc := "(IIIIII)V" } : Jvm.MethodName))) ∈ pU := pU_of (i := 978) rfl rfl
set_option maxRecDepth 20000 in
theorem u_944 : ((Jvm.Cond.code ({ cls := "ViewBroadcastModel", name := "post", desc := "(IIIIII)V" } : Jvm.MethodName) prog_13_method_11_code (9 : Nat) (Option.none : Option Jvm.ClassFile.FieldType))) ∈ pU := pU_of (i := 979) rfl rfl
set_option maxRecDepth 20000 in
theorem u_945 : ((Jvm.Cond.methodLink "ViewBroadcastModel" (68 : Nat) ({ cls := "ViewBroadcastModel", name := "ofLetter", desc := "(II)I" } : Jvm.MethodName))) ∈ pU := pU_of (i := 980) rfl rfl
set_option maxRecDepth 20000 in
theorem u_947 : ((Jvm.Cond.instanceMethod ({ cls := "ViewBroadcastModel", name := "ofLetter", desc := "(II)I" } : Jvm.MethodName))) ∈ pU := pU_of (i := 982) rfl rfl
set_option maxRecDepth 20000 in
theorem u_948 : ((Jvm.Cond.code ({ cls := "ViewBroadcastModel", name := "ofLetter", desc := "(II)I" } : Jvm.MethodName) prog_13_method_10_code (3 : Nat) (Option.some Jvm.ClassFile.FieldType.int))) ∈ pU := pU_of (i := 983) rfl rfl
set_option maxRecDepth 20000 in
theorem u_949 : ((Jvm.Cond.methodLink "ViewBroadcastLaw" (40 : Nat) ({ cls := "ViewBroadcastModel", name := "stop", desc := "(I)I" } : Jvm.MethodName))) ∈ pU := pU_of (i := 984) rfl rfl
set_option maxRecDepth 20000 in
theorem u_950 : ((Jvm.Cond.instanceMethod ({ cls := "ViewBroadcastModel", name := "stop", desc := "(I)I" } : Jvm.MethodName))) ∈ pU := pU_of (i := 985) rfl rfl
set_option maxRecDepth 20000 in
theorem u_951 : ((Jvm.Cond.selects "ViewBroadcastModel" ({ cls := "ViewBroadcastModel", name := "stop", desc := "(I)I" } : Jvm.MethodName) ({ cls := "ViewBroadcastModel", name := "stop", desc := "(I)I" } : Jvm.MethodName))) ∈ pU := pU_of (i := 986) rfl rfl
set_option maxRecDepth 20000 in
theorem u_952 : ((Jvm.Cond.code ({ cls := "ViewBroadcastModel", name := "stop", desc := "(I)I" } : Jvm.MethodName) prog_13_method_29_code (4 : Nat) (Option.some Jvm.ClassFile.FieldType.int))) ∈ pU := pU_of (i := 987) rfl rfl
set_option maxRecDepth 20000 in
theorem u_953 : ((Jvm.Cond.methodLink "ViewBroadcastModel" (114 : Nat) ({ cls := "ViewBroadcastModel", name := "takeOutLetter", desc := "(I)V" } : Jvm.MethodName))) ∈ pU := pU_of (i := 988) rfl rfl
set_option maxRecDepth 20000 in
theorem u_955 : ((Jvm.Cond.instanceMethod ({ cls := "ViewBroadcastModel", name := "takeOutLetter", desc := "(I)V" } : Jvm.MethodName))) ∈ pU := pU_of (i := 990) rfl rfl
set_option maxRecDepth 20000 in
theorem u_956 : ((Jvm.Cond.code ({ cls := "ViewBroadcastModel", name := "takeOutLetter", desc := "(I)V" } : Jvm.MethodName) prog_13_method_14_code (5 : Nat) (Option.none : Option Jvm.ClassFile.FieldType))) ∈ pU := pU_of (i := 991) rfl rfl
set_option maxRecDepth 20000 in
theorem u_957 : ((Jvm.Cond.methodLink "ViewBroadcastModel" (89 : Nat) ({ cls := "ViewBroadcastModel", name := "isActive", desc := "(II)Z" } : Jvm.MethodName))) ∈ pU := pU_of (i := 992) rfl rfl
set_option maxRecDepth 20000 in
theorem u_959 : ((Jvm.Cond.instanceMethod ({ cls := "ViewBroadcastModel", name := "isActive", desc := "(II)Z" } : Jvm.MethodName))) ∈ pU := pU_of (i := 994) rfl rfl
set_option maxRecDepth 20000 in
theorem u_960 : ((Jvm.Cond.code ({ cls := "ViewBroadcastModel", name := "isActive", desc := "(II)Z" } : Jvm.MethodName) prog_13_method_17_code (3 : Nat) (Option.some Jvm.ClassFile.FieldType.boolean))) ∈ pU := pU_of (i := 995) rfl rfl
set_option maxRecDepth 20000 in
theorem u_961 : ((Jvm.Cond.methodLink "ViewBroadcastModel" (79 : Nat) ({ cls := "ViewBroadcastModel", name := "activeAt", desc := "(II)I" } : Jvm.MethodName))) ∈ pU := pU_of (i := 996) rfl rfl
set_option maxRecDepth 20000 in
theorem u_963 : ((Jvm.Cond.instanceMethod ({ cls := "ViewBroadcastModel", name := "activeAt", desc := "(II)I" } : Jvm.MethodName))) ∈ pU := pU_of (i := 998) rfl rfl
set_option maxRecDepth 20000 in
theorem u_964 : ((Jvm.Cond.code ({ cls := "ViewBroadcastModel", name := "activeAt", desc := "(II)I" } : Jvm.MethodName) prog_13_method_15_code (4 : Nat) (Option.some Jvm.ClassFile.FieldType.int))) ∈ pU := pU_of (i := 999) rfl rfl
set_option maxRecDepth 20000 in
theorem u_965 : ((Jvm.Cond.methodLink "ViewBroadcastModel" (118 : Nat) ({ cls := "ViewBroadcastModel", name := "isUnderWay", desc := "(II)Z" } : Jvm.MethodName))) ∈ pU := pU_of (i := 1000) rfl rfl
set_option maxRecDepth 20000 in
theorem u_967 : ((Jvm.Cond.instanceMethod ({ cls := "ViewBroadcastModel", name := "isUnderWay", desc := "(II)Z" } : Jvm.MethodName))) ∈ pU := pU_of (i := 1002) rfl rfl
set_option maxRecDepth 20000 in
theorem u_968 : ((Jvm.Cond.code ({ cls := "ViewBroadcastModel", name := "isUnderWay", desc := "(II)Z" } : Jvm.MethodName) prog_13_method_30_code (5 : Nat) (Option.some Jvm.ClassFile.FieldType.boolean))) ∈ pU := pU_of (i := 1003) rfl rfl
set_option maxRecDepth 20000 in
theorem u_969 : ((Jvm.Cond.methodLink "ViewBroadcastLaw" (44 : Nat) ({ cls := "ViewBroadcastModel", name := "mix", desc := "(I)I" } : Jvm.MethodName))) ∈ pU := pU_of (i := 1004) rfl rfl
set_option maxRecDepth 20000 in
theorem u_970 : ((Jvm.Cond.instanceMethod ({ cls := "ViewBroadcastModel", name := "mix", desc := "(I)I" } : Jvm.MethodName))) ∈ pU := pU_of (i := 1005) rfl rfl
set_option maxRecDepth 20000 in
theorem u_971 : ((Jvm.Cond.selects "ViewBroadcastModel" ({ cls := "ViewBroadcastModel", name := "mix", desc := "(I)I" } : Jvm.MethodName) ({ cls := "ViewBroadcastModel", name := "mix", desc := "(I)I" } : Jvm.MethodName))) ∈ pU := pU_of (i := 1006) rfl rfl
set_option maxRecDepth 20000 in
theorem u_972 : ((Jvm.Cond.code ({ cls := "ViewBroadcastModel", name := "mix", desc := "(I)I" } : Jvm.MethodName) prog_13_method_31_code (5 : Nat) (Option.some Jvm.ClassFile.FieldType.int))) ∈ pU := pU_of (i := 1007) rfl rfl
set_option maxRecDepth 20000 in
theorem u_973 : ((Jvm.Cond.methodLink "ViewBroadcastModel" (93 : Nat) ({ cls := "ViewBroadcastModel", name := "draw", desc := "(I)I" } : Jvm.MethodName))) ∈ pU := pU_of (i := 1008) rfl rfl
set_option maxRecDepth 20000 in
theorem u_975 : ((Jvm.Cond.instanceMethod ({ cls := "ViewBroadcastModel", name := "draw", desc := "(I)I" } : Jvm.MethodName))) ∈ pU := pU_of (i := 1010) rfl rfl
set_option maxRecDepth 20000 in
theorem u_976 : ((Jvm.Cond.code ({ cls := "ViewBroadcastModel", name := "draw", desc := "(I)I" } : Jvm.MethodName) prog_13_method_9_code (3 : Nat) (Option.some Jvm.ClassFile.FieldType.int))) ∈ pU := pU_of (i := 1011) rfl rfl
set_option maxRecDepth 20000 in
theorem u_977 : ((Jvm.Cond.methodLink "ViewBroadcastModel" (124 : Nat) ({ cls := "ViewBroadcastModel", name := "without", desc := "(III)I" } : Jvm.MethodName))) ∈ pU := pU_of (i := 1012) rfl rfl
set_option maxRecDepth 20000 in
theorem u_979 : ((Jvm.Cond.instanceMethod ({ cls := "ViewBroadcastModel", name := "without", desc := "(III)I" } : Jvm.MethodName))) ∈ pU := pU_of (i := 1014) rfl rfl
set_option maxRecDepth 20000 in
theorem u_980 : ((Jvm.Cond.code ({ cls := "ViewBroadcastModel", name := "without", desc := "(III)I" } : Jvm.MethodName) prog_13_method_25_code (7 : Nat) (Option.some Jvm.ClassFile.FieldType.int))) ∈ pU := pU_of (i := 1015) rfl rfl
set_option maxRecDepth 20000 in
theorem u_981 : ((Jvm.Cond.methodLink "ViewBroadcastModel" (128 : Nat) ({ cls := "ViewBroadcastModel", name := "drawSome", desc := "(II)V" } : Jvm.MethodName))) ∈ pU := pU_of (i := 1016) rfl rfl
set_option maxRecDepth 20000 in
theorem u_983 : ((Jvm.Cond.instanceMethod ({ cls := "ViewBroadcastModel", name := "drawSome", desc := "(II)V" } : Jvm.MethodName))) ∈ pU := pU_of (i := 1018) rfl rfl
set_option maxRecDepth 20000 in
theorem u_984 : ((Jvm.Cond.code ({ cls := "ViewBroadcastModel", name := "drawSome", desc := "(II)V" } : Jvm.MethodName) prog_13_method_32_code (5 : Nat) (Option.none : Option Jvm.ClassFile.FieldType))) ∈ pU := pU_of (i := 1019) rfl rfl
set_option maxRecDepth 20000 in
theorem u_985 : ((Jvm.Cond.methodLink "ViewBroadcastModel" (131 : Nat) ({ cls := "ViewBroadcastModel", name := "drawOut", desc := "(I)I" } : Jvm.MethodName))) ∈ pU := pU_of (i := 1020) rfl rfl
set_option maxRecDepth 20000 in
theorem u_987 : ((Jvm.Cond.instanceMethod ({ cls := "ViewBroadcastModel", name := "drawOut", desc := "(I)I" } : Jvm.MethodName))) ∈ pU := pU_of (i := 1022) rfl rfl
set_option maxRecDepth 20000 in
theorem u_988 : ((Jvm.Cond.code ({ cls := "ViewBroadcastModel", name := "drawOut", desc := "(I)I" } : Jvm.MethodName) prog_13_method_26_code (5 : Nat) (Option.some Jvm.ClassFile.FieldType.int))) ∈ pU := pU_of (i := 1023) rfl rfl
set_option maxRecDepth 20000 in
theorem u_989 : ((Jvm.Cond.methodLink "ViewBroadcastLaw" (48 : Nat) ({ cls := "ViewBroadcastModel", name := "tale", desc := "(I)I" } : Jvm.MethodName))) ∈ pU := pU_of (i := 1024) rfl rfl
set_option maxRecDepth 20000 in
theorem u_990 : ((Jvm.Cond.instanceMethod ({ cls := "ViewBroadcastModel", name := "tale", desc := "(I)I" } : Jvm.MethodName))) ∈ pU := pU_of (i := 1025) rfl rfl
set_option maxRecDepth 20000 in
theorem u_991 : ((Jvm.Cond.selects "ViewBroadcastModel" ({ cls := "ViewBroadcastModel", name := "tale", desc := "(I)I" } : Jvm.MethodName) ({ cls := "ViewBroadcastModel", name := "tale", desc := "(I)I" } : Jvm.MethodName))) ∈ pU := pU_of (i := 1026) rfl rfl
set_option maxRecDepth 20000 in
theorem u_992 : ((Jvm.Cond.code ({ cls := "ViewBroadcastModel", name := "tale", desc := "(I)I" } : Jvm.MethodName) prog_13_method_33_code (2 : Nat) (Option.some Jvm.ClassFile.FieldType.int))) ∈ pU := pU_of (i := 1027) rfl rfl
set_option maxRecDepth 20000 in
theorem u_993 : ((Jvm.Cond.methodLink "ViewBroadcastModel" (134 : Nat) ({ cls := "ViewBroadcastModel", name := "hear", desc := "(IIII)V" } : Jvm.MethodName))) ∈ pU := pU_of (i := 1028) rfl rfl
set_option maxRecDepth 20000 in
theorem u_995 : ((Jvm.Cond.instanceMethod ({ cls := "ViewBroadcastModel", name := "hear", desc := "(IIII)V" } : Jvm.MethodName))) ∈ pU := pU_of (i := 1030) rfl rfl
set_option maxRecDepth 20000 in
theorem u_996 : ((Jvm.Cond.code ({ cls := "ViewBroadcastModel", name := "hear", desc := "(IIII)V" } : Jvm.MethodName) prog_13_method_34_code (9 : Nat) (Option.none : Option Jvm.ClassFile.FieldType))) ∈ pU := pU_of (i := 1031) rfl rfl
set_option maxRecDepth 20000 in
theorem u_997 : ((Jvm.Cond.methodLink "ViewBroadcastLaw" (52 : Nat) ({ cls := "ViewBroadcastModel", name := "tick", desc := "()I" } : Jvm.MethodName))) ∈ pU := pU_of (i := 1032) rfl rfl
set_option maxRecDepth 20000 in
theorem u_998 : ((Jvm.Cond.instanceMethod ({ cls := "ViewBroadcastModel", name := "tick", desc := "()I" } : Jvm.MethodName))) ∈ pU := pU_of (i := 1033) rfl rfl
set_option maxRecDepth 20000 in
theorem u_999 : ((Jvm.Cond.selects "ViewBroadcastModel" ({ cls := "ViewBroadcastModel", name := "tick", desc := "()I" } : Jvm.MethodName) ({ cls := "ViewBroadcastModel", name := "tick", desc := "()I" } : Jvm.MethodName))) ∈ pU := pU_of (i := 1034) rfl rfl
set_option maxRecDepth 20000 in
theorem u_1000 : ((Jvm.Cond.code ({ cls := "ViewBroadcastModel", name := "tick", desc := "()I" } : Jvm.MethodName) prog_13_method_35_code (4 : Nat) (Option.some Jvm.ClassFile.FieldType.int))) ∈ pU := pU_of (i := 1035) rfl rfl
set_option maxRecDepth 20000 in
theorem u_1001 : ((Jvm.Cond.methodLink "ViewBroadcastModel" (138 : Nat) ({ cls := "ViewBroadcastModel", name := "fetch", desc := "(III)V" } : Jvm.MethodName))) ∈ pU := pU_of (i := 1036) rfl rfl
set_option maxRecDepth 20000 in
theorem u_1003 : ((Jvm.Cond.instanceMethod ({ cls := "ViewBroadcastModel", name := "fetch", desc := "(III)V" } : Jvm.MethodName))) ∈ pU := pU_of (i := 1038) rfl rfl
set_option maxRecDepth 20000 in
theorem u_1004 : ((Jvm.Cond.code ({ cls := "ViewBroadcastModel", name := "fetch", desc := "(III)V" } : Jvm.MethodName) prog_13_method_36_code (6 : Nat) (Option.none : Option Jvm.ClassFile.FieldType))) ∈ pU := pU_of (i := 1039) rfl rfl
set_option maxRecDepth 20000 in
theorem u_1005 : ((Jvm.Cond.methodLink "ViewBroadcastModel" (142 : Nat) ({ cls := "ViewBroadcastModel", name := "setLazy", desc := "(III)V" } : Jvm.MethodName))) ∈ pU := pU_of (i := 1040) rfl rfl
set_option maxRecDepth 20000 in
theorem u_1007 : ((Jvm.Cond.instanceMethod ({ cls := "ViewBroadcastModel", name := "setLazy", desc := "(III)V" } : Jvm.MethodName))) ∈ pU := pU_of (i := 1042) rfl rfl
set_option maxRecDepth 20000 in
theorem u_1008 : ((Jvm.Cond.code ({ cls := "ViewBroadcastModel", name := "setLazy", desc := "(III)V" } : Jvm.MethodName) prog_13_method_21_code (5 : Nat) (Option.none : Option Jvm.ClassFile.FieldType))) ∈ pU := pU_of (i := 1043) rfl rfl
set_option maxRecDepth 20000 in
theorem u_1009 : ((Jvm.Cond.methodLink "ViewBroadcastLaw" (56 : Nat) ({ cls := "ViewBroadcastModel", name := "deliver", desc := "(I)I" } : Jvm.MethodName))) ∈ pU := pU_of (i := 1044) rfl rfl
set_option maxRecDepth 20000 in
theorem u_1010 : ((Jvm.Cond.instanceMethod ({ cls := "ViewBroadcastModel", name := "deliver", desc := "(I)I" } : Jvm.MethodName))) ∈ pU := pU_of (i := 1045) rfl rfl
set_option maxRecDepth 20000 in
theorem u_1011 : ((Jvm.Cond.selects "ViewBroadcastModel" ({ cls := "ViewBroadcastModel", name := "deliver", desc := "(I)I" } : Jvm.MethodName) ({ cls := "ViewBroadcastModel", name := "deliver", desc := "(I)I" } : Jvm.MethodName))) ∈ pU := pU_of (i := 1046) rfl rfl
set_option maxRecDepth 20000 in
theorem u_1012 : ((Jvm.Cond.code ({ cls := "ViewBroadcastModel", name := "deliver", desc := "(I)I" } : Jvm.MethodName) prog_13_method_38_code (2 : Nat) (Option.some Jvm.ClassFile.FieldType.int))) ∈ pU := pU_of (i := 1047) rfl rfl
set_option maxRecDepth 20000 in
theorem u_1013 : ((Jvm.Cond.methodLink "ViewBroadcastModel" (145 : Nat) ({ cls := "ViewBroadcastModel", name := "canCome", desc := "(I)Z" } : Jvm.MethodName))) ∈ pU := pU_of (i := 1048) rfl rfl
set_option maxRecDepth 20000 in
theorem u_1015 : ((Jvm.Cond.instanceMethod ({ cls := "ViewBroadcastModel", name := "canCome", desc := "(I)Z" } : Jvm.MethodName))) ∈ pU := pU_of (i := 1050) rfl rfl
set_option maxRecDepth 20000 in
theorem u_1016 : ((Jvm.Cond.code ({ cls := "ViewBroadcastModel", name := "canCome", desc := "(I)Z" } : Jvm.MethodName) prog_13_method_37_code (4 : Nat) (Option.some Jvm.ClassFile.FieldType.boolean))) ∈ pU := pU_of (i := 1051) rfl rfl
set_option maxRecDepth 20000 in
theorem u_1017 : ((Jvm.Cond.methodLink "ViewBroadcastModel" (148 : Nat) ({ cls := "ViewBroadcastModel", name := "comes", desc := "(I)I" } : Jvm.MethodName))) ∈ pU := pU_of (i := 1052) rfl rfl
set_option maxRecDepth 20000 in
theorem u_1019 : ((Jvm.Cond.instanceMethod ({ cls := "ViewBroadcastModel", name := "comes", desc := "(I)I" } : Jvm.MethodName))) ∈ pU := pU_of (i := 1054) rfl rfl
set_option maxRecDepth 20000 in
theorem u_1020 : ((Jvm.Cond.code ({ cls := "ViewBroadcastModel", name := "comes", desc := "(I)I" } : Jvm.MethodName) prog_13_method_40_code (9 : Nat) (Option.some Jvm.ClassFile.FieldType.int))) ∈ pU := pU_of (i := 1055) rfl rfl
set_option maxRecDepth 20000 in
theorem u_1021 : ((Jvm.Cond.methodLink "ViewBroadcastModel" (156 : Nat) ({ cls := "ViewBroadcastModel", name := "joins", desc := "(IIIII)V" } : Jvm.MethodName))) ∈ pU := pU_of (i := 1056) rfl rfl
set_option maxRecDepth 20000 in
theorem u_1023 : ((Jvm.Cond.instanceMethod ({ cls := "ViewBroadcastModel", name := "joins", desc := "(IIIII)V" } : Jvm.MethodName))) ∈ pU := pU_of (i := 1058) rfl rfl
set_option maxRecDepth 20000 in
theorem u_1024 : ((Jvm.Cond.code ({ cls := "ViewBroadcastModel", name := "joins", desc := "(IIIII)V" } : Jvm.MethodName) prog_13_method_41_code (8 : Nat) (Option.none : Option Jvm.ClassFile.FieldType))) ∈ pU := pU_of (i := 1059) rfl rfl
set_option maxRecDepth 20000 in
theorem u_1025 : ((Jvm.Cond.methodLink "ViewBroadcastModel" (168 : Nat) ({ cls := "ViewBroadcastModel", name := "add", desc := "(II)V" } : Jvm.MethodName))) ∈ pU := pU_of (i := 1060) rfl rfl
set_option maxRecDepth 20000 in
theorem u_1027 : ((Jvm.Cond.instanceMethod ({ cls := "ViewBroadcastModel", name := "add", desc := "(II)V" } : Jvm.MethodName))) ∈ pU := pU_of (i := 1062) rfl rfl
set_option maxRecDepth 20000 in
theorem u_1028 : ((Jvm.Cond.code ({ cls := "ViewBroadcastModel", name := "add", desc := "(II)V" } : Jvm.MethodName) prog_13_method_23_code (4 : Nat) (Option.none : Option Jvm.ClassFile.FieldType))) ∈ pU := pU_of (i := 1063) rfl rfl
set_option maxRecDepth 20000 in
theorem u_1029 : ((Jvm.Cond.methodLink "ViewBroadcastModel" (97 : Nat) ({ cls := "ViewBroadcastModel", name := "leavesPassive", desc := "(II)V" } : Jvm.MethodName))) ∈ pU := pU_of (i := 1064) rfl rfl
set_option maxRecDepth 20000 in
theorem u_1031 : ((Jvm.Cond.instanceMethod ({ cls := "ViewBroadcastModel", name := "leavesPassive", desc := "(II)V" } : Jvm.MethodName))) ∈ pU := pU_of (i := 1066) rfl rfl
set_option maxRecDepth 20000 in
theorem u_1032 : ((Jvm.Cond.code ({ cls := "ViewBroadcastModel", name := "leavesPassive", desc := "(II)V" } : Jvm.MethodName) prog_13_method_18_code (5 : Nat) (Option.none : Option Jvm.ClassFile.FieldType))) ∈ pU := pU_of (i := 1067) rfl rfl
set_option maxRecDepth 20000 in
theorem u_1033 : ((Jvm.Cond.methodLink "ViewBroadcastModel" (82 : Nat) ({ cls := "ViewBroadcastModel", name := "passiveAt", desc := "(II)I" } : Jvm.MethodName))) ∈ pU := pU_of (i := 1068) rfl rfl
set_option maxRecDepth 20000 in
theorem u_1035 : ((Jvm.Cond.instanceMethod ({ cls := "ViewBroadcastModel", name := "passiveAt", desc := "(II)I" } : Jvm.MethodName))) ∈ pU := pU_of (i := 1070) rfl rfl
set_option maxRecDepth 20000 in
theorem u_1036 : ((Jvm.Cond.code ({ cls := "ViewBroadcastModel", name := "passiveAt", desc := "(II)I" } : Jvm.MethodName) prog_13_method_16_code (4 : Nat) (Option.some Jvm.ClassFile.FieldType.int))) ∈ pU := pU_of (i := 1071) rfl rfl
set_option maxRecDepth 20000 in
theorem u_1037 : ((Jvm.Cond.methodLink "ViewBroadcastModel" (104 : Nat) ({ cls := "ViewBroadcastModel", name := "leavesActive", desc := "(II)V" } : Jvm.MethodName))) ∈ pU := pU_of (i := 1072) rfl rfl
set_option maxRecDepth 20000 in
theorem u_1039 : ((Jvm.Cond.instanceMethod ({ cls := "ViewBroadcastModel", name := "leavesActive", desc := "(II)V" } : Jvm.MethodName))) ∈ pU := pU_of (i := 1074) rfl rfl
set_option maxRecDepth 20000 in
theorem u_1040 : ((Jvm.Cond.code ({ cls := "ViewBroadcastModel", name := "leavesActive", desc := "(II)V" } : Jvm.MethodName) prog_13_method_19_code (5 : Nat) (Option.none : Option Jvm.ClassFile.FieldType))) ∈ pU := pU_of (i := 1075) rfl rfl
set_option maxRecDepth 20000 in
theorem u_1041 : ((Jvm.Cond.methodLink "ViewBroadcastModel" (85 : Nat) ({ cls := "ViewBroadcastModel", name := "forgetTeller", desc := "(II)V" } : Jvm.MethodName))) ∈ pU := pU_of (i := 1076) rfl rfl
set_option maxRecDepth 20000 in
theorem u_1043 : ((Jvm.Cond.instanceMethod ({ cls := "ViewBroadcastModel", name := "forgetTeller", desc := "(II)V" } : Jvm.MethodName))) ∈ pU := pU_of (i := 1078) rfl rfl
set_option maxRecDepth 20000 in
theorem u_1044 : ((Jvm.Cond.code ({ cls := "ViewBroadcastModel", name := "forgetTeller", desc := "(II)V" } : Jvm.MethodName) prog_13_method_20_code (6 : Nat) (Option.none : Option Jvm.ClassFile.FieldType))) ∈ pU := pU_of (i := 1079) rfl rfl
set_option maxRecDepth 20000 in
theorem u_1045 : ((Jvm.Cond.methodLink "ViewBroadcastModel" (107 : Nat) ({ cls := "ViewBroadcastModel", name := "note", desc := "(II)V" } : Jvm.MethodName))) ∈ pU := pU_of (i := 1080) rfl rfl
set_option maxRecDepth 20000 in
theorem u_1047 : ((Jvm.Cond.instanceMethod ({ cls := "ViewBroadcastModel", name := "note", desc := "(II)V" } : Jvm.MethodName))) ∈ pU := pU_of (i := 1082) rfl rfl
set_option maxRecDepth 20000 in
theorem u_1048 : ((Jvm.Cond.code ({ cls := "ViewBroadcastModel", name := "note", desc := "(II)V" } : Jvm.MethodName) prog_13_method_22_code (3 : Nat) (Option.none : Option Jvm.ClassFile.FieldType))) ∈ pU := pU_of (i := 1083) rfl rfl
set_option maxRecDepth 20000 in
theorem u_1049 : ((Jvm.Cond.methodLink "ViewBroadcastModel" (171 : Nat) ({ cls := "ViewBroadcastModel", name := "goesOn", desc := "(IIII)V" } : Jvm.MethodName))) ∈ pU := pU_of (i := 1084) rfl rfl
set_option maxRecDepth 20000 in
theorem u_1051 : ((Jvm.Cond.instanceMethod ({ cls := "ViewBroadcastModel", name := "goesOn", desc := "(IIII)V" } : Jvm.MethodName))) ∈ pU := pU_of (i := 1086) rfl rfl
set_option maxRecDepth 20000 in
theorem u_1052 : ((Jvm.Cond.code ({ cls := "ViewBroadcastModel", name := "goesOn", desc := "(IIII)V" } : Jvm.MethodName) prog_13_method_42_code (8 : Nat) (Option.none : Option Jvm.ClassFile.FieldType))) ∈ pU := pU_of (i := 1087) rfl rfl
set_option maxRecDepth 20000 in
theorem u_1053 : ((Jvm.Cond.methodLink "ViewBroadcastModel" (159 : Nat) ({ cls := "ViewBroadcastModel", name := "mends", desc := "(IIII)V" } : Jvm.MethodName))) ∈ pU := pU_of (i := 1088) rfl rfl
set_option maxRecDepth 20000 in
theorem u_1055 : ((Jvm.Cond.instanceMethod ({ cls := "ViewBroadcastModel", name := "mends", desc := "(IIII)V" } : Jvm.MethodName))) ∈ pU := pU_of (i := 1090) rfl rfl
set_option maxRecDepth 20000 in
theorem u_1056 : ((Jvm.Cond.code ({ cls := "ViewBroadcastModel", name := "mends", desc := "(IIII)V" } : Jvm.MethodName) prog_13_method_43_code (5 : Nat) (Option.none : Option Jvm.ClassFile.FieldType))) ∈ pU := pU_of (i := 1091) rfl rfl
set_option maxRecDepth 20000 in
theorem u_1057 : ((Jvm.Cond.methodLink "ViewBroadcastModel" (174 : Nat) ({ cls := "ViewBroadcastModel", name := "mend", desc := "(I)V" } : Jvm.MethodName))) ∈ pU := pU_of (i := 1092) rfl rfl
set_option maxRecDepth 20000 in
theorem u_1059 : ((Jvm.Cond.instanceMethod ({ cls := "ViewBroadcastModel", name := "mend", desc := "(I)V" } : Jvm.MethodName))) ∈ pU := pU_of (i := 1094) rfl rfl
set_option maxRecDepth 20000 in
theorem u_1060 : ((Jvm.Cond.code ({ cls := "ViewBroadcastModel", name := "mend", desc := "(I)V" } : Jvm.MethodName) prog_13_method_24_code (5 : Nat) (Option.none : Option Jvm.ClassFile.FieldType))) ∈ pU := pU_of (i := 1095) rfl rfl
set_option maxRecDepth 20000 in
theorem u_1061 : ((Jvm.Cond.methodLink "ViewBroadcastModel" (162 : Nat) ({ cls := "ViewBroadcastModel", name := "mixes", desc := "(IIIII)V" } : Jvm.MethodName))) ∈ pU := pU_of (i := 1096) rfl rfl
set_option maxRecDepth 20000 in
theorem u_1063 : ((Jvm.Cond.instanceMethod ({ cls := "ViewBroadcastModel", name := "mixes", desc := "(IIIII)V" } : Jvm.MethodName))) ∈ pU := pU_of (i := 1098) rfl rfl
set_option maxRecDepth 20000 in
theorem u_1064 : ((Jvm.Cond.code ({ cls := "ViewBroadcastModel", name := "mixes", desc := "(IIIII)V" } : Jvm.MethodName) prog_13_method_44_code (9 : Nat) (Option.none : Option Jvm.ClassFile.FieldType))) ∈ pU := pU_of (i := 1099) rfl rfl
set_option maxRecDepth 20000 in
theorem u_1065 : ((Jvm.Cond.methodLink "ViewBroadcastModel" (165 : Nat) ({ cls := "ViewBroadcastModel", name := "tells", desc := "(IIIII)V" } : Jvm.MethodName))) ∈ pU := pU_of (i := 1100) rfl rfl
set_option maxRecDepth 20000 in
theorem u_1067 : ((Jvm.Cond.instanceMethod ({ cls := "ViewBroadcastModel", name := "tells", desc := "(IIIII)V" } : Jvm.MethodName))) ∈ pU := pU_of (i := 1102) rfl rfl
set_option maxRecDepth 20000 in
theorem u_1068 : ((Jvm.Cond.code ({ cls := "ViewBroadcastModel", name := "tells", desc := "(IIIII)V" } : Jvm.MethodName) prog_13_method_45_code (9 : Nat) (Option.none : Option Jvm.ClassFile.FieldType))) ∈ pU := pU_of (i := 1103) rfl rfl
set_option maxRecDepth 20000 in
theorem u_1069 : ((Jvm.Cond.methodLink "ViewBroadcastLaw" (60 : Nat) ({ cls := "ViewBroadcastModel", name := "go", desc := "(I)I" } : Jvm.MethodName))) ∈ pU := pU_of (i := 1104) rfl rfl
set_option maxRecDepth 20000 in
theorem u_1070 : ((Jvm.Cond.instanceMethod ({ cls := "ViewBroadcastModel", name := "go", desc := "(I)I" } : Jvm.MethodName))) ∈ pU := pU_of (i := 1105) rfl rfl
set_option maxRecDepth 20000 in
theorem u_1071 : ((Jvm.Cond.selects "ViewBroadcastModel" ({ cls := "ViewBroadcastModel", name := "go", desc := "(I)I" } : Jvm.MethodName) ({ cls := "ViewBroadcastModel", name := "go", desc := "(I)I" } : Jvm.MethodName))) ∈ pU := pU_of (i := 1106) rfl rfl
set_option maxRecDepth 20000 in
theorem u_1072 : ((Jvm.Cond.code ({ cls := "ViewBroadcastModel", name := "go", desc := "(I)I" } : Jvm.MethodName) prog_13_method_39_code (4 : Nat) (Option.some Jvm.ClassFile.FieldType.int))) ∈ pU := pU_of (i := 1107) rfl rfl
set_option maxRecDepth 20000 in
theorem u_1073 : ((Jvm.Cond.constantLong "ViewBroadcastModel" (151 : Nat) (2000 : Int64))) ∈ pU := pU_of (i := 1108) rfl rfl
set_option maxRecDepth 20000 in
theorem u_1074 : ((Jvm.Cond.methodLink "ViewBroadcastLaw" (64 : Nat) ({ cls := "ViewBroadcastModel", name := "view", desc := "(III)I" } : Jvm.MethodName))) ∈ pU := pU_of (i := 1109) rfl rfl
set_option maxRecDepth 20000 in
theorem u_1075 : ((Jvm.Cond.instanceMethod ({ cls := "ViewBroadcastModel", name := "view", desc := "(III)I" } : Jvm.MethodName))) ∈ pU := pU_of (i := 1110) rfl rfl
set_option maxRecDepth 20000 in
theorem u_1076 : ((Jvm.Cond.selects "ViewBroadcastModel" ({ cls := "ViewBroadcastModel", name := "view", desc := "(III)I" } : Jvm.MethodName) ({ cls := "ViewBroadcastModel", name := "view", desc := "(III)I" } : Jvm.MethodName))) ∈ pU := pU_of (i := 1111) rfl rfl
set_option maxRecDepth 20000 in
theorem u_1077 : ((Jvm.Cond.code ({ cls := "ViewBroadcastModel", name := "view", desc := "(III)I" } : Jvm.MethodName) prog_13_method_46_code (5 : Nat) (Option.some Jvm.ClassFile.FieldType.int))) ∈ pU := pU_of (i := 1112) rfl rfl
set_option maxRecDepth 20000 in
theorem u_1078 : ((Jvm.Cond.methodLink "ViewBroadcastLaw" (68 : Nat) ({ cls := "ViewBroadcastModel", name := "how", desc := "(II)I" } : Jvm.MethodName))) ∈ pU := pU_of (i := 1113) rfl rfl
set_option maxRecDepth 20000 in
theorem u_1079 : ((Jvm.Cond.instanceMethod ({ cls := "ViewBroadcastModel", name := "how", desc := "(II)I" } : Jvm.MethodName))) ∈ pU := pU_of (i := 1114) rfl rfl
set_option maxRecDepth 20000 in
theorem u_1080 : ((Jvm.Cond.selects "ViewBroadcastModel" ({ cls := "ViewBroadcastModel", name := "how", desc := "(II)I" } : Jvm.MethodName) ({ cls := "ViewBroadcastModel", name := "how", desc := "(II)I" } : Jvm.MethodName))) ∈ pU := pU_of (i := 1115) rfl rfl
set_option maxRecDepth 20000 in
theorem u_1081 : ((Jvm.Cond.code ({ cls := "ViewBroadcastModel", name := "how", desc := "(II)I" } : Jvm.MethodName) prog_13_method_47_code (4 : Nat) (Option.some Jvm.ClassFile.FieldType.int))) ∈ pU := pU_of (i := 1116) rfl rfl
set_option maxRecDepth 20000 in
theorem u_1082 : ((Jvm.Cond.methodLink "ViewBroadcastLaw" (72 : Nat) ({ cls := "ViewBroadcastModel", name := "heard", desc := "(II)I" } : Jvm.MethodName))) ∈ pU := pU_of (i := 1117) rfl rfl
set_option maxRecDepth 20000 in
theorem u_1083 : ((Jvm.Cond.instanceMethod ({ cls := "ViewBroadcastModel", name := "heard", desc := "(II)I" } : Jvm.MethodName))) ∈ pU := pU_of (i := 1118) rfl rfl
set_option maxRecDepth 20000 in
theorem u_1084 : ((Jvm.Cond.selects "ViewBroadcastModel" ({ cls := "ViewBroadcastModel", name := "heard", desc := "(II)I" } : Jvm.MethodName) ({ cls := "ViewBroadcastModel", name := "heard", desc := "(II)I" } : Jvm.MethodName))) ∈ pU := pU_of (i := 1119) rfl rfl
set_option maxRecDepth 20000 in
theorem u_1085 : ((Jvm.Cond.code ({ cls := "ViewBroadcastModel", name := "heard", desc := "(II)I" } : Jvm.MethodName) prog_13_method_48_code (3 : Nat) (Option.some Jvm.ClassFile.FieldType.int))) ∈ pU := pU_of (i := 1120) rfl rfl
set_option maxRecDepth 20000 in
theorem u_1086 : ((Jvm.Cond.methodLink "ViewBroadcastModel" (177 : Nat) ({ cls := "ViewBroadcastModel", name := "isTale", desc := "(I)Z" } : Jvm.MethodName))) ∈ pU := pU_of (i := 1121) rfl rfl
set_option maxRecDepth 20000 in
theorem u_1088 : ((Jvm.Cond.instanceMethod ({ cls := "ViewBroadcastModel", name := "isTale", desc := "(I)Z" } : Jvm.MethodName))) ∈ pU := pU_of (i := 1123) rfl rfl
set_option maxRecDepth 20000 in
theorem u_1089 : ((Jvm.Cond.code ({ cls := "ViewBroadcastModel", name := "isTale", desc := "(I)Z" } : Jvm.MethodName) prog_13_method_5_code (2 : Nat) (Option.some Jvm.ClassFile.FieldType.boolean))) ∈ pU := pU_of (i := 1124) rfl rfl
set_option maxRecDepth 20000 in
theorem u_1090 : ((Jvm.Cond.methodLink "ViewBroadcastLaw" (76 : Nat) ({ cls := "ViewBroadcastModel", name := "missed", desc := "(II)I" } : Jvm.MethodName))) ∈ pU := pU_of (i := 1125) rfl rfl
set_option maxRecDepth 20000 in
theorem u_1091 : ((Jvm.Cond.instanceMethod ({ cls := "ViewBroadcastModel", name := "missed", desc := "(II)I" } : Jvm.MethodName))) ∈ pU := pU_of (i := 1126) rfl rfl
set_option maxRecDepth 20000 in
theorem u_1092 : ((Jvm.Cond.selects "ViewBroadcastModel" ({ cls := "ViewBroadcastModel", name := "missed", desc := "(II)I" } : Jvm.MethodName) ({ cls := "ViewBroadcastModel", name := "missed", desc := "(II)I" } : Jvm.MethodName))) ∈ pU := pU_of (i := 1127) rfl rfl
set_option maxRecDepth 20000 in
theorem u_1093 : ((Jvm.Cond.code ({ cls := "ViewBroadcastModel", name := "missed", desc := "(II)I" } : Jvm.MethodName) prog_13_method_49_code (3 : Nat) (Option.some Jvm.ClassFile.FieldType.int))) ∈ pU := pU_of (i := 1128) rfl rfl
set_option maxRecDepth 20000 in
theorem u_1094 : ((Jvm.Cond.methodLink "ViewBroadcastLaw" (80 : Nat) ({ cls := "ViewBroadcastModel", name := "about", desc := "(II)I" } : Jvm.MethodName))) ∈ pU := pU_of (i := 1129) rfl rfl
set_option maxRecDepth 20000 in
theorem u_1095 : ((Jvm.Cond.instanceMethod ({ cls := "ViewBroadcastModel", name := "about", desc := "(II)I" } : Jvm.MethodName))) ∈ pU := pU_of (i := 1130) rfl rfl
set_option maxRecDepth 20000 in
theorem u_1096 : ((Jvm.Cond.selects "ViewBroadcastModel" ({ cls := "ViewBroadcastModel", name := "about", desc := "(II)I" } : Jvm.MethodName) ({ cls := "ViewBroadcastModel", name := "about", desc := "(II)I" } : Jvm.MethodName))) ∈ pU := pU_of (i := 1131) rfl rfl
set_option maxRecDepth 20000 in
theorem u_1097 : ((Jvm.Cond.code ({ cls := "ViewBroadcastModel", name := "about", desc := "(II)I" } : Jvm.MethodName) prog_13_method_50_code (6 : Nat) (Option.some Jvm.ClassFile.FieldType.int))) ∈ pU := pU_of (i := 1132) rfl rfl
set_option maxRecDepth 20000 in
theorem u_1098 : ((Jvm.Cond.methodLink "ViewBroadcastLaw" (84 : Nat) ({ cls := "ViewBroadcastModel", name := "letter", desc := "(II)I" } : Jvm.MethodName))) ∈ pU := pU_of (i := 1133) rfl rfl
set_option maxRecDepth 20000 in
theorem u_1099 : ((Jvm.Cond.instanceMethod ({ cls := "ViewBroadcastModel", name := "letter", desc := "(II)I" } : Jvm.MethodName))) ∈ pU := pU_of (i := 1134) rfl rfl
set_option maxRecDepth 20000 in
theorem u_1100 : ((Jvm.Cond.selects "ViewBroadcastModel" ({ cls := "ViewBroadcastModel", name := "letter", desc := "(II)I" } : Jvm.MethodName) ({ cls := "ViewBroadcastModel", name := "letter", desc := "(II)I" } : Jvm.MethodName))) ∈ pU := pU_of (i := 1135) rfl rfl
set_option maxRecDepth 20000 in
theorem u_1101 : ((Jvm.Cond.code ({ cls := "ViewBroadcastModel", name := "letter", desc := "(II)I" } : Jvm.MethodName) prog_13_method_51_code (3 : Nat) (Option.some Jvm.ClassFile.FieldType.int))) ∈ pU := pU_of (i := 1136) rfl rfl
set_option maxRecDepth 20000 in
theorem u_1102 : ((Jvm.Cond.methodLink "ViewBroadcastLaw" (88 : Nat) ({ cls := "ViewBroadcastModel", name := "even", desc := "()I" } : Jvm.MethodName))) ∈ pU := pU_of (i := 1137) rfl rfl
set_option maxRecDepth 20000 in
theorem u_1103 : ((Jvm.Cond.instanceMethod ({ cls := "ViewBroadcastModel", name := "even", desc := "()I" } : Jvm.MethodName))) ∈ pU := pU_of (i := 1138) rfl rfl
set_option maxRecDepth 20000 in
theorem u_1104 : ((Jvm.Cond.selects "ViewBroadcastModel" ({ cls := "ViewBroadcastModel", name := "even", desc := "()I" } : Jvm.MethodName) ({ cls := "ViewBroadcastModel", name := "even", desc := "()I" } : Jvm.MethodName))) ∈ pU := pU_of (i := 1139) rfl rfl
set_option maxRecDepth 20000 in
theorem u_1105 : ((Jvm.Cond.code ({ cls := "ViewBroadcastModel", name := "even", desc := "()I" } : Jvm.MethodName) prog_13_method_52_code (5 : Nat) (Option.some Jvm.ClassFile.FieldType.int))) ∈ pU := pU_of (i := 1140) rfl rfl
set_option maxRecDepth 20000 in
theorem u_1106 : ((Jvm.Cond.methodLink "ViewBroadcastLaw" (92 : Nat) ({ cls := "ViewBroadcastModel", name := "reach", desc := "(I)I" } : Jvm.MethodName))) ∈ pU := pU_of (i := 1141) rfl rfl
set_option maxRecDepth 20000 in
theorem u_1107 : ((Jvm.Cond.instanceMethod ({ cls := "ViewBroadcastModel", name := "reach", desc := "(I)I" } : Jvm.MethodName))) ∈ pU := pU_of (i := 1142) rfl rfl
set_option maxRecDepth 20000 in
theorem u_1108 : ((Jvm.Cond.selects "ViewBroadcastModel" ({ cls := "ViewBroadcastModel", name := "reach", desc := "(I)I" } : Jvm.MethodName) ({ cls := "ViewBroadcastModel", name := "reach", desc := "(I)I" } : Jvm.MethodName))) ∈ pU := pU_of (i := 1143) rfl rfl
set_option maxRecDepth 20000 in
theorem u_1109 : ((Jvm.Cond.code ({ cls := "ViewBroadcastModel", name := "reach", desc := "(I)I" } : Jvm.MethodName) prog_13_method_53_code (8 : Nat) (Option.some Jvm.ClassFile.FieldType.int))) ∈ pU := pU_of (i := 1144) rfl rfl
set_option maxRecDepth 20000 in
theorem u_1110 : ((Jvm.Cond.methodLink "ViewBroadcastLaw" (96 : Nat) ({ cls := "ViewBroadcastModel", name := "came", desc := "(I)I" } : Jvm.MethodName))) ∈ pU := pU_of (i := 1145) rfl rfl
set_option maxRecDepth 20000 in
theorem u_1111 : ((Jvm.Cond.instanceMethod ({ cls := "ViewBroadcastModel", name := "came", desc := "(I)I" } : Jvm.MethodName))) ∈ pU := pU_of (i := 1146) rfl rfl
set_option maxRecDepth 20000 in
theorem u_1112 : ((Jvm.Cond.selects "ViewBroadcastModel" ({ cls := "ViewBroadcastModel", name := "came", desc := "(I)I" } : Jvm.MethodName) ({ cls := "ViewBroadcastModel", name := "came", desc := "(I)I" } : Jvm.MethodName))) ∈ pU := pU_of (i := 1147) rfl rfl
set_option maxRecDepth 20000 in
theorem u_1113 : ((Jvm.Cond.code ({ cls := "ViewBroadcastModel", name := "came", desc := "(I)I" } : Jvm.MethodName) prog_13_method_54_code (2 : Nat) (Option.some Jvm.ClassFile.FieldType.int))) ∈ pU := pU_of (i := 1148) rfl rfl
set_option maxRecDepth 20000 in
theorem u_1114 : ((Jvm.Cond.constantLong "ViewBroadcastModel" (180 : Nat) (12 : Int64))) ∈ pU := pU_of (i := 1149) rfl rfl
set_option maxRecDepth 20000 in
theorem u_1115 : ((Jvm.Cond.methodLink "ViewBroadcastLaw" (100 : Nat) ({ cls := "ViewBroadcastModel", name := "spread", desc := "(I)I" } : Jvm.MethodName))) ∈ pU := pU_of (i := 1150) rfl rfl
set_option maxRecDepth 20000 in
theorem u_1116 : ((Jvm.Cond.instanceMethod ({ cls := "ViewBroadcastModel", name := "spread", desc := "(I)I" } : Jvm.MethodName))) ∈ pU := pU_of (i := 1151) rfl rfl
set_option maxRecDepth 20000 in
theorem u_1117 : ((Jvm.Cond.selects "ViewBroadcastModel" ({ cls := "ViewBroadcastModel", name := "spread", desc := "(I)I" } : Jvm.MethodName) ({ cls := "ViewBroadcastModel", name := "spread", desc := "(I)I" } : Jvm.MethodName))) ∈ pU := pU_of (i := 1152) rfl rfl
set_option maxRecDepth 20000 in
theorem u_1118 : ((Jvm.Cond.code ({ cls := "ViewBroadcastModel", name := "spread", desc := "(I)I" } : Jvm.MethodName) prog_13_method_55_code (4 : Nat) (Option.some Jvm.ClassFile.FieldType.int))) ∈ pU := pU_of (i := 1153) rfl rfl
set_option maxRecDepth 20000 in
theorem u_1119 : ((Jvm.Cond.methodLink "ViewBroadcastLaw" (104 : Nat) ({ cls := "ViewBroadcastModel", name := "told", desc := "(I)I" } : Jvm.MethodName))) ∈ pU := pU_of (i := 1154) rfl rfl
set_option maxRecDepth 20000 in
theorem u_1120 : ((Jvm.Cond.instanceMethod ({ cls := "ViewBroadcastModel", name := "told", desc := "(I)I" } : Jvm.MethodName))) ∈ pU := pU_of (i := 1155) rfl rfl
set_option maxRecDepth 20000 in
theorem u_1121 : ((Jvm.Cond.selects "ViewBroadcastModel" ({ cls := "ViewBroadcastModel", name := "told", desc := "(I)I" } : Jvm.MethodName) ({ cls := "ViewBroadcastModel", name := "told", desc := "(I)I" } : Jvm.MethodName))) ∈ pU := pU_of (i := 1156) rfl rfl
set_option maxRecDepth 20000 in
theorem u_1122 : ((Jvm.Cond.code ({ cls := "ViewBroadcastModel", name := "told", desc := "(I)I" } : Jvm.MethodName) prog_13_method_56_code (4 : Nat) (Option.some Jvm.ClassFile.FieldType.int))) ∈ pU := pU_of (i := 1157) rfl rfl
set_option maxRecDepth 20000 in
theorem u_1123 : ((Jvm.Cond.methodLink "ViewBroadcastLaw" (108 : Nat) ({ cls := "ViewBroadcastModel", name := "keep", desc := "(I)I" } : Jvm.MethodName))) ∈ pU := pU_of (i := 1158) rfl rfl
set_option maxRecDepth 20000 in
theorem u_1124 : ((Jvm.Cond.instanceMethod ({ cls := "ViewBroadcastModel", name := "keep", desc := "(I)I" } : Jvm.MethodName))) ∈ pU := pU_of (i := 1159) rfl rfl
set_option maxRecDepth 20000 in
theorem u_1125 : ((Jvm.Cond.selects "ViewBroadcastModel" ({ cls := "ViewBroadcastModel", name := "keep", desc := "(I)I" } : Jvm.MethodName) ({ cls := "ViewBroadcastModel", name := "keep", desc := "(I)I" } : Jvm.MethodName))) ∈ pU := pU_of (i := 1160) rfl rfl
set_option maxRecDepth 20000 in
theorem u_1126 : ((Jvm.Cond.code ({ cls := "ViewBroadcastModel", name := "keep", desc := "(I)I" } : Jvm.MethodName) prog_13_method_57_code (3 : Nat) (Option.some Jvm.ClassFile.FieldType.int))) ∈ pU := pU_of (i := 1161) rfl rfl
set_option maxRecDepth 20000 in
theorem u_1127 : ((Jvm.Cond.methodLink "ViewBroadcastLaw" (112 : Nat) ({ cls := "ViewBroadcastModel", name := "back", desc := "(I)I" } : Jvm.MethodName))) ∈ pU := pU_of (i := 1162) rfl rfl
set_option maxRecDepth 20000 in
theorem u_1128 : ((Jvm.Cond.instanceMethod ({ cls := "ViewBroadcastModel", name := "back", desc := "(I)I" } : Jvm.MethodName))) ∈ pU := pU_of (i := 1163) rfl rfl
set_option maxRecDepth 20000 in
theorem u_1129 : ((Jvm.Cond.selects "ViewBroadcastModel" ({ cls := "ViewBroadcastModel", name := "back", desc := "(I)I" } : Jvm.MethodName) ({ cls := "ViewBroadcastModel", name := "back", desc := "(I)I" } : Jvm.MethodName))) ∈ pU := pU_of (i := 1164) rfl rfl
set_option maxRecDepth 20000 in
theorem u_1130 : ((Jvm.Cond.code ({ cls := "ViewBroadcastModel", name := "back", desc := "(I)I" } : Jvm.MethodName) prog_13_method_58_code (3 : Nat) (Option.some Jvm.ClassFile.FieldType.int))) ∈ pU := pU_of (i := 1165) rfl rfl
set_option maxRecDepth 20000 in
theorem u_1131 : ((Jvm.Cond.methodLink "ViewBroadcastLaw" (116 : Nat) ({ cls := "ViewBroadcastModel", name := "differs", desc := "(I)I" } : Jvm.MethodName))) ∈ pU := pU_of (i := 1166) rfl rfl
set_option maxRecDepth 20000 in
theorem u_1132 : ((Jvm.Cond.instanceMethod ({ cls := "ViewBroadcastModel", name := "differs", desc := "(I)I" } : Jvm.MethodName))) ∈ pU := pU_of (i := 1167) rfl rfl
set_option maxRecDepth 20000 in
theorem u_1133 : ((Jvm.Cond.selects "ViewBroadcastModel" ({ cls := "ViewBroadcastModel", name := "differs", desc := "(I)I" } : Jvm.MethodName) ({ cls := "ViewBroadcastModel", name := "differs", desc := "(I)I" } : Jvm.MethodName))) ∈ pU := pU_of (i := 1168) rfl rfl
set_option maxRecDepth 20000 in
theorem u_1134 : ((Jvm.Cond.code ({ cls := "ViewBroadcastModel", name := "differs", desc := "(I)I" } : Jvm.MethodName) prog_13_method_60_code (6 : Nat) (Option.some Jvm.ClassFile.FieldType.int))) ∈ pU := pU_of (i := 1169) rfl rfl
set_option maxRecDepth 20000 in
theorem u_1135 : ((Jvm.Cond.methodLink "ViewBroadcastModel" (182 : Nat) ({ cls := "ViewBroadcastModel", name := "isOther", desc := "(III)Z" } : Jvm.MethodName))) ∈ pU := pU_of (i := 1170) rfl rfl
set_option maxRecDepth 20000 in
theorem u_1137 : ((Jvm.Cond.instanceMethod ({ cls := "ViewBroadcastModel", name := "isOther", desc := "(III)Z" } : Jvm.MethodName))) ∈ pU := pU_of (i := 1172) rfl rfl
set_option maxRecDepth 20000 in
theorem u_1138 : ((Jvm.Cond.code ({ cls := "ViewBroadcastModel", name := "isOther", desc := "(III)Z" } : Jvm.MethodName) prog_13_method_59_code (6 : Nat) (Option.some Jvm.ClassFile.FieldType.boolean))) ∈ pU := pU_of (i := 1173) rfl rfl
set_option maxRecDepth 20000 in
theorem u_1139 : ((Jvm.Cond.methodLink "ViewBroadcastModel" (186 : Nat) ({ cls := "ViewBroadcastModel", name := "heardOther", desc := "(II)Z" } : Jvm.MethodName))) ∈ pU := pU_of (i := 1174) rfl rfl
set_option maxRecDepth 20000 in
theorem u_1141 : ((Jvm.Cond.instanceMethod ({ cls := "ViewBroadcastModel", name := "heardOther", desc := "(II)Z" } : Jvm.MethodName))) ∈ pU := pU_of (i := 1176) rfl rfl
set_option maxRecDepth 20000 in
theorem u_1142 : ((Jvm.Cond.code ({ cls := "ViewBroadcastModel", name := "heardOther", desc := "(II)Z" } : Jvm.MethodName) prog_13_method_61_code (3 : Nat) (Option.some Jvm.ClassFile.FieldType.boolean))) ∈ pU := pU_of (i := 1177) rfl rfl
theorem us_0 : (Jvm.Cond.selects "ViewBroadcast" ({ cls := "ViewBroadcast", name := "refusedActor", desc := "(I)I" } : Jvm.MethodName) ({ cls := "ViewBroadcast", name := "refusedActor", desc := "(I)I" } : Jvm.MethodName)) ∈ pU := pU_of (i := 0) rfl rfl
theorem us_1 : (Jvm.Cond.selects "ViewBroadcast" ({ cls := "ViewBroadcast", name := "come", desc := "(I)I" } : Jvm.MethodName) ({ cls := "ViewBroadcast", name := "come", desc := "(I)I" } : Jvm.MethodName)) ∈ pU := pU_of (i := 1) rfl rfl
theorem us_2 : (Jvm.Cond.selects "ViewBroadcastModel" ({ cls := "ViewBroadcastModel", name := "isNode", desc := "(I)Z" } : Jvm.MethodName) ({ cls := "ViewBroadcastModel", name := "isNode", desc := "(I)Z" } : Jvm.MethodName)) ∈ pU := pU_of (i := 2) rfl rfl
theorem us_3 : (Jvm.Cond.selects "ViewBroadcastModel" ({ cls := "ViewBroadcastModel", name := "send", desc := "(IIIII)V" } : Jvm.MethodName) ({ cls := "ViewBroadcastModel", name := "send", desc := "(IIIII)V" } : Jvm.MethodName)) ∈ pU := pU_of (i := 3) rfl rfl
theorem us_4 : (Jvm.Cond.selects "ViewBroadcastModel" ({ cls := "ViewBroadcastModel", name := "sendList", desc := "(IIIIII)V" } : Jvm.MethodName) ({ cls := "ViewBroadcastModel", name := "sendList", desc := "(IIIIII)V" } : Jvm.MethodName)) ∈ pU := pU_of (i := 4) rfl rfl
theorem us_5 : (Jvm.Cond.selects "ViewBroadcastModel" ({ cls := "ViewBroadcastModel", name := "post", desc := "(IIIIII)V" } : Jvm.MethodName) ({ cls := "ViewBroadcastModel", name := "post", desc := "(IIIIII)V" } : Jvm.MethodName)) ∈ pU := pU_of (i := 5) rfl rfl
theorem us_6 : (Jvm.Cond.selects "ViewBroadcastModel" ({ cls := "ViewBroadcastModel", name := "ofLetter", desc := "(II)I" } : Jvm.MethodName) ({ cls := "ViewBroadcastModel", name := "ofLetter", desc := "(II)I" } : Jvm.MethodName)) ∈ pU := pU_of (i := 6) rfl rfl
theorem us_7 : (Jvm.Cond.selects "ViewBroadcastModel" ({ cls := "ViewBroadcastModel", name := "takeOutLetter", desc := "(I)V" } : Jvm.MethodName) ({ cls := "ViewBroadcastModel", name := "takeOutLetter", desc := "(I)V" } : Jvm.MethodName)) ∈ pU := pU_of (i := 7) rfl rfl
theorem us_8 : (Jvm.Cond.selects "ViewBroadcastModel" ({ cls := "ViewBroadcastModel", name := "isActive", desc := "(II)Z" } : Jvm.MethodName) ({ cls := "ViewBroadcastModel", name := "isActive", desc := "(II)Z" } : Jvm.MethodName)) ∈ pU := pU_of (i := 8) rfl rfl
theorem us_9 : (Jvm.Cond.selects "ViewBroadcastModel" ({ cls := "ViewBroadcastModel", name := "activeAt", desc := "(II)I" } : Jvm.MethodName) ({ cls := "ViewBroadcastModel", name := "activeAt", desc := "(II)I" } : Jvm.MethodName)) ∈ pU := pU_of (i := 9) rfl rfl
theorem us_10 : (Jvm.Cond.selects "ViewBroadcastModel" ({ cls := "ViewBroadcastModel", name := "isUnderWay", desc := "(II)Z" } : Jvm.MethodName) ({ cls := "ViewBroadcastModel", name := "isUnderWay", desc := "(II)Z" } : Jvm.MethodName)) ∈ pU := pU_of (i := 10) rfl rfl
theorem us_11 : (Jvm.Cond.selects "ViewBroadcastModel" ({ cls := "ViewBroadcastModel", name := "draw", desc := "(I)I" } : Jvm.MethodName) ({ cls := "ViewBroadcastModel", name := "draw", desc := "(I)I" } : Jvm.MethodName)) ∈ pU := pU_of (i := 11) rfl rfl
theorem us_12 : (Jvm.Cond.selects "ViewBroadcastModel" ({ cls := "ViewBroadcastModel", name := "without", desc := "(III)I" } : Jvm.MethodName) ({ cls := "ViewBroadcastModel", name := "without", desc := "(III)I" } : Jvm.MethodName)) ∈ pU := pU_of (i := 12) rfl rfl
theorem us_13 : (Jvm.Cond.selects "ViewBroadcastModel" ({ cls := "ViewBroadcastModel", name := "drawSome", desc := "(II)V" } : Jvm.MethodName) ({ cls := "ViewBroadcastModel", name := "drawSome", desc := "(II)V" } : Jvm.MethodName)) ∈ pU := pU_of (i := 13) rfl rfl
theorem us_14 : (Jvm.Cond.selects "ViewBroadcastModel" ({ cls := "ViewBroadcastModel", name := "drawOut", desc := "(I)I" } : Jvm.MethodName) ({ cls := "ViewBroadcastModel", name := "drawOut", desc := "(I)I" } : Jvm.MethodName)) ∈ pU := pU_of (i := 14) rfl rfl
theorem us_15 : (Jvm.Cond.selects "ViewBroadcastModel" ({ cls := "ViewBroadcastModel", name := "hear", desc := "(IIII)V" } : Jvm.MethodName) ({ cls := "ViewBroadcastModel", name := "hear", desc := "(IIII)V" } : Jvm.MethodName)) ∈ pU := pU_of (i := 15) rfl rfl
theorem us_16 : (Jvm.Cond.selects "ViewBroadcastModel" ({ cls := "ViewBroadcastModel", name := "fetch", desc := "(III)V" } : Jvm.MethodName) ({ cls := "ViewBroadcastModel", name := "fetch", desc := "(III)V" } : Jvm.MethodName)) ∈ pU := pU_of (i := 16) rfl rfl
theorem us_17 : (Jvm.Cond.selects "ViewBroadcastModel" ({ cls := "ViewBroadcastModel", name := "setLazy", desc := "(III)V" } : Jvm.MethodName) ({ cls := "ViewBroadcastModel", name := "setLazy", desc := "(III)V" } : Jvm.MethodName)) ∈ pU := pU_of (i := 17) rfl rfl
theorem us_18 : (Jvm.Cond.selects "ViewBroadcastModel" ({ cls := "ViewBroadcastModel", name := "canCome", desc := "(I)Z" } : Jvm.MethodName) ({ cls := "ViewBroadcastModel", name := "canCome", desc := "(I)Z" } : Jvm.MethodName)) ∈ pU := pU_of (i := 18) rfl rfl
theorem us_19 : (Jvm.Cond.selects "ViewBroadcastModel" ({ cls := "ViewBroadcastModel", name := "comes", desc := "(I)I" } : Jvm.MethodName) ({ cls := "ViewBroadcastModel", name := "comes", desc := "(I)I" } : Jvm.MethodName)) ∈ pU := pU_of (i := 19) rfl rfl
theorem us_20 : (Jvm.Cond.selects "ViewBroadcastModel" ({ cls := "ViewBroadcastModel", name := "joins", desc := "(IIIII)V" } : Jvm.MethodName) ({ cls := "ViewBroadcastModel", name := "joins", desc := "(IIIII)V" } : Jvm.MethodName)) ∈ pU := pU_of (i := 20) rfl rfl
theorem us_21 : (Jvm.Cond.selects "ViewBroadcastModel" ({ cls := "ViewBroadcastModel", name := "add", desc := "(II)V" } : Jvm.MethodName) ({ cls := "ViewBroadcastModel", name := "add", desc := "(II)V" } : Jvm.MethodName)) ∈ pU := pU_of (i := 21) rfl rfl
theorem us_22 : (Jvm.Cond.selects "ViewBroadcastModel" ({ cls := "ViewBroadcastModel", name := "leavesPassive", desc := "(II)V" } : Jvm.MethodName) ({ cls := "ViewBroadcastModel", name := "leavesPassive", desc := "(II)V" } : Jvm.MethodName)) ∈ pU := pU_of (i := 22) rfl rfl
theorem us_23 : (Jvm.Cond.selects "ViewBroadcastModel" ({ cls := "ViewBroadcastModel", name := "passiveAt", desc := "(II)I" } : Jvm.MethodName) ({ cls := "ViewBroadcastModel", name := "passiveAt", desc := "(II)I" } : Jvm.MethodName)) ∈ pU := pU_of (i := 23) rfl rfl
theorem us_24 : (Jvm.Cond.selects "ViewBroadcastModel" ({ cls := "ViewBroadcastModel", name := "leavesActive", desc := "(II)V" } : Jvm.MethodName) ({ cls := "ViewBroadcastModel", name := "leavesActive", desc := "(II)V" } : Jvm.MethodName)) ∈ pU := pU_of (i := 24) rfl rfl
theorem us_25 : (Jvm.Cond.selects "ViewBroadcastModel" ({ cls := "ViewBroadcastModel", name := "forgetTeller", desc := "(II)V" } : Jvm.MethodName) ({ cls := "ViewBroadcastModel", name := "forgetTeller", desc := "(II)V" } : Jvm.MethodName)) ∈ pU := pU_of (i := 25) rfl rfl
theorem us_26 : (Jvm.Cond.selects "ViewBroadcastModel" ({ cls := "ViewBroadcastModel", name := "note", desc := "(II)V" } : Jvm.MethodName) ({ cls := "ViewBroadcastModel", name := "note", desc := "(II)V" } : Jvm.MethodName)) ∈ pU := pU_of (i := 26) rfl rfl
theorem us_27 : (Jvm.Cond.selects "ViewBroadcastModel" ({ cls := "ViewBroadcastModel", name := "goesOn", desc := "(IIII)V" } : Jvm.MethodName) ({ cls := "ViewBroadcastModel", name := "goesOn", desc := "(IIII)V" } : Jvm.MethodName)) ∈ pU := pU_of (i := 27) rfl rfl
theorem us_28 : (Jvm.Cond.selects "ViewBroadcastModel" ({ cls := "ViewBroadcastModel", name := "mends", desc := "(IIII)V" } : Jvm.MethodName) ({ cls := "ViewBroadcastModel", name := "mends", desc := "(IIII)V" } : Jvm.MethodName)) ∈ pU := pU_of (i := 28) rfl rfl
theorem us_29 : (Jvm.Cond.selects "ViewBroadcastModel" ({ cls := "ViewBroadcastModel", name := "mend", desc := "(I)V" } : Jvm.MethodName) ({ cls := "ViewBroadcastModel", name := "mend", desc := "(I)V" } : Jvm.MethodName)) ∈ pU := pU_of (i := 29) rfl rfl
theorem us_30 : (Jvm.Cond.selects "ViewBroadcastModel" ({ cls := "ViewBroadcastModel", name := "mixes", desc := "(IIIII)V" } : Jvm.MethodName) ({ cls := "ViewBroadcastModel", name := "mixes", desc := "(IIIII)V" } : Jvm.MethodName)) ∈ pU := pU_of (i := 30) rfl rfl
theorem us_31 : (Jvm.Cond.selects "ViewBroadcastModel" ({ cls := "ViewBroadcastModel", name := "tells", desc := "(IIIII)V" } : Jvm.MethodName) ({ cls := "ViewBroadcastModel", name := "tells", desc := "(IIIII)V" } : Jvm.MethodName)) ∈ pU := pU_of (i := 31) rfl rfl
theorem us_32 : (Jvm.Cond.selects "ViewBroadcastModel" ({ cls := "ViewBroadcastModel", name := "isTale", desc := "(I)Z" } : Jvm.MethodName) ({ cls := "ViewBroadcastModel", name := "isTale", desc := "(I)Z" } : Jvm.MethodName)) ∈ pU := pU_of (i := 32) rfl rfl
theorem us_33 : (Jvm.Cond.selects "ViewBroadcastModel" ({ cls := "ViewBroadcastModel", name := "isOther", desc := "(III)Z" } : Jvm.MethodName) ({ cls := "ViewBroadcastModel", name := "isOther", desc := "(III)Z" } : Jvm.MethodName)) ∈ pU := pU_of (i := 33) rfl rfl
theorem us_34 : (Jvm.Cond.selects "ViewBroadcastModel" ({ cls := "ViewBroadcastModel", name := "heardOther", desc := "(II)Z" } : Jvm.MethodName) ({ cls := "ViewBroadcastModel", name := "heardOther", desc := "(II)Z" } : Jvm.MethodName)) ∈ pU := pU_of (i := 34) rfl rfl
set_option maxRecDepth 20000 in
theorem in_X0 : ∀ w ∈ u_ws RX0 TX0 2, w ∈ pU := List.forall_mem_cons.mpr ⟨pU_of (i := 68) rfl rfl, List.forall_mem_cons.mpr ⟨pU_of (i := 70) rfl rfl, fun _ h => absurd h List.not_mem_nil⟩⟩
set_option maxRecDepth 20000 in
theorem in_X1 : ∀ w ∈ u_ws RX1 TX1 6, w ∈ pU := List.forall_mem_cons.mpr ⟨pU_of (i := 250) rfl rfl, List.forall_mem_cons.mpr ⟨pU_of (i := 252) rfl rfl, List.forall_mem_cons.mpr ⟨pU_of (i := 254) rfl rfl, List.forall_mem_cons.mpr ⟨pU_of (i := 256) rfl rfl, List.forall_mem_cons.mpr ⟨pU_of (i := 258) rfl rfl, List.forall_mem_cons.mpr ⟨pU_of (i := 260) rfl rfl, fun _ h => absurd h List.not_mem_nil⟩⟩⟩⟩⟩⟩
set_option maxRecDepth 20000 in
theorem in_X2 : ∀ w ∈ u_ws RX2 TX2 3, w ∈ pU := List.forall_mem_cons.mpr ⟨pU_of (i := 157) rfl rfl, List.forall_mem_cons.mpr ⟨pU_of (i := 159) rfl rfl, List.forall_mem_cons.mpr ⟨pU_of (i := 161) rfl rfl, fun _ h => absurd h List.not_mem_nil⟩⟩⟩
set_option maxRecDepth 20000 in
theorem in_X3 : ∀ w ∈ u_ws RX3 TX3 10, w ∈ pU := List.forall_mem_cons.mpr ⟨pU_of (i := 193) rfl rfl, List.forall_mem_cons.mpr ⟨pU_of (i := 195) rfl rfl, List.forall_mem_cons.mpr ⟨pU_of (i := 197) rfl rfl, List.forall_mem_cons.mpr ⟨pU_of (i := 199) rfl rfl, List.forall_mem_cons.mpr ⟨pU_of (i := 201) rfl rfl, List.forall_mem_cons.mpr ⟨pU_of (i := 203) rfl rfl, List.forall_mem_cons.mpr ⟨pU_of (i := 205) rfl rfl, List.forall_mem_cons.mpr ⟨pU_of (i := 207) rfl rfl, List.forall_mem_cons.mpr ⟨pU_of (i := 209) rfl rfl, List.forall_mem_cons.mpr ⟨pU_of (i := 211) rfl rfl, fun _ h => absurd h List.not_mem_nil⟩⟩⟩⟩⟩⟩⟩⟩⟩⟩
set_option maxRecDepth 20000 in
theorem in_X4 : ∀ w ∈ u_ws RX4 TX4 2, w ∈ pU := List.forall_mem_cons.mpr ⟨pU_of (i := 134) rfl rfl, List.forall_mem_cons.mpr ⟨pU_of (i := 136) rfl rfl, fun _ h => absurd h List.not_mem_nil⟩⟩
set_option maxRecDepth 20000 in
theorem in_X5 : ∀ w ∈ u_ws RX5 TX5 4, w ∈ pU := List.forall_mem_cons.mpr ⟨pU_of (i := 270) rfl rfl, List.forall_mem_cons.mpr ⟨pU_of (i := 272) rfl rfl, List.forall_mem_cons.mpr ⟨pU_of (i := 274) rfl rfl, List.forall_mem_cons.mpr ⟨pU_of (i := 276) rfl rfl, fun _ h => absurd h List.not_mem_nil⟩⟩⟩⟩
set_option maxRecDepth 20000 in
theorem in_X6 : ∀ w ∈ u_ws RX6 TX6 5, w ∈ pU := List.forall_mem_cons.mpr ⟨pU_of (i := 101) rfl rfl, List.forall_mem_cons.mpr ⟨pU_of (i := 103) rfl rfl, List.forall_mem_cons.mpr ⟨pU_of (i := 105) rfl rfl, List.forall_mem_cons.mpr ⟨pU_of (i := 107) rfl rfl, List.forall_mem_cons.mpr ⟨pU_of (i := 109) rfl rfl, fun _ h => absurd h List.not_mem_nil⟩⟩⟩⟩⟩
set_option maxRecDepth 20000 in
theorem in_X7 : ∀ w ∈ u_ws RX7 TX7 1, w ∈ pU := List.forall_mem_cons.mpr ⟨pU_of (i := 355) rfl rfl, fun _ h => absurd h List.not_mem_nil⟩
set_option maxRecDepth 20000 in
theorem in_X8 : ∀ w ∈ u_ws RX8 TX8 4, w ∈ pU := List.forall_mem_cons.mpr ⟨pU_of (i := 339) rfl rfl, List.forall_mem_cons.mpr ⟨pU_of (i := 341) rfl rfl, List.forall_mem_cons.mpr ⟨pU_of (i := 343) rfl rfl, List.forall_mem_cons.mpr ⟨pU_of (i := 345) rfl rfl, fun _ h => absurd h List.not_mem_nil⟩⟩⟩⟩
set_option maxRecDepth 20000 in
theorem in_X9 : ∀ w ∈ u_ws RX9 TX9 11, w ∈ pU := List.forall_mem_cons.mpr ⟨pU_of (i := 304) rfl rfl, List.forall_mem_cons.mpr ⟨pU_of (i := 306) rfl rfl, List.forall_mem_cons.mpr ⟨pU_of (i := 308) rfl rfl, List.forall_mem_cons.mpr ⟨pU_of (i := 310) rfl rfl, List.forall_mem_cons.mpr ⟨pU_of (i := 312) rfl rfl, List.forall_mem_cons.mpr ⟨pU_of (i := 314) rfl rfl, List.forall_mem_cons.mpr ⟨pU_of (i := 316) rfl rfl, List.forall_mem_cons.mpr ⟨pU_of (i := 318) rfl rfl, List.forall_mem_cons.mpr ⟨pU_of (i := 320) rfl rfl, List.forall_mem_cons.mpr ⟨pU_of (i := 322) rfl rfl, List.forall_mem_cons.mpr ⟨pU_of (i := 324) rfl rfl, fun _ h => absurd h List.not_mem_nil⟩⟩⟩⟩⟩⟩⟩⟩⟩⟩⟩
set_option maxRecDepth 20000 in
theorem in_X10 : ∀ w ∈ u_ws RX10 TX10 6, w ∈ pU := List.forall_mem_cons.mpr ⟨pU_of (i := 365) rfl rfl, List.forall_mem_cons.mpr ⟨pU_of (i := 367) rfl rfl, List.forall_mem_cons.mpr ⟨pU_of (i := 369) rfl rfl, List.forall_mem_cons.mpr ⟨pU_of (i := 371) rfl rfl, List.forall_mem_cons.mpr ⟨pU_of (i := 373) rfl rfl, List.forall_mem_cons.mpr ⟨pU_of (i := 375) rfl rfl, fun _ h => absurd h List.not_mem_nil⟩⟩⟩⟩⟩⟩
set_option maxRecDepth 20000 in
theorem in_X11 : ∀ w ∈ u_ws RX11 TX11 16, w ∈ pU := List.forall_mem_cons.mpr ⟨pU_of (i := 903) rfl rfl, List.forall_mem_cons.mpr ⟨pU_of (i := 905) rfl rfl, List.forall_mem_cons.mpr ⟨pU_of (i := 907) rfl rfl, List.forall_mem_cons.mpr ⟨pU_of (i := 909) rfl rfl, List.forall_mem_cons.mpr ⟨pU_of (i := 911) rfl rfl, List.forall_mem_cons.mpr ⟨pU_of (i := 913) rfl rfl, List.forall_mem_cons.mpr ⟨pU_of (i := 915) rfl rfl, List.forall_mem_cons.mpr ⟨pU_of (i := 917) rfl rfl, List.forall_mem_cons.mpr ⟨pU_of (i := 919) rfl rfl, List.forall_mem_cons.mpr ⟨pU_of (i := 921) rfl rfl, List.forall_mem_cons.mpr ⟨pU_of (i := 923) rfl rfl, List.forall_mem_cons.mpr ⟨pU_of (i := 925) rfl rfl, List.forall_mem_cons.mpr ⟨pU_of (i := 927) rfl rfl, List.forall_mem_cons.mpr ⟨pU_of (i := 929) rfl rfl, List.forall_mem_cons.mpr ⟨pU_of (i := 931) rfl rfl, List.forall_mem_cons.mpr ⟨pU_of (i := 933) rfl rfl, fun _ h => absurd h List.not_mem_nil⟩⟩⟩⟩⟩⟩⟩⟩⟩⟩⟩⟩⟩⟩⟩⟩
end
section
theorem dX0_init_0 : decode cX0_init 0 = .ok (.aload_n 0, 1) := by decide +kernel
theorem dX0_init_1 : decode cX0_init 1 = .ok (.invokespecial 3, 3) := by decide +kernel
theorem dX0_init_4 : decode cX0_init 4 = .ok (.aload_n 0, 1) := by decide +kernel
theorem dX0_init_5 : decode cX0_init 5 = .ok (.bipush 64, 2) := by decide +kernel
theorem dX0_init_7 : decode cX0_init 7 = .ok (.newarray .int, 2) := by decide +kernel
theorem dX0_init_9 : decode cX0_init 9 = .ok (.putfield 9, 3) := by decide +kernel
theorem dX0_init_12 : decode cX0_init 12 = .ok (.aload_n 0, 1) := by decide +kernel
theorem dX0_init_13 : decode cX0_init 13 = .ok (.iconst 0, 1) := by decide +kernel
theorem dX0_init_14 : decode cX0_init 14 = .ok (.putfield 15, 3) := by decide +kernel
theorem dX0_init_17 : decode cX0_init 17 = .ok (.return_, 1) := by decide +kernel
theorem dX0_put_0 : decode cX0_put 0 = .ok (.aload_n 0, 1) := by decide +kernel
theorem dX0_put_1 : decode cX0_put 1 = .ok (.getfield 15, 3) := by decide +kernel
theorem dX0_put_4 : decode cX0_put 4 = .ok (.bipush 64, 2) := by decide +kernel
theorem dX0_put_6 : decode cX0_put 6 = .ok (.if_icmp .lt 5, 3) := by decide +kernel
theorem dX0_put_9 : decode cX0_put 9 = .ok (.iconst 0, 1) := by decide +kernel
theorem dX0_put_10 : decode cX0_put 10 = .ok (.ireturn, 1) := by decide +kernel
theorem dX0_put_11 : decode cX0_put 11 = .ok (.aload_n 0, 1) := by decide +kernel
theorem dX0_put_12 : decode cX0_put 12 = .ok (.getfield 9, 3) := by decide +kernel
theorem dX0_put_15 : decode cX0_put 15 = .ok (.aload_n 0, 1) := by decide +kernel
theorem dX0_put_16 : decode cX0_put 16 = .ok (.getfield 15, 3) := by decide +kernel
theorem dX0_put_19 : decode cX0_put 19 = .ok (.iload_n 1, 1) := by decide +kernel
theorem dX0_put_20 : decode cX0_put 20 = .ok (.iastore, 1) := by decide +kernel
theorem dX0_put_21 : decode cX0_put 21 = .ok (.aload_n 0, 1) := by decide +kernel
theorem dX0_put_22 : decode cX0_put 22 = .ok (.dup, 1) := by decide +kernel
theorem dX0_put_23 : decode cX0_put 23 = .ok (.getfield 15, 3) := by decide +kernel
theorem dX0_put_26 : decode cX0_put 26 = .ok (.iconst 1, 1) := by decide +kernel
theorem dX0_put_27 : decode cX0_put 27 = .ok (.iadd, 1) := by decide +kernel
theorem dX0_put_28 : decode cX0_put 28 = .ok (.putfield 15, 3) := by decide +kernel
theorem dX0_put_31 : decode cX0_put 31 = .ok (.iconst 1, 1) := by decide +kernel
theorem dX0_put_32 : decode cX0_put 32 = .ok (.ireturn, 1) := by decide +kernel
theorem dX0_at_0 : decode cX0_at 0 = .ok (.iload_n 1, 1) := by decide +kernel
theorem dX0_at_1 : decode cX0_at 1 = .ok (.ifCond .lt 20, 3) := by decide +kernel
theorem dX0_at_4 : decode cX0_at 4 = .ok (.iload_n 1, 1) := by decide +kernel
theorem dX0_at_5 : decode cX0_at 5 = .ok (.aload_n 0, 1) := by decide +kernel
theorem dX0_at_6 : decode cX0_at 6 = .ok (.getfield 15, 3) := by decide +kernel
theorem dX0_at_9 : decode cX0_at 9 = .ok (.if_icmp .ge 12, 3) := by decide +kernel
theorem dX0_at_12 : decode cX0_at 12 = .ok (.aload_n 0, 1) := by decide +kernel
theorem dX0_at_13 : decode cX0_at 13 = .ok (.getfield 9, 3) := by decide +kernel
theorem dX0_at_16 : decode cX0_at 16 = .ok (.iload_n 1, 1) := by decide +kernel
theorem dX0_at_17 : decode cX0_at 17 = .ok (.iaload, 1) := by decide +kernel
theorem dX0_at_18 : decode cX0_at 18 = .ok (.goto 4, 3) := by decide +kernel
theorem dX0_at_21 : decode cX0_at 21 = .ok (.iconst 0, 1) := by decide +kernel
theorem dX0_at_22 : decode cX0_at 22 = .ok (.ireturn, 1) := by decide +kernel
theorem dX0_behind_0 : decode cX0_behind 0 = .ok (.iload_n 1, 1) := by decide +kernel
theorem dX0_behind_1 : decode cX0_behind 1 = .ok (.iconst 1, 1) := by decide +kernel
theorem dX0_behind_2 : decode cX0_behind 2 = .ok (.iadd, 1) := by decide +kernel
theorem dX0_behind_3 : decode cX0_behind 3 = .ok (.aload_n 0, 1) := by decide +kernel
theorem dX0_behind_4 : decode cX0_behind 4 = .ok (.getfield 15, 3) := by decide +kernel
theorem dX0_behind_7 : decode cX0_behind 7 = .ok (.if_icmp .ge 9, 3) := by decide +kernel
theorem dX0_behind_10 : decode cX0_behind 10 = .ok (.iload_n 1, 1) := by decide +kernel
theorem dX0_behind_11 : decode cX0_behind 11 = .ok (.iconst 1, 1) := by decide +kernel
theorem dX0_behind_12 : decode cX0_behind 12 = .ok (.iadd, 1) := by decide +kernel
theorem dX0_behind_13 : decode cX0_behind 13 = .ok (.goto 4, 3) := by decide +kernel
theorem dX0_behind_16 : decode cX0_behind 16 = .ok (.iconst 0, 1) := by decide +kernel
theorem dX0_behind_17 : decode cX0_behind 17 = .ok (.ireturn, 1) := by decide +kernel
theorem dX1_init_0 : decode cX1_init 0 = .ok (.aload_n 0, 1) := by decide +kernel
theorem dX1_init_1 : decode cX1_init 1 = .ok (.invokespecial 3, 3) := by decide +kernel
theorem dX1_init_4 : decode cX1_init 4 = .ok (.aload_n 0, 1) := by decide +kernel
theorem dX1_init_5 : decode cX1_init 5 = .ok (.new 9, 3) := by decide +kernel
theorem dX1_init_8 : decode cX1_init 8 = .ok (.dup, 1) := by decide +kernel
theorem dX1_init_9 : decode cX1_init 9 = .ok (.iconst 5, 1) := by decide +kernel
theorem dX1_init_10 : decode cX1_init 10 = .ok (.invokespecial 11, 3) := by decide +kernel
theorem dX1_init_13 : decode cX1_init 13 = .ok (.putfield 14, 3) := by decide +kernel
theorem dX1_init_16 : decode cX1_init 16 = .ok (.return_, 1) := by decide +kernel
theorem dX1_write_0 : decode cX1_write 0 = .ok (.aload_n 0, 1) := by decide +kernel
theorem dX1_write_1 : decode cX1_write 1 = .ok (.iload_n 1, 1) := by decide +kernel
theorem dX1_write_2 : decode cX1_write 2 = .ok (.putfield 20, 3) := by decide +kernel
theorem dX1_write_5 : decode cX1_write 5 = .ok (.aload_n 0, 1) := by decide +kernel
theorem dX1_write_6 : decode cX1_write 6 = .ok (.iload_n 2, 1) := by decide +kernel
theorem dX1_write_7 : decode cX1_write 7 = .ok (.putfield 24, 3) := by decide +kernel
theorem dX1_write_10 : decode cX1_write 10 = .ok (.aload_n 0, 1) := by decide +kernel
theorem dX1_write_11 : decode cX1_write 11 = .ok (.iload_n 3, 1) := by decide +kernel
theorem dX1_write_12 : decode cX1_write 12 = .ok (.putfield 27, 3) := by decide +kernel
theorem dX1_write_15 : decode cX1_write 15 = .ok (.aload_n 0, 1) := by decide +kernel
theorem dX1_write_16 : decode cX1_write 16 = .ok (.iload 4, 2) := by decide +kernel
theorem dX1_write_18 : decode cX1_write 18 = .ok (.putfield 30, 3) := by decide +kernel
theorem dX1_write_21 : decode cX1_write 21 = .ok (.aload_n 0, 1) := by decide +kernel
theorem dX1_write_22 : decode cX1_write 22 = .ok (.iload 5, 2) := by decide +kernel
theorem dX1_write_24 : decode cX1_write 24 = .ok (.putfield 33, 3) := by decide +kernel
theorem dX1_write_27 : decode cX1_write 27 = .ok (.aload_n 0, 1) := by decide +kernel
theorem dX1_write_28 : decode cX1_write 28 = .ok (.getfield 14, 3) := by decide +kernel
theorem dX1_write_31 : decode cX1_write 31 = .ok (.invokevirtual 36, 3) := by decide +kernel
theorem dX1_write_34 : decode cX1_write 34 = .ok (.return_, 1) := by decide +kernel
theorem dX1_copyFrom_0 : decode cX1_copyFrom 0 = .ok (.aload_n 0, 1) := by decide +kernel
theorem dX1_copyFrom_1 : decode cX1_copyFrom 1 = .ok (.aload_n 1, 1) := by decide +kernel
theorem dX1_copyFrom_2 : decode cX1_copyFrom 2 = .ok (.getfield 20, 3) := by decide +kernel
theorem dX1_copyFrom_5 : decode cX1_copyFrom 5 = .ok (.aload_n 1, 1) := by decide +kernel
theorem dX1_copyFrom_6 : decode cX1_copyFrom 6 = .ok (.getfield 24, 3) := by decide +kernel
theorem dX1_copyFrom_9 : decode cX1_copyFrom 9 = .ok (.aload_n 1, 1) := by decide +kernel
theorem dX1_copyFrom_10 : decode cX1_copyFrom 10 = .ok (.getfield 27, 3) := by decide +kernel
theorem dX1_copyFrom_13 : decode cX1_copyFrom 13 = .ok (.aload_n 1, 1) := by decide +kernel
theorem dX1_copyFrom_14 : decode cX1_copyFrom 14 = .ok (.getfield 30, 3) := by decide +kernel
theorem dX1_copyFrom_17 : decode cX1_copyFrom 17 = .ok (.aload_n 1, 1) := by decide +kernel
theorem dX1_copyFrom_18 : decode cX1_copyFrom 18 = .ok (.getfield 33, 3) := by decide +kernel
theorem dX1_copyFrom_21 : decode cX1_copyFrom 21 = .ok (.invokevirtual 39, 3) := by decide +kernel
theorem dX1_copyFrom_24 : decode cX1_copyFrom 24 = .ok (.aload_n 0, 1) := by decide +kernel
theorem dX1_copyFrom_25 : decode cX1_copyFrom 25 = .ok (.getfield 14, 3) := by decide +kernel
theorem dX1_copyFrom_28 : decode cX1_copyFrom 28 = .ok (.aload_n 1, 1) := by decide +kernel
theorem dX1_copyFrom_29 : decode cX1_copyFrom 29 = .ok (.getfield 14, 3) := by decide +kernel
theorem dX1_copyFrom_32 : decode cX1_copyFrom 32 = .ok (.invokevirtual 43, 3) := by decide +kernel
theorem dX1_copyFrom_35 : decode cX1_copyFrom 35 = .ok (.return_, 1) := by decide +kernel
theorem dX2_init_0 : decode cX2_init 0 = .ok (.aload_n 0, 1) := by decide +kernel
theorem dX2_init_1 : decode cX2_init 1 = .ok (.invokespecial 3, 3) := by decide +kernel
theorem dX2_init_4 : decode cX2_init 4 = .ok (.aload_n 0, 1) := by decide +kernel
theorem dX2_init_5 : decode cX2_init 5 = .ok (.iconst 0, 1) := by decide +kernel
theorem dX2_init_6 : decode cX2_init 6 = .ok (.putfield 9, 3) := by decide +kernel
theorem dX2_init_9 : decode cX2_init 9 = .ok (.aload_n 0, 1) := by decide +kernel
theorem dX2_init_10 : decode cX2_init 10 = .ok (.iconst 0, 1) := by decide +kernel
theorem dX2_init_11 : decode cX2_init 11 = .ok (.putfield 15, 3) := by decide +kernel
theorem dX2_init_14 : decode cX2_init 14 = .ok (.aload_n 0, 1) := by decide +kernel
theorem dX2_init_15 : decode cX2_init 15 = .ok (.new 19, 3) := by decide +kernel
theorem dX2_init_18 : decode cX2_init 18 = .ok (.dup, 1) := by decide +kernel
theorem dX2_init_19 : decode cX2_init 19 = .ok (.iconst 5, 1) := by decide +kernel
theorem dX2_init_20 : decode cX2_init 20 = .ok (.invokespecial 21, 3) := by decide +kernel
theorem dX2_init_23 : decode cX2_init 23 = .ok (.putfield 24, 3) := by decide +kernel
theorem dX2_init_26 : decode cX2_init 26 = .ok (.return_, 1) := by decide +kernel
theorem dX2_end_0 : decode cX2_end 0 = .ok (.aload_n 0, 1) := by decide +kernel
theorem dX2_end_1 : decode cX2_end 1 = .ok (.iconst 0, 1) := by decide +kernel
theorem dX2_end_2 : decode cX2_end 2 = .ok (.putfield 9, 3) := by decide +kernel
theorem dX2_end_5 : decode cX2_end 5 = .ok (.aload_n 0, 1) := by decide +kernel
theorem dX2_end_6 : decode cX2_end 6 = .ok (.iconst 0, 1) := by decide +kernel
theorem dX2_end_7 : decode cX2_end 7 = .ok (.putfield 15, 3) := by decide +kernel
theorem dX2_end_10 : decode cX2_end 10 = .ok (.aload_n 0, 1) := by decide +kernel
theorem dX2_end_11 : decode cX2_end 11 = .ok (.getfield 24, 3) := by decide +kernel
theorem dX2_end_14 : decode cX2_end 14 = .ok (.invokevirtual 28, 3) := by decide +kernel
theorem dX2_end_17 : decode cX2_end 17 = .ok (.return_, 1) := by decide +kernel
theorem dX2_copyFrom_0 : decode cX2_copyFrom 0 = .ok (.aload_n 0, 1) := by decide +kernel
theorem dX2_copyFrom_1 : decode cX2_copyFrom 1 = .ok (.aload_n 1, 1) := by decide +kernel
theorem dX2_copyFrom_2 : decode cX2_copyFrom 2 = .ok (.getfield 9, 3) := by decide +kernel
theorem dX2_copyFrom_5 : decode cX2_copyFrom 5 = .ok (.putfield 9, 3) := by decide +kernel
theorem dX2_copyFrom_8 : decode cX2_copyFrom 8 = .ok (.aload_n 0, 1) := by decide +kernel
theorem dX2_copyFrom_9 : decode cX2_copyFrom 9 = .ok (.aload_n 1, 1) := by decide +kernel
theorem dX2_copyFrom_10 : decode cX2_copyFrom 10 = .ok (.getfield 15, 3) := by decide +kernel
theorem dX2_copyFrom_13 : decode cX2_copyFrom 13 = .ok (.putfield 15, 3) := by decide +kernel
theorem dX2_copyFrom_16 : decode cX2_copyFrom 16 = .ok (.aload_n 0, 1) := by decide +kernel
theorem dX2_copyFrom_17 : decode cX2_copyFrom 17 = .ok (.getfield 24, 3) := by decide +kernel
theorem dX2_copyFrom_20 : decode cX2_copyFrom 20 = .ok (.aload_n 1, 1) := by decide +kernel
theorem dX2_copyFrom_21 : decode cX2_copyFrom 21 = .ok (.getfield 24, 3) := by decide +kernel
theorem dX2_copyFrom_24 : decode cX2_copyFrom 24 = .ok (.invokevirtual 31, 3) := by decide +kernel
theorem dX2_copyFrom_27 : decode cX2_copyFrom 27 = .ok (.return_, 1) := by decide +kernel
theorem dX3_init_0 : decode cX3_init 0 = .ok (.aload_n 0, 1) := by decide +kernel
theorem dX3_init_1 : decode cX3_init 1 = .ok (.invokespecial 3, 3) := by decide +kernel
theorem dX3_init_4 : decode cX3_init 4 = .ok (.aload_n 0, 1) := by decide +kernel
theorem dX3_init_5 : decode cX3_init 5 = .ok (.iconst 0, 1) := by decide +kernel
theorem dX3_init_6 : decode cX3_init 6 = .ok (.putfield 9, 3) := by decide +kernel
theorem dX3_init_9 : decode cX3_init 9 = .ok (.aload_n 0, 1) := by decide +kernel
theorem dX3_init_10 : decode cX3_init 10 = .ok (.new 15, 3) := by decide +kernel
theorem dX3_init_13 : decode cX3_init 13 = .ok (.dup, 1) := by decide +kernel
theorem dX3_init_14 : decode cX3_init 14 = .ok (.iconst 5, 1) := by decide +kernel
theorem dX3_init_15 : decode cX3_init 15 = .ok (.invokespecial 17, 3) := by decide +kernel
theorem dX3_init_18 : decode cX3_init 18 = .ok (.putfield 20, 3) := by decide +kernel
theorem dX3_init_21 : decode cX3_init 21 = .ok (.aload_n 0, 1) := by decide +kernel
theorem dX3_init_22 : decode cX3_init 22 = .ok (.new 15, 3) := by decide +kernel
theorem dX3_init_25 : decode cX3_init 25 = .ok (.dup, 1) := by decide +kernel
theorem dX3_init_26 : decode cX3_init 26 = .ok (.bipush 8, 2) := by decide +kernel
theorem dX3_init_28 : decode cX3_init 28 = .ok (.invokespecial 17, 3) := by decide +kernel
theorem dX3_init_31 : decode cX3_init 31 = .ok (.putfield 24, 3) := by decide +kernel
theorem dX3_init_34 : decode cX3_init 34 = .ok (.aload_n 0, 1) := by decide +kernel
theorem dX3_init_35 : decode cX3_init 35 = .ok (.iconst 0, 1) := by decide +kernel
theorem dX3_init_36 : decode cX3_init 36 = .ok (.putfield 27, 3) := by decide +kernel
theorem dX3_init_39 : decode cX3_init 39 = .ok (.aload_n 0, 1) := by decide +kernel
theorem dX3_init_40 : decode cX3_init 40 = .ok (.bipush (-6), 2) := by decide +kernel
theorem dX3_init_42 : decode cX3_init 42 = .ok (.putfield 31, 3) := by decide +kernel
theorem dX3_init_45 : decode cX3_init 45 = .ok (.aload_n 0, 1) := by decide +kernel
theorem dX3_init_46 : decode cX3_init 46 = .ok (.iconst 0, 1) := by decide +kernel
theorem dX3_init_47 : decode cX3_init 47 = .ok (.putfield 34, 3) := by decide +kernel
theorem dX3_init_50 : decode cX3_init 50 = .ok (.aload_n 0, 1) := by decide +kernel
theorem dX3_init_51 : decode cX3_init 51 = .ok (.iconst 0, 1) := by decide +kernel
theorem dX3_init_52 : decode cX3_init 52 = .ok (.putfield 37, 3) := by decide +kernel
theorem dX3_init_55 : decode cX3_init 55 = .ok (.aload_n 0, 1) := by decide +kernel
theorem dX3_init_56 : decode cX3_init 56 = .ok (.bipush 24, 2) := by decide +kernel
theorem dX3_init_58 : decode cX3_init 58 = .ok (.newarray .int, 2) := by decide +kernel
theorem dX3_init_60 : decode cX3_init 60 = .ok (.putfield 40, 3) := by decide +kernel
theorem dX3_init_63 : decode cX3_init 63 = .ok (.aload_n 0, 1) := by decide +kernel
theorem dX3_init_64 : decode cX3_init 64 = .ok (.bipush 24, 2) := by decide +kernel
theorem dX3_init_66 : decode cX3_init 66 = .ok (.anewarray 44, 3) := by decide +kernel
theorem dX3_init_69 : decode cX3_init 69 = .ok (.putfield 46, 3) := by decide +kernel
theorem dX3_init_72 : decode cX3_init 72 = .ok (.aload_n 0, 1) := by decide +kernel
theorem dX3_init_73 : decode cX3_init 73 = .ok (.iload_n 1, 1) := by decide +kernel
theorem dX3_init_74 : decode cX3_init 74 = .ok (.putfield 50, 3) := by decide +kernel
theorem dX3_init_77 : decode cX3_init 77 = .ok (.iconst 0, 1) := by decide +kernel
theorem dX3_init_78 : decode cX3_init 78 = .ok (.istore_n 2, 1) := by decide +kernel
theorem dX3_init_79 : decode cX3_init 79 = .ok (.iload_n 2, 1) := by decide +kernel
theorem dX3_init_80 : decode cX3_init 80 = .ok (.bipush 24, 2) := by decide +kernel
theorem dX3_init_82 : decode cX3_init 82 = .ok (.if_icmp .ge 30, 3) := by decide +kernel
theorem dX3_init_85 : decode cX3_init 85 = .ok (.aload_n 0, 1) := by decide +kernel
theorem dX3_init_86 : decode cX3_init 86 = .ok (.getfield 40, 3) := by decide +kernel
theorem dX3_init_89 : decode cX3_init 89 = .ok (.iload_n 2, 1) := by decide +kernel
theorem dX3_init_90 : decode cX3_init 90 = .ok (.bipush (-6), 2) := by decide +kernel
theorem dX3_init_92 : decode cX3_init 92 = .ok (.iastore, 1) := by decide +kernel
theorem dX3_init_93 : decode cX3_init 93 = .ok (.aload_n 0, 1) := by decide +kernel
theorem dX3_init_94 : decode cX3_init 94 = .ok (.getfield 46, 3) := by decide +kernel
theorem dX3_init_97 : decode cX3_init 97 = .ok (.iload_n 2, 1) := by decide +kernel
theorem dX3_init_98 : decode cX3_init 98 = .ok (.new 44, 3) := by decide +kernel
theorem dX3_init_101 : decode cX3_init 101 = .ok (.dup, 1) := by decide +kernel
theorem dX3_init_102 : decode cX3_init 102 = .ok (.invokespecial 53, 3) := by decide +kernel
theorem dX3_init_105 : decode cX3_init 105 = .ok (.aastore, 1) := by decide +kernel
theorem dX3_init_106 : decode cX3_init 106 = .ok (.iinc 2 1, 3) := by decide +kernel
theorem dX3_init_109 : decode cX3_init 109 = .ok (.goto (-30), 3) := by decide +kernel
theorem dX3_init_112 : decode cX3_init 112 = .ok (.return_, 1) := by decide +kernel
theorem dX3_begin_0 : decode cX3_begin 0 = .ok (.aload_n 0, 1) := by decide +kernel
theorem dX3_begin_1 : decode cX3_begin 1 = .ok (.iconst 1, 1) := by decide +kernel
theorem dX3_begin_2 : decode cX3_begin 2 = .ok (.putfield 9, 3) := by decide +kernel
theorem dX3_begin_5 : decode cX3_begin 5 = .ok (.aload_n 0, 1) := by decide +kernel
theorem dX3_begin_6 : decode cX3_begin 6 = .ok (.getfield 20, 3) := by decide +kernel
theorem dX3_begin_9 : decode cX3_begin 9 = .ok (.invokevirtual 54, 3) := by decide +kernel
theorem dX3_begin_12 : decode cX3_begin 12 = .ok (.aload_n 0, 1) := by decide +kernel
theorem dX3_begin_13 : decode cX3_begin 13 = .ok (.getfield 24, 3) := by decide +kernel
theorem dX3_begin_16 : decode cX3_begin 16 = .ok (.invokevirtual 54, 3) := by decide +kernel
theorem dX3_begin_19 : decode cX3_begin 19 = .ok (.aload_n 0, 1) := by decide +kernel
theorem dX3_begin_20 : decode cX3_begin 20 = .ok (.iconst 0, 1) := by decide +kernel
theorem dX3_begin_21 : decode cX3_begin 21 = .ok (.putfield 27, 3) := by decide +kernel
theorem dX3_begin_24 : decode cX3_begin 24 = .ok (.aload_n 0, 1) := by decide +kernel
theorem dX3_begin_25 : decode cX3_begin 25 = .ok (.bipush (-6), 2) := by decide +kernel
theorem dX3_begin_27 : decode cX3_begin 27 = .ok (.putfield 31, 3) := by decide +kernel
theorem dX3_begin_30 : decode cX3_begin 30 = .ok (.aload_n 0, 1) := by decide +kernel
theorem dX3_begin_31 : decode cX3_begin 31 = .ok (.iconst 0, 1) := by decide +kernel
theorem dX3_begin_32 : decode cX3_begin 32 = .ok (.putfield 34, 3) := by decide +kernel
theorem dX3_begin_35 : decode cX3_begin 35 = .ok (.aload_n 0, 1) := by decide +kernel
theorem dX3_begin_36 : decode cX3_begin 36 = .ok (.iconst 0, 1) := by decide +kernel
theorem dX3_begin_37 : decode cX3_begin 37 = .ok (.putfield 37, 3) := by decide +kernel
theorem dX3_begin_40 : decode cX3_begin 40 = .ok (.iconst 0, 1) := by decide +kernel
theorem dX3_begin_41 : decode cX3_begin 41 = .ok (.istore_n 1, 1) := by decide +kernel
theorem dX3_begin_42 : decode cX3_begin 42 = .ok (.iload_n 1, 1) := by decide +kernel
theorem dX3_begin_43 : decode cX3_begin 43 = .ok (.bipush 24, 2) := by decide +kernel
theorem dX3_begin_45 : decode cX3_begin 45 = .ok (.if_icmp .ge 26, 3) := by decide +kernel
theorem dX3_begin_48 : decode cX3_begin 48 = .ok (.aload_n 0, 1) := by decide +kernel
theorem dX3_begin_49 : decode cX3_begin 49 = .ok (.getfield 40, 3) := by decide +kernel
theorem dX3_begin_52 : decode cX3_begin 52 = .ok (.iload_n 1, 1) := by decide +kernel
theorem dX3_begin_53 : decode cX3_begin 53 = .ok (.bipush (-6), 2) := by decide +kernel
theorem dX3_begin_55 : decode cX3_begin 55 = .ok (.iastore, 1) := by decide +kernel
theorem dX3_begin_56 : decode cX3_begin 56 = .ok (.aload_n 0, 1) := by decide +kernel
theorem dX3_begin_57 : decode cX3_begin 57 = .ok (.getfield 46, 3) := by decide +kernel
theorem dX3_begin_60 : decode cX3_begin 60 = .ok (.iload_n 1, 1) := by decide +kernel
theorem dX3_begin_61 : decode cX3_begin 61 = .ok (.aaload, 1) := by decide +kernel
theorem dX3_begin_62 : decode cX3_begin 62 = .ok (.invokevirtual 57, 3) := by decide +kernel
theorem dX3_begin_65 : decode cX3_begin 65 = .ok (.iinc 1 1, 3) := by decide +kernel
theorem dX3_begin_68 : decode cX3_begin 68 = .ok (.goto (-26), 3) := by decide +kernel
theorem dX3_begin_71 : decode cX3_begin 71 = .ok (.return_, 1) := by decide +kernel
theorem dX3_isLazy_0 : decode cX3_isLazy 0 = .ok (.aload_n 0, 1) := by decide +kernel
theorem dX3_isLazy_1 : decode cX3_isLazy 1 = .ok (.getfield 27, 3) := by decide +kernel
theorem dX3_isLazy_4 : decode cX3_isLazy 4 = .ok (.iconst 1, 1) := by decide +kernel
theorem dX3_isLazy_5 : decode cX3_isLazy 5 = .ok (.iload_n 1, 1) := by decide +kernel
theorem dX3_isLazy_6 : decode cX3_isLazy 6 = .ok (.ishl, 1) := by decide +kernel
theorem dX3_isLazy_7 : decode cX3_isLazy 7 = .ok (.iand, 1) := by decide +kernel
theorem dX3_isLazy_8 : decode cX3_isLazy 8 = .ok (.ifCond .eq 7, 3) := by decide +kernel
theorem dX3_isLazy_11 : decode cX3_isLazy 11 = .ok (.iconst 1, 1) := by decide +kernel
theorem dX3_isLazy_12 : decode cX3_isLazy 12 = .ok (.goto 4, 3) := by decide +kernel
theorem dX3_isLazy_15 : decode cX3_isLazy 15 = .ok (.iconst 0, 1) := by decide +kernel
theorem dX3_isLazy_16 : decode cX3_isLazy 16 = .ok (.ireturn, 1) := by decide +kernel
theorem dX3_makeLazy_0 : decode cX3_makeLazy 0 = .ok (.aload_n 0, 1) := by decide +kernel
theorem dX3_makeLazy_1 : decode cX3_makeLazy 1 = .ok (.dup, 1) := by decide +kernel
theorem dX3_makeLazy_2 : decode cX3_makeLazy 2 = .ok (.getfield 27, 3) := by decide +kernel
theorem dX3_makeLazy_5 : decode cX3_makeLazy 5 = .ok (.iconst 1, 1) := by decide +kernel
theorem dX3_makeLazy_6 : decode cX3_makeLazy 6 = .ok (.iload_n 1, 1) := by decide +kernel
theorem dX3_makeLazy_7 : decode cX3_makeLazy 7 = .ok (.ishl, 1) := by decide +kernel
theorem dX3_makeLazy_8 : decode cX3_makeLazy 8 = .ok (.ior, 1) := by decide +kernel
theorem dX3_makeLazy_9 : decode cX3_makeLazy 9 = .ok (.putfield 27, 3) := by decide +kernel
theorem dX3_makeLazy_12 : decode cX3_makeLazy 12 = .ok (.return_, 1) := by decide +kernel
theorem dX3_makeEager_0 : decode cX3_makeEager 0 = .ok (.aload_n 0, 1) := by decide +kernel
theorem dX3_makeEager_1 : decode cX3_makeEager 1 = .ok (.dup, 1) := by decide +kernel
theorem dX3_makeEager_2 : decode cX3_makeEager 2 = .ok (.getfield 27, 3) := by decide +kernel
theorem dX3_makeEager_5 : decode cX3_makeEager 5 = .ok (.iconst 1, 1) := by decide +kernel
theorem dX3_makeEager_6 : decode cX3_makeEager 6 = .ok (.iload_n 1, 1) := by decide +kernel
theorem dX3_makeEager_7 : decode cX3_makeEager 7 = .ok (.ishl, 1) := by decide +kernel
theorem dX3_makeEager_8 : decode cX3_makeEager 8 = .ok (.iconst (-1), 1) := by decide +kernel
theorem dX3_makeEager_9 : decode cX3_makeEager 9 = .ok (.ixor, 1) := by decide +kernel
theorem dX3_makeEager_10 : decode cX3_makeEager 10 = .ok (.iand, 1) := by decide +kernel
theorem dX3_makeEager_11 : decode cX3_makeEager 11 = .ok (.putfield 27, 3) := by decide +kernel
theorem dX3_makeEager_14 : decode cX3_makeEager 14 = .ok (.return_, 1) := by decide +kernel
theorem dX3_hopsOf_0 : decode cX3_hopsOf 0 = .ok (.iload_n 1, 1) := by decide +kernel
theorem dX3_hopsOf_1 : decode cX3_hopsOf 1 = .ok (.ifCond .lt 18, 3) := by decide +kernel
theorem dX3_hopsOf_4 : decode cX3_hopsOf 4 = .ok (.iload_n 1, 1) := by decide +kernel
theorem dX3_hopsOf_5 : decode cX3_hopsOf 5 = .ok (.bipush 24, 2) := by decide +kernel
theorem dX3_hopsOf_7 : decode cX3_hopsOf 7 = .ok (.if_icmp .ge 12, 3) := by decide +kernel
theorem dX3_hopsOf_10 : decode cX3_hopsOf 10 = .ok (.aload_n 0, 1) := by decide +kernel
theorem dX3_hopsOf_11 : decode cX3_hopsOf 11 = .ok (.getfield 40, 3) := by decide +kernel
theorem dX3_hopsOf_14 : decode cX3_hopsOf 14 = .ok (.iload_n 1, 1) := by decide +kernel
theorem dX3_hopsOf_15 : decode cX3_hopsOf 15 = .ok (.iaload, 1) := by decide +kernel
theorem dX3_hopsOf_16 : decode cX3_hopsOf 16 = .ok (.goto 5, 3) := by decide +kernel
theorem dX3_hopsOf_19 : decode cX3_hopsOf 19 = .ok (.bipush (-6), 2) := by decide +kernel
theorem dX3_hopsOf_21 : decode cX3_hopsOf 21 = .ok (.ireturn, 1) := by decide +kernel
theorem dX3_missOf_0 : decode cX3_missOf 0 = .ok (.iload_n 1, 1) := by decide +kernel
theorem dX3_missOf_1 : decode cX3_missOf 1 = .ok (.ifCond .lt 18, 3) := by decide +kernel
theorem dX3_missOf_4 : decode cX3_missOf 4 = .ok (.iload_n 1, 1) := by decide +kernel
theorem dX3_missOf_5 : decode cX3_missOf 5 = .ok (.bipush 24, 2) := by decide +kernel
theorem dX3_missOf_7 : decode cX3_missOf 7 = .ok (.if_icmp .ge 12, 3) := by decide +kernel
theorem dX3_missOf_10 : decode cX3_missOf 10 = .ok (.aload_n 0, 1) := by decide +kernel
theorem dX3_missOf_11 : decode cX3_missOf 11 = .ok (.getfield 46, 3) := by decide +kernel
theorem dX3_missOf_14 : decode cX3_missOf 14 = .ok (.iload_n 1, 1) := by decide +kernel
theorem dX3_missOf_15 : decode cX3_missOf 15 = .ok (.aaload, 1) := by decide +kernel
theorem dX3_missOf_16 : decode cX3_missOf 16 = .ok (.goto 9, 3) := by decide +kernel
theorem dX3_missOf_19 : decode cX3_missOf 19 = .ok (.aload_n 0, 1) := by decide +kernel
theorem dX3_missOf_20 : decode cX3_missOf 20 = .ok (.getfield 46, 3) := by decide +kernel
theorem dX3_missOf_23 : decode cX3_missOf 23 = .ok (.iconst 0, 1) := by decide +kernel
theorem dX3_missOf_24 : decode cX3_missOf 24 = .ok (.aaload, 1) := by decide +kernel
theorem dX3_missOf_25 : decode cX3_missOf 25 = .ok (.areturn, 1) := by decide +kernel
theorem dX3_knows_0 : decode cX3_knows 0 = .ok (.aload_n 0, 1) := by decide +kernel
theorem dX3_knows_1 : decode cX3_knows 1 = .ok (.iload_n 1, 1) := by decide +kernel
theorem dX3_knows_2 : decode cX3_knows 2 = .ok (.invokevirtual 60, 3) := by decide +kernel
theorem dX3_knows_5 : decode cX3_knows 5 = .ok (.bipush (-6), 2) := by decide +kernel
theorem dX3_knows_7 : decode cX3_knows 7 = .ok (.if_icmp .eq 7, 3) := by decide +kernel
theorem dX3_knows_10 : decode cX3_knows 10 = .ok (.iconst 1, 1) := by decide +kernel
theorem dX3_knows_11 : decode cX3_knows 11 = .ok (.goto 4, 3) := by decide +kernel
theorem dX3_knows_14 : decode cX3_knows 14 = .ok (.iconst 0, 1) := by decide +kernel
theorem dX3_knows_15 : decode cX3_knows 15 = .ok (.ireturn, 1) := by decide +kernel
theorem dX3_learn_0 : decode cX3_learn 0 = .ok (.iload_n 1, 1) := by decide +kernel
theorem dX3_learn_1 : decode cX3_learn 1 = .ok (.ifCond .lt 25, 3) := by decide +kernel
theorem dX3_learn_4 : decode cX3_learn 4 = .ok (.iload_n 1, 1) := by decide +kernel
theorem dX3_learn_5 : decode cX3_learn 5 = .ok (.bipush 24, 2) := by decide +kernel
theorem dX3_learn_7 : decode cX3_learn 7 = .ok (.if_icmp .ge 19, 3) := by decide +kernel
theorem dX3_learn_10 : decode cX3_learn 10 = .ok (.aload_n 0, 1) := by decide +kernel
theorem dX3_learn_11 : decode cX3_learn 11 = .ok (.getfield 40, 3) := by decide +kernel
theorem dX3_learn_14 : decode cX3_learn 14 = .ok (.iload_n 1, 1) := by decide +kernel
theorem dX3_learn_15 : decode cX3_learn 15 = .ok (.iload_n 2, 1) := by decide +kernel
theorem dX3_learn_16 : decode cX3_learn 16 = .ok (.iastore, 1) := by decide +kernel
theorem dX3_learn_17 : decode cX3_learn 17 = .ok (.aload_n 0, 1) := by decide +kernel
theorem dX3_learn_18 : decode cX3_learn 18 = .ok (.getfield 46, 3) := by decide +kernel
theorem dX3_learn_21 : decode cX3_learn 21 = .ok (.iload_n 1, 1) := by decide +kernel
theorem dX3_learn_22 : decode cX3_learn 22 = .ok (.aaload, 1) := by decide +kernel
theorem dX3_learn_23 : decode cX3_learn 23 = .ok (.invokevirtual 57, 3) := by decide +kernel
theorem dX3_learn_26 : decode cX3_learn 26 = .ok (.return_, 1) := by decide +kernel
theorem dX3_heardCount_0 : decode cX3_heardCount 0 = .ok (.iconst 0, 1) := by decide +kernel
theorem dX3_heardCount_1 : decode cX3_heardCount 1 = .ok (.istore_n 1, 1) := by decide +kernel
theorem dX3_heardCount_2 : decode cX3_heardCount 2 = .ok (.iconst 0, 1) := by decide +kernel
theorem dX3_heardCount_3 : decode cX3_heardCount 3 = .ok (.istore_n 2, 1) := by decide +kernel
theorem dX3_heardCount_4 : decode cX3_heardCount 4 = .ok (.iload_n 2, 1) := by decide +kernel
theorem dX3_heardCount_5 : decode cX3_heardCount 5 = .ok (.bipush 24, 2) := by decide +kernel
theorem dX3_heardCount_7 : decode cX3_heardCount 7 = .ok (.if_icmp .ge 25, 3) := by decide +kernel
theorem dX3_heardCount_10 : decode cX3_heardCount 10 = .ok (.iload_n 1, 1) := by decide +kernel
theorem dX3_heardCount_11 : decode cX3_heardCount 11 = .ok (.aload_n 0, 1) := by decide +kernel
theorem dX3_heardCount_12 : decode cX3_heardCount 12 = .ok (.iload_n 2, 1) := by decide +kernel
theorem dX3_heardCount_13 : decode cX3_heardCount 13 = .ok (.invokevirtual 64, 3) := by decide +kernel
theorem dX3_heardCount_16 : decode cX3_heardCount 16 = .ok (.ifCond .eq 7, 3) := by decide +kernel
theorem dX3_heardCount_19 : decode cX3_heardCount 19 = .ok (.iconst 1, 1) := by decide +kernel
theorem dX3_heardCount_20 : decode cX3_heardCount 20 = .ok (.goto 4, 3) := by decide +kernel
theorem dX3_heardCount_23 : decode cX3_heardCount 23 = .ok (.iconst 0, 1) := by decide +kernel
theorem dX3_heardCount_24 : decode cX3_heardCount 24 = .ok (.iadd, 1) := by decide +kernel
theorem dX3_heardCount_25 : decode cX3_heardCount 25 = .ok (.istore_n 1, 1) := by decide +kernel
theorem dX3_heardCount_26 : decode cX3_heardCount 26 = .ok (.iinc 2 1, 3) := by decide +kernel
theorem dX3_heardCount_29 : decode cX3_heardCount 29 = .ok (.goto (-25), 3) := by decide +kernel
theorem dX3_heardCount_32 : decode cX3_heardCount 32 = .ok (.iload_n 1, 1) := by decide +kernel
theorem dX3_heardCount_33 : decode cX3_heardCount 33 = .ok (.ireturn, 1) := by decide +kernel
theorem dX3_missedCount_0 : decode cX3_missedCount 0 = .ok (.iconst 0, 1) := by decide +kernel
theorem dX3_missedCount_1 : decode cX3_missedCount 1 = .ok (.istore_n 1, 1) := by decide +kernel
theorem dX3_missedCount_2 : decode cX3_missedCount 2 = .ok (.iconst 0, 1) := by decide +kernel
theorem dX3_missedCount_3 : decode cX3_missedCount 3 = .ok (.istore_n 2, 1) := by decide +kernel
theorem dX3_missedCount_4 : decode cX3_missedCount 4 = .ok (.iload_n 2, 1) := by decide +kernel
theorem dX3_missedCount_5 : decode cX3_missedCount 5 = .ok (.bipush 24, 2) := by decide +kernel
theorem dX3_missedCount_7 : decode cX3_missedCount 7 = .ok (.if_icmp .ge 29, 3) := by decide +kernel
theorem dX3_missedCount_10 : decode cX3_missedCount 10 = .ok (.iload_n 1, 1) := by decide +kernel
theorem dX3_missedCount_11 : decode cX3_missedCount 11 = .ok (.aload_n 0, 1) := by decide +kernel
theorem dX3_missedCount_12 : decode cX3_missedCount 12 = .ok (.getfield 46, 3) := by decide +kernel
theorem dX3_missedCount_15 : decode cX3_missedCount 15 = .ok (.iload_n 2, 1) := by decide +kernel
theorem dX3_missedCount_16 : decode cX3_missedCount 16 = .ok (.aaload, 1) := by decide +kernel
theorem dX3_missedCount_17 : decode cX3_missedCount 17 = .ok (.getfield 68, 3) := by decide +kernel
theorem dX3_missedCount_20 : decode cX3_missedCount 20 = .ok (.ifCond .eq 7, 3) := by decide +kernel
theorem dX3_missedCount_23 : decode cX3_missedCount 23 = .ok (.iconst 1, 1) := by decide +kernel
theorem dX3_missedCount_24 : decode cX3_missedCount 24 = .ok (.goto 4, 3) := by decide +kernel
theorem dX3_missedCount_27 : decode cX3_missedCount 27 = .ok (.iconst 0, 1) := by decide +kernel
theorem dX3_missedCount_28 : decode cX3_missedCount 28 = .ok (.iadd, 1) := by decide +kernel
theorem dX3_missedCount_29 : decode cX3_missedCount 29 = .ok (.istore_n 1, 1) := by decide +kernel
theorem dX3_missedCount_30 : decode cX3_missedCount 30 = .ok (.iinc 2 1, 3) := by decide +kernel
theorem dX3_missedCount_33 : decode cX3_missedCount 33 = .ok (.goto (-29), 3) := by decide +kernel
theorem dX3_missedCount_36 : decode cX3_missedCount 36 = .ok (.iload_n 1, 1) := by decide +kernel
theorem dX3_missedCount_37 : decode cX3_missedCount 37 = .ok (.ireturn, 1) := by decide +kernel
theorem dX3_unlink_0 : decode cX3_unlink 0 = .ok (.aload_n 0, 1) := by decide +kernel
theorem dX3_unlink_1 : decode cX3_unlink 1 = .ok (.getfield 20, 3) := by decide +kernel
theorem dX3_unlink_4 : decode cX3_unlink 4 = .ok (.iload_n 1, 1) := by decide +kernel
theorem dX3_unlink_5 : decode cX3_unlink 5 = .ok (.invokevirtual 71, 3) := by decide +kernel
theorem dX3_unlink_8 : decode cX3_unlink 8 = .ok (.aload_n 0, 1) := by decide +kernel
theorem dX3_unlink_9 : decode cX3_unlink 9 = .ok (.iload_n 1, 1) := by decide +kernel
theorem dX3_unlink_10 : decode cX3_unlink 10 = .ok (.invokevirtual 74, 3) := by decide +kernel
theorem dX3_unlink_13 : decode cX3_unlink 13 = .ok (.iconst 0, 1) := by decide +kernel
theorem dX3_unlink_14 : decode cX3_unlink 14 = .ok (.istore_n 2, 1) := by decide +kernel
theorem dX3_unlink_15 : decode cX3_unlink 15 = .ok (.iload_n 2, 1) := by decide +kernel
theorem dX3_unlink_16 : decode cX3_unlink 16 = .ok (.bipush 24, 2) := by decide +kernel
theorem dX3_unlink_18 : decode cX3_unlink 18 = .ok (.if_icmp .ge 22, 3) := by decide +kernel
theorem dX3_unlink_21 : decode cX3_unlink 21 = .ok (.aload_n 0, 1) := by decide +kernel
theorem dX3_unlink_22 : decode cX3_unlink 22 = .ok (.getfield 46, 3) := by decide +kernel
theorem dX3_unlink_25 : decode cX3_unlink 25 = .ok (.iload_n 2, 1) := by decide +kernel
theorem dX3_unlink_26 : decode cX3_unlink 26 = .ok (.aaload, 1) := by decide +kernel
theorem dX3_unlink_27 : decode cX3_unlink 27 = .ok (.getfield 77, 3) := by decide +kernel
theorem dX3_unlink_30 : decode cX3_unlink 30 = .ok (.iload_n 1, 1) := by decide +kernel
theorem dX3_unlink_31 : decode cX3_unlink 31 = .ok (.invokevirtual 71, 3) := by decide +kernel
theorem dX3_unlink_34 : decode cX3_unlink 34 = .ok (.iinc 2 1, 3) := by decide +kernel
theorem dX3_unlink_37 : decode cX3_unlink 37 = .ok (.goto (-22), 3) := by decide +kernel
theorem dX3_unlink_40 : decode cX3_unlink 40 = .ok (.return_, 1) := by decide +kernel
theorem dX3_copyFrom_0 : decode cX3_copyFrom 0 = .ok (.aload_n 0, 1) := by decide +kernel
theorem dX3_copyFrom_1 : decode cX3_copyFrom 1 = .ok (.aload_n 1, 1) := by decide +kernel
theorem dX3_copyFrom_2 : decode cX3_copyFrom 2 = .ok (.getfield 9, 3) := by decide +kernel
theorem dX3_copyFrom_5 : decode cX3_copyFrom 5 = .ok (.putfield 9, 3) := by decide +kernel
theorem dX3_copyFrom_8 : decode cX3_copyFrom 8 = .ok (.aload_n 0, 1) := by decide +kernel
theorem dX3_copyFrom_9 : decode cX3_copyFrom 9 = .ok (.getfield 20, 3) := by decide +kernel
theorem dX3_copyFrom_12 : decode cX3_copyFrom 12 = .ok (.aload_n 1, 1) := by decide +kernel
theorem dX3_copyFrom_13 : decode cX3_copyFrom 13 = .ok (.getfield 20, 3) := by decide +kernel
theorem dX3_copyFrom_16 : decode cX3_copyFrom 16 = .ok (.invokevirtual 80, 3) := by decide +kernel
theorem dX3_copyFrom_19 : decode cX3_copyFrom 19 = .ok (.aload_n 0, 1) := by decide +kernel
theorem dX3_copyFrom_20 : decode cX3_copyFrom 20 = .ok (.getfield 24, 3) := by decide +kernel
theorem dX3_copyFrom_23 : decode cX3_copyFrom 23 = .ok (.aload_n 1, 1) := by decide +kernel
theorem dX3_copyFrom_24 : decode cX3_copyFrom 24 = .ok (.getfield 24, 3) := by decide +kernel
theorem dX3_copyFrom_27 : decode cX3_copyFrom 27 = .ok (.invokevirtual 80, 3) := by decide +kernel
theorem dX3_copyFrom_30 : decode cX3_copyFrom 30 = .ok (.aload_n 0, 1) := by decide +kernel
theorem dX3_copyFrom_31 : decode cX3_copyFrom 31 = .ok (.aload_n 1, 1) := by decide +kernel
theorem dX3_copyFrom_32 : decode cX3_copyFrom 32 = .ok (.getfield 27, 3) := by decide +kernel
theorem dX3_copyFrom_35 : decode cX3_copyFrom 35 = .ok (.putfield 27, 3) := by decide +kernel
theorem dX3_copyFrom_38 : decode cX3_copyFrom 38 = .ok (.aload_n 0, 1) := by decide +kernel
theorem dX3_copyFrom_39 : decode cX3_copyFrom 39 = .ok (.aload_n 1, 1) := by decide +kernel
theorem dX3_copyFrom_40 : decode cX3_copyFrom 40 = .ok (.getfield 31, 3) := by decide +kernel
theorem dX3_copyFrom_43 : decode cX3_copyFrom 43 = .ok (.putfield 31, 3) := by decide +kernel
theorem dX3_copyFrom_46 : decode cX3_copyFrom 46 = .ok (.aload_n 0, 1) := by decide +kernel
theorem dX3_copyFrom_47 : decode cX3_copyFrom 47 = .ok (.aload_n 1, 1) := by decide +kernel
theorem dX3_copyFrom_48 : decode cX3_copyFrom 48 = .ok (.getfield 34, 3) := by decide +kernel
theorem dX3_copyFrom_51 : decode cX3_copyFrom 51 = .ok (.putfield 34, 3) := by decide +kernel
theorem dX3_copyFrom_54 : decode cX3_copyFrom 54 = .ok (.aload_n 0, 1) := by decide +kernel
theorem dX3_copyFrom_55 : decode cX3_copyFrom 55 = .ok (.aload_n 1, 1) := by decide +kernel
theorem dX3_copyFrom_56 : decode cX3_copyFrom 56 = .ok (.getfield 37, 3) := by decide +kernel
theorem dX3_copyFrom_59 : decode cX3_copyFrom 59 = .ok (.putfield 37, 3) := by decide +kernel
theorem dX3_copyFrom_62 : decode cX3_copyFrom 62 = .ok (.iconst 0, 1) := by decide +kernel
theorem dX3_copyFrom_63 : decode cX3_copyFrom 63 = .ok (.istore_n 2, 1) := by decide +kernel
theorem dX3_copyFrom_64 : decode cX3_copyFrom 64 = .ok (.iload_n 2, 1) := by decide +kernel
theorem dX3_copyFrom_65 : decode cX3_copyFrom 65 = .ok (.bipush 24, 2) := by decide +kernel
theorem dX3_copyFrom_67 : decode cX3_copyFrom 67 = .ok (.if_icmp .ge 34, 3) := by decide +kernel
theorem dX3_copyFrom_70 : decode cX3_copyFrom 70 = .ok (.aload_n 0, 1) := by decide +kernel
theorem dX3_copyFrom_71 : decode cX3_copyFrom 71 = .ok (.getfield 40, 3) := by decide +kernel
theorem dX3_copyFrom_74 : decode cX3_copyFrom 74 = .ok (.iload_n 2, 1) := by decide +kernel
theorem dX3_copyFrom_75 : decode cX3_copyFrom 75 = .ok (.aload_n 1, 1) := by decide +kernel
theorem dX3_copyFrom_76 : decode cX3_copyFrom 76 = .ok (.iload_n 2, 1) := by decide +kernel
theorem dX3_copyFrom_77 : decode cX3_copyFrom 77 = .ok (.invokevirtual 60, 3) := by decide +kernel
theorem dX3_copyFrom_80 : decode cX3_copyFrom 80 = .ok (.iastore, 1) := by decide +kernel
theorem dX3_copyFrom_81 : decode cX3_copyFrom 81 = .ok (.aload_n 0, 1) := by decide +kernel
theorem dX3_copyFrom_82 : decode cX3_copyFrom 82 = .ok (.getfield 46, 3) := by decide +kernel
theorem dX3_copyFrom_85 : decode cX3_copyFrom 85 = .ok (.iload_n 2, 1) := by decide +kernel
theorem dX3_copyFrom_86 : decode cX3_copyFrom 86 = .ok (.aaload, 1) := by decide +kernel
theorem dX3_copyFrom_87 : decode cX3_copyFrom 87 = .ok (.aload_n 1, 1) := by decide +kernel
theorem dX3_copyFrom_88 : decode cX3_copyFrom 88 = .ok (.iload_n 2, 1) := by decide +kernel
theorem dX3_copyFrom_89 : decode cX3_copyFrom 89 = .ok (.invokevirtual 84, 3) := by decide +kernel
theorem dX3_copyFrom_92 : decode cX3_copyFrom 92 = .ok (.invokevirtual 88, 3) := by decide +kernel
theorem dX3_copyFrom_95 : decode cX3_copyFrom 95 = .ok (.iinc 2 1, 3) := by decide +kernel
theorem dX3_copyFrom_98 : decode cX3_copyFrom 98 = .ok (.goto (-34), 3) := by decide +kernel
theorem dX3_copyFrom_101 : decode cX3_copyFrom 101 = .ok (.return_, 1) := by decide +kernel
theorem dX3_looksLike_0 : decode cX3_looksLike 0 = .ok (.aload_n 0, 1) := by decide +kernel
theorem dX3_looksLike_1 : decode cX3_looksLike 1 = .ok (.getfield 20, 3) := by decide +kernel
theorem dX3_looksLike_4 : decode cX3_looksLike 4 = .ok (.aload_n 1, 1) := by decide +kernel
theorem dX3_looksLike_5 : decode cX3_looksLike 5 = .ok (.getfield 20, 3) := by decide +kernel
theorem dX3_looksLike_8 : decode cX3_looksLike 8 = .ok (.invokevirtual 91, 3) := by decide +kernel
theorem dX3_looksLike_11 : decode cX3_looksLike 11 = .ok (.ifCond .eq 17, 3) := by decide +kernel
theorem dX3_looksLike_14 : decode cX3_looksLike 14 = .ok (.aload_n 0, 1) := by decide +kernel
theorem dX3_looksLike_15 : decode cX3_looksLike 15 = .ok (.getfield 24, 3) := by decide +kernel
theorem dX3_looksLike_18 : decode cX3_looksLike 18 = .ok (.aload_n 1, 1) := by decide +kernel
theorem dX3_looksLike_19 : decode cX3_looksLike 19 = .ok (.getfield 24, 3) := by decide +kernel
theorem dX3_looksLike_22 : decode cX3_looksLike 22 = .ok (.invokevirtual 91, 3) := by decide +kernel
theorem dX3_looksLike_25 : decode cX3_looksLike 25 = .ok (.ifCond .ne 5, 3) := by decide +kernel
theorem dX3_looksLike_28 : decode cX3_looksLike 28 = .ok (.iconst 0, 1) := by decide +kernel
theorem dX3_looksLike_29 : decode cX3_looksLike 29 = .ok (.ireturn, 1) := by decide +kernel
theorem dX3_looksLike_30 : decode cX3_looksLike 30 = .ok (.aload_n 0, 1) := by decide +kernel
theorem dX3_looksLike_31 : decode cX3_looksLike 31 = .ok (.getfield 27, 3) := by decide +kernel
theorem dX3_looksLike_34 : decode cX3_looksLike 34 = .ok (.aload_n 1, 1) := by decide +kernel
theorem dX3_looksLike_35 : decode cX3_looksLike 35 = .ok (.getfield 27, 3) := by decide +kernel
theorem dX3_looksLike_38 : decode cX3_looksLike 38 = .ok (.if_icmp .eq 5, 3) := by decide +kernel
theorem dX3_looksLike_41 : decode cX3_looksLike 41 = .ok (.iconst 0, 1) := by decide +kernel
theorem dX3_looksLike_42 : decode cX3_looksLike 42 = .ok (.ireturn, 1) := by decide +kernel
theorem dX3_looksLike_43 : decode cX3_looksLike 43 = .ok (.iconst 0, 1) := by decide +kernel
theorem dX3_looksLike_44 : decode cX3_looksLike 44 = .ok (.istore_n 2, 1) := by decide +kernel
theorem dX3_looksLike_45 : decode cX3_looksLike 45 = .ok (.iload_n 2, 1) := by decide +kernel
theorem dX3_looksLike_46 : decode cX3_looksLike 46 = .ok (.bipush 24, 2) := by decide +kernel
theorem dX3_looksLike_48 : decode cX3_looksLike 48 = .ok (.if_icmp .ge 25, 3) := by decide +kernel
theorem dX3_looksLike_51 : decode cX3_looksLike 51 = .ok (.aload_n 0, 1) := by decide +kernel
theorem dX3_looksLike_52 : decode cX3_looksLike 52 = .ok (.getfield 40, 3) := by decide +kernel
theorem dX3_looksLike_55 : decode cX3_looksLike 55 = .ok (.iload_n 2, 1) := by decide +kernel
theorem dX3_looksLike_56 : decode cX3_looksLike 56 = .ok (.iaload, 1) := by decide +kernel
theorem dX3_looksLike_57 : decode cX3_looksLike 57 = .ok (.aload_n 1, 1) := by decide +kernel
theorem dX3_looksLike_58 : decode cX3_looksLike 58 = .ok (.iload_n 2, 1) := by decide +kernel
theorem dX3_looksLike_59 : decode cX3_looksLike 59 = .ok (.invokevirtual 60, 3) := by decide +kernel
theorem dX3_looksLike_62 : decode cX3_looksLike 62 = .ok (.if_icmp .eq 5, 3) := by decide +kernel
theorem dX3_looksLike_65 : decode cX3_looksLike 65 = .ok (.iconst 0, 1) := by decide +kernel
theorem dX3_looksLike_66 : decode cX3_looksLike 66 = .ok (.ireturn, 1) := by decide +kernel
theorem dX3_looksLike_67 : decode cX3_looksLike 67 = .ok (.iinc 2 1, 3) := by decide +kernel
theorem dX3_looksLike_70 : decode cX3_looksLike 70 = .ok (.goto (-25), 3) := by decide +kernel
theorem dX3_looksLike_73 : decode cX3_looksLike 73 = .ok (.iconst 1, 1) := by decide +kernel
theorem dX3_looksLike_74 : decode cX3_looksLike 74 = .ok (.ireturn, 1) := by decide +kernel
theorem dX4_init_0 : decode cX4_init 0 = .ok (.aload_n 0, 1) := by decide +kernel
theorem dX4_init_1 : decode cX4_init 1 = .ok (.invokespecial 3, 3) := by decide +kernel
theorem dX4_init_4 : decode cX4_init 4 = .ok (.aload_n 0, 1) := by decide +kernel
theorem dX4_init_5 : decode cX4_init 5 = .ok (.iconst 0, 1) := by decide +kernel
theorem dX4_init_6 : decode cX4_init 6 = .ok (.putfield 9, 3) := by decide +kernel
theorem dX4_init_9 : decode cX4_init 9 = .ok (.aload_n 0, 1) := by decide +kernel
theorem dX4_init_10 : decode cX4_init 10 = .ok (.iload_n 1, 1) := by decide +kernel
theorem dX4_init_11 : decode cX4_init 11 = .ok (.iconst 0, 1) := by decide +kernel
theorem dX4_init_12 : decode cX4_init 12 = .ok (.invokestatic 15, 3) := by decide +kernel
theorem dX4_init_15 : decode cX4_init 15 = .ok (.newarray .int, 2) := by decide +kernel
theorem dX4_init_17 : decode cX4_init 17 = .ok (.putfield 21, 3) := by decide +kernel
theorem dX4_init_20 : decode cX4_init 20 = .ok (.return_, 1) := by decide +kernel
theorem dX4_at_0 : decode cX4_at 0 = .ok (.iload_n 1, 1) := by decide +kernel
theorem dX4_at_1 : decode cX4_at 1 = .ok (.ifCond .lt 20, 3) := by decide +kernel
theorem dX4_at_4 : decode cX4_at 4 = .ok (.iload_n 1, 1) := by decide +kernel
theorem dX4_at_5 : decode cX4_at 5 = .ok (.aload_n 0, 1) := by decide +kernel
theorem dX4_at_6 : decode cX4_at 6 = .ok (.getfield 9, 3) := by decide +kernel
theorem dX4_at_9 : decode cX4_at 9 = .ok (.if_icmp .ge 12, 3) := by decide +kernel
theorem dX4_at_12 : decode cX4_at 12 = .ok (.aload_n 0, 1) := by decide +kernel
theorem dX4_at_13 : decode cX4_at 13 = .ok (.getfield 21, 3) := by decide +kernel
theorem dX4_at_16 : decode cX4_at 16 = .ok (.iload_n 1, 1) := by decide +kernel
theorem dX4_at_17 : decode cX4_at 17 = .ok (.iaload, 1) := by decide +kernel
theorem dX4_at_18 : decode cX4_at 18 = .ok (.goto 5, 3) := by decide +kernel
theorem dX4_at_21 : decode cX4_at 21 = .ok (.bipush (-6), 2) := by decide +kernel
theorem dX4_at_23 : decode cX4_at 23 = .ok (.ireturn, 1) := by decide +kernel
theorem dX4_placeOf_0 : decode cX4_placeOf 0 = .ok (.iconst 0, 1) := by decide +kernel
theorem dX4_placeOf_1 : decode cX4_placeOf 1 = .ok (.istore_n 2, 1) := by decide +kernel
theorem dX4_placeOf_2 : decode cX4_placeOf 2 = .ok (.iload_n 2, 1) := by decide +kernel
theorem dX4_placeOf_3 : decode cX4_placeOf 3 = .ok (.aload_n 0, 1) := by decide +kernel
theorem dX4_placeOf_4 : decode cX4_placeOf 4 = .ok (.getfield 9, 3) := by decide +kernel
theorem dX4_placeOf_7 : decode cX4_placeOf 7 = .ok (.if_icmp .ge 21, 3) := by decide +kernel
theorem dX4_placeOf_10 : decode cX4_placeOf 10 = .ok (.aload_n 0, 1) := by decide +kernel
theorem dX4_placeOf_11 : decode cX4_placeOf 11 = .ok (.getfield 21, 3) := by decide +kernel
theorem dX4_placeOf_14 : decode cX4_placeOf 14 = .ok (.iload_n 2, 1) := by decide +kernel
theorem dX4_placeOf_15 : decode cX4_placeOf 15 = .ok (.iaload, 1) := by decide +kernel
theorem dX4_placeOf_16 : decode cX4_placeOf 16 = .ok (.iload_n 1, 1) := by decide +kernel
theorem dX4_placeOf_17 : decode cX4_placeOf 17 = .ok (.if_icmp .ne 5, 3) := by decide +kernel
theorem dX4_placeOf_20 : decode cX4_placeOf 20 = .ok (.iload_n 2, 1) := by decide +kernel
theorem dX4_placeOf_21 : decode cX4_placeOf 21 = .ok (.ireturn, 1) := by decide +kernel
theorem dX4_placeOf_22 : decode cX4_placeOf 22 = .ok (.iinc 2 1, 3) := by decide +kernel
theorem dX4_placeOf_25 : decode cX4_placeOf 25 = .ok (.goto (-23), 3) := by decide +kernel
theorem dX4_placeOf_28 : decode cX4_placeOf 28 = .ok (.bipush (-6), 2) := by decide +kernel
theorem dX4_placeOf_30 : decode cX4_placeOf 30 = .ok (.ireturn, 1) := by decide +kernel
theorem dX4_has_0 : decode cX4_has 0 = .ok (.aload_n 0, 1) := by decide +kernel
theorem dX4_has_1 : decode cX4_has 1 = .ok (.iload_n 1, 1) := by decide +kernel
theorem dX4_has_2 : decode cX4_has 2 = .ok (.invokevirtual 25, 3) := by decide +kernel
theorem dX4_has_5 : decode cX4_has 5 = .ok (.bipush (-6), 2) := by decide +kernel
theorem dX4_has_7 : decode cX4_has 7 = .ok (.if_icmp .eq 7, 3) := by decide +kernel
theorem dX4_has_10 : decode cX4_has 10 = .ok (.iconst 1, 1) := by decide +kernel
theorem dX4_has_11 : decode cX4_has 11 = .ok (.goto 4, 3) := by decide +kernel
theorem dX4_has_14 : decode cX4_has 14 = .ok (.iconst 0, 1) := by decide +kernel
theorem dX4_has_15 : decode cX4_has 15 = .ok (.ireturn, 1) := by decide +kernel
theorem dX4_put_0 : decode cX4_put 0 = .ok (.aload_n 0, 1) := by decide +kernel
theorem dX4_put_1 : decode cX4_put 1 = .ok (.getfield 9, 3) := by decide +kernel
theorem dX4_put_4 : decode cX4_put 4 = .ok (.aload_n 0, 1) := by decide +kernel
theorem dX4_put_5 : decode cX4_put 5 = .ok (.getfield 21, 3) := by decide +kernel
theorem dX4_put_8 : decode cX4_put 8 = .ok (.arraylength, 1) := by decide +kernel
theorem dX4_put_9 : decode cX4_put 9 = .ok (.if_icmp .ge 23, 3) := by decide +kernel
theorem dX4_put_12 : decode cX4_put 12 = .ok (.aload_n 0, 1) := by decide +kernel
theorem dX4_put_13 : decode cX4_put 13 = .ok (.getfield 21, 3) := by decide +kernel
theorem dX4_put_16 : decode cX4_put 16 = .ok (.aload_n 0, 1) := by decide +kernel
theorem dX4_put_17 : decode cX4_put 17 = .ok (.getfield 9, 3) := by decide +kernel
theorem dX4_put_20 : decode cX4_put 20 = .ok (.iload_n 1, 1) := by decide +kernel
theorem dX4_put_21 : decode cX4_put 21 = .ok (.iastore, 1) := by decide +kernel
theorem dX4_put_22 : decode cX4_put 22 = .ok (.aload_n 0, 1) := by decide +kernel
theorem dX4_put_23 : decode cX4_put 23 = .ok (.dup, 1) := by decide +kernel
theorem dX4_put_24 : decode cX4_put 24 = .ok (.getfield 9, 3) := by decide +kernel
theorem dX4_put_27 : decode cX4_put 27 = .ok (.iconst 1, 1) := by decide +kernel
theorem dX4_put_28 : decode cX4_put 28 = .ok (.iadd, 1) := by decide +kernel
theorem dX4_put_29 : decode cX4_put 29 = .ok (.putfield 9, 3) := by decide +kernel
theorem dX4_put_32 : decode cX4_put 32 = .ok (.return_, 1) := by decide +kernel
theorem dX4_removeAt_0 : decode cX4_removeAt 0 = .ok (.iload_n 1, 1) := by decide +kernel
theorem dX4_removeAt_1 : decode cX4_removeAt 1 = .ok (.ifCond .lt 11, 3) := by decide +kernel
theorem dX4_removeAt_4 : decode cX4_removeAt 4 = .ok (.iload_n 1, 1) := by decide +kernel
theorem dX4_removeAt_5 : decode cX4_removeAt 5 = .ok (.aload_n 0, 1) := by decide +kernel
theorem dX4_removeAt_6 : decode cX4_removeAt 6 = .ok (.getfield 9, 3) := by decide +kernel
theorem dX4_removeAt_9 : decode cX4_removeAt 9 = .ok (.if_icmp .lt 4, 3) := by decide +kernel
theorem dX4_removeAt_12 : decode cX4_removeAt 12 = .ok (.return_, 1) := by decide +kernel
theorem dX4_removeAt_13 : decode cX4_removeAt 13 = .ok (.iload_n 1, 1) := by decide +kernel
theorem dX4_removeAt_14 : decode cX4_removeAt 14 = .ok (.istore_n 2, 1) := by decide +kernel
theorem dX4_removeAt_15 : decode cX4_removeAt 15 = .ok (.iload_n 2, 1) := by decide +kernel
theorem dX4_removeAt_16 : decode cX4_removeAt 16 = .ok (.iconst 1, 1) := by decide +kernel
theorem dX4_removeAt_17 : decode cX4_removeAt 17 = .ok (.iadd, 1) := by decide +kernel
theorem dX4_removeAt_18 : decode cX4_removeAt 18 = .ok (.aload_n 0, 1) := by decide +kernel
theorem dX4_removeAt_19 : decode cX4_removeAt 19 = .ok (.getfield 9, 3) := by decide +kernel
theorem dX4_removeAt_22 : decode cX4_removeAt 22 = .ok (.if_icmp .ge 23, 3) := by decide +kernel
theorem dX4_removeAt_25 : decode cX4_removeAt 25 = .ok (.aload_n 0, 1) := by decide +kernel
theorem dX4_removeAt_26 : decode cX4_removeAt 26 = .ok (.getfield 21, 3) := by decide +kernel
theorem dX4_removeAt_29 : decode cX4_removeAt 29 = .ok (.iload_n 2, 1) := by decide +kernel
theorem dX4_removeAt_30 : decode cX4_removeAt 30 = .ok (.aload_n 0, 1) := by decide +kernel
theorem dX4_removeAt_31 : decode cX4_removeAt 31 = .ok (.getfield 21, 3) := by decide +kernel
theorem dX4_removeAt_34 : decode cX4_removeAt 34 = .ok (.iload_n 2, 1) := by decide +kernel
theorem dX4_removeAt_35 : decode cX4_removeAt 35 = .ok (.iconst 1, 1) := by decide +kernel
theorem dX4_removeAt_36 : decode cX4_removeAt 36 = .ok (.iadd, 1) := by decide +kernel
theorem dX4_removeAt_37 : decode cX4_removeAt 37 = .ok (.iaload, 1) := by decide +kernel
theorem dX4_removeAt_38 : decode cX4_removeAt 38 = .ok (.iastore, 1) := by decide +kernel
theorem dX4_removeAt_39 : decode cX4_removeAt 39 = .ok (.iinc 2 1, 3) := by decide +kernel
theorem dX4_removeAt_42 : decode cX4_removeAt 42 = .ok (.goto (-27), 3) := by decide +kernel
theorem dX4_removeAt_45 : decode cX4_removeAt 45 = .ok (.aload_n 0, 1) := by decide +kernel
theorem dX4_removeAt_46 : decode cX4_removeAt 46 = .ok (.dup, 1) := by decide +kernel
theorem dX4_removeAt_47 : decode cX4_removeAt 47 = .ok (.getfield 9, 3) := by decide +kernel
theorem dX4_removeAt_50 : decode cX4_removeAt 50 = .ok (.iconst 1, 1) := by decide +kernel
theorem dX4_removeAt_51 : decode cX4_removeAt 51 = .ok (.isub, 1) := by decide +kernel
theorem dX4_removeAt_52 : decode cX4_removeAt 52 = .ok (.putfield 9, 3) := by decide +kernel
theorem dX4_removeAt_55 : decode cX4_removeAt 55 = .ok (.return_, 1) := by decide +kernel
theorem dX4_remove_0 : decode cX4_remove 0 = .ok (.aload_n 0, 1) := by decide +kernel
theorem dX4_remove_1 : decode cX4_remove 1 = .ok (.aload_n 0, 1) := by decide +kernel
theorem dX4_remove_2 : decode cX4_remove 2 = .ok (.iload_n 1, 1) := by decide +kernel
theorem dX4_remove_3 : decode cX4_remove 3 = .ok (.invokevirtual 25, 3) := by decide +kernel
theorem dX4_remove_6 : decode cX4_remove 6 = .ok (.invokevirtual 29, 3) := by decide +kernel
theorem dX4_remove_9 : decode cX4_remove 9 = .ok (.return_, 1) := by decide +kernel
theorem dX4_clear_0 : decode cX4_clear 0 = .ok (.aload_n 0, 1) := by decide +kernel
theorem dX4_clear_1 : decode cX4_clear 1 = .ok (.iconst 0, 1) := by decide +kernel
theorem dX4_clear_2 : decode cX4_clear 2 = .ok (.putfield 9, 3) := by decide +kernel
theorem dX4_clear_5 : decode cX4_clear 5 = .ok (.return_, 1) := by decide +kernel
theorem dX4_copyFrom_0 : decode cX4_copyFrom 0 = .ok (.aload_n 0, 1) := by decide +kernel
theorem dX4_copyFrom_1 : decode cX4_copyFrom 1 = .ok (.aload_n 1, 1) := by decide +kernel
theorem dX4_copyFrom_2 : decode cX4_copyFrom 2 = .ok (.getfield 9, 3) := by decide +kernel
theorem dX4_copyFrom_5 : decode cX4_copyFrom 5 = .ok (.aload_n 0, 1) := by decide +kernel
theorem dX4_copyFrom_6 : decode cX4_copyFrom 6 = .ok (.getfield 21, 3) := by decide +kernel
theorem dX4_copyFrom_9 : decode cX4_copyFrom 9 = .ok (.arraylength, 1) := by decide +kernel
theorem dX4_copyFrom_10 : decode cX4_copyFrom 10 = .ok (.invokestatic 33, 3) := by decide +kernel
theorem dX4_copyFrom_13 : decode cX4_copyFrom 13 = .ok (.putfield 9, 3) := by decide +kernel
theorem dX4_copyFrom_16 : decode cX4_copyFrom 16 = .ok (.iconst 0, 1) := by decide +kernel
theorem dX4_copyFrom_17 : decode cX4_copyFrom 17 = .ok (.istore_n 2, 1) := by decide +kernel
theorem dX4_copyFrom_18 : decode cX4_copyFrom 18 = .ok (.iload_n 2, 1) := by decide +kernel
theorem dX4_copyFrom_19 : decode cX4_copyFrom 19 = .ok (.aload_n 0, 1) := by decide +kernel
theorem dX4_copyFrom_20 : decode cX4_copyFrom 20 = .ok (.getfield 9, 3) := by decide +kernel
theorem dX4_copyFrom_23 : decode cX4_copyFrom 23 = .ok (.if_icmp .ge 20, 3) := by decide +kernel
theorem dX4_copyFrom_26 : decode cX4_copyFrom 26 = .ok (.aload_n 0, 1) := by decide +kernel
theorem dX4_copyFrom_27 : decode cX4_copyFrom 27 = .ok (.getfield 21, 3) := by decide +kernel
theorem dX4_copyFrom_30 : decode cX4_copyFrom 30 = .ok (.iload_n 2, 1) := by decide +kernel
theorem dX4_copyFrom_31 : decode cX4_copyFrom 31 = .ok (.aload_n 1, 1) := by decide +kernel
theorem dX4_copyFrom_32 : decode cX4_copyFrom 32 = .ok (.iload_n 2, 1) := by decide +kernel
theorem dX4_copyFrom_33 : decode cX4_copyFrom 33 = .ok (.invokevirtual 36, 3) := by decide +kernel
theorem dX4_copyFrom_36 : decode cX4_copyFrom 36 = .ok (.iastore, 1) := by decide +kernel
theorem dX4_copyFrom_37 : decode cX4_copyFrom 37 = .ok (.iinc 2 1, 3) := by decide +kernel
theorem dX4_copyFrom_40 : decode cX4_copyFrom 40 = .ok (.goto (-22), 3) := by decide +kernel
theorem dX4_copyFrom_43 : decode cX4_copyFrom 43 = .ok (.return_, 1) := by decide +kernel
theorem dX4_isSameAs_0 : decode cX4_isSameAs 0 = .ok (.aload_n 0, 1) := by decide +kernel
theorem dX4_isSameAs_1 : decode cX4_isSameAs 1 = .ok (.getfield 9, 3) := by decide +kernel
theorem dX4_isSameAs_4 : decode cX4_isSameAs 4 = .ok (.aload_n 1, 1) := by decide +kernel
theorem dX4_isSameAs_5 : decode cX4_isSameAs 5 = .ok (.getfield 9, 3) := by decide +kernel
theorem dX4_isSameAs_8 : decode cX4_isSameAs 8 = .ok (.if_icmp .eq 5, 3) := by decide +kernel
theorem dX4_isSameAs_11 : decode cX4_isSameAs 11 = .ok (.iconst 0, 1) := by decide +kernel
theorem dX4_isSameAs_12 : decode cX4_isSameAs 12 = .ok (.ireturn, 1) := by decide +kernel
theorem dX4_isSameAs_13 : decode cX4_isSameAs 13 = .ok (.iconst 0, 1) := by decide +kernel
theorem dX4_isSameAs_14 : decode cX4_isSameAs 14 = .ok (.istore_n 2, 1) := by decide +kernel
theorem dX4_isSameAs_15 : decode cX4_isSameAs 15 = .ok (.iload_n 2, 1) := by decide +kernel
theorem dX4_isSameAs_16 : decode cX4_isSameAs 16 = .ok (.aload_n 0, 1) := by decide +kernel
theorem dX4_isSameAs_17 : decode cX4_isSameAs 17 = .ok (.getfield 9, 3) := by decide +kernel
theorem dX4_isSameAs_20 : decode cX4_isSameAs 20 = .ok (.if_icmp .ge 25, 3) := by decide +kernel
theorem dX4_isSameAs_23 : decode cX4_isSameAs 23 = .ok (.aload_n 0, 1) := by decide +kernel
theorem dX4_isSameAs_24 : decode cX4_isSameAs 24 = .ok (.getfield 21, 3) := by decide +kernel
theorem dX4_isSameAs_27 : decode cX4_isSameAs 27 = .ok (.iload_n 2, 1) := by decide +kernel
theorem dX4_isSameAs_28 : decode cX4_isSameAs 28 = .ok (.iaload, 1) := by decide +kernel
theorem dX4_isSameAs_29 : decode cX4_isSameAs 29 = .ok (.aload_n 1, 1) := by decide +kernel
theorem dX4_isSameAs_30 : decode cX4_isSameAs 30 = .ok (.iload_n 2, 1) := by decide +kernel
theorem dX4_isSameAs_31 : decode cX4_isSameAs 31 = .ok (.invokevirtual 36, 3) := by decide +kernel
theorem dX4_isSameAs_34 : decode cX4_isSameAs 34 = .ok (.if_icmp .eq 5, 3) := by decide +kernel
theorem dX4_isSameAs_37 : decode cX4_isSameAs 37 = .ok (.iconst 0, 1) := by decide +kernel
theorem dX4_isSameAs_38 : decode cX4_isSameAs 38 = .ok (.ireturn, 1) := by decide +kernel
theorem dX4_isSameAs_39 : decode cX4_isSameAs 39 = .ok (.iinc 2 1, 3) := by decide +kernel
theorem dX4_isSameAs_42 : decode cX4_isSameAs 42 = .ok (.goto (-27), 3) := by decide +kernel
theorem dX4_isSameAs_45 : decode cX4_isSameAs 45 = .ok (.iconst 1, 1) := by decide +kernel
theorem dX4_isSameAs_46 : decode cX4_isSameAs 46 = .ok (.ireturn, 1) := by decide +kernel
theorem dX5_init_0 : decode cX5_init 0 = .ok (.aload_n 0, 1) := by decide +kernel
theorem dX5_init_1 : decode cX5_init 1 = .ok (.invokespecial 3, 3) := by decide +kernel
theorem dX5_init_4 : decode cX5_init 4 = .ok (.aload_n 0, 1) := by decide +kernel
theorem dX5_init_5 : decode cX5_init 5 = .ok (.sipush 500, 3) := by decide +kernel
theorem dX5_init_8 : decode cX5_init 8 = .ok (.anewarray 9, 3) := by decide +kernel
theorem dX5_init_11 : decode cX5_init 11 = .ok (.putfield 11, 3) := by decide +kernel
theorem dX5_init_14 : decode cX5_init 14 = .ok (.aload_n 0, 1) := by decide +kernel
theorem dX5_init_15 : decode cX5_init 15 = .ok (.iconst 0, 1) := by decide +kernel
theorem dX5_init_16 : decode cX5_init 16 = .ok (.putfield 17, 3) := by decide +kernel
theorem dX5_init_19 : decode cX5_init 19 = .ok (.aload_n 0, 1) := by decide +kernel
theorem dX5_init_20 : decode cX5_init 20 = .ok (.iconst 0, 1) := by decide +kernel
theorem dX5_init_21 : decode cX5_init 21 = .ok (.putfield 21, 3) := by decide +kernel
theorem dX5_init_24 : decode cX5_init 24 = .ok (.aload_n 0, 1) := by decide +kernel
theorem dX5_init_25 : decode cX5_init 25 = .ok (.iconst 0, 1) := by decide +kernel
theorem dX5_init_26 : decode cX5_init 26 = .ok (.putfield 24, 3) := by decide +kernel
theorem dX5_init_29 : decode cX5_init 29 = .ok (.iconst 0, 1) := by decide +kernel
theorem dX5_init_30 : decode cX5_init 30 = .ok (.istore_n 1, 1) := by decide +kernel
theorem dX5_init_31 : decode cX5_init 31 = .ok (.iload_n 1, 1) := by decide +kernel
theorem dX5_init_32 : decode cX5_init 32 = .ok (.sipush 500, 3) := by decide +kernel
theorem dX5_init_35 : decode cX5_init 35 = .ok (.if_icmp .ge 22, 3) := by decide +kernel
theorem dX5_init_38 : decode cX5_init 38 = .ok (.aload_n 0, 1) := by decide +kernel
theorem dX5_init_39 : decode cX5_init 39 = .ok (.getfield 11, 3) := by decide +kernel
theorem dX5_init_42 : decode cX5_init 42 = .ok (.iload_n 1, 1) := by decide +kernel
theorem dX5_init_43 : decode cX5_init 43 = .ok (.new 9, 3) := by decide +kernel
theorem dX5_init_46 : decode cX5_init 46 = .ok (.dup, 1) := by decide +kernel
theorem dX5_init_47 : decode cX5_init 47 = .ok (.invokespecial 27, 3) := by decide +kernel
theorem dX5_init_50 : decode cX5_init 50 = .ok (.aastore, 1) := by decide +kernel
theorem dX5_init_51 : decode cX5_init 51 = .ok (.iinc 1 1, 3) := by decide +kernel
theorem dX5_init_54 : decode cX5_init 54 = .ok (.goto (-23), 3) := by decide +kernel
theorem dX5_init_57 : decode cX5_init 57 = .ok (.return_, 1) := by decide +kernel
theorem dX5_place_0 : decode cX5_place 0 = .ok (.iload_n 1, 1) := by decide +kernel
theorem dX5_place_1 : decode cX5_place 1 = .ok (.ifCond .le 23, 3) := by decide +kernel
theorem dX5_place_4 : decode cX5_place 4 = .ok (.iload_n 1, 1) := by decide +kernel
theorem dX5_place_5 : decode cX5_place 5 = .ok (.sipush 500, 3) := by decide +kernel
theorem dX5_place_8 : decode cX5_place 8 = .ok (.if_icmp .ge 16, 3) := by decide +kernel
theorem dX5_place_11 : decode cX5_place 11 = .ok (.aload_n 0, 1) := by decide +kernel
theorem dX5_place_12 : decode cX5_place 12 = .ok (.getfield 17, 3) := by decide +kernel
theorem dX5_place_15 : decode cX5_place 15 = .ok (.iload_n 1, 1) := by decide +kernel
theorem dX5_place_16 : decode cX5_place 16 = .ok (.iadd, 1) := by decide +kernel
theorem dX5_place_17 : decode cX5_place 17 = .ok (.sipush 500, 3) := by decide +kernel
theorem dX5_place_20 : decode cX5_place 20 = .ok (.irem, 1) := by decide +kernel
theorem dX5_place_21 : decode cX5_place 21 = .ok (.goto 7, 3) := by decide +kernel
theorem dX5_place_24 : decode cX5_place 24 = .ok (.aload_n 0, 1) := by decide +kernel
theorem dX5_place_25 : decode cX5_place 25 = .ok (.getfield 17, 3) := by decide +kernel
theorem dX5_place_28 : decode cX5_place 28 = .ok (.ireturn, 1) := by decide +kernel
theorem dX5_isLetter_0 : decode cX5_isLetter 0 = .ok (.iload_n 1, 1) := by decide +kernel
theorem dX5_isLetter_1 : decode cX5_isLetter 1 = .ok (.ifCond .lt 15, 3) := by decide +kernel
theorem dX5_isLetter_4 : decode cX5_isLetter 4 = .ok (.iload_n 1, 1) := by decide +kernel
theorem dX5_isLetter_5 : decode cX5_isLetter 5 = .ok (.aload_n 0, 1) := by decide +kernel
theorem dX5_isLetter_6 : decode cX5_isLetter 6 = .ok (.getfield 21, 3) := by decide +kernel
theorem dX5_isLetter_9 : decode cX5_isLetter 9 = .ok (.if_icmp .ge 7, 3) := by decide +kernel
theorem dX5_isLetter_12 : decode cX5_isLetter 12 = .ok (.iconst 1, 1) := by decide +kernel
theorem dX5_isLetter_13 : decode cX5_isLetter 13 = .ok (.goto 4, 3) := by decide +kernel
theorem dX5_isLetter_16 : decode cX5_isLetter 16 = .ok (.iconst 0, 1) := by decide +kernel
theorem dX5_isLetter_17 : decode cX5_isLetter 17 = .ok (.ireturn, 1) := by decide +kernel
theorem dX5_at_0 : decode cX5_at 0 = .ok (.aload_n 0, 1) := by decide +kernel
theorem dX5_at_1 : decode cX5_at 1 = .ok (.getfield 11, 3) := by decide +kernel
theorem dX5_at_4 : decode cX5_at 4 = .ok (.aload_n 0, 1) := by decide +kernel
theorem dX5_at_5 : decode cX5_at 5 = .ok (.iload_n 1, 1) := by decide +kernel
theorem dX5_at_6 : decode cX5_at 6 = .ok (.invokevirtual 28, 3) := by decide +kernel
theorem dX5_at_9 : decode cX5_at 9 = .ok (.aaload, 1) := by decide +kernel
theorem dX5_at_10 : decode cX5_at 10 = .ok (.areturn, 1) := by decide +kernel
theorem dX5_open_0 : decode cX5_open 0 = .ok (.aload_n 0, 1) := by decide +kernel
theorem dX5_open_1 : decode cX5_open 1 = .ok (.getfield 21, 3) := by decide +kernel
theorem dX5_open_4 : decode cX5_open 4 = .ok (.sipush 500, 3) := by decide +kernel
theorem dX5_open_7 : decode cX5_open 7 = .ok (.if_icmp .lt 15, 3) := by decide +kernel
theorem dX5_open_10 : decode cX5_open 10 = .ok (.aload_n 0, 1) := by decide +kernel
theorem dX5_open_11 : decode cX5_open 11 = .ok (.dup, 1) := by decide +kernel
theorem dX5_open_12 : decode cX5_open 12 = .ok (.getfield 24, 3) := by decide +kernel
theorem dX5_open_15 : decode cX5_open 15 = .ok (.iconst 1, 1) := by decide +kernel
theorem dX5_open_16 : decode cX5_open 16 = .ok (.iadd, 1) := by decide +kernel
theorem dX5_open_17 : decode cX5_open 17 = .ok (.putfield 24, 3) := by decide +kernel
theorem dX5_open_20 : decode cX5_open 20 = .ok (.aconst_null, 1) := by decide +kernel
theorem dX5_open_21 : decode cX5_open 21 = .ok (.areturn, 1) := by decide +kernel
theorem dX5_open_22 : decode cX5_open 22 = .ok (.aload_n 0, 1) := by decide +kernel
theorem dX5_open_23 : decode cX5_open 23 = .ok (.dup, 1) := by decide +kernel
theorem dX5_open_24 : decode cX5_open 24 = .ok (.getfield 21, 3) := by decide +kernel
theorem dX5_open_27 : decode cX5_open 27 = .ok (.iconst 1, 1) := by decide +kernel
theorem dX5_open_28 : decode cX5_open 28 = .ok (.iadd, 1) := by decide +kernel
theorem dX5_open_29 : decode cX5_open 29 = .ok (.putfield 21, 3) := by decide +kernel
theorem dX5_open_32 : decode cX5_open 32 = .ok (.aload_n 0, 1) := by decide +kernel
theorem dX5_open_33 : decode cX5_open 33 = .ok (.getfield 11, 3) := by decide +kernel
theorem dX5_open_36 : decode cX5_open 36 = .ok (.aload_n 0, 1) := by decide +kernel
theorem dX5_open_37 : decode cX5_open 37 = .ok (.aload_n 0, 1) := by decide +kernel
theorem dX5_open_38 : decode cX5_open 38 = .ok (.getfield 21, 3) := by decide +kernel
theorem dX5_open_41 : decode cX5_open 41 = .ok (.iconst 1, 1) := by decide +kernel
theorem dX5_open_42 : decode cX5_open 42 = .ok (.isub, 1) := by decide +kernel
theorem dX5_open_43 : decode cX5_open 43 = .ok (.invokevirtual 28, 3) := by decide +kernel
theorem dX5_open_46 : decode cX5_open 46 = .ok (.aaload, 1) := by decide +kernel
theorem dX5_open_47 : decode cX5_open 47 = .ok (.areturn, 1) := by decide +kernel
theorem dX5_removeAt_0 : decode cX5_removeAt 0 = .ok (.aload_n 0, 1) := by decide +kernel
theorem dX5_removeAt_1 : decode cX5_removeAt 1 = .ok (.iload_n 1, 1) := by decide +kernel
theorem dX5_removeAt_2 : decode cX5_removeAt 2 = .ok (.invokevirtual 32, 3) := by decide +kernel
theorem dX5_removeAt_5 : decode cX5_removeAt 5 = .ok (.ifCond .ne 4, 3) := by decide +kernel
theorem dX5_removeAt_8 : decode cX5_removeAt 8 = .ok (.return_, 1) := by decide +kernel
theorem dX5_removeAt_9 : decode cX5_removeAt 9 = .ok (.iload_n 1, 1) := by decide +kernel
theorem dX5_removeAt_10 : decode cX5_removeAt 10 = .ok (.ifCond .ne 15, 3) := by decide +kernel
theorem dX5_removeAt_13 : decode cX5_removeAt 13 = .ok (.aload_n 0, 1) := by decide +kernel
theorem dX5_removeAt_14 : decode cX5_removeAt 14 = .ok (.aload_n 0, 1) := by decide +kernel
theorem dX5_removeAt_15 : decode cX5_removeAt 15 = .ok (.iconst 1, 1) := by decide +kernel
theorem dX5_removeAt_16 : decode cX5_removeAt 16 = .ok (.invokevirtual 28, 3) := by decide +kernel
theorem dX5_removeAt_19 : decode cX5_removeAt 19 = .ok (.putfield 17, 3) := by decide +kernel
theorem dX5_removeAt_22 : decode cX5_removeAt 22 = .ok (.goto 60, 3) := by decide +kernel
theorem dX5_removeAt_25 : decode cX5_removeAt 25 = .ok (.aload_n 0, 1) := by decide +kernel
theorem dX5_removeAt_26 : decode cX5_removeAt 26 = .ok (.iload_n 1, 1) := by decide +kernel
theorem dX5_removeAt_27 : decode cX5_removeAt 27 = .ok (.invokevirtual 36, 3) := by decide +kernel
theorem dX5_removeAt_30 : decode cX5_removeAt 30 = .ok (.astore_n 2, 1) := by decide +kernel
theorem dX5_removeAt_31 : decode cX5_removeAt 31 = .ok (.iload_n 1, 1) := by decide +kernel
theorem dX5_removeAt_32 : decode cX5_removeAt 32 = .ok (.istore_n 3, 1) := by decide +kernel
theorem dX5_removeAt_33 : decode cX5_removeAt 33 = .ok (.iload_n 3, 1) := by decide +kernel
theorem dX5_removeAt_34 : decode cX5_removeAt 34 = .ok (.iconst 1, 1) := by decide +kernel
theorem dX5_removeAt_35 : decode cX5_removeAt 35 = .ok (.iadd, 1) := by decide +kernel
theorem dX5_removeAt_36 : decode cX5_removeAt 36 = .ok (.aload_n 0, 1) := by decide +kernel
theorem dX5_removeAt_37 : decode cX5_removeAt 37 = .ok (.getfield 21, 3) := by decide +kernel
theorem dX5_removeAt_40 : decode cX5_removeAt 40 = .ok (.if_icmp .ge 26, 3) := by decide +kernel
theorem dX5_removeAt_43 : decode cX5_removeAt 43 = .ok (.aload_n 0, 1) := by decide +kernel
theorem dX5_removeAt_44 : decode cX5_removeAt 44 = .ok (.getfield 11, 3) := by decide +kernel
theorem dX5_removeAt_47 : decode cX5_removeAt 47 = .ok (.aload_n 0, 1) := by decide +kernel
theorem dX5_removeAt_48 : decode cX5_removeAt 48 = .ok (.iload_n 3, 1) := by decide +kernel
theorem dX5_removeAt_49 : decode cX5_removeAt 49 = .ok (.invokevirtual 28, 3) := by decide +kernel
theorem dX5_removeAt_52 : decode cX5_removeAt 52 = .ok (.aload_n 0, 1) := by decide +kernel
theorem dX5_removeAt_53 : decode cX5_removeAt 53 = .ok (.iload_n 3, 1) := by decide +kernel
theorem dX5_removeAt_54 : decode cX5_removeAt 54 = .ok (.iconst 1, 1) := by decide +kernel
theorem dX5_removeAt_55 : decode cX5_removeAt 55 = .ok (.iadd, 1) := by decide +kernel
theorem dX5_removeAt_56 : decode cX5_removeAt 56 = .ok (.invokevirtual 36, 3) := by decide +kernel
theorem dX5_removeAt_59 : decode cX5_removeAt 59 = .ok (.aastore, 1) := by decide +kernel
theorem dX5_removeAt_60 : decode cX5_removeAt 60 = .ok (.iinc 3 1, 3) := by decide +kernel
theorem dX5_removeAt_63 : decode cX5_removeAt 63 = .ok (.goto (-30), 3) := by decide +kernel
theorem dX5_removeAt_66 : decode cX5_removeAt 66 = .ok (.aload_n 0, 1) := by decide +kernel
theorem dX5_removeAt_67 : decode cX5_removeAt 67 = .ok (.getfield 11, 3) := by decide +kernel
theorem dX5_removeAt_70 : decode cX5_removeAt 70 = .ok (.aload_n 0, 1) := by decide +kernel
theorem dX5_removeAt_71 : decode cX5_removeAt 71 = .ok (.aload_n 0, 1) := by decide +kernel
theorem dX5_removeAt_72 : decode cX5_removeAt 72 = .ok (.getfield 21, 3) := by decide +kernel
theorem dX5_removeAt_75 : decode cX5_removeAt 75 = .ok (.iconst 1, 1) := by decide +kernel
theorem dX5_removeAt_76 : decode cX5_removeAt 76 = .ok (.isub, 1) := by decide +kernel
theorem dX5_removeAt_77 : decode cX5_removeAt 77 = .ok (.invokevirtual 28, 3) := by decide +kernel
theorem dX5_removeAt_80 : decode cX5_removeAt 80 = .ok (.aload_n 2, 1) := by decide +kernel
theorem dX5_removeAt_81 : decode cX5_removeAt 81 = .ok (.aastore, 1) := by decide +kernel
theorem dX5_removeAt_82 : decode cX5_removeAt 82 = .ok (.aload_n 0, 1) := by decide +kernel
theorem dX5_removeAt_83 : decode cX5_removeAt 83 = .ok (.dup, 1) := by decide +kernel
theorem dX5_removeAt_84 : decode cX5_removeAt 84 = .ok (.getfield 21, 3) := by decide +kernel
theorem dX5_removeAt_87 : decode cX5_removeAt 87 = .ok (.iconst 1, 1) := by decide +kernel
theorem dX5_removeAt_88 : decode cX5_removeAt 88 = .ok (.isub, 1) := by decide +kernel
theorem dX5_removeAt_89 : decode cX5_removeAt 89 = .ok (.putfield 21, 3) := by decide +kernel
theorem dX5_removeAt_92 : decode cX5_removeAt 92 = .ok (.return_, 1) := by decide +kernel
theorem dX5_removeTo_0 : decode cX5_removeTo 0 = .ok (.iconst 0, 1) := by decide +kernel
theorem dX5_removeTo_1 : decode cX5_removeTo 1 = .ok (.istore_n 2, 1) := by decide +kernel
theorem dX5_removeTo_2 : decode cX5_removeTo 2 = .ok (.iconst 0, 1) := by decide +kernel
theorem dX5_removeTo_3 : decode cX5_removeTo 3 = .ok (.istore_n 3, 1) := by decide +kernel
theorem dX5_removeTo_4 : decode cX5_removeTo 4 = .ok (.iload_n 3, 1) := by decide +kernel
theorem dX5_removeTo_5 : decode cX5_removeTo 5 = .ok (.aload_n 0, 1) := by decide +kernel
theorem dX5_removeTo_6 : decode cX5_removeTo 6 = .ok (.getfield 21, 3) := by decide +kernel
theorem dX5_removeTo_9 : decode cX5_removeTo 9 = .ok (.if_icmp .ge 55, 3) := by decide +kernel
theorem dX5_removeTo_12 : decode cX5_removeTo 12 = .ok (.aload_n 0, 1) := by decide +kernel
theorem dX5_removeTo_13 : decode cX5_removeTo 13 = .ok (.iload_n 3, 1) := by decide +kernel
theorem dX5_removeTo_14 : decode cX5_removeTo 14 = .ok (.invokevirtual 36, 3) := by decide +kernel
theorem dX5_removeTo_17 : decode cX5_removeTo 17 = .ok (.astore 4, 2) := by decide +kernel
theorem dX5_removeTo_19 : decode cX5_removeTo 19 = .ok (.aload 4, 2) := by decide +kernel
theorem dX5_removeTo_21 : decode cX5_removeTo 21 = .ok (.getfield 40, 3) := by decide +kernel
theorem dX5_removeTo_24 : decode cX5_removeTo 24 = .ok (.iload_n 1, 1) := by decide +kernel
theorem dX5_removeTo_25 : decode cX5_removeTo 25 = .ok (.if_icmp .eq 33, 3) := by decide +kernel
theorem dX5_removeTo_28 : decode cX5_removeTo 28 = .ok (.aload_n 0, 1) := by decide +kernel
theorem dX5_removeTo_29 : decode cX5_removeTo 29 = .ok (.getfield 11, 3) := by decide +kernel
theorem dX5_removeTo_32 : decode cX5_removeTo 32 = .ok (.aload_n 0, 1) := by decide +kernel
theorem dX5_removeTo_33 : decode cX5_removeTo 33 = .ok (.iload_n 3, 1) := by decide +kernel
theorem dX5_removeTo_34 : decode cX5_removeTo 34 = .ok (.invokevirtual 28, 3) := by decide +kernel
theorem dX5_removeTo_37 : decode cX5_removeTo 37 = .ok (.aload_n 0, 1) := by decide +kernel
theorem dX5_removeTo_38 : decode cX5_removeTo 38 = .ok (.iload_n 2, 1) := by decide +kernel
theorem dX5_removeTo_39 : decode cX5_removeTo 39 = .ok (.invokevirtual 36, 3) := by decide +kernel
theorem dX5_removeTo_42 : decode cX5_removeTo 42 = .ok (.aastore, 1) := by decide +kernel
theorem dX5_removeTo_43 : decode cX5_removeTo 43 = .ok (.aload_n 0, 1) := by decide +kernel
theorem dX5_removeTo_44 : decode cX5_removeTo 44 = .ok (.getfield 11, 3) := by decide +kernel
theorem dX5_removeTo_47 : decode cX5_removeTo 47 = .ok (.aload_n 0, 1) := by decide +kernel
theorem dX5_removeTo_48 : decode cX5_removeTo 48 = .ok (.iload_n 2, 1) := by decide +kernel
theorem dX5_removeTo_49 : decode cX5_removeTo 49 = .ok (.invokevirtual 28, 3) := by decide +kernel
theorem dX5_removeTo_52 : decode cX5_removeTo 52 = .ok (.aload 4, 2) := by decide +kernel
theorem dX5_removeTo_54 : decode cX5_removeTo 54 = .ok (.aastore, 1) := by decide +kernel
theorem dX5_removeTo_55 : decode cX5_removeTo 55 = .ok (.iinc 2 1, 3) := by decide +kernel
theorem dX5_removeTo_58 : decode cX5_removeTo 58 = .ok (.iinc 3 1, 3) := by decide +kernel
theorem dX5_removeTo_61 : decode cX5_removeTo 61 = .ok (.goto (-57), 3) := by decide +kernel
theorem dX5_removeTo_64 : decode cX5_removeTo 64 = .ok (.aload_n 0, 1) := by decide +kernel
theorem dX5_removeTo_65 : decode cX5_removeTo 65 = .ok (.getfield 21, 3) := by decide +kernel
theorem dX5_removeTo_68 : decode cX5_removeTo 68 = .ok (.iload_n 2, 1) := by decide +kernel
theorem dX5_removeTo_69 : decode cX5_removeTo 69 = .ok (.isub, 1) := by decide +kernel
theorem dX5_removeTo_70 : decode cX5_removeTo 70 = .ok (.istore_n 3, 1) := by decide +kernel
theorem dX5_removeTo_71 : decode cX5_removeTo 71 = .ok (.aload_n 0, 1) := by decide +kernel
theorem dX5_removeTo_72 : decode cX5_removeTo 72 = .ok (.iload_n 2, 1) := by decide +kernel
theorem dX5_removeTo_73 : decode cX5_removeTo 73 = .ok (.putfield 21, 3) := by decide +kernel
theorem dX5_removeTo_76 : decode cX5_removeTo 76 = .ok (.iload_n 3, 1) := by decide +kernel
theorem dX5_removeTo_77 : decode cX5_removeTo 77 = .ok (.ireturn, 1) := by decide +kernel
theorem dX5_canCome_0 : decode cX5_canCome 0 = .ok (.aload_n 0, 1) := by decide +kernel
theorem dX5_canCome_1 : decode cX5_canCome 1 = .ok (.iload_n 1, 1) := by decide +kernel
theorem dX5_canCome_2 : decode cX5_canCome 2 = .ok (.invokevirtual 36, 3) := by decide +kernel
theorem dX5_canCome_5 : decode cX5_canCome 5 = .ok (.astore_n 2, 1) := by decide +kernel
theorem dX5_canCome_6 : decode cX5_canCome 6 = .ok (.aload_n 0, 1) := by decide +kernel
theorem dX5_canCome_7 : decode cX5_canCome 7 = .ok (.iload_n 1, 1) := by decide +kernel
theorem dX5_canCome_8 : decode cX5_canCome 8 = .ok (.aload_n 2, 1) := by decide +kernel
theorem dX5_canCome_9 : decode cX5_canCome 9 = .ok (.getfield 43, 3) := by decide +kernel
theorem dX5_canCome_12 : decode cX5_canCome 12 = .ok (.aload_n 2, 1) := by decide +kernel
theorem dX5_canCome_13 : decode cX5_canCome 13 = .ok (.getfield 40, 3) := by decide +kernel
theorem dX5_canCome_16 : decode cX5_canCome 16 = .ok (.invokevirtual 46, 3) := by decide +kernel
theorem dX5_canCome_19 : decode cX5_canCome 19 = .ok (.ifCond .ne 7, 3) := by decide +kernel
theorem dX5_canCome_22 : decode cX5_canCome 22 = .ok (.iconst 1, 1) := by decide +kernel
theorem dX5_canCome_23 : decode cX5_canCome 23 = .ok (.goto 4, 3) := by decide +kernel
theorem dX5_canCome_26 : decode cX5_canCome 26 = .ok (.iconst 0, 1) := by decide +kernel
theorem dX5_canCome_27 : decode cX5_canCome 27 = .ok (.ireturn, 1) := by decide +kernel
theorem dX5_hasAhead_0 : decode cX5_hasAhead 0 = .ok (.iconst 0, 1) := by decide +kernel
theorem dX5_hasAhead_1 : decode cX5_hasAhead 1 = .ok (.istore 4, 2) := by decide +kernel
theorem dX5_hasAhead_3 : decode cX5_hasAhead 3 = .ok (.iload 4, 2) := by decide +kernel
theorem dX5_hasAhead_5 : decode cX5_hasAhead 5 = .ok (.iload_n 1, 1) := by decide +kernel
theorem dX5_hasAhead_6 : decode cX5_hasAhead 6 = .ok (.if_icmp .ge 46, 3) := by decide +kernel
theorem dX5_hasAhead_9 : decode cX5_hasAhead 9 = .ok (.iload 4, 2) := by decide +kernel
theorem dX5_hasAhead_11 : decode cX5_hasAhead 11 = .ok (.aload_n 0, 1) := by decide +kernel
theorem dX5_hasAhead_12 : decode cX5_hasAhead 12 = .ok (.getfield 21, 3) := by decide +kernel
theorem dX5_hasAhead_15 : decode cX5_hasAhead 15 = .ok (.if_icmp .ge 37, 3) := by decide +kernel
theorem dX5_hasAhead_18 : decode cX5_hasAhead 18 = .ok (.aload_n 0, 1) := by decide +kernel
theorem dX5_hasAhead_19 : decode cX5_hasAhead 19 = .ok (.iload 4, 2) := by decide +kernel
theorem dX5_hasAhead_21 : decode cX5_hasAhead 21 = .ok (.invokevirtual 36, 3) := by decide +kernel
theorem dX5_hasAhead_24 : decode cX5_hasAhead 24 = .ok (.astore 5, 2) := by decide +kernel
theorem dX5_hasAhead_26 : decode cX5_hasAhead 26 = .ok (.aload 5, 2) := by decide +kernel
theorem dX5_hasAhead_28 : decode cX5_hasAhead 28 = .ok (.getfield 43, 3) := by decide +kernel
theorem dX5_hasAhead_31 : decode cX5_hasAhead 31 = .ok (.iload_n 2, 1) := by decide +kernel
theorem dX5_hasAhead_32 : decode cX5_hasAhead 32 = .ok (.if_icmp .ne 14, 3) := by decide +kernel
theorem dX5_hasAhead_35 : decode cX5_hasAhead 35 = .ok (.aload 5, 2) := by decide +kernel
theorem dX5_hasAhead_37 : decode cX5_hasAhead 37 = .ok (.getfield 40, 3) := by decide +kernel
theorem dX5_hasAhead_40 : decode cX5_hasAhead 40 = .ok (.iload_n 3, 1) := by decide +kernel
theorem dX5_hasAhead_41 : decode cX5_hasAhead 41 = .ok (.if_icmp .ne 5, 3) := by decide +kernel
theorem dX5_hasAhead_44 : decode cX5_hasAhead 44 = .ok (.iconst 1, 1) := by decide +kernel
theorem dX5_hasAhead_45 : decode cX5_hasAhead 45 = .ok (.ireturn, 1) := by decide +kernel
theorem dX5_hasAhead_46 : decode cX5_hasAhead 46 = .ok (.iinc 4 1, 3) := by decide +kernel
theorem dX5_hasAhead_49 : decode cX5_hasAhead 49 = .ok (.goto (-46), 3) := by decide +kernel
theorem dX5_hasAhead_52 : decode cX5_hasAhead 52 = .ok (.iconst 0, 1) := by decide +kernel
theorem dX5_hasAhead_53 : decode cX5_hasAhead 53 = .ok (.ireturn, 1) := by decide +kernel
theorem dX5_copyFrom_0 : decode cX5_copyFrom 0 = .ok (.aload_n 0, 1) := by decide +kernel
theorem dX5_copyFrom_1 : decode cX5_copyFrom 1 = .ok (.iconst 0, 1) := by decide +kernel
theorem dX5_copyFrom_2 : decode cX5_copyFrom 2 = .ok (.putfield 17, 3) := by decide +kernel
theorem dX5_copyFrom_5 : decode cX5_copyFrom 5 = .ok (.aload_n 0, 1) := by decide +kernel
theorem dX5_copyFrom_6 : decode cX5_copyFrom 6 = .ok (.aload_n 1, 1) := by decide +kernel
theorem dX5_copyFrom_7 : decode cX5_copyFrom 7 = .ok (.getfield 21, 3) := by decide +kernel
theorem dX5_copyFrom_10 : decode cX5_copyFrom 10 = .ok (.putfield 21, 3) := by decide +kernel
theorem dX5_copyFrom_13 : decode cX5_copyFrom 13 = .ok (.aload_n 0, 1) := by decide +kernel
theorem dX5_copyFrom_14 : decode cX5_copyFrom 14 = .ok (.aload_n 1, 1) := by decide +kernel
theorem dX5_copyFrom_15 : decode cX5_copyFrom 15 = .ok (.getfield 24, 3) := by decide +kernel
theorem dX5_copyFrom_18 : decode cX5_copyFrom 18 = .ok (.putfield 24, 3) := by decide +kernel
theorem dX5_copyFrom_21 : decode cX5_copyFrom 21 = .ok (.iconst 0, 1) := by decide +kernel
theorem dX5_copyFrom_22 : decode cX5_copyFrom 22 = .ok (.istore_n 2, 1) := by decide +kernel
theorem dX5_copyFrom_23 : decode cX5_copyFrom 23 = .ok (.iload_n 2, 1) := by decide +kernel
theorem dX5_copyFrom_24 : decode cX5_copyFrom 24 = .ok (.aload_n 0, 1) := by decide +kernel
theorem dX5_copyFrom_25 : decode cX5_copyFrom 25 = .ok (.getfield 21, 3) := by decide +kernel
theorem dX5_copyFrom_28 : decode cX5_copyFrom 28 = .ok (.if_icmp .ge 22, 3) := by decide +kernel
theorem dX5_copyFrom_31 : decode cX5_copyFrom 31 = .ok (.aload_n 0, 1) := by decide +kernel
theorem dX5_copyFrom_32 : decode cX5_copyFrom 32 = .ok (.iload_n 2, 1) := by decide +kernel
theorem dX5_copyFrom_33 : decode cX5_copyFrom 33 = .ok (.invokevirtual 36, 3) := by decide +kernel
theorem dX5_copyFrom_36 : decode cX5_copyFrom 36 = .ok (.aload_n 1, 1) := by decide +kernel
theorem dX5_copyFrom_37 : decode cX5_copyFrom 37 = .ok (.iload_n 2, 1) := by decide +kernel
theorem dX5_copyFrom_38 : decode cX5_copyFrom 38 = .ok (.invokevirtual 36, 3) := by decide +kernel
theorem dX5_copyFrom_41 : decode cX5_copyFrom 41 = .ok (.invokevirtual 50, 3) := by decide +kernel
theorem dX5_copyFrom_44 : decode cX5_copyFrom 44 = .ok (.iinc 2 1, 3) := by decide +kernel
theorem dX5_copyFrom_47 : decode cX5_copyFrom 47 = .ok (.goto (-24), 3) := by decide +kernel
theorem dX5_copyFrom_50 : decode cX5_copyFrom 50 = .ok (.return_, 1) := by decide +kernel
theorem dX6_init_0 : decode cX6_init 0 = .ok (.aload_n 0, 1) := by decide +kernel
theorem dX6_init_1 : decode cX6_init 1 = .ok (.invokespecial 1, 3) := by decide +kernel
theorem dX6_init_4 : decode cX6_init 4 = .ok (.aload_n 0, 1) := by decide +kernel
theorem dX6_init_5 : decode cX6_init 5 = .ok (.iconst 3, 1) := by decide +kernel
theorem dX6_init_6 : decode cX6_init 6 = .ok (.putfield 7, 3) := by decide +kernel
theorem dX6_init_9 : decode cX6_init 9 = .ok (.aload_n 0, 1) := by decide +kernel
theorem dX6_init_10 : decode cX6_init 10 = .ok (.iconst 5, 1) := by decide +kernel
theorem dX6_init_11 : decode cX6_init 11 = .ok (.putfield 13, 3) := by decide +kernel
theorem dX6_init_14 : decode cX6_init 14 = .ok (.aload_n 0, 1) := by decide +kernel
theorem dX6_init_15 : decode cX6_init 15 = .ok (.iconst 4, 1) := by decide +kernel
theorem dX6_init_16 : decode cX6_init 16 = .ok (.putfield 16, 3) := by decide +kernel
theorem dX6_init_19 : decode cX6_init 19 = .ok (.aload_n 0, 1) := by decide +kernel
theorem dX6_init_20 : decode cX6_init 20 = .ok (.iconst 2, 1) := by decide +kernel
theorem dX6_init_21 : decode cX6_init 21 = .ok (.putfield 19, 3) := by decide +kernel
theorem dX6_init_24 : decode cX6_init 24 = .ok (.aload_n 0, 1) := by decide +kernel
theorem dX6_init_25 : decode cX6_init 25 = .ok (.iconst 4, 1) := by decide +kernel
theorem dX6_init_26 : decode cX6_init 26 = .ok (.putfield 22, 3) := by decide +kernel
theorem dX6_init_29 : decode cX6_init 29 = .ok (.return_, 1) := by decide +kernel
theorem dX6_copyFrom_0 : decode cX6_copyFrom 0 = .ok (.aload_n 0, 1) := by decide +kernel
theorem dX6_copyFrom_1 : decode cX6_copyFrom 1 = .ok (.aload_n 1, 1) := by decide +kernel
theorem dX6_copyFrom_2 : decode cX6_copyFrom 2 = .ok (.getfield 7, 3) := by decide +kernel
theorem dX6_copyFrom_5 : decode cX6_copyFrom 5 = .ok (.putfield 7, 3) := by decide +kernel
theorem dX6_copyFrom_8 : decode cX6_copyFrom 8 = .ok (.aload_n 0, 1) := by decide +kernel
theorem dX6_copyFrom_9 : decode cX6_copyFrom 9 = .ok (.aload_n 1, 1) := by decide +kernel
theorem dX6_copyFrom_10 : decode cX6_copyFrom 10 = .ok (.getfield 13, 3) := by decide +kernel
theorem dX6_copyFrom_13 : decode cX6_copyFrom 13 = .ok (.putfield 13, 3) := by decide +kernel
theorem dX6_copyFrom_16 : decode cX6_copyFrom 16 = .ok (.aload_n 0, 1) := by decide +kernel
theorem dX6_copyFrom_17 : decode cX6_copyFrom 17 = .ok (.aload_n 1, 1) := by decide +kernel
theorem dX6_copyFrom_18 : decode cX6_copyFrom 18 = .ok (.getfield 16, 3) := by decide +kernel
theorem dX6_copyFrom_21 : decode cX6_copyFrom 21 = .ok (.putfield 16, 3) := by decide +kernel
theorem dX6_copyFrom_24 : decode cX6_copyFrom 24 = .ok (.aload_n 0, 1) := by decide +kernel
theorem dX6_copyFrom_25 : decode cX6_copyFrom 25 = .ok (.aload_n 1, 1) := by decide +kernel
theorem dX6_copyFrom_26 : decode cX6_copyFrom 26 = .ok (.getfield 19, 3) := by decide +kernel
theorem dX6_copyFrom_29 : decode cX6_copyFrom 29 = .ok (.putfield 19, 3) := by decide +kernel
theorem dX6_copyFrom_32 : decode cX6_copyFrom 32 = .ok (.aload_n 0, 1) := by decide +kernel
theorem dX6_copyFrom_33 : decode cX6_copyFrom 33 = .ok (.aload_n 1, 1) := by decide +kernel
theorem dX6_copyFrom_34 : decode cX6_copyFrom 34 = .ok (.getfield 22, 3) := by decide +kernel
theorem dX6_copyFrom_37 : decode cX6_copyFrom 37 = .ok (.putfield 22, 3) := by decide +kernel
theorem dX6_copyFrom_40 : decode cX6_copyFrom 40 = .ok (.return_, 1) := by decide +kernel
end
section
-- PART 03: the pool (all cells by their codes), the judgement V over it, a rule for each instruction
abbrev pE : Type := (Nat × vp_A) ⊕ (Nat × List Value)
abbrev pM : Type := Nat → pE
def pcv (D : va_G) : pE → va_E
  | .inl q => .inl (D.1 (20 + q.1), q.2)
  | .inr o => .inr o
def p0 : pE := .inr (999, [])
abbrev ob (c : Nat) (fs : List Value) : pE := .inr (c, fs)
abbrev ai (k n : Nat) (r : Nat → Int32) : pE := .inl (k, n, .inl r)
abbrev aq (k n : Nat) (r : Nat → Option Nat) : pE := .inl (k, n, .inr (.inr (.inr (.inr r))))
abbrev pty (D : va_G) : List (ClassId × FieldType) := [(D.1 20, .int), (D.1 21, .boolean), (D.1 22, .object "ViewBroadcast$Letter"), (D.1 23, .object "ViewBroadcast$Miss"), (D.1 24, .object "ViewBroadcast$Node"), (D.1 25, .object "ViewBroadcast$World")]
def pAOs : List String := ["ViewBroadcast$Letter", "ViewBroadcast$Miss", "ViewBroadcast$Node", "ViewBroadcast$World"]
def pNws : List Cond := [(Jvm.Cond.methodLinkNest "ViewBroadcast" (9 : Nat) ({ cls := "ViewBroadcast$Coins", name := "<init>", desc := "()V" } : Jvm.MethodName) "ViewBroadcast"), (Jvm.Cond.methodLinkNest "ViewBroadcast$World" (11 : Nat) ({ cls := "ViewBroadcast$Sizes", name := "<init>", desc := "()V" } : Jvm.MethodName) "ViewBroadcast"), (Jvm.Cond.methodLinkNest "ViewBroadcast$Node" (53 : Nat) ({ cls := "ViewBroadcast$Miss", name := "<init>", desc := "()V" } : Jvm.MethodName) "ViewBroadcast"), (Jvm.Cond.methodLinkNest "ViewBroadcast$Row" (27 : Nat) ({ cls := "ViewBroadcast$Letter", name := "<init>", desc := "()V" } : Jvm.MethodName) "ViewBroadcast"), (Jvm.Cond.methodLinkNest "ViewBroadcast$World" (40 : Nat) ({ cls := "ViewBroadcast$Letter", name := "<init>", desc := "()V" } : Jvm.MethodName) "ViewBroadcast")]
def pK (D : va_G) (U : State) : Prop := va_K D vwCl (pty D) U ∧ (∀ C ∈ pAOs, va_AO C U) ∧ ∀ w ∈ pNws, va_Nw w U
def pws (D : va_G) (P : List Nat) (A : Nat → Nat) (g : pM) : va_W := P.map (fun k => (A k, pcv D (g k)))
def pI (D : va_G) (P : List Nat) (A : Nat → Nat) (g : pM) (H : Heap) : Prop := va_P D vwCl (pws D P A g) H ∧ ∀ k, k ∉ P → g k = p0
def pN (P : List Nat) (A : Nat → Nat) : Prop := P.Nodup ∧ ∀ i ∈ P, ∀ j ∈ P, A i = A j → i = j
/-- what a method may write: the pool's cells and what is new -/
def pF (P : List Nat) (A : Nat → Nat) (sz : Nat) : Nat → Prop := fun q => (∃ j ∈ P, q = A j) ∨ sz ≤ q
theorem p_ix {P : List Nat} {k : Nat} (h : k ∈ P) : ∃ i : Nat, P[i]? = some k := List.mem_iff_getElem?.mp h
theorem p_at {D : va_G} {P : List Nat} {A : Nat → Nat} {g : pM} {i k : Nat} (h : P[i]? = some k) : (pws D P A g)[i]? = some (A k, pcv D (g k)) := by
  simp [pws, h]
theorem p_up {D : va_G} {P : List Nat} {A : Nat → Nat} {g : pM} {i k : Nat} (hn : P.Nodup) (h : P[i]? = some k) (e : pE) : (pws D P A g).set i (A k, pcv D e) = pws D P A (va_up g k e) := by
  have hlt : i < P.length := (List.getElem?_eq_some_iff.mp h).1
  apply List.ext_getElem?
  intro j
  by_cases hj : j = i
  · subst hj
    rw [List.getElem?_set_self (by simpa [pws] using hlt)]
    simp [pws, h, va_up]
  · rw [List.getElem?_set_ne (Ne.symm hj)]
    simp only [pws, List.getElem?_map]
    cases hb : P[j]? with
    | none => rfl
    | some b =>
      have hne : b ≠ k := by
        intro hbk
        subst hbk
        exact hj ((List.getElem?_inj hlt hn).mp (h.trans hb.symm)).symm
      simp [va_up, hne]
theorem p_D {D : va_G} {P : List Nat} {A : Nat → Nat} {g : pM} {Af : Nat → Prop} (hN : pN P A) (hA : ∀ k ∈ P, Af (A k)) : va_D Af (pws D P A g) := by
  refine ⟨fun i j x y hx hy hxy => ?_, fun i x hx => ?_⟩
  · simp only [pws, List.getElem?_map, Option.map_eq_some_iff] at hx hy
    obtain ⟨a, ha, rfl⟩ := hx
    obtain ⟨b, hb, rfl⟩ := hy
    have hab : a = b := hN.2 a (List.mem_of_getElem? ha) b (List.mem_of_getElem? hb) hxy
    subst hab
    exact (List.getElem?_inj (List.getElem?_eq_some_iff.mp ha).1 hN.1).mp (ha.trans hb.symm)
  · simp only [pws, List.getElem?_map, Option.map_eq_some_iff] at hx
    obtain ⟨a, ha, rfl⟩ := hx
    exact hA a (List.mem_of_getElem? ha)
theorem p_in {D : va_G} {P : List Nat} {A : Nat → Nat} {g : pM} {H : Heap} {k : Nat} (h : pI D P A g H) (hne : g k ≠ p0) : k ∈ P := by
  by_cases hk : k ∈ P
  · exact hk
  · exact absurd (h.2 k hk) hne
theorem p_nil {ar : Nat × vp_A} : (Sum.inl ar : pE) ≠ p0 := by intro h; cases h
theorem p_nob {c : Nat} {fs : List Value} {q : vw_C} (hc : vwCl[c]? = some q) : (Sum.inr (c, fs) : pE) ≠ p0 := by
  intro h
  have h2 : c = 999 := congrArg Prod.fst (Sum.inr.inj h)
  subst h2
  cases hc
theorem p_out {D : va_G} {P : List Nat} {A : Nat → Nat} {g : pM} {H : Heap} {k : Nat} (h : pI D P A g H) (hk : k ∈ P) (e : pE) : ∀ j, j ∉ P → va_up g k e j = p0 := by
  intro j hj
  have : j ≠ k := fun q => hj (q ▸ hk)
  rw [va_up_ne _ _ this]
  exact h.2 j hj
-- the judgement
abbrev vT : Type := Program × Launch × Env × Room × State × MethodId × Array Value × List Frame × Method × Code × va_G × (Nat → Prop) × Heap × Nat × (State → Prop)
abbrev kp (K : vT) : Program := K.1
abbrev kl (K : vT) : Launch := K.2.1
abbrev ke (K : vT) : Env := K.2.2.1
abbrev kR (K : vT) : Room := K.2.2.2.1
abbrev ks (K : vT) : State := K.2.2.2.2.1
abbrev km (K : vT) : MethodId := K.2.2.2.2.2.1
abbrev ka (K : vT) : Array Value := K.2.2.2.2.2.2.1
abbrev kb (K : vT) : List Frame := K.2.2.2.2.2.2.2.1
abbrev kM (K : vT) : Method := K.2.2.2.2.2.2.2.2.1
abbrev kc (K : vT) : Code := K.2.2.2.2.2.2.2.2.2.1
abbrev kD (K : vT) : va_G := K.2.2.2.2.2.2.2.2.2.2.1
abbrev kA (K : vT) : Nat → Prop := K.2.2.2.2.2.2.2.2.2.2.2.1
abbrev kH (K : vT) : Heap := K.2.2.2.2.2.2.2.2.2.2.2.2.1
abbrev kn (K : vT) : Nat := K.2.2.2.2.2.2.2.2.2.2.2.2.2.1
abbrev kQ (K : vT) : State → Prop := K.2.2.2.2.2.2.2.2.2.2.2.2.2.2
/-- the machine at a frame of this method, over this heap, comes to its end -/
def kW (K : vT) (H : Heap) (locs : List Loc) (cells slots : Nat) (g : JFrame) : Prop := W (kp K) (kl K) (ke K) (kR K) (ks K) (km K) (ka K) (kb K) (kM K) (kc K) H locs cells slots (kQ K) g
def V (K : vT) (cells slots : Nat) (P : List Nat) (A : Nat → Nat) (g : pM) (lv : List (Nat × Value)) (pc : Nat) (st : List Value) : Prop :=
  ∀ (H : Heap) (locs : List Loc) (ls : Array Slot), pI (kD K) P A g H → pN P A → (∀ k ∈ P, kA K (A k)) → va_S (kA K) (kH K) H locs → lv_has ls (kn K) lv → kW K H locs cells slots (F0 (km K) pc ls st)
/-- what is known of the machine while a method runs -/
def vC (K : vT) (cc : ByteArray) (own : String) (nL : Nat) (rm : Room) : Prop :=
  (kp K).tables.exec = Jvm.exec ∧ (kc K).code = cc ∧ (∀ w ∈ pU, w.before (ka K) (ks K) = true) ∧ (ks K).vm.findClass own = some (km K).cls ∧ pK (kD K) (ks K) ∧ (∀ q, (kH K).size ≤ q → kA K q) ∧ (kM K).locks = false ∧ (kc K).maxLocals = nL ∧ kn K = nL ∧ kR K = rm
section VC
variable {K : vT} {cc : ByteArray} {own : String} {nL : Nat} {rm : Room} {cells slots : Nat} {P : List Nat} {A : Nat → Nat} {g : pM} {lv : List (Nat × Value)} {pc : Nat} {st rest : List Value}
theorem vC.ex (C : vC K cc own nL rm) : (kp K).tables.exec = Jvm.exec := C.1
theorem vC.co (C : vC K cc own nL rm) : (kc K).code = cc := C.2.1
theorem vC.ts (C : vC K cc own nL rm) : ∀ w ∈ pU, w.before (ka K) (ks K) = true := C.2.2.1
theorem vC.ow (C : vC K cc own nL rm) : (ks K).vm.findClass own = some (km K).cls := C.2.2.2.1
theorem vC.kk (C : vC K cc own nL rm) : pK (kD K) (ks K) := C.2.2.2.2.1
theorem vC.fr (C : vC K cc own nL rm) : ∀ q, (kH K).size ≤ q → kA K q := C.2.2.2.2.2.1
theorem vC.lo (C : vC K cc own nL rm) : (kM K).locks = false := C.2.2.2.2.2.2.1
theorem vC.ml (C : vC K cc own nL rm) : (kc K).maxLocals = nL := C.2.2.2.2.2.2.2.1
theorem vC.nn (C : vC K cc own nL rm) : kn K = nL := C.2.2.2.2.2.2.2.2.1
theorem vC.hr (C : vC K cc own nL rm) : kR K = rm := C.2.2.2.2.2.2.2.2.2
-- constants, locals, stack, arithmetic
theorem g_iconst (C : vC K cc own nL rm) {n : Int} {v : Int32} (hd : decode cc pc = .ok (.iconst n, 1)) (hv : Int32.ofInt n = v) (k : V K cells slots P A g lv (pc + 1) (.int v :: st)) : V K cells slots P A g lv pc st :=
  fun H locs ls a b c d e => lv_iconst C.ex C.co hd hv (k H locs ls a b c d e)
theorem g_bipush (C : vC K cc own nL rm) {n : Int} {v : Int32} (hd : decode cc pc = .ok (.bipush n, 2)) (hv : (Int8.ofInt n).toInt32 = v) (k : V K cells slots P A g lv (pc + 2) (.int v :: st)) : V K cells slots P A g lv pc st :=
  fun H locs ls a b c d e => lv_bipush C.ex C.co hd hv (k H locs ls a b c d e)
theorem g_sipush (C : vC K cc own nL rm) {n : Int} {v : Int32} (hd : decode cc pc = .ok (.sipush n, 3)) (hv : (Int16.ofInt n).toInt32 = v) (k : V K cells slots P A g lv (pc + 3) (.int v :: st)) : V K cells slots P A g lv pc st :=
  fun H locs ls a b c d e => lv_sipush C.ex C.co hd hv (k H locs ls a b c d e)
theorem g_lconst (C : vC K cc own nL rm) {n : Fin 2} {v : Int64} (hd : decode cc pc = .ok (.lconst n, 1)) (hv : Int64.ofNat (n : Nat) = v) (k : V K cells slots P A g lv (pc + 1) (.long v :: st)) : V K cells slots P A g lv pc st :=
  fun H locs ls a b c d e => lv_lconst C.ex C.co hd hv (k H locs ls a b c d e)
theorem g_ldc2 (C : vC K cc own nL rm) {idx : Nat} {v : Int64} (hd : decode cc pc = .ok (.ldc2_w idx, 3)) (hw : Cond.constantLong own idx v ∈ pU) (k : V K cells slots P A g lv (pc + 3) (.long v :: st)) : V K cells slots P A g lv pc st :=
  fun H locs ls a b c d e => lv_ldc2 C.ex C.co C.ow (C.ts _ hw) hd (k H locs ls a b c d e)
theorem g_iload_n (C : vC K cc own nL rm) {k : Fin 4} {x : Int32} (hd : decode cc pc = .ok (.iload_n k, 1)) (j : Nat) (hl : lv[j]? = some ((k : Nat), .int x)) (kk : V K cells slots P A g lv (pc + 1) (.int x :: st)) : V K cells slots P A g lv pc st :=
  fun H locs ls a b c d e => lv_iload_n C.ex C.co hd rfl (lv_at e j hl) (kk H locs ls a b c d e)
theorem g_iload (C : vC K cc own nL rm) {i : Nat} {x : Int32} (hd : decode cc pc = .ok (.iload i, 2)) (j : Nat) (hl : lv[j]? = some (i, .int x)) (kk : V K cells slots P A g lv (pc + 2) (.int x :: st)) : V K cells slots P A g lv pc st :=
  fun H locs ls a b c d e => lv_iload C.ex C.co hd (lv_at e j hl) (kk H locs ls a b c d e)
theorem g_aload_n (C : vC K cc own nL rm) {k : Fin 4} {x : Nat} (hd : decode cc pc = .ok (.aload_n k, 1)) (j : Nat) (hl : lv[j]? = some ((k : Nat), .ref x)) (kk : V K cells slots P A g lv (pc + 1) (.ref x :: st)) : V K cells slots P A g lv pc st :=
  fun H locs ls a b c d e => lv_aload_n C.ex C.co hd rfl (lv_at e j hl) (kk H locs ls a b c d e)
theorem g_aload (C : vC K cc own nL rm) {i : Nat} {x : Nat} (hd : decode cc pc = .ok (.aload i, 2)) (j : Nat) (hl : lv[j]? = some (i, .ref x)) (kk : V K cells slots P A g lv (pc + 2) (.ref x :: st)) : V K cells slots P A g lv pc st :=
  fun H locs ls a b c d e => lv_aload C.ex C.co hd (lv_at e j hl) (kk H locs ls a b c d e)
theorem g_aloadN (C : vC K cc own nL rm) {i : Nat} (hd : decode cc pc = .ok (.aload i, 2)) (j : Nat) (hl : lv[j]? = some (i, .null)) (kk : V K cells slots P A g lv (pc + 2) (.null :: st)) : V K cells slots P A g lv pc st :=
  fun H locs ls a b c d e => lv_aloadN C.ex C.co hd (lv_at e j hl) (kk H locs ls a b c d e)
theorem g_lload_n (C : vC K cc own nL rm) {k : Fin 4} {x : Int64} (hd : decode cc pc = .ok (.lload_n k, 1)) (j : Nat) (hl : lv[j]? = some ((k : Nat), .long x)) (kk : V K cells slots P A g lv (pc + 1) (.long x :: st)) : V K cells slots P A g lv pc st :=
  fun H locs ls a b c d e => lv_lload_n C.ex C.co hd rfl (lv_at e j hl) (kk H locs ls a b c d e)
theorem g_lload (C : vC K cc own nL rm) {i : Nat} {x : Int64} (hd : decode cc pc = .ok (.lload i, 2)) (j : Nat) (hl : lv[j]? = some (i, .long x)) (kk : V K cells slots P A g lv (pc + 2) (.long x :: st)) : V K cells slots P A g lv pc st :=
  fun H locs ls a b c d e => lv_lload C.ex C.co hd (lv_at e j hl) (kk H locs ls a b c d e)
/-- the list of locals behind a store: shorter or re-ordered lists do as well -/
theorem lv_le {ls : Array Slot} {n : Nat} {l l' : List (Nat × Value)} (h : lv_has ls n l) (hs : ∀ q ∈ l', q ∈ l) : lv_has ls n l' := ⟨h.1, h.2.1, fun q hq => h.2.2 q (hs q hq)⟩
def lvst (lv : List (Nat × Value)) (i : Nat) (v : Value) : List (Nat × Value) := (i, v) :: lv.filter (fun q => !(q.1 == i) && !(q.1 + 1 == i && q.2.category == 2))
theorem g_istore_n (C : vC K cc own nL rm) {k : Fin 4} {x : Int32} (hd : decode cc pc = .ok (.istore_n k, 1)) (hn : (k : Nat) < nL) {lv' : List (Nat × Value)} (ps : List Nat) (hl : lv_pick (lvst lv k (.int x)) ps = lv') (kk : V K cells slots P A g lv' (pc + 1) st) : V K cells slots P A g lv pc (.int x :: st) :=
  fun H locs ls a b c d e => lv_istore_n C.ex C.co hd rfl e (by rw [C.nn]; exact hn) rfl (fun ls' hl' => kk H locs ls' a b c d (lv_sub hl' ps hl))
theorem g_istore (C : vC K cc own nL rm) {i : Nat} {x : Int32} (hd : decode cc pc = .ok (.istore i, 2)) (hn : i < nL) {lv' : List (Nat × Value)} (ps : List Nat) (hl : lv_pick (lvst lv i (.int x)) ps = lv') (kk : V K cells slots P A g lv' (pc + 2) st) : V K cells slots P A g lv pc (.int x :: st) :=
  fun H locs ls a b c d e => lv_istore C.ex C.co hd e (by rw [C.nn]; exact hn) rfl (fun ls' hl' => kk H locs ls' a b c d (lv_sub hl' ps hl))
theorem g_astore_n (C : vC K cc own nL rm) {k : Fin 4} {x : Nat} (hd : decode cc pc = .ok (.astore_n k, 1)) (hn : (k : Nat) < nL) {lv' : List (Nat × Value)} (ps : List Nat) (hl : lv_pick (lvst lv k (.ref x)) ps = lv') (kk : V K cells slots P A g lv' (pc + 1) st) : V K cells slots P A g lv pc (.ref x :: st) :=
  fun H locs ls a b c d e => lv_astore_n C.ex C.co hd rfl e (by rw [C.nn]; exact hn) rfl (fun ls' hl' => kk H locs ls' a b c d (lv_sub hl' ps hl))
theorem g_astore (C : vC K cc own nL rm) {i : Nat} {x : Nat} (hd : decode cc pc = .ok (.astore i, 2)) (hn : i < nL) {lv' : List (Nat × Value)} (ps : List Nat) (hl : lv_pick (lvst lv i (.ref x)) ps = lv') (kk : V K cells slots P A g lv' (pc + 2) st) : V K cells slots P A g lv pc (.ref x :: st) :=
  fun H locs ls a b c d e => lv_astore C.ex C.co hd e (by rw [C.nn]; exact hn) rfl (fun ls' hl' => kk H locs ls' a b c d (lv_sub hl' ps hl))
theorem g_astoreN (C : vC K cc own nL rm) {i : Nat} (hd : decode cc pc = .ok (.astore i, 2)) (hn : i < nL) {lv' : List (Nat × Value)} (ps : List Nat) (hl : lv_pick (lvst lv i .null) ps = lv') (kk : V K cells slots P A g lv' (pc + 2) st) : V K cells slots P A g lv pc (.null :: st) :=
  fun H locs ls a b c d e => lv_astoreN C.ex C.co hd e (by rw [C.nn]; exact hn) rfl (fun ls' hl' => kk H locs ls' a b c d (lv_sub hl' ps hl))
theorem g_iinc (C : vC K cc own nL rm) {i : Nat} {n : Int} {x v : Int32} (hd : decode cc pc = .ok (.iinc i n, 3)) (hn : i < nL) (j : Nat) (hk : lv[j]? = some (i, .int x)) (hv : x + Int32.ofInt n = v) {lv' : List (Nat × Value)} (ps : List Nat) (hl : lv_pick (lvst lv i (.int v)) ps = lv') (kk : V K cells slots P A g lv' (pc + 3) st) : V K cells slots P A g lv pc st :=
  fun H locs ls a b c d e => lv_iinc C.ex C.co hd e hk hv (by rw [C.nn]; exact hn) rfl (fun ls' hl' => kk H locs ls' a b c d (lv_sub hl' ps hl))
theorem g_sub (ps : List Nat) {lv' : List (Nat × Value)} (h : lv_pick lv ps = lv') (kk : V K cells slots P A g lv' pc st) : V K cells slots P A g lv pc st :=
  fun H locs ls a b c d e => kk H locs ls a b c d (lv_sub e ps h)
theorem g_iadd (C : vC K cc own nL rm) {x y z : Int32} (hd : decode cc pc = .ok (.iadd, 1)) (hz : x + y = z) (k : V K cells slots P A g lv (pc + 1) (.int z :: st)) : V K cells slots P A g lv pc (.int y :: .int x :: st) :=
  fun H locs ls a b c d e => lv_iadd C.ex C.co hd (by rw [hz]; exact k H locs ls a b c d e)
theorem g_isub (C : vC K cc own nL rm) {x y z : Int32} (hd : decode cc pc = .ok (.isub, 1)) (hz : x - y = z) (k : V K cells slots P A g lv (pc + 1) (.int z :: st)) : V K cells slots P A g lv pc (.int y :: .int x :: st) :=
  fun H locs ls a b c d e => lv_isub C.ex C.co hd (by rw [hz]; exact k H locs ls a b c d e)
theorem g_imul (C : vC K cc own nL rm) {x y z : Int32} (hd : decode cc pc = .ok (.imul, 1)) (hz : x * y = z) (k : V K cells slots P A g lv (pc + 1) (.int z :: st)) : V K cells slots P A g lv pc (.int y :: .int x :: st) :=
  fun H locs ls a b c d e => lv_imul C.ex C.co hd (by rw [hz]; exact k H locs ls a b c d e)
theorem g_iand (C : vC K cc own nL rm) {x y z : Int32} (hd : decode cc pc = .ok (.iand, 1)) (hz : x &&& y = z) (k : V K cells slots P A g lv (pc + 1) (.int z :: st)) : V K cells slots P A g lv pc (.int y :: .int x :: st) :=
  fun H locs ls a b c d e => lv_iand C.ex C.co hd (by rw [hz]; exact k H locs ls a b c d e)
theorem g_ior (C : vC K cc own nL rm) {x y z : Int32} (hd : decode cc pc = .ok (.ior, 1)) (hz : x ||| y = z) (k : V K cells slots P A g lv (pc + 1) (.int z :: st)) : V K cells slots P A g lv pc (.int y :: .int x :: st) :=
  fun H locs ls a b c d e => lv_ior C.ex C.co hd (by rw [hz]; exact k H locs ls a b c d e)
theorem g_ixor (C : vC K cc own nL rm) {x y z : Int32} (hd : decode cc pc = .ok (.ixor, 1)) (hz : x ^^^ y = z) (k : V K cells slots P A g lv (pc + 1) (.int z :: st)) : V K cells slots P A g lv pc (.int y :: .int x :: st) :=
  fun H locs ls a b c d e => lv_ixor C.ex C.co hd (by rw [hz]; exact k H locs ls a b c d e)
theorem g_ishl (C : vC K cc own nL rm) {x y z : Int32} (hd : decode cc pc = .ok (.ishl, 1)) (hz : x <<< (y &&& 31) = z) (k : V K cells slots P A g lv (pc + 1) (.int z :: st)) : V K cells slots P A g lv pc (.int y :: .int x :: st) :=
  fun H locs ls a b c d e => lv_ishl C.ex C.co hd (by rw [hz]; exact k H locs ls a b c d e)
theorem g_ishr (C : vC K cc own nL rm) {x y z : Int32} (hd : decode cc pc = .ok (.ishr, 1)) (hz : x >>> (y &&& 31) = z) (k : V K cells slots P A g lv (pc + 1) (.int z :: st)) : V K cells slots P A g lv pc (.int y :: .int x :: st) :=
  fun H locs ls a b c d e => lv_ishr C.ex C.co hd (by rw [hz]; exact k H locs ls a b c d e)
theorem g_idiv (C : vC K cc own nL rm) {x y z : Int32} (hd : decode cc pc = .ok (.idiv, 1)) (hne : ¬ y = 0) (hz : x / y = z) (k : V K cells slots P A g lv (pc + 1) (.int z :: st)) : V K cells slots P A g lv pc (.int y :: .int x :: st) :=
  fun H locs ls a b c d e => lv_idiv C.ex C.co hd hne (by rw [hz]; exact k H locs ls a b c d e)
theorem g_irem (C : vC K cc own nL rm) {x y z : Int32} (hd : decode cc pc = .ok (.irem, 1)) (hne : ¬ y = 0) (hz : x - x / y * y = z) (k : V K cells slots P A g lv (pc + 1) (.int z :: st)) : V K cells slots P A g lv pc (.int y :: .int x :: st) :=
  fun H locs ls a b c d e => lv_irem C.ex C.co hd hne (by rw [hz]; exact k H locs ls a b c d e)
theorem g_i2l (C : vC K cc own nL rm) {x : Int32} (hd : decode cc pc = .ok (.i2l, 1)) (k : V K cells slots P A g lv (pc + 1) (.long x.toInt64 :: st)) : V K cells slots P A g lv pc (.int x :: st) :=
  fun H locs ls a b c d e => lv_i2l C.ex C.co hd rfl (k H locs ls a b c d e)
theorem g_lcmp (C : vC K cc own nL rm) {x y : Int64} (hd : decode cc pc = .ok (.lcmp, 1)) (k : V K cells slots P A g lv (pc + 1) (.int (lg_cmp x y) :: st)) : V K cells slots P A g lv pc (.long y :: .long x :: st) :=
  fun H locs ls a b c d e => W.lcmp C.ex C.co hd (k H locs ls a b c d e)
theorem g_dup (C : vC K cc own nL rm) {v : Value} (hd : decode cc pc = .ok (.dup, 1)) (hv : v.category = 1) (k : V K cells slots P A g lv (pc + 1) (v :: v :: st)) : V K cells slots P A g lv pc (v :: st) :=
  fun H locs ls a b c d e => lv_dup C.ex C.co hd hv (k H locs ls a b c d e)
theorem g_dup2 (C : vC K cc own nL rm) {v w : Value} (hd : decode cc pc = .ok (.dup2, 1)) (hv : v.category = 1) (hw : w.category = 1) (k : V K cells slots P A g lv (pc + 1) (v :: w :: v :: w :: st)) : V K cells slots P A g lv pc (v :: w :: st) :=
  fun H locs ls a b c d e => lv_dup2_11 C.ex C.co hd hv hw (k H locs ls a b c d e)
theorem g_pop (C : vC K cc own nL rm) {v : Value} (hd : decode cc pc = .ok (.pop, 1)) (hv : v.category = 1) (k : V K cells slots P A g lv (pc + 1) st) : V K cells slots P A g lv pc (v :: st) :=
  fun H locs ls a b c d e => lv_pop C.ex C.co hd hv (k H locs ls a b c d e)
theorem g_null (C : vC K cc own nL rm) (hd : decode cc pc = .ok (.aconst_null, 1)) (k : V K cells slots P A g lv (pc + 1) (.null :: st)) : V K cells slots P A g lv pc st :=
  fun H locs ls a b c d e => lv_null C.ex C.co hd (k H locs ls a b c d e)
theorem g_goto (C : vC K cc own nL rm) {off : Int} {tgt : Nat} (hd : decode cc pc = .ok (.goto off, 3)) (ht : (pc : Int) + off = (tgt : Int)) (k : V K cells slots P A g lv tgt st) : V K cells slots P A g lv pc st :=
  fun H locs ls a b c d e => lv_goto C.ex C.co hd ht (k H locs ls a b c d e)
theorem g_if_eq (C : vC K cc own nL rm) {x : Int32} {off : Int} {tgt : Nat} (hd : decode cc pc = .ok (.ifCond .eq off, 3)) (ht : (pc : Int) + off = (tgt : Int)) (kt : x = 0 → V K cells slots P A g lv tgt st) (kf : ¬ x = 0 → V K cells slots P A g lv (pc + 3) st) : V K cells slots P A g lv pc (.int x :: st) :=
  fun H locs ls a b c d e => lv_if_eq C.ex C.co hd ht (fun h => kt h H locs ls a b c d e) (fun h => kf h H locs ls a b c d e)
theorem g_if_ne (C : vC K cc own nL rm) {x : Int32} {off : Int} {tgt : Nat} (hd : decode cc pc = .ok (.ifCond .ne off, 3)) (ht : (pc : Int) + off = (tgt : Int)) (kt : ¬ x = 0 → V K cells slots P A g lv tgt st) (kf : x = 0 → V K cells slots P A g lv (pc + 3) st) : V K cells slots P A g lv pc (.int x :: st) :=
  fun H locs ls a b c d e => lv_if_ne C.ex C.co hd ht (fun h => kt h H locs ls a b c d e) (fun h => kf h H locs ls a b c d e)
theorem g_if_lt (C : vC K cc own nL rm) {x : Int32} {off : Int} {tgt : Nat} (hd : decode cc pc = .ok (.ifCond .lt off, 3)) (ht : (pc : Int) + off = (tgt : Int)) (kt : x < 0 → V K cells slots P A g lv tgt st) (kf : ¬ x < 0 → V K cells slots P A g lv (pc + 3) st) : V K cells slots P A g lv pc (.int x :: st) :=
  fun H locs ls a b c d e => lv_if_lt C.ex C.co hd ht (fun h => kt h H locs ls a b c d e) (fun h => kf h H locs ls a b c d e)
theorem g_if_ge (C : vC K cc own nL rm) {x : Int32} {off : Int} {tgt : Nat} (hd : decode cc pc = .ok (.ifCond .ge off, 3)) (ht : (pc : Int) + off = (tgt : Int)) (kt : 0 ≤ x → V K cells slots P A g lv tgt st) (kf : ¬ 0 ≤ x → V K cells slots P A g lv (pc + 3) st) : V K cells slots P A g lv pc (.int x :: st) :=
  fun H locs ls a b c d e => lv_if_ge C.ex C.co hd ht (fun h => kt h H locs ls a b c d e) (fun h => kf h H locs ls a b c d e)
theorem g_if_gt (C : vC K cc own nL rm) {x : Int32} {off : Int} {tgt : Nat} (hd : decode cc pc = .ok (.ifCond .gt off, 3)) (ht : (pc : Int) + off = (tgt : Int)) (kt : 0 < x → V K cells slots P A g lv tgt st) (kf : ¬ 0 < x → V K cells slots P A g lv (pc + 3) st) : V K cells slots P A g lv pc (.int x :: st) :=
  fun H locs ls a b c d e => lv_if_gt C.ex C.co hd ht (fun h => kt h H locs ls a b c d e) (fun h => kf h H locs ls a b c d e)
theorem g_if_le (C : vC K cc own nL rm) {x : Int32} {off : Int} {tgt : Nat} (hd : decode cc pc = .ok (.ifCond .le off, 3)) (ht : (pc : Int) + off = (tgt : Int)) (kt : x ≤ 0 → V K cells slots P A g lv tgt st) (kf : ¬ x ≤ 0 → V K cells slots P A g lv (pc + 3) st) : V K cells slots P A g lv pc (.int x :: st) :=
  fun H locs ls a b c d e => lv_if_le C.ex C.co hd ht (fun h => kt h H locs ls a b c d e) (fun h => kf h H locs ls a b c d e)
theorem g_icmp_eq (C : vC K cc own nL rm) {x y : Int32} {off : Int} {tgt : Nat} (hd : decode cc pc = .ok (.if_icmp .eq off, 3)) (ht : (pc : Int) + off = (tgt : Int)) (kt : x = y → V K cells slots P A g lv tgt st) (kf : ¬ x = y → V K cells slots P A g lv (pc + 3) st) : V K cells slots P A g lv pc (.int y :: .int x :: st) :=
  fun H locs ls a b c d e => lv_icmp_eq C.ex C.co hd ht (fun h => kt h H locs ls a b c d e) (fun h => kf h H locs ls a b c d e)
theorem g_icmp_ne (C : vC K cc own nL rm) {x y : Int32} {off : Int} {tgt : Nat} (hd : decode cc pc = .ok (.if_icmp .ne off, 3)) (ht : (pc : Int) + off = (tgt : Int)) (kt : ¬ x = y → V K cells slots P A g lv tgt st) (kf : x = y → V K cells slots P A g lv (pc + 3) st) : V K cells slots P A g lv pc (.int y :: .int x :: st) :=
  fun H locs ls a b c d e => lv_icmp_ne C.ex C.co hd ht (fun h => kt h H locs ls a b c d e) (fun h => kf h H locs ls a b c d e)
theorem g_icmp_lt (C : vC K cc own nL rm) {x y : Int32} {off : Int} {tgt : Nat} (hd : decode cc pc = .ok (.if_icmp .lt off, 3)) (ht : (pc : Int) + off = (tgt : Int)) (kt : x < y → V K cells slots P A g lv tgt st) (kf : ¬ x < y → V K cells slots P A g lv (pc + 3) st) : V K cells slots P A g lv pc (.int y :: .int x :: st) :=
  fun H locs ls a b c d e => lv_icmp_lt C.ex C.co hd ht (fun h => kt h H locs ls a b c d e) (fun h => kf h H locs ls a b c d e)
theorem g_icmp_ge (C : vC K cc own nL rm) {x y : Int32} {off : Int} {tgt : Nat} (hd : decode cc pc = .ok (.if_icmp .ge off, 3)) (ht : (pc : Int) + off = (tgt : Int)) (kt : y ≤ x → V K cells slots P A g lv tgt st) (kf : ¬ y ≤ x → V K cells slots P A g lv (pc + 3) st) : V K cells slots P A g lv pc (.int y :: .int x :: st) :=
  fun H locs ls a b c d e => lv_icmp_ge C.ex C.co hd ht (fun h => kt h H locs ls a b c d e) (fun h => kf h H locs ls a b c d e)
theorem g_icmp_gt (C : vC K cc own nL rm) {x y : Int32} {off : Int} {tgt : Nat} (hd : decode cc pc = .ok (.if_icmp .gt off, 3)) (ht : (pc : Int) + off = (tgt : Int)) (kt : y < x → V K cells slots P A g lv tgt st) (kf : ¬ y < x → V K cells slots P A g lv (pc + 3) st) : V K cells slots P A g lv pc (.int y :: .int x :: st) :=
  fun H locs ls a b c d e => lv_icmp_gt C.ex C.co hd ht (fun h => kt h H locs ls a b c d e) (fun h => kf h H locs ls a b c d e)
theorem g_icmp_le (C : vC K cc own nL rm) {x y : Int32} {off : Int} {tgt : Nat} (hd : decode cc pc = .ok (.if_icmp .le off, 3)) (ht : (pc : Int) + off = (tgt : Int)) (kt : x ≤ y → V K cells slots P A g lv tgt st) (kf : ¬ x ≤ y → V K cells slots P A g lv (pc + 3) st) : V K cells slots P A g lv pc (.int y :: .int x :: st) :=
  fun H locs ls a b c d e => lv_icmp_le C.ex C.co hd ht (fun h => kt h H locs ls a b c d e) (fun h => kf h H locs ls a b c d e)
theorem g_ifnullR (C : vC K cc own nL rm) {x : Nat} {off : Int} (hd : decode cc pc = .ok (.ifnull off, 3)) (k : V K cells slots P A g lv (pc + 3) st) : V K cells slots P A g lv pc (.ref x :: st) :=
  fun H locs ls a b c d e => lv_ifnull C.ex C.co hd (k H locs ls a b c d e)
theorem g_ifnullN (C : vC K cc own nL rm) {off : Int} {tgt : Nat} (hd : decode cc pc = .ok (.ifnull off, 3)) (ht : (pc : Int) + off = (tgt : Int)) (k : V K cells slots P A g lv tgt st) : V K cells slots P A g lv pc (.null :: st) :=
  fun H locs ls a b c d e => lv_ifnullN C.ex C.co hd ht (k H locs ls a b c d e)
theorem g_ifnonnullR (C : vC K cc own nL rm) {x : Nat} {off : Int} {tgt : Nat} (hd : decode cc pc = .ok (.ifnonnull off, 3)) (ht : (pc : Int) + off = (tgt : Int)) (k : V K cells slots P A g lv tgt st) : V K cells slots P A g lv pc (.ref x :: st) :=
  fun H locs ls a b c d e => lv_ifnonnull C.ex C.co hd ht (k H locs ls a b c d e)
theorem g_ifnonnullN (C : vC K cc own nL rm) {off : Int} (hd : decode cc pc = .ok (.ifnonnull off, 3)) (k : V K cells slots P A g lv (pc + 3) st) : V K cells slots P A g lv pc (.null :: st) :=
  fun H locs ls a b c d e => lv_ifnonnullN C.ex C.co hd (k H locs ls a b c d e)
theorem g_tswO (C : vC K cc own nL rm) {dflt lo hi : Int} {offs : Array Int} {len : Nat} {x : Int32} {tgt : Nat} (hd : decode cc pc = .ok (.tableswitch dflt lo hi offs, len)) (h : x.toInt < lo ∨ hi < x.toInt) (ht : (pc : Int) + dflt = (tgt : Int)) (k : V K cells slots P A g lv tgt st) : V K cells slots P A g lv pc (.int x :: st) :=
  fun H locs ls a b c d e => lv_tableOut C.ex C.co hd h ht (k H locs ls a b c d e)
theorem g_tswI (C : vC K cc own nL rm) {dflt lo hi : Int} {offs : Array Int} {len : Nat} {x : Int32} {off : Int} {tgt : Nat} (hd : decode cc pc = .ok (.tableswitch dflt lo hi offs, len)) (h1 : ¬ x.toInt < lo) (h2 : ¬ hi < x.toInt) (ho : offs[(x.toInt - lo).toNat]? = some off) (ht : (pc : Int) + off = (tgt : Int)) (k : V K cells slots P A g lv tgt st) : V K cells slots P A g lv pc (.int x :: st) :=
  fun H locs ls a b c d e => lv_tableIn C.ex C.co hd h1 h2 ho ht (k H locs ls a b c d e)
-- fields
theorem in_all {ci : Nat} {q : vw_C} (hc : vwCl[ci]? = some q) : ∀ w ∈ u_ws q.1 q.2.1 q.2.2, w ∈ pU := by
  match ci, hc with
  | 0, hc => cases hc; exact in_X0
  | 1, hc => cases hc; exact in_X1
  | 2, hc => cases hc; exact in_X2
  | 3, hc => cases hc; exact in_X3
  | 4, hc => cases hc; exact in_X4
  | 5, hc => cases hc; exact in_X5
  | 6, hc => cases hc; exact in_X6
  | 7, hc => cases hc; exact in_X7
  | 8, hc => cases hc; exact in_X8
  | 9, hc => cases hc; exact in_X9
  | 10, hc => cases hc; exact in_X10
  | 11, hc => cases hc; exact in_X11
  | n + 12, hc => exact absurd hc (by simp [vwCl])
theorem ty_all {ci : Nat} {q : vw_C} (hc : vwCl[ci]? = some q) : ∃ ty : Nat → FieldType, ∀ k, k < q.2.2 → parseFieldDescriptor (q.2.1 k).2.2.1 = some (ty k) := by
  match ci, hc with
  | 0, hc => cases hc; exact ⟨tyX0, tyX0_ok⟩
  | 1, hc => cases hc; exact ⟨tyX1, tyX1_ok⟩
  | 2, hc => cases hc; exact ⟨tyX2, tyX2_ok⟩
  | 3, hc => cases hc; exact ⟨tyX3, tyX3_ok⟩
  | 4, hc => cases hc; exact ⟨tyX4, tyX4_ok⟩
  | 5, hc => cases hc; exact ⟨tyX5, tyX5_ok⟩
  | 6, hc => cases hc; exact ⟨tyX6, tyX6_ok⟩
  | 7, hc => cases hc; exact ⟨tyX7, tyX7_ok⟩
  | 8, hc => cases hc; exact ⟨tyX8, tyX8_ok⟩
  | 9, hc => cases hc; exact ⟨tyX9, tyX9_ok⟩
  | 10, hc => cases hc; exact ⟨tyX10, tyX10_ok⟩
  | 11, hc => cases hc; exact ⟨tyX11, tyX11_ok⟩
  | n + 12, hc => exact absurd hc (by simp [vwCl])
theorem nm_all {ci : Nat} {q : vw_C} (hc : vwCl[ci]? = some q) : ∀ a, a < q.2.2 → ∀ b, b < q.2.2 → a ≠ b → (q.2.1 a).2.1 ≠ (q.2.1 b).2.1 := by
  match ci, hc with
  | 0, hc => cases hc; exact nmX0
  | 1, hc => cases hc; exact nmX1
  | 2, hc => cases hc; exact nmX2
  | 3, hc => cases hc; exact nmX3
  | 4, hc => cases hc; exact nmX4
  | 5, hc => cases hc; exact nmX5
  | 6, hc => cases hc; exact nmX6
  | 7, hc => cases hc; exact nmX7
  | 8, hc => cases hc; exact nmX8
  | 9, hc => cases hc; exact nmX9
  | 10, hc => cases hc; exact nmX10
  | 11, hc => cases hc; exact nmX11
  | n + 12, hc => exact absurd hc (by simp [vwCl])
theorem g_get (C : vC K cc own nL rm) {k ci j idx : Nat} {fs : List Value} {v : Value} {q : vw_C} (hg : g k = ob ci fs) (hc : vwCl[ci]? = some q) (hv : fs[j]? = some v) (hj : j < q.2.2) (hw : Cond.fieldLink own idx (q.2.1 j).1 (q.2.1 j).2.1 (q.2.1 j).2.2.1 ∈ pU) (hd : decode cc pc = .ok (.getfield idx, 3)) (kk : V K cells slots P A g lv (pc + 3) (v :: st)) : V K cells slots P A g lv pc (.ref (A k) :: st) := by
  intro H locs ls a b c d e
  obtain ⟨i, hi⟩ := p_ix (p_in a (by rw [hg]; exact p_nob hc))
  obtain ⟨C1, T1, N1⟩ := q
  exact va_get C.ex C.co C.ts (in_all hc) C.ow C.kk.1 a.1 i (by rw [p_at hi, hg]; rfl) hc j hj (C.ts _ hw) (fun _ h => h) hv hd (kk H locs ls a b c d e)
theorem g_put (C : vC K cc own nL rm) {k ci j idx : Nat} {fs : List Value} {v : Value} {q : vw_C} {ty : FieldType} (hg : g k = ob ci fs) (hc : vwCl[ci]? = some q) (hj : j < q.2.2) (hl : j < fs.length) (hw : Cond.fieldLink own idx (q.2.1 j).1 (q.2.1 j).2.1 (q.2.1 j).2.2.1 ∈ pU) (hfin : (q.2.1 j).2.2.2 = false) (hty : parseFieldDescriptor (q.2.1 j).2.2.1 = some ty) (hn : narrow ty v = v) (hfit : fits ty v = true) (hd : decode cc pc = .ok (.putfield idx, 3)) (kk : V K cells slots P A (va_up g k (ob ci (fs.set j v))) lv (pc + 3) st) : V K cells slots P A g lv pc (v :: .ref (A k) :: st) := by
  intro H locs ls a b c d e
  have hk : k ∈ P := p_in a (by rw [hg]; exact p_nob hc)
  obtain ⟨i, hi⟩ := p_ix hk
  obtain ⟨C1, T1, N1⟩ := q
  obtain ⟨ty0, hty0⟩ := ty_all hc
  refine va_put C.ex C.co C.ts (in_all hc) ty0 hty0 (nm_all hc) C.ow C.kk.1 a.1 (p_D b c) d i (fs := fs) (by rw [p_at hi, hg]; rfl) hc j hj (C.ts _ hw) (fun _ h => h) hfin hty hn hfit hl hd (fun H1 locs1 hP hD hS => ?_)
  refine kk H1 locs1 ls ⟨?_, p_out a hk _⟩ b c hS e
  have := p_up (D := kD K) (A := A) (g := g) b.1 hi (ob ci (fs.set j v))
  rw [← this]
  exact hP
theorem g_putF (C : vC K cc own nL rm) {k ci j idx : Nat} {fs : List Value} {v : Value} {q : vw_C} {ty : FieldType} (hinit : (kM K).name = "<init>") (hg : g k = ob ci fs) (hc : vwCl[ci]? = some q) (hj : j < q.2.2) (hl : j < fs.length) (hw : Cond.fieldLink own idx (q.2.1 j).1 (q.2.1 j).2.1 (q.2.1 j).2.2.1 ∈ pU) (hfin : (q.2.1 j).2.2.2 = true) (hown : (q.2.1 j).1 = own) (hty : parseFieldDescriptor (q.2.1 j).2.2.1 = some ty) (hn : narrow ty v = v) (hfit : fits ty v = true) (hd : decode cc pc = .ok (.putfield idx, 3)) (kk : V K cells slots P A (va_up g k (ob ci (fs.set j v))) lv (pc + 3) st) : V K cells slots P A g lv pc (v :: .ref (A k) :: st) := by
  intro H locs ls a b c d e
  have hk : k ∈ P := p_in a (by rw [hg]; exact p_nob hc)
  obtain ⟨i, hi⟩ := p_ix hk
  obtain ⟨C1, T1, N1⟩ := q
  obtain ⟨ty0, hty0⟩ := ty_all hc
  refine va_putF C.ex C.co C.ts (in_all hc) ty0 hty0 (nm_all hc) C.ow C.kk.1 a.1 (p_D b c) d i (fs := fs) (by rw [p_at hi, hg]; rfl) hc j hj (C.ts _ hw) (fun _ h => h) hfin hinit hown hty hn hfit hl hd (fun H1 locs1 hP hD hS => ?_)
  refine kk H1 locs1 ls ⟨?_, p_out a hk _⟩ b c hS e
  have := p_up (D := kD K) (A := A) (g := g) b.1 hi (ob ci (fs.set j v))
  rw [← this]
  exact hP
-- arrays
theorem g_iald (C : vC K cc own nL rm) {k n : Nat} {r : Nat → Int32} {i : Int32} (hg : g k = ai 0 n r) {iv : Nat} (hix : i.toNatClampNeg = iv) (hin : vp_in i n) (hd : decode cc pc = .ok (.iaload, 1)) {x : Int32} (hx : r iv = x) (kk : V K cells slots P A g lv (pc + 1) (.int x :: st)) : V K cells slots P A g lv pc (.int i :: .ref (A k) :: st) := by
  subst hix
  intro H locs ls a b c d e
  obtain ⟨ix, hi⟩ := p_ix (p_in a (by rw [hg]; exact p_nil))
  exact va_iald C.ex C.co C.kk.1 a.1 ix 0 (by rw [p_at hi, hg]; rfl) rfl hin hd (by rw [hx]; exact kk H locs ls a b c d e)
theorem g_zald (C : vC K cc own nL rm) {k n : Nat} {r : Nat → Int32} {i : Int32} (hg : g k = ai 1 n r) {iv : Nat} (hix : i.toNatClampNeg = iv) (hin : vp_in i n) (hd : decode cc pc = .ok (.baload, 1)) {x : Int32} (hx : r iv = x) (kk : V K cells slots P A g lv (pc + 1) (.int x :: st)) : V K cells slots P A g lv pc (.int i :: .ref (A k) :: st) := by
  subst hix
  intro H locs ls a b c d e
  obtain ⟨ix, hi⟩ := p_ix (p_in a (by rw [hg]; exact p_nil))
  exact va_zald C.ex C.co C.kk.1 a.1 ix 1 (by rw [p_at hi, hg]; rfl) rfl hin hd (by rw [hx]; exact kk H locs ls a b c d e)
theorem g_iast (C : vC K cc own nL rm) {k n : Nat} {r : Nat → Int32} {i x : Int32} (hg : g k = ai 0 n r) {iv : Nat} (hix : i.toNatClampNeg = iv) (hin : vp_in i n) (hd : decode cc pc = .ok (.iastore, 1)) (kk : V K cells slots P A (va_up g k (ai 0 n (upd r iv x))) lv (pc + 1) st) : V K cells slots P A g lv pc (.int x :: .int i :: .ref (A k) :: st) := by
  subst hix
  intro H locs ls a b c d e
  have hk : k ∈ P := p_in a (by rw [hg]; exact p_nil)
  obtain ⟨ix, hi⟩ := p_ix hk
  refine va_iast C.ex C.co C.kk.1 a.1 (p_D b c) d ix 0 (by rw [p_at hi, hg]; rfl) rfl hin hd (fun H1 locs1 hP hD hS => ?_)
  refine kk H1 locs1 ls ⟨?_, p_out a hk _⟩ b c hS e
  rw [← p_up (D := kD K) (A := A) (g := g) b.1 hi (ai 0 n (upd r i.toNatClampNeg x))]
  exact hP
theorem g_zast (C : vC K cc own nL rm) {k n : Nat} {r : Nat → Int32} {i x : Int32} (hg : g k = ai 1 n r) {iv : Nat} (hix : i.toNatClampNeg = iv) (hin : vp_in i n) (hd : decode cc pc = .ok (.bastore, 1)) (kk : V K cells slots P A (va_up g k (ai 1 n (upd r iv (vp_nar .boolean x)))) lv (pc + 1) st) : V K cells slots P A g lv pc (.int x :: .int i :: .ref (A k) :: st) := by
  subst hix
  intro H locs ls a b c d e
  have hk : k ∈ P := p_in a (by rw [hg]; exact p_nil)
  obtain ⟨ix, hi⟩ := p_ix hk
  refine va_zast C.ex C.co C.kk.1 a.1 (p_D b c) d ix 1 (by rw [p_at hi, hg]; rfl) rfl hin hd (fun H1 locs1 hP hD hS => ?_)
  refine kk H1 locs1 ls ⟨?_, p_out a hk _⟩ b c hS e
  rw [← p_up (D := kD K) (A := A) (g := g) b.1 hi (ai 1 n (upd r i.toNatClampNeg (vp_nar .boolean x)))]
  exact hP
theorem g_alen (C : vC K cc own nL rm) {k n : Nat} {r : Nat → Int32} (hg : g k = ai 0 n r) (hd : decode cc pc = .ok (.arraylength, 1)) (kk : V K cells slots P A g lv (pc + 1) (.int (nI n) :: st)) : V K cells slots P A g lv pc (.ref (A k) :: st) := by
  intro H locs ls a b c d e
  obtain ⟨ix, hi⟩ := p_ix (p_in a (by rw [hg]; exact p_nil))
  exact va_alen C.ex C.co C.kk.1 a.1 ix 0 (x := (n, .inl r)) (by rw [p_at hi, hg]; rfl) rfl rfl hd (kk H locs ls a b c d e)
theorem g_aldq (C : vC K cc own nL rm) {k c1 n : Nat} {r : Nat → Option Nat} {i : Int32} {E : String} (hg : g k = aq c1 n r) (ht : ∀ D : va_G, (pty D)[c1]? = some (D.1 (20 + c1), .object E)) {iv : Nat} (hix : i.toNatClampNeg = iv) (hin : vp_in i n) (hd : decode cc pc = .ok (.aaload, 1)) {x : Nat} (hx : r iv = some x) (kk : V K cells slots P A g lv (pc + 1) (.ref x :: st)) : V K cells slots P A g lv pc (.int i :: .ref (A k) :: st) := by
  subst hix
  intro H locs ls a b c d e
  obtain ⟨ix, hi⟩ := p_ix (p_in a (by rw [hg]; exact p_nil))
  exact va_aldq C.ex C.co C.kk.1 a.1 ix c1 (by rw [p_at hi, hg]; rfl) (ht _) hin hd (by rw [hx]; exact kk H locs ls a b c d e)
theorem g_astq (C : vC K cc own nL rm) {k c1 n j ci : Nat} {r : Nat → Option Nat} {fs : List Value} {i : Int32} {q : vw_C} (hg : g k = aq c1 n r) (hj : g j = ob ci fs) (hc : vwCl[ci]? = some q) (ht : ∀ D : va_G, (pty D)[c1]? = some (D.1 (20 + c1), .object q.1)) {iv : Nat} (hix : i.toNatClampNeg = iv) (hin : vp_in i n) (hd : decode cc pc = .ok (.aastore, 1)) (kk : V K cells slots P A (va_up g k (aq c1 n (va_up r iv (some (A j))))) lv (pc + 1) st) : V K cells slots P A g lv pc (.ref (A j) :: .int i :: .ref (A k) :: st) := by
  subst hix
  intro H locs ls a b c d e
  have hk : k ∈ P := p_in a (by rw [hg]; exact p_nil)
  obtain ⟨ix, hi⟩ := p_ix hk
  obtain ⟨jx, hjx⟩ := p_ix (p_in a (by rw [hj]; exact p_nob hc))
  refine va_astq C.ex C.co C.kk.1 a.1 (p_D b c) d ix c1 jx ci (r := q) (by rw [p_at hi, hg]; rfl) (ht _) (by rw [p_at hjx, hj]; rfl) hc hin hd (fun H1 locs1 hP hD hS => ?_)
  refine kk H1 locs1 ls ⟨?_, p_out a hk _⟩ b c hS e
  rw [← p_up (D := kD K) (A := A) (g := g) b.1 hi (aq c1 n (va_up r i.toNatClampNeg (some (A j))))]
  exact hP
theorem nI_i1 (i : Nat) : nI i + Int32.ofInt 1 = nI (i + 1) := nI_1 i
theorem va_up_id {α : Type} {f : Nat → α} {k : Nat} {v : α} (h : f k = v) : va_up f k v = f := by
  funext j
  by_cases hj : j = k
  · subst hj; rw [va_up_self, h]
  · rw [va_up_ne _ _ hj]
theorem nI_in0 {i n : Nat} (h : i < n) (hn : n < 2 ^ 31) : vp_in (nI i) n := vp_in_nI h hn
end VC
theorem pfd_I : parseFieldDescriptor "I" = some .int := by decide +kernel
theorem pfd_Z : parseFieldDescriptor "Z" = some .boolean := by decide +kernel
end
section
-- PART 04: contracts over the pool; returns; calls
theorem pK_warm {D : va_G} {s U : State} (hW : s.WarmedH U.vm) (h : pK D s) : pK D U := by
  refine ⟨va_K.moved hW.alike h.1, fun C hC => va_AO.moved hW.alike (h.2.1 C hC), fun w hw => ?_⟩
  have h2 := h.2.2 w hw
  simp only [pNws, List.mem_cons, List.not_mem_nil, or_false] at hw
  rcases hw with rfl | rfl | rfl | rfl | rfl <;> exact va_Nw.warmM hW h2
theorem pK_blind {D : va_G} {U : State} {g : JFrame} {mk : MethodId} {a : Array Value} (h : pK D U) : pK D (U.calling g mk a) := by
  refine ⟨va_K.moved (u := U) (U := U.calling g mk a) (Vm.Alike.refl U.vm) h.1, fun C hC => va_AO.moved (u := U) (U := U.calling g mk a) (Vm.Alike.refl U.vm) (h.2.1 C hC), fun w hw => ?_⟩
  have h2 := h.2.2 w hw
  simp only [pNws, List.mem_cons, List.not_mem_nil, or_false] at hw
  rcases hw with rfl | rfl | rfl | rfl | rfl <;> exact va_Nw.same (u := U) (U := U.calling g mk a) rfl rfl h2
abbrev pP : Type := Option Value → List Nat → (Nat → Nat) → pM → Prop
def pQ (D : va_G) (P0 : List Nat) (A0 : Nat → Nat) (sz : Nat) (post : pP) : Array Value → State → Outcome → State → Prop := fun _ st oc t =>
  ∃ (v : Option Value) (P : List Nat) (A : Nat → Nat) (g : pM), oc = .returned v ∧ post v P A g ∧ pI D P A g t.heap ∧ pN P A ∧ (∀ k ∈ P, pF P0 A0 sz (A k)) ∧ va_F (pF P0 A0 sz) st t
/-- a method's contract over the pool -/
def PX (y : MethodName) (cc : ByteArray) (nL : Nat) (ret : Option FieldType) (rm : Room) (av : List Value) (P : List Nat) (A : Nat → Nat) (g : pM) (post : pP) : Prop :=
  ∀ (l : Launch) (D : va_G) (sz : Nat), Met l y (.code y cc nL ret :: pU) rm (va_Pc av (fun U => U.heap.size = sz ∧ pI D P A g U.heap ∧ pK D U ∧ pN P A)) (pQ D P A sz post) rm.cells rm.slots (pF P A sz)
/-- ... that makes nothing new -/
def PM (y : MethodName) (cc : ByteArray) (nL : Nat) (ret : Option FieldType) (rm : Room) (av : List Value) (P : List Nat) (A : Nat → Nat) (g : pM) (post : Option Value → pM → Prop) : Prop :=
  PX y cc nL ret rm av P A g (fun v P' A' g' => P = P' ∧ A = A' ∧ post v g')
/-- what is known of the method's own end -/
def vR (K : vT) (P0 : List Nat) (A0 : Nat → Nat) (sz : Nat) (ret : Option FieldType) (post : pP) (rm : Room) (nm : String) : Prop :=
  kQ K = MQ (kb K) (pQ (kD K) P0 A0 sz post) (ka K) (ks K) rm.cells rm.slots (pF P0 A0 sz) ∧ kA K = pF P0 A0 sz ∧ kH K = (ks K).heap ∧ (kM K).sig.returnType = ret ∧ sz = (ks K).heap.size ∧ (kM K).name = nm
theorem px_intro {y : MethodName} {cc : ByteArray} {nL : Nat} {ret : Option FieldType} {rm : Room} {av : List Value} {P : List Nat} {A : Nat → Nat} {g : pM} {post : pP} (hy : plainName y.cls = true) (hav : (lg_sl av).length ≤ nL)
    (h : ∀ (K : vT) (sz : Nat), vC K cc y.cls nL rm → vR K P A sz ret post rm y.name → V K 0 0 P A g (lv_args 0 av) 0 []) : PX y cc nL ret rm av P A g post := by
  intro l D sz
  refine Met.ofW (cc := cc) (maxL := nL) (ret := ret) hy rfl ?_
  intro p e s m args below meth c s₁ B hml hv
  obtain ⟨rfl, hsz, hI, hK, hN⟩ := hv
  have hts := atoms_spec (ws := .code y cc nL ret :: pU) B.pre
  have hl := lv_entry av (n := nL) hav
  rw [lg_entry_eq]
  have hin : meth.name = y.name := (name_of_methodNamed B.named B.method).1
  exact h (p, l, e, rm, s, m, av.toArray, below, meth, c, D, pF P A sz, s.heap, nL, MQ below (pQ D P A sz post) av.toArray s rm.cells rm.slots (pF P A sz)) sz
    ⟨B.exec, B.bytes, fun w hw => hts w (List.mem_cons_of_mem _ hw), findClass_of_methodNamed B.named, hK, fun q hq => Or.inr (by rw [← hsz]; exact hq), B.notSynchronized, hml, rfl, rfl⟩
    ⟨rfl, rfl, rfl, B.returns, hsz.symm, hin⟩ s.heap [] _ hI hN (fun k hk => Or.inl ⟨k, hk, rfl⟩) va_S.rf hl
section VR
variable {K : vT} {cc : ByteArray} {own nm : String} {nL sz : Nat} {rm : Room} {cells slots : Nat} {P P0 : List Nat} {A A0 : Nat → Nat} {g : pM} {lv : List (Nat × Value)} {pc : Nat} {st rest : List Value} {ret : Option FieldType} {post : pP}
theorem vR_q (R : vR K P0 A0 sz ret post rm nm) {H : Heap} {locs : List Loc} {v : Option Value} {t : State} (hp : post v P A g) (a : pI (kD K) P A g H) (b : pN P A) (c : ∀ k ∈ P, kA K (A k)) (d : va_S (kA K) (kH K) H locs) (ht : t.heap = H) : pQ (kD K) P0 A0 sz post (ka K) (ks K) (.returned v) t := by
  refine ⟨v, P, A, g, rfl, hp, by rw [ht]; exact a, b, fun k hk => ?_, ?_⟩
  · have := c k hk
    rw [R.2.1] at this
    exact this
  · rw [R.2.1, R.2.2.1] at d
    exact d.F ht
theorem vR_l (R : vR K P0 A0 sz ret post rm nm) {H : Heap} {locs : List Loc} (d : va_S (kA K) (kH K) H locs) : ∀ q ∈ locs, pF P0 A0 sz q.base := by
  rw [R.2.1] at d
  exact d.2.2
theorem g_iret (C : vC K cc own nL rm) (R : vR K P0 A0 sz (some .int) post rm nm) {v : Int32} (hp : post (some (.int v)) P A g) (hc : cells ≤ rm.cells) (hs : slots ≤ rm.slots) (hd : decode cc pc = .ok (.ireturn, 1)) : V K cells slots P A g lv pc [.int v] := by
  intro H locs ls a b c d e
  unfold kW
  rw [R.1]
  exact W.widen hc hs (W.iret C.ex C.co R.2.2.2.1 (fun t ht hW => vR_q R hp a b c d ht) (vR_l R d) hd C.lo)
theorem g_zret (C : vC K cc own nL rm) (R : vR K P0 A0 sz (some .boolean) post rm nm) {v : Int32} (hz : v = 0 ∨ v = 1) (hp : post (some (.int v)) P A g) (hc : cells ≤ rm.cells) (hs : slots ≤ rm.slots) (hd : decode cc pc = .ok (.ireturn, 1)) : V K cells slots P A g lv pc [.int v] := by
  intro H locs ls a b c d e
  unfold kW
  rw [R.1]
  exact W.widen hc hs (W.zret C.ex C.co R.2.2.2.1 (by rcases hz with rfl | rfl <;> rfl) (fun t ht hW => vR_q R hp a b c d ht) (vR_l R d) hd C.lo)
theorem g_vret (C : vC K cc own nL rm) (R : vR K P0 A0 sz none post rm nm) (hp : post none P A g) (hc : cells ≤ rm.cells) (hs : slots ≤ rm.slots) (hd : decode cc pc = .ok (.return_, 1)) : V K cells slots P A g lv pc [] := by
  intro H locs ls a b c d e
  unfold kW
  rw [R.1]
  exact W.widen hc hs (W.vret C.ex C.co R.2.2.2.1 (fun t ht hW => vR_q R hp a b c d ht) (vR_l R d) hd C.lo)
theorem g_aret (C : vC K cc own nL rm) {o : String} (R : vR K P0 A0 sz (some (.object o)) post rm nm) {v : Value} (hv : v = .null ∨ ∃ a, v = .ref a) (hp : post (some v) P A g) (hc : cells ≤ rm.cells) (hs : slots ≤ rm.slots) (hd : decode cc pc = .ok (.areturn, 1)) : V K cells slots P A g lv pc [v] := by
  intro H locs ls a b c d e
  unfold kW
  rw [R.1]
  exact W.widen hc hs (W.aret C.ex C.co R.2.2.2.1 (Or.inl ⟨o, rfl⟩) hv (fun t ht hW => vR_q R hp a b c d ht) (vR_l R d) hd C.lo)
-- calls
def pY (y : MethodName) (cc : ByteArray) (nL : Nat) (ret : Option FieldType) : Prop := Cond.instanceMethod y ∈ pU ∧ Cond.selects y.cls y y ∈ pU ∧ Cond.initialized y.cls ∈ pU ∧ Cond.code y cc nL ret ∈ pU
theorem pU_gi {y : MethodName} {cc : ByteArray} {nL : Nat} {ret : Option FieldType} (h : Cond.code y cc nL ret ∈ pU) : GoodIn pU (.code y cc nL ret :: pU) := by
  intro w hw
  rcases List.mem_cons.mp hw with rfl | hw
  · exact ⟨h, good_of_word (pU_good _ h)⟩
  · exact ⟨hw, good_of_word (pU_good _ hw)⟩
theorem pU_gV {own : String} {idx : Nat} {y : MethodName} {cc : ByteArray} {nL : Nat} {ret : Option FieldType} {C : String} (hC : y.cls = C) (hY : pY y cc nL ret) (hl : Cond.methodLink own idx y ∈ pU) : GoodIn pU (wsV own idx C y (.code y cc nL ret :: pU)) := by
  subst hC
  intro w hw
  rcases List.mem_append.mp hw with hw | hw
  · have hm : w ∈ pU := by
      simp only [List.mem_cons, List.not_mem_nil, or_false] at hw
      rcases hw with rfl | rfl | rfl | rfl
      · exact hl
      · exact hY.1
      · exact hY.2.1
      · exact hY.2.2.1
    exact ⟨hm, good_of_word (pU_good _ hm)⟩
  · exact pU_gi hY.2.2.2 w hw
theorem pre_blind {D : va_G} {av : List Value} {sz : Nat} : FrameBlind (va_Pc av (fun U => U.heap.size = sz ∧ pI D P A g U.heap ∧ pK D U ∧ pN P A)) := by
  intro a U fr mk h
  exact ⟨h.1, h.2.1, h.2.2.1, pK_blind h.2.2.2.1, h.2.2.2.2⟩
/-- what goes on behind a call -/
theorem g_back {av : Array Value} (C : vC K cc own nL rm) {H : Heap} {locs : List Loc} {ls : Array Slot} {mc ms : Nat} {post2 : pP} {free : Addr → Prop}
    (hr : va_Run (kp K) (kl K) (ke K) (kR K) (ks K) (km K) (ka K) (kb K) (kM K) (kc K) H locs cells slots mc ms (F0 (km K) pc ls st) rest (pQ (kD K) P A H.size post2 av) free) (hfree : ∀ q, free q → pF P A H.size q)
    (a : pI (kD K) P A g H) (b : pN P A) (c : ∀ k ∈ P, kA K (A k)) (d : va_S (kA K) (kH K) H locs) (e : lv_has ls (kn K) lv)
    (kk : ∀ v P' A' g', post2 v P' A' g' → V K (cells + mc) (slots + ms) P' A' g' lv (pc + 3) (v.toList ++ rest)) : kW K H locs cells slots (F0 (km K) pc ls st) := by
  have hin : ∀ q, pF P A H.size q → kA K q := by
    intro q hq
    rcases hq with ⟨j, hj, rfl⟩ | hq
    · exact c j hj
    · exact C.fr q (Nat.le_trans d.1 hq)
  intro T hT X
  obtain ⟨v, st₀, t, T', L, h0, X', hL, e1, e2, ⟨v', P', A', g', hv, hp, hI, hN, hAk, hF⟩, stp⟩ := hr T hT X
  cases hv
  have hz := hF.1
  have hk := hF.2
  rw [h0] at hz hk
  obtain ⟨t2, a1, b1⟩ := kk v P' A' g' hp T'.heap (locs ++ L) ls (by rw [e1]; exact hI) hN (fun k hk => hin _ (hAk k hk))
    ⟨Nat.le_trans d.1 (by rw [e1]; exact hz), fun q h1 h2 => by rw [e1, hk q (Nat.lt_of_lt_of_le h1 d.1) (fun z => h2 (hin q z))]; exact d.2.1 q h1 h2, fun q hq => by
      rcases List.mem_append.mp hq with h | h
      · exact d.2.2 q h
      · exact hin _ (hfree _ (hL q h))⟩ e T' rfl X'
  exact ⟨t2, stp t2 a1, b1⟩
theorem g_callV (C : vC K cc own nL rm) {y2 : MethodName} {cc2 : ByteArray} {nL2 : Nat} {ret2 : Option FieldType} {rm2 : Room} {As : List Value} {b ci idx : Nat} {fs : List Value} {q : vw_C} {post2 : pP} (hM : PX y2 cc2 nL2 ret2 rm2 (.ref (A b) :: As) P A g post2)
    (hg : g b = ob ci fs) (hc : vwCl[ci]? = some q) (hq : y2.cls = q.1) (hY : pY y2 cc2 nL2 ret2) (hl : Cond.methodLink own idx y2 ∈ pU)
    (hn : y2.cls ≠ "java/lang/invoke/MethodHandle" ∧ y2.cls ≠ "java/lang/invoke/VarHandle" ∧ (parseMethodDescriptor y2.desc).map (fun d => d.parameters.length) = some As.length)
    (hR : rm2.frames + 1 ≤ rm.frames ∧ 8 + (nL2 + 11) + rm2.locals ≤ rm.locals) (hcs : cells + rm2.cells ≤ rm.cells ∧ slots + rm2.slots ≤ rm.slots) (hcat : (rest.map fun v => v.category).sum ≤ 8)
    (hst : st = As.reverse ++ .ref (A b) :: rest) (hd : decode cc pc = .ok (.invokevirtual idx, 3))
    (kk : ∀ v P' A' g', post2 v P' A' g' → V K (cells + rm2.cells) (slots + rm2.slots) P' A' g' lv (pc + 3) (v.toList ++ rest)) : V K cells slots P A g lv pc st := by
  intro H locs ls a b' c d e
  obtain ⟨i, hi⟩ := p_ix (p_in a (by rw [hg]; exact p_nob hc))
  refine g_back C (va_runV (As := As) (rest := rest) (b := A b) (C := q.1) ⟨C.ex, C.co, C.ml, C.ow, C.ts⟩ (hM (kl K) (kD K) H.size) (cwV As.length C.ts (pU_gV hq hY hl) rfl rfl rfl ⟨hq, hn.1, hn.2.1, hn.2.2⟩ (by rw [C.hr]; exact hR))
    ⟨pre_blind, va_recv C.kk.1 a.1 (q0 := i) hc (by rw [p_at hi, hg]; rfl), fun U hU hW => ⟨rfl, by rw [hU], by rw [hU]; exact a, pK_warm hW C.kk, b'⟩⟩ rfl rfl (e.1.trans C.nn) hst (lv_room hcat) hd (by rw [C.hr]; exact hcs)) (fun q h => h) a b' c d e kk
theorem g_callS (C : vC K cc own nL rm) {y2 : MethodName} {cc2 : ByteArray} {nL2 : Nat} {ret2 : Option FieldType} {rm2 : Room} {As : List Value} {idx : Nat} {post2 : pP} (hM : PX y2 cc2 nL2 ret2 rm2 As P A g post2)
    (hq : y2.cls = own) (hs2 : Cond.static y2 ∈ pU) (hi2 : Cond.initialized own ∈ pU) (hco : Cond.code y2 cc2 nL2 ret2 ∈ pU) (hl : Cond.methodLink own idx y2 ∈ pU)
    (hn : y2.cls ≠ "java/lang/invoke/MethodHandle" ∧ y2.cls ≠ "java/lang/invoke/VarHandle" ∧ (parseMethodDescriptor y2.desc).map (fun d => d.parameters.length) = some As.length)
    (hR : rm2.frames + 1 ≤ rm.frames ∧ 8 + (nL2 + 11) + rm2.locals ≤ rm.locals) (hcs : cells + rm2.cells ≤ rm.cells ∧ slots + rm2.slots ≤ rm.slots) (hcat : (rest.map fun v => v.category).sum ≤ 8)
    (hst : st = As.reverse ++ rest) (hd : decode cc pc = .ok (.invokestatic idx, 3))
    (kk : ∀ v P' A' g', post2 v P' A' g' → V K (cells + rm2.cells) (slots + rm2.slots) P' A' g' lv (pc + 3) (v.toList ++ rest)) : V K cells slots P A g lv pc st := by
  intro H locs ls a b' c d e
  have hG : GoodIn pU (wsS own idx y2 (.code y2 cc2 nL2 ret2 :: pU)) := by
    intro w hw
    rcases List.mem_append.mp hw with hw | hw
    · have hm : w ∈ pU := by
        simp only [List.mem_cons, List.not_mem_nil, or_false] at hw
        rcases hw with rfl | rfl | rfl
        · exact hl
        · exact hs2
        · exact hi2
      exact ⟨hm, good_of_word (pU_good _ hm)⟩
    · exact pU_gi hco w hw
  exact g_back C (va_runS (As := As) (rest := rest) ⟨C.ex, C.co, C.ml, C.ow, C.ts⟩ (hM (kl K) (kD K) H.size) (cwS As.length C.ts hG rfl rfl rfl ⟨hq, hn.1, hn.2.1, hn.2.2⟩ (by rw [C.hr]; exact hR))
    ⟨pre_blind, fun U hU hW => ⟨rfl, by rw [hU], by rw [hU]; exact a, pK_warm hW C.kk, b'⟩⟩ rfl rfl (e.1.trans C.nn) hst (lv_room hcat) hd (by rw [C.hr]; exact hcs)) (fun q h => h) a b' c d e kk
theorem g_callI (C : vC K cc own nL rm) {y2 : MethodName} {cc2 : ByteArray} {nL2 : Nat} {rm2 : Room} {As : List Value} {b idx : Nat} {post2 : pP} (hM : PX y2 cc2 nL2 none rm2 (.ref (A b) :: As) P A g post2)
    (hin : Cond.instanceMethod y2 ∈ pU) (hi2 : Cond.initialized y2.cls ∈ pU) (hco : Cond.code y2 cc2 nL2 none ∈ pU) (hl : Cond.methodLink own idx y2 ∈ pU) (hnm : y2.name = "<init>")
    (hn : y2.cls ≠ "java/lang/invoke/MethodHandle" ∧ y2.cls ≠ "java/lang/invoke/VarHandle" ∧ (parseMethodDescriptor y2.desc).map (fun d => d.parameters.length) = some As.length)
    (hR : rm2.frames + 1 ≤ rm.frames ∧ 8 + (nL2 + 11) + rm2.locals ≤ rm.locals) (hcs : cells + rm2.cells ≤ rm.cells ∧ slots + rm2.slots ≤ rm.slots) (hcat : (rest.map fun v => v.category).sum ≤ 8)
    (hst : st = As.reverse ++ .ref (A b) :: rest) (hd : decode cc pc = .ok (.invokespecial idx, 3))
    (kk : ∀ v P' A' g', post2 v P' A' g' → V K (cells + rm2.cells) (slots + rm2.slots) P' A' g' lv (pc + 3) (v.toList ++ rest)) : V K cells slots P A g lv pc st := by
  intro H locs ls a b' c d e
  exact g_back C (va_runI (As := As) (rest := rest) (b := A b) ⟨C.ex, C.co, C.ml, C.ow, C.ts⟩ (hM (kl K) (kD K) H.size) (cwI As.length C.ts (pU_gi hco) rfl rfl rfl (C.ts _ hi2) (C.ts _ hl) (C.ts _ hin) hnm ⟨hn.1, hn.2.1, hn.2.2⟩ (by rw [C.hr]; exact hR))
    ⟨pre_blind, fun U hU hW => ⟨rfl, by rw [hU], by rw [hU]; exact a, pK_warm hW C.kk, b'⟩⟩ rfl rfl (e.1.trans C.nn) hst (lv_room hcat) hd (by rw [C.hr]; exact hcs)) (fun q h => h) a b' c d e kk
theorem g_callIN (C : vC K cc own nL rm) {y2 : MethodName} {cc2 : ByteArray} {nL2 : Nat} {rm2 : Room} {As : List Value} {b idx : Nat} {host : String} {post2 : pP} (hM : PX y2 cc2 nL2 none rm2 (.ref (A b) :: As) P A g post2)
    (hin : Cond.instanceMethod y2 ∈ pU) (hi2 : Cond.initialized y2.cls ∈ pU) (hco : Cond.code y2 cc2 nL2 none ∈ pU) (hl : Cond.methodLinkNest own idx y2 host ∈ pNws) (hnm : y2.name = "<init>")
    (hn : y2.cls ≠ "java/lang/invoke/MethodHandle" ∧ y2.cls ≠ "java/lang/invoke/VarHandle" ∧ (parseMethodDescriptor y2.desc).map (fun d => d.parameters.length) = some As.length)
    (hR : rm2.frames + 1 ≤ rm.frames ∧ 8 + (nL2 + 11) + rm2.locals ≤ rm.locals) (hcs : cells + rm2.cells ≤ rm.cells ∧ slots + rm2.slots ≤ rm.slots) (hcat : (rest.map fun v => v.category).sum ≤ 8)
    (hst : st = As.reverse ++ .ref (A b) :: rest) (hd : decode cc pc = .ok (.invokespecial idx, 3))
    (kk : ∀ v P' A' g', post2 v P' A' g' → V K (cells + rm2.cells) (slots + rm2.slots) P' A' g' lv (pc + 3) (v.toList ++ rest)) : V K cells slots P A g lv pc st := by
  intro H locs ls a b' c d e
  exact g_back C (va_runIN (As := As) (rest := rest) (b := A b) (host := host) ⟨C.ex, C.co, C.ml, C.ow, C.ts⟩ (hM (kl K) (kD K) H.size) ⟨va_cnB As.length C.ts (pU_gi hco) rfl rfl rfl (C.kk.2.2 _ hl) (C.ts _ hi2) ⟨hn.1, hn.2.1, hn.2.2⟩ (by rw [C.hr]; exact hR), hnm, C.ts _ hin⟩
    ⟨pre_blind, fun U hU hW => ⟨rfl, by rw [hU], by rw [hU]; exact a, pK_warm hW C.kk, b'⟩⟩ rfl rfl (e.1.trans C.nn) hst (lv_room hcat) hd (by rw [C.hr]; exact hcs)) (fun q h => h) a b' c d e kk
theorem g_objInit (C : vC K cc own nL rm) {a0 idx : Nat} (hl : Cond.methodLink own idx Lib.objectInit ∈ pU) (hin : Cond.instanceMethod Lib.objectInit ∈ pU) (hco : Cond.code Lib.objectInit ⟨#[0xb1]⟩ 1 none ∈ pU) (hfr : 1 ≤ rm.frames) (hlo : 12 + (rest.map fun v => v.category).sum ≤ rm.locals) (hd : decode cc pc = .ok (.invokespecial idx, 3)) (kk : V K cells slots P A g lv (pc + 3) rest) : V K cells slots P A g lv pc (.ref a0 :: rest) := by
  intro H locs ls a b c d e
  exact W.objInit C.ex C.co C.ow (C.ts _ hl) (C.ts _ hin) (C.ts _ hco) rfl (e.1.trans (C.nn.trans C.ml.symm)) rfl hd (by rw [C.hr]; exact hfr) (by rw [C.hr]; show 2 * 0 + _ + 12 ≤ _; omega) (kk H locs ls a b c d e)
theorem g_mmax (C : vC K cc own nL rm) {x y z : Int32} {idx : Nat} (hl : Cond.methodLink own idx Lib.Math.max.name ∈ pU) (hs2 : Cond.static Lib.Math.max.name ∈ pU) (hi2 : Cond.initialized "java/lang/Math" ∈ pU) (hco : Cond.code Lib.Math.max.name Lib.Math.max.code 2 (some .int) ∈ pU) (hfr : 1 ≤ rm.frames) (hlo : (rest.map fun v => v.category).sum + 13 ≤ rm.locals) (hcs : cells ≤ rm.cells ∧ slots ≤ rm.slots) (hd : decode cc pc = .ok (.invokestatic idx, 3)) (hz : (if x < y then y else x) = z) (kk : V K cells slots P A g lv (pc + 3) (.int z :: rest)) : V K cells slots P A g lv pc (.int y :: .int x :: rest) := by
  intro H locs ls a b c d e
  exact va_mmax C.ex C.co (C.ml.trans (C.nn.symm.trans e.1.symm)) C.ow (C.ts _ hl) (C.ts _ hs2) (C.ts _ hi2) (C.ts _ hco) (by rw [C.hr]; exact hfr) (by rw [C.hr]; exact hlo) (by rw [C.hr]; exact hcs.1) (by rw [C.hr]; exact hcs.2) hd (by rw [hz]; exact kk H locs ls a b c d e)
theorem g_mmin (C : vC K cc own nL rm) {x y z : Int32} {idx : Nat} (hl : Cond.methodLink own idx Lib.Math.min.name ∈ pU) (hs2 : Cond.static Lib.Math.min.name ∈ pU) (hi2 : Cond.initialized "java/lang/Math" ∈ pU) (hco : Cond.code Lib.Math.min.name Lib.Math.min.code 2 (some .int) ∈ pU) (hfr : 1 ≤ rm.frames) (hlo : (rest.map fun v => v.category).sum + 13 ≤ rm.locals) (hcs : cells ≤ rm.cells ∧ slots ≤ rm.slots) (hd : decode cc pc = .ok (.invokestatic idx, 3)) (hz : (if y < x then y else x) = z) (kk : V K cells slots P A g lv (pc + 3) (.int z :: rest)) : V K cells slots P A g lv pc (.int y :: .int x :: rest) := by
  intro H locs ls a b c d e
  exact va_mmin C.ex C.co (C.ml.trans (C.nn.symm.trans e.1.symm)) C.ow (C.ts _ hl) (C.ts _ hs2) (C.ts _ hi2) (C.ts _ hco) (by rw [C.hr]; exact hfr) (by rw [C.hr]; exact hlo) (by rw [C.hr]; exact hcs.1) (by rw [C.hr]; exact hcs.2) hd (by rw [hz]; exact kk H locs ls a b c d e)
end VR
end
section
-- PART 05: the lists of numbers (NodeList)
/-- the object at a is a NodeList that holds l; its array stands at the code behind it -/
def NL (A : Nat → Nat) (g : pM) (a cap : Nat) (l : List Int32) : Prop :=
  l.length ≤ cap ∧ cap < 1000 ∧ g a = ob 4 [.ref (A (a + 1)), .int (nI l.length)] ∧ ∃ row : Nat → Int32, g (a + 1) = ai 0 cap row ∧ ∀ i, i < l.length → l[i]? = some (row i)
def nlAt (l : List Int32) (i : Int32) : Int32 := if i < 0 then -6 else (l[i.toNatClampNeg]?).getD (-6)
def nlPl (l : List Int32) (q : Int32) : Int32 := if q ∈ l then nI (l.idxOf q) else -6
def b32 (b : Bool) : Int32 := if b then 1 else 0
theorem NL.get {A : Nat → Nat} {g : pM} {a cap : Nat} {l : List Int32} (h : NL A g a cap l) : g a = ob 4 [.ref (A (a + 1)), .int (nI l.length)] := h.2.2.1
/-- a list is the same in a memory that is the same at its two cells -/
theorem NL.cong {A : Nat → Nat} {g g' : pM} {a cap : Nat} {l : List Int32} (h : NL A g a cap l) (h1 : g' a = g a) (h2 : g' (a + 1) = g (a + 1)) : NL A g' a cap l := by
  obtain ⟨p1, p2, p3, row, p4, p5⟩ := h
  exact ⟨p1, p2, h1.trans p3, row, h2.trans p4, p5⟩
theorem nlAt_neg {l : List Int32} {i : Int32} (h : i < 0) : nlAt l i = -6 := by simp [nlAt, h]
theorem nlAt_in {l : List Int32} {j : Nat} {x : Int32} (hj : j < 2 ^ 31) (h : l[j]? = some x) : nlAt l (nI j) = x := by
  simp [nlAt, nI_pos hj, nI_clamp hj, h]
theorem nlAt_out {l : List Int32} {i : Int32} (hl : l.length < 2 ^ 31) (h : nI l.length ≤ i) : nlAt l i = -6 := by
  by_cases h0 : i < 0
  · exact nlAt_neg h0
  · obtain ⟨j, hj, rfl⟩ := nI_of h0
    have := (nI_leI hl hj).mp h
    simp [nlAt, nI_clamp hj, List.getElem?_eq_none this]
theorem nlPl_hit {l : List Int32} {q : Int32} {i : Nat} (h : l[i]? = some q) (hn : ∀ j, j < i → l[j]? ≠ some q) : nlPl l q = nI i := by
  have hi : i < l.length := (List.getElem?_eq_some_iff.mp h).1
  have hm : q ∈ l := List.mem_of_getElem? h
  have h1 : l.idxOf q < l.length := List.idxOf_lt_length_of_mem hm
  have h2 : l[l.idxOf q]? = some q := by
    rw [List.getElem?_eq_getElem h1]
    simp
  have h3 : ¬ l.idxOf q < i := fun hh => hn _ hh h2
  have h4 : ¬ i < l.idxOf q := by
    intro hh
    have := List.not_of_lt_findIdx (p := (· == q)) (xs := l) (i := i) hh
    have e := (List.getElem?_eq_some_iff.mp h).2
    simp [e] at this
  have : l.idxOf q = i := by omega
  simp [nlPl, hm, this]
theorem nlPl_miss {l : List Int32} {q : Int32} (hn : ∀ j, j < l.length → l[j]? ≠ some q) : nlPl l q = -6 := by
  have : q ∉ l := by
    intro h
    obtain ⟨i, hi⟩ := List.mem_iff_getElem?.mp h
    exact hn i (List.getElem?_eq_some_iff.mp hi).1 hi
  simp [nlPl, this]
theorem nlPl_none {l : List Int32} {q : Int32} (hl : l.length < 2 ^ 31) : nlPl l q = -6 ↔ q ∉ l := by
  by_cases h : q ∈ l
  · have h1 : l.idxOf q < l.length := List.idxOf_lt_length_of_mem h
    simp only [nlPl, h, if_true, not_true, iff_false]
    intro e
    have := nI_pos (n := l.idxOf q) (by omega)
    rw [e] at this
    exact this (by decide)
  · simp [nlPl, h]
theorem nlRm {l : List Int32} {q : Int32} (hl : l.length < 2 ^ 31) : (if nlPl l q < 0 then l else l.eraseIdx (nlPl l q).toNatClampNeg) = l.erase q := by
  by_cases h : q ∈ l
  · have h1 : l.idxOf q < l.length := List.idxOf_lt_length_of_mem h
    have e : nlPl l q = nI (l.idxOf q) := by simp [nlPl, h]
    rw [e, if_neg (nI_pos (by omega)), nI_clamp (by omega)]
    exact (List.erase_eq_eraseIdx_of_idxOf rfl).symm
  · have e : nlPl l q = -6 := by simp [nlPl, h]
    rw [e, if_pos (by decide), List.erase_of_not_mem h]
/-- shifted down from s to j -/
def sh (row : Nat → Int32) (s j : Nat) : Nat → Int32 := fun k => if s ≤ k ∧ k < j then row (k + 1) else row k
theorem sh_0 (row : Nat → Int32) (s : Nat) : sh row s s = row := by
  funext k
  simp only [sh]
  rw [if_neg (by omega)]
theorem sh_s {row : Nat → Int32} {s j : Nat} (h : s ≤ j) : upd (sh row s j) j (sh row s j (j + 1)) = sh row s (j + 1) := by
  funext k
  simp only [upd, sh]
  by_cases hk : k = j
  · subst hk
    rw [if_pos rfl, if_neg (by omega), if_pos (by omega)]
  · rw [if_neg hk]
    by_cases h2 : s ≤ k ∧ k < j
    · rw [if_pos h2, if_pos (by omega)]
    · rw [if_neg h2, if_neg (by omega)]
theorem NL_erase {l : List Int32} {row : Nat → Int32} {s j : Nat} (hs : s < l.length) (hj : l.length ≤ j + 1) (hrow : ∀ i, i < l.length → l[i]? = some (row i)) : ∀ i, i < (l.eraseIdx s).length → (l.eraseIdx s)[i]? = some (sh row s j i) := by
  intro i hi
  rw [List.length_eraseIdx_of_lt hs] at hi
  rw [List.getElem?_eraseIdx]
  simp only [sh]
  by_cases h : i < s
  · rw [if_pos h, if_neg (by omega)]
    exact hrow i (by omega)
  · rw [if_neg h, if_pos (by omega)]
    exact hrow (i + 1) (by omega)
theorem NL_push {l : List Int32} {row : Nat → Int32} {q : Int32} (hrow : ∀ i, i < l.length → l[i]? = some (row i)) : ∀ i, i < (l ++ [q]).length → (l ++ [q])[i]? = some (upd row l.length q i) := by
  intro i hi
  simp only [List.length_append, List.length_singleton] at hi
  by_cases h : i < l.length
  · rw [List.getElem?_append_left h, hrow i h]
    simp [upd, Nat.ne_of_lt h]
  · have : i = l.length := by omega
    subst this
    simp [upd]
/-- the first i of l2, then row -/
def cp (l2 : List Int32) (row : Nat → Int32) (i : Nat) : Nat → Int32 := fun k => if k < i then nlAt l2 (nI k) else row k
theorem cp_s {l2 : List Int32} {row : Nat → Int32} {i : Nat} : upd (cp l2 row i) i (nlAt l2 (nI i)) = cp l2 row (i + 1) := by
  funext k
  simp only [upd, cp]
  by_cases hk : k = i
  · subst hk
    simp
  · rw [if_neg hk]
    by_cases h2 : k < i
    · rw [if_pos h2, if_pos (by omega)]
    · rw [if_neg h2, if_neg (by omega)]
theorem cp_0 {l2 : List Int32} {row : Nat → Int32} : cp l2 row 0 = row := by
  funext k
  simp [cp]
theorem NL_copy {l2 : List Int32} {row : Nat → Int32} {cap i : Nat} (hc : cap < 1000) (hi : min l2.length cap ≤ i) : ∀ k, k < (l2.take cap).length → (l2.take cap)[k]? = some (cp l2 row i k) := by
  intro k hk
  simp only [List.length_take] at hk
  have h1 : k < l2.length := by omega
  rw [List.getElem?_take_of_lt (by omega)]
  simp only [cp, if_pos (show k < i by omega)]
  rw [nlAt_in (by omega) (List.getElem?_eq_getElem h1), List.getElem?_eq_getElem h1]
theorem nI_min {a b : Nat} (ha : a < 2 ^ 31) (hb : b < 2 ^ 31) : (if nI b < nI a then nI b else nI a) = nI (min a b) := by
  by_cases h : b < a
  · rw [if_pos ((nI_ltI hb ha).mpr h), Nat.min_eq_right (by omega)]
  · rw [if_neg (fun q => h ((nI_ltI hb ha).mp q)), Nat.min_eq_left (by omega)]
theorem list_ext {l l2 : List Int32} (h1 : l.length = l2.length) (h : ∀ j, j < l.length → l[j]? = l2[j]?) : l = l2 := by
  apply List.ext_getElem?
  intro j
  by_cases hj : j < l.length
  · exact h j hj
  · rw [List.getElem?_eq_none (by omega), List.getElem?_eq_none (by omega)]
theorem i32_nlt {x y : Int32} (h : y ≤ x) : ¬ x < y := by
  rw [Int32.lt_iff_toInt_lt]
  rw [Int32.le_iff_toInt_le] at h
  omega
theorem i32_le {x y : Int32} (h : ¬ x < y) : y ≤ x := by
  rw [Int32.lt_iff_toInt_lt] at h
  rw [Int32.le_iff_toInt_le]
  omega
theorem nl_er_out {l : List Int32} {i : Int32} (h0 : ¬ i < 0) (hl : l.length < 2 ^ 31) (h : ¬ i < nI l.length) : l.eraseIdx i.toNatClampNeg = l := by
  obtain ⟨j, hj, rfl⟩ := nI_of h0
  rw [nI_clamp hj]
  exact List.eraseIdx_of_length_le ((nI_leI hl hj).mp (i32_le h))
abbrev rm_X4_at : Room := { frames := 0, cells := 0, slots := 0, locals := 0 }
theorem Y_X4_at : pY yX4_at cX4_at 2 (Option.some Jvm.ClassFile.FieldType.int) := ⟨u_463, u_464, u_6, u_465⟩
theorem N_X4_at : yX4_at.cls ≠ "java/lang/invoke/MethodHandle" ∧ yX4_at.cls ≠ "java/lang/invoke/VarHandle" ∧ (parseMethodDescriptor yX4_at.desc).map (fun d => d.parameters.length) = some 1 := by decide +kernel
set_option maxRecDepth 20000 in
set_option maxHeartbeats 4000000 in
theorem c_X4_at (A : Nat → Nat) (P : List Nat) (g : pM) (a : Nat) {cap : Nat} {l : List Int32} (i : Int32) (h : NL A g a cap l) : PM yX4_at cX4_at 2 (Option.some Jvm.ClassFile.FieldType.int) rm_X4_at [.ref (A a), .int i] P A g (fun v g' => v = some (.int (nlAt l i)) ∧ g = g') := by
  have hNL := h
  obtain ⟨hlen, hcap, ha, row, hb, hrow⟩ := h
  refine px_intro (by decide +kernel) (Nat.le_of_ble_eq_true rfl) (fun K sz C R => ?_)
  show V K 0 0 P A g [(0, .ref (A a)), (1, .int i)] 0 []
  refine g_iload_n (pc := 0) C dX4_at_0 1 rfl ?_
  refine g_if_lt (pc := 1) C dX4_at_1 (tgt := 21) (by decide) (fun c_1 => ?_) (fun c_1 => ?_)
  ·
    refine g_bipush (pc := 21) C dX4_at_21 (v := (-6)) rfl ?_
    exact g_iret (pc := 23) C R ⟨rfl, rfl, by rw [nlAt_neg c_1], rfl⟩ (by decide) (by decide) dX4_at_23
  ·
    refine g_iload_n (pc := 4) C dX4_at_4 1 rfl ?_
    refine g_aload_n (pc := 5) C dX4_at_5 0 rfl ?_
    refine g_get (pc := 6) C (j := 1) ha rfl rfl (by decide) u_94 dX4_at_6 ?_
    refine g_icmp_ge (pc := 9) C dX4_at_9 (tgt := 21) (by decide) (fun c_9 => ?_) (fun c_9 => ?_)
    ·
      refine g_bipush (pc := 21) C dX4_at_21 (v := (-6)) rfl ?_
      exact g_iret (pc := 23) C R ⟨rfl, rfl, by rw [nlAt_out (by omega) c_9], rfl⟩ (by decide) (by decide) dX4_at_23
    ·
      obtain ⟨j, hj, hij⟩ : ∃ j : Nat, j < l.length ∧ i = nI j := by rcases pk_ix i (n := l.length) (by omega) with q | q | q; exact absurd q c_1; exact absurd q c_9; exact q
      refine g_aload_n (pc := 12) C dX4_at_12 0 rfl ?_
      refine g_get (pc := 13) C (j := 0) ha rfl rfl (by decide) u_93 dX4_at_13 ?_
      refine g_iload_n (pc := 16) C dX4_at_16 1 rfl ?_
      refine g_iald (pc := 17) C hb (by rw [hij]; exact nI_clamp (by omega)) (by rw [hij]; exact nI_in0 (by omega) (by omega)) dX4_at_17 (x := row j) rfl ?_
      refine g_goto (pc := 18) C dX4_at_18 (tgt := 23) (by decide) ?_
      exact g_iret (pc := 23) C R ⟨rfl, rfl, by rw [hij, nlAt_in (by omega) (hrow j hj)], rfl⟩ (by decide) (by decide) dX4_at_23
abbrev rm_X4_placeOf : Room := { frames := 0, cells := 0, slots := 0, locals := 0 }
theorem Y_X4_placeOf : pY yX4_placeOf cX4_placeOf 3 (Option.some Jvm.ClassFile.FieldType.int) := ⟨u_441, u_442, u_6, u_443⟩
theorem N_X4_placeOf : yX4_placeOf.cls ≠ "java/lang/invoke/MethodHandle" ∧ yX4_placeOf.cls ≠ "java/lang/invoke/VarHandle" ∧ (parseMethodDescriptor yX4_placeOf.desc).map (fun d => d.parameters.length) = some 1 := by decide +kernel
set_option maxRecDepth 20000 in
set_option maxHeartbeats 4000000 in
theorem c_X4_placeOf (A : Nat → Nat) (P : List Nat) (g : pM) (a : Nat) {cap : Nat} {l : List Int32} (q : Int32) (h : NL A g a cap l) : PM yX4_placeOf cX4_placeOf 3 (Option.some Jvm.ClassFile.FieldType.int) rm_X4_placeOf [.ref (A a), .int q] P A g (fun v g' => v = some (.int (nlPl l q)) ∧ g = g') := by
  have hNL := h
  obtain ⟨hlen, hcap, ha, row, hb, hrow⟩ := h
  refine px_intro (by decide +kernel) (Nat.le_of_ble_eq_true rfl) (fun K sz C R => ?_)
  show V K 0 0 P A g [(0, .ref (A a)), (1, .int q)] 0 []
  refine g_iconst (pc := 0) C dX4_placeOf_0 (v := nI 0) rfl ?_
  refine g_istore_n (pc := 1) C dX4_placeOf_1 (by decide) (lv' := [(0, .ref (A a)), (1, .int q), (2, .int (nI 0))]) [1, 2, 0] rfl ?_
  have lp_2 : ∀ (n : Nat) (i : Nat) (hi : i ≤ l.length) (hq : ∀ j, j < i → l[j]? ≠ some q), l.length - i < n → V K 0 0 P A g [(0, .ref (A a)), (1, .int q), (2, .int (nI i))] 2 [] := by
    intro n
    induction n with
    | zero => intro i hi hq hμ; exact absurd hμ (Nat.not_lt_zero _)
    | succ n ih =>
      intro i hi hq hμ
      refine g_iload_n (pc := 2) C dX4_placeOf_2 2 rfl ?_
      refine g_aload_n (pc := 3) C dX4_placeOf_3 0 rfl ?_
      refine g_get (pc := 4) C (j := 1) ha rfl rfl (by decide) u_94 dX4_placeOf_4 ?_
      refine g_icmp_ge (pc := 7) C dX4_placeOf_7 (tgt := 28) (by decide) (fun c_7 => ?_) (fun c_7 => ?_)
      ·
        have c_7 : l.length ≤ i := (nI_leI (by omega) (by omega)).mp c_7
        refine g_bipush (pc := 28) C dX4_placeOf_28 (v := (-6)) rfl ?_
        exact g_iret (pc := 30) C R ⟨rfl, rfl, by rw [nlPl_miss (fun j hj => hq j (by omega))], rfl⟩ (by decide) (by decide) dX4_placeOf_30
      ·
        have c_7 : ¬ l.length ≤ i := fun h => c_7 ((nI_leI (by omega) (by omega)).mpr h)
        refine g_aload_n (pc := 10) C dX4_placeOf_10 0 rfl ?_
        refine g_get (pc := 11) C (j := 0) ha rfl rfl (by decide) u_93 dX4_placeOf_11 ?_
        refine g_iload_n (pc := 14) C dX4_placeOf_14 2 rfl ?_
        refine g_iald (pc := 15) C hb (nI_clamp (by omega)) (nI_in0 (n := cap) (by omega) (by omega)) dX4_placeOf_15 (x := row i) rfl ?_
        refine g_iload_n (pc := 16) C dX4_placeOf_16 1 rfl ?_
        refine g_icmp_ne (pc := 17) C dX4_placeOf_17 (tgt := 22) (by decide) (fun c_17 => ?_) (fun c_17 => ?_)
        ·
          refine g_iinc (pc := 22) C dX4_placeOf_22 (by decide) 2 rfl (v := nI (i + 1)) (nI_i1 _) (lv' := [(0, .ref (A a)), (1, .int q), (2, .int (nI (i + 1)))]) [1, 2, 0] rfl ?_
          refine g_goto (pc := 25) C dX4_placeOf_25 (tgt := 2) (by decide) ?_
          exact ih (i + 1) (by omega) (fun j hj => by rcases Nat.lt_succ_iff_lt_or_eq.mp hj with h | rfl; exact hq j h; rw [hrow j (by omega)]; intro h; exact c_17 (Option.some.inj h)) (by omega)
        ·
          refine g_iload_n (pc := 20) C dX4_placeOf_20 2 rfl ?_
          exact g_iret (pc := 21) C R ⟨rfl, rfl, by rw [nlPl_hit ((hrow i (by omega)).trans (by rw [c_17])) hq], rfl⟩ (by decide) (by decide) dX4_placeOf_21
  exact lp_2 (_ + 1) 0 (Nat.zero_le _) (fun j hj => absurd hj (Nat.not_lt_zero j)) (Nat.lt_succ_self _)
abbrev rm_X4_has : Room := { frames := 1, cells := 0, slots := 0, locals := 22 }
theorem Y_X4_has : pY yX4_has cX4_has 2 (Option.some Jvm.ClassFile.FieldType.boolean) := ⟨u_437, u_438, u_6, u_439⟩
theorem N_X4_has : yX4_has.cls ≠ "java/lang/invoke/MethodHandle" ∧ yX4_has.cls ≠ "java/lang/invoke/VarHandle" ∧ (parseMethodDescriptor yX4_has.desc).map (fun d => d.parameters.length) = some 1 := by decide +kernel
set_option maxRecDepth 20000 in
set_option maxHeartbeats 4000000 in
theorem c_X4_has (A : Nat → Nat) (P : List Nat) (g : pM) (a : Nat) {cap : Nat} {l : List Int32} (q : Int32) (h : NL A g a cap l) : PM yX4_has cX4_has 2 (Option.some Jvm.ClassFile.FieldType.boolean) rm_X4_has [.ref (A a), .int q] P A g (fun v g' => v = some (.int (b32 (decide (q ∈ l)))) ∧ g = g') := by
  have hNL := h
  obtain ⟨hlen, hcap, ha, row, hb, hrow⟩ := h
  refine px_intro (by decide +kernel) (Nat.le_of_ble_eq_true rfl) (fun K sz C R => ?_)
  show V K 0 0 P A g [(0, .ref (A a)), (1, .int q)] 0 []
  refine g_aload_n (pc := 0) C dX4_has_0 0 rfl ?_
  refine g_iload_n (pc := 1) C dX4_has_1 1 rfl ?_
  refine g_callV (pc := 2) C (As := [.int q]) (rest := []) (b := a) (c_X4_placeOf A P g a q hNL) ha rfl rfl Y_X4_placeOf u_440 N_X4_placeOf ⟨by decide, by decide⟩ ⟨by decide, by decide⟩ (Nat.le_of_ble_eq_true rfl) rfl dX4_has_2 ?_
  rintro _ _ _ _ ⟨rfl, rfl, rfl, rfl⟩
  show V K 0 0 P A g [(0, .ref (A a)), (1, .int q)] 5 [.int (nlPl l q)]
  refine g_bipush (pc := 5) C dX4_has_5 (v := (-6)) rfl ?_
  refine g_icmp_eq (pc := 7) C dX4_has_7 (tgt := 14) (by decide) (fun c_7 => ?_) (fun c_7 => ?_)
  ·
    refine g_iconst (pc := 14) C dX4_has_14 (v := nI 0) rfl ?_
    exact g_zret (pc := 15) C R (Or.inl rfl) ⟨rfl, rfl, by rw [show decide (q ∈ l) = false from decide_eq_false ((nlPl_none (by omega)).mp c_7)]; rfl, rfl⟩ (by decide) (by decide) dX4_has_15
  ·
    refine g_iconst (pc := 10) C dX4_has_10 (v := nI 1) rfl ?_
    refine g_goto (pc := 11) C dX4_has_11 (tgt := 15) (by decide) ?_
    exact g_zret (pc := 15) C R (Or.inr rfl) ⟨rfl, rfl, by rw [show decide (q ∈ l) = true from decide_eq_true (Classical.byContradiction (fun hh => c_7 ((nlPl_none (by omega)).mpr hh)))]; rfl, rfl⟩ (by decide) (by decide) dX4_has_15
abbrev rm_X4_put : Room := { frames := 0, cells := 0, slots := 0, locals := 0 }
theorem Y_X4_put : pY yX4_put cX4_put 2 (Option.none : Option Jvm.ClassFile.FieldType) := ⟨u_467, u_468, u_6, u_469⟩
theorem N_X4_put : yX4_put.cls ≠ "java/lang/invoke/MethodHandle" ∧ yX4_put.cls ≠ "java/lang/invoke/VarHandle" ∧ (parseMethodDescriptor yX4_put.desc).map (fun d => d.parameters.length) = some 1 := by decide +kernel
set_option maxRecDepth 20000 in
set_option maxHeartbeats 4000000 in
theorem c_X4_put (A : Nat → Nat) (P : List Nat) (g : pM) (a : Nat) {cap : Nat} {l : List Int32} (q : Int32) (h : NL A g a cap l) : PM yX4_put cX4_put 2 (Option.none : Option Jvm.ClassFile.FieldType) rm_X4_put [.ref (A a), .int q] P A g (fun v g' => v = none ∧ NL A g' a cap (if l.length < cap then l ++ [q] else l) ∧ ∀ k, k ≠ a → k ≠ a + 1 → g' k = g k) := by
  have hNL := h
  obtain ⟨hlen, hcap, ha, row, hb, hrow⟩ := h
  refine px_intro (by decide +kernel) (Nat.le_of_ble_eq_true rfl) (fun K sz C R => ?_)
  show V K 0 0 P A g [(0, .ref (A a)), (1, .int q)] 0 []
  refine g_aload_n (pc := 0) C dX4_put_0 0 rfl ?_
  refine g_get (pc := 1) C (j := 1) ha rfl rfl (by decide) u_94 dX4_put_1 ?_
  refine g_aload_n (pc := 4) C dX4_put_4 0 rfl ?_
  refine g_get (pc := 5) C (j := 0) ha rfl rfl (by decide) u_93 dX4_put_5 ?_
  refine g_alen (pc := 8) C hb dX4_put_8 ?_
  refine g_icmp_ge (pc := 9) C dX4_put_9 (tgt := 32) (by decide) (fun c_9 => ?_) (fun c_9 => ?_)
  ·
    have c_9 : cap ≤ l.length := (nI_leI (by omega) (by omega)).mp c_9
    have c_9 : ¬ l.length < cap := by omega
    exact g_vret (pc := 32) C R ⟨rfl, rfl, rfl, by rw [if_neg c_9]; exact hNL, fun _ _ _ => rfl⟩ (by decide) (by decide) dX4_put_32
  ·
    have c_9 : ¬ cap ≤ l.length := fun h => c_9 ((nI_leI (by omega) (by omega)).mpr h)
    have c_9 : l.length < cap := by omega
    refine g_aload_n (pc := 12) C dX4_put_12 0 rfl ?_
    refine g_get (pc := 13) C (j := 0) ha rfl rfl (by decide) u_93 dX4_put_13 ?_
    refine g_aload_n (pc := 16) C dX4_put_16 0 rfl ?_
    refine g_get (pc := 17) C (j := 1) ha rfl rfl (by decide) u_94 dX4_put_17 ?_
    refine g_iload_n (pc := 20) C dX4_put_20 1 rfl ?_
    refine g_iast (pc := 21) C hb (nI_clamp (by omega)) (nI_in0 (n := cap) (by omega) (by omega)) dX4_put_21 ?_
    obtain ⟨g_1, hg_1⟩ : ∃ y : pM, y = va_up g (a + 1) (ai 0 cap (upd row l.length q)) := ⟨_, rfl⟩
    show V K 0 0 P A (va_up g (a + 1) (ai 0 cap (upd row l.length q))) [(0, .ref (A a)), (1, .int q)] 22 []
    rw [← hg_1]
    have h_2 : g_1 a = ob 4 [.ref (A (a + 1)), .int (nI l.length)] := by rw [hg_1, va_up_ne _ _ (show a ≠ a + 1 from by omega)]; exact ha
    have h_3 : g_1 (a + 1) = ai 0 cap (upd row l.length q) := by rw [hg_1]; exact va_up_self _ _ _
    refine g_aload_n (pc := 22) C dX4_put_22 0 rfl ?_
    refine g_dup (pc := 23) C dX4_put_23 rfl ?_
    refine g_get (pc := 24) C (j := 1) h_2 rfl rfl (by decide) u_94 dX4_put_24 ?_
    refine g_iconst (pc := 27) C dX4_put_27 (v := nI 1) rfl ?_
    refine g_iadd (pc := 28) C dX4_put_28 (z := nI (l.length + 1)) (nI_add _ _) ?_
    refine g_put (pc := 29) C (j := 1) h_2 rfl (by decide) (Nat.le_of_ble_eq_true rfl) u_94 rfl pfd_I rfl rfl dX4_put_29 ?_
    obtain ⟨g_4, hg_4⟩ : ∃ y : pM, y = va_up g_1 a (ob 4 [.ref (A (a + 1)), .int (nI (l.length + 1))]) := ⟨_, rfl⟩
    show V K 0 0 P A (va_up g_1 a (ob 4 [.ref (A (a + 1)), .int (nI (l.length + 1))])) [(0, .ref (A a)), (1, .int q)] 32 []
    rw [← hg_4]
    have h_5 : g_4 a = ob 4 [.ref (A (a + 1)), .int (nI (l.length + 1))] := by rw [hg_4]; exact va_up_self _ _ _
    have h_6 : g_4 (a + 1) = ai 0 cap (upd row l.length q) := by rw [hg_4, va_up_ne _ _ (show a + 1 ≠ a from by omega)]; exact h_3
    exact g_vret (pc := 32) C R ⟨rfl, rfl, rfl, by rw [if_pos c_9]; exact ⟨by simp; omega, hcap, by rw [h_5]; simp, _, h_6, NL_push hrow⟩, fun k h1 h2 => by rw [hg_4, va_up_ne _ _ (by assumption), hg_1, va_up_ne _ _ (by assumption)]⟩ (by decide) (by decide) dX4_put_32
abbrev rm_X4_removeAt : Room := { frames := 0, cells := 0, slots := 0, locals := 0 }
theorem Y_X4_removeAt : pY yX4_removeAt cX4_removeAt 3 (Option.none : Option Jvm.ClassFile.FieldType) := ⟨u_487, u_488, u_6, u_489⟩
theorem N_X4_removeAt : yX4_removeAt.cls ≠ "java/lang/invoke/MethodHandle" ∧ yX4_removeAt.cls ≠ "java/lang/invoke/VarHandle" ∧ (parseMethodDescriptor yX4_removeAt.desc).map (fun d => d.parameters.length) = some 1 := by decide +kernel
set_option maxRecDepth 20000 in
set_option maxHeartbeats 4000000 in
theorem c_X4_removeAt (A : Nat → Nat) (P : List Nat) (g : pM) (a : Nat) {cap : Nat} {l : List Int32} (i : Int32) (h : NL A g a cap l) : PM yX4_removeAt cX4_removeAt 3 (Option.none : Option Jvm.ClassFile.FieldType) rm_X4_removeAt [.ref (A a), .int i] P A g (fun v g' => v = none ∧ NL A g' a cap (if i < 0 then l else l.eraseIdx i.toNatClampNeg) ∧ ∀ k, k ≠ a → k ≠ a + 1 → g' k = g k) := by
  have hNL := h
  obtain ⟨hlen, hcap, ha, row, hb, hrow⟩ := h
  refine px_intro (by decide +kernel) (Nat.le_of_ble_eq_true rfl) (fun K sz C R => ?_)
  show V K 0 0 P A g [(0, .ref (A a)), (1, .int i)] 0 []
  refine g_iload_n (pc := 0) C dX4_removeAt_0 1 rfl ?_
  refine g_if_lt (pc := 1) C dX4_removeAt_1 (tgt := 12) (by decide) (fun c_1 => ?_) (fun c_1 => ?_)
  ·
    exact g_vret (pc := 12) C R ⟨rfl, rfl, rfl, by rw [if_pos c_1]; exact hNL, fun _ _ _ => rfl⟩ (by decide) (by decide) dX4_removeAt_12
  ·
    refine g_iload_n (pc := 4) C dX4_removeAt_4 1 rfl ?_
    refine g_aload_n (pc := 5) C dX4_removeAt_5 0 rfl ?_
    refine g_get (pc := 6) C (j := 1) ha rfl rfl (by decide) u_94 dX4_removeAt_6 ?_
    refine g_icmp_lt (pc := 9) C dX4_removeAt_9 (tgt := 13) (by decide) (fun c_9 => ?_) (fun c_9 => ?_)
    ·
      obtain ⟨j, hj, hij⟩ : ∃ j : Nat, j < l.length ∧ i = nI j := by rcases pk_ix i (n := l.length) (by omega) with q | q | q; exact absurd q c_1; exact absurd c_9 (i32_nlt q); exact q
      refine g_iload_n (pc := 13) C dX4_removeAt_13 1 rfl ?_
      refine g_istore_n (pc := 14) C dX4_removeAt_14 (by decide) (lv' := [(0, .ref (A a)), (1, .int i), (2, .int i)]) [1, 2, 0] rfl ?_
      have lp_15 : ∀ (n : Nat) (t : Nat) (ht : j ≤ t) (ht2 : t < l.length), l.length - t < n → V K 0 0 P A (va_up g (a + 1) (ai 0 cap (sh row j t))) [(0, .ref (A a)), (1, .int i), (2, .int (nI t))] 15 [] := by
        intro n
        induction n with
        | zero => intro t ht ht2 hμ; exact absurd hμ (Nat.not_lt_zero _)
        | succ n ih =>
          intro t ht ht2 hμ
          obtain ⟨gl, hgl⟩ : ∃ y : pM, y = va_up g (a + 1) (ai 0 cap (sh row j t)) := ⟨_, rfl⟩
          rw [← hgl]
          have hla : gl a = ob 4 [.ref (A (a + 1)), .int (nI l.length)] := by rw [hgl, va_up_ne _ _ (by omega)]; exact ha
          have hlb : gl (a + 1) = ai 0 cap (sh row j t) := by rw [hgl]; exact va_up_self _ _ _
          refine g_iload_n (pc := 15) C dX4_removeAt_15 2 rfl ?_
          refine g_iconst (pc := 16) C dX4_removeAt_16 (v := nI 1) rfl ?_
          refine g_iadd (pc := 17) C dX4_removeAt_17 (z := nI (t + 1)) (nI_add _ _) ?_
          refine g_aload_n (pc := 18) C dX4_removeAt_18 0 rfl ?_
          refine g_get (pc := 19) C (j := 1) hla rfl rfl (by decide) u_94 dX4_removeAt_19 ?_
          refine g_icmp_ge (pc := 22) C dX4_removeAt_22 (tgt := 45) (by decide) (fun c_22 => ?_) (fun c_22 => ?_)
          ·
            have c_22 : l.length ≤ (t + 1) := (nI_leI (by omega) (by omega)).mp c_22
            refine g_aload_n (pc := 45) C dX4_removeAt_45 0 rfl ?_
            refine g_dup (pc := 46) C dX4_removeAt_46 rfl ?_
            refine g_get (pc := 47) C (j := 1) hla rfl rfl (by decide) u_94 dX4_removeAt_47 ?_
            refine g_iconst (pc := 50) C dX4_removeAt_50 (v := nI 1) rfl ?_
            refine g_isub (pc := 51) C dX4_removeAt_51 (z := nI (l.length - 1)) (pk_sub (by omega)) ?_
            refine g_put (pc := 52) C (j := 1) hla rfl (by decide) (Nat.le_of_ble_eq_true rfl) u_94 rfl pfd_I rfl rfl dX4_removeAt_52 ?_
            obtain ⟨g_1, hg_1⟩ : ∃ y : pM, y = va_up gl a (ob 4 [.ref (A (a + 1)), .int (nI (l.length - 1))]) := ⟨_, rfl⟩
            show V K 0 0 P A (va_up gl a (ob 4 [.ref (A (a + 1)), .int (nI (l.length - 1))])) [(0, .ref (A a)), (1, .int i), (2, .int (nI t))] 55 []
            rw [← hg_1]
            have h_2 : g_1 a = ob 4 [.ref (A (a + 1)), .int (nI (l.length - 1))] := by rw [hg_1]; exact va_up_self _ _ _
            have h_3 : g_1 (a + 1) = ai 0 cap (sh row j t) := by rw [hg_1, va_up_ne _ _ (show a + 1 ≠ a from by omega)]; exact hlb
            exact g_vret (pc := 55) C R ⟨rfl, rfl, rfl, by rw [if_neg c_1, hij, nI_clamp (by omega)]; exact ⟨by rw [List.length_eraseIdx_of_lt hj]; omega, hcap, by rw [h_2, List.length_eraseIdx_of_lt hj], _, h_3, NL_erase hj (by omega) hrow⟩, fun k h1 h2 => by rw [hg_1, va_up_ne _ _ h1, hgl, va_up_ne _ _ h2]⟩ (by decide) (by decide) dX4_removeAt_55
          ·
            have c_22 : ¬ l.length ≤ (t + 1) := fun h => c_22 ((nI_leI (by omega) (by omega)).mpr h)
            refine g_aload_n (pc := 25) C dX4_removeAt_25 0 rfl ?_
            refine g_get (pc := 26) C (j := 0) hla rfl rfl (by decide) u_93 dX4_removeAt_26 ?_
            refine g_iload_n (pc := 29) C dX4_removeAt_29 2 rfl ?_
            refine g_aload_n (pc := 30) C dX4_removeAt_30 0 rfl ?_
            refine g_get (pc := 31) C (j := 0) hla rfl rfl (by decide) u_93 dX4_removeAt_31 ?_
            refine g_iload_n (pc := 34) C dX4_removeAt_34 2 rfl ?_
            refine g_iconst (pc := 35) C dX4_removeAt_35 (v := nI 1) rfl ?_
            refine g_iadd (pc := 36) C dX4_removeAt_36 (z := nI (t + 1)) (nI_add _ _) ?_
            refine g_iald (pc := 37) C hlb (nI_clamp (by omega)) (nI_in0 (n := cap) (by omega) (by omega)) dX4_removeAt_37 (x := (sh row j t) (t + 1)) rfl ?_
            refine g_iast (pc := 38) C hlb (nI_clamp (by omega)) (nI_in0 (n := cap) (by omega) (by omega)) dX4_removeAt_38 ?_
            obtain ⟨g_4, hg_4⟩ : ∃ y : pM, y = va_up gl (a + 1) (ai 0 cap (upd (sh row j t) t ((sh row j t) (t + 1)))) := ⟨_, rfl⟩
            show V K 0 0 P A (va_up gl (a + 1) (ai 0 cap (upd (sh row j t) t ((sh row j t) (t + 1))))) [(0, .ref (A a)), (1, .int i), (2, .int (nI t))] 39 []
            rw [← hg_4]
            have h_5 : g_4 a = ob 4 [.ref (A (a + 1)), .int (nI l.length)] := by rw [hg_4, va_up_ne _ _ (show a ≠ a + 1 from by omega)]; exact hla
            have h_6 : g_4 (a + 1) = ai 0 cap (upd (sh row j t) t ((sh row j t) (t + 1))) := by rw [hg_4]; exact va_up_self _ _ _
            refine g_iinc (pc := 39) C dX4_removeAt_39 (by decide) 2 rfl (v := nI (t + 1)) (nI_i1 _) (lv' := [(0, .ref (A a)), (1, .int i), (2, .int (nI (t + 1)))]) [1, 2, 0] rfl ?_
            refine g_goto (pc := 42) C dX4_removeAt_42 (tgt := 15) (by decide) ?_
            rw [show g_4 = va_up g (a + 1) (ai 0 cap (sh row j (t + 1))) from by rw [hg_4, hgl, bx_uu, sh_s ht]]
            exact ih (t + 1) (by omega) (by omega) (by omega)
      rw [show g = va_up g (a + 1) (ai 0 cap (sh row j j)) from (va_up_id (by rw [hb, sh_0])).symm]
      rw [show V K 0 0 P A (va_up g (a + 1) (ai 0 cap (sh row j j))) [(0, .ref (A a)), (1, .int i), (2, .int i)] 15 [] = V K 0 0 P A (va_up g (a + 1) (ai 0 cap (sh row j j))) [(0, .ref (A a)), (1, .int i), (2, .int (nI j))] 15 [] from by rw [hij]]
      exact lp_15 (_ + 1) j (Nat.le_refl _) hj (Nat.lt_succ_self _)
    ·
      exact g_vret (pc := 12) C R ⟨rfl, rfl, rfl, by rw [if_neg c_1, nl_er_out c_1 (by omega) c_9]; exact hNL, fun _ _ _ => rfl⟩ (by decide) (by decide) dX4_removeAt_12
abbrev rm_X4_remove : Room := { frames := 1, cells := 0, slots := 0, locals := 22 }
theorem Y_X4_remove : pY yX4_remove cX4_remove 2 (Option.none : Option Jvm.ClassFile.FieldType) := ⟨u_599, u_600, u_6, u_601⟩
theorem N_X4_remove : yX4_remove.cls ≠ "java/lang/invoke/MethodHandle" ∧ yX4_remove.cls ≠ "java/lang/invoke/VarHandle" ∧ (parseMethodDescriptor yX4_remove.desc).map (fun d => d.parameters.length) = some 1 := by decide +kernel
set_option maxRecDepth 20000 in
set_option maxHeartbeats 4000000 in
theorem c_X4_remove (A : Nat → Nat) (P : List Nat) (g : pM) (a : Nat) {cap : Nat} {l : List Int32} (q : Int32) (h : NL A g a cap l) : PM yX4_remove cX4_remove 2 (Option.none : Option Jvm.ClassFile.FieldType) rm_X4_remove [.ref (A a), .int q] P A g (fun v g' => v = none ∧ NL A g' a cap (l.erase q) ∧ ∀ k, k ≠ a → k ≠ a + 1 → g' k = g k) := by
  have hNL := h
  obtain ⟨hlen, hcap, ha, row, hb, hrow⟩ := h
  refine px_intro (by decide +kernel) (Nat.le_of_ble_eq_true rfl) (fun K sz C R => ?_)
  show V K 0 0 P A g [(0, .ref (A a)), (1, .int q)] 0 []
  refine g_aload_n (pc := 0) C dX4_remove_0 0 rfl ?_
  refine g_aload_n (pc := 1) C dX4_remove_1 0 rfl ?_
  refine g_iload_n (pc := 2) C dX4_remove_2 1 rfl ?_
  refine g_callV (pc := 3) C (As := [.int q]) (rest := [.ref (A a)]) (b := a) (c_X4_placeOf A P g a q hNL) ha rfl rfl Y_X4_placeOf u_440 N_X4_placeOf ⟨by decide, by decide⟩ ⟨by decide, by decide⟩ (Nat.le_of_ble_eq_true rfl) rfl dX4_remove_3 ?_
  rintro _ _ _ _ ⟨rfl, rfl, rfl, rfl⟩
  show V K 0 0 P A g [(0, .ref (A a)), (1, .int q)] 6 [.int (nlPl l q), .ref (A a)]
  refine g_callV (pc := 6) C (As := [.int (nlPl l q)]) (rest := []) (b := a) (c_X4_removeAt A P g a (nlPl l q) hNL) ha rfl rfl Y_X4_removeAt u_602 N_X4_removeAt ⟨by decide, by decide⟩ ⟨by decide, by decide⟩ (Nat.le_of_ble_eq_true rfl) rfl dX4_remove_6 ?_
  rintro _ _ _ g1 ⟨rfl, rfl, rfl, h1, h2⟩
  rw [nlRm (by omega)] at h1
  show V K 0 0 P A g1 [(0, .ref (A a)), (1, .int q)] 9 []
  exact g_vret (pc := 9) C R ⟨rfl, rfl, rfl, h1, h2⟩ (by decide) (by decide) dX4_remove_9
abbrev rm_X4_clear : Room := { frames := 0, cells := 0, slots := 0, locals := 0 }
theorem Y_X4_clear : pY yX4_clear cX4_clear 1 (Option.none : Option Jvm.ClassFile.FieldType) := ⟨u_373, u_374, u_6, u_375⟩
theorem N_X4_clear : yX4_clear.cls ≠ "java/lang/invoke/MethodHandle" ∧ yX4_clear.cls ≠ "java/lang/invoke/VarHandle" ∧ (parseMethodDescriptor yX4_clear.desc).map (fun d => d.parameters.length) = some 0 := by decide +kernel
set_option maxRecDepth 20000 in
set_option maxHeartbeats 4000000 in
theorem c_X4_clear (A : Nat → Nat) (P : List Nat) (g : pM) (a : Nat) {cap : Nat} {l : List Int32} (h : NL A g a cap l) : PM yX4_clear cX4_clear 1 (Option.none : Option Jvm.ClassFile.FieldType) rm_X4_clear [.ref (A a)] P A g (fun v g' => v = none ∧ NL A g' a cap ([]) ∧ ∀ k, k ≠ a → k ≠ a + 1 → g' k = g k) := by
  have hNL := h
  obtain ⟨hlen, hcap, ha, row, hb, hrow⟩ := h
  refine px_intro (by decide +kernel) (Nat.le_of_ble_eq_true rfl) (fun K sz C R => ?_)
  show V K 0 0 P A g [(0, .ref (A a))] 0 []
  refine g_aload_n (pc := 0) C dX4_clear_0 0 rfl ?_
  refine g_iconst (pc := 1) C dX4_clear_1 (v := nI 0) rfl ?_
  refine g_put (pc := 2) C (j := 1) ha rfl (by decide) (Nat.le_of_ble_eq_true rfl) u_94 rfl pfd_I rfl rfl dX4_clear_2 ?_
  obtain ⟨g_1, hg_1⟩ : ∃ y : pM, y = va_up g a (ob 4 [.ref (A (a + 1)), .int (nI 0)]) := ⟨_, rfl⟩
  show V K 0 0 P A (va_up g a (ob 4 [.ref (A (a + 1)), .int (nI 0)])) [(0, .ref (A a))] 5 []
  rw [← hg_1]
  have h_2 : g_1 a = ob 4 [.ref (A (a + 1)), .int (nI 0)] := by rw [hg_1]; exact va_up_self _ _ _
  have h_3 : g_1 (a + 1) = ai 0 cap row := by rw [hg_1, va_up_ne _ _ (show a + 1 ≠ a from by omega)]; exact hb
  exact g_vret (pc := 5) C R ⟨rfl, rfl, rfl, ⟨Nat.zero_le _, hcap, h_2, row, h_3, fun i hi => absurd hi (Nat.not_lt_zero i)⟩, fun k h1 h2 => by rw [hg_1, va_up_ne _ _ h1]⟩ (by decide) (by decide) dX4_clear_5
abbrev rm_X4_isSameAs : Room := { frames := 1, cells := 0, slots := 0, locals := 21 }
theorem Y_X4_isSameAs : pY yX4_isSameAs cX4_isSameAs 3 (Option.some Jvm.ClassFile.FieldType.boolean) := ⟨u_843, u_844, u_6, u_845⟩
theorem N_X4_isSameAs : yX4_isSameAs.cls ≠ "java/lang/invoke/MethodHandle" ∧ yX4_isSameAs.cls ≠ "java/lang/invoke/VarHandle" ∧ (parseMethodDescriptor yX4_isSameAs.desc).map (fun d => d.parameters.length) = some 1 := by decide +kernel
set_option maxRecDepth 20000 in
set_option maxHeartbeats 4000000 in
theorem c_X4_isSameAs (A : Nat → Nat) (P : List Nat) (g : pM) (a : Nat) {cap : Nat} {l : List Int32} (o : Nat) {cap2 : Nat} {l2 : List Int32} (h : NL A g a cap l) (hb2 : NL A g o cap2 l2) : PM yX4_isSameAs cX4_isSameAs 3 (Option.some Jvm.ClassFile.FieldType.boolean) rm_X4_isSameAs [.ref (A a), .ref (A o)] P A g (fun v g' => v = some (.int (b32 (decide (l = l2)))) ∧ g = g') := by
  have hNL := h
  obtain ⟨hlen, hcap, ha, row, hb, hrow⟩ := h
  have hNL2 := hb2
  obtain ⟨hlen2, hcap2, ha2, row2, hb2, hrow2⟩ := hb2
  refine px_intro (by decide +kernel) (Nat.le_of_ble_eq_true rfl) (fun K sz C R => ?_)
  show V K 0 0 P A g [(0, .ref (A a)), (1, .ref (A o))] 0 []
  refine g_aload_n (pc := 0) C dX4_isSameAs_0 0 rfl ?_
  refine g_get (pc := 1) C (j := 1) ha rfl rfl (by decide) u_94 dX4_isSameAs_1 ?_
  refine g_aload_n (pc := 4) C dX4_isSameAs_4 1 rfl ?_
  refine g_get (pc := 5) C (j := 1) ha2 rfl rfl (by decide) u_94 dX4_isSameAs_5 ?_
  refine g_icmp_eq (pc := 8) C dX4_isSameAs_8 (tgt := 13) (by decide) (fun c_8 => ?_) (fun c_8 => ?_)
  ·
    have c_8 : l.length = l2.length := (nI_eq (by omega) (by omega)).mp c_8
    refine g_iconst (pc := 13) C dX4_isSameAs_13 (v := nI 0) rfl ?_
    refine g_istore_n (pc := 14) C dX4_isSameAs_14 (by decide) (lv' := [(0, .ref (A a)), (1, .ref (A o)), (2, .int (nI 0))]) [1, 2, 0] rfl ?_
    have lp_15 : ∀ (n : Nat) (i : Nat) (hi : i ≤ l.length) (hq : ∀ j, j < i → l[j]? = l2[j]?), l.length - i < n → V K 0 0 P A g [(0, .ref (A a)), (1, .ref (A o)), (2, .int (nI i))] 15 [] := by
      intro n
      induction n with
      | zero => intro i hi hq hμ; exact absurd hμ (Nat.not_lt_zero _)
      | succ n ih =>
        intro i hi hq hμ
        refine g_iload_n (pc := 15) C dX4_isSameAs_15 2 rfl ?_
        refine g_aload_n (pc := 16) C dX4_isSameAs_16 0 rfl ?_
        refine g_get (pc := 17) C (j := 1) ha rfl rfl (by decide) u_94 dX4_isSameAs_17 ?_
        refine g_icmp_ge (pc := 20) C dX4_isSameAs_20 (tgt := 45) (by decide) (fun c_20 => ?_) (fun c_20 => ?_)
        ·
          have c_20 : l.length ≤ i := (nI_leI (by omega) (by omega)).mp c_20
          refine g_iconst (pc := 45) C dX4_isSameAs_45 (v := nI 1) rfl ?_
          exact g_zret (pc := 46) C R (Or.inr rfl) ⟨rfl, rfl, by rw [show decide (l = l2) = true from decide_eq_true (list_ext c_8 (fun j hj => hq j (by omega)))]; rfl, rfl⟩ (by decide) (by decide) dX4_isSameAs_46
        ·
          have c_20 : ¬ l.length ≤ i := fun h => c_20 ((nI_leI (by omega) (by omega)).mpr h)
          refine g_aload_n (pc := 23) C dX4_isSameAs_23 0 rfl ?_
          refine g_get (pc := 24) C (j := 0) ha rfl rfl (by decide) u_93 dX4_isSameAs_24 ?_
          refine g_iload_n (pc := 27) C dX4_isSameAs_27 2 rfl ?_
          refine g_iald (pc := 28) C hb (nI_clamp (by omega)) (nI_in0 (n := cap) (by omega) (by omega)) dX4_isSameAs_28 (x := row i) rfl ?_
          refine g_aload_n (pc := 29) C dX4_isSameAs_29 1 rfl ?_
          refine g_iload_n (pc := 30) C dX4_isSameAs_30 2 rfl ?_
          refine g_callV (pc := 31) C (As := [.int (nI i)]) (rest := [.int (row i)]) (b := o) (c_X4_at A P g o (nI i) hNL2) ha2 rfl rfl Y_X4_at u_505 N_X4_at ⟨by decide, by decide⟩ ⟨by decide, by decide⟩ (Nat.le_of_ble_eq_true rfl) rfl dX4_isSameAs_31 ?_
          rintro _ _ _ _ ⟨rfl, rfl, rfl, rfl⟩
          show V K 0 0 P A g [(0, .ref (A a)), (1, .ref (A o)), (2, .int (nI i))] 34 [.int (nlAt l2 (nI i)), .int (row i)]
          refine g_icmp_eq (pc := 34) C dX4_isSameAs_34 (tgt := 39) (by decide) (fun c_34 => ?_) (fun c_34 => ?_)
          ·
            refine g_iinc (pc := 39) C dX4_isSameAs_39 (by decide) 2 rfl (v := nI (i + 1)) (nI_i1 _) (lv' := [(0, .ref (A a)), (1, .ref (A o)), (2, .int (nI (i + 1)))]) [1, 2, 0] rfl ?_
            refine g_goto (pc := 42) C dX4_isSameAs_42 (tgt := 15) (by decide) ?_
            exact ih (i + 1) (by omega) (fun j hj => by rcases Nat.lt_succ_iff_lt_or_eq.mp hj with h | rfl; exact hq j h; rw [hrow j (by omega), c_34, nlAt_in (by omega) (hrow2 j (by omega)), hrow2 j (by omega)]) (by omega)
          ·
            refine g_iconst (pc := 37) C dX4_isSameAs_37 (v := nI 0) rfl ?_
            exact g_zret (pc := 38) C R (Or.inl rfl) ⟨rfl, rfl, by rw [show decide (l = l2) = false from decide_eq_false (fun e => c_34 (by subst e; exact (nlAt_in (by omega) (hrow i (by omega))).symm))]; rfl, rfl⟩ (by decide) (by decide) dX4_isSameAs_38
    exact lp_15 (_ + 1) 0 (Nat.zero_le _) (fun j hj => absurd hj (Nat.not_lt_zero j)) (Nat.lt_succ_self _)
  ·
    have c_8 : ¬ l.length = l2.length := fun h => c_8 ((nI_eq (by omega) (by omega)).mpr h)
    refine g_iconst (pc := 11) C dX4_isSameAs_11 (v := nI 0) rfl ?_
    exact g_zret (pc := 12) C R (Or.inl rfl) ⟨rfl, rfl, by rw [show decide (l = l2) = false from decide_eq_false (fun e => c_8 (by rw [e]))]; rfl, rfl⟩ (by decide) (by decide) dX4_isSameAs_12
abbrev rm_X4_copyFrom : Room := { frames := 1, cells := 0, slots := 0, locals := 21 }
theorem Y_X4_copyFrom : pY yX4_copyFrom cX4_copyFrom 3 (Option.none : Option Jvm.ClassFile.FieldType) := ⟨u_499, u_500, u_6, u_501⟩
theorem N_X4_copyFrom : yX4_copyFrom.cls ≠ "java/lang/invoke/MethodHandle" ∧ yX4_copyFrom.cls ≠ "java/lang/invoke/VarHandle" ∧ (parseMethodDescriptor yX4_copyFrom.desc).map (fun d => d.parameters.length) = some 1 := by decide +kernel
set_option maxRecDepth 20000 in
set_option maxHeartbeats 4000000 in
theorem c_X4_copyFrom (A : Nat → Nat) (P : List Nat) (g : pM) (a : Nat) {cap : Nat} {l : List Int32} (o : Nat) {cap2 : Nat} {l2 : List Int32} (hx : o + 1 < a ∨ a + 1 < o) (h : NL A g a cap l) (hb2 : NL A g o cap2 l2) : PM yX4_copyFrom cX4_copyFrom 3 (Option.none : Option Jvm.ClassFile.FieldType) rm_X4_copyFrom [.ref (A a), .ref (A o)] P A g (fun v g' => v = none ∧ NL A g' a cap (l2.take cap) ∧ ∀ k, k ≠ a → k ≠ a + 1 → g' k = g k) := by
  have hNL := h
  obtain ⟨hlen, hcap, ha, row, hb, hrow⟩ := h
  have hNL2 := hb2
  obtain ⟨hlen2, hcap2, ha2, row2, hb2, hrow2⟩ := hb2
  refine px_intro (by decide +kernel) (Nat.le_of_ble_eq_true rfl) (fun K sz C R => ?_)
  show V K 0 0 P A g [(0, .ref (A a)), (1, .ref (A o))] 0 []
  refine g_aload_n (pc := 0) C dX4_copyFrom_0 0 rfl ?_
  refine g_aload_n (pc := 1) C dX4_copyFrom_1 1 rfl ?_
  refine g_get (pc := 2) C (j := 1) ha2 rfl rfl (by decide) u_94 dX4_copyFrom_2 ?_
  refine g_aload_n (pc := 5) C dX4_copyFrom_5 0 rfl ?_
  refine g_get (pc := 6) C (j := 0) ha rfl rfl (by decide) u_93 dX4_copyFrom_6 ?_
  refine g_alen (pc := 9) C hb dX4_copyFrom_9 ?_
  refine g_mmin (pc := 10) C u_502 u_503 u_7 u_504 (by decide) (Nat.le_of_ble_eq_true rfl) ⟨by decide, by decide⟩ dX4_copyFrom_10 (z := nI (min l2.length cap)) (nI_min (by omega) (by omega)) ?_
  refine g_put (pc := 13) C (j := 1) ha rfl (by decide) (Nat.le_of_ble_eq_true rfl) u_94 rfl pfd_I rfl rfl dX4_copyFrom_13 ?_
  obtain ⟨g_1, hg_1⟩ : ∃ y : pM, y = va_up g a (ob 4 [.ref (A (a + 1)), .int (nI (min l2.length cap))]) := ⟨_, rfl⟩
  show V K 0 0 P A (va_up g a (ob 4 [.ref (A (a + 1)), .int (nI (min l2.length cap))])) [(0, .ref (A a)), (1, .ref (A o))] 16 []
  rw [← hg_1]
  have h_2 : g_1 a = ob 4 [.ref (A (a + 1)), .int (nI (min l2.length cap))] := by rw [hg_1]; exact va_up_self _ _ _
  have h_3 : g_1 (a + 1) = ai 0 cap row := by rw [hg_1, va_up_ne _ _ (show a + 1 ≠ a from by omega)]; exact hb
  have h_4 : g_1 o = ob 4 [.ref (A (o + 1)), .int (nI l2.length)] := by rw [hg_1, va_up_ne _ _ (show o ≠ a from by omega)]; exact ha2
  have h_5 : g_1 (o + 1) = ai 0 cap2 row2 := by rw [hg_1, va_up_ne _ _ (show o + 1 ≠ a from by omega)]; exact hb2
  refine g_iconst (pc := 16) C dX4_copyFrom_16 (v := nI 0) rfl ?_
  refine g_istore_n (pc := 17) C dX4_copyFrom_17 (by decide) (lv' := [(0, .ref (A a)), (1, .ref (A o)), (2, .int (nI 0))]) [1, 2, 0] rfl ?_
  have lp_18 : ∀ (n : Nat) (i : Nat) (hi : i ≤ min l2.length cap), min l2.length cap - i < n → V K 0 0 P A (va_up g_1 (a + 1) (ai 0 cap (cp l2 row i))) [(0, .ref (A a)), (1, .ref (A o)), (2, .int (nI i))] 18 [] := by
    intro n
    induction n with
    | zero => intro i hi hμ; exact absurd hμ (Nat.not_lt_zero _)
    | succ n ih =>
      intro i hi hμ
      obtain ⟨gl, hgl⟩ : ∃ y : pM, y = va_up g_1 (a + 1) (ai 0 cap (cp l2 row i)) := ⟨_, rfl⟩
      rw [← hgl]
      have hla : gl a = ob 4 [.ref (A (a + 1)), .int (nI (min l2.length cap))] := by rw [hgl, va_up_ne _ _ (by omega)]; assumption
      have hlb : gl (a + 1) = ai 0 cap (cp l2 row i) := by rw [hgl]; exact va_up_self _ _ _
      have hla2 : gl o = ob 4 [.ref (A (o + 1)), .int (nI l2.length)] := by rw [hgl, va_up_ne _ _ (by omega)]; assumption
      have hlb2 : gl (o + 1) = ai 0 cap2 row2 := by rw [hgl, va_up_ne _ _ (by omega)]; assumption
      have hNLl : NL A gl o cap2 l2 := ⟨hlen2, hcap2, hla2, row2, hlb2, hrow2⟩
      refine g_iload_n (pc := 18) C dX4_copyFrom_18 2 rfl ?_
      refine g_aload_n (pc := 19) C dX4_copyFrom_19 0 rfl ?_
      refine g_get (pc := 20) C (j := 1) hla rfl rfl (by decide) u_94 dX4_copyFrom_20 ?_
      refine g_icmp_ge (pc := 23) C dX4_copyFrom_23 (tgt := 43) (by decide) (fun c_23 => ?_) (fun c_23 => ?_)
      ·
        have c_23 : (min l2.length cap) ≤ i := (nI_leI (by omega) (by omega)).mp c_23
        exact g_vret (pc := 43) C R ⟨rfl, rfl, rfl, ⟨by simp; omega, hcap, by rw [hla]; simp [Nat.min_comm], _, hlb, NL_copy hcap (by omega)⟩, fun k h1 h2 => by rw [hgl, va_up_ne _ _ h2, hg_1, va_up_ne _ _ h1]⟩ (by decide) (by decide) dX4_copyFrom_43
      ·
        have c_23 : ¬ (min l2.length cap) ≤ i := fun h => c_23 ((nI_leI (by omega) (by omega)).mpr h)
        refine g_aload_n (pc := 26) C dX4_copyFrom_26 0 rfl ?_
        refine g_get (pc := 27) C (j := 0) hla rfl rfl (by decide) u_93 dX4_copyFrom_27 ?_
        refine g_iload_n (pc := 30) C dX4_copyFrom_30 2 rfl ?_
        refine g_aload_n (pc := 31) C dX4_copyFrom_31 1 rfl ?_
        refine g_iload_n (pc := 32) C dX4_copyFrom_32 2 rfl ?_
        refine g_callV (pc := 33) C (As := [.int (nI i)]) (rest := [.int (nI i), .ref (A (a + 1))]) (b := o) (c_X4_at A P gl o (nI i) hNLl) hla2 rfl rfl Y_X4_at u_505 N_X4_at ⟨by decide, by decide⟩ ⟨by decide, by decide⟩ (Nat.le_of_ble_eq_true rfl) rfl dX4_copyFrom_33 ?_
        rintro _ _ _ _ ⟨rfl, rfl, rfl, rfl⟩
        show V K 0 0 P A gl [(0, .ref (A a)), (1, .ref (A o)), (2, .int (nI i))] 36 [.int (nlAt l2 (nI i)), .int (nI i), .ref (A (a + 1))]
        refine g_iast (pc := 36) C hlb (nI_clamp (by omega)) (nI_in0 (n := cap) (by omega) (by omega)) dX4_copyFrom_36 ?_
        obtain ⟨g_6, hg_6⟩ : ∃ y : pM, y = va_up gl (a + 1) (ai 0 cap (upd (cp l2 row i) i (nlAt l2 (nI i)))) := ⟨_, rfl⟩
        show V K 0 0 P A (va_up gl (a + 1) (ai 0 cap (upd (cp l2 row i) i (nlAt l2 (nI i))))) [(0, .ref (A a)), (1, .ref (A o)), (2, .int (nI i))] 37 []
        rw [← hg_6]
        have h_7 : g_6 a = ob 4 [.ref (A (a + 1)), .int (nI (min l2.length cap))] := by rw [hg_6, va_up_ne _ _ (show a ≠ a + 1 from by omega)]; exact hla
        have h_8 : g_6 (a + 1) = ai 0 cap (upd (cp l2 row i) i (nlAt l2 (nI i))) := by rw [hg_6]; exact va_up_self _ _ _
        have h_9 : g_6 o = ob 4 [.ref (A (o + 1)), .int (nI l2.length)] := by rw [hg_6, va_up_ne _ _ (show o ≠ a + 1 from by omega)]; exact hla2
        have h_10 : g_6 (o + 1) = ai 0 cap2 row2 := by rw [hg_6, va_up_ne _ _ (show o + 1 ≠ a + 1 from by omega)]; exact hlb2
        refine g_iinc (pc := 37) C dX4_copyFrom_37 (by decide) 2 rfl (v := nI (i + 1)) (nI_i1 _) (lv' := [(0, .ref (A a)), (1, .ref (A o)), (2, .int (nI (i + 1)))]) [1, 2, 0] rfl ?_
        refine g_goto (pc := 40) C dX4_copyFrom_40 (tgt := 18) (by decide) ?_
        rw [show g_6 = va_up g_1 (a + 1) (ai 0 cap (cp l2 row (i + 1))) from by rw [hg_6, hgl, bx_uu, cp_s]]
        exact ih (i + 1) (by omega) (by omega)
  rw [show g_1 = va_up g_1 (a + 1) (ai 0 cap (cp l2 row 0)) from (va_up_id (by rw [h_3, cp_0])).symm]
  exact lp_18 (_ + 1) 0 (Nat.zero_le _) (Nat.lt_succ_self _)
end
section
-- PART 06: the words for a state's small pieces: lists of node numbers, coins, sizes, letters, what is missed, nodes
/-- nothing changed but the codes from lo up to hi -/
def Fr (g g' : pM) (lo hi : Nat) : Prop := ∀ k, k < lo ∨ hi ≤ k → g' k = g k
theorem Fr.rf {g : pM} {lo hi : Nat} : Fr g g lo hi := fun _ _ => rfl
theorem Fr.tr {g g1 g2 : pM} {lo hi : Nat} (h : Fr g g1 lo hi) (h2 : Fr g1 g2 lo hi) : Fr g g2 lo hi := fun k hk => (h2 k hk).trans (h k hk)
theorem Fr.mo {g g' : pM} {lo hi lo2 hi2 : Nat} (h : Fr g g' lo2 hi2) (h1 : lo ≤ lo2) (h2 : hi2 ≤ hi) : Fr g g' lo hi := fun k hk => h k (by omega)
theorem Fr.up {g : pM} {k lo hi : Nat} {e : pE} (h : lo ≤ k) (h2 : k < hi) : Fr g (va_up g k e) lo hi := fun j hj => va_up_ne _ _ (by omega)
theorem Fr.at {g g' : pM} {lo hi k : Nat} {e : pE} (h : Fr g g' lo hi) (hk : k < lo ∨ hi ≤ k) (he : g k = e) : g' k = e := (h k hk).trans he
def NLN (A : Nat → Nat) (g : pM) (a cap : Nat) (l : List Nat) : Prop := NL A g a cap (l.map nI) ∧ ∀ x ∈ l, x < 16
theorem NLN.o {A : Nat → Nat} {g : pM} {a cap : Nat} {l : List Nat} (h : NLN A g a cap l) : g a = ob 4 [.ref (A (a + 1)), .int (nI l.length)] := by
  have := h.1.get
  rwa [List.length_map] at this
theorem NLN.fr {A : Nat → Nat} {g g' : pM} {a cap lo hi : Nat} {l : List Nat} (h : NLN A g a cap l) (hf : Fr g g' lo hi) (hd : hi ≤ a ∨ a + 2 ≤ lo) : NLN A g' a cap l :=
  ⟨h.1.cong (hf _ (by omega)) (hf _ (by omega)), h.2⟩
theorem NLN.le {A : Nat → Nat} {g : pM} {a cap : Nat} {l : List Nat} (h : NLN A g a cap l) : l.length ≤ cap := by
  have := h.1.1
  rwa [List.length_map] at this
theorem NLN.cap {A : Nat → Nat} {g : pM} {a cap : Nat} {l : List Nat} (h : NLN A g a cap l) : cap < 1000 := h.1.2.1
theorem nI_inj {a b : Nat} (ha : a < 16) (hb : b < 16) : nI a = nI b ↔ a = b := nI_eq (by omega) (by omega)
theorem map_mem {l : List Nat} {q : Nat} (hl : ∀ x ∈ l, x < 16) (hq : q < 16) : nI q ∈ l.map nI ↔ q ∈ l := by
  simp only [List.mem_map]
  constructor
  · rintro ⟨x, hx, e⟩
    rw [nI_inj (hl x hx) hq] at e
    exact e ▸ hx
  · exact fun h => ⟨q, h, rfl⟩
theorem map_erase {l : List Nat} {q : Nat} (hl : ∀ x ∈ l, x < 16) (hq : q < 16) : (l.map nI).erase (nI q) = (l.erase q).map nI := by
  induction l with
  | nil => rfl
  | cons x l ih =>
    have hx := hl x (by simp)
    by_cases h : x = q
    · subst h
      simp
    · have h2 : ¬ nI x = nI q := fun e => h ((nI_inj hx hq).mp e)
      rw [List.map_cons, List.erase_cons_tail (by simpa using h2), List.erase_cons_tail (by simpa using h), List.map_cons, ih (fun y hy => hl y (by simp [hy]))]
theorem map_eraseIdx {l : List Nat} {i : Nat} : (l.map nI).eraseIdx i = (l.eraseIdx i).map nI := by
  induction l generalizing i with
  | nil => rfl
  | cons x l ih =>
    cases i with
    | zero => rfl
    | succ i => simp [ih]
theorem map_nlAt {l : List Nat} {i : Nat} (hi : i < l.length) (hb : l.length < 1000) : nlAt (l.map nI) (nI i) = nI (l.getD i 0) := by
  rw [nlAt_in (x := nI (l.getD i 0)) (by omega)]
  simp [List.getD, hi]
theorem map_eq {l l2 : List Nat} (h : ∀ x ∈ l, x < 16) (h2 : ∀ x ∈ l2, x < 16) : l.map nI = l2.map nI ↔ l = l2 := by
  constructor
  · intro e
    apply List.ext_getElem?
    intro i
    have := congrArg (fun l => l[i]?) e
    simp only [List.getElem?_map] at this
    cases h3 : l[i]? with
    | none =>
      cases h4 : l2[i]? with
      | none => rfl
      | some y => rw [h3, h4] at this; cases this
    | some x =>
      cases h4 : l2[i]? with
      | none => rw [h3, h4] at this; cases this
      | some y =>
        rw [h3, h4] at this
        have e2 := (nI_inj (h x (List.mem_of_getElem? h3)) (h2 y (List.mem_of_getElem? h4))).mp (Option.some.inj this)
        rw [e2]
  · exact fun e => e ▸ rfl
theorem Fr.of2 {g g' : pM} {a : Nat} (h : ∀ k, k ≠ a → k ≠ a + 1 → g' k = g k) : Fr g g' a (a + 2) := fun k hk => h k (by omega) (by omega)
/-- the coins that were told -/
def CO (A : Nat → Nat) (g : pM) (a : Nat) (cs : List Nat) : Prop :=
  cs.length ≤ 64 ∧ (∀ x ∈ cs, x < 2 ^ 31) ∧ g a = ob 0 [.ref (A (a + 1)), .int (nI cs.length)] ∧ ∃ row : Nat → Int32, g (a + 1) = ai 0 64 row ∧ ∀ i, i < cs.length → row i = nI (cs.getD i 0)
theorem CO.fr {A : Nat → Nat} {g g' : pM} {a lo hi : Nat} {cs : List Nat} (h : CO A g a cs) (hf : Fr g g' lo hi) (hd : hi ≤ a ∨ a + 2 ≤ lo) : CO A g' a cs := by
  obtain ⟨h1, h2, h3, row, h4, h5⟩ := h
  exact ⟨h1, h2, hf.at (by omega) h3, row, hf.at (by omega) h4, h5⟩
abbrev Sz : Type := Nat × Nat × Nat × Nat × Nat
def SZ (g : pM) (a : Nat) (s : Sz) : Prop := g a = ob 6 [.int (nI s.1), .int (nI s.2.1), .int (nI s.2.2.1), .int (nI s.2.2.2.1), .int (nI s.2.2.2.2)]
theorem SZ.fr {g g' : pM} {a lo hi : Nat} {s : Sz} (h : SZ g a s) (hf : Fr g g' lo hi) (hd : hi ≤ a ∨ a + 1 ≤ lo) : SZ g' a s := hf.at (by omega) h
/-- a letter: sender, receiver, kind, x, y, its list -/
abbrev Lt : Type := Nat × Nat × Nat × Nat × Nat × List Nat
def LT (A : Nat → Nat) (g : pM) (a : Nat) (t : Lt) : Prop :=
  g a = ob 1 [.int (nI t.1), .int (nI t.2.1), .int (nI t.2.2.1), .int (nI t.2.2.2.1), .int (nI t.2.2.2.2.1), .ref (A (a + 1))] ∧ NLN A g (a + 1) 5 t.2.2.2.2.2
theorem LT.fr {A : Nat → Nat} {g g' : pM} {a lo hi : Nat} {t : Lt} (h : LT A g a t) (hf : Fr g g' lo hi) (hd : hi ≤ a ∨ a + 3 ≤ lo) : LT A g' a t := ⟨hf.at (by omega) h.1, h.2.fr hf (by omega)⟩
/-- what is missed of a tale: none, or its hour and who told of it -/
abbrev Mi : Type := Option (Int32 × List Nat)
def miO (m : Mi) : Int32 := match m with | none => 0 | some _ => 1
def miH (m : Mi) : Int32 := match m with | none => 0 | some q => q.1
def miL (m : Mi) : List Nat := match m with | none => [] | some q => q.2
def MS (A : Nat → Nat) (g : pM) (a : Nat) (m : Mi) : Prop := g a = ob 2 [.int (miO m), .int (miH m), .ref (A (a + 1))] ∧ NLN A g (a + 1) 5 (miL m)
theorem MS.fr {A : Nat → Nat} {g g' : pM} {a lo hi : Nat} {m : Mi} (h : MS A g a m) (hf : Fr g g' lo hi) (hd : hi ≤ a ∨ a + 3 ≤ lo) : MS A g' a m := ⟨hf.at (by omega) h.1, h.2.fr hf (by omega)⟩
/-- a node: live, active, passive, the lazy ones as bits, the one asked, those that refused as bits, letters that came, hops, what is missed -/
abbrev Nd : Type := Bool × List Nat × List Nat × Nat × Option Nat × Nat × Int32 × (Nat → Option Nat) × (Nat → Mi)
abbrev nLv (d : Nd) : Bool := d.1
abbrev nAc (d : Nd) : List Nat := d.2.1
abbrev nPa (d : Nd) : List Nat := d.2.2.1
abbrev nLz (d : Nd) : Nat := d.2.2.2.1
abbrev nAs (d : Nd) : Option Nat := d.2.2.2.2.1
abbrev nAk (d : Nd) : Nat := d.2.2.2.2.2.1
abbrev nGo (d : Nd) : Int32 := d.2.2.2.2.2.2.1
abbrev nHo (d : Nd) : Nat → Option Nat := d.2.2.2.2.2.2.2.1
abbrev nMi (d : Nd) : Nat → Mi := d.2.2.2.2.2.2.2.2
abbrev sLv (d : Nd) (v : Bool) : Nd := (v, d.2)
abbrev sAc (d : Nd) (v : List Nat) : Nd := (d.1, v, d.2.2)
abbrev sPa (d : Nd) (v : List Nat) : Nd := (d.1, d.2.1, v, d.2.2.2)
abbrev sLz (d : Nd) (v : Nat) : Nd := (d.1, d.2.1, d.2.2.1, v, d.2.2.2.2)
abbrev sAs (d : Nd) (v : Option Nat) : Nd := (d.1, d.2.1, d.2.2.1, d.2.2.2.1, v, d.2.2.2.2.2)
abbrev sAk (d : Nd) (v : Nat) : Nd := (d.1, d.2.1, d.2.2.1, d.2.2.2.1, d.2.2.2.2.1, v, d.2.2.2.2.2.2)
abbrev sGo (d : Nd) (v : Int32) : Nd := (d.1, d.2.1, d.2.2.1, d.2.2.2.1, d.2.2.2.2.1, d.2.2.2.2.2.1, v, d.2.2.2.2.2.2.2)
abbrev sHo (d : Nd) (v : Nat → Option Nat) : Nd := (d.1, d.2.1, d.2.2.1, d.2.2.2.1, d.2.2.2.2.1, d.2.2.2.2.2.1, d.2.2.2.2.2.2.1, v, d.2.2.2.2.2.2.2.2)
abbrev sMi (d : Nd) (v : Nat → Mi) : Nd := (d.1, d.2.1, d.2.2.1, d.2.2.2.1, d.2.2.2.2.1, d.2.2.2.2.2.1, d.2.2.2.2.2.2.1, d.2.2.2.2.2.2.2.1, v)
def onv (o : Option Nat) : Int32 := match o with | none => -6 | some q => nI q
def mrow (A : Nat → Nat) (a : Nat) : Nat → Option Nat := fun t => if t < 24 then some (A (a + 10 + 3 * t)) else none
abbrev ndOb (A : Nat → Nat) (a i : Nat) (d : Nd) : pE := ob 3 [.int (nI i), .int (b32 (nLv d)), .ref (A (a + 1)), .ref (A (a + 3)), .int (nI (nLz d)), .int (onv (nAs d)), .int (nI (nAk d)), .int (nGo d), .ref (A (a + 5)), .ref (A (a + 6))]
def HO (g : pM) (a : Nat) (f : Nat → Option Nat) : Prop := ∃ row : Nat → Int32, g a = ai 0 24 row ∧ ∀ t, t < 24 → row t = onv (f t)
theorem HO.fr {g g' : pM} {a lo hi : Nat} {f : Nat → Option Nat} (h : HO g a f) (hf : Fr g g' lo hi) (hd : hi ≤ a ∨ a + 1 ≤ lo) : HO g' a f := by
  obtain ⟨row, h1, h2⟩ := h
  exact ⟨row, hf.at (by omega) h1, h2⟩
def ND (A : Nat → Nat) (g : pM) (a i : Nat) (d : Nd) : Prop :=
  g a = ndOb A a i d ∧ NLN A g (a + 1) 5 (nAc d) ∧ NLN A g (a + 3) 8 (nPa d) ∧ HO g (a + 5) (nHo d) ∧ g (a + 6) = aq 3 24 (mrow A a) ∧ ∀ t, t < 24 → MS A g (a + 10 + 3 * t) (nMi d t)
theorem ND.fr {A : Nat → Nat} {g g' : pM} {a i lo hi : Nat} {d : Nd} (h : ND A g a i d) (hf : Fr g g' lo hi) (hd : hi ≤ a ∨ a + 100 ≤ lo) : ND A g' a i d :=
  ⟨hf.at (by omega) h.1, h.2.1.fr hf (by omega), h.2.2.1.fr hf (by omega), h.2.2.2.1.fr hf (by omega), hf.at (by omega) h.2.2.2.2.1, fun t ht => (h.2.2.2.2.2 t ht).fr hf (by omega)⟩
/-- the numbers in a node are small -/
def ndW (d : Nd) : Prop := nLz d < 65536 ∧ nAk d < 65536 ∧ (∀ q, nAs d = some q → q < 16) ∧ ∀ t h, nHo d t = some h → h < 2 ^ 31
-- a piece of a node is put anew
theorem ND.put {A : Nat → Nat} {g : pM} {a i : Nat} {d d' : Nd} {g' : pM} (h : ND A g a i d) (hg : g' = va_up g a (ndOb A a i d')) (h1 : nAc d' = nAc d) (h2 : nPa d' = nPa d) (h3 : nHo d' = nHo d) (h4 : nMi d' = nMi d) : ND A g' a i d' := by
  have hf : Fr g g' a (a + 1) := by rw [hg]; exact Fr.up (by omega) (by omega)
  refine ⟨by rw [hg]; exact va_up_self _ _ _, ?_, ?_, ?_, hf.at (by omega) h.2.2.2.2.1, fun t ht => ?_⟩
  · rw [h1]; exact h.2.1.fr hf (by omega)
  · rw [h2]; exact h.2.2.1.fr hf (by omega)
  · rw [h3]; exact h.2.2.2.1.fr hf (by omega)
  · rw [h4]; exact (h.2.2.2.2.2 t ht).fr hf (by omega)
theorem ND.ac {A : Nat → Nat} {g g' : pM} {a i : Nat} {d : Nd} {l : List Nat} (h : ND A g a i d) (hf : Fr g g' (a + 1) (a + 3)) (hl : NLN A g' (a + 1) 5 l) : ND A g' a i (sAc d l) :=
  ⟨hf.at (by omega) h.1, hl, h.2.2.1.fr hf (by omega), h.2.2.2.1.fr hf (by omega), hf.at (by omega) h.2.2.2.2.1, fun t ht => (h.2.2.2.2.2 t ht).fr hf (by omega)⟩
theorem ND.pa {A : Nat → Nat} {g g' : pM} {a i : Nat} {d : Nd} {l : List Nat} (h : ND A g a i d) (hf : Fr g g' (a + 3) (a + 5)) (hl : NLN A g' (a + 3) 8 l) : ND A g' a i (sPa d l) :=
  ⟨hf.at (by omega) h.1, h.2.1.fr hf (by omega), hl, h.2.2.2.1.fr hf (by omega), hf.at (by omega) h.2.2.2.2.1, fun t ht => (h.2.2.2.2.2 t ht).fr hf (by omega)⟩
theorem ND.ho {A : Nat → Nat} {g g' : pM} {a i : Nat} {d : Nd} {f : Nat → Option Nat} (h : ND A g a i d) (hf : Fr g g' (a + 5) (a + 6)) (hl : HO g' (a + 5) f) : ND A g' a i (sHo d f) :=
  ⟨hf.at (by omega) h.1, h.2.1.fr hf (by omega), h.2.2.1.fr hf (by omega), hl, hf.at (by omega) h.2.2.2.2.1, fun t ht => (h.2.2.2.2.2 t ht).fr hf (by omega)⟩
theorem ND.mi {A : Nat → Nat} {g g' : pM} {a i t0 : Nat} {d : Nd} {m : Mi} (h : ND A g a i d) (ht0 : t0 < 24) (hf : Fr g g' (a + 10 + 3 * t0) (a + 10 + 3 * t0 + 3)) (hl : MS A g' (a + 10 + 3 * t0) m) : ND A g' a i (sMi d (va_up (nMi d) t0 m)) := by
  refine ⟨hf.at (by omega) h.1, h.2.1.fr hf (by omega), h.2.2.1.fr hf (by omega), h.2.2.2.1.fr hf (by omega), hf.at (by omega) h.2.2.2.2.1, fun t ht => ?_⟩
  by_cases e : t = t0
  · subst e
    show MS A g' _ (va_up (nMi d) t m t)
    rw [va_up_self]
    exact hl
  · show MS A g' _ (va_up (nMi d) t0 m t)
    rw [va_up_ne _ _ e]
    exact (h.2.2.2.2.2 t ht).fr hf (by omega)
theorem ND.aco {A : Nat → Nat} {g : pM} {a i : Nat} {d : Nd} (h : ND A g a i d) : g (a + 1) = ob 4 [.ref (A (a + 1 + 1)), .int (nI (nAc d).length)] := h.2.1.o
theorem ND.pao {A : Nat → Nat} {g : pM} {a i : Nat} {d : Nd} (h : ND A g a i d) : g (a + 3) = ob 4 [.ref (A (a + 3 + 1)), .int (nI (nPa d).length)] := h.2.2.1.o
theorem mrow_at {A : Nat → Nat} {a t : Nat} (h : t < 24) : mrow A a t = some (A (a + 10 + 3 * t)) := by simp [mrow, h]
-- bits (fa_and, fa_or, fa_bit: begun from the kit's texts for pasting)
theorem fa_and (a b : Nat) : nI a &&& nI b = nI (a &&& b) := by
  apply Int32.toBitVec_inj.1
  show BitVec.ofNat 32 a &&& BitVec.ofNat 32 b = BitVec.ofNat 32 (a &&& b)
  apply BitVec.eq_of_getLsbD_eq
  intro i hi
  simp [hi]
theorem fa_or (a b : Nat) : nI a ||| nI b = nI (a ||| b) := by
  apply Int32.toBitVec_inj.1
  show BitVec.ofNat 32 a ||| BitVec.ofNat 32 b = BitVec.ofNat 32 (a ||| b)
  apply BitVec.eq_of_getLsbD_eq
  intro i hi
  simp [hi]
theorem fa_bit {n j : Nat} (hj : j < 31) : nI n &&& nI (2 ^ j) = 0 ↔ n.testBit j = false := by
  have h2 : (2 : Nat) ^ j < 2 ^ 31 := Nat.pow_lt_pow_right (by decide) hj
  have hle : n &&& 2 ^ j ≤ 2 ^ j := Nat.and_le_right
  have e : n &&& 2 ^ j = 0 ↔ n.testBit j = false := by
    constructor
    · intro h
      have h1 : (n &&& 2 ^ j).testBit j = false := by rw [h]; simp
      rw [Nat.testBit_and] at h1
      first | simpa using h1 | simpa [Nat.testBit_two_pow_self] using h1 | simpa [Nat.testBit_two_pow] using h1
    · intro h
      apply Nat.eq_of_testBit_eq
      intro i
      rw [Nat.testBit_and]
      by_cases hi : j = i
      · subst hi; simp [h]
      · first | (simp [Nat.testBit_two_pow, hi]; done) | (simp [Nat.testBit_two_pow_of_ne hi]; done)
  rw [fa_and]
  constructor
  · intro h
    apply e.mp
    rcases Nat.eq_zero_or_pos (n &&& 2 ^ j) with z | z
    · exact z
    · exact absurd h (nI_ne0 z (Nat.lt_of_le_of_lt hle h2))
  · intro h
    rw [e.mpr h]; exact nI_0
theorem bit_nI (m : Nat) (q : Nat) (hm : m < 65536) (hq : q < 16) : (nI m &&& nI (2 ^ q)) = 0 ↔ m.testBit q = false := fa_bit (by omega)
theorem shl_nI {q : Nat} (hq : q < 16) : nI 1 <<< (nI q &&& 31) = nI (2 ^ q) := by
  have h : ∀ q : Fin 16, nI 1 <<< (nI q.val &&& 31) = nI (2 ^ q.val) := by decide +kernel
  exact h ⟨q, hq⟩
/-- a bit out -/
def bo (m q : Nat) : Nat := m &&& (65535 ^^^ 2 ^ q)
theorem not_nI {q : Nat} (hq : q < 16) : nI (2 ^ q) ^^^ (-1) = nI (4294967295 ^^^ 2 ^ q) := by
  have h : ∀ q : Fin 16, nI (2 ^ q.val) ^^^ (-1) = nI (4294967295 ^^^ 2 ^ q.val) := by decide +kernel
  exact h ⟨q, hq⟩
theorem bo_nI {m q : Nat} (hm : m < 65536) (hq : q < 16) : nI m &&& (nI (2 ^ q) ^^^ (-1)) = nI (bo m q) := by
  rw [not_nI hq, fa_and]
  congr 1
  apply Nat.eq_of_testBit_eq
  intro i
  simp only [bo, Nat.testBit_and, Nat.testBit_xor]
  by_cases h : i < 16
  · have e1 : Nat.testBit 4294967295 i = true := by
      have : ∀ i : Fin 16, Nat.testBit 4294967295 i.val = true := by decide +kernel
      exact this ⟨i, h⟩
    have e2 : Nat.testBit 65535 i = true := by
      have : ∀ i : Fin 16, Nat.testBit 65535 i.val = true := by decide +kernel
      exact this ⟨i, h⟩
    rw [e1, e2]
  · have : m.testBit i = false := Nat.testBit_lt_two_pow (Nat.lt_of_lt_of_le hm (show 65536 ≤ 2 ^ i from Nat.le_trans (show 65536 ≤ 2 ^ 16 from Nat.le_refl _) (Nat.pow_le_pow_right (by omega) (by omega))))
    simp [this]
theorem or_nI (m q : Nat) : nI m ||| nI (2 ^ q) = nI (m ||| 2 ^ q) := fa_or m (2 ^ q)
theorem onv_none {o : Option Nat} (h : ∀ q, o = some q → q < 2 ^ 31) : onv o = -6 ↔ o = none := by
  cases o with
  | none => simp [onv]
  | some q =>
    simp only [onv, reduceCtorEq, iff_false]
    intro e
    have := nI_pos (h q rfl)
    rw [e] at this
    exact this (by decide)
theorem b32_z (b : Bool) : b32 b = 0 ∨ b32 b = 1 := by cases b <;> simp [b32]
theorem b32_n (b : Bool) : narrow .boolean (.int (b32 b)) = .int (b32 b) := by cases b <;> rfl
theorem b32_f (b : Bool) : fits .boolean (.int (b32 b)) = true := by cases b <;> rfl
theorem b32_0 (b : Bool) : b32 b = 0 ↔ b = false := by cases b <;> simp [b32]
theorem miO_n (m : Mi) : narrow .boolean (.int (miO m)) = .int (miO m) := by
  cases m
  · exact b32_n false
  · exact b32_n true
theorem miO_f (m : Mi) : fits .boolean (.int (miO m)) = true := by
  cases m
  · exact b32_f false
  · exact b32_f true
theorem px_mono {y : MethodName} {cc : ByteArray} {nL : Nat} {ret : Option FieldType} {rm : Room} {av : List Value} {P : List Nat} {A : Nat → Nat} {g : pM} {post post' : pP} (h : PX y cc nL ret rm av P A g post) (hp : ∀ v P' A' g', post v P' A' g' → post' v P' A' g') : PX y cc nL ret rm av P A g post' := by
  intro l D sz
  refine MetFree.mono (h l D sz) (fun _ _ h => h) (fun _ _ _ _ _ h => h) (fun a s o s' _ hq => ?_)
  obtain ⟨⟨v, P1, A1, g1, e1, e2, e3, e4, e5, e6⟩, hL⟩ := hq
  exact ⟨⟨v, P1, A1, g1, e1, hp _ _ _ _ e2, e3, e4, e5, e6⟩, hL⟩
theorem pm_mono {y : MethodName} {cc : ByteArray} {nL : Nat} {ret : Option FieldType} {rm : Room} {av : List Value} {P : List Nat} {A : Nat → Nat} {g : pM} {post post' : Option Value → pM → Prop} (h : PM y cc nL ret rm av P A g post) (hp : ∀ v g', post v g' → post' v g') : PM y cc nL ret rm av P A g post' :=
  px_mono h (fun _ _ _ _ q => ⟨q.1, q.2.1, hp _ _ q.2.2⟩)
-- NodeList's contracts in words of node numbers
section NN
variable (A : Nat → Nat) (P : List Nat) (g : pM) (a : Nat) {cap : Nat} {l : List Nat}
theorem n_X4_at (i : Nat) (hi : i < l.length) (h : NLN A g a cap l) : PM yX4_at cX4_at 2 (Option.some Jvm.ClassFile.FieldType.int) rm_X4_at [.ref (A a), .int (nI i)] P A g (fun v g' => v = some (.int (nI (l.getD i 0))) ∧ g = g') :=
  pm_mono (c_X4_at A P g a (nI i) h.1) (fun v g' q => ⟨by rw [q.1, map_nlAt hi (by have := h.le; have := h.cap; omega)], q.2⟩)
theorem n_X4_has (q : Nat) (hq : q < 16) (h : NLN A g a cap l) : PM yX4_has cX4_has 2 (Option.some Jvm.ClassFile.FieldType.boolean) rm_X4_has [.ref (A a), .int (nI q)] P A g (fun v g' => v = some (.int (b32 (decide (q ∈ l)))) ∧ g = g') :=
  pm_mono (c_X4_has A P g a (nI q) h.1) (fun v g' p => ⟨by rw [p.1]; simp only [map_mem h.2 hq], p.2⟩)
theorem n_X4_put (q : Nat) (hq : q < 16) (h : NLN A g a cap l) (hc : l.length < cap) : PM yX4_put cX4_put 2 none rm_X4_put [.ref (A a), .int (nI q)] P A g (fun v g' => v = none ∧ NLN A g' a cap (l ++ [q]) ∧ Fr g g' a (a + 2)) :=
  pm_mono (c_X4_put A P g a (nI q) h.1) (fun v g' p => ⟨p.1, ⟨by have := p.2.1; rw [List.length_map, if_pos hc] at this; simpa using this, fun x hx => by
    rcases List.mem_append.mp hx with hx | hx
    · exact h.2 x hx
    · simp at hx; omega⟩, Fr.of2 p.2.2⟩)
theorem n_X4_put' (q : Nat) (hq : q < 16) (h : NLN A g a cap l) (hc : ¬ l.length < cap) : PM yX4_put cX4_put 2 none rm_X4_put [.ref (A a), .int (nI q)] P A g (fun v g' => v = none ∧ NLN A g' a cap l ∧ Fr g g' a (a + 2)) :=
  pm_mono (c_X4_put A P g a (nI q) h.1) (fun v g' p => ⟨p.1, ⟨by have := p.2.1; rw [List.length_map, if_neg hc] at this; exact this, h.2⟩, Fr.of2 p.2.2⟩)
theorem n_X4_removeAt (i : Nat) (hi : i < 2 ^ 31) (h : NLN A g a cap l) : PM yX4_removeAt cX4_removeAt 3 none rm_X4_removeAt [.ref (A a), .int (nI i)] P A g (fun v g' => v = none ∧ NLN A g' a cap (l.eraseIdx i) ∧ Fr g g' a (a + 2)) :=
  pm_mono (c_X4_removeAt A P g a (nI i) h.1) (fun v g' p => ⟨p.1, ⟨by have := p.2.1; rw [if_neg (nI_pos hi), nI_clamp hi, map_eraseIdx] at this; exact this, fun x hx => h.2 x (List.mem_of_mem_eraseIdx hx)⟩, Fr.of2 p.2.2⟩)
theorem n_X4_remove (q : Nat) (hq : q < 16) (h : NLN A g a cap l) : PM yX4_remove cX4_remove 2 none rm_X4_remove [.ref (A a), .int (nI q)] P A g (fun v g' => v = none ∧ NLN A g' a cap (l.erase q) ∧ Fr g g' a (a + 2)) :=
  pm_mono (c_X4_remove A P g a (nI q) h.1) (fun v g' p => ⟨p.1, ⟨by rw [← map_erase h.2 hq]; exact p.2.1, fun x hx => h.2 x (List.mem_of_mem_erase hx)⟩, Fr.of2 p.2.2⟩)
theorem n_X4_clear (h : NLN A g a cap l) : PM yX4_clear cX4_clear 1 none rm_X4_clear [.ref (A a)] P A g (fun v g' => v = none ∧ NLN A g' a cap [] ∧ Fr g g' a (a + 2)) :=
  pm_mono (c_X4_clear A P g a h.1) (fun v g' p => ⟨p.1, ⟨p.2.1, fun x hx => by cases hx⟩, Fr.of2 p.2.2⟩)
theorem n_X4_copyFrom (o : Nat) {l2 : List Nat} (hx : o + 1 < a ∨ a + 1 < o) (h : NLN A g a cap l) (h2 : NLN A g o cap l2) : PM yX4_copyFrom cX4_copyFrom 3 none rm_X4_copyFrom [.ref (A a), .ref (A o)] P A g (fun v g' => v = none ∧ NLN A g' a cap l2 ∧ Fr g g' a (a + 2)) :=
  pm_mono (c_X4_copyFrom A P g a o hx h.1 h2.1) (fun v g' p => ⟨p.1, ⟨by have := p.2.1; rw [List.take_of_length_le h2.1.1] at this; exact this, h2.2⟩, Fr.of2 p.2.2⟩)
theorem n_X4_copyFrom' (o : Nat) {cap2 : Nat} {l2 : List Nat} (hx : o + 1 < a ∨ a + 1 < o) (h : NLN A g a cap l) (h2 : NLN A g o cap2 l2) (hc : l2.length ≤ cap) : PM yX4_copyFrom cX4_copyFrom 3 none rm_X4_copyFrom [.ref (A a), .ref (A o)] P A g (fun v g' => v = none ∧ NLN A g' a cap l2 ∧ Fr g g' a (a + 2)) :=
  pm_mono (c_X4_copyFrom A P g a o hx h.1 h2.1) (fun v g' p => ⟨p.1, ⟨by have := p.2.1; rw [List.take_of_length_le (by rw [List.length_map]; exact hc)] at this; exact this, h2.2⟩, Fr.of2 p.2.2⟩)
theorem n_X4_isSameAs (o : Nat) {cap2 : Nat} {l2 : List Nat} (h : NLN A g a cap l) (h2 : NLN A g o cap2 l2) : PM yX4_isSameAs cX4_isSameAs 3 (Option.some Jvm.ClassFile.FieldType.boolean) rm_X4_isSameAs [.ref (A a), .ref (A o)] P A g (fun v g' => v = some (.int (b32 (decide (l = l2)))) ∧ g = g') :=
  pm_mono (c_X4_isSameAs A P g a o h.1 h2.1) (fun v g' p => ⟨by rw [p.1]; simp only [map_eq h.2 h2.2], p.2⟩)
end NN
/-- how many below n -/
def ct (p : Nat → Bool) : Nat → Nat
  | 0 => 0
  | n + 1 => ct p n + (if p n then 1 else 0)
theorem ct_le (p : Nat → Bool) : ∀ n, ct p n ≤ n
  | 0 => Nat.le_refl 0
  | n + 1 => by have := ct_le p n; simp only [ct]; split <;> omega
def muq (q : Nat) (m : Mi) : Mi := match m with | none => none | some p => some (p.1, p.2.erase q)
/-- a node without one more link -/
def uln (d : Nd) (q : Nat) : Nd := (d.1, (nAc d).erase q, nPa d, bo (nLz d) q, nAs d, nAk d, nGo d, nHo d, fun t => muq q (nMi d t))
def nd0 : Nd := (true, [], [], 0, none, 0, 0, fun _ => none, fun _ => none)
/-- the functions f below t, else g -/
def mix2 {α : Type} (f g : Nat → α) (t : Nat) : Nat → α := fun j => if j < t then f j else g j
theorem mix2_0 {α : Type} (f g : Nat → α) : mix2 f g 0 = g := by funext j; simp [mix2]
theorem mix2_s {α : Type} (f g : Nat → α) (t : Nat) : va_up (mix2 f g t) t (f t) = mix2 f g (t + 1) := by
  funext j
  by_cases h : j = t
  · subst h; rw [va_up_self]; simp [mix2]
  · rw [va_up_ne _ _ h]
    simp only [mix2]
    by_cases h2 : j < t
    · rw [if_pos h2, if_pos (by omega)]
    · rw [if_neg h2, if_neg (by omega)]
theorem mix2_e {α : Type} (f g : Nat → α) {t j : Nat} (h : j < t) : mix2 f g t j = f j := by simp [mix2, h]
theorem mix2_g {α : Type} (f g : Nat → α) {t : Nat} : mix2 f g t t = g t := by simp [mix2]
/-- below 24 alone a node's functions count -/
theorem ND.ext {A : Nat → Nat} {g : pM} {a i : Nat} {d : Nd} {f : Nat → Option Nat} {m : Nat → Mi} (h : ND A g a i d) (hf : ∀ t, t < 24 → nHo d t = f t) (hm : ∀ t, t < 24 → nMi d t = m t) : ND A g a i (sMi (sHo d f) m) := by
  obtain ⟨h1, h2, h3, ⟨row, h4, h5⟩, h6, h7⟩ := h
  exact ⟨h1, h2, h3, ⟨row, h4, fun t ht => by rw [h5 t ht, hf t ht]⟩, h6, fun t ht => by have := h7 t ht; rw [hm t ht] at this; exact this⟩
theorem HO.up {g' : pM} {a t : Nat} {f : Nat → Option Nat} {row : Nat → Int32} (o : Option Nat) (hr : ∀ j, j < 24 → row j = onv (f j)) (hg : g' a = ai 0 24 (upd row t (onv o))) : HO g' a (va_up f t o) := by
  refine ⟨_, hg, fun j hj => ?_⟩
  by_cases h : j = t
  · subst h
    rw [va_up_self]
    simp [upd]
  · rw [va_up_ne _ _ h]
    simp only [upd, if_neg h]
    exact hr j hj
theorem co_push {l : List Nat} {row : Nat → Int32} {v : Nat} (hrow : ∀ i, i < l.length → row i = nI (l.getD i 0)) : ∀ i, i < (l ++ [v]).length → upd row l.length (nI v) i = nI ((l ++ [v]).getD i 0) := by
  intro i hi
  simp only [List.length_append, List.length_singleton] at hi
  by_cases h : i = l.length
  · subst h
    simp [upd]
  · have h2 : i < l.length := by omega
    simp only [upd, if_neg h]
    rw [hrow i h2]
    simp [List.getD, List.getElem?_append_left h2]
theorem ms_unl {A : Nat → Nat} {g g2 : pM} {b q : Nat} {m : Mi} (h : MS A g b m) (hf : Fr g g2 (b + 1) (b + 1 + 2)) (hl : NLN A g2 (b + 1) 5 ((miL m).erase q)) : MS A g2 b (muq q m) := by
  cases m with
  | none => exact ⟨hf.at (by omega) h.1, hl⟩
  | some p => exact ⟨hf.at (by omega) h.1, hl⟩
theorem nd_unl {A : Nat → Nat} {g : pM} {a i t q : Nat} {d : Nd} (ht : t = 24) (h : ND A g a i (sMi (uln d q) (mix2 (fun t => muq q (nMi d t)) (nMi d) t))) : ND A g a i (uln d q) := by
  subst ht
  exact h.ext (f := nHo d) (m := fun t => muq q (nMi d t)) (fun _ _ => rfl) (fun t ht => mix2_e (fun t => muq q (nMi d t)) (nMi d) ht)
theorem nd_beg {A : Nat → Nat} {g : pM} {a i t : Nat} {d : Nd} (ht : t = 24) (h : ND A g a i (sMi (sHo nd0 (mix2 (fun _ => none) (nHo d) t)) (mix2 (fun _ => none) (nMi d) t))) : ND A g a i nd0 := by
  subst ht
  exact h.ext (f := fun _ => none) (m := fun _ => none) (fun t ht => mix2_e (fun _ => none) (nHo d) ht) (fun t ht => mix2_e (fun _ => none) (nMi d) ht)
theorem nd_cop {A : Nat → Nat} {g : pM} {a i t : Nat} {d d2 : Nd} (ht : t = 24) (h : ND A g a i (sMi (sHo (d2.1, nAc d2, nPa d2, nLz d2, nAs d2, nAk d2, nGo d2, nHo d, nMi d) (mix2 (nHo d2) (nHo d) t)) (mix2 (nMi d2) (nMi d) t))) : ND A g a i d2 := by
  subst ht
  exact h.ext (f := nHo d2) (m := nMi d2) (fun t ht => mix2_e (nHo d2) (nHo d) ht) (fun t ht => mix2_e (nMi d2) (nMi d) ht)
/-- two nodes that look alike: views in order, eager or lazy, what they heard -/
def ndSame (d d2 : Nd) : Bool := decide (nAc d = nAc d2 ∧ nPa d = nPa d2 ∧ nLz d = nLz d2 ∧ ∀ t : Fin 24, nHo d t.val = nHo d2 t.val)
theorem ndSame_ac {d d2 : Nd} (h : ¬ nAc d = nAc d2) : ndSame d d2 = false := decide_eq_false (fun e => h e.1)
theorem ndSame_pa {d d2 : Nd} (h : ¬ nPa d = nPa d2) : ndSame d d2 = false := decide_eq_false (fun e => h e.2.1)
theorem ndSame_lz {d d2 : Nd} (h : ¬ nLz d = nLz d2) : ndSame d d2 = false := decide_eq_false (fun e => h e.2.2.1)
theorem ndSame_ho {d d2 : Nd} {t : Nat} (ht : t < 24) (h : ¬ nHo d t = nHo d2 t) : ndSame d d2 = false := decide_eq_false (fun e => h (e.2.2.2 ⟨t, ht⟩))
theorem ndSame_all {d d2 : Nd} (h1 : nAc d = nAc d2) (h2 : nPa d = nPa d2) (h3 : nLz d = nLz d2) (h4 : ∀ t, t < 24 → nHo d t = nHo d2 t) : ndSame d d2 = true := decide_eq_true ⟨h1, h2, h3, fun t => h4 t.val t.isLt⟩
theorem onv_inj {o o2 : Option Nat} (h : ∀ q, o = some q → q < 2 ^ 31) (h2 : ∀ q, o2 = some q → q < 2 ^ 31) (e : onv o = onv o2) : o = o2 := by
  cases o with
  | none => exact ((onv_none h2).mp e.symm).symm
  | some a =>
    cases o2 with
    | none => exact absurd ((onv_none h).mp e) (by simp)
    | some b => rw [(nI_eq (h a rfl) (h2 b rfl)).mp e]
theorem miO_0 (m : Mi) : miO m = 0 ↔ m.isSome = false := by cases m <;> simp [miO]
abbrev rm_X0_put : Room := { frames := 0, cells := 0, slots := 0, locals := 0 }
theorem Y_X0_put : pY yX0_put cX0_put 2 (Option.some Jvm.ClassFile.FieldType.boolean) := ⟨u_357, u_358, u_2, u_359⟩
theorem N_X0_put : yX0_put.cls ≠ "java/lang/invoke/MethodHandle" ∧ yX0_put.cls ≠ "java/lang/invoke/VarHandle" ∧ (parseMethodDescriptor yX0_put.desc).map (fun d => d.parameters.length) = some 1 := by decide +kernel
set_option maxRecDepth 20000 in
set_option maxHeartbeats 4000000 in
theorem c_X0_put (A : Nat → Nat) (P : List Nat) (g : pM) (a : Nat) {cs : List Nat} (v : Nat) (hv : v < 2 ^ 31) (h : CO A g a cs) : PM yX0_put cX0_put 2 (Option.some Jvm.ClassFile.FieldType.boolean) rm_X0_put [.ref (A a), .int (nI v)] P A g (fun r g' => r = some (.int (b32 (decide (cs.length < 64)))) ∧ CO A g' a (if cs.length < 64 then cs ++ [v] else cs) ∧ Fr g g' a (a + 2)) := by
  have hCO := h
  obtain ⟨hlen, hsm, ha, row, hb, hrow⟩ := h
  refine px_intro (by decide +kernel) (Nat.le_of_ble_eq_true rfl) (fun K sz C R => ?_)
  show V K 0 0 P A g [(0, .ref (A a)), (1, .int (nI v))] 0 []
  refine g_aload_n (pc := 0) C dX0_put_0 0 rfl ?_
  refine g_get (pc := 1) C (j := 1) ha rfl rfl (by decide) u_30 dX0_put_1 ?_
  refine g_bipush (pc := 4) C dX0_put_4 (v := nI 64) rfl ?_
  refine g_icmp_lt (pc := 6) C dX0_put_6 (tgt := 11) (by decide) (fun c_6 => ?_) (fun c_6 => ?_)
  ·
    have c_6 : cs.length < 64 := (nI_ltI (by omega) (by omega)).mp c_6
    have ha1 := ha
    refine g_aload_n (pc := 11) C dX0_put_11 0 rfl ?_
    refine g_get (pc := 12) C (j := 0) ha rfl rfl (by decide) u_29 dX0_put_12 ?_
    refine g_aload_n (pc := 15) C dX0_put_15 0 rfl ?_
    refine g_get (pc := 16) C (j := 1) ha rfl rfl (by decide) u_30 dX0_put_16 ?_
    refine g_iload_n (pc := 19) C dX0_put_19 1 rfl ?_
    refine g_iast (pc := 20) C hb (nI_clamp (by omega)) (nI_in0 (n := 64) (by omega) (by omega)) dX0_put_20 ?_
    obtain ⟨g_1, hg_1⟩ : ∃ yM : pM, yM = va_up g (a + 1) (ai 0 64 (upd row cs.length (nI v))) := ⟨_, rfl⟩
    show V K 0 0 P A (va_up g (a + 1) (ai 0 64 (upd row cs.length (nI v)))) [(0, .ref (A a)), (1, .int (nI v))] 21 []
    rw [← hg_1]
    have h_2 : g_1 (a + 1) = ai 0 64 (upd row cs.length (nI v)) := by rw [hg_1]; exact va_up_self _ _ _
    have h_3 : g_1 a = ob 0 [.ref (A (a + 1)), .int (nI cs.length)] := by rw [hg_1, va_up_ne _ _ (show a ≠ a + 1 from by omega)]; exact ha
    refine g_aload_n (pc := 21) C dX0_put_21 0 rfl ?_
    refine g_dup (pc := 22) C dX0_put_22 rfl ?_
    refine g_get (pc := 23) C (j := 1) h_3 rfl rfl (by decide) u_30 dX0_put_23 ?_
    refine g_iconst (pc := 26) C dX0_put_26 (v := nI 1) rfl ?_
    refine g_iadd (pc := 27) C dX0_put_27 (z := nI (cs.length + 1)) (nI_add _ _) ?_
    refine g_put (pc := 28) C (j := 1) h_3 rfl (by decide) (Nat.le_of_ble_eq_true rfl) u_30 rfl pfd_I rfl rfl dX0_put_28 ?_
    obtain ⟨g_4, hg_4⟩ : ∃ yM : pM, yM = va_up g_1 a (ob 0 [.ref (A (a + 1)), .int (nI (cs.length + 1))]) := ⟨_, rfl⟩
    show V K 0 0 P A (va_up g_1 a (ob 0 [.ref (A (a + 1)), .int (nI (cs.length + 1))])) [(0, .ref (A a)), (1, .int (nI v))] 31 []
    rw [← hg_4]
    have h_5 : g_4 (a + 1) = ai 0 64 (upd row cs.length (nI v)) := by rw [hg_4, va_up_ne _ _ (show a + 1 ≠ a from by omega)]; exact h_2
    have h_6 : g_4 a = ob 0 [.ref (A (a + 1)), .int (nI (cs.length + 1))] := by rw [hg_4]; exact va_up_self _ _ _
    refine g_iconst (pc := 31) C dX0_put_31 (v := nI 1) rfl ?_
    exact g_zret (pc := 32) C R (Or.inr rfl) ⟨rfl, rfl, by rw [show decide (cs.length < 64) = true from decide_eq_true (by omega)]; rfl, by rw [if_pos (by omega)]; exact ⟨by simp; omega, fun x hx => by rcases List.mem_append.mp hx with q | q; exact hsm x q; simp at q; omega, by rw [h_6]; simp, _, h_5, co_push hrow⟩, Fr.of2 (fun k h1 h2 => by rw [hg_4, va_up_ne _ _ (by assumption), hg_1, va_up_ne _ _ (by assumption)])⟩ (by decide) (by decide) dX0_put_32
  ·
    have c_6 : ¬ cs.length < 64 := fun h => c_6 ((nI_ltI (by omega) (by omega)).mpr h)
    refine g_iconst (pc := 9) C dX0_put_9 (v := nI 0) rfl ?_
    exact g_zret (pc := 10) C R (Or.inl rfl) ⟨rfl, rfl, by rw [show decide (cs.length < 64) = false from decide_eq_false (by omega)]; rfl, by rw [if_neg (by omega)]; exact hCO, Fr.rf⟩ (by decide) (by decide) dX0_put_10
abbrev rm_X0_at : Room := { frames := 0, cells := 0, slots := 0, locals := 0 }
theorem Y_X0_at : pY yX0_at cX0_at 2 (Option.some Jvm.ClassFile.FieldType.int) := ⟨u_479, u_480, u_2, u_481⟩
theorem N_X0_at : yX0_at.cls ≠ "java/lang/invoke/MethodHandle" ∧ yX0_at.cls ≠ "java/lang/invoke/VarHandle" ∧ (parseMethodDescriptor yX0_at.desc).map (fun d => d.parameters.length) = some 1 := by decide +kernel
set_option maxRecDepth 20000 in
set_option maxHeartbeats 4000000 in
theorem c_X0_at (A : Nat → Nat) (P : List Nat) (g : pM) (a : Nat) {cs : List Nat} (i : Nat) (hi : i < cs.length) (h : CO A g a cs) : PM yX0_at cX0_at 2 (Option.some Jvm.ClassFile.FieldType.int) rm_X0_at [.ref (A a), .int (nI i)] P A g (fun r g' => r = some (.int (nI (cs.getD i 0))) ∧ g = g') := by
  have hCO := h
  obtain ⟨hlen, hsm, ha, row, hb, hrow⟩ := h
  refine px_intro (by decide +kernel) (Nat.le_of_ble_eq_true rfl) (fun K sz C R => ?_)
  show V K 0 0 P A g [(0, .ref (A a)), (1, .int (nI i))] 0 []
  refine g_iload_n (pc := 0) C dX0_at_0 1 rfl ?_
  refine g_if_lt (pc := 1) C dX0_at_1 (tgt := 21) (by decide) (fun c_1 => ?_) (fun c_1 => ?_)
  ·
    have c_1 : i < 0 := (nI_ltI (by omega) (by omega)).mp c_1
    exfalso; omega
  ·
    have c_1 : ¬ i < 0 := fun h => c_1 ((nI_ltI (by omega) (by omega)).mpr h)
    refine g_iload_n (pc := 4) C dX0_at_4 1 rfl ?_
    refine g_aload_n (pc := 5) C dX0_at_5 0 rfl ?_
    refine g_get (pc := 6) C (j := 1) ha rfl rfl (by decide) u_30 dX0_at_6 ?_
    refine g_icmp_ge (pc := 9) C dX0_at_9 (tgt := 21) (by decide) (fun c_9 => ?_) (fun c_9 => ?_)
    ·
      have c_9 : cs.length ≤ i := (nI_leI (by omega) (by omega)).mp c_9
      exfalso; omega
    ·
      have c_9 : ¬ cs.length ≤ i := fun h => c_9 ((nI_leI (by omega) (by omega)).mpr h)
      refine g_aload_n (pc := 12) C dX0_at_12 0 rfl ?_
      refine g_get (pc := 13) C (j := 0) ha rfl rfl (by decide) u_29 dX0_at_13 ?_
      refine g_iload_n (pc := 16) C dX0_at_16 1 rfl ?_
      refine g_iald (pc := 17) C hb (nI_clamp (by omega)) (nI_in0 (n := 64) (by omega) (by omega)) dX0_at_17 (x := row i) rfl ?_
      refine g_goto (pc := 18) C dX0_at_18 (tgt := 22) (by decide) ?_
      exact g_iret (pc := 22) C R ⟨rfl, rfl, by rw [hrow i hi], rfl⟩ (by decide) (by decide) dX0_at_22
abbrev rm_X0_behind : Room := { frames := 0, cells := 0, slots := 0, locals := 0 }
theorem Y_X0_behind : pY yX0_behind cX0_behind 2 (Option.some Jvm.ClassFile.FieldType.int) := ⟨u_483, u_484, u_2, u_485⟩
theorem N_X0_behind : yX0_behind.cls ≠ "java/lang/invoke/MethodHandle" ∧ yX0_behind.cls ≠ "java/lang/invoke/VarHandle" ∧ (parseMethodDescriptor yX0_behind.desc).map (fun d => d.parameters.length) = some 1 := by decide +kernel
set_option maxRecDepth 20000 in
set_option maxHeartbeats 4000000 in
theorem c_X0_behind (A : Nat → Nat) (P : List Nat) (g : pM) (a : Nat) {cs : List Nat} (i : Nat) (hi : i < 1000) (h : CO A g a cs) : PM yX0_behind cX0_behind 2 (Option.some Jvm.ClassFile.FieldType.int) rm_X0_behind [.ref (A a), .int (nI i)] P A g (fun r g' => r = some (.int (nI (if i + 1 < cs.length then i + 1 else 0))) ∧ g = g') := by
  have hCO := h
  obtain ⟨hlen, hsm, ha, row, hb, hrow⟩ := h
  refine px_intro (by decide +kernel) (Nat.le_of_ble_eq_true rfl) (fun K sz C R => ?_)
  show V K 0 0 P A g [(0, .ref (A a)), (1, .int (nI i))] 0 []
  refine g_iload_n (pc := 0) C dX0_behind_0 1 rfl ?_
  refine g_iconst (pc := 1) C dX0_behind_1 (v := nI 1) rfl ?_
  refine g_iadd (pc := 2) C dX0_behind_2 (z := nI (i + 1)) (nI_add _ _) ?_
  refine g_aload_n (pc := 3) C dX0_behind_3 0 rfl ?_
  refine g_get (pc := 4) C (j := 1) ha rfl rfl (by decide) u_30 dX0_behind_4 ?_
  refine g_icmp_ge (pc := 7) C dX0_behind_7 (tgt := 16) (by decide) (fun c_7 => ?_) (fun c_7 => ?_)
  ·
    have c_7 : cs.length ≤ (i + 1) := (nI_leI (by omega) (by omega)).mp c_7
    refine g_iconst (pc := 16) C dX0_behind_16 (v := nI 0) rfl ?_
    exact g_iret (pc := 17) C R ⟨rfl, rfl, by rw [if_neg (by omega)], rfl⟩ (by decide) (by decide) dX0_behind_17
  ·
    have c_7 : ¬ cs.length ≤ (i + 1) := fun h => c_7 ((nI_leI (by omega) (by omega)).mpr h)
    refine g_iload_n (pc := 10) C dX0_behind_10 1 rfl ?_
    refine g_iconst (pc := 11) C dX0_behind_11 (v := nI 1) rfl ?_
    refine g_iadd (pc := 12) C dX0_behind_12 (z := nI (i + 1)) (nI_add _ _) ?_
    refine g_goto (pc := 13) C dX0_behind_13 (tgt := 17) (by decide) ?_
    exact g_iret (pc := 17) C R ⟨rfl, rfl, by rw [if_pos (by omega)], rfl⟩ (by decide) (by decide) dX0_behind_17
abbrev rm_X6_copyFrom : Room := { frames := 0, cells := 0, slots := 0, locals := 0 }
theorem Y_X6_copyFrom : pY yX6_copyFrom cX6_copyFrom 2 (Option.none : Option Jvm.ClassFile.FieldType) := ⟨u_807, u_808, u_4, u_809⟩
theorem N_X6_copyFrom : yX6_copyFrom.cls ≠ "java/lang/invoke/MethodHandle" ∧ yX6_copyFrom.cls ≠ "java/lang/invoke/VarHandle" ∧ (parseMethodDescriptor yX6_copyFrom.desc).map (fun d => d.parameters.length) = some 1 := by decide +kernel
set_option maxRecDepth 20000 in
set_option maxHeartbeats 4000000 in
theorem c_X6_copyFrom (A : Nat → Nat) (P : List Nat) (g : pM) (a : Nat) (o : Nat) {s1 s2 : Sz} (hx : a ≠ o) (h : SZ g a s1) (h2 : SZ g o s2) : PM yX6_copyFrom cX6_copyFrom 2 (Option.none : Option Jvm.ClassFile.FieldType) rm_X6_copyFrom [.ref (A a), .ref (A o)] P A g (fun r g' => r = none ∧ SZ g' a s2 ∧ Fr g g' a (a + 1)) := by
  refine px_intro (by decide +kernel) (Nat.le_of_ble_eq_true rfl) (fun K sz C R => ?_)
  show V K 0 0 P A g [(0, .ref (A a)), (1, .ref (A o))] 0 []
  refine g_aload_n (pc := 0) C dX6_copyFrom_0 0 rfl ?_
  refine g_aload_n (pc := 1) C dX6_copyFrom_1 1 rfl ?_
  refine g_get (pc := 2) C (j := 0) (show g o = ob 6 _ from h2) rfl rfl (by decide) u_51 dX6_copyFrom_2 ?_
  refine g_put (pc := 5) C (j := 0) (show g a = ob 6 _ from h) rfl (by decide) (Nat.le_of_ble_eq_true rfl) u_51 rfl pfd_I rfl rfl dX6_copyFrom_5 ?_
  obtain ⟨g_1, hg_1⟩ : ∃ yM : pM, yM = va_up g a (ob 6 [.int (nI s2.1), .int (nI s1.2.1), .int (nI s1.2.2.1), .int (nI s1.2.2.2.1), .int (nI s1.2.2.2.2)]) := ⟨_, rfl⟩
  show V K 0 0 P A (va_up g a (ob 6 [.int (nI s2.1), .int (nI s1.2.1), .int (nI s1.2.2.1), .int (nI s1.2.2.2.1), .int (nI s1.2.2.2.2)])) [(0, .ref (A a)), (1, .ref (A o))] 8 []
  rw [← hg_1]
  have h_2 : g_1 a = ob 6 [.int (nI s2.1), .int (nI s1.2.1), .int (nI s1.2.2.1), .int (nI s1.2.2.2.1), .int (nI s1.2.2.2.2)] := by rw [hg_1]; exact va_up_self _ _ _
  have hf_3 : Fr g g_1 a (a + 1) := by rw [hg_1]; exact Fr.up (by omega) (by omega)
  have hp_4 := SZ.fr h2 hf_3 (by omega)
  refine g_aload_n (pc := 8) C dX6_copyFrom_8 0 rfl ?_
  refine g_aload_n (pc := 9) C dX6_copyFrom_9 1 rfl ?_
  refine g_get (pc := 10) C (j := 1) (show g_1 o = ob 6 _ from hp_4) rfl rfl (by decide) u_54 dX6_copyFrom_10 ?_
  refine g_put (pc := 13) C (j := 1) h_2 rfl (by decide) (Nat.le_of_ble_eq_true rfl) u_54 rfl pfd_I rfl rfl dX6_copyFrom_13 ?_
  obtain ⟨g_5, hg_5⟩ : ∃ yM : pM, yM = va_up g_1 a (ob 6 [.int (nI s2.1), .int (nI s2.2.1), .int (nI s1.2.2.1), .int (nI s1.2.2.2.1), .int (nI s1.2.2.2.2)]) := ⟨_, rfl⟩
  show V K 0 0 P A (va_up g_1 a (ob 6 [.int (nI s2.1), .int (nI s2.2.1), .int (nI s1.2.2.1), .int (nI s1.2.2.2.1), .int (nI s1.2.2.2.2)])) [(0, .ref (A a)), (1, .ref (A o))] 16 []
  rw [← hg_5]
  have h_6 : g_5 a = ob 6 [.int (nI s2.1), .int (nI s2.2.1), .int (nI s1.2.2.1), .int (nI s1.2.2.2.1), .int (nI s1.2.2.2.2)] := by rw [hg_5]; exact va_up_self _ _ _
  have hf_7 : Fr g_1 g_5 a (a + 1) := by rw [hg_5]; exact Fr.up (by omega) (by omega)
  have hp_8 := SZ.fr hp_4 hf_7 (by omega)
  refine g_aload_n (pc := 16) C dX6_copyFrom_16 0 rfl ?_
  refine g_aload_n (pc := 17) C dX6_copyFrom_17 1 rfl ?_
  refine g_get (pc := 18) C (j := 2) (show g_5 o = ob 6 _ from hp_8) rfl rfl (by decide) u_57 dX6_copyFrom_18 ?_
  refine g_put (pc := 21) C (j := 2) h_6 rfl (by decide) (Nat.le_of_ble_eq_true rfl) u_57 rfl pfd_I rfl rfl dX6_copyFrom_21 ?_
  obtain ⟨g_9, hg_9⟩ : ∃ yM : pM, yM = va_up g_5 a (ob 6 [.int (nI s2.1), .int (nI s2.2.1), .int (nI s2.2.2.1), .int (nI s1.2.2.2.1), .int (nI s1.2.2.2.2)]) := ⟨_, rfl⟩
  show V K 0 0 P A (va_up g_5 a (ob 6 [.int (nI s2.1), .int (nI s2.2.1), .int (nI s2.2.2.1), .int (nI s1.2.2.2.1), .int (nI s1.2.2.2.2)])) [(0, .ref (A a)), (1, .ref (A o))] 24 []
  rw [← hg_9]
  have h_10 : g_9 a = ob 6 [.int (nI s2.1), .int (nI s2.2.1), .int (nI s2.2.2.1), .int (nI s1.2.2.2.1), .int (nI s1.2.2.2.2)] := by rw [hg_9]; exact va_up_self _ _ _
  have hf_11 : Fr g_5 g_9 a (a + 1) := by rw [hg_9]; exact Fr.up (by omega) (by omega)
  have hp_12 := SZ.fr hp_8 hf_11 (by omega)
  refine g_aload_n (pc := 24) C dX6_copyFrom_24 0 rfl ?_
  refine g_aload_n (pc := 25) C dX6_copyFrom_25 1 rfl ?_
  refine g_get (pc := 26) C (j := 3) (show g_9 o = ob 6 _ from hp_12) rfl rfl (by decide) u_60 dX6_copyFrom_26 ?_
  refine g_put (pc := 29) C (j := 3) h_10 rfl (by decide) (Nat.le_of_ble_eq_true rfl) u_60 rfl pfd_I rfl rfl dX6_copyFrom_29 ?_
  obtain ⟨g_13, hg_13⟩ : ∃ yM : pM, yM = va_up g_9 a (ob 6 [.int (nI s2.1), .int (nI s2.2.1), .int (nI s2.2.2.1), .int (nI s2.2.2.2.1), .int (nI s1.2.2.2.2)]) := ⟨_, rfl⟩
  show V K 0 0 P A (va_up g_9 a (ob 6 [.int (nI s2.1), .int (nI s2.2.1), .int (nI s2.2.2.1), .int (nI s2.2.2.2.1), .int (nI s1.2.2.2.2)])) [(0, .ref (A a)), (1, .ref (A o))] 32 []
  rw [← hg_13]
  have h_14 : g_13 a = ob 6 [.int (nI s2.1), .int (nI s2.2.1), .int (nI s2.2.2.1), .int (nI s2.2.2.2.1), .int (nI s1.2.2.2.2)] := by rw [hg_13]; exact va_up_self _ _ _
  have hf_15 : Fr g_9 g_13 a (a + 1) := by rw [hg_13]; exact Fr.up (by omega) (by omega)
  have hp_16 := SZ.fr hp_12 hf_15 (by omega)
  refine g_aload_n (pc := 32) C dX6_copyFrom_32 0 rfl ?_
  refine g_aload_n (pc := 33) C dX6_copyFrom_33 1 rfl ?_
  refine g_get (pc := 34) C (j := 4) (show g_13 o = ob 6 _ from hp_16) rfl rfl (by decide) u_63 dX6_copyFrom_34 ?_
  refine g_put (pc := 37) C (j := 4) h_14 rfl (by decide) (Nat.le_of_ble_eq_true rfl) u_63 rfl pfd_I rfl rfl dX6_copyFrom_37 ?_
  obtain ⟨g_17, hg_17⟩ : ∃ yM : pM, yM = va_up g_13 a (ob 6 [.int (nI s2.1), .int (nI s2.2.1), .int (nI s2.2.2.1), .int (nI s2.2.2.2.1), .int (nI s2.2.2.2.2)]) := ⟨_, rfl⟩
  show V K 0 0 P A (va_up g_13 a (ob 6 [.int (nI s2.1), .int (nI s2.2.1), .int (nI s2.2.2.1), .int (nI s2.2.2.2.1), .int (nI s2.2.2.2.2)])) [(0, .ref (A a)), (1, .ref (A o))] 40 []
  rw [← hg_17]
  have h_18 : g_17 a = ob 6 [.int (nI s2.1), .int (nI s2.2.1), .int (nI s2.2.2.1), .int (nI s2.2.2.2.1), .int (nI s2.2.2.2.2)] := by rw [hg_17]; exact va_up_self _ _ _
  have hf_19 : Fr g_13 g_17 a (a + 1) := by rw [hg_17]; exact Fr.up (by omega) (by omega)
  have hp_20 := SZ.fr hp_16 hf_19 (by omega)
  exact g_vret (pc := 40) C R ⟨rfl, rfl, rfl, h_18, fun k hk => by rw [hg_17, va_up_ne _ _ (by omega), hg_13, va_up_ne _ _ (by omega), hg_9, va_up_ne _ _ (by omega), hg_5, va_up_ne _ _ (by omega), hg_1, va_up_ne _ _ (by omega)]⟩ (by decide) (by decide) dX6_copyFrom_40
abbrev rm_X1_write : Room := { frames := 1, cells := 0, slots := 0, locals := 20 }
theorem Y_X1_write : pY yX1_write cX1_write 6 (Option.none : Option Jvm.ClassFile.FieldType) := ⟨u_408, u_409, u_10, u_410⟩
theorem N_X1_write : yX1_write.cls ≠ "java/lang/invoke/MethodHandle" ∧ yX1_write.cls ≠ "java/lang/invoke/VarHandle" ∧ (parseMethodDescriptor yX1_write.desc).map (fun d => d.parameters.length) = some 5 := by decide +kernel
set_option maxRecDepth 20000 in
set_option maxHeartbeats 4000000 in
theorem c_X1_write (A : Nat → Nat) (P : List Nat) (g : pM) (a : Nat) {t : Lt} (s r k x y : Nat) (h : LT A g a t) : PM yX1_write cX1_write 6 (Option.none : Option Jvm.ClassFile.FieldType) rm_X1_write [.ref (A a), .int (nI s), .int (nI r), .int (nI k), .int (nI x), .int (nI y)] P A g (fun v g' => v = none ∧ LT A g' a (s, r, k, x, y, []) ∧ Fr g g' a (a + 3)) := by
  have hl := h.2
  refine px_intro (by decide +kernel) (Nat.le_of_ble_eq_true rfl) (fun K sz C R => ?_)
  show V K 0 0 P A g [(0, .ref (A a)), (1, .int (nI s)), (2, .int (nI r)), (3, .int (nI k)), (4, .int (nI x)), (5, .int (nI y))] 0 []
  refine g_aload_n (pc := 0) C dX1_write_0 0 rfl ?_
  refine g_iload_n (pc := 1) C dX1_write_1 1 rfl ?_
  refine g_put (pc := 2) C (j := 0) h.1 rfl (by decide) (Nat.le_of_ble_eq_true rfl) u_194 rfl pfd_I rfl rfl dX1_write_2 ?_
  obtain ⟨g_1, hg_1⟩ : ∃ yM : pM, yM = va_up g a (ob 1 [.int (nI s), .int (nI t.2.1), .int (nI t.2.2.1), .int (nI t.2.2.2.1), .int (nI t.2.2.2.2.1), .ref (A (a + 1))]) := ⟨_, rfl⟩
  show V K 0 0 P A (va_up g a (ob 1 [.int (nI s), .int (nI t.2.1), .int (nI t.2.2.1), .int (nI t.2.2.2.1), .int (nI t.2.2.2.2.1), .ref (A (a + 1))])) [(0, .ref (A a)), (1, .int (nI s)), (2, .int (nI r)), (3, .int (nI k)), (4, .int (nI x)), (5, .int (nI y))] 5 []
  rw [← hg_1]
  have h_2 : g_1 a = ob 1 [.int (nI s), .int (nI t.2.1), .int (nI t.2.2.1), .int (nI t.2.2.2.1), .int (nI t.2.2.2.2.1), .ref (A (a + 1))] := by rw [hg_1]; exact va_up_self _ _ _
  have hf_3 : Fr g g_1 a (a + 1) := by rw [hg_1]; exact Fr.up (by omega) (by omega)
  have hp_4 := NLN.fr hl hf_3 (by omega)
  refine g_aload_n (pc := 5) C dX1_write_5 0 rfl ?_
  refine g_iload_n (pc := 6) C dX1_write_6 2 rfl ?_
  refine g_put (pc := 7) C (j := 1) h_2 rfl (by decide) (Nat.le_of_ble_eq_true rfl) u_198 rfl pfd_I rfl rfl dX1_write_7 ?_
  obtain ⟨g_5, hg_5⟩ : ∃ yM : pM, yM = va_up g_1 a (ob 1 [.int (nI s), .int (nI r), .int (nI t.2.2.1), .int (nI t.2.2.2.1), .int (nI t.2.2.2.2.1), .ref (A (a + 1))]) := ⟨_, rfl⟩
  show V K 0 0 P A (va_up g_1 a (ob 1 [.int (nI s), .int (nI r), .int (nI t.2.2.1), .int (nI t.2.2.2.1), .int (nI t.2.2.2.2.1), .ref (A (a + 1))])) [(0, .ref (A a)), (1, .int (nI s)), (2, .int (nI r)), (3, .int (nI k)), (4, .int (nI x)), (5, .int (nI y))] 10 []
  rw [← hg_5]
  have h_6 : g_5 a = ob 1 [.int (nI s), .int (nI r), .int (nI t.2.2.1), .int (nI t.2.2.2.1), .int (nI t.2.2.2.2.1), .ref (A (a + 1))] := by rw [hg_5]; exact va_up_self _ _ _
  have hf_7 : Fr g_1 g_5 a (a + 1) := by rw [hg_5]; exact Fr.up (by omega) (by omega)
  have hp_8 := NLN.fr hp_4 hf_7 (by omega)
  refine g_aload_n (pc := 10) C dX1_write_10 0 rfl ?_
  refine g_iload_n (pc := 11) C dX1_write_11 3 rfl ?_
  refine g_put (pc := 12) C (j := 2) h_6 rfl (by decide) (Nat.le_of_ble_eq_true rfl) u_202 rfl pfd_I rfl rfl dX1_write_12 ?_
  obtain ⟨g_9, hg_9⟩ : ∃ yM : pM, yM = va_up g_5 a (ob 1 [.int (nI s), .int (nI r), .int (nI k), .int (nI t.2.2.2.1), .int (nI t.2.2.2.2.1), .ref (A (a + 1))]) := ⟨_, rfl⟩
  show V K 0 0 P A (va_up g_5 a (ob 1 [.int (nI s), .int (nI r), .int (nI k), .int (nI t.2.2.2.1), .int (nI t.2.2.2.2.1), .ref (A (a + 1))])) [(0, .ref (A a)), (1, .int (nI s)), (2, .int (nI r)), (3, .int (nI k)), (4, .int (nI x)), (5, .int (nI y))] 15 []
  rw [← hg_9]
  have h_10 : g_9 a = ob 1 [.int (nI s), .int (nI r), .int (nI k), .int (nI t.2.2.2.1), .int (nI t.2.2.2.2.1), .ref (A (a + 1))] := by rw [hg_9]; exact va_up_self _ _ _
  have hf_11 : Fr g_5 g_9 a (a + 1) := by rw [hg_9]; exact Fr.up (by omega) (by omega)
  have hp_12 := NLN.fr hp_8 hf_11 (by omega)
  refine g_aload_n (pc := 15) C dX1_write_15 0 rfl ?_
  refine g_iload (pc := 16) C dX1_write_16 4 rfl ?_
  refine g_put (pc := 18) C (j := 3) h_10 rfl (by decide) (Nat.le_of_ble_eq_true rfl) u_205 rfl pfd_I rfl rfl dX1_write_18 ?_
  obtain ⟨g_13, hg_13⟩ : ∃ yM : pM, yM = va_up g_9 a (ob 1 [.int (nI s), .int (nI r), .int (nI k), .int (nI x), .int (nI t.2.2.2.2.1), .ref (A (a + 1))]) := ⟨_, rfl⟩
  show V K 0 0 P A (va_up g_9 a (ob 1 [.int (nI s), .int (nI r), .int (nI k), .int (nI x), .int (nI t.2.2.2.2.1), .ref (A (a + 1))])) [(0, .ref (A a)), (1, .int (nI s)), (2, .int (nI r)), (3, .int (nI k)), (4, .int (nI x)), (5, .int (nI y))] 21 []
  rw [← hg_13]
  have h_14 : g_13 a = ob 1 [.int (nI s), .int (nI r), .int (nI k), .int (nI x), .int (nI t.2.2.2.2.1), .ref (A (a + 1))] := by rw [hg_13]; exact va_up_self _ _ _
  have hf_15 : Fr g_9 g_13 a (a + 1) := by rw [hg_13]; exact Fr.up (by omega) (by omega)
  have hp_16 := NLN.fr hp_12 hf_15 (by omega)
  refine g_aload_n (pc := 21) C dX1_write_21 0 rfl ?_
  refine g_iload (pc := 22) C dX1_write_22 5 rfl ?_
  refine g_put (pc := 24) C (j := 4) h_14 rfl (by decide) (Nat.le_of_ble_eq_true rfl) u_208 rfl pfd_I rfl rfl dX1_write_24 ?_
  obtain ⟨g_17, hg_17⟩ : ∃ yM : pM, yM = va_up g_13 a (ob 1 [.int (nI s), .int (nI r), .int (nI k), .int (nI x), .int (nI y), .ref (A (a + 1))]) := ⟨_, rfl⟩
  show V K 0 0 P A (va_up g_13 a (ob 1 [.int (nI s), .int (nI r), .int (nI k), .int (nI x), .int (nI y), .ref (A (a + 1))])) [(0, .ref (A a)), (1, .int (nI s)), (2, .int (nI r)), (3, .int (nI k)), (4, .int (nI x)), (5, .int (nI y))] 27 []
  rw [← hg_17]
  have h_18 : g_17 a = ob 1 [.int (nI s), .int (nI r), .int (nI k), .int (nI x), .int (nI y), .ref (A (a + 1))] := by rw [hg_17]; exact va_up_self _ _ _
  have hf_19 : Fr g_13 g_17 a (a + 1) := by rw [hg_17]; exact Fr.up (by omega) (by omega)
  have hp_20 := NLN.fr hp_16 hf_19 (by omega)
  refine g_aload_n (pc := 27) C dX1_write_27 0 rfl ?_
  refine g_get (pc := 28) C (j := 5) h_18 rfl rfl (by decide) u_211 dX1_write_28 ?_
  refine g_callV (pc := 31) C (As := []) (rest := []) (b := (a + 1)) (n_X4_clear A P g_17 (a + 1) hp_20) (NLN.o hp_20) rfl rfl Y_X4_clear u_411 N_X4_clear ⟨by decide, by decide⟩ ⟨by decide, by decide⟩ (Nat.le_of_ble_eq_true rfl) rfl dX1_write_31 ?_
  rintro _ _ _ g_21 ⟨rfl, rfl, rfl, hn_22, hf_23⟩
  have h_24 := hf_23.at (by omega) h_18
  show V K 0 0 P A g_21 [(0, .ref (A a)), (1, .int (nI s)), (2, .int (nI r)), (3, .int (nI k)), (4, .int (nI x)), (5, .int (nI y))] 34 []
  exact g_vret (pc := 34) C R ⟨rfl, rfl, rfl, ⟨h_24, hn_22⟩, (show Fr g _ a (a + 3) from fun k hk => by rw [hg_17, va_up_ne _ _ (by omega), hg_13, va_up_ne _ _ (by omega), hg_9, va_up_ne _ _ (by omega), hg_5, va_up_ne _ _ (by omega), hg_1, va_up_ne _ _ (by omega)]).tr (Fr.mo hf_23 (by omega) (by omega))⟩ (by decide) (by decide) dX1_write_34
abbrev rm_X1_copyFrom : Room := { frames := 2, cells := 0, slots := 0, locals := 45 }
theorem Y_X1_copyFrom : pY yX1_copyFrom cX1_copyFrom 2 (Option.none : Option Jvm.ClassFile.FieldType) := ⟨u_579, u_580, u_10, u_581⟩
theorem N_X1_copyFrom : yX1_copyFrom.cls ≠ "java/lang/invoke/MethodHandle" ∧ yX1_copyFrom.cls ≠ "java/lang/invoke/VarHandle" ∧ (parseMethodDescriptor yX1_copyFrom.desc).map (fun d => d.parameters.length) = some 1 := by decide +kernel
set_option maxRecDepth 20000 in
set_option maxHeartbeats 4000000 in
theorem c_X1_copyFrom (A : Nat → Nat) (P : List Nat) (g : pM) (a : Nat) (o : Nat) {t u : Lt} (hx : o + 3 ≤ a ∨ a + 3 ≤ o) (h : LT A g a t) (h2 : LT A g o u) : PM yX1_copyFrom cX1_copyFrom 2 (Option.none : Option Jvm.ClassFile.FieldType) rm_X1_copyFrom [.ref (A a), .ref (A o)] P A g (fun v g' => v = none ∧ LT A g' a u ∧ Fr g g' a (a + 3)) := by
  refine px_intro (by decide +kernel) (Nat.le_of_ble_eq_true rfl) (fun K sz C R => ?_)
  show V K 0 0 P A g [(0, .ref (A a)), (1, .ref (A o))] 0 []
  refine g_aload_n (pc := 0) C dX1_copyFrom_0 0 rfl ?_
  refine g_aload_n (pc := 1) C dX1_copyFrom_1 1 rfl ?_
  refine g_get (pc := 2) C (j := 0) h2.1 rfl rfl (by decide) u_194 dX1_copyFrom_2 ?_
  refine g_aload_n (pc := 5) C dX1_copyFrom_5 1 rfl ?_
  refine g_get (pc := 6) C (j := 1) h2.1 rfl rfl (by decide) u_198 dX1_copyFrom_6 ?_
  refine g_aload_n (pc := 9) C dX1_copyFrom_9 1 rfl ?_
  refine g_get (pc := 10) C (j := 2) h2.1 rfl rfl (by decide) u_202 dX1_copyFrom_10 ?_
  refine g_aload_n (pc := 13) C dX1_copyFrom_13 1 rfl ?_
  refine g_get (pc := 14) C (j := 3) h2.1 rfl rfl (by decide) u_205 dX1_copyFrom_14 ?_
  refine g_aload_n (pc := 17) C dX1_copyFrom_17 1 rfl ?_
  refine g_get (pc := 18) C (j := 4) h2.1 rfl rfl (by decide) u_208 dX1_copyFrom_18 ?_
  refine g_callV (pc := 21) C (As := [.int (nI u.1), .int (nI u.2.1), .int (nI u.2.2.1), .int (nI u.2.2.2.1), .int (nI u.2.2.2.2.1)]) (rest := []) (b := a) (c_X1_write A P g a u.1 u.2.1 u.2.2.1 u.2.2.2.1 u.2.2.2.2.1 h) h.1 rfl rfl Y_X1_write u_582 N_X1_write ⟨by decide, by decide⟩ ⟨by decide, by decide⟩ (Nat.le_of_ble_eq_true rfl) rfl dX1_copyFrom_21 ?_
  rintro _ _ _ g_1 ⟨rfl, rfl, rfl, hn_2, hf_3⟩
  have hp_4 := LT.fr h2 hf_3 (by omega)
  show V K 0 0 P A g_1 [(0, .ref (A a)), (1, .ref (A o))] 24 []
  refine g_aload_n (pc := 24) C dX1_copyFrom_24 0 rfl ?_
  refine g_get (pc := 25) C (j := 5) hn_2.1 rfl rfl (by decide) u_211 dX1_copyFrom_25 ?_
  refine g_aload_n (pc := 28) C dX1_copyFrom_28 1 rfl ?_
  refine g_get (pc := 29) C (j := 5) hp_4.1 rfl rfl (by decide) u_211 dX1_copyFrom_29 ?_
  refine g_callV (pc := 32) C (As := [.ref (A (o + 1))]) (rest := []) (b := (a + 1)) (n_X4_copyFrom A P g_1 (a + 1) (o + 1) (by omega) hn_2.2 hp_4.2) (NLN.o hn_2.2) rfl rfl Y_X4_copyFrom u_583 N_X4_copyFrom ⟨by decide, by decide⟩ ⟨by decide, by decide⟩ (Nat.le_of_ble_eq_true rfl) rfl dX1_copyFrom_32 ?_
  rintro _ _ _ g_5 ⟨rfl, rfl, rfl, hn_6, hf_7⟩
  have h_8 := hf_7.at (by omega) hn_2.1
  have hp_9 := LT.fr hp_4 hf_7 (by omega)
  show V K 0 0 P A g_5 [(0, .ref (A a)), (1, .ref (A o))] 35 []
  exact g_vret (pc := 35) C R ⟨rfl, rfl, rfl, ⟨h_8, hn_6⟩, hf_3.tr (Fr.mo hf_7 (by omega) (by omega))⟩ (by decide) (by decide) dX1_copyFrom_35
abbrev rm_X2_end : Room := { frames := 1, cells := 0, slots := 0, locals := 20 }
theorem Y_X2_end : pY yX2_end cX2_end 1 (Option.none : Option Jvm.ClassFile.FieldType) := ⟨u_377, u_378, u_8, u_379⟩
theorem N_X2_end : yX2_end.cls ≠ "java/lang/invoke/MethodHandle" ∧ yX2_end.cls ≠ "java/lang/invoke/VarHandle" ∧ (parseMethodDescriptor yX2_end.desc).map (fun d => d.parameters.length) = some 0 := by decide +kernel
set_option maxRecDepth 20000 in
set_option maxHeartbeats 4000000 in
theorem c_X2_end (A : Nat → Nat) (P : List Nat) (g : pM) (a : Nat) {m : Mi} (h : MS A g a m) : PM yX2_end cX2_end 1 (Option.none : Option Jvm.ClassFile.FieldType) rm_X2_end [.ref (A a)] P A g (fun v g' => v = none ∧ MS A g' a none ∧ Fr g g' a (a + 3)) := by
  have hl := h.2
  refine px_intro (by decide +kernel) (Nat.le_of_ble_eq_true rfl) (fun K sz C R => ?_)
  show V K 0 0 P A g [(0, .ref (A a))] 0 []
  refine g_aload_n (pc := 0) C dX2_end_0 0 rfl ?_
  refine g_iconst (pc := 1) C dX2_end_1 (v := nI 0) rfl ?_
  refine g_put (pc := 2) C (j := 0) h.1 rfl (by decide) (Nat.le_of_ble_eq_true rfl) u_113 rfl pfd_Z rfl rfl dX2_end_2 ?_
  obtain ⟨g_1, hg_1⟩ : ∃ yM : pM, yM = va_up g a (ob 2 [.int (nI 0), .int (miH m), .ref (A (a + 1))]) := ⟨_, rfl⟩
  show V K 0 0 P A (va_up g a (ob 2 [.int (nI 0), .int (miH m), .ref (A (a + 1))])) [(0, .ref (A a))] 5 []
  rw [← hg_1]
  have h_2 : g_1 a = ob 2 [.int (nI 0), .int (miH m), .ref (A (a + 1))] := by rw [hg_1]; exact va_up_self _ _ _
  have hf_3 : Fr g g_1 a (a + 1) := by rw [hg_1]; exact Fr.up (by omega) (by omega)
  have hp_4 := NLN.fr hl hf_3 (by omega)
  refine g_aload_n (pc := 5) C dX2_end_5 0 rfl ?_
  refine g_iconst (pc := 6) C dX2_end_6 (v := nI 0) rfl ?_
  refine g_put (pc := 7) C (j := 1) h_2 rfl (by decide) (Nat.le_of_ble_eq_true rfl) u_116 rfl pfd_I rfl rfl dX2_end_7 ?_
  obtain ⟨g_5, hg_5⟩ : ∃ yM : pM, yM = va_up g_1 a (ob 2 [.int (nI 0), .int (nI 0), .ref (A (a + 1))]) := ⟨_, rfl⟩
  show V K 0 0 P A (va_up g_1 a (ob 2 [.int (nI 0), .int (nI 0), .ref (A (a + 1))])) [(0, .ref (A a))] 10 []
  rw [← hg_5]
  have h_6 : g_5 a = ob 2 [.int (nI 0), .int (nI 0), .ref (A (a + 1))] := by rw [hg_5]; exact va_up_self _ _ _
  have hf_7 : Fr g_1 g_5 a (a + 1) := by rw [hg_5]; exact Fr.up (by omega) (by omega)
  have hp_8 := NLN.fr hp_4 hf_7 (by omega)
  refine g_aload_n (pc := 10) C dX2_end_10 0 rfl ?_
  refine g_get (pc := 11) C (j := 2) h_6 rfl rfl (by decide) u_118 dX2_end_11 ?_
  refine g_callV (pc := 14) C (As := []) (rest := []) (b := (a + 1)) (n_X4_clear A P g_5 (a + 1) hp_8) (NLN.o hp_8) rfl rfl Y_X4_clear u_380 N_X4_clear ⟨by decide, by decide⟩ ⟨by decide, by decide⟩ (Nat.le_of_ble_eq_true rfl) rfl dX2_end_14 ?_
  rintro _ _ _ g_9 ⟨rfl, rfl, rfl, hn_10, hf_11⟩
  have h_12 := hf_11.at (by omega) h_6
  show V K 0 0 P A g_9 [(0, .ref (A a))] 17 []
  exact g_vret (pc := 17) C R ⟨rfl, rfl, rfl, ⟨h_12, hn_10⟩, (show Fr g _ a (a + 3) from fun k hk => by rw [hg_5, va_up_ne _ _ (by omega), hg_1, va_up_ne _ _ (by omega)]).tr (Fr.mo hf_11 (by omega) (by omega))⟩ (by decide) (by decide) dX2_end_17
abbrev rm_X2_copyFrom : Room := { frames := 2, cells := 0, slots := 0, locals := 43 }
theorem Y_X2_copyFrom : pY yX2_copyFrom cX2_copyFrom 2 (Option.none : Option Jvm.ClassFile.FieldType) := ⟨u_817, u_818, u_8, u_819⟩
theorem N_X2_copyFrom : yX2_copyFrom.cls ≠ "java/lang/invoke/MethodHandle" ∧ yX2_copyFrom.cls ≠ "java/lang/invoke/VarHandle" ∧ (parseMethodDescriptor yX2_copyFrom.desc).map (fun d => d.parameters.length) = some 1 := by decide +kernel
set_option maxRecDepth 20000 in
set_option maxHeartbeats 4000000 in
theorem c_X2_copyFrom (A : Nat → Nat) (P : List Nat) (g : pM) (a : Nat) (o : Nat) {m m2 : Mi} (hx : o + 3 ≤ a ∨ a + 3 ≤ o) (h : MS A g a m) (h2 : MS A g o m2) : PM yX2_copyFrom cX2_copyFrom 2 (Option.none : Option Jvm.ClassFile.FieldType) rm_X2_copyFrom [.ref (A a), .ref (A o)] P A g (fun v g' => v = none ∧ MS A g' a m2 ∧ Fr g g' a (a + 3)) := by
  have hl := h.2
  have hl2 := h2.2
  refine px_intro (by decide +kernel) (Nat.le_of_ble_eq_true rfl) (fun K sz C R => ?_)
  show V K 0 0 P A g [(0, .ref (A a)), (1, .ref (A o))] 0 []
  refine g_aload_n (pc := 0) C dX2_copyFrom_0 0 rfl ?_
  refine g_aload_n (pc := 1) C dX2_copyFrom_1 1 rfl ?_
  refine g_get (pc := 2) C (j := 0) h2.1 rfl rfl (by decide) u_113 dX2_copyFrom_2 ?_
  refine g_put (pc := 5) C (j := 0) h.1 rfl (by decide) (Nat.le_of_ble_eq_true rfl) u_113 rfl pfd_Z (miO_n _) (miO_f _) dX2_copyFrom_5 ?_
  obtain ⟨g_1, hg_1⟩ : ∃ yM : pM, yM = va_up g a (ob 2 [.int (miO m2), .int (miH m), .ref (A (a + 1))]) := ⟨_, rfl⟩
  show V K 0 0 P A (va_up g a (ob 2 [.int (miO m2), .int (miH m), .ref (A (a + 1))])) [(0, .ref (A a)), (1, .ref (A o))] 8 []
  rw [← hg_1]
  have h_2 : g_1 a = ob 2 [.int (miO m2), .int (miH m), .ref (A (a + 1))] := by rw [hg_1]; exact va_up_self _ _ _
  have h_3 : g_1 o = ob 2 [.int (miO m2), .int (miH m2), .ref (A (o + 1))] := by rw [hg_1, va_up_ne _ _ (show o ≠ a from by omega)]; exact h2.1
  have hf_4 : Fr g g_1 a (a + 1) := by rw [hg_1]; exact Fr.up (by omega) (by omega)
  have hp_5 := NLN.fr hl hf_4 (by omega)
  have hp_6 := NLN.fr hl2 hf_4 (by omega)
  refine g_aload_n (pc := 8) C dX2_copyFrom_8 0 rfl ?_
  refine g_aload_n (pc := 9) C dX2_copyFrom_9 1 rfl ?_
  refine g_get (pc := 10) C (j := 1) h_3 rfl rfl (by decide) u_116 dX2_copyFrom_10 ?_
  refine g_put (pc := 13) C (j := 1) h_2 rfl (by decide) (Nat.le_of_ble_eq_true rfl) u_116 rfl pfd_I rfl rfl dX2_copyFrom_13 ?_
  obtain ⟨g_7, hg_7⟩ : ∃ yM : pM, yM = va_up g_1 a (ob 2 [.int (miO m2), .int (miH m2), .ref (A (a + 1))]) := ⟨_, rfl⟩
  show V K 0 0 P A (va_up g_1 a (ob 2 [.int (miO m2), .int (miH m2), .ref (A (a + 1))])) [(0, .ref (A a)), (1, .ref (A o))] 16 []
  rw [← hg_7]
  have h_8 : g_7 a = ob 2 [.int (miO m2), .int (miH m2), .ref (A (a + 1))] := by rw [hg_7]; exact va_up_self _ _ _
  have h_9 : g_7 o = ob 2 [.int (miO m2), .int (miH m2), .ref (A (o + 1))] := by rw [hg_7, va_up_ne _ _ (show o ≠ a from by omega)]; exact h_3
  have hf_10 : Fr g_1 g_7 a (a + 1) := by rw [hg_7]; exact Fr.up (by omega) (by omega)
  have hp_11 := NLN.fr hp_5 hf_10 (by omega)
  have hp_12 := NLN.fr hp_6 hf_10 (by omega)
  refine g_aload_n (pc := 16) C dX2_copyFrom_16 0 rfl ?_
  refine g_get (pc := 17) C (j := 2) h_8 rfl rfl (by decide) u_118 dX2_copyFrom_17 ?_
  refine g_aload_n (pc := 20) C dX2_copyFrom_20 1 rfl ?_
  refine g_get (pc := 21) C (j := 2) h_9 rfl rfl (by decide) u_118 dX2_copyFrom_21 ?_
  refine g_callV (pc := 24) C (As := [.ref (A (o + 1))]) (rest := []) (b := (a + 1)) (n_X4_copyFrom A P g_7 (a + 1) (o + 1) (by omega) hp_11 hp_12) (NLN.o hp_11) rfl rfl Y_X4_copyFrom u_820 N_X4_copyFrom ⟨by decide, by decide⟩ ⟨by decide, by decide⟩ (Nat.le_of_ble_eq_true rfl) rfl dX2_copyFrom_24 ?_
  rintro _ _ _ g_13 ⟨rfl, rfl, rfl, hn_14, hf_15⟩
  have h_16 := hf_15.at (by omega) h_8
  have h_17 := hf_15.at (by omega) h_9
  have hp_18 := NLN.fr hp_12 hf_15 (by omega)
  show V K 0 0 P A g_13 [(0, .ref (A a)), (1, .ref (A o))] 27 []
  exact g_vret (pc := 27) C R ⟨rfl, rfl, rfl, ⟨h_16, hn_14⟩, (show Fr g _ a (a + 3) from fun k hk => by rw [hg_7, va_up_ne _ _ (by omega), hg_1, va_up_ne _ _ (by omega)]).tr (Fr.mo hf_15 (by omega) (by omega))⟩ (by decide) (by decide) dX2_copyFrom_27
abbrev rm_X3_isLazy : Room := { frames := 0, cells := 0, slots := 0, locals := 0 }
theorem Y_X3_isLazy : pY yX3_isLazy cX3_isLazy 2 (Option.some Jvm.ClassFile.FieldType.boolean) := ⟨u_520, u_521, u_5, u_522⟩
theorem N_X3_isLazy : yX3_isLazy.cls ≠ "java/lang/invoke/MethodHandle" ∧ yX3_isLazy.cls ≠ "java/lang/invoke/VarHandle" ∧ (parseMethodDescriptor yX3_isLazy.desc).map (fun d => d.parameters.length) = some 1 := by decide +kernel
set_option maxRecDepth 20000 in
set_option maxHeartbeats 4000000 in
theorem c_X3_isLazy (A : Nat → Nat) (P : List Nat) (g : pM) (a : Nat) {i : Nat} {d : Nd} (q : Nat) (hq : q < 16) (hw : ndW d) (h : ND A g a i d) : PM yX3_isLazy cX3_isLazy 2 (Option.some Jvm.ClassFile.FieldType.boolean) rm_X3_isLazy [.ref (A a), .int (nI q)] P A g (fun v g' => v = some (.int (b32 ((nLz d).testBit q))) ∧ g = g') := by
  obtain ⟨hw1, hw2, hw3, hw4⟩ := hw
  refine px_intro (by decide +kernel) (Nat.le_of_ble_eq_true rfl) (fun K sz C R => ?_)
  show V K 0 0 P A g [(0, .ref (A a)), (1, .int (nI q))] 0 []
  refine g_aload_n (pc := 0) C dX3_isLazy_0 0 rfl ?_
  refine g_get (pc := 1) C (j := 4) h.1 rfl rfl (by decide) u_145 dX3_isLazy_1 ?_
  refine g_iconst (pc := 4) C dX3_isLazy_4 (v := nI 1) rfl ?_
  refine g_iload_n (pc := 5) C dX3_isLazy_5 1 rfl ?_
  refine g_ishl (pc := 6) C dX3_isLazy_6 (z := nI (2 ^ q)) (shl_nI (by omega)) ?_
  refine g_iand (pc := 7) C dX3_isLazy_7 (z := nI (nLz d) &&& nI (2 ^ q)) rfl ?_
  refine g_if_eq (pc := 8) C dX3_isLazy_8 (tgt := 15) (by decide) (fun c_8 => ?_) (fun c_8 => ?_)
  ·
    refine g_iconst (pc := 15) C dX3_isLazy_15 (v := nI 0) rfl ?_
    exact g_zret (pc := 16) C R (Or.inl rfl) ⟨rfl, rfl, by rw [(bit_nI _ _ hw1 hq).mp c_8]; rfl, rfl⟩ (by decide) (by decide) dX3_isLazy_16
  ·
    refine g_iconst (pc := 11) C dX3_isLazy_11 (v := nI 1) rfl ?_
    refine g_goto (pc := 12) C dX3_isLazy_12 (tgt := 16) (by decide) ?_
    exact g_zret (pc := 16) C R (Or.inr rfl) ⟨rfl, rfl, by rw [show (nLz d).testBit q = true from by cases e : (nLz d).testBit q; exact absurd ((bit_nI _ _ hw1 hq).mpr e) c_8; rfl]; rfl, rfl⟩ (by decide) (by decide) dX3_isLazy_16
abbrev rm_X3_makeLazy : Room := { frames := 0, cells := 0, slots := 0, locals := 0 }
theorem Y_X3_makeLazy : pY yX3_makeLazy cX3_makeLazy 2 (Option.none : Option Jvm.ClassFile.FieldType) := ⟨u_678, u_679, u_5, u_680⟩
theorem N_X3_makeLazy : yX3_makeLazy.cls ≠ "java/lang/invoke/MethodHandle" ∧ yX3_makeLazy.cls ≠ "java/lang/invoke/VarHandle" ∧ (parseMethodDescriptor yX3_makeLazy.desc).map (fun d => d.parameters.length) = some 1 := by decide +kernel
set_option maxRecDepth 20000 in
set_option maxHeartbeats 4000000 in
theorem c_X3_makeLazy (A : Nat → Nat) (P : List Nat) (g : pM) (a : Nat) {i : Nat} {d : Nd} (q : Nat) (hq : q < 16) (h : ND A g a i d) : PM yX3_makeLazy cX3_makeLazy 2 (Option.none : Option Jvm.ClassFile.FieldType) rm_X3_makeLazy [.ref (A a), .int (nI q)] P A g (fun v g' => v = none ∧ ND A g' a i (sLz d (nLz d ||| 2 ^ q)) ∧ Fr g g' a (a + 1)) := by
  refine px_intro (by decide +kernel) (Nat.le_of_ble_eq_true rfl) (fun K sz C R => ?_)
  show V K 0 0 P A g [(0, .ref (A a)), (1, .int (nI q))] 0 []
  refine g_aload_n (pc := 0) C dX3_makeLazy_0 0 rfl ?_
  refine g_dup (pc := 1) C dX3_makeLazy_1 rfl ?_
  refine g_get (pc := 2) C (j := 4) h.1 rfl rfl (by decide) u_145 dX3_makeLazy_2 ?_
  refine g_iconst (pc := 5) C dX3_makeLazy_5 (v := nI 1) rfl ?_
  refine g_iload_n (pc := 6) C dX3_makeLazy_6 1 rfl ?_
  refine g_ishl (pc := 7) C dX3_makeLazy_7 (z := nI (2 ^ q)) (shl_nI (by omega)) ?_
  refine g_ior (pc := 8) C dX3_makeLazy_8 (z := nI (nLz d ||| 2 ^ q)) (or_nI _ _) ?_
  refine g_put (pc := 9) C (j := 4) h.1 rfl (by decide) (Nat.le_of_ble_eq_true rfl) u_145 rfl pfd_I rfl rfl dX3_makeLazy_9 ?_
  obtain ⟨g_1, hg_1⟩ : ∃ yM : pM, yM = va_up g a (ob 3 [.int (nI i), .int (b32 (nLv d)), .ref (A (a + 1)), .ref (A (a + 3)), .int (nI (nLz d ||| 2 ^ q)), .int (onv (nAs d)), .int (nI (nAk d)), .int (nGo d), .ref (A (a + 5)), .ref (A (a + 6))]) := ⟨_, rfl⟩
  show V K 0 0 P A (va_up g a (ob 3 [.int (nI i), .int (b32 (nLv d)), .ref (A (a + 1)), .ref (A (a + 3)), .int (nI (nLz d ||| 2 ^ q)), .int (onv (nAs d)), .int (nI (nAk d)), .int (nGo d), .ref (A (a + 5)), .ref (A (a + 6))])) [(0, .ref (A a)), (1, .int (nI q))] 12 []
  rw [← hg_1]
  have hN_2 : ND A g_1 a i (sLz d (nLz d ||| 2 ^ q)) := ND.put h hg_1 rfl rfl rfl rfl
  exact g_vret (pc := 12) C R ⟨rfl, rfl, rfl, hN_2, by rw [hg_1]; exact Fr.up (by omega) (by omega)⟩ (by decide) (by decide) dX3_makeLazy_12
abbrev rm_X3_makeEager : Room := { frames := 0, cells := 0, slots := 0, locals := 0 }
theorem Y_X3_makeEager : pY yX3_makeEager cX3_makeEager 2 (Option.none : Option Jvm.ClassFile.FieldType) := ⟨u_552, u_553, u_5, u_554⟩
theorem N_X3_makeEager : yX3_makeEager.cls ≠ "java/lang/invoke/MethodHandle" ∧ yX3_makeEager.cls ≠ "java/lang/invoke/VarHandle" ∧ (parseMethodDescriptor yX3_makeEager.desc).map (fun d => d.parameters.length) = some 1 := by decide +kernel
set_option maxRecDepth 20000 in
set_option maxHeartbeats 4000000 in
theorem c_X3_makeEager (A : Nat → Nat) (P : List Nat) (g : pM) (a : Nat) {i : Nat} {d : Nd} (q : Nat) (hq : q < 16) (hw : ndW d) (h : ND A g a i d) : PM yX3_makeEager cX3_makeEager 2 (Option.none : Option Jvm.ClassFile.FieldType) rm_X3_makeEager [.ref (A a), .int (nI q)] P A g (fun v g' => v = none ∧ ND A g' a i (sLz d (bo (nLz d) q)) ∧ Fr g g' a (a + 1)) := by
  obtain ⟨hw1, hw2, hw3, hw4⟩ := hw
  refine px_intro (by decide +kernel) (Nat.le_of_ble_eq_true rfl) (fun K sz C R => ?_)
  show V K 0 0 P A g [(0, .ref (A a)), (1, .int (nI q))] 0 []
  refine g_aload_n (pc := 0) C dX3_makeEager_0 0 rfl ?_
  refine g_dup (pc := 1) C dX3_makeEager_1 rfl ?_
  refine g_get (pc := 2) C (j := 4) h.1 rfl rfl (by decide) u_145 dX3_makeEager_2 ?_
  refine g_iconst (pc := 5) C dX3_makeEager_5 (v := nI 1) rfl ?_
  refine g_iload_n (pc := 6) C dX3_makeEager_6 1 rfl ?_
  refine g_ishl (pc := 7) C dX3_makeEager_7 (z := nI (2 ^ q)) (shl_nI (by omega)) ?_
  refine g_iconst (pc := 8) C dX3_makeEager_8 (v := (-1)) rfl ?_
  refine g_ixor (pc := 9) C dX3_makeEager_9 (z := nI (2 ^ q) ^^^ (-1)) rfl ?_
  refine g_iand (pc := 10) C dX3_makeEager_10 (z := nI (bo (nLz d) q)) (bo_nI hw1 hq) ?_
  refine g_put (pc := 11) C (j := 4) h.1 rfl (by decide) (Nat.le_of_ble_eq_true rfl) u_145 rfl pfd_I rfl rfl dX3_makeEager_11 ?_
  obtain ⟨g_1, hg_1⟩ : ∃ yM : pM, yM = va_up g a (ob 3 [.int (nI i), .int (b32 (nLv d)), .ref (A (a + 1)), .ref (A (a + 3)), .int (nI (bo (nLz d) q)), .int (onv (nAs d)), .int (nI (nAk d)), .int (nGo d), .ref (A (a + 5)), .ref (A (a + 6))]) := ⟨_, rfl⟩
  show V K 0 0 P A (va_up g a (ob 3 [.int (nI i), .int (b32 (nLv d)), .ref (A (a + 1)), .ref (A (a + 3)), .int (nI (bo (nLz d) q)), .int (onv (nAs d)), .int (nI (nAk d)), .int (nGo d), .ref (A (a + 5)), .ref (A (a + 6))])) [(0, .ref (A a)), (1, .int (nI q))] 14 []
  rw [← hg_1]
  have hN_2 : ND A g_1 a i (sLz d (bo (nLz d) q)) := ND.put h hg_1 rfl rfl rfl rfl
  exact g_vret (pc := 14) C R ⟨rfl, rfl, rfl, hN_2, by rw [hg_1]; exact Fr.up (by omega) (by omega)⟩ (by decide) (by decide) dX3_makeEager_14
abbrev rm_X3_hopsOf : Room := { frames := 0, cells := 0, slots := 0, locals := 0 }
theorem Y_X3_hopsOf : pY yX3_hopsOf cX3_hopsOf 2 (Option.some Jvm.ClassFile.FieldType.int) := ⟨u_674, u_675, u_5, u_676⟩
theorem N_X3_hopsOf : yX3_hopsOf.cls ≠ "java/lang/invoke/MethodHandle" ∧ yX3_hopsOf.cls ≠ "java/lang/invoke/VarHandle" ∧ (parseMethodDescriptor yX3_hopsOf.desc).map (fun d => d.parameters.length) = some 1 := by decide +kernel
set_option maxRecDepth 20000 in
set_option maxHeartbeats 4000000 in
theorem c_X3_hopsOf (A : Nat → Nat) (P : List Nat) (g : pM) (a : Nat) {i : Nat} {d : Nd} (t : Nat) (ht : t < 24) (h : ND A g a i d) : PM yX3_hopsOf cX3_hopsOf 2 (Option.some Jvm.ClassFile.FieldType.int) rm_X3_hopsOf [.ref (A a), .int (nI t)] P A g (fun v g' => v = some (.int (onv (nHo d t))) ∧ g = g') := by
  obtain ⟨hrow, hho, hhr⟩ := h.2.2.2.1
  refine px_intro (by decide +kernel) (Nat.le_of_ble_eq_true rfl) (fun K sz C R => ?_)
  show V K 0 0 P A g [(0, .ref (A a)), (1, .int (nI t))] 0 []
  refine g_iload_n (pc := 0) C dX3_hopsOf_0 1 rfl ?_
  refine g_if_lt (pc := 1) C dX3_hopsOf_1 (tgt := 19) (by decide) (fun c_1 => ?_) (fun c_1 => ?_)
  ·
    have c_1 : t < 0 := (nI_ltI (by omega) (by omega)).mp c_1
    exfalso; omega
  ·
    have c_1 : ¬ t < 0 := fun h => c_1 ((nI_ltI (by omega) (by omega)).mpr h)
    refine g_iload_n (pc := 4) C dX3_hopsOf_4 1 rfl ?_
    refine g_bipush (pc := 5) C dX3_hopsOf_5 (v := nI 24) rfl ?_
    refine g_icmp_ge (pc := 7) C dX3_hopsOf_7 (tgt := 19) (by decide) (fun c_7 => ?_) (fun c_7 => ?_)
    ·
      have c_7 : 24 ≤ t := (nI_leI (by omega) (by omega)).mp c_7
      exfalso; omega
    ·
      have c_7 : ¬ 24 ≤ t := fun h => c_7 ((nI_leI (by omega) (by omega)).mpr h)
      refine g_aload_n (pc := 10) C dX3_hopsOf_10 0 rfl ?_
      refine g_get (pc := 11) C (j := 8) h.1 rfl rfl (by decide) u_156 dX3_hopsOf_11 ?_
      refine g_iload_n (pc := 14) C dX3_hopsOf_14 1 rfl ?_
      refine g_iald (pc := 15) C hho (nI_clamp (by omega)) (nI_in0 (n := 24) (by omega) (by omega)) dX3_hopsOf_15 (x := hrow t) rfl ?_
      refine g_goto (pc := 16) C dX3_hopsOf_16 (tgt := 21) (by decide) ?_
      exact g_iret (pc := 21) C R ⟨rfl, rfl, by rw [hhr t ht], rfl⟩ (by decide) (by decide) dX3_hopsOf_21
abbrev rm_X3_missOf : Room := { frames := 0, cells := 0, slots := 0, locals := 0 }
theorem Y_X3_missOf : pY yX3_missOf cX3_missOf 2 (Option.some (Jvm.ClassFile.FieldType.object "ViewBroadcast$Miss")) := ⟨u_542, u_543, u_5, u_544⟩
theorem N_X3_missOf : yX3_missOf.cls ≠ "java/lang/invoke/MethodHandle" ∧ yX3_missOf.cls ≠ "java/lang/invoke/VarHandle" ∧ (parseMethodDescriptor yX3_missOf.desc).map (fun d => d.parameters.length) = some 1 := by decide +kernel
set_option maxRecDepth 20000 in
set_option maxHeartbeats 4000000 in
theorem c_X3_missOf (A : Nat → Nat) (P : List Nat) (g : pM) (a : Nat) {i : Nat} {d : Nd} (t : Nat) (ht : t < 24) (h : ND A g a i d) : PM yX3_missOf cX3_missOf 2 (Option.some (Jvm.ClassFile.FieldType.object "ViewBroadcast$Miss")) rm_X3_missOf [.ref (A a), .int (nI t)] P A g (fun v g' => v = some (.ref (A (a + 10 + 3 * t))) ∧ g = g') := by
  refine px_intro (by decide +kernel) (Nat.le_of_ble_eq_true rfl) (fun K sz C R => ?_)
  show V K 0 0 P A g [(0, .ref (A a)), (1, .int (nI t))] 0 []
  refine g_iload_n (pc := 0) C dX3_missOf_0 1 rfl ?_
  refine g_if_lt (pc := 1) C dX3_missOf_1 (tgt := 19) (by decide) (fun c_1 => ?_) (fun c_1 => ?_)
  ·
    have c_1 : t < 0 := (nI_ltI (by omega) (by omega)).mp c_1
    exfalso; omega
  ·
    have c_1 : ¬ t < 0 := fun h => c_1 ((nI_ltI (by omega) (by omega)).mpr h)
    refine g_iload_n (pc := 4) C dX3_missOf_4 1 rfl ?_
    refine g_bipush (pc := 5) C dX3_missOf_5 (v := nI 24) rfl ?_
    refine g_icmp_ge (pc := 7) C dX3_missOf_7 (tgt := 19) (by decide) (fun c_7 => ?_) (fun c_7 => ?_)
    ·
      have c_7 : 24 ≤ t := (nI_leI (by omega) (by omega)).mp c_7
      exfalso; omega
    ·
      have c_7 : ¬ 24 ≤ t := fun h => c_7 ((nI_leI (by omega) (by omega)).mpr h)
      refine g_aload_n (pc := 10) C dX3_missOf_10 0 rfl ?_
      refine g_get (pc := 11) C (j := 9) h.1 rfl rfl (by decide) u_157 dX3_missOf_11 ?_
      refine g_iload_n (pc := 14) C dX3_missOf_14 1 rfl ?_
      refine g_aldq (pc := 15) C h.2.2.2.2.1 (fun _ => rfl) (nI_clamp (by omega)) (nI_in0 (by omega) (by omega)) dX3_missOf_15 (x := A (a + 10 + 3 * t)) (mrow_at (by omega)) ?_
      refine g_goto (pc := 16) C dX3_missOf_16 (tgt := 25) (by decide) ?_
      exact g_aret (pc := 25) C R (Or.inr ⟨_, rfl⟩) ⟨rfl, rfl, ⟨rfl, rfl⟩⟩ (by decide) (by decide) dX3_missOf_25
abbrev rm_X3_knows : Room := { frames := 1, cells := 0, slots := 0, locals := 21 }
theorem Y_X3_knows : pY yX3_knows cX3_knows 2 (Option.some Jvm.ClassFile.FieldType.boolean) := ⟨u_670, u_671, u_5, u_672⟩
theorem N_X3_knows : yX3_knows.cls ≠ "java/lang/invoke/MethodHandle" ∧ yX3_knows.cls ≠ "java/lang/invoke/VarHandle" ∧ (parseMethodDescriptor yX3_knows.desc).map (fun d => d.parameters.length) = some 1 := by decide +kernel
set_option maxRecDepth 20000 in
set_option maxHeartbeats 4000000 in
theorem c_X3_knows (A : Nat → Nat) (P : List Nat) (g : pM) (a : Nat) {i : Nat} {d : Nd} (t : Nat) (ht : t < 24) (hw : ndW d) (h : ND A g a i d) : PM yX3_knows cX3_knows 2 (Option.some Jvm.ClassFile.FieldType.boolean) rm_X3_knows [.ref (A a), .int (nI t)] P A g (fun v g' => v = some (.int (b32 (nHo d t).isSome)) ∧ g = g') := by
  obtain ⟨hw1, hw2, hw3, hw4⟩ := hw
  refine px_intro (by decide +kernel) (Nat.le_of_ble_eq_true rfl) (fun K sz C R => ?_)
  show V K 0 0 P A g [(0, .ref (A a)), (1, .int (nI t))] 0 []
  refine g_aload_n (pc := 0) C dX3_knows_0 0 rfl ?_
  refine g_iload_n (pc := 1) C dX3_knows_1 1 rfl ?_
  refine g_callV (pc := 2) C (As := [.int (nI t)]) (rest := []) (b := a) (c_X3_hopsOf A P g a t (by omega) h) h.1 rfl rfl Y_X3_hopsOf u_673 N_X3_hopsOf ⟨by decide, by decide⟩ ⟨by decide, by decide⟩ (Nat.le_of_ble_eq_true rfl) rfl dX3_knows_2 ?_
  rintro _ _ _ _ ⟨rfl, rfl, rfl, rfl⟩
  show V K 0 0 P A g [(0, .ref (A a)), (1, .int (nI t))] 5 [.int (onv (nHo d t))]
  refine g_bipush (pc := 5) C dX3_knows_5 (v := (-6)) rfl ?_
  refine g_icmp_eq (pc := 7) C dX3_knows_7 (tgt := 14) (by decide) (fun c_7 => ?_) (fun c_7 => ?_)
  ·
    refine g_iconst (pc := 14) C dX3_knows_14 (v := nI 0) rfl ?_
    exact g_zret (pc := 15) C R (Or.inl rfl) ⟨rfl, rfl, by rw [(onv_none (hw4 t)).mp c_7]; rfl, rfl⟩ (by decide) (by decide) dX3_knows_15
  ·
    refine g_iconst (pc := 10) C dX3_knows_10 (v := nI 1) rfl ?_
    refine g_goto (pc := 11) C dX3_knows_11 (tgt := 15) (by decide) ?_
    exact g_zret (pc := 15) C R (Or.inr rfl) ⟨rfl, rfl, by rw [show (nHo d t).isSome = true from by cases e : nHo d t; exact absurd ((onv_none (hw4 t)).mpr e) c_7; rfl]; rfl, rfl⟩ (by decide) (by decide) dX3_knows_15
abbrev rm_X3_learn : Room := { frames := 2, cells := 0, slots := 0, locals := 40 }
theorem Y_X3_learn : pY yX3_learn cX3_learn 3 (Option.none : Option Jvm.ClassFile.FieldType) := ⟨u_515, u_516, u_5, u_517⟩
theorem N_X3_learn : yX3_learn.cls ≠ "java/lang/invoke/MethodHandle" ∧ yX3_learn.cls ≠ "java/lang/invoke/VarHandle" ∧ (parseMethodDescriptor yX3_learn.desc).map (fun d => d.parameters.length) = some 2 := by decide +kernel
set_option maxRecDepth 20000 in
set_option maxHeartbeats 4000000 in
theorem c_X3_learn (A : Nat → Nat) (P : List Nat) (g : pM) (a : Nat) {i : Nat} {d : Nd} (t n : Nat) (ht : t < 24) (h : ND A g a i d) : PM yX3_learn cX3_learn 3 (Option.none : Option Jvm.ClassFile.FieldType) rm_X3_learn [.ref (A a), .int (nI t), .int (nI n)] P A g (fun v g' => v = none ∧ ND A g' a i (sMi (sHo d (va_up (nHo d) t (some n))) (va_up (nMi d) t none)) ∧ Fr g g' a (a + 100)) := by
  obtain ⟨hrow, hho, hhr⟩ := h.2.2.2.1
  refine px_intro (by decide +kernel) (Nat.le_of_ble_eq_true rfl) (fun K sz C R => ?_)
  show V K 0 0 P A g [(0, .ref (A a)), (1, .int (nI t)), (2, .int (nI n))] 0 []
  refine g_iload_n (pc := 0) C dX3_learn_0 1 rfl ?_
  refine g_if_lt (pc := 1) C dX3_learn_1 (tgt := 26) (by decide) (fun c_1 => ?_) (fun c_1 => ?_)
  ·
    have c_1 : t < 0 := (nI_ltI (by omega) (by omega)).mp c_1
    exfalso; omega
  ·
    have c_1 : ¬ t < 0 := fun h => c_1 ((nI_ltI (by omega) (by omega)).mpr h)
    refine g_iload_n (pc := 4) C dX3_learn_4 1 rfl ?_
    refine g_bipush (pc := 5) C dX3_learn_5 (v := nI 24) rfl ?_
    refine g_icmp_ge (pc := 7) C dX3_learn_7 (tgt := 26) (by decide) (fun c_7 => ?_) (fun c_7 => ?_)
    ·
      have c_7 : 24 ≤ t := (nI_leI (by omega) (by omega)).mp c_7
      exfalso; omega
    ·
      have c_7 : ¬ 24 ≤ t := fun h => c_7 ((nI_leI (by omega) (by omega)).mpr h)
      refine g_aload_n (pc := 10) C dX3_learn_10 0 rfl ?_
      refine g_get (pc := 11) C (j := 8) h.1 rfl rfl (by decide) u_156 dX3_learn_11 ?_
      refine g_iload_n (pc := 14) C dX3_learn_14 1 rfl ?_
      refine g_iload_n (pc := 15) C dX3_learn_15 2 rfl ?_
      refine g_iast (pc := 16) C hho (nI_clamp (by omega)) (nI_in0 (n := 24) (by omega) (by omega)) dX3_learn_16 ?_
      obtain ⟨g_1, hg_1⟩ : ∃ yM : pM, yM = va_up g (a + 5) (ai 0 24 (upd hrow t (nI n))) := ⟨_, rfl⟩
      show V K 0 0 P A (va_up g (a + 5) (ai 0 24 (upd hrow t (nI n)))) [(0, .ref (A a)), (1, .int (nI t)), (2, .int (nI n))] 17 []
      rw [← hg_1]
      have h_2 : g_1 (a + 5) = ai 0 24 (upd hrow t (nI n)) := by rw [hg_1]; exact va_up_self _ _ _
      have hfa : Fr g g_1 (a + 5) (a + 6) := by rw [hg_1]; exact Fr.up (by omega) (by omega)
      have hNa := ND.ho h hfa (HO.up (some n) hhr h_2)
      refine g_aload_n (pc := 17) C dX3_learn_17 0 rfl ?_
      refine g_get (pc := 18) C (j := 9) hNa.1 rfl rfl (by decide) u_157 dX3_learn_18 ?_
      refine g_iload_n (pc := 21) C dX3_learn_21 1 rfl ?_
      refine g_aldq (pc := 22) C hNa.2.2.2.2.1 (fun _ => rfl) (nI_clamp (by omega)) (nI_in0 (by omega) (by omega)) dX3_learn_22 (x := A (a + 10 + 3 * t)) (mrow_at (by omega)) ?_
      refine g_callV (pc := 23) C (As := []) (rest := []) (b := (a + 10 + 3 * t)) (c_X2_end A P g_1 (a + 10 + 3 * t) (hNa.2.2.2.2.2 t (by omega))) (hNa.2.2.2.2.2 t (by omega)).1 rfl rfl Y_X2_end u_376 N_X2_end ⟨by decide, by decide⟩ ⟨by decide, by decide⟩ (Nat.le_of_ble_eq_true rfl) rfl dX3_learn_23 ?_
      rintro _ _ _ g_3 ⟨rfl, rfl, rfl, hn_4, hf_5⟩
      have hN_6 := ND.mi hNa (by omega) hf_5 hn_4
      show V K 0 0 P A g_3 [(0, .ref (A a)), (1, .int (nI t)), (2, .int (nI n))] 26 []
      exact g_vret (pc := 26) C R ⟨rfl, rfl, rfl, hN_6, (Fr.mo hfa (by omega) (by omega)).tr (Fr.mo hf_5 (by omega) (by omega))⟩ (by decide) (by decide) dX3_learn_26
abbrev rm_X3_heardCount : Room := { frames := 2, cells := 0, slots := 0, locals := 42 }
theorem Y_X3_heardCount : pY yX3_heardCount cX3_heardCount 3 (Option.some Jvm.ClassFile.FieldType.int) := ⟨u_730, u_731, u_5, u_732⟩
theorem N_X3_heardCount : yX3_heardCount.cls ≠ "java/lang/invoke/MethodHandle" ∧ yX3_heardCount.cls ≠ "java/lang/invoke/VarHandle" ∧ (parseMethodDescriptor yX3_heardCount.desc).map (fun d => d.parameters.length) = some 0 := by decide +kernel
set_option maxRecDepth 20000 in
set_option maxHeartbeats 4000000 in
theorem c_X3_heardCount (A : Nat → Nat) (P : List Nat) (g : pM) (a : Nat) {i : Nat} {d : Nd} (hw : ndW d) (h : ND A g a i d) : PM yX3_heardCount cX3_heardCount 3 (Option.some Jvm.ClassFile.FieldType.int) rm_X3_heardCount [.ref (A a)] P A g (fun v g' => v = some (.int (nI (ct (fun t => (nHo d t).isSome) 24))) ∧ g = g') := by
  refine px_intro (by decide +kernel) (Nat.le_of_ble_eq_true rfl) (fun K sz C R => ?_)
  show V K 0 0 P A g [(0, .ref (A a))] 0 []
  refine g_iconst (pc := 0) C dX3_heardCount_0 (v := nI 0) rfl ?_
  refine g_istore_n (pc := 1) C dX3_heardCount_1 (by decide) (lv' := [(0, .ref (A a)), (1, .int (nI 0))]) [1, 0] rfl ?_
  refine g_iconst (pc := 2) C dX3_heardCount_2 (v := nI 0) rfl ?_
  refine g_istore_n (pc := 3) C dX3_heardCount_3 (by decide) (lv' := [(0, .ref (A a)), (1, .int (nI 0)), (2, .int (nI 0))]) [1, 2, 0] rfl ?_
  have lp_4 : ∀ (n : Nat) (t : Nat) (ht : t ≤ 24), 24 - t < n → V K 0 0 P A g [(0, .ref (A a)), (1, .int (nI (ct (fun t => (nHo d t).isSome) t))), (2, .int (nI t))] 4 [] := by
    intro n
    induction n with
    | zero => intro t ht hμ; exact absurd hμ (Nat.not_lt_zero _)
    | succ n ih =>
      intro t ht hμ
      refine g_iload_n (pc := 4) C dX3_heardCount_4 2 rfl ?_
      refine g_bipush (pc := 5) C dX3_heardCount_5 (v := nI 24) rfl ?_
      refine g_icmp_ge (pc := 7) C dX3_heardCount_7 (tgt := 32) (by decide) (fun c_7 => ?_) (fun c_7 => ?_)
      ·
        have c_7 : 24 ≤ t := (nI_leI (by omega) (by omega)).mp c_7
        refine g_iload_n (pc := 32) C dX3_heardCount_32 1 rfl ?_
        exact g_iret (pc := 33) C R ⟨rfl, rfl, by rw [show t = 24 by omega], rfl⟩ (by decide) (by decide) dX3_heardCount_33
      ·
        have c_7 : ¬ 24 ≤ t := fun h => c_7 ((nI_leI (by omega) (by omega)).mpr h)
        refine g_iload_n (pc := 10) C dX3_heardCount_10 1 rfl ?_
        refine g_aload_n (pc := 11) C dX3_heardCount_11 0 rfl ?_
        refine g_iload_n (pc := 12) C dX3_heardCount_12 2 rfl ?_
        refine g_callV (pc := 13) C (As := [.int (nI t)]) (rest := [.int (nI (ct (fun t => (nHo d t).isSome) t))]) (b := a) (c_X3_knows A P g a t (by omega) (by assumption) h) h.1 rfl rfl Y_X3_knows u_733 N_X3_knows ⟨by decide, by decide⟩ ⟨by decide, by decide⟩ (Nat.le_of_ble_eq_true rfl) rfl dX3_heardCount_13 ?_
        rintro _ _ _ _ ⟨rfl, rfl, rfl, rfl⟩
        show V K 0 0 P A g [(0, .ref (A a)), (1, .int (nI (ct (fun t => (nHo d t).isSome) t))), (2, .int (nI t))] 16 [.int (b32 (nHo d t).isSome), .int (nI (ct (fun t => (nHo d t).isSome) t))]
        refine g_if_eq (pc := 16) C dX3_heardCount_16 (tgt := 23) (by decide) (fun c_16 => ?_) (fun c_16 => ?_)
        ·
          refine g_iconst (pc := 23) C dX3_heardCount_23 (v := nI 0) rfl ?_
          refine g_iadd (pc := 24) C dX3_heardCount_24 (z := nI (ct (fun t => (nHo d t).isSome) (t + 1))) (by rw [nI_add]; congr 1; simp only [ct]; rw [if_neg (by rw [(b32_0 _).mp c_16]; decide)]) ?_
          refine g_istore_n (pc := 25) C dX3_heardCount_25 (by decide) (lv' := [(0, .ref (A a)), (1, .int (nI (ct (fun t => (nHo d t).isSome) (t + 1)))), (2, .int (nI t))]) [1, 0, 2] rfl ?_
          refine g_iinc (pc := 26) C dX3_heardCount_26 (by decide) 2 rfl (v := nI (t + 1)) (nI_i1 _) (lv' := [(0, .ref (A a)), (1, .int (nI (ct (fun t => (nHo d t).isSome) (t + 1)))), (2, .int (nI (t + 1)))]) [1, 2, 0] rfl ?_
          refine g_goto (pc := 29) C dX3_heardCount_29 (tgt := 4) (by decide) ?_
          exact ih (t + 1) (by omega) (by omega)
        ·
          refine g_iconst (pc := 19) C dX3_heardCount_19 (v := nI 1) rfl ?_
          refine g_goto (pc := 20) C dX3_heardCount_20 (tgt := 24) (by decide) ?_
          refine g_iadd (pc := 24) C dX3_heardCount_24 (z := nI (ct (fun t => (nHo d t).isSome) (t + 1))) (by rw [nI_add]; congr 1; simp only [ct]; rw [if_pos (by cases e : (nHo d t).isSome; exact absurd ((b32_0 _).mpr e) c_16; rfl)]) ?_
          refine g_istore_n (pc := 25) C dX3_heardCount_25 (by decide) (lv' := [(0, .ref (A a)), (1, .int (nI (ct (fun t => (nHo d t).isSome) (t + 1)))), (2, .int (nI t))]) [1, 0, 2] rfl ?_
          refine g_iinc (pc := 26) C dX3_heardCount_26 (by decide) 2 rfl (v := nI (t + 1)) (nI_i1 _) (lv' := [(0, .ref (A a)), (1, .int (nI (ct (fun t => (nHo d t).isSome) (t + 1)))), (2, .int (nI (t + 1)))]) [1, 2, 0] rfl ?_
          refine g_goto (pc := 29) C dX3_heardCount_29 (tgt := 4) (by decide) ?_
          exact ih (t + 1) (by omega) (by omega)
  exact lp_4 (_ + 1) 0 (Nat.zero_le _) (Nat.lt_succ_self _)
abbrev rm_X3_missedCount : Room := { frames := 0, cells := 0, slots := 0, locals := 0 }
theorem Y_X3_missedCount : pY yX3_missedCount cX3_missedCount 3 (Option.some Jvm.ClassFile.FieldType.int) := ⟨u_735, u_736, u_5, u_737⟩
theorem N_X3_missedCount : yX3_missedCount.cls ≠ "java/lang/invoke/MethodHandle" ∧ yX3_missedCount.cls ≠ "java/lang/invoke/VarHandle" ∧ (parseMethodDescriptor yX3_missedCount.desc).map (fun d => d.parameters.length) = some 0 := by decide +kernel
set_option maxRecDepth 20000 in
set_option maxHeartbeats 4000000 in
theorem c_X3_missedCount (A : Nat → Nat) (P : List Nat) (g : pM) (a : Nat) {i : Nat} {d : Nd} (h : ND A g a i d) : PM yX3_missedCount cX3_missedCount 3 (Option.some Jvm.ClassFile.FieldType.int) rm_X3_missedCount [.ref (A a)] P A g (fun v g' => v = some (.int (nI (ct (fun t => (nMi d t).isSome) 24))) ∧ g = g') := by
  refine px_intro (by decide +kernel) (Nat.le_of_ble_eq_true rfl) (fun K sz C R => ?_)
  show V K 0 0 P A g [(0, .ref (A a))] 0 []
  refine g_iconst (pc := 0) C dX3_missedCount_0 (v := nI 0) rfl ?_
  refine g_istore_n (pc := 1) C dX3_missedCount_1 (by decide) (lv' := [(0, .ref (A a)), (1, .int (nI 0))]) [1, 0] rfl ?_
  refine g_iconst (pc := 2) C dX3_missedCount_2 (v := nI 0) rfl ?_
  refine g_istore_n (pc := 3) C dX3_missedCount_3 (by decide) (lv' := [(0, .ref (A a)), (1, .int (nI 0)), (2, .int (nI 0))]) [1, 2, 0] rfl ?_
  have lp_4 : ∀ (n : Nat) (t : Nat) (ht : t ≤ 24), 24 - t < n → V K 0 0 P A g [(0, .ref (A a)), (1, .int (nI (ct (fun t => (nMi d t).isSome) t))), (2, .int (nI t))] 4 [] := by
    intro n
    induction n with
    | zero => intro t ht hμ; exact absurd hμ (Nat.not_lt_zero _)
    | succ n ih =>
      intro t ht hμ
      refine g_iload_n (pc := 4) C dX3_missedCount_4 2 rfl ?_
      refine g_bipush (pc := 5) C dX3_missedCount_5 (v := nI 24) rfl ?_
      refine g_icmp_ge (pc := 7) C dX3_missedCount_7 (tgt := 36) (by decide) (fun c_7 => ?_) (fun c_7 => ?_)
      ·
        have c_7 : 24 ≤ t := (nI_leI (by omega) (by omega)).mp c_7
        refine g_iload_n (pc := 36) C dX3_missedCount_36 1 rfl ?_
        exact g_iret (pc := 37) C R ⟨rfl, rfl, by rw [show t = 24 by omega], rfl⟩ (by decide) (by decide) dX3_missedCount_37
      ·
        have c_7 : ¬ 24 ≤ t := fun h => c_7 ((nI_leI (by omega) (by omega)).mpr h)
        refine g_iload_n (pc := 10) C dX3_missedCount_10 1 rfl ?_
        refine g_aload_n (pc := 11) C dX3_missedCount_11 0 rfl ?_
        refine g_get (pc := 12) C (j := 9) h.1 rfl rfl (by decide) u_157 dX3_missedCount_12 ?_
        refine g_iload_n (pc := 15) C dX3_missedCount_15 2 rfl ?_
        refine g_aldq (pc := 16) C h.2.2.2.2.1 (fun _ => rfl) (nI_clamp (by omega)) (nI_in0 (by omega) (by omega)) dX3_missedCount_16 (x := A (a + 10 + 3 * t)) (mrow_at (by omega)) ?_
        refine g_get (pc := 17) C (j := 0) (h.2.2.2.2.2 t (by omega)).1 rfl rfl (by decide) u_115 dX3_missedCount_17 ?_
        refine g_if_eq (pc := 20) C dX3_missedCount_20 (tgt := 27) (by decide) (fun c_20 => ?_) (fun c_20 => ?_)
        ·
          refine g_iconst (pc := 27) C dX3_missedCount_27 (v := nI 0) rfl ?_
          refine g_iadd (pc := 28) C dX3_missedCount_28 (z := nI (ct (fun t => (nMi d t).isSome) (t + 1))) (by rw [nI_add]; congr 1; simp only [ct]; rw [if_neg (by rw [(miO_0 _).mp c_20]; decide)]) ?_
          refine g_istore_n (pc := 29) C dX3_missedCount_29 (by decide) (lv' := [(0, .ref (A a)), (1, .int (nI (ct (fun t => (nMi d t).isSome) (t + 1)))), (2, .int (nI t))]) [1, 0, 2] rfl ?_
          refine g_iinc (pc := 30) C dX3_missedCount_30 (by decide) 2 rfl (v := nI (t + 1)) (nI_i1 _) (lv' := [(0, .ref (A a)), (1, .int (nI (ct (fun t => (nMi d t).isSome) (t + 1)))), (2, .int (nI (t + 1)))]) [1, 2, 0] rfl ?_
          refine g_goto (pc := 33) C dX3_missedCount_33 (tgt := 4) (by decide) ?_
          exact ih (t + 1) (by omega) (by omega)
        ·
          refine g_iconst (pc := 23) C dX3_missedCount_23 (v := nI 1) rfl ?_
          refine g_goto (pc := 24) C dX3_missedCount_24 (tgt := 28) (by decide) ?_
          refine g_iadd (pc := 28) C dX3_missedCount_28 (z := nI (ct (fun t => (nMi d t).isSome) (t + 1))) (by rw [nI_add]; congr 1; simp only [ct]; rw [if_pos (by cases e : (nMi d t).isSome; exact absurd ((miO_0 _).mpr e) c_20; rfl)]) ?_
          refine g_istore_n (pc := 29) C dX3_missedCount_29 (by decide) (lv' := [(0, .ref (A a)), (1, .int (nI (ct (fun t => (nMi d t).isSome) (t + 1)))), (2, .int (nI t))]) [1, 0, 2] rfl ?_
          refine g_iinc (pc := 30) C dX3_missedCount_30 (by decide) 2 rfl (v := nI (t + 1)) (nI_i1 _) (lv' := [(0, .ref (A a)), (1, .int (nI (ct (fun t => (nMi d t).isSome) (t + 1)))), (2, .int (nI (t + 1)))]) [1, 2, 0] rfl ?_
          refine g_goto (pc := 33) C dX3_missedCount_33 (tgt := 4) (by decide) ?_
          exact ih (t + 1) (by omega) (by omega)
  exact lp_4 (_ + 1) 0 (Nat.zero_le _) (Nat.lt_succ_self _)
abbrev rm_X3_unlink : Room := { frames := 2, cells := 0, slots := 0, locals := 43 }
theorem Y_X3_unlink : pY yX3_unlink cX3_unlink 3 (Option.none : Option Jvm.ClassFile.FieldType) := ⟨u_613, u_614, u_5, u_615⟩
theorem N_X3_unlink : yX3_unlink.cls ≠ "java/lang/invoke/MethodHandle" ∧ yX3_unlink.cls ≠ "java/lang/invoke/VarHandle" ∧ (parseMethodDescriptor yX3_unlink.desc).map (fun d => d.parameters.length) = some 1 := by decide +kernel
set_option maxRecDepth 20000 in
set_option maxHeartbeats 4000000 in
theorem c_X3_unlink (A : Nat → Nat) (P : List Nat) (g : pM) (a : Nat) {i : Nat} {d : Nd} (q : Nat) (hq : q < 16) (hw : ndW d) (h : ND A g a i d) : PM yX3_unlink cX3_unlink 3 (Option.none : Option Jvm.ClassFile.FieldType) rm_X3_unlink [.ref (A a), .int (nI q)] P A g (fun v g' => v = none ∧ ND A g' a i (uln d q) ∧ Fr g g' a (a + 100)) := by
  refine px_intro (by decide +kernel) (Nat.le_of_ble_eq_true rfl) (fun K sz C R => ?_)
  show V K 0 0 P A g [(0, .ref (A a)), (1, .int (nI q))] 0 []
  refine g_aload_n (pc := 0) C dX3_unlink_0 0 rfl ?_
  refine g_get (pc := 1) C (j := 2) h.1 rfl rfl (by decide) u_137 dX3_unlink_1 ?_
  refine g_iload_n (pc := 4) C dX3_unlink_4 1 rfl ?_
  refine g_callV (pc := 5) C (As := [.int (nI q)]) (rest := []) (b := (a + 1)) (n_X4_remove A P g (a + 1) q (by omega) h.2.1) (NLN.o h.2.1) rfl rfl Y_X4_remove u_616 N_X4_remove ⟨by decide, by decide⟩ ⟨by decide, by decide⟩ (Nat.le_of_ble_eq_true rfl) rfl dX3_unlink_5 ?_
  rintro _ _ _ g_1 ⟨rfl, rfl, rfl, hn_2, hf_3⟩
  have hN_4 := ND.ac h hf_3 hn_2
  show V K 0 0 P A g_1 [(0, .ref (A a)), (1, .int (nI q))] 8 []
  have hw_2 : ndW (sAc d ((nAc d).erase q)) := hw
  refine g_aload_n (pc := 8) C dX3_unlink_8 0 rfl ?_
  refine g_iload_n (pc := 9) C dX3_unlink_9 1 rfl ?_
  refine g_callV (pc := 10) C (As := [.int (nI q)]) (rest := []) (b := a) (c_X3_makeEager A P g_1 a q (by omega) (by assumption) hN_4) hN_4.1 rfl rfl Y_X3_makeEager u_617 N_X3_makeEager ⟨by decide, by decide⟩ ⟨by decide, by decide⟩ (Nat.le_of_ble_eq_true rfl) rfl dX3_unlink_10 ?_
  rintro _ _ _ g_5 ⟨rfl, rfl, rfl, hn_6, hf_7⟩
  show V K 0 0 P A g_5 [(0, .ref (A a)), (1, .int (nI q))] 13 []
  refine g_iconst (pc := 13) C dX3_unlink_13 (v := nI 0) rfl ?_
  refine g_istore_n (pc := 14) C dX3_unlink_14 (by decide) (lv' := [(0, .ref (A a)), (1, .int (nI q)), (2, .int (nI 0))]) [1, 2, 0] rfl ?_
  have lp_15 : ∀ (n : Nat) (t : Nat) (ht : t ≤ 24) (gl : pM) (hN : ND A gl a i (sMi (uln d q) (mix2 (fun t => muq q (nMi d t)) (nMi d) t))) (hf : Fr g gl a (a + 100)), 24 - t < n → V K 0 0 P A gl [(0, .ref (A a)), (1, .int (nI q)), (2, .int (nI t))] 15 [] := by
    intro n
    induction n with
    | zero => intro t ht gl hN hf hμ; exact absurd hμ (Nat.not_lt_zero _)
    | succ n ih =>
      intro t ht gl hN hf hμ
      refine g_iload_n (pc := 15) C dX3_unlink_15 2 rfl ?_
      refine g_bipush (pc := 16) C dX3_unlink_16 (v := nI 24) rfl ?_
      refine g_icmp_ge (pc := 18) C dX3_unlink_18 (tgt := 40) (by decide) (fun c_18 => ?_) (fun c_18 => ?_)
      ·
        have c_18 : 24 ≤ t := (nI_leI (by omega) (by omega)).mp c_18
        exact g_vret (pc := 40) C R ⟨rfl, rfl, rfl, nd_unl (show t = 24 by omega) hN, hf⟩ (by decide) (by decide) dX3_unlink_40
      ·
        have c_18 : ¬ 24 ≤ t := fun h => c_18 ((nI_leI (by omega) (by omega)).mpr h)
        refine g_aload_n (pc := 21) C dX3_unlink_21 0 rfl ?_
        refine g_get (pc := 22) C (j := 9) hN.1 rfl rfl (by decide) u_157 dX3_unlink_22 ?_
        refine g_iload_n (pc := 25) C dX3_unlink_25 2 rfl ?_
        refine g_aldq (pc := 26) C hN.2.2.2.2.1 (fun _ => rfl) (nI_clamp (by omega)) (nI_in0 (by omega) (by omega)) dX3_unlink_26 (x := A (a + 10 + 3 * t)) (mrow_at (by omega)) ?_
        refine g_get (pc := 27) C (j := 2) (hN.2.2.2.2.2 t (by omega)).1 rfl rfl (by decide) u_120 dX3_unlink_27 ?_
        refine g_iload_n (pc := 30) C dX3_unlink_30 1 rfl ?_
        refine g_callV (pc := 31) C (As := [.int (nI q)]) (rest := []) (b := (a + 10 + 3 * t + 1)) (n_X4_remove A P gl (a + 10 + 3 * t + 1) q hq (hN.2.2.2.2.2 t (by omega)).2) (NLN.o (hN.2.2.2.2.2 t (by omega)).2) rfl rfl Y_X4_remove u_616 N_X4_remove ⟨by decide, by decide⟩ ⟨by decide, by decide⟩ (Nat.le_of_ble_eq_true rfl) rfl dX3_unlink_31 ?_
        rintro _ _ _ g2 ⟨rfl, rfl, rfl, hn2, hf2⟩
        have hm2 : MS A g2 (a + 10 + 3 * t) (muq q (nMi d t)) := ms_unl (by have := hN.2.2.2.2.2 t (by omega); rw [show nMi (sMi (uln d q) (mix2 (fun t => muq q (nMi d t)) (nMi d) t)) t = nMi d t from mix2_g (fun t => muq q (nMi d t)) (nMi d)] at this; exact this) hf2 (by rw [show nMi (sMi (uln d q) (mix2 (fun t => muq q (nMi d t)) (nMi d) t)) t = nMi d t from mix2_g (fun t => muq q (nMi d t)) (nMi d)] at hn2; exact hn2)
        have hN2 := ND.mi hN (by omega) (hf2.mo (by omega) (by omega)) hm2
        show V K 0 0 P A g2 [(0, .ref (A a)), (1, .int (nI q)), (2, .int (nI t))] 34 []
        refine g_iinc (pc := 34) C dX3_unlink_34 (by decide) 2 rfl (v := nI (t + 1)) (nI_i1 _) (lv' := [(0, .ref (A a)), (1, .int (nI q)), (2, .int (nI (t + 1)))]) [1, 2, 0] rfl ?_
        refine g_goto (pc := 37) C dX3_unlink_37 (tgt := 15) (by decide) ?_
        exact ih (t + 1) (by omega) _ (by rw [← mix2_s]; exact hN2) (hf.tr (hf2.mo (by omega) (by omega))) (by omega)
  exact lp_15 (_ + 1) 0 (Nat.zero_le _) _ (by rw [mix2_0]; exact hn_6) ((Fr.tr (Fr.mo hf_3 (by omega) (by omega)) (Fr.mo hf_7 (by omega) (by omega)) : Fr g _ a (a + 100)).mo (by omega) (by omega)) (Nat.lt_succ_self _)
abbrev rm_X3_begin : Room := { frames := 2, cells := 0, slots := 0, locals := 40 }
theorem Y_X3_begin : pY yX3_begin cX3_begin 2 (Option.none : Option Jvm.ClassFile.FieldType) := ⟨u_369, u_370, u_5, u_371⟩
theorem N_X3_begin : yX3_begin.cls ≠ "java/lang/invoke/MethodHandle" ∧ yX3_begin.cls ≠ "java/lang/invoke/VarHandle" ∧ (parseMethodDescriptor yX3_begin.desc).map (fun d => d.parameters.length) = some 0 := by decide +kernel
set_option maxRecDepth 20000 in
set_option maxHeartbeats 4000000 in
theorem c_X3_begin (A : Nat → Nat) (P : List Nat) (g : pM) (a : Nat) {i : Nat} {d : Nd} (h : ND A g a i d) : PM yX3_begin cX3_begin 2 (Option.none : Option Jvm.ClassFile.FieldType) rm_X3_begin [.ref (A a)] P A g (fun v g' => v = none ∧ ND A g' a i (nd0) ∧ Fr g g' a (a + 100)) := by
  refine px_intro (by decide +kernel) (Nat.le_of_ble_eq_true rfl) (fun K sz C R => ?_)
  show V K 0 0 P A g [(0, .ref (A a))] 0 []
  refine g_aload_n (pc := 0) C dX3_begin_0 0 rfl ?_
  refine g_iconst (pc := 1) C dX3_begin_1 (v := nI 1) rfl ?_
  refine g_put (pc := 2) C (j := 1) h.1 rfl (by decide) (Nat.le_of_ble_eq_true rfl) u_133 rfl pfd_Z rfl rfl dX3_begin_2 ?_
  obtain ⟨g_1, hg_1⟩ : ∃ yM : pM, yM = va_up g a (ob 3 [.int (nI i), .int (nI 1), .ref (A (a + 1)), .ref (A (a + 3)), .int (nI (nLz d)), .int (onv (nAs d)), .int (nI (nAk d)), .int (nGo d), .ref (A (a + 5)), .ref (A (a + 6))]) := ⟨_, rfl⟩
  show V K 0 0 P A (va_up g a (ob 3 [.int (nI i), .int (nI 1), .ref (A (a + 1)), .ref (A (a + 3)), .int (nI (nLz d)), .int (onv (nAs d)), .int (nI (nAk d)), .int (nGo d), .ref (A (a + 5)), .ref (A (a + 6))])) [(0, .ref (A a))] 5 []
  rw [← hg_1]
  have hN_2 : ND A g_1 a i (sLv d true) := ND.put h hg_1 rfl rfl rfl rfl
  refine g_aload_n (pc := 5) C dX3_begin_5 0 rfl ?_
  refine g_get (pc := 6) C (j := 2) hN_2.1 rfl rfl (by decide) u_137 dX3_begin_6 ?_
  refine g_callV (pc := 9) C (As := []) (rest := []) (b := (a + 1)) (n_X4_clear A P g_1 (a + 1) hN_2.2.1) (NLN.o hN_2.2.1) rfl rfl Y_X4_clear u_372 N_X4_clear ⟨by decide, by decide⟩ ⟨by decide, by decide⟩ (Nat.le_of_ble_eq_true rfl) rfl dX3_begin_9 ?_
  rintro _ _ _ g_3 ⟨rfl, rfl, rfl, hn_4, hf_5⟩
  have hN_6 := ND.ac hN_2 hf_5 hn_4
  show V K 0 0 P A g_3 [(0, .ref (A a))] 12 []
  refine g_aload_n (pc := 12) C dX3_begin_12 0 rfl ?_
  refine g_get (pc := 13) C (j := 3) hN_6.1 rfl rfl (by decide) u_142 dX3_begin_13 ?_
  refine g_callV (pc := 16) C (As := []) (rest := []) (b := (a + 3)) (n_X4_clear A P g_3 (a + 3) hN_6.2.2.1) (NLN.o hN_6.2.2.1) rfl rfl Y_X4_clear u_372 N_X4_clear ⟨by decide, by decide⟩ ⟨by decide, by decide⟩ (Nat.le_of_ble_eq_true rfl) rfl dX3_begin_16 ?_
  rintro _ _ _ g_7 ⟨rfl, rfl, rfl, hn_8, hf_9⟩
  have hN_10 := ND.pa hN_6 hf_9 hn_8
  show V K 0 0 P A g_7 [(0, .ref (A a))] 19 []
  refine g_aload_n (pc := 19) C dX3_begin_19 0 rfl ?_
  refine g_iconst (pc := 20) C dX3_begin_20 (v := nI 0) rfl ?_
  refine g_put (pc := 21) C (j := 4) hN_10.1 rfl (by decide) (Nat.le_of_ble_eq_true rfl) u_145 rfl pfd_I rfl rfl dX3_begin_21 ?_
  obtain ⟨g_11, hg_11⟩ : ∃ yM : pM, yM = va_up g_7 a (ob 3 [.int (nI i), .int (b32 (nLv (sPa (sAc (sLv d true) ([])) ([])))), .ref (A (a + 1)), .ref (A (a + 3)), .int (nI 0), .int (onv (nAs (sPa (sAc (sLv d true) ([])) ([])))), .int (nI (nAk (sPa (sAc (sLv d true) ([])) ([])))), .int (nGo (sPa (sAc (sLv d true) ([])) ([]))), .ref (A (a + 5)), .ref (A (a + 6))]) := ⟨_, rfl⟩
  show V K 0 0 P A (va_up g_7 a (ob 3 [.int (nI i), .int (b32 (nLv (sPa (sAc (sLv d true) ([])) ([])))), .ref (A (a + 1)), .ref (A (a + 3)), .int (nI 0), .int (onv (nAs (sPa (sAc (sLv d true) ([])) ([])))), .int (nI (nAk (sPa (sAc (sLv d true) ([])) ([])))), .int (nGo (sPa (sAc (sLv d true) ([])) ([]))), .ref (A (a + 5)), .ref (A (a + 6))])) [(0, .ref (A a))] 24 []
  rw [← hg_11]
  have hN_12 : ND A g_11 a i (sLz (sPa (sAc (sLv d true) ([])) ([])) 0) := ND.put hN_10 hg_11 rfl rfl rfl rfl
  refine g_aload_n (pc := 24) C dX3_begin_24 0 rfl ?_
  refine g_bipush (pc := 25) C dX3_begin_25 (v := (-6)) rfl ?_
  refine g_put (pc := 27) C (j := 5) hN_12.1 rfl (by decide) (Nat.le_of_ble_eq_true rfl) u_146 rfl pfd_I rfl rfl dX3_begin_27 ?_
  obtain ⟨g_13, hg_13⟩ : ∃ yM : pM, yM = va_up g_11 a (ob 3 [.int (nI i), .int (b32 (nLv (sLz (sPa (sAc (sLv d true) ([])) ([])) 0))), .ref (A (a + 1)), .ref (A (a + 3)), .int (nI (nLz (sLz (sPa (sAc (sLv d true) ([])) ([])) 0))), .int (-6), .int (nI (nAk (sLz (sPa (sAc (sLv d true) ([])) ([])) 0))), .int (nGo (sLz (sPa (sAc (sLv d true) ([])) ([])) 0)), .ref (A (a + 5)), .ref (A (a + 6))]) := ⟨_, rfl⟩
  show V K 0 0 P A (va_up g_11 a (ob 3 [.int (nI i), .int (b32 (nLv (sLz (sPa (sAc (sLv d true) ([])) ([])) 0))), .ref (A (a + 1)), .ref (A (a + 3)), .int (nI (nLz (sLz (sPa (sAc (sLv d true) ([])) ([])) 0))), .int (-6), .int (nI (nAk (sLz (sPa (sAc (sLv d true) ([])) ([])) 0))), .int (nGo (sLz (sPa (sAc (sLv d true) ([])) ([])) 0)), .ref (A (a + 5)), .ref (A (a + 6))])) [(0, .ref (A a))] 30 []
  rw [← hg_13]
  have hN_14 : ND A g_13 a i (sAs (sLz (sPa (sAc (sLv d true) ([])) ([])) 0) none) := ND.put hN_12 hg_13 rfl rfl rfl rfl
  refine g_aload_n (pc := 30) C dX3_begin_30 0 rfl ?_
  refine g_iconst (pc := 31) C dX3_begin_31 (v := nI 0) rfl ?_
  refine g_put (pc := 32) C (j := 6) hN_14.1 rfl (by decide) (Nat.le_of_ble_eq_true rfl) u_150 rfl pfd_I rfl rfl dX3_begin_32 ?_
  obtain ⟨g_15, hg_15⟩ : ∃ yM : pM, yM = va_up g_13 a (ob 3 [.int (nI i), .int (b32 (nLv (sAs (sLz (sPa (sAc (sLv d true) ([])) ([])) 0) none))), .ref (A (a + 1)), .ref (A (a + 3)), .int (nI (nLz (sAs (sLz (sPa (sAc (sLv d true) ([])) ([])) 0) none))), .int (onv (nAs (sAs (sLz (sPa (sAc (sLv d true) ([])) ([])) 0) none))), .int (nI 0), .int (nGo (sAs (sLz (sPa (sAc (sLv d true) ([])) ([])) 0) none)), .ref (A (a + 5)), .ref (A (a + 6))]) := ⟨_, rfl⟩
  show V K 0 0 P A (va_up g_13 a (ob 3 [.int (nI i), .int (b32 (nLv (sAs (sLz (sPa (sAc (sLv d true) ([])) ([])) 0) none))), .ref (A (a + 1)), .ref (A (a + 3)), .int (nI (nLz (sAs (sLz (sPa (sAc (sLv d true) ([])) ([])) 0) none))), .int (onv (nAs (sAs (sLz (sPa (sAc (sLv d true) ([])) ([])) 0) none))), .int (nI 0), .int (nGo (sAs (sLz (sPa (sAc (sLv d true) ([])) ([])) 0) none)), .ref (A (a + 5)), .ref (A (a + 6))])) [(0, .ref (A a))] 35 []
  rw [← hg_15]
  have hN_16 : ND A g_15 a i (sAk (sAs (sLz (sPa (sAc (sLv d true) ([])) ([])) 0) none) 0) := ND.put hN_14 hg_15 rfl rfl rfl rfl
  refine g_aload_n (pc := 35) C dX3_begin_35 0 rfl ?_
  refine g_iconst (pc := 36) C dX3_begin_36 (v := nI 0) rfl ?_
  refine g_put (pc := 37) C (j := 7) hN_16.1 rfl (by decide) (Nat.le_of_ble_eq_true rfl) u_153 rfl pfd_I rfl rfl dX3_begin_37 ?_
  obtain ⟨g_17, hg_17⟩ : ∃ yM : pM, yM = va_up g_15 a (ob 3 [.int (nI i), .int (b32 (nLv (sAk (sAs (sLz (sPa (sAc (sLv d true) ([])) ([])) 0) none) 0))), .ref (A (a + 1)), .ref (A (a + 3)), .int (nI (nLz (sAk (sAs (sLz (sPa (sAc (sLv d true) ([])) ([])) 0) none) 0))), .int (onv (nAs (sAk (sAs (sLz (sPa (sAc (sLv d true) ([])) ([])) 0) none) 0))), .int (nI (nAk (sAk (sAs (sLz (sPa (sAc (sLv d true) ([])) ([])) 0) none) 0))), .int (nI 0), .ref (A (a + 5)), .ref (A (a + 6))]) := ⟨_, rfl⟩
  show V K 0 0 P A (va_up g_15 a (ob 3 [.int (nI i), .int (b32 (nLv (sAk (sAs (sLz (sPa (sAc (sLv d true) ([])) ([])) 0) none) 0))), .ref (A (a + 1)), .ref (A (a + 3)), .int (nI (nLz (sAk (sAs (sLz (sPa (sAc (sLv d true) ([])) ([])) 0) none) 0))), .int (onv (nAs (sAk (sAs (sLz (sPa (sAc (sLv d true) ([])) ([])) 0) none) 0))), .int (nI (nAk (sAk (sAs (sLz (sPa (sAc (sLv d true) ([])) ([])) 0) none) 0))), .int (nI 0), .ref (A (a + 5)), .ref (A (a + 6))])) [(0, .ref (A a))] 40 []
  rw [← hg_17]
  have hN_18 : ND A g_17 a i (sGo (sAk (sAs (sLz (sPa (sAc (sLv d true) ([])) ([])) 0) none) 0) 0) := ND.put hN_16 hg_17 rfl rfl rfl rfl
  refine g_iconst (pc := 40) C dX3_begin_40 (v := nI 0) rfl ?_
  refine g_istore_n (pc := 41) C dX3_begin_41 (by decide) (lv' := [(0, .ref (A a)), (1, .int (nI 0))]) [1, 0] rfl ?_
  have lp_42 : ∀ (n : Nat) (t : Nat) (ht : t ≤ 24) (gl : pM) (hN : ND A gl a i (sMi (sHo nd0 (mix2 (fun _ => none) (nHo d) t)) (mix2 (fun _ => none) (nMi d) t))) (hf : Fr g gl a (a + 100)), 24 - t < n → V K 0 0 P A gl [(0, .ref (A a)), (1, .int (nI t))] 42 [] := by
    intro n
    induction n with
    | zero => intro t ht gl hN hf hμ; exact absurd hμ (Nat.not_lt_zero _)
    | succ n ih =>
      intro t ht gl hN hf hμ
      obtain ⟨hrow, hho, hhr⟩ := hN.2.2.2.1
      refine g_iload_n (pc := 42) C dX3_begin_42 1 rfl ?_
      refine g_bipush (pc := 43) C dX3_begin_43 (v := nI 24) rfl ?_
      refine g_icmp_ge (pc := 45) C dX3_begin_45 (tgt := 71) (by decide) (fun c_45 => ?_) (fun c_45 => ?_)
      ·
        have c_45 : 24 ≤ t := (nI_leI (by omega) (by omega)).mp c_45
        exact g_vret (pc := 71) C R ⟨rfl, rfl, rfl, nd_beg (show t = 24 by omega) hN, hf⟩ (by decide) (by decide) dX3_begin_71
      ·
        have c_45 : ¬ 24 ≤ t := fun h => c_45 ((nI_leI (by omega) (by omega)).mpr h)
        refine g_aload_n (pc := 48) C dX3_begin_48 0 rfl ?_
        refine g_get (pc := 49) C (j := 8) hN.1 rfl rfl (by decide) u_156 dX3_begin_49 ?_
        refine g_iload_n (pc := 52) C dX3_begin_52 1 rfl ?_
        refine g_bipush (pc := 53) C dX3_begin_53 (v := (-6)) rfl ?_
        refine g_iast (pc := 55) C hho (nI_clamp (by omega)) (nI_in0 (n := 24) (by omega) (by omega)) dX3_begin_55 ?_
        obtain ⟨g_19, hg_19⟩ : ∃ yM : pM, yM = va_up gl (a + 5) (ai 0 24 (upd hrow t (-6))) := ⟨_, rfl⟩
        show V K 0 0 P A (va_up gl (a + 5) (ai 0 24 (upd hrow t (-6)))) [(0, .ref (A a)), (1, .int (nI t))] 56 []
        rw [← hg_19]
        have h_20 : g_19 (a + 5) = ai 0 24 (upd hrow t (-6)) := by rw [hg_19]; exact va_up_self _ _ _
        have hfa : Fr gl g_19 (a + 5) (a + 6) := by rw [hg_19]; exact Fr.up (by omega) (by omega)
        have hNa := ND.ho hN hfa (HO.up none hhr h_20)
        refine g_aload_n (pc := 56) C dX3_begin_56 0 rfl ?_
        refine g_get (pc := 57) C (j := 9) hNa.1 rfl rfl (by decide) u_157 dX3_begin_57 ?_
        refine g_iload_n (pc := 60) C dX3_begin_60 1 rfl ?_
        refine g_aldq (pc := 61) C hNa.2.2.2.2.1 (fun _ => rfl) (nI_clamp (by omega)) (nI_in0 (by omega) (by omega)) dX3_begin_61 (x := A (a + 10 + 3 * t)) (mrow_at (by omega)) ?_
        refine g_callV (pc := 62) C (As := []) (rest := []) (b := (a + 10 + 3 * t)) (c_X2_end A P g_19 (a + 10 + 3 * t) (hNa.2.2.2.2.2 t (by omega))) (hNa.2.2.2.2.2 t (by omega)).1 rfl rfl Y_X2_end u_376 N_X2_end ⟨by decide, by decide⟩ ⟨by decide, by decide⟩ (Nat.le_of_ble_eq_true rfl) rfl dX3_begin_62 ?_
        rintro _ _ _ g_21 ⟨rfl, rfl, rfl, hn_22, hf_23⟩
        have hN_24 := ND.mi hNa (by omega) hf_23 hn_22
        show V K 0 0 P A g_21 [(0, .ref (A a)), (1, .int (nI t))] 65 []
        refine g_iinc (pc := 65) C dX3_begin_65 (by decide) 1 rfl (v := nI (t + 1)) (nI_i1 _) (lv' := [(0, .ref (A a)), (1, .int (nI (t + 1)))]) [1, 0] rfl ?_
        refine g_goto (pc := 68) C dX3_begin_68 (tgt := 42) (by decide) ?_
        exact ih (t + 1) (by omega) _ (by rw [← mix2_s (fun _ => none) (nHo d), ← mix2_s (fun _ => none) (nMi d)]; exact hN_24) (hf.tr ((hfa.mo (by omega) (by omega)).tr (hf_23.mo (by omega) (by omega)))) (by omega)
  exact lp_42 (_ + 1) 0 (Nat.zero_le _) _ (by rw [mix2_0, mix2_0]; exact hN_18) (by first | exact Fr.rf | (intro k hk; rw [hg_17, va_up_ne _ _ (by omega), hg_15, va_up_ne _ _ (by omega), hg_13, va_up_ne _ _ (by omega), hg_11, va_up_ne _ _ (by omega), hf_9 k (by omega), hf_5 k (by omega), hg_1, va_up_ne _ _ (by omega)])) (Nat.lt_succ_self _)
abbrev rm_X3_copyFrom : Room := { frames := 3, cells := 0, slots := 0, locals := 64 }
theorem Y_X3_copyFrom : pY yX3_copyFrom cX3_copyFrom 3 (Option.none : Option Jvm.ClassFile.FieldType) := ⟨u_811, u_812, u_5, u_813⟩
theorem N_X3_copyFrom : yX3_copyFrom.cls ≠ "java/lang/invoke/MethodHandle" ∧ yX3_copyFrom.cls ≠ "java/lang/invoke/VarHandle" ∧ (parseMethodDescriptor yX3_copyFrom.desc).map (fun d => d.parameters.length) = some 1 := by decide +kernel
set_option maxRecDepth 20000 in
set_option maxHeartbeats 4000000 in
theorem c_X3_copyFrom (A : Nat → Nat) (P : List Nat) (g : pM) (a : Nat) {i : Nat} {d : Nd} (o : Nat) {j : Nat} {d2 : Nd} (hx : o + 100 ≤ a ∨ a + 100 ≤ o) (h : ND A g a i d) (h2 : ND A g o j d2) : PM yX3_copyFrom cX3_copyFrom 3 (Option.none : Option Jvm.ClassFile.FieldType) rm_X3_copyFrom [.ref (A a), .ref (A o)] P A g (fun v g' => v = none ∧ ND A g' a i (d2) ∧ Fr g g' a (a + 100)) := by
  refine px_intro (by decide +kernel) (Nat.le_of_ble_eq_true rfl) (fun K sz C R => ?_)
  show V K 0 0 P A g [(0, .ref (A a)), (1, .ref (A o))] 0 []
  refine g_aload_n (pc := 0) C dX3_copyFrom_0 0 rfl ?_
  refine g_aload_n (pc := 1) C dX3_copyFrom_1 1 rfl ?_
  refine g_get (pc := 2) C (j := 1) h2.1 rfl rfl (by decide) u_133 dX3_copyFrom_2 ?_
  refine g_put (pc := 5) C (j := 1) h.1 rfl (by decide) (Nat.le_of_ble_eq_true rfl) u_133 rfl pfd_Z (b32_n _) (b32_f _) dX3_copyFrom_5 ?_
  obtain ⟨g_1, hg_1⟩ : ∃ yM : pM, yM = va_up g a (ob 3 [.int (nI i), .int (b32 (nLv d2)), .ref (A (a + 1)), .ref (A (a + 3)), .int (nI (nLz d)), .int (onv (nAs d)), .int (nI (nAk d)), .int (nGo d), .ref (A (a + 5)), .ref (A (a + 6))]) := ⟨_, rfl⟩
  show V K 0 0 P A (va_up g a (ob 3 [.int (nI i), .int (b32 (nLv d2)), .ref (A (a + 1)), .ref (A (a + 3)), .int (nI (nLz d)), .int (onv (nAs d)), .int (nI (nAk d)), .int (nGo d), .ref (A (a + 5)), .ref (A (a + 6))])) [(0, .ref (A a)), (1, .ref (A o))] 8 []
  rw [← hg_1]
  have hN_2 : ND A g_1 a i (sLv d (nLv d2)) := ND.put h hg_1 rfl rfl rfl rfl
  have hf_3 : Fr g g_1 a (a + 1) := by rw [hg_1]; exact Fr.up (by omega) (by omega)
  have hp_4 := ND.fr h2 hf_3 (by omega)
  refine g_aload_n (pc := 8) C dX3_copyFrom_8 0 rfl ?_
  refine g_get (pc := 9) C (j := 2) hN_2.1 rfl rfl (by decide) u_137 dX3_copyFrom_9 ?_
  refine g_aload_n (pc := 12) C dX3_copyFrom_12 1 rfl ?_
  refine g_get (pc := 13) C (j := 2) hp_4.1 rfl rfl (by decide) u_137 dX3_copyFrom_13 ?_
  refine g_callV (pc := 16) C (As := [.ref (A (o + 1))]) (rest := []) (b := (a + 1)) (n_X4_copyFrom A P g_1 (a + 1) (o + 1) (by omega) hN_2.2.1 hp_4.2.1) (NLN.o hN_2.2.1) rfl rfl Y_X4_copyFrom u_814 N_X4_copyFrom ⟨by decide, by decide⟩ ⟨by decide, by decide⟩ (Nat.le_of_ble_eq_true rfl) rfl dX3_copyFrom_16 ?_
  rintro _ _ _ g_5 ⟨rfl, rfl, rfl, hn_6, hf_7⟩
  have hN_8 := ND.ac hN_2 hf_7 hn_6
  have hp_9 := ND.fr hp_4 hf_7 (by omega)
  show V K 0 0 P A g_5 [(0, .ref (A a)), (1, .ref (A o))] 19 []
  refine g_aload_n (pc := 19) C dX3_copyFrom_19 0 rfl ?_
  refine g_get (pc := 20) C (j := 3) hN_8.1 rfl rfl (by decide) u_142 dX3_copyFrom_20 ?_
  refine g_aload_n (pc := 23) C dX3_copyFrom_23 1 rfl ?_
  refine g_get (pc := 24) C (j := 3) hp_9.1 rfl rfl (by decide) u_142 dX3_copyFrom_24 ?_
  refine g_callV (pc := 27) C (As := [.ref (A (o + 3))]) (rest := []) (b := (a + 3)) (n_X4_copyFrom A P g_5 (a + 3) (o + 3) (by omega) hN_8.2.2.1 hp_9.2.2.1) (NLN.o hN_8.2.2.1) rfl rfl Y_X4_copyFrom u_814 N_X4_copyFrom ⟨by decide, by decide⟩ ⟨by decide, by decide⟩ (Nat.le_of_ble_eq_true rfl) rfl dX3_copyFrom_27 ?_
  rintro _ _ _ g_10 ⟨rfl, rfl, rfl, hn_11, hf_12⟩
  have hN_13 := ND.pa hN_8 hf_12 hn_11
  have hp_14 := ND.fr hp_9 hf_12 (by omega)
  show V K 0 0 P A g_10 [(0, .ref (A a)), (1, .ref (A o))] 30 []
  refine g_aload_n (pc := 30) C dX3_copyFrom_30 0 rfl ?_
  refine g_aload_n (pc := 31) C dX3_copyFrom_31 1 rfl ?_
  refine g_get (pc := 32) C (j := 4) hp_14.1 rfl rfl (by decide) u_145 dX3_copyFrom_32 ?_
  refine g_put (pc := 35) C (j := 4) hN_13.1 rfl (by decide) (Nat.le_of_ble_eq_true rfl) u_145 rfl pfd_I rfl rfl dX3_copyFrom_35 ?_
  obtain ⟨g_15, hg_15⟩ : ∃ yM : pM, yM = va_up g_10 a (ob 3 [.int (nI i), .int (b32 (nLv (sPa (sAc (sLv d (nLv d2)) (nAc d2)) (nPa d2)))), .ref (A (a + 1)), .ref (A (a + 3)), .int (nI (nLz d2)), .int (onv (nAs (sPa (sAc (sLv d (nLv d2)) (nAc d2)) (nPa d2)))), .int (nI (nAk (sPa (sAc (sLv d (nLv d2)) (nAc d2)) (nPa d2)))), .int (nGo (sPa (sAc (sLv d (nLv d2)) (nAc d2)) (nPa d2))), .ref (A (a + 5)), .ref (A (a + 6))]) := ⟨_, rfl⟩
  show V K 0 0 P A (va_up g_10 a (ob 3 [.int (nI i), .int (b32 (nLv (sPa (sAc (sLv d (nLv d2)) (nAc d2)) (nPa d2)))), .ref (A (a + 1)), .ref (A (a + 3)), .int (nI (nLz d2)), .int (onv (nAs (sPa (sAc (sLv d (nLv d2)) (nAc d2)) (nPa d2)))), .int (nI (nAk (sPa (sAc (sLv d (nLv d2)) (nAc d2)) (nPa d2)))), .int (nGo (sPa (sAc (sLv d (nLv d2)) (nAc d2)) (nPa d2))), .ref (A (a + 5)), .ref (A (a + 6))])) [(0, .ref (A a)), (1, .ref (A o))] 38 []
  rw [← hg_15]
  have hf_16 : Fr g_10 g_15 a (a + 1) := by rw [hg_15]; exact Fr.up (by omega) (by omega)
  have hp_17 := ND.fr hp_14 hf_16 (by omega)
  have hN_18 : ND A g_15 a i (sLz (sPa (sAc (sLv d (nLv d2)) (nAc d2)) (nPa d2)) (nLz d2)) := ND.put hN_13 hg_15 rfl rfl rfl rfl
  refine g_aload_n (pc := 38) C dX3_copyFrom_38 0 rfl ?_
  refine g_aload_n (pc := 39) C dX3_copyFrom_39 1 rfl ?_
  refine g_get (pc := 40) C (j := 5) hp_17.1 rfl rfl (by decide) u_146 dX3_copyFrom_40 ?_
  refine g_put (pc := 43) C (j := 5) hN_18.1 rfl (by decide) (Nat.le_of_ble_eq_true rfl) u_146 rfl pfd_I rfl rfl dX3_copyFrom_43 ?_
  obtain ⟨g_19, hg_19⟩ : ∃ yM : pM, yM = va_up g_15 a (ob 3 [.int (nI i), .int (b32 (nLv (sLz (sPa (sAc (sLv d (nLv d2)) (nAc d2)) (nPa d2)) (nLz d2)))), .ref (A (a + 1)), .ref (A (a + 3)), .int (nI (nLz (sLz (sPa (sAc (sLv d (nLv d2)) (nAc d2)) (nPa d2)) (nLz d2)))), .int (onv (nAs d2)), .int (nI (nAk (sLz (sPa (sAc (sLv d (nLv d2)) (nAc d2)) (nPa d2)) (nLz d2)))), .int (nGo (sLz (sPa (sAc (sLv d (nLv d2)) (nAc d2)) (nPa d2)) (nLz d2))), .ref (A (a + 5)), .ref (A (a + 6))]) := ⟨_, rfl⟩
  show V K 0 0 P A (va_up g_15 a (ob 3 [.int (nI i), .int (b32 (nLv (sLz (sPa (sAc (sLv d (nLv d2)) (nAc d2)) (nPa d2)) (nLz d2)))), .ref (A (a + 1)), .ref (A (a + 3)), .int (nI (nLz (sLz (sPa (sAc (sLv d (nLv d2)) (nAc d2)) (nPa d2)) (nLz d2)))), .int (onv (nAs d2)), .int (nI (nAk (sLz (sPa (sAc (sLv d (nLv d2)) (nAc d2)) (nPa d2)) (nLz d2)))), .int (nGo (sLz (sPa (sAc (sLv d (nLv d2)) (nAc d2)) (nPa d2)) (nLz d2))), .ref (A (a + 5)), .ref (A (a + 6))])) [(0, .ref (A a)), (1, .ref (A o))] 46 []
  rw [← hg_19]
  have hf_20 : Fr g_15 g_19 a (a + 1) := by rw [hg_19]; exact Fr.up (by omega) (by omega)
  have hp_21 := ND.fr hp_17 hf_20 (by omega)
  have hN_22 : ND A g_19 a i (sAs (sLz (sPa (sAc (sLv d (nLv d2)) (nAc d2)) (nPa d2)) (nLz d2)) (nAs d2)) := ND.put hN_18 hg_19 rfl rfl rfl rfl
  refine g_aload_n (pc := 46) C dX3_copyFrom_46 0 rfl ?_
  refine g_aload_n (pc := 47) C dX3_copyFrom_47 1 rfl ?_
  refine g_get (pc := 48) C (j := 6) hp_21.1 rfl rfl (by decide) u_150 dX3_copyFrom_48 ?_
  refine g_put (pc := 51) C (j := 6) hN_22.1 rfl (by decide) (Nat.le_of_ble_eq_true rfl) u_150 rfl pfd_I rfl rfl dX3_copyFrom_51 ?_
  obtain ⟨g_23, hg_23⟩ : ∃ yM : pM, yM = va_up g_19 a (ob 3 [.int (nI i), .int (b32 (nLv (sAs (sLz (sPa (sAc (sLv d (nLv d2)) (nAc d2)) (nPa d2)) (nLz d2)) (nAs d2)))), .ref (A (a + 1)), .ref (A (a + 3)), .int (nI (nLz (sAs (sLz (sPa (sAc (sLv d (nLv d2)) (nAc d2)) (nPa d2)) (nLz d2)) (nAs d2)))), .int (onv (nAs (sAs (sLz (sPa (sAc (sLv d (nLv d2)) (nAc d2)) (nPa d2)) (nLz d2)) (nAs d2)))), .int (nI (nAk d2)), .int (nGo (sAs (sLz (sPa (sAc (sLv d (nLv d2)) (nAc d2)) (nPa d2)) (nLz d2)) (nAs d2))), .ref (A (a + 5)), .ref (A (a + 6))]) := ⟨_, rfl⟩
  show V K 0 0 P A (va_up g_19 a (ob 3 [.int (nI i), .int (b32 (nLv (sAs (sLz (sPa (sAc (sLv d (nLv d2)) (nAc d2)) (nPa d2)) (nLz d2)) (nAs d2)))), .ref (A (a + 1)), .ref (A (a + 3)), .int (nI (nLz (sAs (sLz (sPa (sAc (sLv d (nLv d2)) (nAc d2)) (nPa d2)) (nLz d2)) (nAs d2)))), .int (onv (nAs (sAs (sLz (sPa (sAc (sLv d (nLv d2)) (nAc d2)) (nPa d2)) (nLz d2)) (nAs d2)))), .int (nI (nAk d2)), .int (nGo (sAs (sLz (sPa (sAc (sLv d (nLv d2)) (nAc d2)) (nPa d2)) (nLz d2)) (nAs d2))), .ref (A (a + 5)), .ref (A (a + 6))])) [(0, .ref (A a)), (1, .ref (A o))] 54 []
  rw [← hg_23]
  have hf_24 : Fr g_19 g_23 a (a + 1) := by rw [hg_23]; exact Fr.up (by omega) (by omega)
  have hp_25 := ND.fr hp_21 hf_24 (by omega)
  have hN_26 : ND A g_23 a i (sAk (sAs (sLz (sPa (sAc (sLv d (nLv d2)) (nAc d2)) (nPa d2)) (nLz d2)) (nAs d2)) (nAk d2)) := ND.put hN_22 hg_23 rfl rfl rfl rfl
  refine g_aload_n (pc := 54) C dX3_copyFrom_54 0 rfl ?_
  refine g_aload_n (pc := 55) C dX3_copyFrom_55 1 rfl ?_
  refine g_get (pc := 56) C (j := 7) hp_25.1 rfl rfl (by decide) u_153 dX3_copyFrom_56 ?_
  refine g_put (pc := 59) C (j := 7) hN_26.1 rfl (by decide) (Nat.le_of_ble_eq_true rfl) u_153 rfl pfd_I rfl rfl dX3_copyFrom_59 ?_
  obtain ⟨g_27, hg_27⟩ : ∃ yM : pM, yM = va_up g_23 a (ob 3 [.int (nI i), .int (b32 (nLv (sAk (sAs (sLz (sPa (sAc (sLv d (nLv d2)) (nAc d2)) (nPa d2)) (nLz d2)) (nAs d2)) (nAk d2)))), .ref (A (a + 1)), .ref (A (a + 3)), .int (nI (nLz (sAk (sAs (sLz (sPa (sAc (sLv d (nLv d2)) (nAc d2)) (nPa d2)) (nLz d2)) (nAs d2)) (nAk d2)))), .int (onv (nAs (sAk (sAs (sLz (sPa (sAc (sLv d (nLv d2)) (nAc d2)) (nPa d2)) (nLz d2)) (nAs d2)) (nAk d2)))), .int (nI (nAk (sAk (sAs (sLz (sPa (sAc (sLv d (nLv d2)) (nAc d2)) (nPa d2)) (nLz d2)) (nAs d2)) (nAk d2)))), .int (nGo d2), .ref (A (a + 5)), .ref (A (a + 6))]) := ⟨_, rfl⟩
  show V K 0 0 P A (va_up g_23 a (ob 3 [.int (nI i), .int (b32 (nLv (sAk (sAs (sLz (sPa (sAc (sLv d (nLv d2)) (nAc d2)) (nPa d2)) (nLz d2)) (nAs d2)) (nAk d2)))), .ref (A (a + 1)), .ref (A (a + 3)), .int (nI (nLz (sAk (sAs (sLz (sPa (sAc (sLv d (nLv d2)) (nAc d2)) (nPa d2)) (nLz d2)) (nAs d2)) (nAk d2)))), .int (onv (nAs (sAk (sAs (sLz (sPa (sAc (sLv d (nLv d2)) (nAc d2)) (nPa d2)) (nLz d2)) (nAs d2)) (nAk d2)))), .int (nI (nAk (sAk (sAs (sLz (sPa (sAc (sLv d (nLv d2)) (nAc d2)) (nPa d2)) (nLz d2)) (nAs d2)) (nAk d2)))), .int (nGo d2), .ref (A (a + 5)), .ref (A (a + 6))])) [(0, .ref (A a)), (1, .ref (A o))] 62 []
  rw [← hg_27]
  have hf_28 : Fr g_23 g_27 a (a + 1) := by rw [hg_27]; exact Fr.up (by omega) (by omega)
  have hp_29 := ND.fr hp_25 hf_28 (by omega)
  have hN_30 : ND A g_27 a i (sGo (sAk (sAs (sLz (sPa (sAc (sLv d (nLv d2)) (nAc d2)) (nPa d2)) (nLz d2)) (nAs d2)) (nAk d2)) (nGo d2)) := ND.put hN_26 hg_27 rfl rfl rfl rfl
  refine g_iconst (pc := 62) C dX3_copyFrom_62 (v := nI 0) rfl ?_
  refine g_istore_n (pc := 63) C dX3_copyFrom_63 (by decide) (lv' := [(0, .ref (A a)), (1, .ref (A o)), (2, .int (nI 0))]) [1, 2, 0] rfl ?_
  have lp_64 : ∀ (n : Nat) (t : Nat) (ht : t ≤ 24) (gl : pM) (hN : ND A gl a i (sMi (sHo (d2.1, nAc d2, nPa d2, nLz d2, nAs d2, nAk d2, nGo d2, nHo d, nMi d) (mix2 (nHo d2) (nHo d) t)) (mix2 (nMi d2) (nMi d) t))) (hO : ND A gl o j d2) (hf : Fr g gl a (a + 100)), 24 - t < n → V K 0 0 P A gl [(0, .ref (A a)), (1, .ref (A o)), (2, .int (nI t))] 64 [] := by
    intro n
    induction n with
    | zero => intro t ht gl hN hO hf hμ; exact absurd hμ (Nat.not_lt_zero _)
    | succ n ih =>
      intro t ht gl hN hO hf hμ
      obtain ⟨hrow, hho, hhr⟩ := hN.2.2.2.1
      refine g_iload_n (pc := 64) C dX3_copyFrom_64 2 rfl ?_
      refine g_bipush (pc := 65) C dX3_copyFrom_65 (v := nI 24) rfl ?_
      refine g_icmp_ge (pc := 67) C dX3_copyFrom_67 (tgt := 101) (by decide) (fun c_67 => ?_) (fun c_67 => ?_)
      ·
        have c_67 : 24 ≤ t := (nI_leI (by omega) (by omega)).mp c_67
        exact g_vret (pc := 101) C R ⟨rfl, rfl, rfl, nd_cop (show t = 24 by omega) hN, hf⟩ (by decide) (by decide) dX3_copyFrom_101
      ·
        have c_67 : ¬ 24 ≤ t := fun h => c_67 ((nI_leI (by omega) (by omega)).mpr h)
        refine g_aload_n (pc := 70) C dX3_copyFrom_70 0 rfl ?_
        refine g_get (pc := 71) C (j := 8) hN.1 rfl rfl (by decide) u_156 dX3_copyFrom_71 ?_
        refine g_iload_n (pc := 74) C dX3_copyFrom_74 2 rfl ?_
        refine g_aload_n (pc := 75) C dX3_copyFrom_75 1 rfl ?_
        refine g_iload_n (pc := 76) C dX3_copyFrom_76 2 rfl ?_
        refine g_callV (pc := 77) C (As := [.int (nI t)]) (rest := [.int (nI t), .ref (A (a + 5))]) (b := o) (c_X3_hopsOf A P gl o t (by omega) hO) hO.1 rfl rfl Y_X3_hopsOf u_673 N_X3_hopsOf ⟨by decide, by decide⟩ ⟨by decide, by decide⟩ (Nat.le_of_ble_eq_true rfl) rfl dX3_copyFrom_77 ?_
        rintro _ _ _ _ ⟨rfl, rfl, rfl, rfl⟩
        show V K 0 0 P A gl [(0, .ref (A a)), (1, .ref (A o)), (2, .int (nI t))] 80 [.int (onv (nHo d2 t)), .int (nI t), .ref (A (a + 5))]
        refine g_iast (pc := 80) C hho (nI_clamp (by omega)) (nI_in0 (n := 24) (by omega) (by omega)) dX3_copyFrom_80 ?_
        obtain ⟨g_31, hg_31⟩ : ∃ yM : pM, yM = va_up gl (a + 5) (ai 0 24 (upd hrow t (onv (nHo d2 t)))) := ⟨_, rfl⟩
        show V K 0 0 P A (va_up gl (a + 5) (ai 0 24 (upd hrow t (onv (nHo d2 t))))) [(0, .ref (A a)), (1, .ref (A o)), (2, .int (nI t))] 81 []
        rw [← hg_31]
        have h_32 : g_31 (a + 5) = ai 0 24 (upd hrow t (onv (nHo d2 t))) := by rw [hg_31]; exact va_up_self _ _ _
        have hf_33 : Fr gl g_31 (a + 5) (a + 5 + 1) := by rw [hg_31]; exact Fr.up (by omega) (by omega)
        have hp_34 := ND.fr hO hf_33 (by omega)
        have hfa : Fr gl g_31 (a + 5) (a + 6) := by rw [hg_31]; exact Fr.up (by omega) (by omega)
        have hNa := ND.ho hN hfa (HO.up (nHo d2 t) hhr h_32)
        have hOa := hO.fr hfa (by omega)
        refine g_aload_n (pc := 81) C dX3_copyFrom_81 0 rfl ?_
        refine g_get (pc := 82) C (j := 9) hNa.1 rfl rfl (by decide) u_157 dX3_copyFrom_82 ?_
        refine g_iload_n (pc := 85) C dX3_copyFrom_85 2 rfl ?_
        refine g_aldq (pc := 86) C hNa.2.2.2.2.1 (fun _ => rfl) (nI_clamp (by omega)) (nI_in0 (by omega) (by omega)) dX3_copyFrom_86 (x := A (a + 10 + 3 * t)) (mrow_at (by omega)) ?_
        refine g_aload_n (pc := 87) C dX3_copyFrom_87 1 rfl ?_
        refine g_iload_n (pc := 88) C dX3_copyFrom_88 2 rfl ?_
        refine g_callV (pc := 89) C (As := [.int (nI t)]) (rest := [.ref (A (a + 10 + 3 * t))]) (b := o) (c_X3_missOf A P g_31 o t (by omega) hOa) hOa.1 rfl rfl Y_X3_missOf u_815 N_X3_missOf ⟨by decide, by decide⟩ ⟨by decide, by decide⟩ (Nat.le_of_ble_eq_true rfl) rfl dX3_copyFrom_89 ?_
        rintro _ _ _ _ ⟨rfl, rfl, rfl, rfl⟩
        show V K 0 0 P A g_31 [(0, .ref (A a)), (1, .ref (A o)), (2, .int (nI t))] 92 [.ref (A (o + 10 + 3 * t)), .ref (A (a + 10 + 3 * t))]
        refine g_callV (pc := 92) C (As := [.ref (A (o + 10 + 3 * t))]) (rest := []) (b := (a + 10 + 3 * t)) (c_X2_copyFrom A P g_31 (a + 10 + 3 * t) (o + 10 + 3 * t) (by omega) (hNa.2.2.2.2.2 t (by omega)) (hOa.2.2.2.2.2 t (by omega))) (hNa.2.2.2.2.2 t (by omega)).1 rfl rfl Y_X2_copyFrom u_816 N_X2_copyFrom ⟨by decide, by decide⟩ ⟨by decide, by decide⟩ (Nat.le_of_ble_eq_true rfl) rfl dX3_copyFrom_92 ?_
        rintro _ _ _ g2 ⟨rfl, rfl, rfl, hn2, hf2⟩
        have hN2 := ND.mi hNa (by omega) hf2 hn2
        have hO2 := hOa.fr hf2 (by omega)
        show V K 0 0 P A g2 [(0, .ref (A a)), (1, .ref (A o)), (2, .int (nI t))] 95 []
        refine g_iinc (pc := 95) C dX3_copyFrom_95 (by decide) 2 rfl (v := nI (t + 1)) (nI_i1 _) (lv' := [(0, .ref (A a)), (1, .ref (A o)), (2, .int (nI (t + 1)))]) [1, 2, 0] rfl ?_
        refine g_goto (pc := 98) C dX3_copyFrom_98 (tgt := 64) (by decide) ?_
        exact ih (t + 1) (by omega) _ (by rw [← mix2_s (nHo d2) (nHo d), ← mix2_s (nMi d2) (nMi d)]; exact hN2) hO2 (hf.tr ((hfa.mo (by omega) (by omega)).tr (hf2.mo (by omega) (by omega)))) (by omega)
  exact lp_64 (_ + 1) 0 (Nat.zero_le _) _ (by rw [mix2_0, mix2_0]; exact hN_30) hp_29 (by first | exact Fr.rf | (intro k hk; rw [hg_27, va_up_ne _ _ (by omega), hg_23, va_up_ne _ _ (by omega), hg_19, va_up_ne _ _ (by omega), hg_15, va_up_ne _ _ (by omega), hf_12 k (by omega), hf_7 k (by omega), hg_1, va_up_ne _ _ (by omega)])) (Nat.lt_succ_self _)
abbrev rm_X3_looksLike : Room := { frames := 2, cells := 0, slots := 0, locals := 43 }
theorem Y_X3_looksLike : pY yX3_looksLike cX3_looksLike 3 (Option.some Jvm.ClassFile.FieldType.boolean) := ⟨u_839, u_840, u_5, u_841⟩
theorem N_X3_looksLike : yX3_looksLike.cls ≠ "java/lang/invoke/MethodHandle" ∧ yX3_looksLike.cls ≠ "java/lang/invoke/VarHandle" ∧ (parseMethodDescriptor yX3_looksLike.desc).map (fun d => d.parameters.length) = some 1 := by decide +kernel
set_option maxRecDepth 20000 in
set_option maxHeartbeats 4000000 in
theorem c_X3_looksLike (A : Nat → Nat) (P : List Nat) (g : pM) (a : Nat) {i : Nat} {d : Nd} (o : Nat) {j : Nat} {d2 : Nd} (hw : ndW d) (hw2 : ndW d2) (h : ND A g a i d) (h2 : ND A g o j d2) : PM yX3_looksLike cX3_looksLike 3 (Option.some Jvm.ClassFile.FieldType.boolean) rm_X3_looksLike [.ref (A a), .ref (A o)] P A g (fun v g' => v = some (.int (b32 (ndSame d d2))) ∧ g = g') := by
  obtain ⟨hrow, hho, hhr⟩ := h.2.2.2.1
  have hw1 : nLz d < 65536 := hw.1
  have hw21 : nLz d2 < 65536 := hw2.1
  refine px_intro (by decide +kernel) (Nat.le_of_ble_eq_true rfl) (fun K sz C R => ?_)
  show V K 0 0 P A g [(0, .ref (A a)), (1, .ref (A o))] 0 []
  refine g_aload_n (pc := 0) C dX3_looksLike_0 0 rfl ?_
  refine g_get (pc := 1) C (j := 2) h.1 rfl rfl (by decide) u_137 dX3_looksLike_1 ?_
  refine g_aload_n (pc := 4) C dX3_looksLike_4 1 rfl ?_
  refine g_get (pc := 5) C (j := 2) h2.1 rfl rfl (by decide) u_137 dX3_looksLike_5 ?_
  refine g_callV (pc := 8) C (As := [.ref (A (o + 1))]) (rest := []) (b := (a + 1)) (n_X4_isSameAs A P g (a + 1) (o + 1) h.2.1 h2.2.1) (NLN.o h.2.1) rfl rfl Y_X4_isSameAs u_842 N_X4_isSameAs ⟨by decide, by decide⟩ ⟨by decide, by decide⟩ (Nat.le_of_ble_eq_true rfl) rfl dX3_looksLike_8 ?_
  rintro _ _ _ _ ⟨rfl, rfl, rfl, rfl⟩
  show V K 0 0 P A g [(0, .ref (A a)), (1, .ref (A o))] 11 [.int (b32 (decide (nAc d = nAc d2)))]
  refine g_if_eq (pc := 11) C dX3_looksLike_11 (tgt := 28) (by decide) (fun c_11 => ?_) (fun c_11 => ?_)
  ·
    have c_11 := of_decide_eq_false ((b32_0 _).mp c_11)
    refine g_iconst (pc := 28) C dX3_looksLike_28 (v := nI 0) rfl ?_
    exact g_zret (pc := 29) C R (Or.inl rfl) ⟨rfl, rfl, by rw [ndSame_ac c_11]; rfl, rfl⟩ (by decide) (by decide) dX3_looksLike_29
  ·
    have c_11 : nAc d = nAc d2 := Classical.byContradiction (fun hh => c_11 (by rw [decide_eq_false hh]; rfl))
    refine g_aload_n (pc := 14) C dX3_looksLike_14 0 rfl ?_
    refine g_get (pc := 15) C (j := 3) h.1 rfl rfl (by decide) u_142 dX3_looksLike_15 ?_
    refine g_aload_n (pc := 18) C dX3_looksLike_18 1 rfl ?_
    refine g_get (pc := 19) C (j := 3) h2.1 rfl rfl (by decide) u_142 dX3_looksLike_19 ?_
    refine g_callV (pc := 22) C (As := [.ref (A (o + 3))]) (rest := []) (b := (a + 3)) (n_X4_isSameAs A P g (a + 3) (o + 3) h.2.2.1 h2.2.2.1) (NLN.o h.2.2.1) rfl rfl Y_X4_isSameAs u_842 N_X4_isSameAs ⟨by decide, by decide⟩ ⟨by decide, by decide⟩ (Nat.le_of_ble_eq_true rfl) rfl dX3_looksLike_22 ?_
    rintro _ _ _ _ ⟨rfl, rfl, rfl, rfl⟩
    show V K 0 0 P A g [(0, .ref (A a)), (1, .ref (A o))] 25 [.int (b32 (decide (nPa d = nPa d2)))]
    refine g_if_ne (pc := 25) C dX3_looksLike_25 (tgt := 30) (by decide) (fun c_25 => ?_) (fun c_25 => ?_)
    ·
      have c_25 : nPa d = nPa d2 := Classical.byContradiction (fun hh => c_25 (by rw [decide_eq_false hh]; rfl))
      refine g_aload_n (pc := 30) C dX3_looksLike_30 0 rfl ?_
      refine g_get (pc := 31) C (j := 4) h.1 rfl rfl (by decide) u_145 dX3_looksLike_31 ?_
      refine g_aload_n (pc := 34) C dX3_looksLike_34 1 rfl ?_
      refine g_get (pc := 35) C (j := 4) h2.1 rfl rfl (by decide) u_145 dX3_looksLike_35 ?_
      refine g_icmp_eq (pc := 38) C dX3_looksLike_38 (tgt := 43) (by decide) (fun c_38 => ?_) (fun c_38 => ?_)
      ·
        have c_38 : (nLz d) = (nLz d2) := (nI_eq (by omega) (by omega)).mp c_38
        refine g_iconst (pc := 43) C dX3_looksLike_43 (v := nI 0) rfl ?_
        refine g_istore_n (pc := 44) C dX3_looksLike_44 (by decide) (lv' := [(0, .ref (A a)), (1, .ref (A o)), (2, .int (nI 0))]) [1, 2, 0] rfl ?_
        have lp_45 : ∀ (n : Nat) (t : Nat) (ht : t ≤ 24) (hq : ∀ k, k < t → nHo d k = nHo d2 k), 24 - t < n → V K 0 0 P A g [(0, .ref (A a)), (1, .ref (A o)), (2, .int (nI t))] 45 [] := by
          intro n
          induction n with
          | zero => intro t ht hq hμ; exact absurd hμ (Nat.not_lt_zero _)
          | succ n ih =>
            intro t ht hq hμ
            refine g_iload_n (pc := 45) C dX3_looksLike_45 2 rfl ?_
            refine g_bipush (pc := 46) C dX3_looksLike_46 (v := nI 24) rfl ?_
            refine g_icmp_ge (pc := 48) C dX3_looksLike_48 (tgt := 73) (by decide) (fun c_48 => ?_) (fun c_48 => ?_)
            ·
              have c_48 : 24 ≤ t := (nI_leI (by omega) (by omega)).mp c_48
              refine g_iconst (pc := 73) C dX3_looksLike_73 (v := nI 1) rfl ?_
              exact g_zret (pc := 74) C R (Or.inr rfl) ⟨rfl, rfl, by rw [ndSame_all c_11 c_25 c_38 (fun k hk => hq k (by omega))]; rfl, rfl⟩ (by decide) (by decide) dX3_looksLike_74
            ·
              have c_48 : ¬ 24 ≤ t := fun h => c_48 ((nI_leI (by omega) (by omega)).mpr h)
              refine g_aload_n (pc := 51) C dX3_looksLike_51 0 rfl ?_
              refine g_get (pc := 52) C (j := 8) h.1 rfl rfl (by decide) u_156 dX3_looksLike_52 ?_
              refine g_iload_n (pc := 55) C dX3_looksLike_55 2 rfl ?_
              refine g_iald (pc := 56) C hho (nI_clamp (by omega)) (nI_in0 (n := 24) (by omega) (by omega)) dX3_looksLike_56 (x := hrow t) rfl ?_
              refine g_aload_n (pc := 57) C dX3_looksLike_57 1 rfl ?_
              refine g_iload_n (pc := 58) C dX3_looksLike_58 2 rfl ?_
              refine g_callV (pc := 59) C (As := [.int (nI t)]) (rest := [.int (hrow t)]) (b := o) (c_X3_hopsOf A P g o t (by omega) h2) h2.1 rfl rfl Y_X3_hopsOf u_673 N_X3_hopsOf ⟨by decide, by decide⟩ ⟨by decide, by decide⟩ (Nat.le_of_ble_eq_true rfl) rfl dX3_looksLike_59 ?_
              rintro _ _ _ _ ⟨rfl, rfl, rfl, rfl⟩
              show V K 0 0 P A g [(0, .ref (A a)), (1, .ref (A o)), (2, .int (nI t))] 62 [.int (onv (nHo d2 t)), .int (hrow t)]
              refine g_icmp_eq (pc := 62) C dX3_looksLike_62 (tgt := 67) (by decide) (fun c_62 => ?_) (fun c_62 => ?_)
              ·
                refine g_iinc (pc := 67) C dX3_looksLike_67 (by decide) 2 rfl (v := nI (t + 1)) (nI_i1 _) (lv' := [(0, .ref (A a)), (1, .ref (A o)), (2, .int (nI (t + 1)))]) [1, 2, 0] rfl ?_
                refine g_goto (pc := 70) C dX3_looksLike_70 (tgt := 45) (by decide) ?_
                exact ih (t + 1) (by omega) (fun k hk => by rcases Nat.lt_succ_iff_lt_or_eq.mp hk with q | q; exact hq k q; rw [q]; exact onv_inj (hw.2.2.2 t) (hw2.2.2.2 t) ((hhr t (by omega)).symm.trans c_62)) (by omega)
              ·
                refine g_iconst (pc := 65) C dX3_looksLike_65 (v := nI 0) rfl ?_
                exact g_zret (pc := 66) C R (Or.inl rfl) ⟨rfl, rfl, by rw [ndSame_ho (t := t) (by omega) (fun e => c_62 ((hhr t (by omega)).trans (by rw [e])))]; rfl, rfl⟩ (by decide) (by decide) dX3_looksLike_66
        exact lp_45 (_ + 1) 0 (Nat.zero_le _) (fun k hk => absurd hk (Nat.not_lt_zero k)) (Nat.lt_succ_self _)
      ·
        have c_38 : ¬ (nLz d) = (nLz d2) := fun h => c_38 ((nI_eq (by omega) (by omega)).mpr h)
        refine g_iconst (pc := 41) C dX3_looksLike_41 (v := nI 0) rfl ?_
        exact g_zret (pc := 42) C R (Or.inl rfl) ⟨rfl, rfl, by rw [ndSame_lz (fun e => c_38 (by rw [e]))]; rfl, rfl⟩ (by decide) (by decide) dX3_looksLike_42
    ·
      have c_25 := of_decide_eq_false ((b32_0 _).mp c_25)
      refine g_iconst (pc := 28) C dX3_looksLike_28 (v := nI 0) rfl ?_
      exact g_zret (pc := 29) C R (Or.inl rfl) ⟨rfl, rfl, by rw [ndSame_pa c_25]; rfl, rfl⟩ (by decide) (by decide) dX3_looksLike_29
end
section
-- PART 07: the row of letters (a ring)
/-- the ring's own object and array: place (fi + k) % 500 holds the letter numbered rho k -/
def RO (A : Nat → Nat) (g : pM) (w fi n : Nat) (sp : Int32) (r : Nat → Option Nat) (ρ : Nat → Nat) : Prop :=
  g (w + 3) = ob 5 [.ref (A (w + 4)), .int (nI fi), .int (nI n), .int sp] ∧ g (w + 4) = aq 2 500 r ∧ ∀ k, k < 500 → r ((fi + k) % 500) = some (A (w + 2000 + 3 * ρ k))
def RI (fi n : Nat) (ρ : Nat → Nat) : Prop := fi < 500 ∧ n ≤ 500 ∧ (∀ k, k < 500 → ρ k < 500) ∧ ∀ i j, i < 500 → j < 500 → ρ i = ρ j → i = j
def RLt (A : Nat → Nat) (g : pM) (w : Nat) (L : Nat → Lt) : Prop := ∀ j, j < 500 → LT A g (w + 2000 + 3 * j) (L j)
def ltW (t : Lt) : Prop := t.1 < 16 ∧ t.2.1 < 16 ∧ t.2.2.1 ≤ 12 ∧ t.2.2.2.1 < 2 ^ 31 ∧ t.2.2.2.2.1 < 2 ^ 31
def RW (A : Nat → Nat) (g : pM) (w : Nat) (row : List Lt) (sp : Int32) : Prop :=
  ∃ (fi : Nat) (r : Nat → Option Nat) (ρ : Nat → Nat) (L : Nat → Lt), RI fi row.length ρ ∧ RO A g w fi row.length sp r ρ ∧ RLt A g w L ∧ (∀ k, k < row.length → row[k]? = some (L (ρ k))) ∧ ∀ t ∈ row, ltW t
theorem RO.fr {A : Nat → Nat} {g g' : pM} {w fi n lo hi : Nat} {sp : Int32} {r : Nat → Option Nat} {ρ : Nat → Nat} (h : RO A g w fi n sp r ρ) (hf : Fr g g' lo hi) (hd : hi ≤ w + 3 ∨ w + 5 ≤ lo) : RO A g' w fi n sp r ρ := ⟨hf.at (by omega) h.1, hf.at (by omega) h.2.1, h.2.2⟩
theorem RLt.fr {A : Nat → Nat} {g g' : pM} {w lo hi : Nat} {L : Nat → Lt} (h : RLt A g w L) (hf : Fr g g' lo hi) (hd : hi ≤ w + 2000 ∨ w + 3500 ≤ lo) : RLt A g' w L := fun j hj => (h j hj).fr hf (by omega)
theorem RLt.up {A : Nat → Nat} {g g' : pM} {w j0 : Nat} {L : Nat → Lt} {t : Lt} (h : RLt A g w L) (hf : Fr g g' (w + 2000 + 3 * j0) (w + 2000 + 3 * j0 + 3)) (ht : LT A g' (w + 2000 + 3 * j0) t) : RLt A g' w (va_up L j0 t) := by
  intro j hj
  by_cases e : j = j0
  · subst e
    rw [va_up_self]
    exact ht
  · rw [va_up_ne _ _ e]
    exact (h j hj).fr hf (by omega)
theorem RW.fr {A : Nat → Nat} {g g' : pM} {w lo hi : Nat} {row : List Lt} {sp : Int32} (h : RW A g w row sp) (hf : Fr g g' lo hi) (hd : hi ≤ w + 3 ∨ w + 3500 ≤ lo) : RW A g' w row sp := by
  obtain ⟨fi, r, ρ, L, h1, h2, h3, h4, h5⟩ := h
  exact ⟨fi, r, ρ, L, h1, h2.fr hf (by omega), h3.fr hf (by omega), h4, h5⟩
theorem rem500 {a : Nat} (ha : a < 2 ^ 31) : nI a - nI a / nI 500 * nI 500 = nI (a % 500) := pk_rem ha (by omega) (by omega)
/-- a place in the ring, by its number from the first on -/
theorem RO.pl {A : Nat → Nat} {g : pM} {w fi n : Nat} {sp : Int32} {r : Nat → Option Nat} {ρ : Nat → Nat} (h : RO A g w fi n sp r ρ) {k : Nat} (hk : k < 500) : r ((fi + k) % 500) = some (A (w + 2000 + 3 * ρ k)) := h.2.2 k hk
theorem any_no {row : List Lt} {n s t : Nat} (h : ∀ k q, k < n → row[k]? = some q → ¬ (q.1 = s ∧ q.2.1 = t)) : (row.take n).any (fun q => q.1 == s && q.2.1 == t) = false := by
  rw [List.any_eq_false]
  intro q hq
  obtain ⟨k, hk⟩ := List.mem_iff_getElem?.mp hq
  have hlt := (List.getElem?_eq_some_iff.mp hk).1
  simp only [List.length_take] at hlt
  rw [List.getElem?_take_of_lt (by omega)] at hk
  have := h k q (by omega) hk
  simpa using this
theorem any_yes {row : List Lt} {n s t k : Nat} {q : Lt} (hk : k < n) (hq : row[k]? = some q) (h1 : q.1 = s) (h2 : q.2.1 = t) : (row.take n).any (fun q => q.1 == s && q.2.1 == t) = true := by
  rw [List.any_eq_true]
  refine ⟨q, List.mem_iff_getElem?.mpr ⟨k, ?_⟩, by simp [h1, h2]⟩
  rw [List.getElem?_take_of_lt hk]
  exact hq
-- the ring behind a removal: from i on each letter goes one place down, the one that went stands at the last
def rhoR (ρ : Nat → Nat) (i n : Nat) : Nat → Nat := fun k => if i ≤ k ∧ k + 1 < n then ρ (k + 1) else if k + 1 = n then ρ i else ρ k
theorem rhoR_I {fi n i : Nat} {ρ : Nat → Nat} (h : RI fi n ρ) (hi : i < n) : RI fi (n - 1) (rhoR ρ i n) := by
  obtain ⟨h1, h2, h3, h4⟩ := h
  refine ⟨h1, by omega, fun k hk => ?_, fun a b ha hb e => ?_⟩
  · simp only [rhoR]
    split
    · exact h3 _ (by omega)
    · split
      · exact h3 _ (by omega)
      · exact h3 _ hk
  · simp only [rhoR] at e
    split at e <;> split at e <;> (try split at e) <;> (try split at e) <;> (have := h4 _ _ (by omega) (by omega) e) <;> omega
theorem rhoR_row {row : List Lt} {ρ : Nat → Nat} {L : Nat → Lt} {i : Nat} (hi : i < row.length) (h : ∀ k, k < row.length → row[k]? = some (L (ρ k))) : ∀ k, k < (row.eraseIdx i).length → (row.eraseIdx i)[k]? = some (L (rhoR ρ i row.length k)) := by
  intro k hk
  rw [List.length_eraseIdx_of_lt hi] at hk
  rw [List.getElem?_eraseIdx]
  simp only [rhoR]
  by_cases h2 : k < i
  · rw [if_pos h2, if_neg (by omega), if_neg (by omega)]
    exact h k (by omega)
  · rw [if_neg h2, if_pos (by omega)]
    exact h (k + 1) (by omega)
theorem mod_ne {fi a b : Nat} (ha : a < 500) (hb : b < 500) (h : a ≠ b) : (fi + a) % 500 ≠ (fi + b) % 500 := by omega
/-- while it is shifted, the numbers -/
def rhoM (ρ : Nat → Nat) (i j : Nat) : Nat → Nat := fun k => if i ≤ k ∧ k < j then ρ (k + 1) else ρ k
theorem rhoM_n {ρ : Nat → Nat} {i j : Nat} : rhoM ρ i j (j + 1) = ρ (j + 1) := by
  simp only [rhoM]
  rw [if_neg (by omega)]
theorem rhoM_0 {ρ : Nat → Nat} {i : Nat} : rhoM ρ i i = ρ := by
  funext k
  simp only [rhoM]
  rw [if_neg (by omega)]
/-- counted from the ring's start -/
def rz (ρ : Nat → Nat) (fi : Nat) : Nat → Nat := fun k => ρ ((k + 500 - fi) % 500)
/-- while it is shifted: places i up to j hold what the next ones held -/
def rsh (A : Nat → Nat) (w fi i j : Nat) (ρ : Nat → Nat) (r' : Nat → Option Nat) : Prop := ∀ k, k < 500 → r' ((fi + k) % 500) = some (A (w + 2000 + 3 * rhoM ρ i j k))
theorem rsh_s {r' : Nat → Option Nat} {A : Nat → Nat} {w fi i j : Nat} {ρ : Nat → Nat} (hj : j < 500) (hi : i ≤ j) (h : rsh A w fi i j ρ r') : rsh A w fi i (j + 1) ρ (va_up r' ((fi + j) % 500) (some (A (w + 2000 + 3 * ρ (j + 1))))) := by
  intro k hk
  by_cases e : k = j
  · subst e
    rw [va_up_self]
    simp only [rhoM]
    rw [if_pos (by omega)]
  · rw [va_up_ne _ _ (mod_ne hk hj e), h k hk]
    simp only [rhoM]
    by_cases h2 : i ≤ k ∧ k < j
    · rw [if_pos h2, if_pos (by omega)]
    · rw [if_neg h2, if_neg (by omega)]
theorem rsh_e {r' : Nat → Option Nat} {A : Nat → Nat} {w fi i j n : Nat} {ρ : Nat → Nat} (hn : n ≤ 500) (hin : i < n) (hj : j + 1 = n) (h : rsh A w fi i j ρ r') : ∀ k, k < 500 → va_up r' ((fi + (n - 1)) % 500) (some (A (w + 2000 + 3 * ρ i))) ((fi + k) % 500) = some (A (w + 2000 + 3 * rhoR ρ i n k)) := by
  intro k hk
  simp only [rhoR]
  by_cases e : k = n - 1
  · subst e
    rw [va_up_self, if_neg (by omega), if_pos (by omega)]
  · rw [va_up_ne _ _ (mod_ne hk (by omega) e), h k hk]
    simp only [rhoM]
    by_cases h2 : i ≤ k ∧ k < j
    · rw [if_pos h2, if_pos (by omega)]
    · rw [if_neg h2, if_neg (by omega), if_neg (by omega)]
/-- one on: the first letter goes -/
theorem rot_I {fi n : Nat} {ρ : Nat → Nat} (h : RI fi n ρ) (hn : 0 < n) : RI ((fi + 1) % 500) (n - 1) (fun k => ρ ((k + 1) % 500)) := by
  obtain ⟨h1, h2, h3, h4⟩ := h
  refine ⟨by omega, by omega, fun k hk => h3 _ (by omega), fun a b ha hb e => ?_⟩
  have := h4 _ _ (by omega) (by omega) e
  omega
theorem rot_O {A : Nat → Nat} {w fi : Nat} {r : Nat → Option Nat} {ρ : Nat → Nat} (h : ∀ k, k < 500 → r ((fi + k) % 500) = some (A (w + 2000 + 3 * ρ k))) : ∀ k, k < 500 → r (((fi + 1) % 500 + k) % 500) = some (A (w + 2000 + 3 * ρ ((k + 1) % 500))) := by
  intro k hk
  have e : ((fi + 1) % 500 + k) % 500 = (fi + (k + 1) % 500) % 500 := by omega
  rw [e]
  exact h _ (by omega)
theorem rot_row {row : List Lt} {ρ : Nat → Nat} {L : Nat → Lt} (hn : row.length ≤ 500) (h : ∀ k, k < row.length → row[k]? = some (L (ρ k))) : ∀ k, k < (row.eraseIdx 0).length → (row.eraseIdx 0)[k]? = some (L (ρ ((k + 1) % 500))) := by
  intro k hk
  cases row with
  | nil => simp at hk
  | cons t row =>
    simp only [List.eraseIdx_cons_zero] at hk ⊢
    simp only [List.length_cons] at h hn
    have := h (k + 1) (by omega)
    rw [Nat.mod_eq_of_lt (by omega)]
    simpa using this
/-- the ring counted from its start -/
theorem zero_I {fi n n2 : Nat} {ρ : Nat → Nat} (h : RI fi n ρ) (hn : n2 ≤ 500) : RI 0 n2 (rz ρ fi) := by
  obtain ⟨h1, h2, h3, h4⟩ := h
  refine ⟨by omega, hn, fun k hk => h3 _ (by omega), fun a b ha hb e => ?_⟩
  have := h4 _ _ (by omega) (by omega) e
  omega
theorem zero_O {A : Nat → Nat} {w fi : Nat} {r : Nat → Option Nat} {ρ : Nat → Nat} (hf : fi < 500) (h : ∀ k, k < 500 → r ((fi + k) % 500) = some (A (w + 2000 + 3 * ρ k))) : ∀ k, k < 500 → r ((0 + k) % 500) = some (A (w + 2000 + 3 * rz ρ fi k)) := by
  intro k hk
  have e : (0 + k) % 500 = (fi + (k + 500 - fi) % 500) % 500 := by omega
  rw [e]
  exact h _ (by omega)
-- letters to one go: those that stay come forward
def swp (ρ : Nat → Nat) (a b : Nat) : Nat → Nat := fun k => if k = b then ρ a else if k = a then ρ b else ρ k
theorem swp_I {fi n a b : Nat} {ρ : Nat → Nat} (h : RI fi n ρ) (ha : a < 500) (hb : b < 500) : RI fi n (swp ρ a b) := by
  obtain ⟨h1, h2, h3, h4⟩ := h
  refine ⟨h1, h2, fun k hk => ?_, fun x y hx hy e => ?_⟩
  · simp only [swp]
    split
    · exact h3 _ ha
    · split
      · exact h3 _ hb
      · exact h3 _ hk
  · simp only [swp] at e
    split at e <;> split at e <;> (try split at e) <;> (try split at e) <;> (have := h4 _ _ (by omega) (by omega) e) <;> omega
theorem swp_O {A : Nat → Nat} {w fi a b : Nat} {r : Nat → Option Nat} {ρ : Nat → Nat} (ha : a < 500) (hb : b < 500) (h : ∀ k, k < 500 → r ((fi + k) % 500) = some (A (w + 2000 + 3 * ρ k))) : ∀ k, k < 500 → va_up (va_up r ((fi + b) % 500) (some (A (w + 2000 + 3 * ρ a)))) ((fi + a) % 500) (some (A (w + 2000 + 3 * ρ b))) ((fi + k) % 500) = some (A (w + 2000 + 3 * swp ρ a b k)) := by
  intro k hk
  simp only [swp]
  by_cases e : k = a
  · subst e
    rw [va_up_self]
    by_cases e2 : k = b
    · subst e2; simp
    · rw [if_neg e2, if_pos rfl]
  · rw [va_up_ne _ _ (mod_ne hk ha e)]
    by_cases e2 : k = b
    · subst e2
      rw [va_up_self, if_pos rfl]
    · rw [va_up_ne _ _ (mod_ne hk hb e2), if_neg e2, if_neg e]
      exact h k hk
/-- how far it is: the first n letters that stay -/
def kept1 (row : List Lt) (q i : Nat) : List Lt := (row.take i).filter (fun t => !(t.2.1 == q))
theorem kept1_le (row : List Lt) (q i : Nat) : (kept1 row q i).length ≤ i := Nat.le_trans (List.length_filter_le _ _) (by rw [List.length_take]; omega)
theorem kept1_s {row : List Lt} {q i : Nat} {t : Lt} (h : row[i]? = some t) : kept1 row q (i + 1) = if t.2.1 = q then kept1 row q i else kept1 row q i ++ [t] := by
  have hlt := (List.getElem?_eq_some_iff.mp h).1
  have e : row.take (i + 1) = row.take i ++ [t] := by
    rw [List.take_succ, h]
    rfl
  simp only [kept1, e, List.filter_append]
  by_cases h2 : t.2.1 = q
  · rw [if_pos h2]
    simp [h2]
  · rw [if_neg h2]
    simp [h2]
theorem kept1_all {row : List Lt} {q i : Nat} (h : row.length ≤ i) : kept1 row q i = row.filter (fun t => !(t.2.1 == q)) := by
  simp only [kept1, List.take_of_length_le h]
theorem i32_lt {x y : Int32} (h : ¬ y ≤ x) : x < y := by
  rw [Int32.le_iff_toInt_le] at h
  rw [Int32.lt_iff_toInt_lt]
  omega
/-- letter i can come: none ahead of it has the same sender and receiver -/
def cancome (row : List Lt) (i : Nat) : Bool := match row[i]? with
  | none => false
  | some t => !((row.take i).any (fun q => q.1 == t.1 && q.2.1 == t.2.1))
theorem cancome_of {row : List Lt} {i : Nat} {t : Lt} (h : row[i]? = some t) : cancome row i = !((row.take i).any (fun q => q.1 == t.1 && q.2.1 == t.2.1)) := by simp [cancome, h]
theorem cc_t {b : Bool} (h : ¬ b32 b = 0) : some (Value.int (nI 0)) = some (Value.int (b32 (!b))) := by
  cases b
  · exact absurd rfl h
  · rfl
theorem cc_f {b : Bool} (h : b32 b = 0) : some (Value.int (nI 1)) = some (Value.int (b32 (!b))) := by
  cases b
  · rfl
  · exact absurd h (by decide)
theorem rw_push {A : Nat → Nat} {g : pM} {w fi : Nat} {row : List Lt} {sp : Int32} {r : Nat → Option Nat} {ρ : Nat → Nat} {L : Nat → Lt} {t : Lt} (hn : row.length < 500) (h1 : RI fi (row.length + 1) ρ) (h2 : RO A g w fi (row.length + 1) sp r ρ) (h3 : RLt A g w (va_up L (ρ row.length) t)) (h4 : ∀ k, k < row.length → row[k]? = some (L (ρ k))) (h5 : ∀ t ∈ row, ltW t) (hw : ltW t) : RW A g w (row ++ [t]) sp := by
  refine ⟨fi, r, ρ, _, by simpa using h1, by simpa using h2, h3, fun k hk => ?_, fun q hq => ?_⟩
  · simp only [List.length_append, List.length_singleton] at hk
    by_cases e : k = row.length
    · subst e
      rw [va_up_self]
      simp
    · rw [va_up_ne _ _ (fun q => e (h1.2.2.2 _ _ (by omega) (by omega) q)), List.getElem?_append_left (by omega)]
      exact h4 k (by omega)
  · rcases List.mem_append.mp hq with hq | hq
    · exact h5 q hq
    · simp at hq
      exact hq ▸ hw
theorem kept1_0 (row : List Lt) (q : Nat) : kept1 row q 0 = [] := by simp [kept1]
theorem swp_row {row : List Lt} {q i : Nat} {L : Nat → Lt} {ρ : Nat → Nat} (hr : row[i]? = some (L (ρ i))) (hne : ¬ (L (ρ i)).2.1 = q) (hk : ∀ k, k < (kept1 row q i).length → (kept1 row q i)[k]? = some (L (ρ k))) : ∀ k, k < (kept1 row q (i + 1)).length → (kept1 row q (i + 1))[k]? = some (L (swp ρ (kept1 row q i).length i k)) := by
  intro k hlt
  have hle := kept1_le row q i
  rw [kept1_s hr, if_neg hne] at hlt ⊢
  simp only [List.length_append, List.length_singleton] at hlt
  simp only [swp]
  by_cases e : k = (kept1 row q i).length
  · subst e
    by_cases e2 : (kept1 row q i).length = i
    · rw [if_pos e2, e2]
      simp [e2]
    · rw [if_neg e2, if_pos rfl]
      simp
  · rw [if_neg (by omega), if_neg e, List.getElem?_append_left (by omega)]
    exact hk k (by omega)
theorem kept1_W {row : List Lt} {q i : Nat} (h : ∀ t ∈ row, ltW t) : ∀ t ∈ kept1 row q i, ltW t := fun t ht => h t (List.mem_of_mem_take (List.mem_filter.mp ht).1)
theorem cpy_row {row2 : List Lt} {L : Nat → Lt} {ρ : Nat → Nat} {i : Nat} {t : Lt} (hi : i < 500) (hinj : ∀ a b, a < 500 → b < 500 → ρ a = ρ b → a = b) (hr : row2[i]? = some t) (hk : ∀ k, k < i → row2[k]? = some (L (ρ k))) : ∀ k, k < i + 1 → row2[k]? = some (va_up L (ρ i) t (ρ k)) := by
  intro k hk2
  by_cases e : k = i
  · subst e
    rw [va_up_self]
    exact hr
  · rw [va_up_ne _ _ (fun q => e (hinj _ _ (by omega) hi q))]
    exact hk k (by omega)
abbrev rm_X5_place : Room := { frames := 0, cells := 0, slots := 0, locals := 0 }
theorem Y_X5_place : pY yX5_place cX5_place 2 (Option.some Jvm.ClassFile.FieldType.int) := ⟨u_403, u_404, u_9, u_405⟩
theorem N_X5_place : yX5_place.cls ≠ "java/lang/invoke/MethodHandle" ∧ yX5_place.cls ≠ "java/lang/invoke/VarHandle" ∧ (parseMethodDescriptor yX5_place.desc).map (fun d => d.parameters.length) = some 1 := by decide +kernel
set_option maxRecDepth 20000 in
set_option maxHeartbeats 4000000 in
theorem c_X5_place (A : Nat → Nat) (P : List Nat) (g : pM) (w : Nat) {fi n : Nat} {sp : Int32} (i : Nat) (hi : i < 500) (hfi : fi < 500) (h2 : g (w + 3) = ob 5 [.ref (A (w + 4)), .int (nI fi), .int (nI n), .int sp]) : PM yX5_place cX5_place 2 (Option.some Jvm.ClassFile.FieldType.int) rm_X5_place [.ref (A (w + 3)), .int (nI i)] P A g (fun v g' => v = some (.int (nI ((fi + i) % 500))) ∧ g = g') := by
  refine px_intro (by decide +kernel) (Nat.le_of_ble_eq_true rfl) (fun K sz C R => ?_)
  show V K 0 0 P A g [(0, .ref (A (w + 3))), (1, .int (nI i))] 0 []
  refine g_iload_n (pc := 0) C dX5_place_0 1 rfl ?_
  refine g_if_le (pc := 1) C dX5_place_1 (tgt := 24) (by decide) (fun c_1 => ?_) (fun c_1 => ?_)
  ·
    have c_1 : i ≤ 0 := (nI_leI (by omega) (by omega)).mp c_1
    refine g_aload_n (pc := 24) C dX5_place_24 0 rfl ?_
    refine g_get (pc := 25) C (j := 1) h2 rfl rfl (by decide) u_229 dX5_place_25 ?_
    exact g_iret (pc := 28) C R ⟨rfl, rfl, by rw [show (fi + i) % 500 = fi by omega], rfl⟩ (by decide) (by decide) dX5_place_28
  ·
    have c_1 : ¬ i ≤ 0 := fun h => c_1 ((nI_leI (a := i) (b := 0) (by omega) (by omega)).mpr h)
    refine g_iload_n (pc := 4) C dX5_place_4 1 rfl ?_
    refine g_sipush (pc := 5) C dX5_place_5 (v := nI 500) rfl ?_
    refine g_icmp_ge (pc := 8) C dX5_place_8 (tgt := 24) (by decide) (fun c_8 => ?_) (fun c_8 => ?_)
    ·
      have c_8 : 500 ≤ i := (nI_leI (by omega) (by omega)).mp c_8
      exfalso; omega
    ·
      have c_8 : ¬ 500 ≤ i := fun h => c_8 ((nI_leI (a := 500) (b := i) (by omega) (by omega)).mpr h)
      refine g_aload_n (pc := 11) C dX5_place_11 0 rfl ?_
      refine g_get (pc := 12) C (j := 1) h2 rfl rfl (by decide) u_229 dX5_place_12 ?_
      refine g_iload_n (pc := 15) C dX5_place_15 1 rfl ?_
      refine g_iadd (pc := 16) C dX5_place_16 (z := nI (fi + i)) (nI_add _ _) ?_
      refine g_sipush (pc := 17) C dX5_place_17 (v := nI 500) rfl ?_
      refine g_irem (pc := 20) C dX5_place_20 (by decide) (z := nI ((fi + i) % 500)) (rem500 (by omega)) ?_
      refine g_goto (pc := 21) C dX5_place_21 (tgt := 28) (by decide) ?_
      exact g_iret (pc := 28) C R ⟨rfl, rfl, rfl, rfl⟩ (by decide) (by decide) dX5_place_28
abbrev rm_X5_isLetter : Room := { frames := 0, cells := 0, slots := 0, locals := 0 }
theorem Y_X5_isLetter : pY yX5_isLetter cX5_isLetter 2 (Option.some Jvm.ClassFile.FieldType.boolean) := ⟨u_561, u_562, u_9, u_563⟩
theorem N_X5_isLetter : yX5_isLetter.cls ≠ "java/lang/invoke/MethodHandle" ∧ yX5_isLetter.cls ≠ "java/lang/invoke/VarHandle" ∧ (parseMethodDescriptor yX5_isLetter.desc).map (fun d => d.parameters.length) = some 1 := by decide +kernel
set_option maxRecDepth 20000 in
set_option maxHeartbeats 4000000 in
theorem c_X5_isLetter (A : Nat → Nat) (P : List Nat) (g : pM) (w : Nat) {fi n : Nat} {sp : Int32} {r : Nat → Option Nat} {ρ : Nat → Nat} (x : Int32) (hn : n ≤ 500) (h2 : RO A g w fi n sp r ρ) : PM yX5_isLetter cX5_isLetter 2 (Option.some Jvm.ClassFile.FieldType.boolean) rm_X5_isLetter [.ref (A (w + 3)), .int x] P A g (fun v g' => v = some (.int (b32 (decide (¬ x < 0 ∧ x < nI n)))) ∧ g = g') := by
  refine px_intro (by decide +kernel) (Nat.le_of_ble_eq_true rfl) (fun K sz C R => ?_)
  show V K 0 0 P A g [(0, .ref (A (w + 3))), (1, .int x)] 0 []
  refine g_iload_n (pc := 0) C dX5_isLetter_0 1 rfl ?_
  refine g_if_lt (pc := 1) C dX5_isLetter_1 (tgt := 16) (by decide) (fun c_1 => ?_) (fun c_1 => ?_)
  ·
    refine g_iconst (pc := 16) C dX5_isLetter_16 (v := nI 0) rfl ?_
    exact g_zret (pc := 17) C R (Or.inl rfl) ⟨rfl, rfl, by rw [decide_eq_false (fun q => q.1 c_1)]; rfl, rfl⟩ (by decide) (by decide) dX5_isLetter_17
  ·
    refine g_iload_n (pc := 4) C dX5_isLetter_4 1 rfl ?_
    refine g_aload_n (pc := 5) C dX5_isLetter_5 0 rfl ?_
    refine g_get (pc := 6) C (j := 2) h2.1 rfl rfl (by decide) u_230 dX5_isLetter_6 ?_
    refine g_icmp_ge (pc := 9) C dX5_isLetter_9 (tgt := 16) (by decide) (fun c_9 => ?_) (fun c_9 => ?_)
    ·
      refine g_iconst (pc := 16) C dX5_isLetter_16 (v := nI 0) rfl ?_
      exact g_zret (pc := 17) C R (Or.inl rfl) ⟨rfl, rfl, by rw [decide_eq_false (fun q => i32_nlt c_9 q.2)]; rfl, rfl⟩ (by decide) (by decide) dX5_isLetter_17
    ·
      refine g_iconst (pc := 12) C dX5_isLetter_12 (v := nI 1) rfl ?_
      refine g_goto (pc := 13) C dX5_isLetter_13 (tgt := 17) (by decide) ?_
      exact g_zret (pc := 17) C R (Or.inr rfl) ⟨rfl, rfl, by rw [decide_eq_true ⟨c_1, i32_lt c_9⟩]; rfl, rfl⟩ (by decide) (by decide) dX5_isLetter_17
abbrev rm_X5_at : Room := { frames := 1, cells := 0, slots := 0, locals := 21 }
theorem Y_X5_at : pY yX5_at cX5_at 2 (Option.some (Jvm.ClassFile.FieldType.object "ViewBroadcast$Letter")) := ⟨u_429, u_430, u_9, u_431⟩
theorem N_X5_at : yX5_at.cls ≠ "java/lang/invoke/MethodHandle" ∧ yX5_at.cls ≠ "java/lang/invoke/VarHandle" ∧ (parseMethodDescriptor yX5_at.desc).map (fun d => d.parameters.length) = some 1 := by decide +kernel
set_option maxRecDepth 20000 in
set_option maxHeartbeats 4000000 in
theorem c_X5_at (A : Nat → Nat) (P : List Nat) (g : pM) (w : Nat) {fi n : Nat} {sp : Int32} {r : Nat → Option Nat} {ρ : Nat → Nat} (i : Nat) (hi : i < 500) (hfi : fi < 500) (h2 : RO A g w fi n sp r ρ) : PM yX5_at cX5_at 2 (Option.some (Jvm.ClassFile.FieldType.object "ViewBroadcast$Letter")) rm_X5_at [.ref (A (w + 3)), .int (nI i)] P A g (fun v g' => v = some (.ref (A (w + 2000 + 3 * ρ i))) ∧ g = g') := by
  refine px_intro (by decide +kernel) (Nat.le_of_ble_eq_true rfl) (fun K sz C R => ?_)
  show V K 0 0 P A g [(0, .ref (A (w + 3))), (1, .int (nI i))] 0 []
  refine g_aload_n (pc := 0) C dX5_at_0 0 rfl ?_
  refine g_get (pc := 1) C (j := 0) h2.1 rfl rfl (by decide) u_228 dX5_at_1 ?_
  refine g_aload_n (pc := 4) C dX5_at_4 0 rfl ?_
  refine g_iload_n (pc := 5) C dX5_at_5 1 rfl ?_
  refine g_callV (pc := 6) C (As := [.int (nI i)]) (rest := [.ref (A (w + 4))]) (b := (w + 3)) (c_X5_place A P g w i (by omega) hfi h2.1) h2.1 rfl rfl Y_X5_place u_402 N_X5_place ⟨by decide, by decide⟩ ⟨by decide, by decide⟩ (Nat.le_of_ble_eq_true rfl) rfl dX5_at_6 ?_
  rintro _ _ _ _ ⟨rfl, rfl, rfl, rfl⟩
  show V K 0 0 P A g [(0, .ref (A (w + 3))), (1, .int (nI i))] 9 [.int (nI ((fi + i) % 500)), .ref (A (w + 4))]
  refine g_aldq (pc := 9) C h2.2.1 (fun _ => rfl) (nI_clamp (by omega)) (nI_in0 (by omega) (by omega)) dX5_at_9 (x := A (w + 2000 + 3 * ρ i)) (h2.pl (by omega)) ?_
  exact g_aret (pc := 10) C R (Or.inr ⟨_, rfl⟩) ⟨rfl, rfl, ⟨rfl, rfl⟩⟩ (by decide) (by decide) dX5_at_10
abbrev rm_X5_hasAhead : Room := { frames := 2, cells := 0, slots := 0, locals := 42 }
theorem Y_X5_hasAhead : pY yX5_hasAhead cX5_hasAhead 6 (Option.some Jvm.ClassFile.FieldType.boolean) := ⟨u_445, u_446, u_9, u_447⟩
theorem N_X5_hasAhead : yX5_hasAhead.cls ≠ "java/lang/invoke/MethodHandle" ∧ yX5_hasAhead.cls ≠ "java/lang/invoke/VarHandle" ∧ (parseMethodDescriptor yX5_hasAhead.desc).map (fun d => d.parameters.length) = some 3 := by decide +kernel
set_option maxRecDepth 20000 in
set_option maxHeartbeats 4000000 in
theorem c_X5_hasAhead (A : Nat → Nat) (P : List Nat) (g : pM) (w : Nat) {row : List Lt} {sp : Int32} (n s t : Nat) (hnn : n < 2 ^ 31) (hs : s < 16) (ht : t < 16) (h : RW A g w row sp) : PM yX5_hasAhead cX5_hasAhead 6 (Option.some Jvm.ClassFile.FieldType.boolean) rm_X5_hasAhead [.ref (A (w + 3)), .int (nI n), .int (nI s), .int (nI t)] P A g (fun v g' => v = some (.int (b32 ((row.take n).any (fun q => q.1 == s && q.2.1 == t)))) ∧ g = g') := by
  have hRW := h
  obtain ⟨fi, r, ρ, L, h1, h2, h3, h4, h5⟩ := h
  have hfi : fi < 500 := h1.1
  have hn : row.length ≤ 500 := h1.2.1
  refine px_intro (by decide +kernel) (Nat.le_of_ble_eq_true rfl) (fun K sz C R => ?_)
  show V K 0 0 P A g [(0, .ref (A (w + 3))), (1, .int (nI n)), (2, .int (nI s)), (3, .int (nI t))] 0 []
  refine g_iconst (pc := 0) C dX5_hasAhead_0 (v := nI 0) rfl ?_
  refine g_istore (pc := 1) C dX5_hasAhead_1 (by decide) (lv' := [(0, .ref (A (w + 3))), (1, .int (nI n)), (2, .int (nI s)), (3, .int (nI t)), (4, .int (nI 0))]) [1, 2, 3, 4, 0] rfl ?_
  have lp_3 : ∀ (fuel : Nat) (i : Nat) (hi : i ≤ row.length) (hq : ∀ k q, k < i → row[k]? = some q → ¬ (q.1 = s ∧ q.2.1 = t)), row.length - i < fuel → V K 0 0 P A g [(0, .ref (A (w + 3))), (1, .int (nI n)), (2, .int (nI s)), (3, .int (nI t)), (4, .int (nI i))] 3 [] := by
    intro fuel
    induction fuel with
    | zero => intro i hi hq hμ; exact absurd hμ (Nat.not_lt_zero _)
    | succ fuel ih =>
      intro i hi hq hμ
      refine g_iload (pc := 3) C dX5_hasAhead_3 4 rfl ?_
      refine g_iload_n (pc := 5) C dX5_hasAhead_5 1 rfl ?_
      refine g_icmp_ge (pc := 6) C dX5_hasAhead_6 (tgt := 52) (by decide) (fun c_6 => ?_) (fun c_6 => ?_)
      ·
        have c_6 : n ≤ i := (nI_leI (by omega) (by omega)).mp c_6
        refine g_iconst (pc := 52) C dX5_hasAhead_52 (v := nI 0) rfl ?_
        exact g_zret (pc := 53) C R (Or.inl rfl) ⟨rfl, rfl, by rw [any_no (fun k q hk hkq => hq k q (by omega) hkq)]; rfl, rfl⟩ (by decide) (by decide) dX5_hasAhead_53
      ·
        have c_6 : ¬ n ≤ i := fun h => c_6 ((nI_leI (a := n) (b := i) (by omega) (by omega)).mpr h)
        refine g_iload (pc := 9) C dX5_hasAhead_9 4 rfl ?_
        refine g_aload_n (pc := 11) C dX5_hasAhead_11 0 rfl ?_
        refine g_get (pc := 12) C (j := 2) h2.1 rfl rfl (by decide) u_230 dX5_hasAhead_12 ?_
        refine g_icmp_ge (pc := 15) C dX5_hasAhead_15 (tgt := 52) (by decide) (fun c_15 => ?_) (fun c_15 => ?_)
        ·
          have c_15 : row.length ≤ i := (nI_leI (by omega) (by omega)).mp c_15
          refine g_iconst (pc := 52) C dX5_hasAhead_52 (v := nI 0) rfl ?_
          exact g_zret (pc := 53) C R (Or.inl rfl) ⟨rfl, rfl, by rw [any_no (fun k q hk hkq => hq k q (by have := (List.getElem?_eq_some_iff.mp hkq).1; omega) hkq)]; rfl, rfl⟩ (by decide) (by decide) dX5_hasAhead_53
        ·
          have c_15 : ¬ row.length ≤ i := fun h => c_15 ((nI_leI (a := row.length) (b := i) (by omega) (by omega)).mpr h)
          have hlw := h5 _ (List.mem_of_getElem? (h4 i (by omega)))
          have hlw1 := hlw.1
          have hlw2 := hlw.2.1
          refine g_aload_n (pc := 18) C dX5_hasAhead_18 0 rfl ?_
          refine g_iload (pc := 19) C dX5_hasAhead_19 4 rfl ?_
          refine g_callV (pc := 21) C (As := [.int (nI i)]) (rest := []) (b := (w + 3)) (c_X5_at A P g w i (by omega) hfi h2) h2.1 rfl rfl Y_X5_at u_428 N_X5_at ⟨by decide, by decide⟩ ⟨by decide, by decide⟩ (Nat.le_of_ble_eq_true rfl) rfl dX5_hasAhead_21 ?_
          rintro _ _ _ _ ⟨rfl, rfl, rfl, rfl⟩
          show V K 0 0 P A g [(0, .ref (A (w + 3))), (1, .int (nI n)), (2, .int (nI s)), (3, .int (nI t)), (4, .int (nI i))] 24 [.ref (A (w + 2000 + 3 * ρ i))]
          refine g_astore (pc := 24) C dX5_hasAhead_24 (by decide) (lv' := [(0, .ref (A (w + 3))), (1, .int (nI n)), (2, .int (nI s)), (3, .int (nI t)), (4, .int (nI i)), (5, .ref (A (w + 2000 + 3 * ρ i)))]) [1, 2, 3, 4, 5, 0] rfl ?_
          refine g_aload (pc := 26) C dX5_hasAhead_26 5 rfl ?_
          refine g_get (pc := 28) C (j := 0) (h3 (ρ i) (h1.2.2.1 _ (by omega))).1 rfl rfl (by decide) u_195 dX5_hasAhead_28 ?_
          refine g_iload_n (pc := 31) C dX5_hasAhead_31 2 rfl ?_
          refine g_icmp_ne (pc := 32) C dX5_hasAhead_32 (tgt := 46) (by decide) (fun c_32 => ?_) (fun c_32 => ?_)
          ·
            have c_32 : ¬ (L (ρ i)).1 = s := fun h => c_32 ((nI_eq (a := (L (ρ i)).1) (b := s) (by omega) (by omega)).mpr h)
            refine g_iinc (pc := 46) C dX5_hasAhead_46 (by decide) 4 rfl (v := nI (i + 1)) (nI_i1 _) (lv' := [(0, .ref (A (w + 3))), (1, .int (nI n)), (2, .int (nI s)), (3, .int (nI t)), (4, .int (nI (i + 1))), (5, .ref (A (w + 2000 + 3 * ρ i)))]) [1, 2, 3, 4, 0, 5] rfl ?_
            refine g_goto (pc := 49) C dX5_hasAhead_49 (tgt := 3) (by decide) ?_
            refine g_sub [0, 1, 2, 3, 4] rfl ?_
            exact ih (i + 1) (by omega) (fun k q hk hkq => by rcases Nat.lt_succ_iff_lt_or_eq.mp hk with e | e; exact hq k q e hkq; subst e; rw [h4 k (by omega)] at hkq; cases hkq; exact fun e => c_32 e.1) (by omega)
          ·
            have c_32 : (L (ρ i)).1 = s := (nI_eq (by omega) (by omega)).mp c_32
            refine g_aload (pc := 35) C dX5_hasAhead_35 5 rfl ?_
            refine g_get (pc := 37) C (j := 1) (h3 (ρ i) (h1.2.2.1 _ (by omega))).1 rfl rfl (by decide) u_199 dX5_hasAhead_37 ?_
            refine g_iload_n (pc := 40) C dX5_hasAhead_40 3 rfl ?_
            refine g_icmp_ne (pc := 41) C dX5_hasAhead_41 (tgt := 46) (by decide) (fun c_41 => ?_) (fun c_41 => ?_)
            ·
              have c_41 : ¬ (L (ρ i)).2.1 = t := fun h => c_41 ((nI_eq (a := (L (ρ i)).2.1) (b := t) (by omega) (by omega)).mpr h)
              refine g_iinc (pc := 46) C dX5_hasAhead_46 (by decide) 4 rfl (v := nI (i + 1)) (nI_i1 _) (lv' := [(0, .ref (A (w + 3))), (1, .int (nI n)), (2, .int (nI s)), (3, .int (nI t)), (4, .int (nI (i + 1))), (5, .ref (A (w + 2000 + 3 * ρ i)))]) [1, 2, 3, 4, 0, 5] rfl ?_
              refine g_goto (pc := 49) C dX5_hasAhead_49 (tgt := 3) (by decide) ?_
              refine g_sub [0, 1, 2, 3, 4] rfl ?_
              exact ih (i + 1) (by omega) (fun k q hk hkq => by rcases Nat.lt_succ_iff_lt_or_eq.mp hk with e | e; exact hq k q e hkq; subst e; rw [h4 k (by omega)] at hkq; cases hkq; exact fun e => c_41 e.2) (by omega)
            ·
              have c_41 : (L (ρ i)).2.1 = t := (nI_eq (by omega) (by omega)).mp c_41
              refine g_iconst (pc := 44) C dX5_hasAhead_44 (v := nI 1) rfl ?_
              exact g_zret (pc := 45) C R (Or.inr rfl) ⟨rfl, rfl, by rw [any_yes (k := i) (by omega) (h4 i (by omega)) c_32 c_41]; rfl, rfl⟩ (by decide) (by decide) dX5_hasAhead_45
  exact lp_3 (_ + 1) 0 (Nat.zero_le _) (fun k q hk => absurd hk (Nat.not_lt_zero k)) (Nat.lt_succ_self _)
abbrev rm_X5_canCome : Room := { frames := 3, cells := 0, slots := 0, locals := 67 }
theorem Y_X5_canCome : pY yX5_canCome cX5_canCome 3 (Option.some Jvm.ClassFile.FieldType.boolean) := ⟨u_565, u_566, u_9, u_567⟩
theorem N_X5_canCome : yX5_canCome.cls ≠ "java/lang/invoke/MethodHandle" ∧ yX5_canCome.cls ≠ "java/lang/invoke/VarHandle" ∧ (parseMethodDescriptor yX5_canCome.desc).map (fun d => d.parameters.length) = some 1 := by decide +kernel
set_option maxRecDepth 20000 in
set_option maxHeartbeats 4000000 in
theorem c_X5_canCome (A : Nat → Nat) (P : List Nat) (g : pM) (w : Nat) {row : List Lt} {sp : Int32} (i : Nat) (hi : i < row.length) (h : RW A g w row sp) : PM yX5_canCome cX5_canCome 3 (Option.some Jvm.ClassFile.FieldType.boolean) rm_X5_canCome [.ref (A (w + 3)), .int (nI i)] P A g (fun v g' => v = some (.int (b32 (cancome row i))) ∧ g = g') := by
  have hRW := h
  obtain ⟨fi, r, ρ, L, h1, h2, h3, h4, h5⟩ := h
  have hfi : fi < 500 := h1.1
  have hn : row.length ≤ 500 := h1.2.1
  have hlw := h5 _ (List.mem_of_getElem? (h4 i hi))
  have hlw1 := hlw.1
  have hlw2 := hlw.2.1
  refine px_intro (by decide +kernel) (Nat.le_of_ble_eq_true rfl) (fun K sz C R => ?_)
  show V K 0 0 P A g [(0, .ref (A (w + 3))), (1, .int (nI i))] 0 []
  refine g_aload_n (pc := 0) C dX5_canCome_0 0 rfl ?_
  refine g_iload_n (pc := 1) C dX5_canCome_1 1 rfl ?_
  refine g_callV (pc := 2) C (As := [.int (nI i)]) (rest := []) (b := (w + 3)) (c_X5_at A P g w i (by omega) hfi h2) h2.1 rfl rfl Y_X5_at u_428 N_X5_at ⟨by decide, by decide⟩ ⟨by decide, by decide⟩ (Nat.le_of_ble_eq_true rfl) rfl dX5_canCome_2 ?_
  rintro _ _ _ _ ⟨rfl, rfl, rfl, rfl⟩
  show V K 0 0 P A g [(0, .ref (A (w + 3))), (1, .int (nI i))] 5 [.ref (A (w + 2000 + 3 * ρ i))]
  refine g_astore_n (pc := 5) C dX5_canCome_5 (by decide) (lv' := [(0, .ref (A (w + 3))), (1, .int (nI i)), (2, .ref (A (w + 2000 + 3 * ρ i)))]) [1, 2, 0] rfl ?_
  refine g_aload_n (pc := 6) C dX5_canCome_6 0 rfl ?_
  refine g_iload_n (pc := 7) C dX5_canCome_7 1 rfl ?_
  refine g_aload_n (pc := 8) C dX5_canCome_8 2 rfl ?_
  refine g_get (pc := 9) C (j := 0) (h3 (ρ i) (h1.2.2.1 _ (by omega))).1 rfl rfl (by decide) u_195 dX5_canCome_9 ?_
  refine g_aload_n (pc := 12) C dX5_canCome_12 2 rfl ?_
  refine g_get (pc := 13) C (j := 1) (h3 (ρ i) (h1.2.2.1 _ (by omega))).1 rfl rfl (by decide) u_199 dX5_canCome_13 ?_
  refine g_callV (pc := 16) C (As := [.int (nI i), .int (nI (L (ρ i)).1), .int (nI (L (ρ i)).2.1)]) (rest := []) (b := (w + 3)) (c_X5_hasAhead A P g w i (L (ρ i)).1 (L (ρ i)).2.1 (by omega) (by omega) (by omega) hRW) h2.1 rfl rfl Y_X5_hasAhead u_568 N_X5_hasAhead ⟨by decide, by decide⟩ ⟨by decide, by decide⟩ (Nat.le_of_ble_eq_true rfl) rfl dX5_canCome_16 ?_
  rintro _ _ _ _ ⟨rfl, rfl, rfl, rfl⟩
  show V K 0 0 P A g [(0, .ref (A (w + 3))), (1, .int (nI i)), (2, .ref (A (w + 2000 + 3 * ρ i)))] 19 [.int (b32 ((row.take i).any (fun q => q.1 == (L (ρ i)).1 && q.2.1 == (L (ρ i)).2.1)))]
  refine g_if_ne (pc := 19) C dX5_canCome_19 (tgt := 26) (by decide) (fun c_19 => ?_) (fun c_19 => ?_)
  ·
    refine g_iconst (pc := 26) C dX5_canCome_26 (v := nI 0) rfl ?_
    exact g_zret (pc := 27) C R (Or.inl rfl) ⟨rfl, rfl, by rw [cancome_of (h4 i hi)]; exact cc_t c_19, rfl⟩ (by decide) (by decide) dX5_canCome_27
  ·
    refine g_iconst (pc := 22) C dX5_canCome_22 (v := nI 1) rfl ?_
    refine g_goto (pc := 23) C dX5_canCome_23 (tgt := 27) (by decide) ?_
    exact g_zret (pc := 27) C R (Or.inr rfl) ⟨rfl, rfl, by rw [cancome_of (h4 i hi)]; exact cc_f c_19, rfl⟩ (by decide) (by decide) dX5_canCome_27
abbrev rm_X5_open : Room := { frames := 1, cells := 0, slots := 0, locals := 21 }
theorem Y_X5_open : pY yX5_open cX5_open 1 (Option.some (Jvm.ClassFile.FieldType.object "ViewBroadcast$Letter")) := ⟨u_399, u_400, u_9, u_401⟩
theorem N_X5_open : yX5_open.cls ≠ "java/lang/invoke/MethodHandle" ∧ yX5_open.cls ≠ "java/lang/invoke/VarHandle" ∧ (parseMethodDescriptor yX5_open.desc).map (fun d => d.parameters.length) = some 0 := by decide +kernel
set_option maxRecDepth 20000 in
set_option maxHeartbeats 4000000 in
theorem c_X5_open (A : Nat → Nat) (P : List Nat) (g : pM) (w : Nat) {row : List Lt} {sp : Int32} (h : RW A g w row sp) : PM yX5_open cX5_open 1 (Option.some (Jvm.ClassFile.FieldType.object "ViewBroadcast$Letter")) rm_X5_open [.ref (A (w + 3))] P A g (fun v g' => Fr g g' (w + 3) (w + 4) ∧ ((500 ≤ row.length ∧ v = some .null ∧ RW A g' w row (sp + 1)) ∨ (row.length < 500 ∧ ∃ j t0, j < 500 ∧ v = some (.ref (A (w + 2000 + 3 * j))) ∧ LT A g' (w + 2000 + 3 * j) t0 ∧ ∀ g2 t, Fr g' g2 (w + 2000 + 3 * j) (w + 2000 + 3 * j + 3) → LT A g2 (w + 2000 + 3 * j) t → ltW t → RW A g2 w (row ++ [t]) sp))) := by
  have hRW := h
  obtain ⟨fi, r, ρ, L, h1, h2, h3, h4, h5⟩ := h
  have hfi : fi < 500 := h1.1
  have hn : row.length ≤ 500 := h1.2.1
  refine px_intro (by decide +kernel) (Nat.le_of_ble_eq_true rfl) (fun K sz C R => ?_)
  show V K 0 0 P A g [(0, .ref (A (w + 3)))] 0 []
  refine g_aload_n (pc := 0) C dX5_open_0 0 rfl ?_
  refine g_get (pc := 1) C (j := 2) h2.1 rfl rfl (by decide) u_230 dX5_open_1 ?_
  refine g_sipush (pc := 4) C dX5_open_4 (v := nI 500) rfl ?_
  refine g_icmp_lt (pc := 7) C dX5_open_7 (tgt := 22) (by decide) (fun c_7 => ?_) (fun c_7 => ?_)
  ·
    have c_7 : row.length < 500 := (nI_ltI (by omega) (by omega)).mp c_7
    refine g_aload_n (pc := 22) C dX5_open_22 0 rfl ?_
    refine g_dup (pc := 23) C dX5_open_23 rfl ?_
    refine g_get (pc := 24) C (j := 2) h2.1 rfl rfl (by decide) u_230 dX5_open_24 ?_
    refine g_iconst (pc := 27) C dX5_open_27 (v := nI 1) rfl ?_
    refine g_iadd (pc := 28) C dX5_open_28 (z := nI (row.length + 1)) (nI_add _ _) ?_
    refine g_put (pc := 29) C (j := 2) h2.1 rfl (by decide) (Nat.le_of_ble_eq_true rfl) u_230 rfl pfd_I rfl rfl dX5_open_29 ?_
    obtain ⟨g_1, hg_1⟩ : ∃ yM : pM, yM = va_up g (w + 3) (ob 5 [.ref (A (w + 4)), .int (nI fi), .int (nI (row.length + 1)), .int sp]) := ⟨_, rfl⟩
    show V K 0 0 P A (va_up g (w + 3) (ob 5 [.ref (A (w + 4)), .int (nI fi), .int (nI (row.length + 1)), .int sp])) [(0, .ref (A (w + 3)))] 32 []
    rw [← hg_1]
    have h_2 : g_1 (w + 3) = ob 5 [.ref (A (w + 4)), .int (nI fi), .int (nI (row.length + 1)), .int sp] := by rw [hg_1]; exact va_up_self _ _ _
    have h_3 : g_1 (w + 4) = aq 2 500 r := by rw [hg_1, va_up_ne _ _ (show w + 4 ≠ w + 3 from by omega)]; exact h2.2.1
    have hO2 : RO A g_1 w fi (row.length + 1) sp r ρ := ⟨h_2, h_3, h2.2.2⟩
    have h12 : RI fi (row.length + 1) ρ := ⟨h1.1, by omega, h1.2.2⟩
    refine g_aload_n (pc := 32) C dX5_open_32 0 rfl ?_
    refine g_get (pc := 33) C (j := 0) hO2.1 rfl rfl (by decide) u_228 dX5_open_33 ?_
    refine g_aload_n (pc := 36) C dX5_open_36 0 rfl ?_
    refine g_aload_n (pc := 37) C dX5_open_37 0 rfl ?_
    refine g_get (pc := 38) C (j := 2) hO2.1 rfl rfl (by decide) u_230 dX5_open_38 ?_
    refine g_iconst (pc := 41) C dX5_open_41 (v := nI 1) rfl ?_
    refine g_isub (pc := 42) C dX5_open_42 (z := nI row.length) (by rw [pk_sub (by omega)]; rfl) ?_
    refine g_callV (pc := 43) C (As := [.int (nI row.length)]) (rest := [.ref (A (w + 4))]) (b := (w + 3)) (c_X5_place A P g_1 w row.length (by omega) hfi hO2.1) hO2.1 rfl rfl Y_X5_place u_402 N_X5_place ⟨by decide, by decide⟩ ⟨by decide, by decide⟩ (Nat.le_of_ble_eq_true rfl) rfl dX5_open_43 ?_
    rintro _ _ _ _ ⟨rfl, rfl, rfl, rfl⟩
    show V K 0 0 P A g_1 [(0, .ref (A (w + 3)))] 46 [.int (nI ((fi + row.length) % 500)), .ref (A (w + 4))]
    refine g_aldq (pc := 46) C hO2.2.1 (fun _ => rfl) (nI_clamp (by omega)) (nI_in0 (by omega) (by omega)) dX5_open_46 (x := A (w + 2000 + 3 * ρ row.length)) (h2.pl (by omega)) ?_
    exact g_aret (pc := 47) C R (Or.inr ⟨_, rfl⟩) ⟨rfl, rfl, by rw [hg_1]; exact Fr.up (by omega) (by omega), Or.inr ⟨c_7, ρ row.length, L (ρ row.length), h1.2.2.1 _ c_7, rfl, (h3 _ (h1.2.2.1 _ c_7)).fr (show Fr g g_1 (w + 3) (w + 4) from by rw [hg_1]; exact Fr.up (by omega) (by omega)) (by omega), fun g2 t hf ht hw => rw_push c_7 h12 (hO2.fr hf (by omega)) ((h3.fr (show Fr g g_1 (w + 3) (w + 4) from by rw [hg_1]; exact Fr.up (by omega) (by omega)) (by omega)).up hf ht) h4 h5 hw⟩⟩ (by decide) (by decide) dX5_open_47
  ·
    have c_7 : ¬ row.length < 500 := fun h => c_7 ((nI_ltI (a := row.length) (b := 500) (by omega) (by omega)).mpr h)
    have c_7 : 500 ≤ row.length := by omega
    refine g_aload_n (pc := 10) C dX5_open_10 0 rfl ?_
    refine g_dup (pc := 11) C dX5_open_11 rfl ?_
    refine g_get (pc := 12) C (j := 3) h2.1 rfl rfl (by decide) u_233 dX5_open_12 ?_
    refine g_iconst (pc := 15) C dX5_open_15 (v := nI 1) rfl ?_
    refine g_iadd (pc := 16) C dX5_open_16 (z := sp + (nI 1)) rfl ?_
    refine g_put (pc := 17) C (j := 3) h2.1 rfl (by decide) (Nat.le_of_ble_eq_true rfl) u_233 rfl pfd_I rfl rfl dX5_open_17 ?_
    obtain ⟨g_4, hg_4⟩ : ∃ yM : pM, yM = va_up g (w + 3) (ob 5 [.ref (A (w + 4)), .int (nI fi), .int (nI row.length), .int (sp + (nI 1))]) := ⟨_, rfl⟩
    show V K 0 0 P A (va_up g (w + 3) (ob 5 [.ref (A (w + 4)), .int (nI fi), .int (nI row.length), .int (sp + (nI 1))])) [(0, .ref (A (w + 3)))] 20 []
    rw [← hg_4]
    have h_5 : g_4 (w + 3) = ob 5 [.ref (A (w + 4)), .int (nI fi), .int (nI row.length), .int (sp + (nI 1))] := by rw [hg_4]; exact va_up_self _ _ _
    have h_6 : g_4 (w + 4) = aq 2 500 r := by rw [hg_4, va_up_ne _ _ (show w + 4 ≠ w + 3 from by omega)]; exact h2.2.1
    refine g_null (pc := 20) C dX5_open_20 ?_
    exact g_aret (pc := 21) C R (Or.inl rfl) ⟨rfl, rfl, by rw [hg_4]; exact Fr.up (by omega) (by omega), Or.inl ⟨c_7, rfl, fi, r, ρ, L, h1, ⟨h_5, h_6, h2.2.2⟩, h3.fr (show Fr g g_4 (w + 3) (w + 4) from by rw [hg_4]; exact Fr.up (by omega) (by omega)) (by omega), h4, h5⟩⟩ (by decide) (by decide) dX5_open_21
abbrev rm_X5_removeAt : Room := { frames := 2, cells := 0, slots := 0, locals := 42 }
theorem Y_X5_removeAt : pY yX5_removeAt cX5_removeAt 4 (Option.none : Option Jvm.ClassFile.FieldType) := ⟨u_585, u_586, u_9, u_587⟩
theorem N_X5_removeAt : yX5_removeAt.cls ≠ "java/lang/invoke/MethodHandle" ∧ yX5_removeAt.cls ≠ "java/lang/invoke/VarHandle" ∧ (parseMethodDescriptor yX5_removeAt.desc).map (fun d => d.parameters.length) = some 1 := by decide +kernel
set_option maxRecDepth 20000 in
set_option maxHeartbeats 4000000 in
theorem c_X5_removeAt (A : Nat → Nat) (P : List Nat) (g : pM) (w : Nat) {row : List Lt} {sp : Int32} (i : Nat) (hi : i < row.length) (h : RW A g w row sp) : PM yX5_removeAt cX5_removeAt 4 (Option.none : Option Jvm.ClassFile.FieldType) rm_X5_removeAt [.ref (A (w + 3)), .int (nI i)] P A g (fun v g' => v = none ∧ RW A g' w (row.eraseIdx i) sp ∧ Fr g g' (w + 3) (w + 5)) := by
  have hRW := h
  obtain ⟨fi, r, ρ, L, h1, h2, h3, h4, h5⟩ := h
  have hfi : fi < 500 := h1.1
  have hn : row.length ≤ 500 := h1.2.1
  refine px_intro (by decide +kernel) (Nat.le_of_ble_eq_true rfl) (fun K sz C R => ?_)
  show V K 0 0 P A g [(0, .ref (A (w + 3))), (1, .int (nI i))] 0 []
  refine g_aload_n (pc := 0) C dX5_removeAt_0 0 rfl ?_
  refine g_iload_n (pc := 1) C dX5_removeAt_1 1 rfl ?_
  refine g_callV (pc := 2) C (As := [.int (nI i)]) (rest := []) (b := (w + 3)) (c_X5_isLetter A P g w (nI i) hn h2) h2.1 rfl rfl Y_X5_isLetter u_588 N_X5_isLetter ⟨by decide, by decide⟩ ⟨by decide, by decide⟩ (Nat.le_of_ble_eq_true rfl) rfl dX5_removeAt_2 ?_
  rintro _ _ _ _ ⟨rfl, rfl, rfl, rfl⟩
  show V K 0 0 P A g [(0, .ref (A (w + 3))), (1, .int (nI i))] 5 [.int (b32 (decide (¬ nI i < 0 ∧ nI i < nI row.length)))]
  refine g_if_ne (pc := 5) C dX5_removeAt_5 (tgt := 9) (by decide) (fun c_5 => ?_) (fun c_5 => ?_)
  ·
    refine g_iload_n (pc := 9) C dX5_removeAt_9 1 rfl ?_
    refine g_if_ne (pc := 10) C dX5_removeAt_10 (tgt := 25) (by decide) (fun c_10 => ?_) (fun c_10 => ?_)
    ·
      have c_10 : ¬ i = 0 := fun h => c_10 ((nI_eq (a := i) (b := 0) (by omega) (by omega)).mpr h)
      refine g_aload_n (pc := 25) C dX5_removeAt_25 0 rfl ?_
      refine g_iload_n (pc := 26) C dX5_removeAt_26 1 rfl ?_
      refine g_callV (pc := 27) C (As := [.int (nI i)]) (rest := []) (b := (w + 3)) (c_X5_at A P g w i (by omega) hfi h2) h2.1 rfl rfl Y_X5_at u_428 N_X5_at ⟨by decide, by decide⟩ ⟨by decide, by decide⟩ (Nat.le_of_ble_eq_true rfl) rfl dX5_removeAt_27 ?_
      rintro _ _ _ _ ⟨rfl, rfl, rfl, rfl⟩
      show V K 0 0 P A g [(0, .ref (A (w + 3))), (1, .int (nI i))] 30 [.ref (A (w + 2000 + 3 * ρ i))]
      refine g_astore_n (pc := 30) C dX5_removeAt_30 (by decide) (lv' := [(0, .ref (A (w + 3))), (1, .int (nI i)), (2, .ref (A (w + 2000 + 3 * ρ i)))]) [1, 2, 0] rfl ?_
      refine g_iload_n (pc := 31) C dX5_removeAt_31 1 rfl ?_
      refine g_istore_n (pc := 32) C dX5_removeAt_32 (by decide) (lv' := [(0, .ref (A (w + 3))), (1, .int (nI i)), (2, .ref (A (w + 2000 + 3 * ρ i))), (3, .int (nI i))]) [1, 2, 3, 0] rfl ?_
      have lp_33 : ∀ (fuel : Nat) (j : Nat) (hij : i ≤ j) (hjn : j < row.length) (r' : Nat → Option Nat) (hsh : rsh A w fi i j ρ r'), row.length - j < fuel → V K 0 0 P A (va_up g (w + 4) (aq 2 500 r')) [(0, .ref (A (w + 3))), (1, .int (nI i)), (2, .ref (A (w + 2000 + 3 * ρ i))), (3, .int (nI j))] 33 [] := by
        intro fuel
        induction fuel with
        | zero => intro j hij hjn r' hsh hμ; exact absurd hμ (Nat.not_lt_zero _)
        | succ fuel ih =>
          intro j hij hjn r' hsh hμ
          obtain ⟨gl, hgl⟩ : ∃ yM : pM, yM = va_up g (w + 4) (aq 2 500 r') := ⟨_, rfl⟩
          rw [← hgl]
          have hfl : Fr g gl (w + 4) (w + 5) := by rw [hgl]; exact Fr.up (by omega) (by omega)
          have hOl : RO A gl w fi row.length sp r' (rhoM ρ i j) := ⟨hfl.at (by omega) h2.1, by rw [hgl]; exact va_up_self _ _ _, hsh⟩
          have h3l := h3.fr hfl (by omega)
          refine g_iload_n (pc := 33) C dX5_removeAt_33 3 rfl ?_
          refine g_iconst (pc := 34) C dX5_removeAt_34 (v := nI 1) rfl ?_
          refine g_iadd (pc := 35) C dX5_removeAt_35 (z := nI (j + 1)) (nI_add _ _) ?_
          refine g_aload_n (pc := 36) C dX5_removeAt_36 0 rfl ?_
          refine g_get (pc := 37) C (j := 2) hOl.1 rfl rfl (by decide) u_230 dX5_removeAt_37 ?_
          refine g_icmp_ge (pc := 40) C dX5_removeAt_40 (tgt := 66) (by decide) (fun c_40 => ?_) (fun c_40 => ?_)
          ·
            have c_40 : row.length ≤ (j + 1) := (nI_leI (by omega) (by omega)).mp c_40
            refine g_aload_n (pc := 66) C dX5_removeAt_66 0 rfl ?_
            refine g_get (pc := 67) C (j := 0) hOl.1 rfl rfl (by decide) u_228 dX5_removeAt_67 ?_
            refine g_aload_n (pc := 70) C dX5_removeAt_70 0 rfl ?_
            refine g_aload_n (pc := 71) C dX5_removeAt_71 0 rfl ?_
            refine g_get (pc := 72) C (j := 2) hOl.1 rfl rfl (by decide) u_230 dX5_removeAt_72 ?_
            refine g_iconst (pc := 75) C dX5_removeAt_75 (v := nI 1) rfl ?_
            refine g_isub (pc := 76) C dX5_removeAt_76 (z := nI (row.length - 1)) (pk_sub (by omega)) ?_
            refine g_callV (pc := 77) C (As := [.int (nI (row.length - 1))]) (rest := [.ref (A (w + 4))]) (b := (w + 3)) (c_X5_place A P gl w (row.length - 1) (by omega) hfi hOl.1) hOl.1 rfl rfl Y_X5_place u_402 N_X5_place ⟨by decide, by decide⟩ ⟨by decide, by decide⟩ (Nat.le_of_ble_eq_true rfl) rfl dX5_removeAt_77 ?_
            rintro _ _ _ _ ⟨rfl, rfl, rfl, rfl⟩
            show V K 0 0 P A gl [(0, .ref (A (w + 3))), (1, .int (nI i)), (2, .ref (A (w + 2000 + 3 * ρ i))), (3, .int (nI j))] 80 [.int (nI ((fi + (row.length - 1)) % 500)), .ref (A (w + 4))]
            refine g_aload_n (pc := 80) C dX5_removeAt_80 2 rfl ?_
            refine g_astq (pc := 81) C hOl.2.1 (h3l (ρ i) (h1.2.2.1 _ (by omega))).1 rfl (fun _ => rfl) (nI_clamp (by omega)) (nI_in0 (n := 500) (by omega) (by omega)) dX5_removeAt_81 ?_
            obtain ⟨g_1, hg_1⟩ : ∃ yM : pM, yM = va_up gl (w + 4) (aq 2 500 (va_up r' ((fi + (row.length - 1)) % 500) (some (A (w + 2000 + 3 * ρ i))))) := ⟨_, rfl⟩
            show V K 0 0 P A (va_up gl (w + 4) (aq 2 500 (va_up r' ((fi + (row.length - 1)) % 500) (some (A (w + 2000 + 3 * ρ i)))))) [(0, .ref (A (w + 3))), (1, .int (nI i)), (2, .ref (A (w + 2000 + 3 * ρ i))), (3, .int (nI j))] 82 []
            rw [← hg_1]
            have h_2 : g_1 (w + 3) = ob 5 [.ref (A (w + 4)), .int (nI fi), .int (nI row.length), .int sp] := by rw [hg_1, va_up_ne _ _ (show w + 3 ≠ w + 4 from by omega)]; exact hOl.1
            have h_3 : g_1 (w + 4) = aq 2 500 (va_up r' ((fi + (row.length - 1)) % 500) (some (A (w + 2000 + 3 * ρ i)))) := by rw [hg_1]; exact va_up_self _ _ _
            have hf_4 : Fr gl g_1 (w + 4) (w + 4 + 1) := by rw [hg_1]; exact Fr.up (by omega) (by omega)
            have hp_5 := LT.fr (h3l (ρ i) (h1.2.2.1 _ (by omega))) hf_4 (by omega)
            refine g_aload_n (pc := 82) C dX5_removeAt_82 0 rfl ?_
            refine g_dup (pc := 83) C dX5_removeAt_83 rfl ?_
            refine g_get (pc := 84) C (j := 2) h_2 rfl rfl (by decide) u_230 dX5_removeAt_84 ?_
            refine g_iconst (pc := 87) C dX5_removeAt_87 (v := nI 1) rfl ?_
            refine g_isub (pc := 88) C dX5_removeAt_88 (z := nI (row.length - 1)) (pk_sub (by omega)) ?_
            refine g_put (pc := 89) C (j := 2) h_2 rfl (by decide) (Nat.le_of_ble_eq_true rfl) u_230 rfl pfd_I rfl rfl dX5_removeAt_89 ?_
            obtain ⟨g_6, hg_6⟩ : ∃ yM : pM, yM = va_up g_1 (w + 3) (ob 5 [.ref (A (w + 4)), .int (nI fi), .int (nI (row.length - 1)), .int sp]) := ⟨_, rfl⟩
            show V K 0 0 P A (va_up g_1 (w + 3) (ob 5 [.ref (A (w + 4)), .int (nI fi), .int (nI (row.length - 1)), .int sp])) [(0, .ref (A (w + 3))), (1, .int (nI i)), (2, .ref (A (w + 2000 + 3 * ρ i))), (3, .int (nI j))] 92 []
            rw [← hg_6]
            have h_7 : g_6 (w + 3) = ob 5 [.ref (A (w + 4)), .int (nI fi), .int (nI (row.length - 1)), .int sp] := by rw [hg_6]; exact va_up_self _ _ _
            have h_8 : g_6 (w + 4) = aq 2 500 (va_up r' ((fi + (row.length - 1)) % 500) (some (A (w + 2000 + 3 * ρ i)))) := by rw [hg_6, va_up_ne _ _ (show w + 4 ≠ w + 3 from by omega)]; exact h_3
            have hf_9 : Fr g_1 g_6 (w + 3) (w + 3 + 1) := by rw [hg_6]; exact Fr.up (by omega) (by omega)
            have hp_10 := LT.fr hp_5 hf_9 (by omega)
            exact g_vret (pc := 92) C R ⟨rfl, rfl, rfl, ⟨fi, _, rhoR ρ i row.length, L, by rw [List.length_eraseIdx_of_lt hi]; exact rhoR_I h1 hi, ⟨by rw [h_7, List.length_eraseIdx_of_lt hi], h_8, rsh_e hn hi (by omega) hsh⟩, h3l.fr (show Fr gl _ (w + 3) (w + 5) from fun k hk => by rw [hg_6, va_up_ne _ _ (by omega), hg_1, va_up_ne _ _ (by omega)]) (by omega), rhoR_row hi h4, fun t ht => h5 t (List.mem_of_mem_eraseIdx ht)⟩, (hfl.mo (by omega) (by omega)).tr (show Fr gl _ (w + 3) (w + 5) from fun k hk => by rw [hg_6, va_up_ne _ _ (by omega), hg_1, va_up_ne _ _ (by omega)])⟩ (by decide) (by decide) dX5_removeAt_92
          ·
            have c_40 : ¬ row.length ≤ (j + 1) := fun h => c_40 ((nI_leI (a := row.length) (b := (j + 1)) (by omega) (by omega)).mpr h)
            refine g_aload_n (pc := 43) C dX5_removeAt_43 0 rfl ?_
            refine g_get (pc := 44) C (j := 0) hOl.1 rfl rfl (by decide) u_228 dX5_removeAt_44 ?_
            refine g_aload_n (pc := 47) C dX5_removeAt_47 0 rfl ?_
            refine g_iload_n (pc := 48) C dX5_removeAt_48 3 rfl ?_
            refine g_callV (pc := 49) C (As := [.int (nI j)]) (rest := [.ref (A (w + 4))]) (b := (w + 3)) (c_X5_place A P gl w j (by omega) hfi hOl.1) hOl.1 rfl rfl Y_X5_place u_402 N_X5_place ⟨by decide, by decide⟩ ⟨by decide, by decide⟩ (Nat.le_of_ble_eq_true rfl) rfl dX5_removeAt_49 ?_
            rintro _ _ _ _ ⟨rfl, rfl, rfl, rfl⟩
            show V K 0 0 P A gl [(0, .ref (A (w + 3))), (1, .int (nI i)), (2, .ref (A (w + 2000 + 3 * ρ i))), (3, .int (nI j))] 52 [.int (nI ((fi + j) % 500)), .ref (A (w + 4))]
            refine g_aload_n (pc := 52) C dX5_removeAt_52 0 rfl ?_
            refine g_iload_n (pc := 53) C dX5_removeAt_53 3 rfl ?_
            refine g_iconst (pc := 54) C dX5_removeAt_54 (v := nI 1) rfl ?_
            refine g_iadd (pc := 55) C dX5_removeAt_55 (z := nI (j + 1)) (nI_add _ _) ?_
            refine g_callV (pc := 56) C (As := [.int (nI (j + 1))]) (rest := [.int (nI ((fi + j) % 500)), .ref (A (w + 4))]) (b := (w + 3)) (c_X5_at A P gl w (j + 1) (by omega) hfi hOl) hOl.1 rfl rfl Y_X5_at u_428 N_X5_at ⟨by decide, by decide⟩ ⟨by decide, by decide⟩ (Nat.le_of_ble_eq_true rfl) rfl dX5_removeAt_56 ?_
            rintro _ _ _ _ ⟨rfl, rfl, rfl, rfl⟩
            rw [rhoM_n]
            show V K 0 0 P A gl [(0, .ref (A (w + 3))), (1, .int (nI i)), (2, .ref (A (w + 2000 + 3 * ρ i))), (3, .int (nI j))] 59 [.ref (A (w + 2000 + 3 * ρ (j + 1))), .int (nI ((fi + j) % 500)), .ref (A (w + 4))]
            refine g_astq (pc := 59) C hOl.2.1 (h3l (ρ (j + 1)) (h1.2.2.1 _ (by omega))).1 rfl (fun _ => rfl) (nI_clamp (by omega)) (nI_in0 (n := 500) (by omega) (by omega)) dX5_removeAt_59 ?_
            obtain ⟨g_11, hg_11⟩ : ∃ yM : pM, yM = va_up gl (w + 4) (aq 2 500 (va_up r' ((fi + j) % 500) (some (A (w + 2000 + 3 * ρ (j + 1)))))) := ⟨_, rfl⟩
            show V K 0 0 P A (va_up gl (w + 4) (aq 2 500 (va_up r' ((fi + j) % 500) (some (A (w + 2000 + 3 * ρ (j + 1))))))) [(0, .ref (A (w + 3))), (1, .int (nI i)), (2, .ref (A (w + 2000 + 3 * ρ i))), (3, .int (nI j))] 60 []
            rw [← hg_11]
            have h_12 : g_11 (w + 3) = ob 5 [.ref (A (w + 4)), .int (nI fi), .int (nI row.length), .int sp] := by rw [hg_11, va_up_ne _ _ (show w + 3 ≠ w + 4 from by omega)]; exact hOl.1
            have h_13 : g_11 (w + 4) = aq 2 500 (va_up r' ((fi + j) % 500) (some (A (w + 2000 + 3 * ρ (j + 1))))) := by rw [hg_11]; exact va_up_self _ _ _
            have hf_14 : Fr gl g_11 (w + 4) (w + 4 + 1) := by rw [hg_11]; exact Fr.up (by omega) (by omega)
            have hp_15 := LT.fr (h3l (ρ (j + 1)) (h1.2.2.1 _ (by omega))) hf_14 (by omega)
            have hp_16 := LT.fr (h3l (ρ i) (h1.2.2.1 _ (by omega))) hf_14 (by omega)
            refine g_iinc (pc := 60) C dX5_removeAt_60 (by decide) 3 rfl (v := nI (j + 1)) (nI_i1 _) (lv' := [(0, .ref (A (w + 3))), (1, .int (nI i)), (2, .ref (A (w + 2000 + 3 * ρ i))), (3, .int (nI (j + 1)))]) [1, 2, 3, 0] rfl ?_
            refine g_goto (pc := 63) C dX5_removeAt_63 (tgt := 33) (by decide) ?_
            rw [show g_11 = va_up g (w + 4) (aq 2 500 (va_up r' ((fi + j) % 500) (some (A (w + 2000 + 3 * ρ (j + 1)))))) from by rw [hg_11, hgl, bx_uu]]
            exact ih (j + 1) (by omega) (by omega) _ (rsh_s (by omega) hij hsh) (by omega)
      rw [show g = va_up g (w + 4) (aq 2 500 r) from (va_up_id h2.2.1).symm]
      exact lp_33 (_ + 1) i (Nat.le_refl _) hi r (by intro k hk; rw [rhoM_0]; exact h2.2.2 k hk) (Nat.lt_succ_self _)
    ·
      have c_10 : i = 0 := (nI_eq (by omega) (by omega)).mp c_10
      refine g_aload_n (pc := 13) C dX5_removeAt_13 0 rfl ?_
      refine g_aload_n (pc := 14) C dX5_removeAt_14 0 rfl ?_
      refine g_iconst (pc := 15) C dX5_removeAt_15 (v := nI 1) rfl ?_
      refine g_callV (pc := 16) C (As := [.int (nI 1)]) (rest := [.ref (A (w + 3))]) (b := (w + 3)) (c_X5_place A P g w 1 (by omega) hfi h2.1) h2.1 rfl rfl Y_X5_place u_402 N_X5_place ⟨by decide, by decide⟩ ⟨by decide, by decide⟩ (Nat.le_of_ble_eq_true rfl) rfl dX5_removeAt_16 ?_
      rintro _ _ _ _ ⟨rfl, rfl, rfl, rfl⟩
      show V K 0 0 P A g [(0, .ref (A (w + 3))), (1, .int (nI i))] 19 [.int (nI ((fi + 1) % 500)), .ref (A (w + 3))]
      refine g_put (pc := 19) C (j := 1) h2.1 rfl (by decide) (Nat.le_of_ble_eq_true rfl) u_229 rfl pfd_I rfl rfl dX5_removeAt_19 ?_
      obtain ⟨g_17, hg_17⟩ : ∃ yM : pM, yM = va_up g (w + 3) (ob 5 [.ref (A (w + 4)), .int (nI ((fi + 1) % 500)), .int (nI row.length), .int sp]) := ⟨_, rfl⟩
      show V K 0 0 P A (va_up g (w + 3) (ob 5 [.ref (A (w + 4)), .int (nI ((fi + 1) % 500)), .int (nI row.length), .int sp])) [(0, .ref (A (w + 3))), (1, .int (nI i))] 22 []
      rw [← hg_17]
      have h_18 : g_17 (w + 3) = ob 5 [.ref (A (w + 4)), .int (nI ((fi + 1) % 500)), .int (nI row.length), .int sp] := by rw [hg_17]; exact va_up_self _ _ _
      have h_19 : g_17 (w + 4) = aq 2 500 r := by rw [hg_17, va_up_ne _ _ (show w + 4 ≠ w + 3 from by omega)]; exact h2.2.1
      have hf_20 : Fr g g_17 (w + 3) (w + 3 + 1) := by rw [hg_17]; exact Fr.up (by omega) (by omega)
      have hp_21 := LT.fr (h3 (ρ i) (h1.2.2.1 _ (by omega))) hf_20 (by omega)
      refine g_goto (pc := 22) C dX5_removeAt_22 (tgt := 82) (by decide) ?_
      refine g_aload_n (pc := 82) C dX5_removeAt_82 0 rfl ?_
      refine g_dup (pc := 83) C dX5_removeAt_83 rfl ?_
      refine g_get (pc := 84) C (j := 2) h_18 rfl rfl (by decide) u_230 dX5_removeAt_84 ?_
      refine g_iconst (pc := 87) C dX5_removeAt_87 (v := nI 1) rfl ?_
      refine g_isub (pc := 88) C dX5_removeAt_88 (z := nI (row.length - 1)) (pk_sub (by omega)) ?_
      refine g_put (pc := 89) C (j := 2) h_18 rfl (by decide) (Nat.le_of_ble_eq_true rfl) u_230 rfl pfd_I rfl rfl dX5_removeAt_89 ?_
      obtain ⟨g_22, hg_22⟩ : ∃ yM : pM, yM = va_up g_17 (w + 3) (ob 5 [.ref (A (w + 4)), .int (nI ((fi + 1) % 500)), .int (nI (row.length - 1)), .int sp]) := ⟨_, rfl⟩
      show V K 0 0 P A (va_up g_17 (w + 3) (ob 5 [.ref (A (w + 4)), .int (nI ((fi + 1) % 500)), .int (nI (row.length - 1)), .int sp])) [(0, .ref (A (w + 3))), (1, .int (nI i))] 92 []
      rw [← hg_22]
      have h_23 : g_22 (w + 3) = ob 5 [.ref (A (w + 4)), .int (nI ((fi + 1) % 500)), .int (nI (row.length - 1)), .int sp] := by rw [hg_22]; exact va_up_self _ _ _
      have h_24 : g_22 (w + 4) = aq 2 500 r := by rw [hg_22, va_up_ne _ _ (show w + 4 ≠ w + 3 from by omega)]; exact h_19
      have hf_25 : Fr g_17 g_22 (w + 3) (w + 3 + 1) := by rw [hg_22]; exact Fr.up (by omega) (by omega)
      have hp_26 := LT.fr hp_21 hf_25 (by omega)
      exact g_vret (pc := 92) C R ⟨rfl, rfl, rfl, ⟨(fi + 1) % 500, r, _, L, by rw [List.length_eraseIdx_of_lt hi]; exact rot_I h1 (by omega), ⟨by rw [h_23, List.length_eraseIdx_of_lt hi], h_24, rot_O h2.2.2⟩, h3.fr (show Fr g _ (w + 3) (w + 5) from fun k hk => by rw [hg_22, va_up_ne _ _ (by omega), hg_17, va_up_ne _ _ (by omega)]) (by omega), by subst c_10; exact rot_row hn h4, fun t ht => h5 t (List.mem_of_mem_eraseIdx ht)⟩, fun k hk => by rw [hg_22, va_up_ne _ _ (by omega), hg_17, va_up_ne _ _ (by omega)]⟩ (by decide) (by decide) dX5_removeAt_92
  ·
    exact absurd c_5 (by rw [decide_eq_true ⟨nI_pos (by omega), (nI_ltI (by omega) (by omega)).mpr hi⟩]; decide)
abbrev rm_X5_removeTo : Room := { frames := 2, cells := 0, slots := 0, locals := 42 }
theorem Y_X5_removeTo : pY yX5_removeTo cX5_removeTo 5 (Option.some Jvm.ClassFile.FieldType.int) := ⟨u_425, u_426, u_9, u_427⟩
theorem N_X5_removeTo : yX5_removeTo.cls ≠ "java/lang/invoke/MethodHandle" ∧ yX5_removeTo.cls ≠ "java/lang/invoke/VarHandle" ∧ (parseMethodDescriptor yX5_removeTo.desc).map (fun d => d.parameters.length) = some 1 := by decide +kernel
set_option maxRecDepth 20000 in
set_option maxHeartbeats 4000000 in
theorem c_X5_removeTo (A : Nat → Nat) (P : List Nat) (g : pM) (w : Nat) {row : List Lt} {sp : Int32} (q : Nat) (hq : q < 16) (h : RW A g w row sp) : PM yX5_removeTo cX5_removeTo 5 (Option.some Jvm.ClassFile.FieldType.int) rm_X5_removeTo [.ref (A (w + 3)), .int (nI q)] P A g (fun v g' => v = some (.int (nI (row.length - (row.filter (fun t => !(t.2.1 == q))).length))) ∧ RW A g' w (row.filter (fun t => !(t.2.1 == q))) sp ∧ Fr g g' (w + 3) (w + 5)) := by
  have hRW := h
  obtain ⟨fi, r, ρ, L, h1, h2, h3, h4, h5⟩ := h
  have hfi : fi < 500 := h1.1
  have hn : row.length ≤ 500 := h1.2.1
  refine px_intro (by decide +kernel) (Nat.le_of_ble_eq_true rfl) (fun K sz C R => ?_)
  show V K 0 0 P A g [(0, .ref (A (w + 3))), (1, .int (nI q))] 0 []
  refine g_iconst (pc := 0) C dX5_removeTo_0 (v := nI 0) rfl ?_
  refine g_istore_n (pc := 1) C dX5_removeTo_1 (by decide) (lv' := [(0, .ref (A (w + 3))), (1, .int (nI q)), (2, .int (nI 0))]) [1, 2, 0] rfl ?_
  refine g_iconst (pc := 2) C dX5_removeTo_2 (v := nI 0) rfl ?_
  refine g_istore_n (pc := 3) C dX5_removeTo_3 (by decide) (lv' := [(0, .ref (A (w + 3))), (1, .int (nI q)), (2, .int (nI 0)), (3, .int (nI 0))]) [1, 2, 3, 0] rfl ?_
  have lp_4 : ∀ (fuel : Nat) (i : Nat) (hi : i ≤ row.length) (r' : Nat → Option Nat) (ρ' : Nat → Nat) (hI : RI fi row.length ρ') (hO : ∀ k, k < 500 → r' ((fi + k) % 500) = some (A (w + 2000 + 3 * ρ' k))) (hk : ∀ k, k < (kept1 row q i).length → (kept1 row q i)[k]? = some (L (ρ' k))) (hu : ∀ k, i ≤ k → k < 500 → ρ' k = ρ k), row.length - i < fuel → V K 0 0 P A (va_up g (w + 4) (aq 2 500 r')) [(0, .ref (A (w + 3))), (1, .int (nI q)), (2, .int (nI (kept1 row q i).length)), (3, .int (nI i))] 4 [] := by
    intro fuel
    induction fuel with
    | zero => intro i hi r' ρ' hI hO hk hu hμ; exact absurd hμ (Nat.not_lt_zero _)
    | succ fuel ih =>
      intro i hi r' ρ' hI hO hk hu hμ
      obtain ⟨gl, hgl⟩ : ∃ yM : pM, yM = va_up g (w + 4) (aq 2 500 r') := ⟨_, rfl⟩
      rw [← hgl]
      have hfl : Fr g gl (w + 4) (w + 5) := by rw [hgl]; exact Fr.up (by omega) (by omega)
      have hOl : RO A gl w fi row.length sp r' ρ' := ⟨hfl.at (by omega) h2.1, by rw [hgl]; exact va_up_self _ _ _, hO⟩
      have h3l := h3.fr hfl (by omega)
      have hkl := kept1_le row q i
      refine g_iload_n (pc := 4) C dX5_removeTo_4 3 rfl ?_
      refine g_aload_n (pc := 5) C dX5_removeTo_5 0 rfl ?_
      refine g_get (pc := 6) C (j := 2) hOl.1 rfl rfl (by decide) u_230 dX5_removeTo_6 ?_
      refine g_icmp_ge (pc := 9) C dX5_removeTo_9 (tgt := 64) (by decide) (fun c_9 => ?_) (fun c_9 => ?_)
      ·
        have c_9 : row.length ≤ i := (nI_leI (by omega) (by omega)).mp c_9
        refine g_aload_n (pc := 64) C dX5_removeTo_64 0 rfl ?_
        refine g_get (pc := 65) C (j := 2) hOl.1 rfl rfl (by decide) u_230 dX5_removeTo_65 ?_
        refine g_iload_n (pc := 68) C dX5_removeTo_68 2 rfl ?_
        refine g_isub (pc := 69) C dX5_removeTo_69 (z := nI (row.length - (kept1 row q i).length)) (pk_sub (by omega)) ?_
        refine g_istore_n (pc := 70) C dX5_removeTo_70 (by decide) (lv' := [(0, .ref (A (w + 3))), (1, .int (nI q)), (2, .int (nI (kept1 row q i).length)), (3, .int (nI (row.length - (kept1 row q i).length)))]) [1, 2, 3, 0] rfl ?_
        refine g_aload_n (pc := 71) C dX5_removeTo_71 0 rfl ?_
        refine g_iload_n (pc := 72) C dX5_removeTo_72 2 rfl ?_
        refine g_put (pc := 73) C (j := 2) hOl.1 rfl (by decide) (Nat.le_of_ble_eq_true rfl) u_230 rfl pfd_I rfl rfl dX5_removeTo_73 ?_
        obtain ⟨g_1, hg_1⟩ : ∃ yM : pM, yM = va_up gl (w + 3) (ob 5 [.ref (A (w + 4)), .int (nI fi), .int (nI (kept1 row q i).length), .int sp]) := ⟨_, rfl⟩
        show V K 0 0 P A (va_up gl (w + 3) (ob 5 [.ref (A (w + 4)), .int (nI fi), .int (nI (kept1 row q i).length), .int sp])) [(0, .ref (A (w + 3))), (1, .int (nI q)), (2, .int (nI (kept1 row q i).length)), (3, .int (nI (row.length - (kept1 row q i).length)))] 76 []
        rw [← hg_1]
        have h_2 : g_1 (w + 3) = ob 5 [.ref (A (w + 4)), .int (nI fi), .int (nI (kept1 row q i).length), .int sp] := by rw [hg_1]; exact va_up_self _ _ _
        have h_3 : g_1 (w + 4) = aq 2 500 r' := by rw [hg_1, va_up_ne _ _ (show w + 4 ≠ w + 3 from by omega)]; exact hOl.2.1
        refine g_iload_n (pc := 76) C dX5_removeTo_76 3 rfl ?_
        exact g_iret (pc := 77) C R ⟨rfl, rfl, by rw [← kept1_all (show row.length ≤ i by omega)], ⟨fi, r', ρ', L, by rw [← kept1_all (show row.length ≤ i by omega)]; exact ⟨hI.1, by omega, hI.2.2⟩, ⟨by rw [h_2, ← kept1_all (show row.length ≤ i by omega)], h_3, hO⟩, h3l.fr (show Fr gl _ (w + 3) (w + 5) from fun k hk => by rw [hg_1, va_up_ne _ _ (by omega)]) (by omega), by rw [← kept1_all (show row.length ≤ i by omega)]; exact hk, by rw [← kept1_all (show row.length ≤ i by omega)]; exact kept1_W h5⟩, (hfl.mo (by omega) (by omega)).tr (show Fr gl _ (w + 3) (w + 5) from fun k hk => by rw [hg_1, va_up_ne _ _ (by omega)])⟩ (by decide) (by decide) dX5_removeTo_77
      ·
        have c_9 : ¬ row.length ≤ i := fun h => c_9 ((nI_leI (a := row.length) (b := i) (by omega) (by omega)).mpr h)
        refine g_aload_n (pc := 12) C dX5_removeTo_12 0 rfl ?_
        refine g_iload_n (pc := 13) C dX5_removeTo_13 3 rfl ?_
        refine g_callV (pc := 14) C (As := [.int (nI i)]) (rest := []) (b := (w + 3)) (c_X5_at A P gl w i (by omega) hfi hOl) hOl.1 rfl rfl Y_X5_at u_428 N_X5_at ⟨by decide, by decide⟩ ⟨by decide, by decide⟩ (Nat.le_of_ble_eq_true rfl) rfl dX5_removeTo_14 ?_
        rintro _ _ _ _ ⟨rfl, rfl, rfl, rfl⟩
        show V K 0 0 P A gl [(0, .ref (A (w + 3))), (1, .int (nI q)), (2, .int (nI (kept1 row q i).length)), (3, .int (nI i))] 17 [.ref (A (w + 2000 + 3 * ρ' i))]
        refine g_astore (pc := 17) C dX5_removeTo_17 (by decide) (lv' := [(0, .ref (A (w + 3))), (1, .int (nI q)), (2, .int (nI (kept1 row q i).length)), (3, .int (nI i)), (4, .ref (A (w + 2000 + 3 * ρ' i)))]) [1, 2, 3, 4, 0] rfl ?_
        refine g_aload (pc := 19) C dX5_removeTo_19 4 rfl ?_
        refine g_get (pc := 21) C (j := 1) (h3l (ρ' i) (hI.2.2.1 _ (by omega))).1 rfl rfl (by decide) u_199 dX5_removeTo_21 ?_
        have hri : row[i]? = some (L (ρ' i)) := by rw [hu i (Nat.le_refl _) (by omega)]; exact h4 i (by omega)
        have hlw := (h5 _ (List.mem_of_getElem? hri)).2.1
        refine g_iload_n (pc := 24) C dX5_removeTo_24 1 rfl ?_
        refine g_icmp_eq (pc := 25) C dX5_removeTo_25 (tgt := 58) (by decide) (fun c_25 => ?_) (fun c_25 => ?_)
        ·
          have c_25 : (L (ρ' i)).2.1 = q := (nI_eq (by omega) (by omega)).mp c_25
          refine g_iinc (pc := 58) C dX5_removeTo_58 (by decide) 3 rfl (v := nI (i + 1)) (nI_i1 _) (lv' := [(0, .ref (A (w + 3))), (1, .int (nI q)), (2, .int (nI (kept1 row q i).length)), (3, .int (nI (i + 1))), (4, .ref (A (w + 2000 + 3 * ρ' i)))]) [1, 2, 3, 0, 4] rfl ?_
          refine g_goto (pc := 61) C dX5_removeTo_61 (tgt := 4) (by decide) ?_
          refine g_sub [0, 1, 2, 3] rfl ?_
          have hks : kept1 row q (i + 1) = kept1 row q i := by rw [kept1_s hri, if_pos c_25]
          rw [hgl]
          rw [← hks]
          exact ih (i + 1) (by omega) r' ρ' hI hO (by rw [hks]; exact hk) (fun k h1 h2 => hu k (by omega) h2) (by omega)
        ·
          have c_25 : ¬ (L (ρ' i)).2.1 = q := fun h => c_25 ((nI_eq (a := (L (ρ' i)).2.1) (b := q) (by omega) (by omega)).mpr h)
          refine g_aload_n (pc := 28) C dX5_removeTo_28 0 rfl ?_
          refine g_get (pc := 29) C (j := 0) hOl.1 rfl rfl (by decide) u_228 dX5_removeTo_29 ?_
          refine g_aload_n (pc := 32) C dX5_removeTo_32 0 rfl ?_
          refine g_iload_n (pc := 33) C dX5_removeTo_33 3 rfl ?_
          refine g_callV (pc := 34) C (As := [.int (nI i)]) (rest := [.ref (A (w + 4))]) (b := (w + 3)) (c_X5_place A P gl w i (by omega) hfi hOl.1) hOl.1 rfl rfl Y_X5_place u_402 N_X5_place ⟨by decide, by decide⟩ ⟨by decide, by decide⟩ (Nat.le_of_ble_eq_true rfl) rfl dX5_removeTo_34 ?_
          rintro _ _ _ _ ⟨rfl, rfl, rfl, rfl⟩
          show V K 0 0 P A gl [(0, .ref (A (w + 3))), (1, .int (nI q)), (2, .int (nI (kept1 row q i).length)), (3, .int (nI i)), (4, .ref (A (w + 2000 + 3 * ρ' i)))] 37 [.int (nI ((fi + i) % 500)), .ref (A (w + 4))]
          refine g_aload_n (pc := 37) C dX5_removeTo_37 0 rfl ?_
          refine g_iload_n (pc := 38) C dX5_removeTo_38 2 rfl ?_
          refine g_callV (pc := 39) C (As := [.int (nI (kept1 row q i).length)]) (rest := [.int (nI ((fi + i) % 500)), .ref (A (w + 4))]) (b := (w + 3)) (c_X5_at A P gl w (kept1 row q i).length (by omega) hfi hOl) hOl.1 rfl rfl Y_X5_at u_428 N_X5_at ⟨by decide, by decide⟩ ⟨by decide, by decide⟩ (Nat.le_of_ble_eq_true rfl) rfl dX5_removeTo_39 ?_
          rintro _ _ _ _ ⟨rfl, rfl, rfl, rfl⟩
          show V K 0 0 P A gl [(0, .ref (A (w + 3))), (1, .int (nI q)), (2, .int (nI (kept1 row q i).length)), (3, .int (nI i)), (4, .ref (A (w + 2000 + 3 * ρ' i)))] 42 [.ref (A (w + 2000 + 3 * ρ' (kept1 row q i).length)), .int (nI ((fi + i) % 500)), .ref (A (w + 4))]
          refine g_astq (pc := 42) C hOl.2.1 (h3l (ρ' (kept1 row q i).length) (hI.2.2.1 _ (by omega))).1 rfl (fun _ => rfl) (nI_clamp (by omega)) (nI_in0 (n := 500) (by omega) (by omega)) dX5_removeTo_42 ?_
          obtain ⟨g_4, hg_4⟩ : ∃ yM : pM, yM = va_up gl (w + 4) (aq 2 500 (va_up r' ((fi + i) % 500) (some (A (w + 2000 + 3 * ρ' (kept1 row q i).length))))) := ⟨_, rfl⟩
          show V K 0 0 P A (va_up gl (w + 4) (aq 2 500 (va_up r' ((fi + i) % 500) (some (A (w + 2000 + 3 * ρ' (kept1 row q i).length)))))) [(0, .ref (A (w + 3))), (1, .int (nI q)), (2, .int (nI (kept1 row q i).length)), (3, .int (nI i)), (4, .ref (A (w + 2000 + 3 * ρ' i)))] 43 []
          rw [← hg_4]
          have h_5 : g_4 (w + 3) = ob 5 [.ref (A (w + 4)), .int (nI fi), .int (nI row.length), .int sp] := by rw [hg_4, va_up_ne _ _ (show w + 3 ≠ w + 4 from by omega)]; exact hOl.1
          have h_6 : g_4 (w + 4) = aq 2 500 (va_up r' ((fi + i) % 500) (some (A (w + 2000 + 3 * ρ' (kept1 row q i).length)))) := by rw [hg_4]; exact va_up_self _ _ _
          have hf_7 : Fr gl g_4 (w + 4) (w + 4 + 1) := by rw [hg_4]; exact Fr.up (by omega) (by omega)
          have hp_8 := LT.fr (h3l (ρ' i) (hI.2.2.1 _ (by omega))) hf_7 (by omega)
          have hp_9 := LT.fr (h3l (ρ' (kept1 row q i).length) (hI.2.2.1 _ (by omega))) hf_7 (by omega)
          refine g_aload_n (pc := 43) C dX5_removeTo_43 0 rfl ?_
          refine g_get (pc := 44) C (j := 0) h_5 rfl rfl (by decide) u_228 dX5_removeTo_44 ?_
          refine g_aload_n (pc := 47) C dX5_removeTo_47 0 rfl ?_
          refine g_iload_n (pc := 48) C dX5_removeTo_48 2 rfl ?_
          refine g_callV (pc := 49) C (As := [.int (nI (kept1 row q i).length)]) (rest := [.ref (A (w + 4))]) (b := (w + 3)) (c_X5_place A P g_4 w (kept1 row q i).length (by omega) hfi h_5) h_5 rfl rfl Y_X5_place u_402 N_X5_place ⟨by decide, by decide⟩ ⟨by decide, by decide⟩ (Nat.le_of_ble_eq_true rfl) rfl dX5_removeTo_49 ?_
          rintro _ _ _ _ ⟨rfl, rfl, rfl, rfl⟩
          show V K 0 0 P A g_4 [(0, .ref (A (w + 3))), (1, .int (nI q)), (2, .int (nI (kept1 row q i).length)), (3, .int (nI i)), (4, .ref (A (w + 2000 + 3 * ρ' i)))] 52 [.int (nI ((fi + (kept1 row q i).length) % 500)), .ref (A (w + 4))]
          refine g_aload (pc := 52) C dX5_removeTo_52 4 rfl ?_
          refine g_astq (pc := 54) C h_6 hp_8.1 rfl (fun _ => rfl) (nI_clamp (by omega)) (nI_in0 (n := 500) (by omega) (by omega)) dX5_removeTo_54 ?_
          obtain ⟨g_10, hg_10⟩ : ∃ yM : pM, yM = va_up g_4 (w + 4) (aq 2 500 (va_up (va_up r' ((fi + i) % 500) (some (A (w + 2000 + 3 * ρ' (kept1 row q i).length)))) ((fi + (kept1 row q i).length) % 500) (some (A (w + 2000 + 3 * ρ' i))))) := ⟨_, rfl⟩
          show V K 0 0 P A (va_up g_4 (w + 4) (aq 2 500 (va_up (va_up r' ((fi + i) % 500) (some (A (w + 2000 + 3 * ρ' (kept1 row q i).length)))) ((fi + (kept1 row q i).length) % 500) (some (A (w + 2000 + 3 * ρ' i)))))) [(0, .ref (A (w + 3))), (1, .int (nI q)), (2, .int (nI (kept1 row q i).length)), (3, .int (nI i)), (4, .ref (A (w + 2000 + 3 * ρ' i)))] 55 []
          rw [← hg_10]
          have h_11 : g_10 (w + 3) = ob 5 [.ref (A (w + 4)), .int (nI fi), .int (nI row.length), .int sp] := by rw [hg_10, va_up_ne _ _ (show w + 3 ≠ w + 4 from by omega)]; exact h_5
          have h_12 : g_10 (w + 4) = aq 2 500 (va_up (va_up r' ((fi + i) % 500) (some (A (w + 2000 + 3 * ρ' (kept1 row q i).length)))) ((fi + (kept1 row q i).length) % 500) (some (A (w + 2000 + 3 * ρ' i)))) := by rw [hg_10]; exact va_up_self _ _ _
          have hf_13 : Fr g_4 g_10 (w + 4) (w + 4 + 1) := by rw [hg_10]; exact Fr.up (by omega) (by omega)
          have hp_14 := LT.fr hp_8 hf_13 (by omega)
          have hp_15 := LT.fr hp_9 hf_13 (by omega)
          refine g_iinc (pc := 55) C dX5_removeTo_55 (by decide) 2 rfl (v := nI ((kept1 row q i).length + 1)) (nI_i1 _) (lv' := [(0, .ref (A (w + 3))), (1, .int (nI q)), (2, .int (nI ((kept1 row q i).length + 1))), (3, .int (nI i)), (4, .ref (A (w + 2000 + 3 * ρ' i)))]) [1, 2, 0, 3, 4] rfl ?_
          refine g_iinc (pc := 58) C dX5_removeTo_58 (by decide) 3 rfl (v := nI (i + 1)) (nI_i1 _) (lv' := [(0, .ref (A (w + 3))), (1, .int (nI q)), (2, .int (nI ((kept1 row q i).length + 1))), (3, .int (nI (i + 1))), (4, .ref (A (w + 2000 + 3 * ρ' i)))]) [1, 2, 3, 0, 4] rfl ?_
          refine g_goto (pc := 61) C dX5_removeTo_61 (tgt := 4) (by decide) ?_
          refine g_sub [0, 1, 2, 3] rfl ?_
          rw [show g_10 = va_up g (w + 4) (aq 2 500 (va_up (va_up r' ((fi + i) % 500) (some (A (w + 2000 + 3 * ρ' (kept1 row q i).length)))) ((fi + (kept1 row q i).length) % 500) (some (A (w + 2000 + 3 * ρ' i))))) from by rw [hg_10, hg_4, hgl, bx_uu, bx_uu]]
          rw [show (kept1 row q i).length + 1 = (kept1 row q (i + 1)).length from by rw [kept1_s hri, if_neg c_25]; simp]
          exact ih (i + 1) (by omega) _ (swp ρ' (kept1 row q i).length i) (swp_I hI (by omega) (by omega)) (swp_O (by omega) (by omega) hO) (swp_row hri c_25 hk) (fun k h1 h2 => by simp only [swp]; rw [if_neg (by omega), if_neg (by omega)]; exact hu k (by omega) h2) (by omega)
  rw [show g = va_up g (w + 4) (aq 2 500 r) from (va_up_id h2.2.1).symm]
  exact lp_4 (_ + 1) 0 (Nat.zero_le _) r ρ h1 h2.2.2 (fun k hk => absurd hk (Nat.not_lt_zero k)) (fun _ _ _ => rfl) (Nat.lt_succ_self _)
abbrev rm_X5_copyFrom : Room := { frames := 3, cells := 0, slots := 0, locals := 66 }
theorem Y_X5_copyFrom : pY yX5_copyFrom cX5_copyFrom 3 (Option.none : Option Jvm.ClassFile.FieldType) := ⟨u_822, u_823, u_9, u_824⟩
theorem N_X5_copyFrom : yX5_copyFrom.cls ≠ "java/lang/invoke/MethodHandle" ∧ yX5_copyFrom.cls ≠ "java/lang/invoke/VarHandle" ∧ (parseMethodDescriptor yX5_copyFrom.desc).map (fun d => d.parameters.length) = some 1 := by decide +kernel
set_option maxRecDepth 20000 in
set_option maxHeartbeats 4000000 in
theorem c_X5_copyFrom (A : Nat → Nat) (P : List Nat) (g : pM) (w : Nat) {row : List Lt} {sp : Int32} (w2 : Nat) {row2 : List Lt} {sp2 : Int32} (hx : w + 5000 ≤ w2 ∨ w2 + 5000 ≤ w) (h : RW A g w row sp) (hh : RW A g w2 row2 sp2) : PM yX5_copyFrom cX5_copyFrom 3 (Option.none : Option Jvm.ClassFile.FieldType) rm_X5_copyFrom [.ref (A (w + 3)), .ref (A (w2 + 3))] P A g (fun v g' => v = none ∧ RW A g' w row2 sp2 ∧ Fr g g' (w + 3) (w + 3500)) := by
  have hRW := h
  obtain ⟨fi, r, ρ, L, h1, h2, h3, h4, h5⟩ := h
  have hfi : fi < 500 := h1.1
  have hn : row.length ≤ 500 := h1.2.1
  obtain ⟨fi2, r2, ρ2, L2, k1, k2, k3, k4, k5⟩ := hh
  have hfi2 : fi2 < 500 := k1.1
  have hn2 : row2.length ≤ 500 := k1.2.1
  have hz : RI 0 row2.length (rz ρ fi) := zero_I h1 hn2
  refine px_intro (by decide +kernel) (Nat.le_of_ble_eq_true rfl) (fun K sz C R => ?_)
  show V K 0 0 P A g [(0, .ref (A (w + 3))), (1, .ref (A (w2 + 3)))] 0 []
  refine g_aload_n (pc := 0) C dX5_copyFrom_0 0 rfl ?_
  refine g_iconst (pc := 1) C dX5_copyFrom_1 (v := nI 0) rfl ?_
  refine g_put (pc := 2) C (j := 1) h2.1 rfl (by decide) (Nat.le_of_ble_eq_true rfl) u_229 rfl pfd_I rfl rfl dX5_copyFrom_2 ?_
  obtain ⟨g_1, hg_1⟩ : ∃ yM : pM, yM = va_up g (w + 3) (ob 5 [.ref (A (w + 4)), .int (nI 0), .int (nI row.length), .int sp]) := ⟨_, rfl⟩
  show V K 0 0 P A (va_up g (w + 3) (ob 5 [.ref (A (w + 4)), .int (nI 0), .int (nI row.length), .int sp])) [(0, .ref (A (w + 3))), (1, .ref (A (w2 + 3)))] 5 []
  rw [← hg_1]
  have h_2 : g_1 (w + 3) = ob 5 [.ref (A (w + 4)), .int (nI 0), .int (nI row.length), .int sp] := by rw [hg_1]; exact va_up_self _ _ _
  have h_3 : g_1 (w + 4) = aq 2 500 r := by rw [hg_1, va_up_ne _ _ (show w + 4 ≠ w + 3 from by omega)]; exact h2.2.1
  have h_4 : g_1 (w2 + 3) = ob 5 [.ref (A (w2 + 4)), .int (nI fi2), .int (nI row2.length), .int sp2] := by rw [hg_1, va_up_ne _ _ (show w2 + 3 ≠ w + 3 from by omega)]; exact k2.1
  have h_5 : g_1 (w2 + 4) = aq 2 500 r2 := by rw [hg_1, va_up_ne _ _ (show w2 + 4 ≠ w + 3 from by omega)]; exact k2.2.1
  refine g_aload_n (pc := 5) C dX5_copyFrom_5 0 rfl ?_
  refine g_aload_n (pc := 6) C dX5_copyFrom_6 1 rfl ?_
  refine g_get (pc := 7) C (j := 2) h_4 rfl rfl (by decide) u_230 dX5_copyFrom_7 ?_
  refine g_put (pc := 10) C (j := 2) h_2 rfl (by decide) (Nat.le_of_ble_eq_true rfl) u_230 rfl pfd_I rfl rfl dX5_copyFrom_10 ?_
  obtain ⟨g_6, hg_6⟩ : ∃ yM : pM, yM = va_up g_1 (w + 3) (ob 5 [.ref (A (w + 4)), .int (nI 0), .int (nI row2.length), .int sp]) := ⟨_, rfl⟩
  show V K 0 0 P A (va_up g_1 (w + 3) (ob 5 [.ref (A (w + 4)), .int (nI 0), .int (nI row2.length), .int sp])) [(0, .ref (A (w + 3))), (1, .ref (A (w2 + 3)))] 13 []
  rw [← hg_6]
  have h_7 : g_6 (w + 3) = ob 5 [.ref (A (w + 4)), .int (nI 0), .int (nI row2.length), .int sp] := by rw [hg_6]; exact va_up_self _ _ _
  have h_8 : g_6 (w + 4) = aq 2 500 r := by rw [hg_6, va_up_ne _ _ (show w + 4 ≠ w + 3 from by omega)]; exact h_3
  have h_9 : g_6 (w2 + 3) = ob 5 [.ref (A (w2 + 4)), .int (nI fi2), .int (nI row2.length), .int sp2] := by rw [hg_6, va_up_ne _ _ (show w2 + 3 ≠ w + 3 from by omega)]; exact h_4
  have h_10 : g_6 (w2 + 4) = aq 2 500 r2 := by rw [hg_6, va_up_ne _ _ (show w2 + 4 ≠ w + 3 from by omega)]; exact h_5
  refine g_aload_n (pc := 13) C dX5_copyFrom_13 0 rfl ?_
  refine g_aload_n (pc := 14) C dX5_copyFrom_14 1 rfl ?_
  refine g_get (pc := 15) C (j := 3) h_9 rfl rfl (by decide) u_233 dX5_copyFrom_15 ?_
  refine g_put (pc := 18) C (j := 3) h_7 rfl (by decide) (Nat.le_of_ble_eq_true rfl) u_233 rfl pfd_I rfl rfl dX5_copyFrom_18 ?_
  obtain ⟨g_11, hg_11⟩ : ∃ yM : pM, yM = va_up g_6 (w + 3) (ob 5 [.ref (A (w + 4)), .int (nI 0), .int (nI row2.length), .int sp2]) := ⟨_, rfl⟩
  show V K 0 0 P A (va_up g_6 (w + 3) (ob 5 [.ref (A (w + 4)), .int (nI 0), .int (nI row2.length), .int sp2])) [(0, .ref (A (w + 3))), (1, .ref (A (w2 + 3)))] 21 []
  rw [← hg_11]
  have h_12 : g_11 (w + 3) = ob 5 [.ref (A (w + 4)), .int (nI 0), .int (nI row2.length), .int sp2] := by rw [hg_11]; exact va_up_self _ _ _
  have h_13 : g_11 (w + 4) = aq 2 500 r := by rw [hg_11, va_up_ne _ _ (show w + 4 ≠ w + 3 from by omega)]; exact h_8
  have h_14 : g_11 (w2 + 3) = ob 5 [.ref (A (w2 + 4)), .int (nI fi2), .int (nI row2.length), .int sp2] := by rw [hg_11, va_up_ne _ _ (show w2 + 3 ≠ w + 3 from by omega)]; exact h_9
  have h_15 : g_11 (w2 + 4) = aq 2 500 r2 := by rw [hg_11, va_up_ne _ _ (show w2 + 4 ≠ w + 3 from by omega)]; exact h_10
  refine g_iconst (pc := 21) C dX5_copyFrom_21 (v := nI 0) rfl ?_
  refine g_istore_n (pc := 22) C dX5_copyFrom_22 (by decide) (lv' := [(0, .ref (A (w + 3))), (1, .ref (A (w2 + 3))), (2, .int (nI 0))]) [1, 2, 0] rfl ?_
  have lp_23 : ∀ (fuel : Nat) (i : Nat) (hi : i ≤ row2.length) (gl : pM) (L' : Nat → Lt) (hO : RO A gl w 0 row2.length sp2 r (rz ρ fi)) (hL : RLt A gl w L') (hk : ∀ k, k < i → row2[k]? = some (L' (rz ρ fi k))) (hOb : RO A gl w2 fi2 row2.length sp2 r2 ρ2) (hLb : RLt A gl w2 L2) (hf : Fr g gl (w + 3) (w + 3500)), row2.length - i < fuel → V K 0 0 P A gl [(0, .ref (A (w + 3))), (1, .ref (A (w2 + 3))), (2, .int (nI i))] 23 [] := by
    intro fuel
    induction fuel with
    | zero => intro i hi gl L' hO hL hk hOb hLb hf hμ; exact absurd hμ (Nat.not_lt_zero _)
    | succ fuel ih =>
      intro i hi gl L' hO hL hk hOb hLb hf hμ
      refine g_iload_n (pc := 23) C dX5_copyFrom_23 2 rfl ?_
      refine g_aload_n (pc := 24) C dX5_copyFrom_24 0 rfl ?_
      refine g_get (pc := 25) C (j := 2) hO.1 rfl rfl (by decide) u_230 dX5_copyFrom_25 ?_
      refine g_icmp_ge (pc := 28) C dX5_copyFrom_28 (tgt := 50) (by decide) (fun c_28 => ?_) (fun c_28 => ?_)
      ·
        have c_28 : row2.length ≤ i := (nI_leI (by omega) (by omega)).mp c_28
        exact g_vret (pc := 50) C R ⟨rfl, rfl, rfl, ⟨0, r, rz ρ fi, L', hz, hO, hL, fun k hk2 => hk k (by omega), k5⟩, hf⟩ (by decide) (by decide) dX5_copyFrom_50
      ·
        have c_28 : ¬ row2.length ≤ i := fun h => c_28 ((nI_leI (a := row2.length) (b := i) (by omega) (by omega)).mpr h)
        refine g_aload_n (pc := 31) C dX5_copyFrom_31 0 rfl ?_
        refine g_iload_n (pc := 32) C dX5_copyFrom_32 2 rfl ?_
        refine g_callV (pc := 33) C (As := [.int (nI i)]) (rest := []) (b := (w + 3)) (c_X5_at A P gl w i (by omega) (by decide) hO) hO.1 rfl rfl Y_X5_at u_428 N_X5_at ⟨by decide, by decide⟩ ⟨by decide, by decide⟩ (Nat.le_of_ble_eq_true rfl) rfl dX5_copyFrom_33 ?_
        rintro _ _ _ _ ⟨rfl, rfl, rfl, rfl⟩
        show V K 0 0 P A gl [(0, .ref (A (w + 3))), (1, .ref (A (w2 + 3))), (2, .int (nI i))] 36 [.ref (A (w + 2000 + 3 * rz ρ fi i))]
        refine g_aload_n (pc := 36) C dX5_copyFrom_36 1 rfl ?_
        refine g_iload_n (pc := 37) C dX5_copyFrom_37 2 rfl ?_
        refine g_callV (pc := 38) C (As := [.int (nI i)]) (rest := [.ref (A (w + 2000 + 3 * rz ρ fi i))]) (b := (w2 + 3)) (c_X5_at A P gl w2 i (by omega) hfi2 hOb) hOb.1 rfl rfl Y_X5_at u_428 N_X5_at ⟨by decide, by decide⟩ ⟨by decide, by decide⟩ (Nat.le_of_ble_eq_true rfl) rfl dX5_copyFrom_38 ?_
        rintro _ _ _ _ ⟨rfl, rfl, rfl, rfl⟩
        show V K 0 0 P A gl [(0, .ref (A (w + 3))), (1, .ref (A (w2 + 3))), (2, .int (nI i))] 41 [.ref (A (w2 + 2000 + 3 * ρ2 i)), .ref (A (w + 2000 + 3 * rz ρ fi i))]
        refine g_callV (pc := 41) C (As := [.ref (A (w2 + 2000 + 3 * ρ2 i))]) (rest := []) (b := (w + 2000 + 3 * rz ρ fi i)) (c_X1_copyFrom A P gl (w + 2000 + 3 * rz ρ fi i) (w2 + 2000 + 3 * ρ2 i) (by have := hz.2.2.1 i (by omega); have := k1.2.2.1 i (by omega); omega) (hL _ (hz.2.2.1 _ (by omega))) (hLb _ (k1.2.2.1 _ (by omega)))) (hL (rz ρ fi i) (hz.2.2.1 _ (by omega))).1 rfl rfl Y_X1_copyFrom u_825 N_X1_copyFrom ⟨by decide, by decide⟩ ⟨by decide, by decide⟩ (Nat.le_of_ble_eq_true rfl) rfl dX5_copyFrom_41 ?_
        rintro _ _ _ g2 ⟨rfl, rfl, rfl, hn2c, hf2⟩
        show V K 0 0 P A g2 [(0, .ref (A (w + 3))), (1, .ref (A (w2 + 3))), (2, .int (nI i))] 44 []
        refine g_iinc (pc := 44) C dX5_copyFrom_44 (by decide) 2 rfl (v := nI (i + 1)) (nI_i1 _) (lv' := [(0, .ref (A (w + 3))), (1, .ref (A (w2 + 3))), (2, .int (nI (i + 1)))]) [1, 2, 0] rfl ?_
        refine g_goto (pc := 47) C dX5_copyFrom_47 (tgt := 23) (by decide) ?_
        exact ih (i + 1) (by omega) g2 (va_up L' (rz ρ fi i) (L2 (ρ2 i))) (hO.fr hf2 (by omega)) (hL.up hf2 hn2c) (cpy_row (by omega) hz.2.2.2 (k4 i (by omega)) hk) (hOb.fr hf2 (by have := hz.2.2.1 i (by omega); omega)) (hLb.fr hf2 (by have := hz.2.2.1 i (by omega); omega)) (hf.tr (hf2.mo (by omega) (by have := hz.2.2.1 i (by omega); omega))) (by omega)
  have hf0 : Fr g g_11 (w + 3) (w + 4) := fun k hk => by rw [hg_11, va_up_ne _ _ (by omega), hg_6, va_up_ne _ _ (by omega), hg_1, va_up_ne _ _ (by omega)]
  exact lp_23 (_ + 1) 0 (Nat.zero_le _) _ L ⟨h_12, h_13, zero_O hfi h2.2.2⟩ (h3.fr hf0 (by omega)) (fun k hk => absurd hk (Nat.not_lt_zero k)) (k2.fr hf0 (by omega)) (k3.fr hf0 (by omega)) (hf0.mo (by omega) (by omega)) (Nat.lt_succ_self _)
end
