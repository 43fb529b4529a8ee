-- ===== PART A: goes FIRST, ahead of the names: the tables' words, and 'selects' of the private methods out of them =====
/-- a private method of a class that the tables say can be made, by its rows of tables_1 -/
def lw_okq (q : MethodName × Nat) : Prop := (q.1.cls ≠ "java/lang/invoke/MethodHandle" ∧ q.1.cls ≠ "java/lang/invoke/VarHandle") ∧ Cond.instantiable q.1.cls q.2 ∈ tables_1 ∧ Cond.privateMethod q.1 ∈ tables_1 ∧ Cond.instanceMethod q.1 ∈ tables_1
theorem lw_p0 : lw_okq (⟨"ViewBroadcast", "refusedActor", "(I)I"⟩, 6) := ⟨⟨by decide +kernel, by decide +kernel⟩, List.mem_of_getElem? (i := 16) (by decide +kernel), List.mem_of_getElem? (i := 417) (by decide +kernel), List.mem_of_getElem? (i := 418) (by decide +kernel)⟩
theorem lw_p1 : lw_okq (⟨"ViewBroadcast", "come", "(I)I"⟩, 6) := ⟨⟨by decide +kernel, by decide +kernel⟩, List.mem_of_getElem? (i := 16) (by decide +kernel), List.mem_of_getElem? (i := 570) (by decide +kernel), List.mem_of_getElem? (i := 571) (by decide +kernel)⟩
theorem lw_p2 : lw_okq (⟨"ViewBroadcastModel", "isNode", "(I)Z"⟩, 16) := ⟨⟨by decide +kernel, by decide +kernel⟩, List.mem_of_getElem? (i := 847) (by decide +kernel), List.mem_of_getElem? (i := 930) (by decide +kernel), List.mem_of_getElem? (i := 931) (by decide +kernel)⟩
theorem lw_p3 : lw_okq (⟨"ViewBroadcastModel", "send", "(IIIII)V"⟩, 16) := ⟨⟨by decide +kernel, by decide +kernel⟩, List.mem_of_getElem? (i := 847) (by decide +kernel), List.mem_of_getElem? (i := 934) (by decide +kernel), List.mem_of_getElem? (i := 935) (by decide +kernel)⟩
theorem lw_p4 : lw_okq (⟨"ViewBroadcastModel", "sendList", "(IIIIII)V"⟩, 16) := ⟨⟨by decide +kernel, by decide +kernel⟩, List.mem_of_getElem? (i := 847) (by decide +kernel), List.mem_of_getElem? (i := 938) (by decide +kernel), List.mem_of_getElem? (i := 939) (by decide +kernel)⟩
theorem lw_p5 : lw_okq (⟨"ViewBroadcastModel", "post", "(IIIIII)V"⟩, 16) := ⟨⟨by decide +kernel, by decide +kernel⟩, List.mem_of_getElem? (i := 847) (by decide +kernel), List.mem_of_getElem? (i := 942) (by decide +kernel), List.mem_of_getElem? (i := 943) (by decide +kernel)⟩
theorem lw_p6 : lw_okq (⟨"ViewBroadcastModel", "ofLetter", "(II)I"⟩, 16) := ⟨⟨by decide +kernel, by decide +kernel⟩, List.mem_of_getElem? (i := 847) (by decide +kernel), List.mem_of_getElem? (i := 946) (by decide +kernel), List.mem_of_getElem? (i := 947) (by decide +kernel)⟩
theorem lw_p7 : lw_okq (⟨"ViewBroadcastModel", "takeOutLetter", "(I)V"⟩, 16) := ⟨⟨by decide +kernel, by decide +kernel⟩, List.mem_of_getElem? (i := 847) (by decide +kernel), List.mem_of_getElem? (i := 954) (by decide +kernel), List.mem_of_getElem? (i := 955) (by decide +kernel)⟩
theorem lw_p8 : lw_okq (⟨"ViewBroadcastModel", "isActive", "(II)Z"⟩, 16) := ⟨⟨by decide +kernel, by decide +kernel⟩, List.mem_of_getElem? (i := 847) (by decide +kernel), List.mem_of_getElem? (i := 958) (by decide +kernel), List.mem_of_getElem? (i := 959) (by decide +kernel)⟩
theorem lw_p9 : lw_okq (⟨"ViewBroadcastModel", "activeAt", "(II)I"⟩, 16) := ⟨⟨by decide +kernel, by decide +kernel⟩, List.mem_of_getElem? (i := 847) (by decide +kernel), List.mem_of_getElem? (i := 962) (by decide +kernel), List.mem_of_getElem? (i := 963) (by decide +kernel)⟩
theorem lw_p10 : lw_okq (⟨"ViewBroadcastModel", "isUnderWay", "(II)Z"⟩, 16) := ⟨⟨by decide +kernel, by decide +kernel⟩, List.mem_of_getElem? (i := 847) (by decide +kernel), List.mem_of_getElem? (i := 966) (by decide +kernel), List.mem_of_getElem? (i := 967) (by decide +kernel)⟩
theorem lw_p11 : lw_okq (⟨"ViewBroadcastModel", "draw", "(I)I"⟩, 16) := ⟨⟨by decide +kernel, by decide +kernel⟩, List.mem_of_getElem? (i := 847) (by decide +kernel), List.mem_of_getElem? (i := 974) (by decide +kernel), List.mem_of_getElem? (i := 975) (by decide +kernel)⟩
theorem lw_p12 : lw_okq (⟨"ViewBroadcastModel", "without", "(III)I"⟩, 16) := ⟨⟨by decide +kernel, by decide +kernel⟩, List.mem_of_getElem? (i := 847) (by decide +kernel), List.mem_of_getElem? (i := 978) (by decide +kernel), List.mem_of_getElem? (i := 979) (by decide +kernel)⟩
theorem lw_p13 : lw_okq (⟨"ViewBroadcastModel", "drawSome", "(II)V"⟩, 16) := ⟨⟨by decide +kernel, by decide +kernel⟩, List.mem_of_getElem? (i := 847) (by decide +kernel), List.mem_of_getElem? (i := 982) (by decide +kernel), List.mem_of_getElem? (i := 983) (by decide +kernel)⟩
theorem lw_p14 : lw_okq (⟨"ViewBroadcastModel", "drawOut", "(I)I"⟩, 16) := ⟨⟨by decide +kernel, by decide +kernel⟩, List.mem_of_getElem? (i := 847) (by decide +kernel), List.mem_of_getElem? (i := 986) (by decide +kernel), List.mem_of_getElem? (i := 987) (by decide +kernel)⟩
theorem lw_p15 : lw_okq (⟨"ViewBroadcastModel", "hear", "(IIII)V"⟩, 16) := ⟨⟨by decide +kernel, by decide +kernel⟩, List.mem_of_getElem? (i := 847) (by decide +kernel), List.mem_of_getElem? (i := 994) (by decide +kernel), List.mem_of_getElem? (i := 995) (by decide +kernel)⟩
def lw_privs_1 : List (MethodName × Nat) := [(⟨"ViewBroadcast", "refusedActor", "(I)I"⟩, 6), (⟨"ViewBroadcast", "come", "(I)I"⟩, 6), (⟨"ViewBroadcastModel", "isNode", "(I)Z"⟩, 16), (⟨"ViewBroadcastModel", "send", "(IIIII)V"⟩, 16), (⟨"ViewBroadcastModel", "sendList", "(IIIIII)V"⟩, 16), (⟨"ViewBroadcastModel", "post", "(IIIIII)V"⟩, 16), (⟨"ViewBroadcastModel", "ofLetter", "(II)I"⟩, 16), (⟨"ViewBroadcastModel", "takeOutLetter", "(I)V"⟩, 16), (⟨"ViewBroadcastModel", "isActive", "(II)Z"⟩, 16), (⟨"ViewBroadcastModel", "activeAt", "(II)I"⟩, 16), (⟨"ViewBroadcastModel", "isUnderWay", "(II)Z"⟩, 16), (⟨"ViewBroadcastModel", "draw", "(I)I"⟩, 16), (⟨"ViewBroadcastModel", "without", "(III)I"⟩, 16), (⟨"ViewBroadcastModel", "drawSome", "(II)V"⟩, 16), (⟨"ViewBroadcastModel", "drawOut", "(I)I"⟩, 16), (⟨"ViewBroadcastModel", "hear", "(IIII)V"⟩, 16)]
theorem lw_r1 : ∀ q ∈ lw_privs_1, lw_okq q := List.forall_mem_cons.mpr ⟨lw_p0, List.forall_mem_cons.mpr ⟨lw_p1, List.forall_mem_cons.mpr ⟨lw_p2, List.forall_mem_cons.mpr ⟨lw_p3, List.forall_mem_cons.mpr ⟨lw_p4, List.forall_mem_cons.mpr ⟨lw_p5, List.forall_mem_cons.mpr ⟨lw_p6, List.forall_mem_cons.mpr ⟨lw_p7, List.forall_mem_cons.mpr ⟨lw_p8, List.forall_mem_cons.mpr ⟨lw_p9, List.forall_mem_cons.mpr ⟨lw_p10, List.forall_mem_cons.mpr ⟨lw_p11, List.forall_mem_cons.mpr ⟨lw_p12, List.forall_mem_cons.mpr ⟨lw_p13, List.forall_mem_cons.mpr ⟨lw_p14, List.forall_mem_cons.mpr ⟨lw_p15, fun _ h => absurd h List.not_mem_nil⟩⟩⟩⟩⟩⟩⟩⟩⟩⟩⟩⟩⟩⟩⟩⟩
theorem lw_p16 : lw_okq (⟨"ViewBroadcastModel", "fetch", "(III)V"⟩, 16) := ⟨⟨by decide +kernel, by decide +kernel⟩, List.mem_of_getElem? (i := 847) (by decide +kernel), List.mem_of_getElem? (i := 1002) (by decide +kernel), List.mem_of_getElem? (i := 1003) (by decide +kernel)⟩
theorem lw_p17 : lw_okq (⟨"ViewBroadcastModel", "setLazy", "(III)V"⟩, 16) := ⟨⟨by decide +kernel, by decide +kernel⟩, List.mem_of_getElem? (i := 847) (by decide +kernel), List.mem_of_getElem? (i := 1006) (by decide +kernel), List.mem_of_getElem? (i := 1007) (by decide +kernel)⟩
theorem lw_p18 : lw_okq (⟨"ViewBroadcastModel", "canCome", "(I)Z"⟩, 16) := ⟨⟨by decide +kernel, by decide +kernel⟩, List.mem_of_getElem? (i := 847) (by decide +kernel), List.mem_of_getElem? (i := 1014) (by decide +kernel), List.mem_of_getElem? (i := 1015) (by decide +kernel)⟩
theorem lw_p19 : lw_okq (⟨"ViewBroadcastModel", "comes", "(I)I"⟩, 16) := ⟨⟨by decide +kernel, by decide +kernel⟩, List.mem_of_getElem? (i := 847) (by decide +kernel), List.mem_of_getElem? (i := 1018) (by decide +kernel), List.mem_of_getElem? (i := 1019) (by decide +kernel)⟩
theorem lw_p20 : lw_okq (⟨"ViewBroadcastModel", "joins", "(IIIII)V"⟩, 16) := ⟨⟨by decide +kernel, by decide +kernel⟩, List.mem_of_getElem? (i := 847) (by decide +kernel), List.mem_of_getElem? (i := 1022) (by decide +kernel), List.mem_of_getElem? (i := 1023) (by decide +kernel)⟩
theorem lw_p21 : lw_okq (⟨"ViewBroadcastModel", "add", "(II)V"⟩, 16) := ⟨⟨by decide +kernel, by decide +kernel⟩, List.mem_of_getElem? (i := 847) (by decide +kernel), List.mem_of_getElem? (i := 1026) (by decide +kernel), List.mem_of_getElem? (i := 1027) (by decide +kernel)⟩
theorem lw_p22 : lw_okq (⟨"ViewBroadcastModel", "leavesPassive", "(II)V"⟩, 16) := ⟨⟨by decide +kernel, by decide +kernel⟩, List.mem_of_getElem? (i := 847) (by decide +kernel), List.mem_of_getElem? (i := 1030) (by decide +kernel), List.mem_of_getElem? (i := 1031) (by decide +kernel)⟩
theorem lw_p23 : lw_okq (⟨"ViewBroadcastModel", "passiveAt", "(II)I"⟩, 16) := ⟨⟨by decide +kernel, by decide +kernel⟩, List.mem_of_getElem? (i := 847) (by decide +kernel), List.mem_of_getElem? (i := 1034) (by decide +kernel), List.mem_of_getElem? (i := 1035) (by decide +kernel)⟩
theorem lw_p24 : lw_okq (⟨"ViewBroadcastModel", "leavesActive", "(II)V"⟩, 16) := ⟨⟨by decide +kernel, by decide +kernel⟩, List.mem_of_getElem? (i := 847) (by decide +kernel), List.mem_of_getElem? (i := 1038) (by decide +kernel), List.mem_of_getElem? (i := 1039) (by decide +kernel)⟩
theorem lw_p25 : lw_okq (⟨"ViewBroadcastModel", "forgetTeller", "(II)V"⟩, 16) := ⟨⟨by decide +kernel, by decide +kernel⟩, List.mem_of_getElem? (i := 847) (by decide +kernel), List.mem_of_getElem? (i := 1042) (by decide +kernel), List.mem_of_getElem? (i := 1043) (by decide +kernel)⟩
theorem lw_p26 : lw_okq (⟨"ViewBroadcastModel", "note", "(II)V"⟩, 16) := ⟨⟨by decide +kernel, by decide +kernel⟩, List.mem_of_getElem? (i := 847) (by decide +kernel), List.mem_of_getElem? (i := 1046) (by decide +kernel), List.mem_of_getElem? (i := 1047) (by decide +kernel)⟩
theorem lw_p27 : lw_okq (⟨"ViewBroadcastModel", "goesOn", "(IIII)V"⟩, 16) := ⟨⟨by decide +kernel, by decide +kernel⟩, List.mem_of_getElem? (i := 847) (by decide +kernel), List.mem_of_getElem? (i := 1050) (by decide +kernel), List.mem_of_getElem? (i := 1051) (by decide +kernel)⟩
theorem lw_p28 : lw_okq (⟨"ViewBroadcastModel", "mends", "(IIII)V"⟩, 16) := ⟨⟨by decide +kernel, by decide +kernel⟩, List.mem_of_getElem? (i := 847) (by decide +kernel), List.mem_of_getElem? (i := 1054) (by decide +kernel), List.mem_of_getElem? (i := 1055) (by decide +kernel)⟩
theorem lw_p29 : lw_okq (⟨"ViewBroadcastModel", "mend", "(I)V"⟩, 16) := ⟨⟨by decide +kernel, by decide +kernel⟩, List.mem_of_getElem? (i := 847) (by decide +kernel), List.mem_of_getElem? (i := 1058) (by decide +kernel), List.mem_of_getElem? (i := 1059) (by decide +kernel)⟩
theorem lw_p30 : lw_okq (⟨"ViewBroadcastModel", "mixes", "(IIIII)V"⟩, 16) := ⟨⟨by decide +kernel, by decide +kernel⟩, List.mem_of_getElem? (i := 847) (by decide +kernel), List.mem_of_getElem? (i := 1062) (by decide +kernel), List.mem_of_getElem? (i := 1063) (by decide +kernel)⟩
theorem lw_p31 : lw_okq (⟨"ViewBroadcastModel", "tells", "(IIIII)V"⟩, 16) := ⟨⟨by decide +kernel, by decide +kernel⟩, List.mem_of_getElem? (i := 847) (by decide +kernel), List.mem_of_getElem? (i := 1066) (by decide +kernel), List.mem_of_getElem? (i := 1067) (by decide +kernel)⟩
def lw_privs_2 : List (MethodName × Nat) := [(⟨"ViewBroadcastModel", "fetch", "(III)V"⟩, 16), (⟨"ViewBroadcastModel", "setLazy", "(III)V"⟩, 16), (⟨"ViewBroadcastModel", "canCome", "(I)Z"⟩, 16), (⟨"ViewBroadcastModel", "comes", "(I)I"⟩, 16), (⟨"ViewBroadcastModel", "joins", "(IIIII)V"⟩, 16), (⟨"ViewBroadcastModel", "add", "(II)V"⟩, 16), (⟨"ViewBroadcastModel", "leavesPassive", "(II)V"⟩, 16), (⟨"ViewBroadcastModel", "passiveAt", "(II)I"⟩, 16), (⟨"ViewBroadcastModel", "leavesActive", "(II)V"⟩, 16), (⟨"ViewBroadcastModel", "forgetTeller", "(II)V"⟩, 16), (⟨"ViewBroadcastModel", "note", "(II)V"⟩, 16), (⟨"ViewBroadcastModel", "goesOn", "(IIII)V"⟩, 16), (⟨"ViewBroadcastModel", "mends", "(IIII)V"⟩, 16), (⟨"ViewBroadcastModel", "mend", "(I)V"⟩, 16), (⟨"ViewBroadcastModel", "mixes", "(IIIII)V"⟩, 16), (⟨"ViewBroadcastModel", "tells", "(IIIII)V"⟩, 16)]
theorem lw_r2 : ∀ q ∈ lw_privs_2, lw_okq q := List.forall_mem_cons.mpr ⟨lw_p16, List.forall_mem_cons.mpr ⟨lw_p17, List.forall_mem_cons.mpr ⟨lw_p18, List.forall_mem_cons.mpr ⟨lw_p19, List.forall_mem_cons.mpr ⟨lw_p20, List.forall_mem_cons.mpr ⟨lw_p21, List.forall_mem_cons.mpr ⟨lw_p22, List.forall_mem_cons.mpr ⟨lw_p23, List.forall_mem_cons.mpr ⟨lw_p24, List.forall_mem_cons.mpr ⟨lw_p25, List.forall_mem_cons.mpr ⟨lw_p26, List.forall_mem_cons.mpr ⟨lw_p27, List.forall_mem_cons.mpr ⟨lw_p28, List.forall_mem_cons.mpr ⟨lw_p29, List.forall_mem_cons.mpr ⟨lw_p30, List.forall_mem_cons.mpr ⟨lw_p31, fun _ h => absurd h List.not_mem_nil⟩⟩⟩⟩⟩⟩⟩⟩⟩⟩⟩⟩⟩⟩⟩⟩
theorem lw_p32 : lw_okq (⟨"ViewBroadcastModel", "isTale", "(I)Z"⟩, 16) := ⟨⟨by decide +kernel, by decide +kernel⟩, List.mem_of_getElem? (i := 847) (by decide +kernel), List.mem_of_getElem? (i := 1087) (by decide +kernel), List.mem_of_getElem? (i := 1088) (by decide +kernel)⟩
theorem lw_p33 : lw_okq (⟨"ViewBroadcastModel", "isOther", "(III)Z"⟩, 16) := ⟨⟨by decide +kernel, by decide +kernel⟩, List.mem_of_getElem? (i := 847) (by decide +kernel), List.mem_of_getElem? (i := 1136) (by decide +kernel), List.mem_of_getElem? (i := 1137) (by decide +kernel)⟩
theorem lw_p34 : lw_okq (⟨"ViewBroadcastModel", "heardOther", "(II)Z"⟩, 16) := ⟨⟨by decide +kernel, by decide +kernel⟩, List.mem_of_getElem? (i := 847) (by decide +kernel), List.mem_of_getElem? (i := 1140) (by decide +kernel), List.mem_of_getElem? (i := 1141) (by decide +kernel)⟩
def lw_privs_3 : List (MethodName × Nat) := [(⟨"ViewBroadcastModel", "isTale", "(I)Z"⟩, 16), (⟨"ViewBroadcastModel", "isOther", "(III)Z"⟩, 16), (⟨"ViewBroadcastModel", "heardOther", "(II)Z"⟩, 16)]
theorem lw_r3 : ∀ q ∈ lw_privs_3, lw_okq q := List.forall_mem_cons.mpr ⟨lw_p32, List.forall_mem_cons.mpr ⟨lw_p33, List.forall_mem_cons.mpr ⟨lw_p34, fun _ h => absurd h List.not_mem_nil⟩⟩⟩
def lw_privs : List (MethodName × Nat) := lw_privs_1 ++ (lw_privs_2 ++ (lw_privs_3))
def lw_tbl : List Cond := k2_sels lw_privs ++ tables_1
theorem lw_privs_ok : ∀ q ∈ lw_privs, lw_okq q := by
  show ∀ q ∈ lw_privs_1 ++ (lw_privs_2 ++ (lw_privs_3)), lw_okq q
  exact List.forall_mem_append.mpr ⟨lw_r1, List.forall_mem_append.mpr ⟨lw_r2, lw_r3⟩⟩

def RX0 : String := "ViewBroadcast$Coins"
def TX0 : u_T := fun k => match k with
  | 0 => ("ViewBroadcast$Coins", "values", "[I", true)
  | _ => ("ViewBroadcast$Coins", "count", "I", false)
def tyX0 : Nat → FieldType := fun k => match k with
  | 0 => .array .int
  | _ => .int
abbrev wsX00 : List Cond := u_ws RX0 TX0 2
theorem nmX0 : ∀ a, a < 2 → ∀ b, b < 2 → a ≠ b → (TX0 a).2.1 ≠ (TX0 b).2.1 := by decide +kernel
theorem tyX0_ok : ∀ k, k < 2 → parseFieldDescriptor (TX0 k).2.2.1 = some (tyX0 k) := by decide +kernel
abbrev cX0_init : ByteArray := prog_2_method_1_code
def yX0_init : MethodName := ⟨RX0, "<init>", "()V"⟩
abbrev cX0_put : ByteArray := prog_2_method_2_code
def yX0_put : MethodName := ⟨RX0, "put", "(I)Z"⟩
abbrev cX0_at : ByteArray := prog_2_method_3_code
def yX0_at : MethodName := ⟨RX0, "at", "(I)I"⟩
abbrev cX0_behind : ByteArray := prog_2_method_4_code
def yX0_behind : MethodName := ⟨RX0, "behind", "(I)I"⟩
def RX1 : String := "ViewBroadcast$Letter"
def TX1 : u_T := fun k => match k with
  | 0 => ("ViewBroadcast$Letter", "sender", "I", false)
  | 1 => ("ViewBroadcast$Letter", "receiver", "I", false)
  | 2 => ("ViewBroadcast$Letter", "kind", "I", false)
  | 3 => ("ViewBroadcast$Letter", "x", "I", false)
  | 4 => ("ViewBroadcast$Letter", "y", "I", false)
  | _ => ("ViewBroadcast$Letter", "list", "LViewBroadcast$NodeList;", true)
def tyX1 : Nat → FieldType := fun k => match k with
  | 0 => .int
  | 1 => .int
  | 2 => .int
  | 3 => .int
  | 4 => .int
  | _ => .object "ViewBroadcast$NodeList"
abbrev wsX10 : List Cond := u_ws RX1 TX1 6
theorem nmX1 : ∀ a, a < 6 → ∀ b, b < 6 → a ≠ b → (TX1 a).2.1 ≠ (TX1 b).2.1 := by decide +kernel
theorem tyX1_ok : ∀ k, k < 6 → parseFieldDescriptor (TX1 k).2.2.1 = some (tyX1 k) := by decide +kernel
abbrev cX1_init : ByteArray := prog_3_method_1_code
def yX1_init : MethodName := ⟨RX1, "<init>", "()V"⟩
abbrev cX1_write : ByteArray := prog_3_method_2_code
def yX1_write : MethodName := ⟨RX1, "write", "(IIIII)V"⟩
abbrev cX1_copyFrom : ByteArray := prog_3_method_3_code
def yX1_copyFrom : MethodName := ⟨RX1, "copyFrom", "(LViewBroadcast$Letter;)V"⟩
def RX2 : String := "ViewBroadcast$Miss"
def TX2 : u_T := fun k => match k with
  | 0 => ("ViewBroadcast$Miss", "open", "Z", false)
  | 1 => ("ViewBroadcast$Miss", "hour", "I", false)
  | _ => ("ViewBroadcast$Miss", "tellers", "LViewBroadcast$NodeList;", true)
def tyX2 : Nat → FieldType := fun k => match k with
  | 0 => .boolean
  | 1 => .int
  | _ => .object "ViewBroadcast$NodeList"
abbrev wsX20 : List Cond := u_ws RX2 TX2 3
theorem nmX2 : ∀ a, a < 3 → ∀ b, b < 3 → a ≠ b → (TX2 a).2.1 ≠ (TX2 b).2.1 := by decide +kernel
theorem tyX2_ok : ∀ k, k < 3 → parseFieldDescriptor (TX2 k).2.2.1 = some (tyX2 k) := by decide +kernel
abbrev cX2_init : ByteArray := prog_4_method_1_code
def yX2_init : MethodName := ⟨RX2, "<init>", "()V"⟩
abbrev cX2_end : ByteArray := prog_4_method_2_code
def yX2_end : MethodName := ⟨RX2, "end", "()V"⟩
abbrev cX2_copyFrom : ByteArray := prog_4_method_3_code
def yX2_copyFrom : MethodName := ⟨RX2, "copyFrom", "(LViewBroadcast$Miss;)V"⟩
def RX3 : String := "ViewBroadcast$Node"
def TX3 : u_T := fun k => match k with
  | 0 => ("ViewBroadcast$Node", "number", "I", true)
  | 1 => ("ViewBroadcast$Node", "live", "Z", false)
  | 2 => ("ViewBroadcast$Node", "active", "LViewBroadcast$NodeList;", true)
  | 3 => ("ViewBroadcast$Node", "passive", "LViewBroadcast$NodeList;", true)
  | 4 => ("ViewBroadcast$Node", "lazy", "I", false)
  | 5 => ("ViewBroadcast$Node", "asks", "I", false)
  | 6 => ("ViewBroadcast$Node", "asked", "I", false)
  | 7 => ("ViewBroadcast$Node", "arrived", "I", false)
  | 8 => ("ViewBroadcast$Node", "hops", "[I", true)
  | _ => ("ViewBroadcast$Node", "misses", "[LViewBroadcast$Miss;", true)
def tyX3 : Nat → FieldType := fun k => match k with
  | 0 => .int
  | 1 => .boolean
  | 2 => .object "ViewBroadcast$NodeList"
  | 3 => .object "ViewBroadcast$NodeList"
  | 4 => .int
  | 5 => .int
  | 6 => .int
  | 7 => .int
  | 8 => .array .int
  | _ => .array (.object "ViewBroadcast$Miss")
abbrev wsX30 : List Cond := u_ws RX3 TX3 10
theorem nmX3 : ∀ a, a < 10 → ∀ b, b < 10 → a ≠ b → (TX3 a).2.1 ≠ (TX3 b).2.1 := by decide +kernel
theorem tyX3_ok : ∀ k, k < 10 → parseFieldDescriptor (TX3 k).2.2.1 = some (tyX3 k) := by decide +kernel
abbrev cX3_init : ByteArray := prog_5_method_1_code
def yX3_init : MethodName := ⟨RX3, "<init>", "(I)V"⟩
abbrev cX3_begin : ByteArray := prog_5_method_2_code
def yX3_begin : MethodName := ⟨RX3, "begin", "()V"⟩
abbrev cX3_isLazy : ByteArray := prog_5_method_3_code
def yX3_isLazy : MethodName := ⟨RX3, "isLazy", "(I)Z"⟩
abbrev cX3_makeLazy : ByteArray := prog_5_method_4_code
def yX3_makeLazy : MethodName := ⟨RX3, "makeLazy", "(I)V"⟩
abbrev cX3_makeEager : ByteArray := prog_5_method_5_code
def yX3_makeEager : MethodName := ⟨RX3, "makeEager", "(I)V"⟩
abbrev cX3_hopsOf : ByteArray := prog_5_method_6_code
def yX3_hopsOf : MethodName := ⟨RX3, "hopsOf", "(I)I"⟩
abbrev cX3_missOf : ByteArray := prog_5_method_7_code
def yX3_missOf : MethodName := ⟨RX3, "missOf", "(I)LViewBroadcast$Miss;"⟩
abbrev cX3_knows : ByteArray := prog_5_method_8_code
def yX3_knows : MethodName := ⟨RX3, "knows", "(I)Z"⟩
abbrev cX3_learn : ByteArray := prog_5_method_9_code
def yX3_learn : MethodName := ⟨RX3, "learn", "(II)V"⟩
abbrev cX3_heardCount : ByteArray := prog_5_method_10_code
def yX3_heardCount : MethodName := ⟨RX3, "heardCount", "()I"⟩
abbrev cX3_missedCount : ByteArray := prog_5_method_11_code
def yX3_missedCount : MethodName := ⟨RX3, "missedCount", "()I"⟩
abbrev cX3_unlink : ByteArray := prog_5_method_12_code
def yX3_unlink : MethodName := ⟨RX3, "unlink", "(I)V"⟩
abbrev cX3_copyFrom : ByteArray := prog_5_method_13_code
def yX3_copyFrom : MethodName := ⟨RX3, "copyFrom", "(LViewBroadcast$Node;)V"⟩
abbrev cX3_looksLike : ByteArray := prog_5_method_14_code
def yX3_looksLike : MethodName := ⟨RX3, "looksLike", "(LViewBroadcast$Node;)Z"⟩
def RX4 : String := "ViewBroadcast$NodeList"
def TX4 : u_T := fun k => match k with
  | 0 => ("ViewBroadcast$NodeList", "numbers", "[I", true)
  | _ => ("ViewBroadcast$NodeList", "count", "I", false)
def tyX4 : Nat → FieldType := fun k => match k with
  | 0 => .array .int
  | _ => .int
abbrev wsX40 : List Cond := u_ws RX4 TX4 2
theorem nmX4 : ∀ a, a < 2 → ∀ b, b < 2 → a ≠ b → (TX4 a).2.1 ≠ (TX4 b).2.1 := by decide +kernel
theorem tyX4_ok : ∀ k, k < 2 → parseFieldDescriptor (TX4 k).2.2.1 = some (tyX4 k) := by decide +kernel
abbrev cX4_init : ByteArray := prog_6_method_1_code
def yX4_init : MethodName := ⟨RX4, "<init>", "(I)V"⟩
abbrev cX4_at : ByteArray := prog_6_method_2_code
def yX4_at : MethodName := ⟨RX4, "at", "(I)I"⟩
abbrev cX4_placeOf : ByteArray := prog_6_method_3_code
def yX4_placeOf : MethodName := ⟨RX4, "placeOf", "(I)I"⟩
abbrev cX4_has : ByteArray := prog_6_method_4_code
def yX4_has : MethodName := ⟨RX4, "has", "(I)Z"⟩
abbrev cX4_put : ByteArray := prog_6_method_5_code
def yX4_put : MethodName := ⟨RX4, "put", "(I)V"⟩
abbrev cX4_removeAt : ByteArray := prog_6_method_6_code
def yX4_removeAt : MethodName := ⟨RX4, "removeAt", "(I)V"⟩
abbrev cX4_remove : ByteArray := prog_6_method_7_code
def yX4_remove : MethodName := ⟨RX4, "remove", "(I)V"⟩
abbrev cX4_clear : ByteArray := prog_6_method_8_code
def yX4_clear : MethodName := ⟨RX4, "clear", "()V"⟩
abbrev cX4_copyFrom : ByteArray := prog_6_method_9_code
def yX4_copyFrom : MethodName := ⟨RX4, "copyFrom", "(LViewBroadcast$NodeList;)V"⟩
abbrev cX4_isSameAs : ByteArray := prog_6_method_10_code
def yX4_isSameAs : MethodName := ⟨RX4, "isSameAs", "(LViewBroadcast$NodeList;)Z"⟩
def RX5 : String := "ViewBroadcast$Row"
def TX5 : u_T := fun k => match k with
  | 0 => ("ViewBroadcast$Row", "ring", "[LViewBroadcast$Letter;", true)
  | 1 => ("ViewBroadcast$Row", "first", "I", false)
  | 2 => ("ViewBroadcast$Row", "count", "I", false)
  | _ => ("ViewBroadcast$Row", "spilt", "I", false)
def tyX5 : Nat → FieldType := fun k => match k with
  | 0 => .array (.object "ViewBroadcast$Letter")
  | 1 => .int
  | 2 => .int
  | _ => .int
abbrev wsX50 : List Cond := u_ws RX5 TX5 4
theorem nmX5 : ∀ a, a < 4 → ∀ b, b < 4 → a ≠ b → (TX5 a).2.1 ≠ (TX5 b).2.1 := by decide +kernel
theorem tyX5_ok : ∀ k, k < 4 → parseFieldDescriptor (TX5 k).2.2.1 = some (tyX5 k) := by decide +kernel
abbrev cX5_init : ByteArray := prog_7_method_1_code
def yX5_init : MethodName := ⟨RX5, "<init>", "()V"⟩
abbrev cX5_place : ByteArray := prog_7_method_2_code
def yX5_place : MethodName := ⟨RX5, "place", "(I)I"⟩
abbrev cX5_isLetter : ByteArray := prog_7_method_3_code
def yX5_isLetter : MethodName := ⟨RX5, "isLetter", "(I)Z"⟩
abbrev cX5_at : ByteArray := prog_7_method_4_code
def yX5_at : MethodName := ⟨RX5, "at", "(I)LViewBroadcast$Letter;"⟩
abbrev cX5_open : ByteArray := prog_7_method_5_code
def yX5_open : MethodName := ⟨RX5, "open", "()LViewBroadcast$Letter;"⟩
abbrev cX5_removeAt : ByteArray := prog_7_method_6_code
def yX5_removeAt : MethodName := ⟨RX5, "removeAt", "(I)V"⟩
abbrev cX5_removeTo : ByteArray := prog_7_method_7_code
def yX5_removeTo : MethodName := ⟨RX5, "removeTo", "(I)I"⟩
abbrev cX5_canCome : ByteArray := prog_7_method_8_code
def yX5_canCome : MethodName := ⟨RX5, "canCome", "(I)Z"⟩
abbrev cX5_hasAhead : ByteArray := prog_7_method_9_code
def yX5_hasAhead : MethodName := ⟨RX5, "hasAhead", "(III)Z"⟩
abbrev cX5_copyFrom : ByteArray := prog_7_method_10_code
def yX5_copyFrom : MethodName := ⟨RX5, "copyFrom", "(LViewBroadcast$Row;)V"⟩
def RX6 : String := "ViewBroadcast$Sizes"
def TX6 : u_T := fun k => match k with
  | 0 => ("ViewBroadcast$Sizes", "active", "I", false)
  | 1 => ("ViewBroadcast$Sizes", "passive", "I", false)
  | 2 => ("ViewBroadcast$Sizes", "longWalk", "I", false)
  | 3 => ("ViewBroadcast$Sizes", "shortWalk", "I", false)
  | _ => ("ViewBroadcast$Sizes", "wait", "I", false)
def tyX6 : Nat → FieldType := fun k => match k with
  | 0 => .int
  | 1 => .int
  | 2 => .int
  | 3 => .int
  | _ => .int
abbrev wsX60 : List Cond := u_ws RX6 TX6 5
theorem nmX6 : ∀ a, a < 5 → ∀ b, b < 5 → a ≠ b → (TX6 a).2.1 ≠ (TX6 b).2.1 := by decide +kernel
theorem tyX6_ok : ∀ k, k < 5 → parseFieldDescriptor (TX6 k).2.2.1 = some (tyX6 k) := by decide +kernel
abbrev cX6_init : ByteArray := prog_8_method_1_code
def yX6_init : MethodName := ⟨RX6, "<init>", "()V"⟩
abbrev cX6_copyFrom : ByteArray := prog_8_method_2_code
def yX6_copyFrom : MethodName := ⟨RX6, "copyFrom", "(LViewBroadcast$Sizes;)V"⟩
def RX7 : String := "ViewBroadcast$Tales"
def TX7 : u_T := fun k => match k with
  | _ => ("ViewBroadcast$Tales", "world", "LViewBroadcast$World;", true)
def tyX7 : Nat → FieldType := fun k => match k with
  | _ => .object "ViewBroadcast$World"
abbrev wsX70 : List Cond := u_ws RX7 TX7 1
theorem nmX7 : ∀ a, a < 1 → ∀ b, b < 1 → a ≠ b → (TX7 a).2.1 ≠ (TX7 b).2.1 := by decide +kernel
theorem tyX7_ok : ∀ k, k < 1 → parseFieldDescriptor (TX7 k).2.2.1 = some (tyX7 k) := by decide +kernel
abbrev cX7_init : ByteArray := prog_9_method_1_code
def yX7_init : MethodName := ⟨RX7, "<init>", "(LViewBroadcast$World;)V"⟩
abbrev cX7_send : ByteArray := prog_9_method_2_code
def yX7_send : MethodName := ⟨RX7, "send", "(LViewBroadcast$Node;IIII)V"⟩
abbrev cX7_hear : ByteArray := prog_9_method_3_code
def yX7_hear : MethodName := ⟨RX7, "hear", "(LViewBroadcast$Node;III)V"⟩
abbrev cX7_onTell : ByteArray := prog_9_method_4_code
def yX7_onTell : MethodName := ⟨RX7, "onTell", "(LViewBroadcast$Node;III)V"⟩
abbrev cX7_onNote : ByteArray := prog_9_method_5_code
def yX7_onNote : MethodName := ⟨RX7, "onNote", "(LViewBroadcast$Node;II)V"⟩
abbrev cX7_onChoice : ByteArray := prog_9_method_6_code
def yX7_onChoice : MethodName := ⟨RX7, "onChoice", "(LViewBroadcast$Node;III)V"⟩
abbrev cX7_pass : ByteArray := prog_9_method_7_code
def yX7_pass : MethodName := ⟨RX7, "pass", "()I"⟩
abbrev cX7_fetchDue : ByteArray := prog_9_method_8_code
def yX7_fetchDue : MethodName := ⟨RX7, "fetchDue", "(LViewBroadcast$Node;)V"⟩
abbrev cX7_fetch : ByteArray := prog_9_method_9_code
def yX7_fetch : MethodName := ⟨RX7, "fetch", "(LViewBroadcast$Node;ILViewBroadcast$Miss;)V"⟩
def RX8 : String := "ViewBroadcast$Views"
def TX8 : u_T := fun k => match k with
  | 0 => ("ViewBroadcast$Views", "world", "LViewBroadcast$World;", true)
  | 1 => ("ViewBroadcast$Views", "sizes", "LViewBroadcast$Sizes;", true)
  | 2 => ("ViewBroadcast$Views", "pool", "LViewBroadcast$NodeList;", true)
  | _ => ("ViewBroadcast$Views", "listed", "LViewBroadcast$NodeList;", true)
def tyX8 : Nat → FieldType := fun k => match k with
  | 0 => .object "ViewBroadcast$World"
  | 1 => .object "ViewBroadcast$Sizes"
  | 2 => .object "ViewBroadcast$NodeList"
  | _ => .object "ViewBroadcast$NodeList"
abbrev wsX80 : List Cond := u_ws RX8 TX8 4
theorem nmX8 : ∀ a, a < 4 → ∀ b, b < 4 → a ≠ b → (TX8 a).2.1 ≠ (TX8 b).2.1 := by decide +kernel
theorem tyX8_ok : ∀ k, k < 4 → parseFieldDescriptor (TX8 k).2.2.1 = some (tyX8 k) := by decide +kernel
abbrev cX8_init : ByteArray := prog_10_method_1_code
def yX8_init : MethodName := ⟨RX8, "<init>", "(LViewBroadcast$World;)V"⟩
abbrev cX8_send : ByteArray := prog_10_method_2_code
def yX8_send : MethodName := ⟨RX8, "send", "(LViewBroadcast$Node;IIII)V"⟩
abbrev cX8_fillPool : ByteArray := prog_10_method_3_code
def yX8_fillPool : MethodName := ⟨RX8, "fillPool", "(LViewBroadcast$NodeList;II)V"⟩
abbrev cX8_drawOfPool : ByteArray := prog_10_method_4_code
def yX8_drawOfPool : MethodName := ⟨RX8, "drawOfPool", "()I"⟩
abbrev cX8_listFromPool : ByteArray := prog_10_method_5_code
def yX8_listFromPool : MethodName := ⟨RX8, "listFromPool", "(I)V"⟩
abbrev cX8_isFull : ByteArray := prog_10_method_6_code
def yX8_isFull : MethodName := ⟨RX8, "isFull", "(LViewBroadcast$Node;)Z"⟩
abbrev cX8_add : ByteArray := prog_10_method_7_code
def yX8_add : MethodName := ⟨RX8, "add", "(LViewBroadcast$Node;I)V"⟩
abbrev cX8_drop : ByteArray := prog_10_method_8_code
def yX8_drop : MethodName := ⟨RX8, "drop", "(LViewBroadcast$Node;I)V"⟩
abbrev cX8_note : ByteArray := prog_10_method_9_code
def yX8_note : MethodName := ⟨RX8, "note", "(LViewBroadcast$Node;I)V"⟩
abbrev cX8_mend : ByteArray := prog_10_method_10_code
def yX8_mend : MethodName := ⟨RX8, "mend", "(LViewBroadcast$Node;)V"⟩
abbrev cX8_onJoin : ByteArray := prog_10_method_11_code
def yX8_onJoin : MethodName := ⟨RX8, "onJoin", "(LViewBroadcast$Node;I)V"⟩
abbrev cX8_onWalk : ByteArray := prog_10_method_12_code
def yX8_onWalk : MethodName := ⟨RX8, "onWalk", "(LViewBroadcast$Node;III)V"⟩
abbrev cX8_onWelcome : ByteArray := prog_10_method_13_code
def yX8_onWelcome : MethodName := ⟨RX8, "onWelcome", "(LViewBroadcast$Node;I)V"⟩
abbrev cX8_onParting : ByteArray := prog_10_method_14_code
def yX8_onParting : MethodName := ⟨RX8, "onParting", "(LViewBroadcast$Node;I)V"⟩
abbrev cX8_onAsking : ByteArray := prog_10_method_15_code
def yX8_onAsking : MethodName := ⟨RX8, "onAsking", "(LViewBroadcast$Node;II)V"⟩
abbrev cX8_onRefusal : ByteArray := prog_10_method_16_code
def yX8_onRefusal : MethodName := ⟨RX8, "onRefusal", "(LViewBroadcast$Node;I)V"⟩
abbrev cX8_onMix : ByteArray := prog_10_method_17_code
def yX8_onMix : MethodName := ⟨RX8, "onMix", "(LViewBroadcast$Node;LViewBroadcast$Letter;)V"⟩
abbrev cX8_answerMix : ByteArray := prog_10_method_18_code
def yX8_answerMix : MethodName := ⟨RX8, "answerMix", "(LViewBroadcast$Node;II)V"⟩
abbrev cX8_takeList : ByteArray := prog_10_method_19_code
def yX8_takeList : MethodName := ⟨RX8, "takeList", "(LViewBroadcast$Node;LViewBroadcast$NodeList;)V"⟩
abbrev cX8_onStopped : ByteArray := prog_10_method_20_code
def yX8_onStopped : MethodName := ⟨RX8, "onStopped", "(LViewBroadcast$Node;I)V"⟩
abbrev cX8_beginMix : ByteArray := prog_10_method_21_code
def yX8_beginMix : MethodName := ⟨RX8, "beginMix", "(LViewBroadcast$Node;)I"⟩
def RX9 : String := "ViewBroadcast$World"
def TX9 : u_T := fun k => match k with
  | 0 => ("ViewBroadcast$World", "coins", "LViewBroadcast$Coins;", true)
  | 1 => ("ViewBroadcast$World", "sizes", "LViewBroadcast$Sizes;", true)
  | 2 => ("ViewBroadcast$World", "nodes", "[LViewBroadcast$Node;", true)
  | 3 => ("ViewBroadcast$World", "nobody", "LViewBroadcast$Node;", true)
  | 4 => ("ViewBroadcast$World", "row", "LViewBroadcast$Row;", true)
  | 5 => ("ViewBroadcast$World", "coming", "LViewBroadcast$Letter;", true)
  | 6 => ("ViewBroadcast$World", "arrivals", "[I", true)
  | 7 => ("ViewBroadcast$World", "nodeCount", "I", false)
  | 8 => ("ViewBroadcast$World", "taleCount", "I", false)
  | 9 => ("ViewBroadcast$World", "time", "I", false)
  | _ => ("ViewBroadcast$World", "nextCoin", "I", false)
def tyX9 : Nat → FieldType := fun k => match k with
  | 0 => .object "ViewBroadcast$Coins"
  | 1 => .object "ViewBroadcast$Sizes"
  | 2 => .array (.object "ViewBroadcast$Node")
  | 3 => .object "ViewBroadcast$Node"
  | 4 => .object "ViewBroadcast$Row"
  | 5 => .object "ViewBroadcast$Letter"
  | 6 => .array .int
  | 7 => .int
  | 8 => .int
  | 9 => .int
  | _ => .int
abbrev wsX90 : List Cond := u_ws RX9 TX9 11
theorem nmX9 : ∀ a, a < 11 → ∀ b, b < 11 → a ≠ b → (TX9 a).2.1 ≠ (TX9 b).2.1 := by decide +kernel
theorem tyX9_ok : ∀ k, k < 11 → parseFieldDescriptor (TX9 k).2.2.1 = some (tyX9 k) := by decide +kernel
abbrev cX9_init : ByteArray := prog_11_method_1_code
def yX9_init : MethodName := ⟨RX9, "<init>", "(LViewBroadcast$Coins;)V"⟩
abbrev cX9_isNode : ByteArray := prog_11_method_2_code
def yX9_isNode : MethodName := ⟨RX9, "isNode", "(I)Z"⟩
abbrev cX9_isTale : ByteArray := prog_11_method_3_code
def yX9_isTale : MethodName := ⟨RX9, "isTale", "(I)Z"⟩
abbrev cX9_nodeAt : ByteArray := prog_11_method_4_code
def yX9_nodeAt : MethodName := ⟨RX9, "nodeAt", "(I)LViewBroadcast$Node;"⟩
abbrev cX9_openNode : ByteArray := prog_11_method_5_code
def yX9_openNode : MethodName := ⟨RX9, "openNode", "()I"⟩
abbrev cX9_draw : ByteArray := prog_11_method_6_code
def yX9_draw : MethodName := ⟨RX9, "draw", "(I)I"⟩
abbrev cX9_send : ByteArray := prog_11_method_7_code
def yX9_send : MethodName := ⟨RX9, "send", "(IIIII)LViewBroadcast$Letter;"⟩
abbrev cX9_sendList : ByteArray := prog_11_method_8_code
def yX9_sendList : MethodName := ⟨RX9, "sendList", "(IIIIILViewBroadcast$NodeList;)V"⟩
abbrev cX9_takeLetter : ByteArray := prog_11_method_9_code
def yX9_takeLetter : MethodName := ⟨RX9, "takeLetter", "(I)LViewBroadcast$Letter;"⟩
abbrev cX9_halt : ByteArray := prog_11_method_10_code
def yX9_halt : MethodName := ⟨RX9, "halt", "(LViewBroadcast$Node;)I"⟩
abbrev cX9_mustLearnOfStop : ByteArray := prog_11_method_11_code
def yX9_mustLearnOfStop : MethodName := ⟨RX9, "mustLearnOfStop", "(LViewBroadcast$Node;I)Z"⟩
abbrev cX9_liveCount : ByteArray := prog_11_method_12_code
def yX9_liveCount : MethodName := ⟨RX9, "liveCount", "()I"⟩
abbrev cX9_hearersOf : ByteArray := prog_11_method_13_code
def yX9_hearersOf : MethodName := ⟨RX9, "hearersOf", "(I)I"⟩
abbrev cX9_isEven : ByteArray := prog_11_method_14_code
def yX9_isEven : MethodName := ⟨RX9, "isEven", "()Z"⟩
abbrev cX9_hasOneSidedLink : ByteArray := prog_11_method_15_code
def yX9_hasOneSidedLink : MethodName := ⟨RX9, "hasOneSidedLink", "(LViewBroadcast$Node;)Z"⟩
abbrev cX9_reachFrom : ByteArray := prog_11_method_16_code
def yX9_reachFrom : MethodName := ⟨RX9, "reachFrom", "(I)I"⟩
abbrev cX9_liveLinksOf : ByteArray := prog_11_method_17_code
def yX9_liveLinksOf : MethodName := ⟨RX9, "liveLinksOf", "(LViewBroadcast$Node;)I"⟩
abbrev cX9_firstOtherNode : ByteArray := prog_11_method_18_code
def yX9_firstOtherNode : MethodName := ⟨RX9, "firstOtherNode", "(LViewBroadcast$World;)I"⟩
abbrev cX9_copyFrom : ByteArray := prog_11_method_19_code
def yX9_copyFrom : MethodName := ⟨RX9, "copyFrom", "(LViewBroadcast$World;)V"⟩
def RX10 : String := "ViewBroadcast"
def TX10 : u_T := fun k => match k with
  | 0 => ("ViewBroadcast", "coins", "LViewBroadcast$Coins;", true)
  | 1 => ("ViewBroadcast", "world", "LViewBroadcast$World;", true)
  | 2 => ("ViewBroadcast", "views", "LViewBroadcast$Views;", true)
  | 3 => ("ViewBroadcast", "tales", "LViewBroadcast$Tales;", true)
  | 4 => ("ViewBroadcast", "kept", "[LViewBroadcast$World;", true)
  | _ => ("ViewBroadcast", "isKept", "[Z", true)
def tyX10 : Nat → FieldType := fun k => match k with
  | 0 => .object "ViewBroadcast$Coins"
  | 1 => .object "ViewBroadcast$World"
  | 2 => .object "ViewBroadcast$Views"
  | 3 => .object "ViewBroadcast$Tales"
  | 4 => .array (.object "ViewBroadcast$World")
  | _ => .array .boolean
abbrev wsX100 : List Cond := u_ws RX10 TX10 6
theorem nmX10 : ∀ a, a < 6 → ∀ b, b < 6 → a ≠ b → (TX10 a).2.1 ≠ (TX10 b).2.1 := by decide +kernel
theorem tyX10_ok : ∀ k, k < 6 → parseFieldDescriptor (TX10 k).2.2.1 = some (tyX10 k) := by decide +kernel
abbrev cX10_init : ByteArray := prog_1_method_1_code
def yX10_init : MethodName := ⟨RX10, "<init>", "()V"⟩
abbrev cX10_sizes : ByteArray := prog_1_method_2_code
def yX10_sizes : MethodName := ⟨RX10, "sizes", "(II)I"⟩
abbrev cX10_walks : ByteArray := prog_1_method_3_code
def yX10_walks : MethodName := ⟨RX10, "walks", "(III)I"⟩
abbrev cX10_coin : ByteArray := prog_1_method_4_code
def yX10_coin : MethodName := ⟨RX10, "coin", "(I)I"⟩
abbrev cX10_node : ByteArray := prog_1_method_5_code
def yX10_node : MethodName := ⟨RX10, "node", "()I"⟩
abbrev cX10_join : ByteArray := prog_1_method_6_code
def yX10_join : MethodName := ⟨RX10, "join", "(II)I"⟩
abbrev cX10_stop : ByteArray := prog_1_method_7_code
def yX10_stop : MethodName := ⟨RX10, "stop", "(I)I"⟩
abbrev cX10_mix : ByteArray := prog_1_method_8_code
def yX10_mix : MethodName := ⟨RX10, "mix", "(I)I"⟩
abbrev cX10_tale : ByteArray := prog_1_method_9_code
def yX10_tale : MethodName := ⟨RX10, "tale", "(I)I"⟩
abbrev cX10_tick : ByteArray := prog_1_method_10_code
def yX10_tick : MethodName := ⟨RX10, "tick", "()I"⟩
abbrev cX10_deliver : ByteArray := prog_1_method_11_code
def yX10_deliver : MethodName := ⟨RX10, "deliver", "(I)I"⟩
abbrev cX10_go : ByteArray := prog_1_method_12_code
def yX10_go : MethodName := ⟨RX10, "go", "(I)I"⟩
abbrev cX10_view : ByteArray := prog_1_method_13_code
def yX10_view : MethodName := ⟨RX10, "view", "(III)I"⟩
abbrev cX10_how : ByteArray := prog_1_method_14_code
def yX10_how : MethodName := ⟨RX10, "how", "(II)I"⟩
abbrev cX10_heard : ByteArray := prog_1_method_15_code
def yX10_heard : MethodName := ⟨RX10, "heard", "(II)I"⟩
abbrev cX10_missed : ByteArray := prog_1_method_16_code
def yX10_missed : MethodName := ⟨RX10, "missed", "(II)I"⟩
abbrev cX10_about : ByteArray := prog_1_method_17_code
def yX10_about : MethodName := ⟨RX10, "about", "(II)I"⟩
abbrev cX10_letter : ByteArray := prog_1_method_18_code
def yX10_letter : MethodName := ⟨RX10, "letter", "(II)I"⟩
abbrev cX10_even : ByteArray := prog_1_method_19_code
def yX10_even : MethodName := ⟨RX10, "even", "()I"⟩
abbrev cX10_reach : ByteArray := prog_1_method_20_code
def yX10_reach : MethodName := ⟨RX10, "reach", "(I)I"⟩
abbrev cX10_came : ByteArray := prog_1_method_21_code
def yX10_came : MethodName := ⟨RX10, "came", "(I)I"⟩
abbrev cX10_spread : ByteArray := prog_1_method_22_code
def yX10_spread : MethodName := ⟨RX10, "spread", "(I)I"⟩
abbrev cX10_told : ByteArray := prog_1_method_23_code
def yX10_told : MethodName := ⟨RX10, "told", "(I)I"⟩
abbrev cX10_keep : ByteArray := prog_1_method_24_code
def yX10_keep : MethodName := ⟨RX10, "keep", "(I)I"⟩
abbrev cX10_back : ByteArray := prog_1_method_25_code
def yX10_back : MethodName := ⟨RX10, "back", "(I)I"⟩
abbrev cX10_differs : ByteArray := prog_1_method_26_code
def yX10_differs : MethodName := ⟨RX10, "differs", "(I)I"⟩
abbrev cX10_isPlace : ByteArray := prog_1_method_27_code
def yX10_isPlace : MethodName := ⟨RX10, "isPlace", "(I)Z"⟩
abbrev cX10_refusedActor : ByteArray := prog_1_method_28_code
def yX10_refusedActor : MethodName := ⟨RX10, "refusedActor", "(I)I"⟩
abbrev cX10_come : ByteArray := prog_1_method_29_code
def yX10_come : MethodName := ⟨RX10, "come", "(I)I"⟩
def RX11 : String := "ViewBroadcastModel"
def TX11 : u_T := fun k => match k with
  | 0 => ("ViewBroadcastModel", "z", "[I", true)
  | 1 => ("ViewBroadcastModel", "mostActive", "I", false)
  | 2 => ("ViewBroadcastModel", "mostPassive", "I", false)
  | 3 => ("ViewBroadcastModel", "far", "I", false)
  | 4 => ("ViewBroadcastModel", "near", "I", false)
  | 5 => ("ViewBroadcastModel", "wait", "I", false)
  | 6 => ("ViewBroadcastModel", "coins", "[I", true)
  | 7 => ("ViewBroadcastModel", "coinMany", "I", false)
  | 8 => ("ViewBroadcastModel", "list", "[I", true)
  | 9 => ("ViewBroadcastModel", "listMany", "I", false)
  | 10 => ("ViewBroadcastModel", "some", "[I", true)
  | 11 => ("ViewBroadcastModel", "got", "[I", true)
  | 12 => ("ViewBroadcastModel", "gotMany", "I", false)
  | 13 => ("ViewBroadcastModel", "kept", "[I", true)
  | 14 => ("ViewBroadcastModel", "isKept", "[Z", true)
  | _ => ("ViewBroadcastModel", "keptSizes", "[I", true)
def tyX11 : Nat → FieldType := fun k => match k with
  | 0 => .array .int
  | 1 => .int
  | 2 => .int
  | 3 => .int
  | 4 => .int
  | 5 => .int
  | 6 => .array .int
  | 7 => .int
  | 8 => .array .int
  | 9 => .int
  | 10 => .array .int
  | 11 => .array .int
  | 12 => .int
  | 13 => .array .int
  | 14 => .array .boolean
  | _ => .array .int
abbrev wsX110 : List Cond := u_ws RX11 TX11 16
theorem nmX11 : ∀ a, a < 16 → ∀ b, b < 16 → a ≠ b → (TX11 a).2.1 ≠ (TX11 b).2.1 := by decide +kernel
theorem tyX11_ok : ∀ k, k < 16 → parseFieldDescriptor (TX11 k).2.2.1 = some (tyX11 k) := by decide +kernel
abbrev cX11_init : ByteArray := prog_13_method_1_code
def yX11_init : MethodName := ⟨RX11, "<init>", "()V"⟩
abbrev cX11_in : ByteArray := prog_13_method_3_code
def yX11_in : MethodName := ⟨RX11, "in", "(JJJ)Z"⟩
abbrev cX11_isNode : ByteArray := prog_13_method_4_code
def yX11_isNode : MethodName := ⟨RX11, "isNode", "(I)Z"⟩
abbrev cX11_isTale : ByteArray := prog_13_method_5_code
def yX11_isTale : MethodName := ⟨RX11, "isTale", "(I)Z"⟩
abbrev cX11_sizes : ByteArray := prog_13_method_6_code
def yX11_sizes : MethodName := ⟨RX11, "sizes", "(II)I"⟩
abbrev cX11_walks : ByteArray := prog_13_method_7_code
def yX11_walks : MethodName := ⟨RX11, "walks", "(III)I"⟩
abbrev cX11_coin : ByteArray := prog_13_method_8_code
def yX11_coin : MethodName := ⟨RX11, "coin", "(I)I"⟩
abbrev cX11_draw : ByteArray := prog_13_method_9_code
def yX11_draw : MethodName := ⟨RX11, "draw", "(I)I"⟩
abbrev cX11_ofLetter : ByteArray := prog_13_method_10_code
def yX11_ofLetter : MethodName := ⟨RX11, "ofLetter", "(II)I"⟩
abbrev cX11_post : ByteArray := prog_13_method_11_code
def yX11_post : MethodName := ⟨RX11, "post", "(IIIIII)V"⟩
abbrev cX11_sendList : ByteArray := prog_13_method_12_code
def yX11_sendList : MethodName := ⟨RX11, "sendList", "(IIIIII)V"⟩
abbrev cX11_send : ByteArray := prog_13_method_13_code
def yX11_send : MethodName := ⟨RX11, "send", "(IIIII)V"⟩
abbrev cX11_takeOutLetter : ByteArray := prog_13_method_14_code
def yX11_takeOutLetter : MethodName := ⟨RX11, "takeOutLetter", "(I)V"⟩
abbrev cX11_activeAt : ByteArray := prog_13_method_15_code
def yX11_activeAt : MethodName := ⟨RX11, "activeAt", "(II)I"⟩
abbrev cX11_passiveAt : ByteArray := prog_13_method_16_code
def yX11_passiveAt : MethodName := ⟨RX11, "passiveAt", "(II)I"⟩
abbrev cX11_isActive : ByteArray := prog_13_method_17_code
def yX11_isActive : MethodName := ⟨RX11, "isActive", "(II)Z"⟩
abbrev cX11_leavesPassive : ByteArray := prog_13_method_18_code
def yX11_leavesPassive : MethodName := ⟨RX11, "leavesPassive", "(II)V"⟩
abbrev cX11_leavesActive : ByteArray := prog_13_method_19_code
def yX11_leavesActive : MethodName := ⟨RX11, "leavesActive", "(II)V"⟩
abbrev cX11_forgetTeller : ByteArray := prog_13_method_20_code
def yX11_forgetTeller : MethodName := ⟨RX11, "forgetTeller", "(II)V"⟩
abbrev cX11_setLazy : ByteArray := prog_13_method_21_code
def yX11_setLazy : MethodName := ⟨RX11, "setLazy", "(III)V"⟩
abbrev cX11_note : ByteArray := prog_13_method_22_code
def yX11_note : MethodName := ⟨RX11, "note", "(II)V"⟩
abbrev cX11_add : ByteArray := prog_13_method_23_code
def yX11_add : MethodName := ⟨RX11, "add", "(II)V"⟩
abbrev cX11_mend : ByteArray := prog_13_method_24_code
def yX11_mend : MethodName := ⟨RX11, "mend", "(I)V"⟩
abbrev cX11_without : ByteArray := prog_13_method_25_code
def yX11_without : MethodName := ⟨RX11, "without", "(III)I"⟩
abbrev cX11_drawOut : ByteArray := prog_13_method_26_code
def yX11_drawOut : MethodName := ⟨RX11, "drawOut", "(I)I"⟩
abbrev cX11_node : ByteArray := prog_13_method_27_code
def yX11_node : MethodName := ⟨RX11, "node", "()I"⟩
abbrev cX11_join : ByteArray := prog_13_method_28_code
def yX11_join : MethodName := ⟨RX11, "join", "(II)I"⟩
abbrev cX11_stop : ByteArray := prog_13_method_29_code
def yX11_stop : MethodName := ⟨RX11, "stop", "(I)I"⟩
abbrev cX11_isUnderWay : ByteArray := prog_13_method_30_code
def yX11_isUnderWay : MethodName := ⟨RX11, "isUnderWay", "(II)Z"⟩
abbrev cX11_mix : ByteArray := prog_13_method_31_code
def yX11_mix : MethodName := ⟨RX11, "mix", "(I)I"⟩
abbrev cX11_drawSome : ByteArray := prog_13_method_32_code
def yX11_drawSome : MethodName := ⟨RX11, "drawSome", "(II)V"⟩
abbrev cX11_tale : ByteArray := prog_13_method_33_code
def yX11_tale : MethodName := ⟨RX11, "tale", "(I)I"⟩
abbrev cX11_hear : ByteArray := prog_13_method_34_code
def yX11_hear : MethodName := ⟨RX11, "hear", "(IIII)V"⟩
abbrev cX11_tick : ByteArray := prog_13_method_35_code
def yX11_tick : MethodName := ⟨RX11, "tick", "()I"⟩
abbrev cX11_fetch : ByteArray := prog_13_method_36_code
def yX11_fetch : MethodName := ⟨RX11, "fetch", "(III)V"⟩
abbrev cX11_canCome : ByteArray := prog_13_method_37_code
def yX11_canCome : MethodName := ⟨RX11, "canCome", "(I)Z"⟩
abbrev cX11_deliver : ByteArray := prog_13_method_38_code
def yX11_deliver : MethodName := ⟨RX11, "deliver", "(I)I"⟩
abbrev cX11_go : ByteArray := prog_13_method_39_code
def yX11_go : MethodName := ⟨RX11, "go", "(I)I"⟩
abbrev cX11_comes : ByteArray := prog_13_method_40_code
def yX11_comes : MethodName := ⟨RX11, "comes", "(I)I"⟩
abbrev cX11_joins : ByteArray := prog_13_method_41_code
def yX11_joins : MethodName := ⟨RX11, "joins", "(IIIII)V"⟩
abbrev cX11_goesOn : ByteArray := prog_13_method_42_code
def yX11_goesOn : MethodName := ⟨RX11, "goesOn", "(IIII)V"⟩
abbrev cX11_mends : ByteArray := prog_13_method_43_code
def yX11_mends : MethodName := ⟨RX11, "mends", "(IIII)V"⟩
abbrev cX11_mixes : ByteArray := prog_13_method_44_code
def yX11_mixes : MethodName := ⟨RX11, "mixes", "(IIIII)V"⟩
abbrev cX11_tells : ByteArray := prog_13_method_45_code
def yX11_tells : MethodName := ⟨RX11, "tells", "(IIIII)V"⟩
abbrev cX11_view : ByteArray := prog_13_method_46_code
def yX11_view : MethodName := ⟨RX11, "view", "(III)I"⟩
abbrev cX11_how : ByteArray := prog_13_method_47_code
def yX11_how : MethodName := ⟨RX11, "how", "(II)I"⟩
abbrev cX11_heard : ByteArray := prog_13_method_48_code
def yX11_heard : MethodName := ⟨RX11, "heard", "(II)I"⟩
abbrev cX11_missed : ByteArray := prog_13_method_49_code
def yX11_missed : MethodName := ⟨RX11, "missed", "(II)I"⟩
abbrev cX11_about : ByteArray := prog_13_method_50_code
def yX11_about : MethodName := ⟨RX11, "about", "(II)I"⟩
abbrev cX11_letter : ByteArray := prog_13_method_51_code
def yX11_letter : MethodName := ⟨RX11, "letter", "(II)I"⟩
abbrev cX11_even : ByteArray := prog_13_method_52_code
def yX11_even : MethodName := ⟨RX11, "even", "()I"⟩
abbrev cX11_reach : ByteArray := prog_13_method_53_code
def yX11_reach : MethodName := ⟨RX11, "reach", "(I)I"⟩
abbrev cX11_came : ByteArray := prog_13_method_54_code
def yX11_came : MethodName := ⟨RX11, "came", "(I)I"⟩
abbrev cX11_spread : ByteArray := prog_13_method_55_code
def yX11_spread : MethodName := ⟨RX11, "spread", "(I)I"⟩
abbrev cX11_told : ByteArray := prog_13_method_56_code
def yX11_told : MethodName := ⟨RX11, "told", "(I)I"⟩
abbrev cX11_keep : ByteArray := prog_13_method_57_code
def yX11_keep : MethodName := ⟨RX11, "keep", "(I)I"⟩
abbrev cX11_back : ByteArray := prog_13_method_58_code
def yX11_back : MethodName := ⟨RX11, "back", "(I)I"⟩
abbrev cX11_isOther : ByteArray := prog_13_method_59_code
def yX11_isOther : MethodName := ⟨RX11, "isOther", "(III)Z"⟩
abbrev cX11_differs : ByteArray := prog_13_method_60_code
def yX11_differs : MethodName := ⟨RX11, "differs", "(I)I"⟩
abbrev cX11_heardOther : ByteArray := prog_13_method_61_code
def yX11_heardOther : MethodName := ⟨RX11, "heardOther", "(II)Z"⟩
def RL : String := "ViewBroadcastLaw"
abbrev cL_law : ByteArray := code
def yL_law : MethodName := ⟨RL, "law", "([I)Z"⟩
abbrev vwCl : List vw_C := [(RX0, TX0, 2), (RX1, TX1, 6), (RX2, TX2, 3), (RX3, TX3, 10), (RX4, TX4, 2), (RX5, TX5, 4), (RX6, TX6, 5), (RX7, TX7, 1), (RX8, TX8, 4), (RX9, TX9, 11), (RX10, TX10, 6), (RX11, TX11, 16)]
def pU : List Cond := lw_tbl.filter goodWord
theorem pU_good : ∀ w ∈ pU, goodWord w = true := fun _ h => (List.mem_filter.mp h).2
theorem pU_in : ∀ w ∈ pU, w ∈ lw_tbl := fun _ h => (List.mem_filter.mp h).1
theorem pU_of {i : Nat} {w : Cond} (h : lw_tbl[i]? = some w) (hg : goodWord w = true) : w ∈ pU := List.mem_filter.mpr ⟨List.mem_of_getElem? h, hg⟩
