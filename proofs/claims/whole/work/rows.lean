section
-- ===== PART A: goes FIRST, ahead of the names: the tables' words, and 'selects' of the private methods out of them =====
/-- a private method of a class that the tables say can be made, by its rows of tables_1 -/
def lw_okq (q : MethodName × Nat) : Prop := (q.1.cls ≠ "java/lang/invoke/MethodHandle" ∧ q.1.cls ≠ "java/lang/invoke/VarHandle") ∧ Cond.instantiable q.1.cls q.2 ∈ tables_1 ∧ Cond.privateMethod q.1 ∈ tables_1 ∧ Cond.instanceMethod q.1 ∈ tables_1
theorem lw_p0 : lw_okq (⟨"PromiseCoins", "refuse", "(I)I"⟩, 8) := ⟨⟨by decide +kernel, by decide +kernel⟩, List.mem_of_getElem? (i := 16) (by decide +kernel), List.mem_of_getElem? (i := 247) (by decide +kernel), List.mem_of_getElem? (i := 248) (by decide +kernel)⟩
theorem lw_p1 : lw_okq (⟨"PromiseCoins", "isPromise", "(I)Z"⟩, 8) := ⟨⟨by decide +kernel, by decide +kernel⟩, List.mem_of_getElem? (i := 16) (by decide +kernel), List.mem_of_getElem? (i := 432) (by decide +kernel), List.mem_of_getElem? (i := 433) (by decide +kernel)⟩
theorem lw_p2 : lw_okq (⟨"PromiseCoins", "isNeed", "(I)Z"⟩, 8) := ⟨⟨by decide +kernel, by decide +kernel⟩, List.mem_of_getElem? (i := 16) (by decide +kernel), List.mem_of_getElem? (i := 471) (by decide +kernel), List.mem_of_getElem? (i := 472) (by decide +kernel)⟩
theorem lw_p3 : lw_okq (⟨"PromiseCoins", "isSet", "(I)Z"⟩, 8) := ⟨⟨by decide +kernel, by decide +kernel⟩, List.mem_of_getElem? (i := 16) (by decide +kernel), List.mem_of_getElem? (i := 514) (by decide +kernel), List.mem_of_getElem? (i := 515) (by decide +kernel)⟩
theorem lw_p4 : lw_okq (⟨"PromiseCoinsModel", "finding", "(I)I"⟩, 21) := ⟨⟨by decide +kernel, by decide +kernel⟩, List.mem_of_getElem? (i := 870) (by decide +kernel), List.mem_of_getElem? (i := 947) (by decide +kernel), List.mem_of_getElem? (i := 948) (by decide +kernel)⟩
theorem lw_p5 : lw_okq (⟨"PromiseCoinsModel", "takesAll", "()Z"⟩, 21) := ⟨⟨by decide +kernel, by decide +kernel⟩, List.mem_of_getElem? (i := 870) (by decide +kernel), List.mem_of_getElem? (i := 963) (by decide +kernel), List.mem_of_getElem? (i := 964) (by decide +kernel)⟩
theorem lw_p6 : lw_okq (⟨"PromiseCoinsModel", "next", "()V"⟩, 21) := ⟨⟨by decide +kernel, by decide +kernel⟩, List.mem_of_getElem? (i := 870) (by decide +kernel), List.mem_of_getElem? (i := 967) (by decide +kernel), List.mem_of_getElem? (i := 968) (by decide +kernel)⟩
theorem lw_p7 : lw_okq (⟨"PromiseCoinsModel", "byteAt", "(I)I"⟩, 21) := ⟨⟨by decide +kernel, by decide +kernel⟩, List.mem_of_getElem? (i := 870) (by decide +kernel), List.mem_of_getElem? (i := 971) (by decide +kernel), List.mem_of_getElem? (i := 972) (by decide +kernel)⟩
theorem lw_p8 : lw_okq (⟨"PromiseCoinsModel", "takesItem", "()Z"⟩, 21) := ⟨⟨by decide +kernel, by decide +kernel⟩, List.mem_of_getElem? (i := 870) (by decide +kernel), List.mem_of_getElem? (i := 975) (by decide +kernel), List.mem_of_getElem? (i := 976) (by decide +kernel)⟩
theorem lw_p9 : lw_okq (⟨"PromiseCoinsModel", "takes", "(Ljava/lang/String;)Z"⟩, 21) := ⟨⟨by decide +kernel, by decide +kernel⟩, List.mem_of_getElem? (i := 870) (by decide +kernel), List.mem_of_getElem? (i := 980) (by decide +kernel), List.mem_of_getElem? (i := 981) (by decide +kernel)⟩
theorem lw_p10 : lw_okq (⟨"PromiseCoinsModel", "isWord", "(Ljava/lang/String;)Z"⟩, 21) := ⟨⟨by decide +kernel, by decide +kernel⟩, List.mem_of_getElem? (i := 870) (by decide +kernel), List.mem_of_getElem? (i := 984) (by decide +kernel), List.mem_of_getElem? (i := 985) (by decide +kernel)⟩
theorem lw_p11 : lw_okq (⟨"PromiseCoinsModel", "takesCoin", "()Z"⟩, 21) := ⟨⟨by decide +kernel, by decide +kernel⟩, List.mem_of_getElem? (i := 870) (by decide +kernel), List.mem_of_getElem? (i := 990) (by decide +kernel), List.mem_of_getElem? (i := 991) (by decide +kernel)⟩
theorem lw_p12 : lw_okq (⟨"PromiseCoinsModel", "takesNumber", "(II)Z"⟩, 21) := ⟨⟨by decide +kernel, by decide +kernel⟩, List.mem_of_getElem? (i := 870) (by decide +kernel), List.mem_of_getElem? (i := 994) (by decide +kernel), List.mem_of_getElem? (i := 995) (by decide +kernel)⟩
theorem lw_p13 : lw_okq (⟨"PromiseCoinsModel", "isNumber", "(II)Z"⟩, 21) := ⟨⟨by decide +kernel, by decide +kernel⟩, List.mem_of_getElem? (i := 870) (by decide +kernel), List.mem_of_getElem? (i := 998) (by decide +kernel), List.mem_of_getElem? (i := 999) (by decide +kernel)⟩
theorem lw_p14 : lw_okq (⟨"PromiseCoinsModel", "takesNeed", "()Z"⟩, 21) := ⟨⟨by decide +kernel, by decide +kernel⟩, List.mem_of_getElem? (i := 870) (by decide +kernel), List.mem_of_getElem? (i := 1004) (by decide +kernel), List.mem_of_getElem? (i := 1005) (by decide +kernel)⟩
theorem lw_p15 : lw_okq (⟨"PromiseCoinsModel", "takesPromise", "(I)Z"⟩, 21) := ⟨⟨by decide +kernel, by decide +kernel⟩, List.mem_of_getElem? (i := 870) (by decide +kernel), List.mem_of_getElem? (i := 1016) (by decide +kernel), List.mem_of_getElem? (i := 1017) (by decide +kernel)⟩
def lw_privs_1 : List (MethodName × Nat) := [(⟨"PromiseCoins", "refuse", "(I)I"⟩, 8), (⟨"PromiseCoins", "isPromise", "(I)Z"⟩, 8), (⟨"PromiseCoins", "isNeed", "(I)Z"⟩, 8), (⟨"PromiseCoins", "isSet", "(I)Z"⟩, 8), (⟨"PromiseCoinsModel", "finding", "(I)I"⟩, 21), (⟨"PromiseCoinsModel", "takesAll", "()Z"⟩, 21), (⟨"PromiseCoinsModel", "next", "()V"⟩, 21), (⟨"PromiseCoinsModel", "byteAt", "(I)I"⟩, 21), (⟨"PromiseCoinsModel", "takesItem", "()Z"⟩, 21), (⟨"PromiseCoinsModel", "takes", "(Ljava/lang/String;)Z"⟩, 21), (⟨"PromiseCoinsModel", "isWord", "(Ljava/lang/String;)Z"⟩, 21), (⟨"PromiseCoinsModel", "takesCoin", "()Z"⟩, 21), (⟨"PromiseCoinsModel", "takesNumber", "(II)Z"⟩, 21), (⟨"PromiseCoinsModel", "isNumber", "(II)Z"⟩, 21), (⟨"PromiseCoinsModel", "takesNeed", "()Z"⟩, 21), (⟨"PromiseCoinsModel", "takesPromise", "(I)Z"⟩, 21)]
theorem lw_r1 : ∀ q ∈ lw_privs_1, lw_okq q := List.forall_mem_cons.mpr ⟨lw_p0, List.forall_mem_cons.mpr ⟨lw_p1, List.forall_mem_cons.mpr ⟨lw_p2, List.forall_mem_cons.mpr ⟨lw_p3, List.forall_mem_cons.mpr ⟨lw_p4, List.forall_mem_cons.mpr ⟨lw_p5, List.forall_mem_cons.mpr ⟨lw_p6, List.forall_mem_cons.mpr ⟨lw_p7, List.forall_mem_cons.mpr ⟨lw_p8, List.forall_mem_cons.mpr ⟨lw_p9, List.forall_mem_cons.mpr ⟨lw_p10, List.forall_mem_cons.mpr ⟨lw_p11, List.forall_mem_cons.mpr ⟨lw_p12, List.forall_mem_cons.mpr ⟨lw_p13, List.forall_mem_cons.mpr ⟨lw_p14, List.forall_mem_cons.mpr ⟨lw_p15, fun _ h => absurd h List.not_mem_nil⟩⟩⟩⟩⟩⟩⟩⟩⟩⟩⟩⟩⟩⟩⟩⟩
theorem lw_p16 : lw_okq (⟨"PromiseCoinsModel", "isPromise", "(I)Z"⟩, 21) := ⟨⟨by decide +kernel, by decide +kernel⟩, List.mem_of_getElem? (i := 870) (by decide +kernel), List.mem_of_getElem? (i := 1041) (by decide +kernel), List.mem_of_getElem? (i := 1042) (by decide +kernel)⟩
theorem lw_p17 : lw_okq (⟨"PromiseCoinsModel", "its", "(II)I"⟩, 21) := ⟨⟨by decide +kernel, by decide +kernel⟩, List.mem_of_getElem? (i := 870) (by decide +kernel), List.mem_of_getElem? (i := 1045) (by decide +kernel), List.mem_of_getElem? (i := 1046) (by decide +kernel)⟩
theorem lw_p18 : lw_okq (⟨"PromiseCoinsModel", "isNeed", "(I)Z"⟩, 21) := ⟨⟨by decide +kernel, by decide +kernel⟩, List.mem_of_getElem? (i := 870) (by decide +kernel), List.mem_of_getElem? (i := 1065) (by decide +kernel), List.mem_of_getElem? (i := 1066) (by decide +kernel)⟩
theorem lw_p19 : lw_okq (⟨"PromiseCoinsModel", "needIts", "(II)I"⟩, 21) := ⟨⟨by decide +kernel, by decide +kernel⟩, List.mem_of_getElem? (i := 870) (by decide +kernel), List.mem_of_getElem? (i := 1069) (by decide +kernel), List.mem_of_getElem? (i := 1070) (by decide +kernel)⟩
theorem lw_p20 : lw_okq (⟨"PromiseCoinsModel", "thrown", "()I"⟩, 21) := ⟨⟨by decide +kernel, by decide +kernel⟩, List.mem_of_getElem? (i := 870) (by decide +kernel), List.mem_of_getElem? (i := 1077) (by decide +kernel), List.mem_of_getElem? (i := 1078) (by decide +kernel)⟩
theorem lw_p21 : lw_okq (⟨"PromiseCoinsModel", "draw", "()I"⟩, 21) := ⟨⟨by decide +kernel, by decide +kernel⟩, List.mem_of_getElem? (i := 870) (by decide +kernel), List.mem_of_getElem? (i := 1081) (by decide +kernel), List.mem_of_getElem? (i := 1082) (by decide +kernel)⟩
theorem lw_p22 : lw_okq (⟨"PromiseCoinsModel", "keptIn", "(I)I"⟩, 21) := ⟨⟨by decide +kernel, by decide +kernel⟩, List.mem_of_getElem? (i := 870) (by decide +kernel), List.mem_of_getElem? (i := 1097) (by decide +kernel), List.mem_of_getElem? (i := 1098) (by decide +kernel)⟩
theorem lw_p23 : lw_okq (⟨"PromiseCoinsModel", "isSet", "(I)Z"⟩, 21) := ⟨⟨by decide +kernel, by decide +kernel⟩, List.mem_of_getElem? (i := 870) (by decide +kernel), List.mem_of_getElem? (i := 1108) (by decide +kernel), List.mem_of_getElem? (i := 1109) (by decide +kernel)⟩
theorem lw_p24 : lw_okq (⟨"PromiseCoinsModel", "owesBy", "(II)I"⟩, 21) := ⟨⟨by decide +kernel, by decide +kernel⟩, List.mem_of_getElem? (i := 870) (by decide +kernel), List.mem_of_getElem? (i := 1112) (by decide +kernel), List.mem_of_getElem? (i := 1113) (by decide +kernel)⟩
theorem lw_p25 : lw_okq (⟨"PromiseCoinsModel", "owesOf", "(IZ)I"⟩, 21) := ⟨⟨by decide +kernel, by decide +kernel⟩, List.mem_of_getElem? (i := 870) (by decide +kernel), List.mem_of_getElem? (i := 1116) (by decide +kernel), List.mem_of_getElem? (i := 1117) (by decide +kernel)⟩
theorem lw_p26 : lw_okq (⟨"PromiseCoinsModel", "bringsBy", "(II)I"⟩, 21) := ⟨⟨by decide +kernel, by decide +kernel⟩, List.mem_of_getElem? (i := 870) (by decide +kernel), List.mem_of_getElem? (i := 1124) (by decide +kernel), List.mem_of_getElem? (i := 1125) (by decide +kernel)⟩
theorem lw_p27 : lw_okq (⟨"PromiseCoinsModel", "metBy", "(I)I"⟩, 21) := ⟨⟨by decide +kernel, by decide +kernel⟩, List.mem_of_getElem? (i := 870) (by decide +kernel), List.mem_of_getElem? (i := 1132) (by decide +kernel), List.mem_of_getElem? (i := 1133) (by decide +kernel)⟩
theorem lw_p28 : lw_okq (⟨"PromiseCoinsModel", "isMet", "(II)Z"⟩, 21) := ⟨⟨by decide +kernel, by decide +kernel⟩, List.mem_of_getElem? (i := 870) (by decide +kernel), List.mem_of_getElem? (i := 1136) (by decide +kernel), List.mem_of_getElem? (i := 1137) (by decide +kernel)⟩
theorem lw_p29 : lw_okq (⟨"PromiseCoinsModel", "weightOf", "(I)I"⟩, 21) := ⟨⟨by decide +kernel, by decide +kernel⟩, List.mem_of_getElem? (i := 870) (by decide +kernel), List.mem_of_getElem? (i := 1144) (by decide +kernel), List.mem_of_getElem? (i := 1145) (by decide +kernel)⟩
theorem lw_p30 : lw_okq (⟨"PromiseCoinsModel", "findThrows", "()V"⟩, 21) := ⟨⟨by decide +kernel, by decide +kernel⟩, List.mem_of_getElem? (i := 870) (by decide +kernel), List.mem_of_getElem? (i := 1155) (by decide +kernel), List.mem_of_getElem? (i := 1156) (by decide +kernel)⟩
theorem lw_p31 : lw_okq (⟨"PromiseCoinsModel", "jointOf", "(III)I"⟩, 21) := ⟨⟨by decide +kernel, by decide +kernel⟩, List.mem_of_getElem? (i := 870) (by decide +kernel), List.mem_of_getElem? (i := 1159) (by decide +kernel), List.mem_of_getElem? (i := 1160) (by decide +kernel)⟩
def lw_privs_2 : List (MethodName × Nat) := [(⟨"PromiseCoinsModel", "isPromise", "(I)Z"⟩, 21), (⟨"PromiseCoinsModel", "its", "(II)I"⟩, 21), (⟨"PromiseCoinsModel", "isNeed", "(I)Z"⟩, 21), (⟨"PromiseCoinsModel", "needIts", "(II)I"⟩, 21), (⟨"PromiseCoinsModel", "thrown", "()I"⟩, 21), (⟨"PromiseCoinsModel", "draw", "()I"⟩, 21), (⟨"PromiseCoinsModel", "keptIn", "(I)I"⟩, 21), (⟨"PromiseCoinsModel", "isSet", "(I)Z"⟩, 21), (⟨"PromiseCoinsModel", "owesBy", "(II)I"⟩, 21), (⟨"PromiseCoinsModel", "owesOf", "(IZ)I"⟩, 21), (⟨"PromiseCoinsModel", "bringsBy", "(II)I"⟩, 21), (⟨"PromiseCoinsModel", "metBy", "(I)I"⟩, 21), (⟨"PromiseCoinsModel", "isMet", "(II)Z"⟩, 21), (⟨"PromiseCoinsModel", "weightOf", "(I)I"⟩, 21), (⟨"PromiseCoinsModel", "findThrows", "()V"⟩, 21), (⟨"PromiseCoinsModel", "jointOf", "(III)I"⟩, 21)]
theorem lw_r2 : ∀ q ∈ lw_privs_2, lw_okq q := List.forall_mem_cons.mpr ⟨lw_p16, List.forall_mem_cons.mpr ⟨lw_p17, List.forall_mem_cons.mpr ⟨lw_p18, List.forall_mem_cons.mpr ⟨lw_p19, List.forall_mem_cons.mpr ⟨lw_p20, List.forall_mem_cons.mpr ⟨lw_p21, List.forall_mem_cons.mpr ⟨lw_p22, List.forall_mem_cons.mpr ⟨lw_p23, List.forall_mem_cons.mpr ⟨lw_p24, List.forall_mem_cons.mpr ⟨lw_p25, List.forall_mem_cons.mpr ⟨lw_p26, List.forall_mem_cons.mpr ⟨lw_p27, List.forall_mem_cons.mpr ⟨lw_p28, List.forall_mem_cons.mpr ⟨lw_p29, List.forall_mem_cons.mpr ⟨lw_p30, List.forall_mem_cons.mpr ⟨lw_p31, fun _ h => absurd h List.not_mem_nil⟩⟩⟩⟩⟩⟩⟩⟩⟩⟩⟩⟩⟩⟩⟩⟩
theorem lw_p32 : lw_okq (⟨"PromiseCoinsModel", "told", "(II)I"⟩, 21) := ⟨⟨by decide +kernel, by decide +kernel⟩, List.mem_of_getElem? (i := 870) (by decide +kernel), List.mem_of_getElem? (i := 1163) (by decide +kernel), List.mem_of_getElem? (i := 1164) (by decide +kernel)⟩
theorem lw_p33 : lw_okq (⟨"PromiseCoinsModel", "sureOf", "(II)I"⟩, 21) := ⟨⟨by decide +kernel, by decide +kernel⟩, List.mem_of_getElem? (i := 870) (by decide +kernel), List.mem_of_getElem? (i := 1175) (by decide +kernel), List.mem_of_getElem? (i := 1176) (by decide +kernel)⟩
theorem lw_p34 : lw_okq (⟨"PromiseCoinsModel", "meanOf", "(I)I"⟩, 21) := ⟨⟨by decide +kernel, by decide +kernel⟩, List.mem_of_getElem? (i := 870) (by decide +kernel), List.mem_of_getElem? (i := 1187) (by decide +kernel), List.mem_of_getElem? (i := 1188) (by decide +kernel)⟩
theorem lw_p35 : lw_okq (⟨"PromiseCoinsModel", "worthOf", "(I)I"⟩, 21) := ⟨⟨by decide +kernel, by decide +kernel⟩, List.mem_of_getElem? (i := 870) (by decide +kernel), List.mem_of_getElem? (i := 1195) (by decide +kernel), List.mem_of_getElem? (i := 1196) (by decide +kernel)⟩
theorem lw_p36 : lw_okq (⟨"PromiseCoinsModel", "harmOf", "(II)I"⟩, 21) := ⟨⟨by decide +kernel, by decide +kernel⟩, List.mem_of_getElem? (i := 870) (by decide +kernel), List.mem_of_getElem? (i := 1203) (by decide +kernel), List.mem_of_getElem? (i := 1204) (by decide +kernel)⟩
theorem lw_p37 : lw_okq (⟨"PromiseCoinsModel", "isSure", "(IIII)Z"⟩, 21) := ⟨⟨by decide +kernel, by decide +kernel⟩, List.mem_of_getElem? (i := 870) (by decide +kernel), List.mem_of_getElem? (i := 1221) (by decide +kernel), List.mem_of_getElem? (i := 1222) (by decide +kernel)⟩
theorem lw_p38 : lw_okq (⟨"PromiseCoinsModel", "hangsBy", "(I)I"⟩, 21) := ⟨⟨by decide +kernel, by decide +kernel⟩, List.mem_of_getElem? (i := 870) (by decide +kernel), List.mem_of_getElem? (i := 1245) (by decide +kernel), List.mem_of_getElem? (i := 1246) (by decide +kernel)⟩
theorem lw_p39 : lw_okq (⟨"PromiseCoinsModel", "lacks", "(I)I"⟩, 21) := ⟨⟨by decide +kernel, by decide +kernel⟩, List.mem_of_getElem? (i := 870) (by decide +kernel), List.mem_of_getElem? (i := 1295) (by decide +kernel), List.mem_of_getElem? (i := 1296) (by decide +kernel)⟩
def lw_privs_3 : List (MethodName × Nat) := [(⟨"PromiseCoinsModel", "told", "(II)I"⟩, 21), (⟨"PromiseCoinsModel", "sureOf", "(II)I"⟩, 21), (⟨"PromiseCoinsModel", "meanOf", "(I)I"⟩, 21), (⟨"PromiseCoinsModel", "worthOf", "(I)I"⟩, 21), (⟨"PromiseCoinsModel", "harmOf", "(II)I"⟩, 21), (⟨"PromiseCoinsModel", "isSure", "(IIII)Z"⟩, 21), (⟨"PromiseCoinsModel", "hangsBy", "(I)I"⟩, 21), (⟨"PromiseCoinsModel", "lacks", "(I)I"⟩, 21)]
theorem lw_r3 : ∀ q ∈ lw_privs_3, lw_okq q := List.forall_mem_cons.mpr ⟨lw_p32, List.forall_mem_cons.mpr ⟨lw_p33, List.forall_mem_cons.mpr ⟨lw_p34, List.forall_mem_cons.mpr ⟨lw_p35, List.forall_mem_cons.mpr ⟨lw_p36, List.forall_mem_cons.mpr ⟨lw_p37, List.forall_mem_cons.mpr ⟨lw_p38, List.forall_mem_cons.mpr ⟨lw_p39, fun _ h => absurd h List.not_mem_nil⟩⟩⟩⟩⟩⟩⟩⟩
def lw_privs : List (MethodName × Nat) := lw_privs_1 ++ (lw_privs_2 ++ (lw_privs_3))
def lw_tbl : List Cond := k2_sels lw_privs ++ tables_1
theorem lw_privs_ok : ∀ q ∈ lw_privs, lw_okq q := by
  show ∀ q ∈ lw_privs_1 ++ (lw_privs_2 ++ (lw_privs_3)), lw_okq q
  exact List.forall_mem_append.mpr ⟨lw_r1, List.forall_mem_append.mpr ⟨lw_r2, lw_r3⟩⟩
end
section
def RX0 : String := "PromiseCoins$Odds"
def TX0 : u_T := fun k => match k with
  | 0 => ("PromiseCoins$Odds", "town", "LPromiseCoins$Town;", true)
  | 1 => ("PromiseCoins$Odds", "weights", "[I", true)
  | 2 => ("PromiseCoins$Odds", "keptSets", "[I", true)
  | 3 => ("PromiseCoins$Odds", "caseSets", "[I", true)
  | 4 => ("PromiseCoins$Odds", "caseWeights", "[I", true)
  | 5 => ("PromiseCoins$Odds", "cases", "I", false)
  | 6 => ("PromiseCoins$Odds", "together", "[J", true)
  | 7 => ("PromiseCoins$Odds", "gains", "[J", true)
  | 8 => ("PromiseCoins$Odds", "costs", "[J", true)
  | 9 => ("PromiseCoins$Odds", "brought", "[I", true)
  | _ => ("PromiseCoins$Odds", "counts", "[I", true)
def tyX0 : Nat → FieldType := fun k => match k with
  | 0 => .object "PromiseCoins$Town"
  | 1 => .array .int
  | 2 => .array .int
  | 3 => .array .int
  | 4 => .array .int
  | 5 => .int
  | 6 => .array .long
  | 7 => .array .long
  | 8 => .array .long
  | 9 => .array .int
  | _ => .array .int
abbrev wsX00 : List Cond := u_ws RX0 TX0 11
theorem nmX0 : ∀ a, a < 11 → ∀ b, b < 11 → a ≠ b → (TX0 a).2.1 ≠ (TX0 b).2.1 := by decide +kernel
theorem tyX0_ok : ∀ k, k < 11 → parseFieldDescriptor (TX0 k).2.2.1 = some (tyX0 k) := by decide +kernel
abbrev cX0_init : ByteArray := prog_2_method_1_code
def yX0_init : MethodName := ⟨RX0, "<init>", "(LPromiseCoins$Town;)V"⟩
abbrev cX0_sets : ByteArray := prog_2_method_2_code
def yX0_sets : MethodName := ⟨RX0, "sets", "()I"⟩
abbrev cX0_fillWeights : ByteArray := prog_2_method_3_code
def yX0_fillWeights : MethodName := ⟨RX0, "fillWeights", "(I)V"⟩
abbrev cX0_fillKeptSets : ByteArray := prog_2_method_4_code
def yX0_fillKeptSets : MethodName := ⟨RX0, "fillKeptSets", "()V"⟩
abbrev cX0_gather : ByteArray := prog_2_method_5_code
def yX0_gather : MethodName := ⟨RX0, "gather", "()V"⟩
abbrev cX0_fillTogether : ByteArray := prog_2_method_6_code
def yX0_fillTogether : MethodName := ⟨RX0, "fillTogether", "()V"⟩
abbrev cX0_fraction : ByteArray := prog_2_method_7_code
def yX0_fraction : MethodName := ⟨RX0, "fraction", "(JI)I"⟩
abbrev cX0_commonDivisor : ByteArray := prog_2_method_8_code
def yX0_commonDivisor : MethodName := ⟨RX0, "commonDivisor", "(JJ)J"⟩
abbrev cX0_weightOfAllKept : ByteArray := prog_2_method_9_code
def yX0_weightOfAllKept : MethodName := ⟨RX0, "weightOfAllKept", "(I)J"⟩
abbrev cX0_weightOfAnyKept : ByteArray := prog_2_method_10_code
def yX0_weightOfAnyKept : MethodName := ⟨RX0, "weightOfAnyKept", "(I)J"⟩
abbrev cX0_weightOfMet : ByteArray := prog_2_method_11_code
def yX0_weightOfMet : MethodName := ⟨RX0, "weightOfMet", "(II)J"⟩
abbrev cX0_weightOfAllMet : ByteArray := prog_2_method_12_code
def yX0_weightOfAllMet : MethodName := ⟨RX0, "weightOfAllMet", "(I)J"⟩
abbrev cX0_weighedOwed : ByteArray := prog_2_method_13_code
def yX0_weighedOwed : MethodName := ⟨RX0, "weighedOwed", "(I)J"⟩
abbrev cX0_weighedWorth : ByteArray := prog_2_method_14_code
def yX0_weighedWorth : MethodName := ⟨RX0, "weighedWorth", "(I)J"⟩
abbrev cX0_weightOfMore : ByteArray := prog_2_method_15_code
def yX0_weightOfMore : MethodName := ⟨RX0, "weightOfMore", "(II)J"⟩
abbrev cX0_likeliestCount : ByteArray := prog_2_method_16_code
def yX0_likeliestCount : MethodName := ⟨RX0, "likeliestCount", "(I)I"⟩
abbrev cX0_fewestFor : ByteArray := prog_2_method_17_code
def yX0_fewestFor : MethodName := ⟨RX0, "fewestFor", "(III)I"⟩
abbrev cX0_cheapestFor : ByteArray := prog_2_method_18_code
def yX0_cheapestFor : MethodName := ⟨RX0, "cheapestFor", "(III)I"⟩
abbrev cX0_mostWithin : ByteArray := prog_2_method_19_code
def yX0_mostWithin : MethodName := ⟨RX0, "mostWithin", "(III)I"⟩
abbrev cX0_bestSet : ByteArray := prog_2_method_20_code
def yX0_bestSet : MethodName := ⟨RX0, "bestSet", "()I"⟩
abbrev cX0_helpingCoin : ByteArray := prog_2_method_21_code
def yX0_helpingCoin : MethodName := ⟨RX0, "helpingCoin", "()I"⟩
abbrev cX0_hangingBy : ByteArray := prog_2_method_22_code
def yX0_hangingBy : MethodName := ⟨RX0, "hangingBy", "(I)I"⟩
abbrev cX0_clearGains : ByteArray := prog_2_method_23_code
def yX0_clearGains : MethodName := ⟨RX0, "clearGains", "()V"⟩
abbrev cX0_fillGainsOfNeed : ByteArray := prog_2_method_24_code
def yX0_fillGainsOfNeed : MethodName := ⟨RX0, "fillGainsOfNeed", "(I)V"⟩
abbrev cX0_fillGainsOfWorth : ByteArray := prog_2_method_25_code
def yX0_fillGainsOfWorth : MethodName := ⟨RX0, "fillGainsOfWorth", "()V"⟩
abbrev cX0_addGains : ByteArray := prog_2_method_26_code
def yX0_addGains : MethodName := ⟨RX0, "addGains", "(II)V"⟩
abbrev cX0_weighGains : ByteArray := prog_2_method_27_code
def yX0_weighGains : MethodName := ⟨RX0, "weighGains", "()V"⟩
abbrev cX0_fillWeighedCosts : ByteArray := prog_2_method_28_code
def yX0_fillWeighedCosts : MethodName := ⟨RX0, "fillWeighedCosts", "()V"⟩
abbrev cX0_fillOwedRows : ByteArray := prog_2_method_29_code
def yX0_fillOwedRows : MethodName := ⟨RX0, "fillOwedRows", "()V"⟩
abbrev cX0_weightOfMoreByRows : ByteArray := prog_2_method_30_code
def yX0_weightOfMoreByRows : MethodName := ⟨RX0, "weightOfMoreByRows", "(II)J"⟩
def RX1 : String := "PromiseCoins$Reader"
def TX1 : u_T := fun k => match k with
  | 0 => ("PromiseCoins$Reader", "tape", "LPromiseCoins$Tape;", true)
  | 1 => ("PromiseCoins$Reader", "draft", "LPromiseCoins$Town;", true)
  | 2 => ("PromiseCoins$Reader", "sort", "I", false)
  | 3 => ("PromiseCoins$Reader", "start", "I", false)
  | 4 => ("PromiseCoins$Reader", "end", "I", false)
  | 5 => ("PromiseCoins$Reader", "value", "I", false)
  | _ => ("PromiseCoins$Reader", "fault", "I", false)
def tyX1 : Nat → FieldType := fun k => match k with
  | 0 => .object "PromiseCoins$Tape"
  | 1 => .object "PromiseCoins$Town"
  | 2 => .int
  | 3 => .int
  | 4 => .int
  | 5 => .int
  | _ => .int
abbrev wsX10 : List Cond := u_ws RX1 TX1 7
theorem nmX1 : ∀ a, a < 7 → ∀ b, b < 7 → a ≠ b → (TX1 a).2.1 ≠ (TX1 b).2.1 := by decide +kernel
theorem tyX1_ok : ∀ k, k < 7 → parseFieldDescriptor (TX1 k).2.2.1 = some (tyX1 k) := by decide +kernel
abbrev cX1_init : ByteArray := prog_3_method_1_code
def yX1_init : MethodName := ⟨RX1, "<init>", "(LPromiseCoins$Tape;)V"⟩
abbrev cX1_readText : ByteArray := prog_3_method_2_code
def yX1_readText : MethodName := ⟨RX1, "readText", "(LPromiseCoins$Town;)I"⟩
abbrev cX1_stepOn : ByteArray := prog_3_method_3_code
def yX1_stepOn : MethodName := ⟨RX1, "stepOn", "()V"⟩
abbrev cX1_sortAt : ByteArray := prog_3_method_4_code
def yX1_sortAt : MethodName := ⟨RX1, "sortAt", "(I)I"⟩
abbrev cX1_isWord : ByteArray := prog_3_method_5_code
def yX1_isWord : MethodName := ⟨RX1, "isWord", "(Ljava/lang/String;)Z"⟩
abbrev cX1_kindOfWord : ByteArray := prog_3_method_6_code
def yX1_kindOfWord : MethodName := ⟨RX1, "kindOfWord", "()I"⟩
abbrev cX1_wordOfKind : ByteArray := prog_3_method_7_code
def yX1_wordOfKind : MethodName := ⟨RX1, "wordOfKind", "(I)Ljava/lang/String;"⟩
abbrev cX1_takeNumber : ByteArray := prog_3_method_8_code
def yX1_takeNumber : MethodName := ⟨RX1, "takeNumber", "(II)I"⟩
abbrev cX1_passWord : ByteArray := prog_3_method_9_code
def yX1_passWord : MethodName := ⟨RX1, "passWord", "(Ljava/lang/String;)Z"⟩
abbrev cX1_faultHere : ByteArray := prog_3_method_10_code
def yX1_faultHere : MethodName := ⟨RX1, "faultHere", "()Z"⟩
abbrev cX1_readItem : ByteArray := prog_3_method_11_code
def yX1_readItem : MethodName := ⟨RX1, "readItem", "()Z"⟩
abbrev cX1_readCoin : ByteArray := prog_3_method_12_code
def yX1_readCoin : MethodName := ⟨RX1, "readCoin", "()Z"⟩
abbrev cX1_readPromise : ByteArray := prog_3_method_13_code
def yX1_readPromise : MethodName := ⟨RX1, "readPromise", "(I)Z"⟩
abbrev cX1_readNeed : ByteArray := prog_3_method_14_code
def yX1_readNeed : MethodName := ⟨RX1, "readNeed", "()Z"⟩
def RX2 : String := "PromiseCoins$Sheet"
def TX2 : u_T := fun k => match k with
  | 0 => ("PromiseCoins$Sheet", "numbers", "[I", true)
  | 1 => ("PromiseCoins$Sheet", "bits", "I", false)
  | _ => ("PromiseCoins$Sheet", "size", "I", false)
def tyX2 : Nat → FieldType := fun k => match k with
  | 0 => .array .int
  | 1 => .int
  | _ => .int
abbrev wsX20 : List Cond := u_ws RX2 TX2 3
theorem nmX2 : ∀ a, a < 3 → ∀ b, b < 3 → a ≠ b → (TX2 a).2.1 ≠ (TX2 b).2.1 := by decide +kernel
theorem tyX2_ok : ∀ k, k < 3 → parseFieldDescriptor (TX2 k).2.2.1 = some (tyX2 k) := by decide +kernel
abbrev cX2_init : ByteArray := prog_4_method_1_code
def yX2_init : MethodName := ⟨RX2, "<init>", "()V"⟩
abbrev cX2_isMissing : ByteArray := prog_4_method_2_code
def yX2_isMissing : MethodName := ⟨RX2, "isMissing", "()Z"⟩
abbrev cX2_begin : ByteArray := prog_4_method_3_code
def yX2_begin : MethodName := ⟨RX2, "begin", "(II)V"⟩
abbrev cX2_put : ByteArray := prog_4_method_4_code
def yX2_put : MethodName := ⟨RX2, "put", "(II)V"⟩
abbrev cX2_hasSpan : ByteArray := prog_4_method_5_code
def yX2_hasSpan : MethodName := ⟨RX2, "hasSpan", "(II)Z"⟩
abbrev cX2_firstWrong : ByteArray := prog_4_method_6_code
def yX2_firstWrong : MethodName := ⟨RX2, "firstWrong", "(LPromiseCoins$Town;)I"⟩
def RX3 : String := "PromiseCoins$Tape"
def TX3 : u_T := fun k => match k with
  | 0 => ("PromiseCoins$Tape", "bytes", "[I", true)
  | _ => ("PromiseCoins$Tape", "length", "I", false)
def tyX3 : Nat → FieldType := fun k => match k with
  | 0 => .array .int
  | _ => .int
abbrev wsX30 : List Cond := u_ws RX3 TX3 2
theorem nmX3 : ∀ a, a < 2 → ∀ b, b < 2 → a ≠ b → (TX3 a).2.1 ≠ (TX3 b).2.1 := by decide +kernel
theorem tyX3_ok : ∀ k, k < 2 → parseFieldDescriptor (TX3 k).2.2.1 = some (tyX3 k) := by decide +kernel
abbrev cX3_init : ByteArray := prog_5_method_1_code
def yX3_init : MethodName := ⟨RX3, "<init>", "()V"⟩
abbrev cX3_append : ByteArray := prog_5_method_2_code
def yX3_append : MethodName := ⟨RX3, "append", "(II)V"⟩
def RX4 : String := "PromiseCoins$Town"
def TX4 : u_T := fun k => match k with
  | 0 => ("PromiseCoins$Town", "above", "[I", true)
  | 1 => ("PromiseCoins$Town", "below", "[I", true)
  | 2 => ("PromiseCoins$Town", "kind", "[I", true)
  | 3 => ("PromiseCoins$Town", "coin", "[I", true)
  | 4 => ("PromiseCoins$Town", "second", "[I", true)
  | 5 => ("PromiseCoins$Town", "thing", "[I", true)
  | 6 => ("PromiseCoins$Town", "number", "[I", true)
  | 7 => ("PromiseCoins$Town", "cost", "[I", true)
  | 8 => ("PromiseCoins$Town", "promises", "I", false)
  | 9 => ("PromiseCoins$Town", "needThing", "[I", true)
  | 10 => ("PromiseCoins$Town", "needNumber", "[I", true)
  | 11 => ("PromiseCoins$Town", "needWorth", "[I", true)
  | 12 => ("PromiseCoins$Town", "needs", "I", false)
  | 13 => ("PromiseCoins$Town", "latest", "I", false)
  | 14 => ("PromiseCoins$Town", "z", "I", false)
  | _ => ("PromiseCoins$Town", "spots", "[I", true)
def tyX4 : Nat → FieldType := fun k => match k with
  | 0 => .array .int
  | 1 => .array .int
  | 2 => .array .int
  | 3 => .array .int
  | 4 => .array .int
  | 5 => .array .int
  | 6 => .array .int
  | 7 => .array .int
  | 8 => .int
  | 9 => .array .int
  | 10 => .array .int
  | 11 => .array .int
  | 12 => .int
  | 13 => .int
  | 14 => .int
  | _ => .array .int
abbrev wsX40 : List Cond := u_ws RX4 TX4 16
theorem nmX4 : ∀ a, a < 16 → ∀ b, b < 16 → a ≠ b → (TX4 a).2.1 ≠ (TX4 b).2.1 := by decide +kernel
theorem tyX4_ok : ∀ k, k < 16 → parseFieldDescriptor (TX4 k).2.2.1 = some (tyX4 k) := by decide +kernel
abbrev cX4_init : ByteArray := prog_6_method_1_code
def yX4_init : MethodName := ⟨RX4, "<init>", "()V"⟩
abbrev cX4_becomeAs : ByteArray := prog_6_method_2_code
def yX4_becomeAs : MethodName := ⟨RX4, "becomeAs", "(LPromiseCoins$Town;)V"⟩
abbrev cX4_addPromise : ByteArray := prog_6_method_3_code
def yX4_addPromise : MethodName := ⟨RX4, "addPromise", "(IIIIII)V"⟩
abbrev cX4_dropLatest : ByteArray := prog_6_method_4_code
def yX4_dropLatest : MethodName := ⟨RX4, "dropLatest", "()V"⟩
abbrev cX4_addNeed : ByteArray := prog_6_method_5_code
def yX4_addNeed : MethodName := ⟨RX4, "addNeed", "(III)V"⟩
abbrev cX4_partOf : ByteArray := prog_6_method_6_code
def yX4_partOf : MethodName := ⟨RX4, "partOf", "(II)I"⟩
abbrev cX4_setPart : ByteArray := prog_6_method_7_code
def yX4_setPart : MethodName := ⟨RX4, "setPart", "(III)V"⟩
abbrev cX4_drawNext : ByteArray := prog_6_method_8_code
def yX4_drawNext : MethodName := ⟨RX4, "drawNext", "()I"⟩
abbrev cX4_tossCoins : ByteArray := prog_6_method_9_code
def yX4_tossCoins : MethodName := ⟨RX4, "tossCoins", "()I"⟩
abbrev cX4_weightOf : ByteArray := prog_6_method_10_code
def yX4_weightOf : MethodName := ⟨RX4, "weightOf", "(I)I"⟩
abbrev cX4_wholeWeight : ByteArray := prog_6_method_11_code
def yX4_wholeWeight : MethodName := ⟨RX4, "wholeWeight", "()I"⟩
abbrev cX4_heldSpots : ByteArray := prog_6_method_12_code
def yX4_heldSpots : MethodName := ⟨RX4, "heldSpots", "()I"⟩
abbrev cX4_keptIn : ByteArray := prog_6_method_13_code
def yX4_keptIn : MethodName := ⟨RX4, "keptIn", "(I)I"⟩
abbrev cX4_isKept : ByteArray := prog_6_method_14_code
def yX4_isKept : MethodName := ⟨RX4, "isKept", "(III)Z"⟩
abbrev cX4_owedOf : ByteArray := prog_6_method_15_code
def yX4_owedOf : MethodName := ⟨RX4, "owedOf", "(IZ)I"⟩
abbrev cX4_owedBy : ByteArray := prog_6_method_16_code
def yX4_owedBy : MethodName := ⟨RX4, "owedBy", "(II)I"⟩
abbrev cX4_broughtBy : ByteArray := prog_6_method_17_code
def yX4_broughtBy : MethodName := ⟨RX4, "broughtBy", "(II)I"⟩
abbrev cX4_isMet : ByteArray := prog_6_method_18_code
def yX4_isMet : MethodName := ⟨RX4, "isMet", "(II)Z"⟩
abbrev cX4_needsMetBy : ByteArray := prog_6_method_19_code
def yX4_needsMetBy : MethodName := ⟨RX4, "needsMetBy", "(I)I"⟩
abbrev cX4_worthMetBy : ByteArray := prog_6_method_20_code
def yX4_worthMetBy : MethodName := ⟨RX4, "worthMetBy", "(I)I"⟩
def RX5 : String := "PromiseCoins"
def TX5 : u_T := fun k => match k with
  | 0 => ("PromiseCoins", "now", "LPromiseCoins$Town;", true)
  | 1 => ("PromiseCoins", "saved", "LPromiseCoins$Town;", true)
  | 2 => ("PromiseCoins", "isSaved", "Z", false)
  | 3 => ("PromiseCoins", "tape", "LPromiseCoins$Tape;", true)
  | 4 => ("PromiseCoins", "reader", "LPromiseCoins$Reader;", true)
  | 5 => ("PromiseCoins", "odds", "LPromiseCoins$Odds;", true)
  | 6 => ("PromiseCoins", "sheets", "[LPromiseCoins$Sheet;", true)
  | _ => ("PromiseCoins", "findings", "[I", true)
def tyX5 : Nat → FieldType := fun k => match k with
  | 0 => .object "PromiseCoins$Town"
  | 1 => .object "PromiseCoins$Town"
  | 2 => .boolean
  | 3 => .object "PromiseCoins$Tape"
  | 4 => .object "PromiseCoins$Reader"
  | 5 => .object "PromiseCoins$Odds"
  | 6 => .array (.object "PromiseCoins$Sheet")
  | _ => .array .int
abbrev wsX50 : List Cond := u_ws RX5 TX5 8
theorem nmX5 : ∀ a, a < 8 → ∀ b, b < 8 → a ≠ b → (TX5 a).2.1 ≠ (TX5 b).2.1 := by decide +kernel
theorem tyX5_ok : ∀ k, k < 8 → parseFieldDescriptor (TX5 k).2.2.1 = some (tyX5 k) := by decide +kernel
abbrev cX5_init : ByteArray := prog_1_method_1_code
def yX5_init : MethodName := ⟨RX5, "<init>", "()V"⟩
abbrev cX5_feed : ByteArray := prog_1_method_2_code
def yX5_feed : MethodName := ⟨RX5, "feed", "(II)I"⟩
abbrev cX5_wipe : ByteArray := prog_1_method_3_code
def yX5_wipe : MethodName := ⟨RX5, "wipe", "()I"⟩
abbrev cX5_town : ByteArray := prog_1_method_4_code
def yX5_town : MethodName := ⟨RX5, "town", "()I"⟩
abbrev cX5_coin : ByteArray := prog_1_method_5_code
def yX5_coin : MethodName := ⟨RX5, "coin", "(III)I"⟩
abbrev cX5_promise : ByteArray := prog_1_method_6_code
def yX5_promise : MethodName := ⟨RX5, "promise", "(IIII)I"⟩
abbrev cX5_promiseOf : ByteArray := prog_1_method_7_code
def yX5_promiseOf : MethodName := ⟨RX5, "promiseOf", "(II)I"⟩
abbrev cX5_change : ByteArray := prog_1_method_8_code
def yX5_change : MethodName := ⟨RX5, "change", "(III)I"⟩
abbrev cX5_drop : ByteArray := prog_1_method_9_code
def yX5_drop : MethodName := ⟨RX5, "drop", "()I"⟩
abbrev cX5_need : ByteArray := prog_1_method_10_code
def yX5_need : MethodName := ⟨RX5, "need", "(III)I"⟩
abbrev cX5_needOf : ByteArray := prog_1_method_11_code
def yX5_needOf : MethodName := ⟨RX5, "needOf", "(II)I"⟩
abbrev cX5_cast : ByteArray := prog_1_method_12_code
def yX5_cast : MethodName := ⟨RX5, "cast", "()I"⟩
abbrev cX5_lay : ByteArray := prog_1_method_13_code
def yX5_lay : MethodName := ⟨RX5, "lay", "(I)I"⟩
abbrev cX5_kept : ByteArray := prog_1_method_14_code
def yX5_kept : MethodName := ⟨RX5, "kept", "()I"⟩
abbrev cX5_owes : ByteArray := prog_1_method_15_code
def yX5_owes : MethodName := ⟨RX5, "owes", "(I)I"⟩
abbrev cX5_brings : ByteArray := prog_1_method_16_code
def yX5_brings : MethodName := ⟨RX5, "brings", "(II)I"⟩
abbrev cX5_met : ByteArray := prog_1_method_17_code
def yX5_met : MethodName := ⟨RX5, "met", "(I)I"⟩
abbrev cX5_weight : ByteArray := prog_1_method_18_code
def yX5_weight : MethodName := ⟨RX5, "weight", "(I)I"⟩
abbrev cX5_chance : ByteArray := prog_1_method_19_code
def yX5_chance : MethodName := ⟨RX5, "chance", "(II)I"⟩
abbrev cX5_joint : ByteArray := prog_1_method_20_code
def yX5_joint : MethodName := ⟨RX5, "joint", "(IIII)I"⟩
abbrev cX5_sure : ByteArray := prog_1_method_21_code
def yX5_sure : MethodName := ⟨RX5, "sure", "(III)I"⟩
abbrev cX5_all : ByteArray := prog_1_method_22_code
def yX5_all : MethodName := ⟨RX5, "all", "(II)I"⟩
abbrev cX5_mean : ByteArray := prog_1_method_23_code
def yX5_mean : MethodName := ⟨RX5, "mean", "(II)I"⟩
abbrev cX5_worth : ByteArray := prog_1_method_24_code
def yX5_worth : MethodName := ⟨RX5, "worth", "(II)I"⟩
abbrev cX5_harm : ByteArray := prog_1_method_25_code
def yX5_harm : MethodName := ⟨RX5, "harm", "(III)I"⟩
abbrev cX5_likely : ByteArray := prog_1_method_26_code
def yX5_likely : MethodName := ⟨RX5, "likely", "(I)I"⟩
abbrev cX5_fewest : ByteArray := prog_1_method_27_code
def yX5_fewest : MethodName := ⟨RX5, "fewest", "(III)I"⟩
abbrev cX5_cheapest : ByteArray := prog_1_method_28_code
def yX5_cheapest : MethodName := ⟨RX5, "cheapest", "(III)I"⟩
abbrev cX5_most : ByteArray := prog_1_method_29_code
def yX5_most : MethodName := ⟨RX5, "most", "(III)I"⟩
abbrev cX5_best : ByteArray := prog_1_method_30_code
def yX5_best : MethodName := ⟨RX5, "best", "()I"⟩
abbrev cX5_helps : ByteArray := prog_1_method_31_code
def yX5_helps : MethodName := ⟨RX5, "helps", "()I"⟩
abbrev cX5_hangs : ByteArray := prog_1_method_32_code
def yX5_hangs : MethodName := ⟨RX5, "hangs", "(I)I"⟩
abbrev cX5_asks : ByteArray := prog_1_method_33_code
def yX5_asks : MethodName := ⟨RX5, "asks", "(I)I"⟩
abbrev cX5_apart : ByteArray := prog_1_method_34_code
def yX5_apart : MethodName := ⟨RX5, "apart", "(II)I"⟩
abbrev cX5_tries : ByteArray := prog_1_method_35_code
def yX5_tries : MethodName := ⟨RX5, "tries", "(III)I"⟩
abbrev cX5_seed : ByteArray := prog_1_method_36_code
def yX5_seed : MethodName := ⟨RX5, "seed", "(I)I"⟩
abbrev cX5_hold : ByteArray := prog_1_method_37_code
def yX5_hold : MethodName := ⟨RX5, "hold", "(II)I"⟩
abbrev cX5_as : ByteArray := prog_1_method_38_code
def yX5_as : MethodName := ⟨RX5, "as", "(II)I"⟩
abbrev cX5_sheet : ByteArray := prog_1_method_39_code
def yX5_sheet : MethodName := ⟨RX5, "sheet", "(III)I"⟩
abbrev cX5_write : ByteArray := prog_1_method_40_code
def yX5_write : MethodName := ⟨RX5, "write", "(III)I"⟩
abbrev cX5_copy : ByteArray := prog_1_method_41_code
def yX5_copy : MethodName := ⟨RX5, "copy", "(IIIII)I"⟩
abbrev cX5_load : ByteArray := prog_1_method_42_code
def yX5_load : MethodName := ⟨RX5, "load", "(I)I"⟩
abbrev cX5_judge : ByteArray := prog_1_method_43_code
def yX5_judge : MethodName := ⟨RX5, "judge", "(I)I"⟩
abbrev cX5_image : ByteArray := prog_1_method_44_code
def yX5_image : MethodName := ⟨RX5, "image", "()I"⟩
abbrev cX5_undo : ByteArray := prog_1_method_45_code
def yX5_undo : MethodName := ⟨RX5, "undo", "()I"⟩
abbrev cX5_tear : ByteArray := prog_1_method_46_code
def yX5_tear : MethodName := ⟨RX5, "tear", "()I"⟩
abbrev cX5_count : ByteArray := prog_1_method_47_code
def yX5_count : MethodName := ⟨RX5, "count", "(I)I"⟩
abbrev cX5_status : ByteArray := prog_1_method_48_code
def yX5_status : MethodName := ⟨RX5, "status", "(I)I"⟩
abbrev cX5_refuse : ByteArray := prog_1_method_49_code
def yX5_refuse : MethodName := ⟨RX5, "refuse", "(I)I"⟩
abbrev cX5_isPromise : ByteArray := prog_1_method_50_code
def yX5_isPromise : MethodName := ⟨RX5, "isPromise", "(I)Z"⟩
abbrev cX5_isNeed : ByteArray := prog_1_method_51_code
def yX5_isNeed : MethodName := ⟨RX5, "isNeed", "(I)Z"⟩
abbrev cX5_isSet : ByteArray := prog_1_method_52_code
def yX5_isSet : MethodName := ⟨RX5, "isSet", "(I)Z"⟩
abbrev cX5_isBetween : ByteArray := prog_1_method_53_code
def yX5_isBetween : MethodName := ⟨RX5, "isBetween", "(III)Z"⟩
abbrev cX5_isCoin : ByteArray := prog_1_method_54_code
def yX5_isCoin : MethodName := ⟨RX5, "isCoin", "(I)Z"⟩
abbrev cX5_isThrow : ByteArray := prog_1_method_55_code
def yX5_isThrow : MethodName := ⟨RX5, "isThrow", "(I)Z"⟩
abbrev cX5_isKind : ByteArray := prog_1_method_56_code
def yX5_isKind : MethodName := ⟨RX5, "isKind", "(I)Z"⟩
abbrev cX5_isPart : ByteArray := prog_1_method_57_code
def yX5_isPart : MethodName := ⟨RX5, "isPart", "(I)Z"⟩
abbrev cX5_isRatio : ByteArray := prog_1_method_58_code
def yX5_isRatio : MethodName := ⟨RX5, "isRatio", "(II)Z"⟩
abbrev cX5_isSpot : ByteArray := prog_1_method_59_code
def yX5_isSpot : MethodName := ⟨RX5, "isSpot", "(I)Z"⟩
abbrev cX5_isSheet : ByteArray := prog_1_method_60_code
def yX5_isSheet : MethodName := ⟨RX5, "isSheet", "(I)Z"⟩
abbrev cX5_fitsPart : ByteArray := prog_1_method_61_code
def yX5_fitsPart : MethodName := ⟨RX5, "fitsPart", "(II)Z"⟩
abbrev cX5_fitsNeed : ByteArray := prog_1_method_62_code
def yX5_fitsNeed : MethodName := ⟨RX5, "fitsNeed", "(II)Z"⟩
abbrev cX5_has : ByteArray := prog_1_method_63_code
def yX5_has : MethodName := ⟨RX5, "has", "(II)Z"⟩
abbrev cX5_isUnder : ByteArray := prog_1_method_64_code
def yX5_isUnder : MethodName := ⟨RX5, "isUnder", "(II)Z"⟩
def RX6 : String := "PromiseCoinsModel"
def TX6 : u_T := fun k => match k with
  | 0 => ("PromiseCoinsModel", "s", "[I", true)
  | 1 => ("PromiseCoinsModel", "kept", "[I", true)
  | 2 => ("PromiseCoinsModel", "put", "[I", true)
  | 3 => ("PromiseCoinsModel", "isKept", "Z", false)
  | 4 => ("PromiseCoinsModel", "findings", "[I", true)
  | 5 => ("PromiseCoinsModel", "tape", "[I", true)
  | 6 => ("PromiseCoinsModel", "taped", "I", false)
  | 7 => ("PromiseCoinsModel", "at", "I", false)
  | 8 => ("PromiseCoinsModel", "token", "I", false)
  | 9 => ("PromiseCoinsModel", "tokenAt", "I", false)
  | 10 => ("PromiseCoinsModel", "value", "I", false)
  | 11 => ("PromiseCoinsModel", "taken", "I", false)
  | 12 => ("PromiseCoinsModel", "items", "I", false)
  | 13 => ("PromiseCoinsModel", "keeps", "[I", true)
  | 14 => ("PromiseCoinsModel", "weighs", "[I", true)
  | 15 => ("PromiseCoinsModel", "sumOfAll", "I", false)
  | 16 => ("PromiseCoinsModel", "oftenBy", "[I", true)
  | 17 => ("PromiseCoinsModel", "bits", "[I", true)
  | 18 => ("PromiseCoinsModel", "sizes", "[I", true)
  | 19 => ("PromiseCoinsModel", "number", "[I", true)
  | _ => ("PromiseCoinsModel", "carried", "[I", true)
def tyX6 : Nat → FieldType := fun k => match k with
  | 0 => .array .int
  | 1 => .array .int
  | 2 => .array .int
  | 3 => .boolean
  | 4 => .array .int
  | 5 => .array .int
  | 6 => .int
  | 7 => .int
  | 8 => .int
  | 9 => .int
  | 10 => .int
  | 11 => .int
  | 12 => .int
  | 13 => .array .int
  | 14 => .array .int
  | 15 => .int
  | 16 => .array .int
  | 17 => .array .int
  | 18 => .array .int
  | 19 => .array .int
  | _ => .array .int
abbrev wsX60 : List Cond := u_ws RX6 TX6 21
theorem nmX6 : ∀ a, a < 21 → ∀ b, b < 21 → a ≠ b → (TX6 a).2.1 ≠ (TX6 b).2.1 := by decide +kernel
theorem tyX6_ok : ∀ k, k < 21 → parseFieldDescriptor (TX6 k).2.2.1 = some (tyX6 k) := by decide +kernel
abbrev cX6_init : ByteArray := prog_8_method_1_code
def yX6_init : MethodName := ⟨RX6, "<init>", "()V"⟩
abbrev cX6_finding : ByteArray := prog_8_method_2_code
def yX6_finding : MethodName := ⟨RX6, "finding", "(I)I"⟩
abbrev cX6_in : ByteArray := prog_8_method_3_code
def yX6_in : MethodName := ⟨RX6, "in", "(III)Z"⟩
abbrev cX6_carry : ByteArray := prog_8_method_4_code
def yX6_carry : MethodName := ⟨RX6, "carry", "([I[I)V"⟩
abbrev cX6_feed : ByteArray := prog_8_method_5_code
def yX6_feed : MethodName := ⟨RX6, "feed", "(II)I"⟩
abbrev cX6_wipe : ByteArray := prog_8_method_6_code
def yX6_wipe : MethodName := ⟨RX6, "wipe", "()I"⟩
abbrev cX6_byteAt : ByteArray := prog_8_method_7_code
def yX6_byteAt : MethodName := ⟨RX6, "byteAt", "(I)I"⟩
abbrev cX6_next : ByteArray := prog_8_method_8_code
def yX6_next : MethodName := ⟨RX6, "next", "()V"⟩
abbrev cX6_isWord : ByteArray := prog_8_method_9_code
def yX6_isWord : MethodName := ⟨RX6, "isWord", "(Ljava/lang/String;)Z"⟩
abbrev cX6_isNumber : ByteArray := prog_8_method_10_code
def yX6_isNumber : MethodName := ⟨RX6, "isNumber", "(II)Z"⟩
abbrev cX6_takes : ByteArray := prog_8_method_11_code
def yX6_takes : MethodName := ⟨RX6, "takes", "(Ljava/lang/String;)Z"⟩
abbrev cX6_takesNumber : ByteArray := prog_8_method_12_code
def yX6_takesNumber : MethodName := ⟨RX6, "takesNumber", "(II)Z"⟩
abbrev cX6_takesCoin : ByteArray := prog_8_method_13_code
def yX6_takesCoin : MethodName := ⟨RX6, "takesCoin", "()Z"⟩
abbrev cX6_takesPromise : ByteArray := prog_8_method_14_code
def yX6_takesPromise : MethodName := ⟨RX6, "takesPromise", "(I)Z"⟩
abbrev cX6_takesNeed : ByteArray := prog_8_method_15_code
def yX6_takesNeed : MethodName := ⟨RX6, "takesNeed", "()Z"⟩
abbrev cX6_takesItem : ByteArray := prog_8_method_16_code
def yX6_takesItem : MethodName := ⟨RX6, "takesItem", "()Z"⟩
abbrev cX6_takesAll : ByteArray := prog_8_method_17_code
def yX6_takesAll : MethodName := ⟨RX6, "takesAll", "()Z"⟩
abbrev cX6_town : ByteArray := prog_8_method_18_code
def yX6_town : MethodName := ⟨RX6, "town", "()I"⟩
abbrev cX6_isCoin : ByteArray := prog_8_method_19_code
def yX6_isCoin : MethodName := ⟨RX6, "isCoin", "(I)Z"⟩
abbrev cX6_coin : ByteArray := prog_8_method_20_code
def yX6_coin : MethodName := ⟨RX6, "coin", "(III)I"⟩
abbrev cX6_isPromise : ByteArray := prog_8_method_21_code
def yX6_isPromise : MethodName := ⟨RX6, "isPromise", "(I)Z"⟩
abbrev cX6_isNeed : ByteArray := prog_8_method_22_code
def yX6_isNeed : MethodName := ⟨RX6, "isNeed", "(I)Z"⟩
abbrev cX6_isSet : ByteArray := prog_8_method_23_code
def yX6_isSet : MethodName := ⟨RX6, "isSet", "(I)Z"⟩
abbrev cX6_isPart : ByteArray := prog_8_method_24_code
def yX6_isPart : MethodName := ⟨RX6, "isPart", "(I)Z"⟩
abbrev cX6_its : ByteArray := prog_8_method_25_code
def yX6_its : MethodName := ⟨RX6, "its", "(II)I"⟩
abbrev cX6_isGood : ByteArray := prog_8_method_26_code
def yX6_isGood : MethodName := ⟨RX6, "isGood", "(II)Z"⟩
abbrev cX6_promise : ByteArray := prog_8_method_27_code
def yX6_promise : MethodName := ⟨RX6, "promise", "(IIII)I"⟩
abbrev cX6_promiseOf : ByteArray := prog_8_method_28_code
def yX6_promiseOf : MethodName := ⟨RX6, "promiseOf", "(II)I"⟩
abbrev cX6_change : ByteArray := prog_8_method_29_code
def yX6_change : MethodName := ⟨RX6, "change", "(III)I"⟩
abbrev cX6_drop : ByteArray := prog_8_method_30_code
def yX6_drop : MethodName := ⟨RX6, "drop", "()I"⟩
abbrev cX6_need : ByteArray := prog_8_method_31_code
def yX6_need : MethodName := ⟨RX6, "need", "(III)I"⟩
abbrev cX6_needIts : ByteArray := prog_8_method_32_code
def yX6_needIts : MethodName := ⟨RX6, "needIts", "(II)I"⟩
abbrev cX6_needOf : ByteArray := prog_8_method_33_code
def yX6_needOf : MethodName := ⟨RX6, "needOf", "(II)I"⟩
abbrev cX6_heads : ByteArray := prog_8_method_34_code
def yX6_heads : MethodName := ⟨RX6, "heads", "(II)Z"⟩
abbrev cX6_keptIn : ByteArray := prog_8_method_35_code
def yX6_keptIn : MethodName := ⟨RX6, "keptIn", "(I)I"⟩
abbrev cX6_owesOf : ByteArray := prog_8_method_36_code
def yX6_owesOf : MethodName := ⟨RX6, "owesOf", "(IZ)I"⟩
abbrev cX6_owesBy : ByteArray := prog_8_method_37_code
def yX6_owesBy : MethodName := ⟨RX6, "owesBy", "(II)I"⟩
abbrev cX6_bringsBy : ByteArray := prog_8_method_38_code
def yX6_bringsBy : MethodName := ⟨RX6, "bringsBy", "(II)I"⟩
abbrev cX6_isMet : ByteArray := prog_8_method_39_code
def yX6_isMet : MethodName := ⟨RX6, "isMet", "(II)Z"⟩
abbrev cX6_metBy : ByteArray := prog_8_method_40_code
def yX6_metBy : MethodName := ⟨RX6, "metBy", "(I)I"⟩
abbrev cX6_draw : ByteArray := prog_8_method_41_code
def yX6_draw : MethodName := ⟨RX6, "draw", "()I"⟩
abbrev cX6_thrown : ByteArray := prog_8_method_42_code
def yX6_thrown : MethodName := ⟨RX6, "thrown", "()I"⟩
abbrev cX6_cast : ByteArray := prog_8_method_43_code
def yX6_cast : MethodName := ⟨RX6, "cast", "()I"⟩
abbrev cX6_isThrow : ByteArray := prog_8_method_44_code
def yX6_isThrow : MethodName := ⟨RX6, "isThrow", "(I)Z"⟩
abbrev cX6_lay : ByteArray := prog_8_method_45_code
def yX6_lay : MethodName := ⟨RX6, "lay", "(I)I"⟩
abbrev cX6_kept : ByteArray := prog_8_method_46_code
def yX6_kept : MethodName := ⟨RX6, "kept", "()I"⟩
abbrev cX6_owes : ByteArray := prog_8_method_47_code
def yX6_owes : MethodName := ⟨RX6, "owes", "(I)I"⟩
abbrev cX6_brings : ByteArray := prog_8_method_48_code
def yX6_brings : MethodName := ⟨RX6, "brings", "(II)I"⟩
abbrev cX6_met : ByteArray := prog_8_method_49_code
def yX6_met : MethodName := ⟨RX6, "met", "(I)I"⟩
abbrev cX6_weightOf : ByteArray := prog_8_method_50_code
def yX6_weightOf : MethodName := ⟨RX6, "weightOf", "(I)I"⟩
abbrev cX6_findThrows : ByteArray := prog_8_method_51_code
def yX6_findThrows : MethodName := ⟨RX6, "findThrows", "()V"⟩
abbrev cX6_weight : ByteArray := prog_8_method_52_code
def yX6_weight : MethodName := ⟨RX6, "weight", "(I)I"⟩
abbrev cX6_told : ByteArray := prog_8_method_53_code
def yX6_told : MethodName := ⟨RX6, "told", "(II)I"⟩
abbrev cX6_chance : ByteArray := prog_8_method_54_code
def yX6_chance : MethodName := ⟨RX6, "chance", "(II)I"⟩
abbrev cX6_jointOf : ByteArray := prog_8_method_55_code
def yX6_jointOf : MethodName := ⟨RX6, "jointOf", "(III)I"⟩
abbrev cX6_joint : ByteArray := prog_8_method_56_code
def yX6_joint : MethodName := ⟨RX6, "joint", "(IIII)I"⟩
abbrev cX6_sureOf : ByteArray := prog_8_method_57_code
def yX6_sureOf : MethodName := ⟨RX6, "sureOf", "(II)I"⟩
abbrev cX6_sure : ByteArray := prog_8_method_58_code
def yX6_sure : MethodName := ⟨RX6, "sure", "(III)I"⟩
abbrev cX6_all : ByteArray := prog_8_method_59_code
def yX6_all : MethodName := ⟨RX6, "all", "(II)I"⟩
abbrev cX6_meanOf : ByteArray := prog_8_method_60_code
def yX6_meanOf : MethodName := ⟨RX6, "meanOf", "(I)I"⟩
abbrev cX6_mean : ByteArray := prog_8_method_61_code
def yX6_mean : MethodName := ⟨RX6, "mean", "(II)I"⟩
abbrev cX6_worthOf : ByteArray := prog_8_method_62_code
def yX6_worthOf : MethodName := ⟨RX6, "worthOf", "(I)I"⟩
abbrev cX6_worth : ByteArray := prog_8_method_63_code
def yX6_worth : MethodName := ⟨RX6, "worth", "(II)I"⟩
abbrev cX6_harmOf : ByteArray := prog_8_method_64_code
def yX6_harmOf : MethodName := ⟨RX6, "harmOf", "(II)I"⟩
abbrev cX6_harm : ByteArray := prog_8_method_65_code
def yX6_harm : MethodName := ⟨RX6, "harm", "(III)I"⟩
abbrev cX6_many : ByteArray := prog_8_method_66_code
def yX6_many : MethodName := ⟨RX6, "many", "(I)I"⟩
abbrev cX6_likely : ByteArray := prog_8_method_67_code
def yX6_likely : MethodName := ⟨RX6, "likely", "(I)I"⟩
abbrev cX6_isChance : ByteArray := prog_8_method_68_code
def yX6_isChance : MethodName := ⟨RX6, "isChance", "(II)Z"⟩
abbrev cX6_isSure : ByteArray := prog_8_method_69_code
def yX6_isSure : MethodName := ⟨RX6, "isSure", "(IIII)Z"⟩
abbrev cX6_fewest : ByteArray := prog_8_method_70_code
def yX6_fewest : MethodName := ⟨RX6, "fewest", "(III)I"⟩
abbrev cX6_cheapest : ByteArray := prog_8_method_71_code
def yX6_cheapest : MethodName := ⟨RX6, "cheapest", "(III)I"⟩
abbrev cX6_most : ByteArray := prog_8_method_72_code
def yX6_most : MethodName := ⟨RX6, "most", "(III)I"⟩
abbrev cX6_best : ByteArray := prog_8_method_73_code
def yX6_best : MethodName := ⟨RX6, "best", "()I"⟩
abbrev cX6_helps : ByteArray := prog_8_method_74_code
def yX6_helps : MethodName := ⟨RX6, "helps", "()I"⟩
abbrev cX6_hangsBy : ByteArray := prog_8_method_75_code
def yX6_hangsBy : MethodName := ⟨RX6, "hangsBy", "(I)I"⟩
abbrev cX6_hangs : ByteArray := prog_8_method_76_code
def yX6_hangs : MethodName := ⟨RX6, "hangs", "(I)I"⟩
abbrev cX6_asks : ByteArray := prog_8_method_77_code
def yX6_asks : MethodName := ⟨RX6, "asks", "(I)I"⟩
abbrev cX6_apart : ByteArray := prog_8_method_78_code
def yX6_apart : MethodName := ⟨RX6, "apart", "(II)I"⟩
abbrev cX6_tries : ByteArray := prog_8_method_79_code
def yX6_tries : MethodName := ⟨RX6, "tries", "(III)I"⟩
abbrev cX6_seed : ByteArray := prog_8_method_80_code
def yX6_seed : MethodName := ⟨RX6, "seed", "(I)I"⟩
abbrev cX6_hold : ByteArray := prog_8_method_81_code
def yX6_hold : MethodName := ⟨RX6, "hold", "(II)I"⟩
abbrev cX6_isUnder : ByteArray := prog_8_method_82_code
def yX6_isUnder : MethodName := ⟨RX6, "isUnder", "(II)Z"⟩
abbrev cX6_as : ByteArray := prog_8_method_83_code
def yX6_as : MethodName := ⟨RX6, "as", "(II)I"⟩
abbrev cX6_isSheet : ByteArray := prog_8_method_84_code
def yX6_isSheet : MethodName := ⟨RX6, "isSheet", "(I)Z"⟩
abbrev cX6_sheet : ByteArray := prog_8_method_85_code
def yX6_sheet : MethodName := ⟨RX6, "sheet", "(III)I"⟩
abbrev cX6_write : ByteArray := prog_8_method_86_code
def yX6_write : MethodName := ⟨RX6, "write", "(III)I"⟩
abbrev cX6_copy : ByteArray := prog_8_method_87_code
def yX6_copy : MethodName := ⟨RX6, "copy", "(IIIII)I"⟩
abbrev cX6_lacks : ByteArray := prog_8_method_88_code
def yX6_lacks : MethodName := ⟨RX6, "lacks", "(I)I"⟩
abbrev cX6_load : ByteArray := prog_8_method_89_code
def yX6_load : MethodName := ⟨RX6, "load", "(I)I"⟩
abbrev cX6_judge : ByteArray := prog_8_method_90_code
def yX6_judge : MethodName := ⟨RX6, "judge", "(I)I"⟩
abbrev cX6_image : ByteArray := prog_8_method_91_code
def yX6_image : MethodName := ⟨RX6, "image", "()I"⟩
abbrev cX6_undo : ByteArray := prog_8_method_92_code
def yX6_undo : MethodName := ⟨RX6, "undo", "()I"⟩
abbrev cX6_tear : ByteArray := prog_8_method_93_code
def yX6_tear : MethodName := ⟨RX6, "tear", "()I"⟩
abbrev cX6_count : ByteArray := prog_8_method_94_code
def yX6_count : MethodName := ⟨RX6, "count", "(I)I"⟩
abbrev cX6_status : ByteArray := prog_8_method_95_code
def yX6_status : MethodName := ⟨RX6, "status", "(I)I"⟩
def RJ6 : String := "java/lang/Integer"
abbrev cJ6_numberOfTrailingZeros_0f7a4 : ByteArray := prog_9_method_48_code
def yJ6_numberOfTrailingZeros_0f7a4 : MethodName := ⟨RJ6, "numberOfTrailingZeros", "(I)I"⟩
abbrev cJ6_bitCount_0f7a4 : ByteArray := prog_9_method_49_code
def yJ6_bitCount_0f7a4 : MethodName := ⟨RJ6, "bitCount", "(I)I"⟩
def RJ9 : String := "java/lang/Math"
abbrev cJ9_max_7cf53 : ByteArray := prog_10_method_65_code
def yJ9_max_7cf53 : MethodName := ⟨RJ9, "max", "(II)I"⟩
abbrev cJ9_min_7cf53 : ByteArray := prog_10_method_69_code
def yJ9_min_7cf53 : MethodName := ⟨RJ9, "min", "(II)I"⟩
def RJ0 : String := "java/lang/String"
abbrev cJ0_length_8abf5 : ByteArray := prog_11_method_54_code
def yJ0_length_8abf5 : MethodName := ⟨RJ0, "length", "()I"⟩
abbrev cJ0_charAt_5068e : ByteArray := prog_11_method_56_code
def yJ0_charAt_5068e : MethodName := ⟨RJ0, "charAt", "(I)C"⟩
abbrev cJ0_coder_7d493 : ByteArray := prog_11_method_152_code
def yJ0_coder_7d493 : MethodName := ⟨RJ0, "coder", "()B"⟩
abbrev cJ0_isLatin1_aae02 : ByteArray := prog_11_method_154_code
def yJ0_isLatin1_aae02 : MethodName := ⟨RJ0, "isLatin1", "()Z"⟩
abbrev cJ0_checkIndex_df160 : ByteArray := prog_11_method_155_code
def yJ0_checkIndex_df160 : MethodName := ⟨RJ0, "checkIndex", "(II)V"⟩
def RJ1 : String := "java/lang/StringLatin1"
abbrev cJ1_charAt_3b067 : ByteArray := prog_12_method_2_code
def yJ1_charAt_3b067 : MethodName := ⟨RJ1, "charAt", "([BI)C"⟩
def RJ2 : String := "java/lang/StringUTF16"
abbrev cJ2_getChar_3b067 : ByteArray := prog_13_method_5_code
def yJ2_getChar_3b067 : MethodName := ⟨RJ2, "getChar", "([BI)C"⟩
abbrev cJ2_length_9d52b : ByteArray := prog_13_method_6_code
def yJ2_length_9d52b : MethodName := ⟨RJ2, "length", "([B)I"⟩
abbrev cJ2_charAt_3b067 : ByteArray := prog_13_method_83_code
def yJ2_charAt_3b067 : MethodName := ⟨RJ2, "charAt", "([BI)C"⟩
abbrev cJ2_checkIndex_2214a : ByteArray := prog_13_method_91_code
def yJ2_checkIndex_2214a : MethodName := ⟨RJ2, "checkIndex", "(I[B)V"⟩
def RJ10 : String := "java/lang/System"
def RJ3 : String := "jdk/internal/util/Preconditions"
abbrev cJ3_checkIndex_8e157 : ByteArray := prog_15_method_11_code
def yJ3_checkIndex_8e157 : MethodName := ⟨RJ3, "checkIndex", "(IILjava/util/function/BiFunction;)I"⟩
def RL : String := "PromiseCoinsLaw"
abbrev cL_law : ByteArray := code
def yL_law : MethodName := ⟨RL, "law", "([I)Z"⟩
abbrev vwCl : List vw_C := [(RX0, TX0, 11), (RX1, TX1, 7), (RX2, TX2, 3), (RX3, TX3, 2), (RX4, TX4, 16), (RX5, TX5, 8), (RX6, TX6, 21)]
end
section
/-! ===== an abstract machine over the kit's rows: the world's cells have fixed numbers (in the order in which they are made), a method's run is said of numbers alone ===== -/
abbrev aMem : Type := (Nat → Nat → Int32) × (Nat → Nat → Int64) × (Nat → Nat → Option Nat)
abbrev aCfg : Type := Nat × List (Option Value) × List Value × Nat × aMem
abbrev aQ : Type := Nat × Nat × Nat × Int32
abbrev aI : Type := Instr × Nat × Nat × aQ
/-- a method: its name, bytes, number of locals, what it returns, a script (the law's alone) and up to which cell it makes new ones, its code -/
abbrev aM : Type := MethodName × ByteArray × Nat × Option FieldType × (Nat × (Nat → Int32) × Nat) × (Nat → Option aI)
def aRET : Nat := 99999
def gw : List Cond := lw_tbl.filter goodWord
theorem gw_in {w : Cond} (h : w ∈ lw_tbl) (g : goodWord w = true) : w ∈ gw := List.mem_filter.mpr ⟨h, g⟩
theorem gw_ok {w : Cond} (h : w ∈ gw) : (w.onTables && w.keeps) = true ∨ ∃ ty, w = .arrayClass ty := good_of_word (List.mem_filter.mp h).2
/-- classes: fields, types -/
def tbC (ci : Nat) : u_T := match ci with
  | 0 => TX0
  | 1 => TX1
  | 2 => TX2
  | 3 => TX3
  | 4 => TX4
  | 5 => TX5
  | _ => TX6
def tyC (ci : Nat) : Nat → FieldType := match ci with
  | 0 => tyX0
  | 1 => tyX1
  | 2 => tyX2
  | 3 => tyX3
  | 4 => tyX4
  | 5 => tyX5
  | _ => tyX6
def nfC (ci : Nat) : Nat := match ci with
  | 0 => 11
  | 1 => 7
  | 2 => 3
  | 3 => 2
  | 4 => 16
  | 5 => 8
  | _ => 21
def nmC (ci : Nat) : String := match ci with
  | 0 => RX0
  | 1 => RX1
  | 2 => RX2
  | 3 => RX3
  | 4 => RX4
  | 5 => RX5
  | _ => RX6
def isRf (ci k : Nat) : Bool := match tyC ci k with
  | .int => false
  | .boolean => false
  | _ => true
def isBl (ci k : Nat) : Bool := match tyC ci k with
  | .boolean => true
  | _ => false
/-- a kind of cell and its size: 0 an object of a class, 1 ints, 2 longs, 3 references -/
def ssz (q : Nat × Nat) : Nat := match q with
  | (0, ci) => nfC ci
  | (_, n) => n
def tyA (q : Nat × Nat) : Option FieldType := match q with
  | (1, _) => some .int
  | (2, _) => some .long
  | (3, _) => some (.object RX2)
  | _ => none
def cv (σ : Nat → Nat) : Value → Value
  | .ref a => .ref (σ a)
  | v => v
theorem cv_cat (σ : Nat → Nat) (v : Value) : (cv σ v).category = v.category := by cases v <;> rfl
theorem cv_rf (σ : Nat → Nat) (r : Option Nat) : cv σ (va_rf r) = va_rf (r.map σ) := by cases r <;> rfl
/-- locals -/
def kpL : Option Value → Option Value
  | some v => if v.category = 2 then none else some v
  | none => none
def puL : List (Option Value) → Nat → Value → List (Option Value)
  | [], _, _ => []
  | _ :: t, 0, v => some v :: t
  | a :: t, 1, v => kpL a :: puL t 0 v
  | a :: t, n + 2, v => a :: puL t (n + 1) v
def puL2 : List (Option Value) → Nat → Value → List (Option Value)
  | [], _, _ => []
  | [_], _, _ => []
  | _ :: _ :: t, 0, v => some v :: none :: t
  | a :: b :: t, 1, v => kpL a :: puL2 (b :: t) 0 v
  | a :: b :: t, n + 2, v => a :: puL2 (b :: t) (n + 1) v
def geL : List (Option Value) → Nat → Option Value
  | [], _ => none
  | a :: _, 0 => a
  | _ :: t, n + 1 => geL t n
def ascF (σ : Nat → Nat) : Nat → List (Option Value) → List (Nat × Value)
  | _, [] => []
  | i, none :: t => ascF σ (i + 1) t
  | i, some v :: t => (i, cv σ v) :: ascF σ (i + 1) t
def enL : List Value → List (Option Value)
  | [] => []
  | v :: t => match v with
    | .long x => some (.long x) :: none :: enL t
    | .double x => some (.double x) :: none :: enL t
    | w => some w :: enL t
def paL : Nat → List (Option Value) → List (Option Value)
  | 0, _ => []
  | n + 1, [] => none :: paL n []
  | n + 1, a :: t => a :: paL n t
/-- memory -/
def up2 {α : Type} (h : Nat → Nat → α) (a k : Nat) (x : α) : Nat → Nat → α := fun b j => if b = a then (if j = k then x else h b j) else h b j
def upR {α : Type} (h : Nat → Nat → α) (a : Nat) (f : Nat → α) : Nat → Nat → α := fun b => if b = a then f else h b
/-- int remainder as the machine reckons it -/
def jrem (x y : Int32) : Int32 := x - x / y * y
def jremL (x y : Int64) : Int64 := x - x / y * y
def jush (x y : Int32) : Int32 := (x.toUInt32 >>> (y.toUInt32 &&& Int32.toUInt32 31)).toInt32
def jchr (x : Int32) : Int32 := (x.toUInt32 % 65536).toInt32
end
section
/-! the shapes of the cells, in the order in which they are made: printed by wip/whole/mk02.py -/
-- 0 x
-- 1 now
-- 2 now.above
-- 3 now.below
-- 4 now.kind
-- 5 now.coin
-- 6 now.second
-- 7 now.thing
-- 8 now.number
-- 9 now.cost
-- 10 now.needThing
-- 11 now.needNumber
-- 12 now.needWorth
-- 13 now.spots
-- 14 saved
-- 15 saved.above
-- 16 saved.below
-- 17 saved.kind
-- 18 saved.coin
-- 19 saved.second
-- 20 saved.thing
-- 21 saved.number
-- 22 saved.cost
-- 23 saved.needThing
-- 24 saved.needNumber
-- 25 saved.needWorth
-- 26 saved.spots
-- 27 tape
-- 28 tape.bytes
-- 29 reader
-- 30 draft
-- 31 draft.above
-- 32 draft.below
-- 33 draft.kind
-- 34 draft.coin
-- 35 draft.second
-- 36 draft.thing
-- 37 draft.number
-- 38 draft.cost
-- 39 draft.needThing
-- 40 draft.needNumber
-- 41 draft.needWorth
-- 42 draft.spots
-- 43 odds
-- 44 odds.weights
-- 45 odds.keptSets
-- 46 odds.caseSets
-- 47 odds.caseWeights
-- 48 odds.together
-- 49 odds.gains
-- 50 odds.costs
-- 51 odds.brought
-- 52 odds.counts
-- 53 sheets
-- 54 sheet0
-- 55 sheet0.numbers
-- 56 sheet1
-- 57 sheet1.numbers
-- 58 sheet2
-- 59 sheet2.numbers
-- 60 sheet3
-- 61 sheet3.numbers
-- 62 findings
-- 63 m
-- 64 m.s
-- 65 m.kept
-- 66 m.put
-- 67 m.findings
-- 68 m.tape
-- 69 m.keeps
-- 70 m.weighs
-- 71 m.oftenBy
-- 72 m.bits
-- 73 m.sizes
-- 74 m.number
-- 75 m.carried
def shp (a : Nat) : Nat × Nat := (bif Nat.blt a 57 then (bif Nat.blt a 28 then (bif Nat.blt a 14 then (bif Nat.blt a 7 then (bif Nat.blt a 3 then (bif Nat.blt a 1 then (0, 5) else (bif Nat.blt a 2 then (0, 4) else (1, 8))) else (bif Nat.blt a 5 then (bif Nat.blt a 4 then (1, 8) else (1, 10)) else (bif Nat.blt a 6 then (1, 10) else (1, 10)))) else (bif Nat.blt a 10 then (bif Nat.blt a 8 then (1, 10) else (bif Nat.blt a 9 then (1, 10) else (1, 10))) else (bif Nat.blt a 12 then (bif Nat.blt a 11 then (1, 6) else (1, 6)) else (bif Nat.blt a 13 then (1, 6) else (1, 10))))) else (bif Nat.blt a 21 then (bif Nat.blt a 17 then (bif Nat.blt a 15 then (0, 4) else (bif Nat.blt a 16 then (1, 8) else (1, 8))) else (bif Nat.blt a 19 then (bif Nat.blt a 18 then (1, 10) else (1, 10)) else (bif Nat.blt a 20 then (1, 10) else (1, 10)))) else (bif Nat.blt a 24 then (bif Nat.blt a 22 then (1, 10) else (bif Nat.blt a 23 then (1, 10) else (1, 6))) else (bif Nat.blt a 26 then (bif Nat.blt a 25 then (1, 6) else (1, 6)) else (bif Nat.blt a 27 then (1, 10) else (0, 3)))))) else (bif Nat.blt a 42 then (bif Nat.blt a 35 then (bif Nat.blt a 31 then (bif Nat.blt a 29 then (1, 120) else (bif Nat.blt a 30 then (0, 1) else (0, 4))) else (bif Nat.blt a 33 then (bif Nat.blt a 32 then (1, 8) else (1, 8)) else (bif Nat.blt a 34 then (1, 10) else (1, 10)))) else (bif Nat.blt a 38 then (bif Nat.blt a 36 then (1, 10) else (bif Nat.blt a 37 then (1, 10) else (1, 10))) else (bif Nat.blt a 40 then (bif Nat.blt a 39 then (1, 10) else (1, 6)) else (bif Nat.blt a 41 then (1, 6) else (1, 6))))) else (bif Nat.blt a 49 then (bif Nat.blt a 45 then (bif Nat.blt a 43 then (1, 10) else (bif Nat.blt a 44 then (0, 0) else (1, 256))) else (bif Nat.blt a 47 then (bif Nat.blt a 46 then (1, 256) else (1, 256)) else (bif Nat.blt a 48 then (1, 256) else (2, 1024)))) else (bif Nat.blt a 53 then (bif Nat.blt a 51 then (bif Nat.blt a 50 then (2, 1024) else (2, 1024)) else (bif Nat.blt a 52 then (1, 1024) else (1, 11))) else (bif Nat.blt a 55 then (bif Nat.blt a 54 then (3, 4) else (0, 2)) else (bif Nat.blt a 56 then (1, 40) else (0, 2))))))) else (bif Nat.blt a 109 then (bif Nat.blt a 71 then (bif Nat.blt a 64 then (bif Nat.blt a 60 then (bif Nat.blt a 58 then (1, 40) else (bif Nat.blt a 59 then (0, 2) else (1, 40))) else (bif Nat.blt a 62 then (bif Nat.blt a 61 then (0, 2) else (1, 40)) else (bif Nat.blt a 63 then (1, 7) else (0, 6)))) else (bif Nat.blt a 67 then (bif Nat.blt a 65 then (1, 108) else (bif Nat.blt a 66 then (1, 108) else (1, 108))) else (bif Nat.blt a 69 then (bif Nat.blt a 68 then (1, 7) else (1, 120)) else (bif Nat.blt a 70 then (1, 256) else (1, 256))))) else (bif Nat.blt a 101 then (bif Nat.blt a 74 then (bif Nat.blt a 72 then (1, 11) else (bif Nat.blt a 73 then (1, 4) else (1, 4))) else (bif Nat.blt a 76 then (bif Nat.blt a 75 then (1, 160) else (1, 40)) else (bif Nat.blt a 100 then (9, 0) else (4, 0)))) else (bif Nat.blt a 105 then (bif Nat.blt a 103 then (bif Nat.blt a 102 then (4, 0) else (4, 0)) else (bif Nat.blt a 104 then (4, 0) else (4, 0))) else (bif Nat.blt a 107 then (bif Nat.blt a 106 then (4, 0) else (4, 0)) else (bif Nat.blt a 108 then (4, 0) else (4, 0)))))) else (bif Nat.blt a 208 then (bif Nat.blt a 201 then (bif Nat.blt a 112 then (bif Nat.blt a 110 then (4, 0) else (bif Nat.blt a 111 then (4, 0) else (4, 0))) else (bif Nat.blt a 114 then (bif Nat.blt a 113 then (4, 0) else (4, 0)) else (bif Nat.blt a 200 then (9, 0) else (5, 7)))) else (bif Nat.blt a 204 then (bif Nat.blt a 202 then (5, 5) else (bif Nat.blt a 203 then (5, 6) else (5, 4))) else (bif Nat.blt a 206 then (bif Nat.blt a 205 then (5, 5) else (5, 6)) else (bif Nat.blt a 207 then (5, 7) else (5, 4))))) else (bif Nat.blt a 300 then (bif Nat.blt a 211 then (bif Nat.blt a 209 then (5, 4) else (bif Nat.blt a 210 then (5, 2) else (5, 4))) else (bif Nat.blt a 213 then (bif Nat.blt a 212 then (5, 6) else (5, 4)) else (bif Nat.blt a 214 then (5, 5) else (9, 0)))) else (bif Nat.blt a 304 then (bif Nat.blt a 302 then (bif Nat.blt a 301 then (6, 7) else (6, 6)) else (bif Nat.blt a 303 then (6, 6) else (6, 3))) else (bif Nat.blt a 400 then (bif Nat.blt a 305 then (6, 3) else (9, 0)) else (bif Nat.blt a 401 then (7, 0) else (9, 0))))))))
def nW : Nat := 76
/-- the class's constant rows -/
def sarL (a : Nat) : List Int32 := match a with
  | 300 => [(-1 : Int32), (0 : Int32), (0 : Int32), (1 : Int32), (0 : Int32), (2 : Int32), (3 : Int32)]
  | 301 => [(0 : Int32), (0 : Int32), (0 : Int32), (0 : Int32), (1 : Int32), (0 : Int32)]
  | 302 => [(6 : Int32), (7 : Int32), (7 : Int32), (5 : Int32), (9 : Int32), (49 : Int32)]
  | 303 => [(0 : Int32), (1 : Int32), (1 : Int32)]
  | _ => [(5 : Int32), (40 : Int32), (99 : Int32)]
def sar (a j : Nat) : Int32 := (sarL a).getD j 0
def sarN (a : Nat) : String := match a with
  | 300 => "ABOVE"
  | 301 => "PART_LEAST"
  | 302 => "PART_MOST"
  | 303 => "NEED_LEAST"
  | _ => "NEED_MOST"
/-- the constant texts -/
def strN : Nat := 14
def strT : List String := ["promise", "iffed", "either", "back", "freed", "tailed", "chained", "coin", "need", "in", "with", "brings", "cost", "worth"]
def strLen : List Nat := [7, 5, 6, 4, 5, 6, 7, 4, 4, 2, 4, 6, 4, 5]
def strByt : List (List Int32) := [[(112 : Int32), (114 : Int32), (111 : Int32), (109 : Int32), (105 : Int32), (115 : Int32), (101 : Int32)], [(105 : Int32), (102 : Int32), (102 : Int32), (101 : Int32), (100 : Int32)], [(101 : Int32), (105 : Int32), (116 : Int32), (104 : Int32), (101 : Int32), (114 : Int32)], [(98 : Int32), (97 : Int32), (99 : Int32), (107 : Int32)], [(102 : Int32), (114 : Int32), (101 : Int32), (101 : Int32), (100 : Int32)], [(116 : Int32), (97 : Int32), (105 : Int32), (108 : Int32), (101 : Int32), (100 : Int32)], [(99 : Int32), (104 : Int32), (97 : Int32), (105 : Int32), (110 : Int32), (101 : Int32), (100 : Int32)], [(99 : Int32), (111 : Int32), (105 : Int32), (110 : Int32)], [(110 : Int32), (101 : Int32), (101 : Int32), (100 : Int32)], [(105 : Int32), (110 : Int32)], [(119 : Int32), (105 : Int32), (116 : Int32), (104 : Int32)], [(98 : Int32), (114 : Int32), (105 : Int32), (110 : Int32), (103 : Int32), (115 : Int32)], [(99 : Int32), (111 : Int32), (115 : Int32), (116 : Int32)], [(119 : Int32), (111 : Int32), (114 : Int32), (116 : Int32), (104 : Int32)]]
def szp : Nat → Nat
  | 0 => 0
  | n + 1 => szp n + ssz (shp n)
theorem shp_big {a : Nat} (h : 401 ≤ a) : shp a = (9, 0) := by
  have hb : ∀ k, k ≤ 401 → Nat.blt a k = false := fun k hk => by
    rw [← Bool.not_eq_true, Nat.blt_eq]; omega
  unfold shp
  rw [hb 57 (by decide), cond_false, hb 109 (by decide), cond_false, hb 208 (by decide), cond_false, hb 300 (by decide), cond_false, hb 304 (by decide), cond_false, hb 400 (by decide), cond_false, hb 401 (by decide), cond_false]
theorem shp_obj : ∀ a, a < nW → (shp a).1 < 4 ∧ ((shp a).1 = 0 → (shp a).2 < 7) := by decide +kernel
theorem szp_nW : szp nW = 7025 := by decide +kernel
end
section
/-! ===== the world of cells, what the machine holds beside it, the judgement ===== -/
/-- one cell as the kit says it -/
def ce (σ τ : Nat → Nat) (M : aMem) (a : Nat) : va_E :=
  match shp a with
  | (0, ci) => .inr (ci, (List.range (nfC ci)).map fun k => if isRf ci k = true then va_rf ((M.2.2 a k).map σ) else .int (M.1 a k))
  | (1, n) => .inl (τ a, n, .inl (M.1 a))
  | (2, n) => .inl (τ a, n, .inr (.inl (M.2.1 a)))
  | (_, n) => .inl (τ a, n, .inr (.inr (.inr (.inr fun j => (M.2.2 a j).map σ))))
def wd (σ τ : Nat → Nat) (n : Nat) (M : aMem) : va_W := (List.range n).map fun a => (σ a, ce σ τ M a)
theorem wd_at {σ τ : Nat → Nat} {n : Nat} {M : aMem} {a : Nat} (h : a < n) : (wd σ τ n M)[a]? = some (σ a, ce σ τ M a) := by
  simp [wd, h]
theorem wd_out {σ τ : Nat → Nat} {n : Nat} {M : aMem} {a : Nat} (h : n ≤ a) : (wd σ τ n M)[a]? = none := by
  simp [wd, h]
theorem wd_set {σ τ : Nat → Nat} {n : Nat} {M M' : aMem} {a : Nat} {e : va_E} (h : a < n) (he : ce σ τ M' a = e) (ho : ∀ b, b ≠ a → ce σ τ M' b = ce σ τ M b) : (wd σ τ n M).set a (σ a, e) = wd σ τ n M' := by
  apply List.ext_getElem?
  intro b
  rw [List.getElem?_set]
  by_cases hb : b < n
  · rw [wd_at hb]
    by_cases hab : a = b
    · subst hab
      simp [wd, h, he]
    · rw [if_neg hab, wd_at hb, ho b (fun q => hab q.symm)]
  · rw [wd_out (Nat.le_of_not_lt hb)]
    by_cases hab : a = b
    · exact absurd (hab ▸ h) hb
    · rw [if_neg hab, wd_out (Nat.le_of_not_lt hb)]
theorem wd_congr {σ τ σ' τ' : Nat → Nat} {n : Nat} {M M' : aMem} (h : ∀ a, a < n → σ a = σ' a ∧ ce σ τ M a = ce σ' τ' M' a) : wd σ τ n M = wd σ' τ' n M' := by
  apply List.ext_getElem?
  intro b
  by_cases hb : b < n
  · rw [wd_at hb, wd_at hb, (h b hb).1, (h b hb).2]
  · rw [wd_out (Nat.le_of_not_lt hb), wd_out (Nat.le_of_not_lt hb)]
theorem wd_succ {σ τ : Nat → Nat} {n : Nat} {M : aMem} : wd σ τ (n + 1) M = wd σ τ n M ++ [(σ n, ce σ τ M n)] := by
  simp [wd, List.range_succ]
/-- links to private members of a nest mate, links to constant texts -/
def nestw : List Cond := [.fieldLinkNest RX1 158 RX5 "NEED_LEAST" "[I" RX5, .fieldLinkNest RX1 161 RX5 "NEED_MOST" "[I" RX5, .fieldLinkNest RX1 143 RX5 "PART_LEAST" "[I" RX5, .fieldLinkNest RX1 146 RX5 "PART_MOST" "[I" RX5, .methodLinkNest RX4 72 yX5_has RX5, .methodLinkNest RX2 31 yX5_isBetween RX5, .methodLinkNest RX2 35 yX5_isThrow RX5]
def srefs : List (String × Nat × Nat) := [(RX1, 85, 0), (RX1, 87, 1), (RX1, 89, 2), (RX1, 91, 3), (RX1, 93, 4), (RX1, 95, 5), (RX1, 97, 6), (RX1, 99, 7), (RX1, 104, 8), (RX1, 122, 9), (RX1, 139, 10), (RX1, 141, 11), (RX1, 149, 12), (RX1, 164, 13),
  (RX6, 124, 0), (RX6, 126, 1), (RX6, 128, 2), (RX6, 130, 3), (RX6, 132, 4), (RX6, 134, 5), (RX6, 136, 6), (RX6, 113, 7), (RX6, 119, 8), (RX6, 101, 9), (RX6, 105, 10), (RX6, 107, 11), (RX6, 109, 12), (RX6, 111, 13)]
/-- what stands outside of the world: constant rows, constant texts, their links -/
def aX (σ : Nat → Nat) (A : Nat → Prop) (U : State) (H : Heap) : Prop :=
  (∀ a, 300 ≤ a → a ≤ 304 → va_Z RX5 (sarN a) "[I" (.ref (σ a)) A U H ∧ va_T .int (σ a) (sarL a).length (fun j => .int (sar a j)) A U H) ∧
  vk_S strN strLen strByt (fun i => σ (100 + i)) (fun i => σ (200 + i)) A U H ∧
  (∀ q ∈ srefs, vk_R q.1 q.2.1 (strT.getD q.2.2 "") (σ (100 + q.2.2)) U) ∧
  (∀ w ∈ nestw, va_Nw w U) ∧ va_Z "java/lang/String" "COMPACT_STRINGS" "Z" (.int 1) A U H ∧ va_AO RX2 U ∧
  (va_Z "jdk/internal/util/Preconditions" "SIOOBE_FORMATTER" "Ljava/util/function/BiFunction;" .null A U H ∨ va_Z "jdk/internal/util/Preconditions" "SIOOBE_FORMATTER" "Ljava/util/function/BiFunction;" (.ref (σ 500)) A U H)
theorem aX.warm {σ : Nat → Nat} {A : Nat → Prop} {s U : State} {H : Heap} (hW : s.WarmedH U.vm) (h : aX σ A s H) : aX σ A U H := by
  obtain ⟨h1, h2, h3, h4, h5, h6, h7⟩ := h
  refine ⟨fun a g1 g2 => ⟨(h1 a g1 g2).1.moved hW.alike, (h1 a g1 g2).2.moved hW.alike⟩, h2.moved hW.alike, fun q hq => (h3 q hq).warm hW, fun w hw => ?_, h5.moved hW.alike, h6.moved hW.alike, h7.imp (fun z => z.moved hW.alike) (fun z => z.moved hW.alike)⟩
  have g := h4 w hw
  simp only [nestw, List.mem_cons, List.not_mem_nil, or_false] at hw
  rcases hw with rfl | rfl | rfl | rfl | rfl | rfl | rfl
  all_goals first | exact va_Nw.warmF hW g | exact va_Nw.warmM hW g
theorem aX.same {σ : Nat → Nat} {A : Nat → Prop} {s U : State} {H : Heap} (hv : U.vm = s.vm) (h : aX σ A s H) : aX σ A U H := by
  obtain ⟨h1, h2, h3, h4, h5, h6, h7⟩ := h
  have ha : s.vm.Alike U.vm := by rw [hv]; exact Vm.Alike.refl s.vm
  refine ⟨fun a g1 g2 => ⟨(h1 a g1 g2).1.moved ha, (h1 a g1 g2).2.moved ha⟩, h2.moved ha, fun q hq => (h3 q hq).same hv, fun w hw => ?_, h5.moved ha, h6.moved ha, h7.imp (fun z => z.moved ha) (fun z => z.moved ha)⟩
  have g := h4 w hw
  simp only [nestw, List.mem_cons, List.not_mem_nil, or_false] at hw
  rcases hw with rfl | rfl | rfl | rfl | rfl | rfl | rfl
  all_goals exact va_Nw.same rfl hv.symm g
theorem aX.kept {σ : Nat → Nat} {A : Nat → Prop} {U : State} {H H1 : Heap} (h : aX σ A U H) (hq : ∀ a : Nat, a < H.size → ¬ A a → H1[a]? = H[a]?) : aX σ A U H1 := by
  obtain ⟨h1, h2, h3, h4, h5, h6, h7⟩ := h
  exact ⟨fun a g1 g2 => ⟨(h1 a g1 g2).1.kept hq, (h1 a g1 g2).2.kept hq⟩, h2.kept hq, h3, h4, h5.kept hq, h6, h7.imp (fun z => z.kept hq) (fun z => z.kept hq)⟩
theorem aX.narrow {σ : Nat → Nat} {A B : Nat → Prop} {U : State} {H : Heap} (h : aX σ A U H) (hAB : ∀ q, B q → A q) : aX σ B U H := by
  obtain ⟨h1, h2, h3, h4, h5, h6, h7⟩ := h
  exact ⟨fun a g1 g2 => ⟨(h1 a g1 g2).1.narrow hAB, (h1 a g1 g2).2.narrow hAB⟩, h2.narrow hAB, h3, h4, h5.narrow hAB, h6, h7.imp (fun z => z.narrow hAB) (fun z => z.narrow hAB)⟩
theorem aX.swap {σ σ' : Nat → Nat} {A : Nat → Prop} {U : State} {H : Heap} (h : aX σ A U H) (he : ∀ a, 100 ≤ a → σ' a = σ a) : aX σ' A U H := by
  obtain ⟨h1, h2, h3, h4, h5, h6, h7⟩ := h
  refine ⟨fun a g1 g2 => ?_, ?_, fun q hq => ?_, h4, h5, h6, by rw [he 500 (by omega)]; exact h7⟩
  · rw [he a (by omega)]; exact h1 a g1 g2
  · have e1 : (fun i => σ' (100 + i)) = fun i => σ (100 + i) := funext fun i => he _ (by omega)
    have e2 : (fun i => σ' (200 + i)) = fun i => σ (200 + i) := funext fun i => he _ (by omega)
    rw [e1, e2]; exact h2
  · rw [he _ (by omega)]; exact h3 q hq
/-- the addresses: those of the start stay -/
def aOk (σ0 : Nat → Nat) (n0 : Nat) (σ : Nat → Nat) : Prop := ∀ a, a < n0 ∨ 100 ≤ a → σ a = σ0 a
def aTy (τ : Nat → Nat) (n : Nat) (U : State) : Prop := ∀ a, a < n → ∀ ty, tyA (shp a) = some ty → ArrOfT U (τ a) ty ∧ va_RA U (τ a) ty
theorem aTy.moved {τ : Nat → Nat} {n : Nat} {u U : State} (hvm : u.vm.Alike U.vm) (h : aTy τ n u) : aTy τ n U := fun a ha ty ht => ⟨arrOfT_moved hvm (h a ha ty ht).1, (h a ha ty ht).2.moved hvm⟩
/-- references of the world's cells stay within it -/
def aRL (n : Nat) (M : aMem) : Prop := ∀ a, a < n → ∀ k x, M.2.2 a k = some x → x < n
/-- the facts at a point of a walk -/
def aFa (A : Nat → Prop) (D : va_G) (σ0 : Nat → Nat) (n0 nz : Nat) (s : State) (σ τ : Nat → Nat) (n : Nat) (M : aMem) (H : Heap) (locs : List Loc) : Prop :=
  aOk σ0 n0 σ ∧ (n0 ≤ n ∧ (n ≤ nW ∧ (n = n0 ∨ n ≤ nz)) ∧ aRL n M) ∧ aTy τ n s ∧ va_P D vwCl (wd σ τ n M) H ∧ va_D A (wd σ τ n M) ∧ va_S A s.heap H locs
/-- the room of a method: its depth, what it makes -/
def rmL (lv n0 n1 : Nat) : Room := { frames := lv, cells := n1 - n0, slots := szp n1 - szp n0, locals := 40 * lv }
/-- links of a constant pool's entry -/
def lkW (own : String) (idx : Nat) : aQ → Prop
  | (1, ci, k, _) => ci < 7 ∧ k < nfC ci ∧ Cond.fieldLink own idx (tbC ci k).1 (tbC ci k).2.1 (tbC ci k).2.2.1 ∈ gw
  | (2, _, _, v) => Cond.constant own idx v ∈ gw
  | (3, _, _, v) => Cond.constantLong own idx v.toInt64 ∈ gw
  | (4, ci, _, _) => ci < 7 ∧ Cond.classLink own idx (nmC ci) ∈ gw
  | (5, a, _, _) => (300 ≤ a ∧ a ≤ 304) ∧ Cond.fieldLink own idx RX5 (sarN a) "[I" ∈ gw
  | (6, a, _, _) => (300 ≤ a ∧ a ≤ 304) ∧ Cond.fieldLinkNest own idx RX5 (sarN a) "[I" RX5 ∈ nestw
  | (7, i, _, _) => i < strN ∧ (own, idx, i) ∈ srefs
  | (8, _, _, _) => Cond.fieldLink own idx "java/lang/String" "value" "[B" ∈ gw
  | (9, _, _, _) => Cond.fieldLink own idx "java/lang/String" "coder" "B" ∈ gw
  | (10, _, _, _) => Cond.fieldLink own idx "java/lang/String" "COMPACT_STRINGS" "Z" ∈ gw
  | (11, _, _, _) => Cond.classLink own idx RX2 ∈ gw
  | (12, _, _, _) => Cond.methodLink own idx arraycopyName ∈ gw
  | (13, _, _, _) => Cond.methodLink own idx objectInit ∈ gw
  | (14, _, _, _) => Cond.fieldLink own idx "jdk/internal/util/Preconditions" "SIOOBE_FORMATTER" "Ljava/util/function/BiFunction;" ∈ gw
  | _ => True
/-- an instruction's entry in a code table is right -/
def okI (y : MethodName) (maxL pc : Nat) (e : aI) : Prop := match e with
  | (i, nx, tg, q) => match i with
    | .iconst v => Int32.ofInt v = q.2.2.2
    | .bipush v => (Int8.ofInt v).toInt32 = q.2.2.2
    | .sipush v => (Int16.ofInt v).toInt32 = q.2.2.2
    | .lconst v => (v : Nat) = q.2.1
    | .iload k => k = q.2.1
    | .aload k => k = q.2.1
    | .lload k => k = q.2.1
    | .iload_n k => (k : Nat) = q.2.1
    | .aload_n k => (k : Nat) = q.2.1
    | .lload_n k => (k : Nat) = q.2.1
    | .istore k => k = q.2.1 ∧ q.2.1 < maxL
    | .astore k => k = q.2.1 ∧ q.2.1 < maxL
    | .lstore k => k = q.2.1 ∧ q.2.1 + 1 < maxL
    | .istore_n k => (k : Nat) = q.2.1 ∧ q.2.1 < maxL
    | .astore_n k => (k : Nat) = q.2.1 ∧ q.2.1 < maxL
    | .lstore_n k => (k : Nat) = q.2.1 ∧ q.2.1 + 1 < maxL
    | .iinc k v => k = q.2.1 ∧ q.2.1 < maxL ∧ Int32.ofInt v = q.2.2.2
    | .tableswitch d lo hi offs => (lo = (Int32.ofInt lo).toInt ∧ hi = lo + offs.toList.length - 1 ∧ hi < 2147483647) ∧ ∀ o ∈ d :: offs.toList, 0 ≤ (pc : Int) + o ∧ (pc : Int) + o < 99999
    | .goto off => (pc : Int) + off = (tg : Int)
    | .ifCond _ off => (pc : Int) + off = (tg : Int)
    | .if_icmp _ off => (pc : Int) + off = (tg : Int)
    | .ldc idx => lkW y.cls idx q
    | .ldc_w idx => lkW y.cls idx q
    | .ldc2_w idx => lkW y.cls idx q
    | .getfield idx => lkW y.cls idx q
    | .putfield idx => lkW y.cls idx q
    | .getstatic idx => lkW y.cls idx q
    | .new idx => lkW y.cls idx q
    | .anewarray idx => lkW y.cls idx q
    | .invokestatic idx => lkW y.cls idx q
    | .invokespecial idx => lkW y.cls idx q
    | _ => True
/-- how long an instruction is (0: not said) -/
def lenI : Instr → Nat
  | .bipush _ | .iload _ | .aload _ | .lload _ | .istore _ | .astore _ | .lstore _ | .ldc _ | .newarray _ => 2
  | .sipush _ | .iinc _ _ | .goto _ | .ifCond _ _ | .if_icmp _ _ | .ldc_w _ | .ldc2_w _ | .getfield _ | .putfield _ | .getstatic _ | .new _ | .anewarray _ | .invokestatic _ | .invokespecial _ | .invokevirtual _ => 3
  | .tableswitch _ _ _ _ => 0
  | _ => 1
/-- a method's code table is right: its entries are what its bytes decode to -/
def okE (y : MethodName) (cc : ByteArray) (maxL pc : Nat) (e : aI) : Prop := decode cc pc = .ok (e.1, e.2.1 - pc) ∧ (lenI e.1 = 0 ∨ e.2.1 = pc + lenI e.1) ∧ (pc < 99999 ∧ e.2.1 < 99999 ∧ e.2.2.1 < 99999) ∧ okI y maxL pc e
def OkM (mt : aM) : Prop := ∀ pc en, mt.2.2.2.2.2 pc = some en → okE mt.1 mt.2.1 mt.2.2.1 pc en
end
section
/-! ===== one instruction ===== -/
/-- the two ways of a condition -/
def br2 (P : Prop) (a b : Prop) : Prop := (P → a) ∧ (¬ P → b)
def cmpP : ClassFile.Cond → Int32 → Int32 → Prop
  | .eq, x, y => x = y
  | .ne, x, y => x ≠ y
  | .lt, x, y => x < y
  | .ge, x, y => y ≤ x
  | .gt, x, y => y < x
  | .le, x, y => x ≤ y
def swK (x : Int32) (pc : Nat) (kd : Prop) (K : Nat → Prop) : List Int → Int32 → Prop
  | [], _ => kd
  | o :: t, v => br2 (x = v) (K ((pc : Int) + o).toNat) (swK x pc kd K t (v + 1))
def rowZ {α : Type} (h : Nat → Nat → α) (n : Nat) (z : α) : Nat → Nat → α := upR h n (fun _ => z)
/-- a cell's number stands nowhere among the locals and on the stack -/
def nrV (n : Nat) : Value → Bool
  | .ref x => !(Nat.beq x n)
  | _ => true
def nrL (n : Nat) : List (Option Value) → Bool
  | [] => true
  | none :: t => nrL n t
  | some v :: t => nrV n v && nrL n t
def nrS (n : Nat) (ls : List (Option Value)) (st : List Value) : Bool := nrL n ls && st.all (nrV n)
/-- what holds if behind one instruction K holds -/
def sI (mt : aM) (e : aI) (pc : Nat) (ls : List (Option Value)) (st : List Value) (n : Nat) (M : aMem) (K : aCfg → Prop) : Prop :=
  match e with
  | (i, nx, tg, q) => match i with
    | .iconst _ => K (nx, ls, .int q.2.2.2 :: st, n, M)
    | .bipush _ => K (nx, ls, .int q.2.2.2 :: st, n, M)
    | .sipush _ => K (nx, ls, .int q.2.2.2 :: st, n, M)
    | .lconst _ => match q.2.1 with
      | 0 => K (nx, ls, .long 0 :: st, n, M)
      | _ => K (nx, ls, .long 1 :: st, n, M)
    | .ldc _ => match q.1 with
      | 2 => K (nx, ls, .int q.2.2.2 :: st, n, M)
      | 7 => K (nx, ls, .ref (100 + q.2.1) :: st, n, M)
      | _ => False
    | .ldc_w _ => match q.1 with
      | 2 => K (nx, ls, .int q.2.2.2 :: st, n, M)
      | _ => False
    | .ldc2_w _ => match q.1 with
      | 3 => K (nx, ls, .long q.2.2.2.toInt64 :: st, n, M)
      | _ => False
    | .iload _ => match geL ls q.2.1 with
      | some (.int x) => K (nx, ls, .int x :: st, n, M)
      | _ => False
    | .iload_n _ => match geL ls q.2.1 with
      | some (.int x) => K (nx, ls, .int x :: st, n, M)
      | _ => False
    | .aload _ => match geL ls q.2.1 with
      | some (.ref x) => K (nx, ls, .ref x :: st, n, M)
      | _ => False
    | .aload_n _ => match geL ls q.2.1 with
      | some (.ref x) => K (nx, ls, .ref x :: st, n, M)
      | _ => False
    | .lload _ => match geL ls q.2.1 with
      | some (.long x) => K (nx, ls, .long x :: st, n, M)
      | _ => False
    | .lload_n _ => match geL ls q.2.1 with
      | some (.long x) => K (nx, ls, .long x :: st, n, M)
      | _ => False
    | .istore _ => match st with
      | .int x :: st => K (nx, puL ls q.2.1 (.int x), st, n, M)
      | _ => False
    | .istore_n _ => match st with
      | .int x :: st => K (nx, puL ls q.2.1 (.int x), st, n, M)
      | _ => False
    | .astore _ => match st with
      | .ref x :: st => K (nx, puL ls q.2.1 (.ref x), st, n, M)
      | _ => False
    | .astore_n _ => match st with
      | .ref x :: st => K (nx, puL ls q.2.1 (.ref x), st, n, M)
      | _ => False
    | .lstore _ => match st with
      | .long x :: st => K (nx, puL2 ls q.2.1 (.long x), st, n, M)
      | _ => False
    | .lstore_n _ => match st with
      | .long x :: st => K (nx, puL2 ls q.2.1 (.long x), st, n, M)
      | _ => False
    | .iinc _ _ => match geL ls q.2.1 with
      | some (.int x) => K (nx, puL ls q.2.1 (.int (x + q.2.2.2)), st, n, M)
      | _ => False
    | .iadd => match st with
      | .int y :: .int x :: st => K (nx, ls, .int (x + y) :: st, n, M)
      | _ => False
    | .isub => match st with
      | .int y :: .int x :: st => K (nx, ls, .int (x - y) :: st, n, M)
      | _ => False
    | .imul => match st with
      | .int y :: .int x :: st => K (nx, ls, .int (x * y) :: st, n, M)
      | _ => False
    | .iand => match st with
      | .int y :: .int x :: st => K (nx, ls, .int (x &&& y) :: st, n, M)
      | _ => False
    | .ior => match st with
      | .int y :: .int x :: st => K (nx, ls, .int (x ||| y) :: st, n, M)
      | _ => False
    | .ixor => match st with
      | .int y :: .int x :: st => K (nx, ls, .int (x ^^^ y) :: st, n, M)
      | _ => False
    | .ishl => match st with
      | .int y :: .int x :: st => K (nx, ls, .int (x <<< (y &&& 31)) :: st, n, M)
      | _ => False
    | .ishr => match st with
      | .int y :: .int x :: st => K (nx, ls, .int (x >>> (y &&& 31)) :: st, n, M)
      | _ => False
    | .iushr => match st with
      | .int y :: .int x :: st => K (nx, ls, .int (jush x y) :: st, n, M)
      | _ => False
    | .idiv => match st with
      | .int y :: .int x :: st => y ≠ 0 ∧ K (nx, ls, .int (x / y) :: st, n, M)
      | _ => False
    | .irem => match st with
      | .int y :: .int x :: st => y ≠ 0 ∧ K (nx, ls, .int (jrem x y) :: st, n, M)
      | _ => False
    | .ladd => match st with
      | .long y :: .long x :: st => K (nx, ls, .long (x + y) :: st, n, M)
      | _ => False
    | .lsub => match st with
      | .long y :: .long x :: st => K (nx, ls, .long (x - y) :: st, n, M)
      | _ => False
    | .lmul => match st with
      | .long y :: .long x :: st => K (nx, ls, .long (x * y) :: st, n, M)
      | _ => False
    | .ldiv => match st with
      | .long y :: .long x :: st => y ≠ 0 ∧ K (nx, ls, .long (x / y) :: st, n, M)
      | _ => False
    | .lrem => match st with
      | .long y :: .long x :: st => y ≠ 0 ∧ K (nx, ls, .long (jremL x y) :: st, n, M)
      | _ => False
    | .lcmp => match st with
      | .long y :: .long x :: st => K (nx, ls, .int (lg_cmp x y) :: st, n, M)
      | _ => False
    | .i2l => match st with
      | .int x :: st => K (nx, ls, .long x.toInt64 :: st, n, M)
      | _ => False
    | .l2i => match st with
      | .long x :: st => K (nx, ls, .int x.toInt32 :: st, n, M)
      | _ => False
    | .i2b => match st with
      | .int x :: st => K (nx, ls, .int x.toInt8.toInt32 :: st, n, M)
      | _ => False
    | .i2s => match st with
      | .int x :: st => K (nx, ls, .int x.toInt16.toInt32 :: st, n, M)
      | _ => False
    | .i2c => match st with
      | .int x :: st => K (nx, ls, .int (jchr x) :: st, n, M)
      | _ => False
    | .dup => match st with
      | .int x :: st => K (nx, ls, .int x :: .int x :: st, n, M)
      | .ref x :: st => K (nx, ls, .ref x :: .ref x :: st, n, M)
      | _ => False
    | .dup2 => match st with
      | .int y :: .ref x :: st => K (nx, ls, .int y :: .ref x :: .int y :: .ref x :: st, n, M)
      | .int y :: .int x :: st => K (nx, ls, .int y :: .int x :: .int y :: .int x :: st, n, M)
      | _ => False
    | .pop => match st with
      | .int _ :: st => K (nx, ls, st, n, M)
      | .ref _ :: st => K (nx, ls, st, n, M)
      | _ => False
    | .goto _ => K (tg, ls, st, n, M)
    | .ifCond c _ => match st with
      | .int x :: st => br2 (cmpP c x 0) (K (tg, ls, st, n, M)) (K (nx, ls, st, n, M))
      | _ => False
    | .if_icmp c _ => match st with
      | .int y :: .int x :: st => br2 (cmpP c x y) (K (tg, ls, st, n, M)) (K (nx, ls, st, n, M))
      | _ => False
    | .tableswitch d lo _ offs => match st with
      | .int x :: st => swK x pc (K (((pc : Int) + d).toNat, ls, st, n, M)) (fun t => K (t, ls, st, n, M)) offs.toList (Int32.ofInt lo)
      | _ => False
    | .getfield _ => match st with
      | .ref o :: st => match q.1 with
        | 1 => match shp o with
          | (0, ci) => match Nat.beq ci q.2.1 && Nat.blt o n with
            | true => match isRf ci q.2.2.1 with
              | true => K (nx, ls, va_rf (M.2.2 o q.2.2.1) :: st, n, M)
              | false => K (nx, ls, .int (M.1 o q.2.2.1) :: st, n, M)
            | false => False
          | _ => False
        | 8 => match shp o with
          | (4, _) => K (nx, ls, .ref (o + 100) :: st, n, M)
          | _ => False
        | 9 => match shp o with
          | (4, _) => K (nx, ls, .int 0 :: st, n, M)
          | _ => False
        | _ => False
      | _ => False
    | .putfield _ => match st with
      | .int x :: .ref o :: st => match q.1 with
        | 1 => match shp o with
          | (0, ci) => match Nat.beq ci q.2.1 && Nat.blt o n && !(isRf ci q.2.2.1) && !(tbC ci q.2.2.1).2.2.2 with
            | true => (isBl ci q.2.2.1 = true → x = 0 ∨ x = 1) ∧ K (nx, ls, st, n, (up2 M.1 o q.2.2.1 x, M.2))
            | false => False
          | _ => False
        | _ => False
      | .ref x :: .ref o :: st => match q.1 with
        | 1 => match shp o with
          | (0, ci) => match Nat.beq ci q.2.1 && Nat.blt o n && isRf ci q.2.2.1 && (tbC ci q.2.2.1).2.2.2 && Nat.blt x n with
            | true => (mt.1.name = "<init>" ∧ (tbC ci q.2.2.1).1 = mt.1.cls) ∧ K (nx, ls, st, n, (M.1, M.2.1, up2 M.2.2 o q.2.2.1 (some x)))
            | false => False
          | _ => False
        | _ => False
      | _ => False
    | .getstatic _ => match q.1 with
      | 5 => K (nx, ls, .ref q.2.1 :: st, n, M)
      | 6 => K (nx, ls, .ref q.2.1 :: st, n, M)
      | 10 => K (nx, ls, .int 1 :: st, n, M)
      | 14 => K (nx, ls, .null :: st, n, M) ∧ K (nx, ls, .ref 500 :: st, n, M)
      | _ => False
    | .iaload => match st with
      | .int i :: .ref o :: st => match shp o with
        | (1, z) => match Nat.blt o n with
          | true => vp_in i z ∧ K (nx, ls, .int (M.1 o i.toNatClampNeg) :: st, n, M)
          | false => False
        | (6, z) => vp_in i z ∧ K (nx, ls, .int (sar o i.toNatClampNeg) :: st, n, M)
        | (7, _) => vp_in i (mt.2.2.2.2.1.1 - 1) ∧ K (nx, ls, .int (mt.2.2.2.2.1.2.1 i.toNatClampNeg) :: st, n, M)
        | _ => False
      | _ => False
    | .baload => match st with
      | .int i :: .ref o :: st => match shp o with
        | (5, z) => vp_in i z ∧ K (nx, ls, .int ((strByt.getD (o - 200) []).getD i.toNatClampNeg 0) :: st, n, M)
        | _ => False
      | _ => False
    | .laload => match st with
      | .int i :: .ref o :: st => match shp o with
        | (2, z) => match Nat.blt o n with
          | true => vp_in i z ∧ K (nx, ls, .long (M.2.1 o i.toNatClampNeg) :: st, n, M)
          | false => False
        | _ => False
      | _ => False
    | .aaload => match st with
      | .int i :: .ref o :: st => match shp o with
        | (3, z) => match Nat.blt o n with
          | true => vp_in i z ∧ K (nx, ls, va_rf (M.2.2 o i.toNatClampNeg) :: st, n, M)
          | false => False
        | _ => False
      | _ => False
    | .iastore => match st with
      | .int x :: .int i :: .ref o :: st => match shp o with
        | (1, z) => match Nat.blt o n with
          | true => vp_in i z ∧ K (nx, ls, st, n, (up2 M.1 o i.toNatClampNeg x, M.2))
          | false => False
        | _ => False
      | _ => False
    | .lastore => match st with
      | .long x :: .int i :: .ref o :: st => match shp o with
        | (2, z) => match Nat.blt o n with
          | true => vp_in i z ∧ K (nx, ls, st, n, (M.1, up2 M.2.1 o i.toNatClampNeg x, M.2.2))
          | false => False
        | _ => False
      | _ => False
    | .aastore => match st with
      | .ref x :: .int i :: .ref o :: st => match shp o with
        | (3, z) => match Nat.blt o n && Nat.blt x n && (match shp x with | (0, 2) => true | _ => false) with
          | true => vp_in i z ∧ K (nx, ls, st, n, (M.1, M.2.1, up2 M.2.2 o i.toNatClampNeg (some x)))
          | false => False
        | _ => False
      | _ => False
    | .arraylength => match st with
      | .ref o :: st => match shp o with
        | (1, z) => match Nat.blt o n with
          | true => K (nx, ls, .int (Int32.ofNat z) :: st, n, M)
          | false => False
        | (5, z) => K (nx, ls, .int (Int32.ofNat z) :: st, n, M)
        | (7, _) => match mt.2.2.2.2.1.1 with
          | L + 1 => K (nx, ls, .int (Int32.ofNat L) :: st, n, M)
          | 0 => False
        | _ => False
      | _ => False
    | .new _ => match q.1 with
      | 4 => match shp n with
        | (0, ci) => match Nat.beq ci q.2.1 && Nat.blt n mt.2.2.2.2.1.2.2 && nrS n ls st with
          | true => K (nx, ls, .ref n :: st, n + 1, (rowZ M.1 n 0, M.2.1, rowZ M.2.2 n none))
          | false => False
        | _ => False
      | _ => False
    | .newarray ty => match st with
      | .int x :: st => match ty, shp n with
        | .int, (1, z) => match Nat.blt n mt.2.2.2.2.1.2.2 && nrS n ls st with
          | true => x = Int32.ofNat z ∧ K (nx, ls, .ref n :: st, n + 1, (rowZ M.1 n 0, M.2.1, rowZ M.2.2 n none))
          | false => False
        | .long, (2, z) => match Nat.blt n mt.2.2.2.2.1.2.2 && nrS n ls st with
          | true => x = Int32.ofNat z ∧ K (nx, ls, .ref n :: st, n + 1, (M.1, rowZ M.2.1 n 0, rowZ M.2.2 n none))
          | false => False
        | _, _ => False
      | _ => False
    | .anewarray _ => match st with
      | .int x :: st => match q.1 with
        | 11 => match shp n with
          | (3, z) => match Nat.blt n mt.2.2.2.2.1.2.2 && nrS n ls st with
            | true => x = Int32.ofNat z ∧ K (nx, ls, .ref n :: st, n + 1, (M.1, M.2.1, rowZ M.2.2 n none))
            | false => False
          | _ => False
        | _ => False
      | _ => False
    | .invokestatic _ => match q.1 with
      | 12 => match st with
        | .int w :: .int dp :: .ref b :: .int sp :: .ref a :: st => match shp a, shp b with
          | (1, za), (1, zb) => match Nat.blt a n && Nat.blt b n && Nat.beq st.length 0 with
            | true => (¬ sp < 0 ∧ ¬ dp < 0 ∧ ¬ w < 0 ∧ sp.toNatClampNeg + w.toNatClampNeg ≤ za ∧ dp.toNatClampNeg + w.toNatClampNeg ≤ zb) ∧ K (nx, ls, st, n, (upR M.1 b (va_cpy (M.1 a) (M.1 b) sp.toNatClampNeg dp.toNatClampNeg w.toNatClampNeg), M.2))
            | false => False
          | _, _ => False
        | _ => False
      | _ => False
    | .invokespecial _ => match q.1 with
      | 13 => match st with
        | .ref _ :: st => match Nat.beq st.length 0 with
          | true => K (nx, ls, st, n, M)
          | false => False
        | _ => False
      | _ => False
    | .ireturn => match st with
      | [.int x] => match mt.2.2.2.1 with
        | some .int => K (aRET, [], [.int x], n, M)
        | some .boolean => (x = 0 ∨ x = 1) ∧ K (aRET, [], [.int x], n, M)
        | some .char => narrow .char (.int x) = .int x ∧ K (aRET, [], [.int x], n, M)
        | some .byte => narrow .byte (.int x) = .int x ∧ K (aRET, [], [.int x], n, M)
        | _ => False
      | _ => False
    | .lreturn => match st with
      | [.long x] => match mt.2.2.2.1 with
        | some .long => K (aRET, [], [.long x], n, M)
        | _ => False
      | _ => False
    | .areturn => match st with
      | [.ref x] => match mt.2.2.2.1 with
        | some (.object _) => K (aRET, [], [.ref x], n, M)
        | _ => False
      | _ => False
    | .return_ => match st with
      | [] => match mt.2.2.2.1 with
        | none => K (aRET, [], [], n, M)
        | _ => False
      | _ => False
    | _ => False
def st1 (mt : aM) (cf : aCfg) (K : aCfg → Prop) : Prop := match mt.2.2.2.2.2 cf.1 with
  | some en => sI mt en cf.1 cf.2.1 cf.2.2.1 cf.2.2.2.1 cf.2.2.2.2 K
  | none => False
/-- does a walk stop here: it has returned, at a cut, at a call -/
def stopB (mt : aM) (cuts : List Nat) (pc : Nat) : Bool := Nat.beq pc aRET || cuts.elem pc || (match mt.2.2.2.2.2 pc with | some en => Nat.beq en.2.2.2.1 20 | none => false)
def go (mt : aM) (cuts : List Nat) : Nat → aCfg → (aCfg → Prop) → Prop
  | 0, c, K => K c
  | k + 1, c, K => st1 mt c (fun d => match stopB mt cuts d.1 with
    | true => K d
    | false => go mt cuts k d K)
end
section
/-! ===== the abstract machine is right: contexts, points ===== -/
/-- an instruction that returns, and what stands on the stack then -/
def retI (mt : aM) (i : Instr) (st : List Value) : Prop := match i, st with
  | .ireturn, [.int v] => ∃ ty, mt.2.2.2.1 = some ty ∧ narrow ty (.int v) = .int v
  | .lreturn, [.long _] => mt.2.2.2.1 = some .long
  | .areturn, [.ref _] => ∃ k, mt.2.2.2.1 = some (.object k)
  | .return_, [] => mt.2.2.2.1 = none
  | _, _ => False
/-- a walk's fixed things -/
def aCx (mt : aM) (lv : Nat) (p : Program) (l : Launch) (e : Env) (R : Room) (s : State) (m : MethodId) (args : Array Value) (below : List Frame) (meth : Method) (c : Code) (A : Nat → Prop) (D : va_G) (σ0 : Nat → Nat) (n0 : Nat) (Q : State → Prop) (Fz : List Value → Nat → aMem → Prop) : Prop :=
  (p.tables.exec = Jvm.exec ∧ c.code = mt.2.1 ∧ c.maxLocals = mt.2.2.1 ∧ meth.name = mt.1.name ∧ s.vm.findClass mt.1.cls = some m.cls) ∧
  (∀ w ∈ gw, w.before args s = true) ∧ va_K D vwCl [] s ∧ aX σ0 A s s.heap ∧ (∀ q, s.heap.size ≤ q → A q) ∧ OkM mt ∧
  (1 ≤ lv ∧ lv ≤ R.frames ∧ 40 * lv ≤ R.locals ∧ mt.2.2.2.2.1.2.2 - n0 ≤ R.cells ∧ szp mt.2.2.2.2.1.2.2 - szp n0 ≤ R.slots ∧ mt.2.2.2.2.1.2.2 ≤ nW) ∧
  (mt.2.2.2.2.1.1 = 0 ∨ (va_X (σ0 400) (mt.2.2.2.2.1.1 - 1) mt.2.2.2.2.1.2.1 s s.heap ∧ σ0 400 < s.heap.size ∧ ¬ A (σ0 400))) ∧
  (∀ (pc : Nat) (i : Instr) (st : List Value) (n : Nat) (M : aMem) (σ τ : Nat → Nat) (H : Heap) (locs : List Loc) (ls : Array Slot), retI mt i st → decode mt.2.1 pc = .ok (i, 1) → Fz st n M → aFa A D σ0 n0 mt.2.2.2.2.1.2.2 s σ τ n M H locs →
    W p l e R s m args below meth c H locs (n - n0) (szp n - szp n0) Q (F0 m pc ls (st.map (cv σ))))
/-- the machine, at a point of the walk, comes to its end -/
def aWA (mt : aM) (p : Program) (l : Launch) (e : Env) (R : Room) (s : State) (m : MethodId) (args : Array Value) (below : List Frame) (meth : Method) (c : Code) (A : Nat → Prop) (D : va_G) (σ0 : Nat → Nat) (n0 : Nat) (Q : State → Prop) (Fz : List Value → Nat → aMem → Prop) (cf : aCfg) : Prop :=
  (cf.1 = aRET → Fz cf.2.2.1 cf.2.2.2.1 cf.2.2.2.2) ∧
  (cf.1 ≠ aRET → ∀ (σ τ : Nat → Nat) (H : Heap) (locs : List Loc) (ls : Array Slot), aFa A D σ0 n0 mt.2.2.2.2.1.2.2 s σ τ cf.2.2.2.1 cf.2.2.2.2 H locs → cf.2.1.length = mt.2.2.1 → lv_has ls mt.2.2.1 (ascF σ 0 cf.2.1) →
    W p l e R s m args below meth c H locs (cf.2.2.2.1 - n0) (szp cf.2.2.2.1 - szp n0) Q (F0 m cf.1 ls (cf.2.2.1.map (cv σ))))
/-- locals -/
theorem ascF_get {σ : Nat → Nat} {ls : List (Option Value)} {k : Nat} {v : Value} (h : geL ls k = some v) : ∀ i, (i + k, cv σ v) ∈ ascF σ i ls := by
  induction ls generalizing k with
  | nil => simp [geL] at h
  | cons a t ih =>
    intro i
    cases k with
    | zero =>
      simp only [geL] at h
      subst h
      simp [ascF]
    | succ k =>
      simp only [geL] at h
      have := ih h (i + 1)
      rw [show i + 1 + k = i + (k + 1) by omega] at this
      cases a with
      | none => simpa [ascF] using this
      | some w => simp only [ascF]; exact List.mem_cons_of_mem _ this
theorem ascF_ge {σ : Nat → Nat} {ls : List (Option Value)} : ∀ {i : Nat} {q : Nat × Value}, q ∈ ascF σ i ls → i ≤ q.1 := by
  induction ls with
  | nil => intro i q h; simp [ascF] at h
  | cons a t ih =>
    intro i q h
    cases a with
    | none => have := ih (i := i + 1) (by simpa [ascF] using h); omega
    | some w =>
      simp only [ascF, List.mem_cons] at h
      rcases h with rfl | h
      · exact Nat.le_refl _
      · have := ih (i := i + 1) h; omega
theorem ascF_pu {σ : Nat → Nat} {v : Value} : ∀ (ls : List (Option Value)) (k i : Nat) (q : Nat × Value), k < ls.length → q ∈ ascF σ i (puL ls k v) → q = (i + k, cv σ v) ∨ (q ∈ ascF σ i ls ∧ q.1 ≠ i + k ∧ ¬ (q.1 + 1 = i + k ∧ q.2.category = 2)) := by
  intro ls
  induction ls with
  | nil => intro k i q hk h; simp at hk
  | cons a t ih =>
    intro k i q hk h
    match k with
    | 0 =>
      simp only [puL, ascF, List.mem_cons] at h
      rcases h with rfl | h
      · left; rfl
      · right
        have h1 := ascF_ge h
        refine ⟨?_, by omega, fun z => by omega⟩
        cases a with
        | none => simpa [ascF] using h
        | some w => simp only [ascF]; exact List.mem_cons_of_mem _ h
    | 1 =>
      simp only [puL] at h
      have hrec : q ∈ ascF σ (i + 1) (puL t 0 v) → q = (i + 1, cv σ v) ∨ (q ∈ ascF σ i (a :: t) ∧ q.1 ≠ i + 1 ∧ ¬ (q.1 + 1 = i + 1 ∧ q.2.category = 2)) := by
        intro h
        have hh := ih 0 (i + 1) q (by simp at hk ⊢; omega) h
        have hge := ascF_ge h
        rcases hh with hh | ⟨h1, h2, h3⟩
        · left; simpa using hh
        · right
          refine ⟨?_, by simpa using h2, fun z => by omega⟩
          cases a with
          | none => simpa [ascF] using h1
          | some w => simp only [ascF]; exact List.mem_cons_of_mem _ h1
      cases a with
      | none =>
        simp only [kpL, ascF] at h
        exact hrec h
      | some w =>
        by_cases hc : w.category = 2
        · simp only [kpL, hc, if_true, ascF] at h
          exact hrec h
        · simp only [kpL, hc, if_false, ascF, List.mem_cons] at h
          rcases h with rfl | h
          · right
            refine ⟨by simp [ascF], by simp, fun z => hc ?_⟩
            rw [← cv_cat σ w]; exact z.2
          · exact hrec h
    | k + 2 =>
      simp only [puL] at h
      have hrec : q ∈ ascF σ (i + 1) (puL t (k + 1) v) → q = (i + (k + 2), cv σ v) ∨ (q ∈ ascF σ i (a :: t) ∧ q.1 ≠ i + (k + 2) ∧ ¬ (q.1 + 1 = i + (k + 2) ∧ q.2.category = 2)) := by
        intro h
        have hh := ih (k + 1) (i + 1) q (by simp at hk ⊢; omega) h
        rw [show i + 1 + (k + 1) = i + (k + 2) by omega] at hh
        rcases hh with hh | ⟨h1, h2, h3⟩
        · left; exact hh
        · right
          refine ⟨?_, h2, h3⟩
          cases a with
          | none => simpa [ascF] using h1
          | some w => simp only [ascF]; exact List.mem_cons_of_mem _ h1
      cases a with
      | none => simp only [ascF] at h; exact hrec h
      | some w =>
        simp only [ascF, List.mem_cons] at h
        rcases h with rfl | h
        · right
          exact ⟨by simp [ascF], by simp, fun z => by have := z.1; simp at this⟩
        · exact hrec h
theorem puL_len {v : Value} : ∀ (ls : List (Option Value)) (k : Nat), (puL ls k v).length = ls.length := by
  intro ls
  induction ls with
  | nil => intro k; simp [puL]
  | cons a t ih =>
    intro k
    match k with
    | 0 => simp [puL]
    | 1 => simp [puL, ih]
    | k + 2 => simp [puL, ih]
theorem puL2_eq {v : Value} : ∀ (ls : List (Option Value)) (k : Nat), k + 1 < ls.length → puL2 ls k v = (puL ls k v).set (k + 1) none := by
  intro ls
  induction ls with
  | nil => intro k hk; simp at hk
  | cons a t ih =>
    intro k hk
    cases t with
    | nil => simp at hk
    | cons b t =>
      match k with
      | 0 => simp [puL2, puL]
      | 1 =>
        simp only [puL2, puL]
        rw [ih 0 (by simp at hk ⊢; omega)]
        simp [puL]
      | k + 2 =>
        simp only [puL2, puL]
        rw [ih (k + 1) (by simp at hk ⊢; omega)]
        simp
theorem ascF_none {σ : Nat → Nat} : ∀ (ls : List (Option Value)) (k i : Nat) (q : Nat × Value), q ∈ ascF σ i (ls.set k none) → q ∈ ascF σ i ls ∧ q.1 ≠ i + k := by
  intro ls
  induction ls with
  | nil => intro k i q h; simp [ascF] at h
  | cons a t ih =>
    intro k i q h
    match k with
    | 0 =>
      simp only [List.set_cons_zero, ascF] at h
      have := ascF_ge h
      refine ⟨?_, by omega⟩
      cases a with
      | none => simpa [ascF] using h
      | some w => simp only [ascF]; exact List.mem_cons_of_mem _ h
    | k + 1 =>
      simp only [List.set_cons_succ] at h
      cases a with
      | none =>
        simp only [ascF] at h ⊢
        have hh := ih k (i + 1) q h
        exact ⟨hh.1, by omega⟩
      | some w =>
        simp only [ascF, List.mem_cons] at h ⊢
        rcases h with rfl | h
        · exact ⟨Or.inl rfl, by simp⟩
        · have hh := ih k (i + 1) q h
          exact ⟨Or.inr hh.1, by omega⟩
theorem puL2_len {v : Value} (ls : List (Option Value)) (k : Nat) (h : k + 1 < ls.length) : (puL2 ls k v).length = ls.length := by
  rw [puL2_eq ls k h, List.length_set, puL_len]
theorem lv_get {σ : Nat → Nat} {ls : List (Option Value)} {la : Array Slot} {nL k : Nat} {v : Value} (h : lv_has la nL (ascF σ 0 ls)) (hk : geL ls k = some v) : la[k]? = some (.val (cv σ v)) := by
  have := h.2.2 _ (ascF_get hk 0)
  simpa using this
theorem lv_pu {σ : Nat → Nat} {ls : List (Option Value)} {la : Array Slot} {nL k : Nat} {v : Value} (hk : k < ls.length) (h : lv_has la nL ((k, cv σ v) :: (ascF σ 0 ls).filter (fun q => !(q.1 == k) && !(q.1 + 1 == k && q.2.category == 2)))) : lv_has la nL (ascF σ 0 (puL ls k v)) := by
  refine ⟨h.1, h.2.1, fun q hq => h.2.2 q ?_⟩
  rcases ascF_pu ls k 0 q hk hq with rfl | ⟨h1, h2, h3⟩
  · simp
  · refine List.mem_cons_of_mem _ (List.mem_filter.mpr ⟨h1, ?_⟩)
    simp only [Nat.zero_add] at h2 h3
    simp only [Bool.and_eq_true, Bool.not_eq_true', beq_eq_false_iff_ne, ne_eq, Bool.and_eq_false_iff]
    refine ⟨h2, ?_⟩
    by_cases hz : q.1 + 1 = k
    · right; simpa using fun z => h3 ⟨hz, z⟩
    · left; simpa using hz
theorem lv_pu2 {σ : Nat → Nat} {ls : List (Option Value)} {la : Array Slot} {nL k : Nat} {v : Value} (hk : k + 1 < ls.length) (h : lv_has la nL ((k, cv σ v) :: (ascF σ 0 ls).filter (fun q => !(q.1 == k) && (!(q.1 == k + 1) && !(q.1 + 1 == k && q.2.category == 2))))) : lv_has la nL (ascF σ 0 (puL2 ls k v)) := by
  refine ⟨h.1, h.2.1, fun q hq => h.2.2 q ?_⟩
  rw [puL2_eq ls k hk] at hq
  obtain ⟨hq, hne⟩ := ascF_none _ _ _ _ hq
  rcases ascF_pu ls k 0 q (by omega) hq with rfl | ⟨h1, h2, h3⟩
  · simp
  · refine List.mem_cons_of_mem _ (List.mem_filter.mpr ⟨h1, ?_⟩)
    simp only [Nat.zero_add] at h2 h3 hne
    simp only [Bool.and_eq_true, Bool.not_eq_true', beq_eq_false_iff_ne, ne_eq, Bool.and_eq_false_iff]
    refine ⟨h2, hne, ?_⟩
    by_cases hz : q.1 + 1 = k
    · right; simpa using fun z => h3 ⟨hz, z⟩
    · left; simpa using hz
end
section
/-! ===== the abstract machine is right: instructions without memory ===== -/
section SO
variable {mt : aM} {lv : Nat} {p : Program} {l : Launch} {e : Env} {R : Room} {s : State} {m : MethodId} {args : Array Value} {below : List Frame} {meth : Method} {c : Code} {A : Nat → Prop} {D : va_G} {σ0 : Nat → Nat} {n0 : Nat} {Q : State → Prop} {Fz : List Value → Nat → aMem → Prop}
theorem so_pure {pc nx : Nat} {ls : List (Option Value)} {st st' : List Value} {n : Nat} {M : aMem} (hpc : pc < aRET) (hnx : nx < aRET)
    (h : aWA mt p l e R s m args below meth c A D σ0 n0 Q Fz (nx, ls, st', n, M))
    (step : ∀ (σ : Nat → Nat) (la : Array Slot) (H : Heap) (locs : List Loc) (cells slots : Nat), lv_has la mt.2.2.1 (ascF σ 0 ls) → va_S A s.heap H locs → aOk σ0 n0 σ → W p l e R s m args below meth c H locs cells slots Q (F0 m nx la (st'.map (cv σ))) → W p l e R s m args below meth c H locs cells slots Q (F0 m pc la (st.map (cv σ)))) : aWA mt p l e R s m args below meth c A D σ0 n0 Q Fz (pc, ls, st, n, M) :=
  ⟨fun hr => absurd hr (Nat.ne_of_lt hpc), fun _ σ τ H locs la hF hlen hl => step σ la H locs _ _ hl hF.2.2.2.2.2 hF.1 (h.2 (Nat.ne_of_lt hnx) σ τ H locs la hF hlen hl)⟩
theorem so_br {P : Prop} {pc nx tg : Nat} {ls : List (Option Value)} {st st' : List Value} {n : Nat} {M : aMem} (hpc : pc < aRET) (hnx : nx < aRET) (htg : tg < aRET)
    (h1 : P → aWA mt p l e R s m args below meth c A D σ0 n0 Q Fz (tg, ls, st', n, M)) (h2 : ¬ P → aWA mt p l e R s m args below meth c A D σ0 n0 Q Fz (nx, ls, st', n, M))
    (step : ∀ (σ : Nat → Nat) (la : Array Slot) (H : Heap) (locs : List Loc) (cells slots : Nat), (P → W p l e R s m args below meth c H locs cells slots Q (F0 m tg la (st'.map (cv σ)))) → (¬ P → W p l e R s m args below meth c H locs cells slots Q (F0 m nx la (st'.map (cv σ)))) → W p l e R s m args below meth c H locs cells slots Q (F0 m pc la (st.map (cv σ)))) : aWA mt p l e R s m args below meth c A D σ0 n0 Q Fz (pc, ls, st, n, M) :=
  ⟨fun hr => absurd hr (Nat.ne_of_lt hpc), fun _ σ τ H locs la hF hlen hl => step σ la H locs _ _ (fun q => (h1 q).2 (Nat.ne_of_lt htg) σ τ H locs la hF hlen hl) (fun q => (h2 q).2 (Nat.ne_of_lt hnx) σ τ H locs la hF hlen hl)⟩
theorem so_loc {pc nx : Nat} {ls ls' : List (Option Value)} {st st' : List Value} {n : Nat} {M : aMem} (hpc : pc < aRET) (hnx : nx < aRET) (hlen' : ls.length = mt.2.2.1 → ls'.length = mt.2.2.1)
    (h : aWA mt p l e R s m args below meth c A D σ0 n0 Q Fz (nx, ls', st', n, M))
    (step : ∀ (σ : Nat → Nat) (la : Array Slot) (H : Heap) (locs : List Loc) (cells slots : Nat), ls.length = mt.2.2.1 → lv_has la mt.2.2.1 (ascF σ 0 ls) → (∀ lb : Array Slot, lv_has lb mt.2.2.1 (ascF σ 0 ls') → W p l e R s m args below meth c H locs cells slots Q (F0 m nx lb (st'.map (cv σ)))) → W p l e R s m args below meth c H locs cells slots Q (F0 m pc la (st.map (cv σ)))) : aWA mt p l e R s m args below meth c A D σ0 n0 Q Fz (pc, ls, st, n, M) :=
  ⟨fun hr => absurd hr (Nat.ne_of_lt hpc), fun _ σ τ H locs la hF hlen hl => step σ la H locs _ _ hlen hl (fun lb hb => h.2 (Nat.ne_of_lt hnx) σ τ H locs lb hF (hlen' hlen) hb)⟩
/-- a change of memory -/
theorem so_mem {pc nx : Nat} {ls : List (Option Value)} {st st' : List Value} {n : Nat} {M M' : aMem} (hpc : pc < aRET) (hnx : nx < aRET) (hrl : aRL n M → aRL n M')
    (h : aWA mt p l e R s m args below meth c A D σ0 n0 Q Fz (nx, ls, st', n, M'))
    (step : ∀ (σ τ : Nat → Nat) (la : Array Slot) (H : Heap) (locs : List Loc) (cells slots : Nat), lv_has la mt.2.2.1 (ascF σ 0 ls) → aFa A D σ0 n0 mt.2.2.2.2.1.2.2 s σ τ n M H locs → (∀ (H1 : Heap) (locs1 : List Loc), va_P D vwCl (wd σ τ n M') H1 → va_D A (wd σ τ n M') → va_S A s.heap H1 locs1 → W p l e R s m args below meth c H1 locs1 cells slots Q (F0 m nx la (st'.map (cv σ)))) → W p l e R s m args below meth c H locs cells slots Q (F0 m pc la (st.map (cv σ)))) : aWA mt p l e R s m args below meth c A D σ0 n0 Q Fz (pc, ls, st, n, M) :=
  ⟨fun hr => absurd hr (Nat.ne_of_lt hpc), fun _ σ τ H locs la hF hlen hl => step σ τ la H locs _ _ hl hF (fun H1 locs1 g1 g2 g3 => h.2 (Nat.ne_of_lt hnx) σ τ H1 locs1 la ⟨hF.1, ⟨hF.2.1.1, hF.2.1.2.1, hrl hF.2.1.2.2⟩, hF.2.2.1, g1, g2, g3⟩ hlen hl)⟩
/-- a look at memory -/
theorem so_look {pc nx : Nat} {ls : List (Option Value)} {st st' : List Value} {n : Nat} {M : aMem} (hpc : pc < aRET) (hnx : nx < aRET)
    (h : aWA mt p l e R s m args below meth c A D σ0 n0 Q Fz (nx, ls, st', n, M))
    (step : ∀ (σ τ : Nat → Nat) (la : Array Slot) (H : Heap) (locs : List Loc) (cells slots : Nat), lv_has la mt.2.2.1 (ascF σ 0 ls) → aFa A D σ0 n0 mt.2.2.2.2.1.2.2 s σ τ n M H locs → W p l e R s m args below meth c H locs cells slots Q (F0 m nx la (st'.map (cv σ))) → W p l e R s m args below meth c H locs cells slots Q (F0 m pc la (st.map (cv σ)))) : aWA mt p l e R s m args below meth c A D σ0 n0 Q Fz (pc, ls, st, n, M) :=
  ⟨fun hr => absurd hr (Nat.ne_of_lt hpc), fun _ σ τ H locs la hF hlen hl => step σ τ la H locs _ _ hl hF (h.2 (Nat.ne_of_lt hnx) σ τ H locs la hF hlen hl)⟩
theorem sw_sound {x : Int32} {pc : Nat} {kd : Prop} {K : Nat → Prop} : ∀ (t : List Int) (v : Int32), swK x pc kd K t v → (v.toInt + t.length ≤ 2147483647) →
    (∃ (j : Nat) (o : Int), t[j]? = some o ∧ x.toInt = v.toInt + j ∧ K ((pc : Int) + o).toNat) ∨ (¬ (v.toInt ≤ x.toInt ∧ x.toInt < v.toInt + t.length) ∧ kd) := by
  intro t
  induction t with
  | nil => intro v h _; right; exact ⟨fun z => by simp at z; omega, h⟩
  | cons o t ih =>
    intro v h hb
    simp only [List.length_cons] at hb
    have hv1 : (v + 1).toInt = v.toInt + 1 := by
      rw [Int32.toInt_add]
      have h1 : (1 : Int32).toInt = 1 := by decide
      rw [h1]
      have := Int32.le_toInt v
      rw [Int.bmod_def]
      have hlo := Int32.le_toInt v
      omega
    by_cases hx : x = v
    · left
      exact ⟨0, o, rfl, by rw [hx]; simp, h.1 hx⟩
    · rcases ih (v + 1) (h.2 hx) (by rw [hv1]; push_cast at hb ⊢; omega) with ⟨j, o', h1, h2, h3⟩ | ⟨h1, h2⟩
      · left
        exact ⟨j + 1, o', by simpa using h1, by rw [h2, hv1]; push_cast; omega, h3⟩
      · right
        refine ⟨fun z => h1 ⟨?_, ?_⟩, h2⟩
        · rw [hv1]
          have hne : x.toInt ≠ v.toInt := fun q => hx (Int32.toInt_inj.mp q)
          omega
        · rw [hv1]
          have := z.2
          simp only [List.length_cons] at this
          push_cast at this
          omega
end SO
end
section
/-! ===== the step function is right: instructions that look at no cell; printed by wip/whole/mk08.py ===== -/
section SO3
variable {mt : aM} {lv : Nat} {p : Program} {l : Launch} {e : Env} {R : Room} {s : State} {m : MethodId} {args : Array Value} {below : List Frame} {meth : Method} {c : Code} {A : Nat → Prop} {D : va_G} {σ0 : Nat → Nat} {n0 : Nat} {Q : State → Prop} {Fz : List Value → Nat → aMem → Prop} {pc nx tg : Nat} {q : aQ} {ls : List (Option Value)} {st : List Value} {n : Nat} {M : aMem} {K : aCfg → Prop}
theorem cx_x (C : aCx mt lv p l e R s m args below meth c A D σ0 n0 Q Fz) : p.tables.exec = Jvm.exec := C.1.1
theorem cx_b (C : aCx mt lv p l e R s m args below meth c A D σ0 n0 Q Fz) : c.code = mt.2.1 := C.1.2.1
theorem cx_own (C : aCx mt lv p l e R s m args below meth c A D σ0 n0 Q Fz) : s.vm.findClass mt.1.cls = some m.cls := C.1.2.2.2.2
theorem cx_ts (C : aCx mt lv p l e R s m args below meth c A D σ0 n0 Q Fz) {w : Cond} (h : w ∈ gw) : w.before args s = true := C.2.1 w h
theorem ln_1 {cc : ByteArray} {i : Instr} {k : Nat} (hd : decode cc pc = .ok (i, nx - pc)) (hl : lenI i = 0 ∨ nx = pc + lenI i) (hk : lenI i = k) (h0 : k ≠ 0) : nx = pc + k ∧ decode cc pc = .ok (i, k) := by
  rcases hl with h | h
  · exact absurd (hk.symm.trans h) h0
  · rw [hk] at h
    rw [h, Nat.add_sub_cancel_left] at hd
    exact ⟨h, hd⟩
theorem so_iconst {v : Int} (C : aCx mt lv p l e R s m args below meth c A D σ0 n0 Q Fz) (hd : decode mt.2.1 pc = .ok (.iconst v, nx - pc)) (hln : lenI (.iconst v) = 0 ∨ nx = pc + lenI (.iconst v)) (hpc : pc < aRET) (hnx : nx < aRET) (htg : tg < aRET) (hv : Int32.ofInt v = q.2.2.2) (h : sI mt (.iconst v, nx, tg, q) pc ls st n M K) (hK : ∀ d, K d → aWA mt p l e R s m args below meth c A D σ0 n0 Q Fz d) : aWA mt p l e R s m args below meth c A D σ0 n0 Q Fz (pc, ls, st, n, M) := by
  obtain ⟨rfl, hdg⟩ := ln_1 (k := 1) hd hln rfl (by decide)
  simp only [sI] at h
  exact so_pure hpc hnx (hK _ h) (fun σ la H locs cells slots hl hS hO k => lv_iconst (cx_x C) (cx_b C) hdg hv k)
theorem so_bipush {v : Int} (C : aCx mt lv p l e R s m args below meth c A D σ0 n0 Q Fz) (hd : decode mt.2.1 pc = .ok (.bipush v, nx - pc)) (hln : lenI (.bipush v) = 0 ∨ nx = pc + lenI (.bipush v)) (hpc : pc < aRET) (hnx : nx < aRET) (htg : tg < aRET) (hv : (Int8.ofInt v).toInt32 = q.2.2.2) (h : sI mt (.bipush v, nx, tg, q) pc ls st n M K) (hK : ∀ d, K d → aWA mt p l e R s m args below meth c A D σ0 n0 Q Fz d) : aWA mt p l e R s m args below meth c A D σ0 n0 Q Fz (pc, ls, st, n, M) := by
  obtain ⟨rfl, hdg⟩ := ln_1 (k := 2) hd hln rfl (by decide)
  simp only [sI] at h
  exact so_pure hpc hnx (hK _ h) (fun σ la H locs cells slots hl hS hO k => lv_bipush (cx_x C) (cx_b C) hdg hv k)
theorem so_sipush {v : Int} (C : aCx mt lv p l e R s m args below meth c A D σ0 n0 Q Fz) (hd : decode mt.2.1 pc = .ok (.sipush v, nx - pc)) (hln : lenI (.sipush v) = 0 ∨ nx = pc + lenI (.sipush v)) (hpc : pc < aRET) (hnx : nx < aRET) (htg : tg < aRET) (hv : (Int16.ofInt v).toInt32 = q.2.2.2) (h : sI mt (.sipush v, nx, tg, q) pc ls st n M K) (hK : ∀ d, K d → aWA mt p l e R s m args below meth c A D σ0 n0 Q Fz d) : aWA mt p l e R s m args below meth c A D σ0 n0 Q Fz (pc, ls, st, n, M) := by
  obtain ⟨rfl, hdg⟩ := ln_1 (k := 3) hd hln rfl (by decide)
  simp only [sI] at h
  exact so_pure hpc hnx (hK _ h) (fun σ la H locs cells slots hl hS hO k => lv_sipush (cx_x C) (cx_b C) hdg hv k)
theorem so_lconst {v : Fin 2} (C : aCx mt lv p l e R s m args below meth c A D σ0 n0 Q Fz) (hd : decode mt.2.1 pc = .ok (.lconst v, nx - pc)) (hln : lenI (.lconst v) = 0 ∨ nx = pc + lenI (.lconst v)) (hpc : pc < aRET) (hnx : nx < aRET) (htg : tg < aRET) (hv : (v : Nat) = q.2.1) (h : sI mt (.lconst v, nx, tg, q) pc ls st n M K) (hK : ∀ d, K d → aWA mt p l e R s m args below meth c A D σ0 n0 Q Fz d) : aWA mt p l e R s m args below meth c A D σ0 n0 Q Fz (pc, ls, st, n, M) := by
  obtain ⟨rfl, hdg⟩ := ln_1 (k := 1) hd hln rfl (by decide)
  simp only [sI] at h
  generalize q.2.1 = z at h hv
  match z, h, hv with
  | 0, h, hv => exact so_pure hpc hnx (hK _ h) (fun σ la H locs cells slots hl hS hO k => lv_lconst (cx_x C) (cx_b C) hdg (by rw [hv]; rfl) k)
  | z + 1, h, hv => exact so_pure hpc hnx (hK _ h) (fun σ la H locs cells slots hl hS hO k => lv_lconst (cx_x C) (cx_b C) hdg (by have hlt := v.isLt; rw [show (v : Nat) = 1 by omega]; rfl) k)
theorem so_iadd (C : aCx mt lv p l e R s m args below meth c A D σ0 n0 Q Fz) (hd : decode mt.2.1 pc = .ok (.iadd, nx - pc)) (hln : lenI (.iadd) = 0 ∨ nx = pc + lenI (.iadd)) (hpc : pc < aRET) (hnx : nx < aRET) (htg : tg < aRET) (h : sI mt (.iadd, nx, tg, q) pc ls st n M K) (hK : ∀ d, K d → aWA mt p l e R s m args below meth c A D σ0 n0 Q Fz d) : aWA mt p l e R s m args below meth c A D σ0 n0 Q Fz (pc, ls, st, n, M) := by
  obtain ⟨rfl, hdg⟩ := ln_1 (k := 1) hd hln rfl (by decide)
  simp only [sI] at h
  split at h
  · exact so_pure hpc hnx (hK _ h) (fun σ la H locs cells slots hl hS hO k => lv_iadd (cx_x C) (cx_b C) hdg k)
  · exact h.elim
theorem so_isub (C : aCx mt lv p l e R s m args below meth c A D σ0 n0 Q Fz) (hd : decode mt.2.1 pc = .ok (.isub, nx - pc)) (hln : lenI (.isub) = 0 ∨ nx = pc + lenI (.isub)) (hpc : pc < aRET) (hnx : nx < aRET) (htg : tg < aRET) (h : sI mt (.isub, nx, tg, q) pc ls st n M K) (hK : ∀ d, K d → aWA mt p l e R s m args below meth c A D σ0 n0 Q Fz d) : aWA mt p l e R s m args below meth c A D σ0 n0 Q Fz (pc, ls, st, n, M) := by
  obtain ⟨rfl, hdg⟩ := ln_1 (k := 1) hd hln rfl (by decide)
  simp only [sI] at h
  split at h
  · exact so_pure hpc hnx (hK _ h) (fun σ la H locs cells slots hl hS hO k => lv_isub (cx_x C) (cx_b C) hdg k)
  · exact h.elim
theorem so_imul (C : aCx mt lv p l e R s m args below meth c A D σ0 n0 Q Fz) (hd : decode mt.2.1 pc = .ok (.imul, nx - pc)) (hln : lenI (.imul) = 0 ∨ nx = pc + lenI (.imul)) (hpc : pc < aRET) (hnx : nx < aRET) (htg : tg < aRET) (h : sI mt (.imul, nx, tg, q) pc ls st n M K) (hK : ∀ d, K d → aWA mt p l e R s m args below meth c A D σ0 n0 Q Fz d) : aWA mt p l e R s m args below meth c A D σ0 n0 Q Fz (pc, ls, st, n, M) := by
  obtain ⟨rfl, hdg⟩ := ln_1 (k := 1) hd hln rfl (by decide)
  simp only [sI] at h
  split at h
  · exact so_pure hpc hnx (hK _ h) (fun σ la H locs cells slots hl hS hO k => lv_imul (cx_x C) (cx_b C) hdg k)
  · exact h.elim
theorem so_iand (C : aCx mt lv p l e R s m args below meth c A D σ0 n0 Q Fz) (hd : decode mt.2.1 pc = .ok (.iand, nx - pc)) (hln : lenI (.iand) = 0 ∨ nx = pc + lenI (.iand)) (hpc : pc < aRET) (hnx : nx < aRET) (htg : tg < aRET) (h : sI mt (.iand, nx, tg, q) pc ls st n M K) (hK : ∀ d, K d → aWA mt p l e R s m args below meth c A D σ0 n0 Q Fz d) : aWA mt p l e R s m args below meth c A D σ0 n0 Q Fz (pc, ls, st, n, M) := by
  obtain ⟨rfl, hdg⟩ := ln_1 (k := 1) hd hln rfl (by decide)
  simp only [sI] at h
  split at h
  · exact so_pure hpc hnx (hK _ h) (fun σ la H locs cells slots hl hS hO k => lv_iand (cx_x C) (cx_b C) hdg k)
  · exact h.elim
theorem so_ior (C : aCx mt lv p l e R s m args below meth c A D σ0 n0 Q Fz) (hd : decode mt.2.1 pc = .ok (.ior, nx - pc)) (hln : lenI (.ior) = 0 ∨ nx = pc + lenI (.ior)) (hpc : pc < aRET) (hnx : nx < aRET) (htg : tg < aRET) (h : sI mt (.ior, nx, tg, q) pc ls st n M K) (hK : ∀ d, K d → aWA mt p l e R s m args below meth c A D σ0 n0 Q Fz d) : aWA mt p l e R s m args below meth c A D σ0 n0 Q Fz (pc, ls, st, n, M) := by
  obtain ⟨rfl, hdg⟩ := ln_1 (k := 1) hd hln rfl (by decide)
  simp only [sI] at h
  split at h
  · exact so_pure hpc hnx (hK _ h) (fun σ la H locs cells slots hl hS hO k => lv_ior (cx_x C) (cx_b C) hdg k)
  · exact h.elim
theorem so_ixor (C : aCx mt lv p l e R s m args below meth c A D σ0 n0 Q Fz) (hd : decode mt.2.1 pc = .ok (.ixor, nx - pc)) (hln : lenI (.ixor) = 0 ∨ nx = pc + lenI (.ixor)) (hpc : pc < aRET) (hnx : nx < aRET) (htg : tg < aRET) (h : sI mt (.ixor, nx, tg, q) pc ls st n M K) (hK : ∀ d, K d → aWA mt p l e R s m args below meth c A D σ0 n0 Q Fz d) : aWA mt p l e R s m args below meth c A D σ0 n0 Q Fz (pc, ls, st, n, M) := by
  obtain ⟨rfl, hdg⟩ := ln_1 (k := 1) hd hln rfl (by decide)
  simp only [sI] at h
  split at h
  · exact so_pure hpc hnx (hK _ h) (fun σ la H locs cells slots hl hS hO k => lv_ixor (cx_x C) (cx_b C) hdg k)
  · exact h.elim
theorem so_ishl (C : aCx mt lv p l e R s m args below meth c A D σ0 n0 Q Fz) (hd : decode mt.2.1 pc = .ok (.ishl, nx - pc)) (hln : lenI (.ishl) = 0 ∨ nx = pc + lenI (.ishl)) (hpc : pc < aRET) (hnx : nx < aRET) (htg : tg < aRET) (h : sI mt (.ishl, nx, tg, q) pc ls st n M K) (hK : ∀ d, K d → aWA mt p l e R s m args below meth c A D σ0 n0 Q Fz d) : aWA mt p l e R s m args below meth c A D σ0 n0 Q Fz (pc, ls, st, n, M) := by
  obtain ⟨rfl, hdg⟩ := ln_1 (k := 1) hd hln rfl (by decide)
  simp only [sI] at h
  split at h
  · exact so_pure hpc hnx (hK _ h) (fun σ la H locs cells slots hl hS hO k => lv_ishl (cx_x C) (cx_b C) hdg k)
  · exact h.elim
theorem so_ishr (C : aCx mt lv p l e R s m args below meth c A D σ0 n0 Q Fz) (hd : decode mt.2.1 pc = .ok (.ishr, nx - pc)) (hln : lenI (.ishr) = 0 ∨ nx = pc + lenI (.ishr)) (hpc : pc < aRET) (hnx : nx < aRET) (htg : tg < aRET) (h : sI mt (.ishr, nx, tg, q) pc ls st n M K) (hK : ∀ d, K d → aWA mt p l e R s m args below meth c A D σ0 n0 Q Fz d) : aWA mt p l e R s m args below meth c A D σ0 n0 Q Fz (pc, ls, st, n, M) := by
  obtain ⟨rfl, hdg⟩ := ln_1 (k := 1) hd hln rfl (by decide)
  simp only [sI] at h
  split at h
  · exact so_pure hpc hnx (hK _ h) (fun σ la H locs cells slots hl hS hO k => lv_ishr (cx_x C) (cx_b C) hdg k)
  · exact h.elim
theorem so_ladd (C : aCx mt lv p l e R s m args below meth c A D σ0 n0 Q Fz) (hd : decode mt.2.1 pc = .ok (.ladd, nx - pc)) (hln : lenI (.ladd) = 0 ∨ nx = pc + lenI (.ladd)) (hpc : pc < aRET) (hnx : nx < aRET) (htg : tg < aRET) (h : sI mt (.ladd, nx, tg, q) pc ls st n M K) (hK : ∀ d, K d → aWA mt p l e R s m args below meth c A D σ0 n0 Q Fz d) : aWA mt p l e R s m args below meth c A D σ0 n0 Q Fz (pc, ls, st, n, M) := by
  obtain ⟨rfl, hdg⟩ := ln_1 (k := 1) hd hln rfl (by decide)
  simp only [sI] at h
  split at h
  · exact so_pure hpc hnx (hK _ h) (fun σ la H locs cells slots hl hS hO k => lv_ladd (cx_x C) (cx_b C) hdg k)
  · exact h.elim
theorem so_lsub (C : aCx mt lv p l e R s m args below meth c A D σ0 n0 Q Fz) (hd : decode mt.2.1 pc = .ok (.lsub, nx - pc)) (hln : lenI (.lsub) = 0 ∨ nx = pc + lenI (.lsub)) (hpc : pc < aRET) (hnx : nx < aRET) (htg : tg < aRET) (h : sI mt (.lsub, nx, tg, q) pc ls st n M K) (hK : ∀ d, K d → aWA mt p l e R s m args below meth c A D σ0 n0 Q Fz d) : aWA mt p l e R s m args below meth c A D σ0 n0 Q Fz (pc, ls, st, n, M) := by
  obtain ⟨rfl, hdg⟩ := ln_1 (k := 1) hd hln rfl (by decide)
  simp only [sI] at h
  split at h
  · exact so_pure hpc hnx (hK _ h) (fun σ la H locs cells slots hl hS hO k => lv_lsub (cx_x C) (cx_b C) hdg k)
  · exact h.elim
theorem so_lmul (C : aCx mt lv p l e R s m args below meth c A D σ0 n0 Q Fz) (hd : decode mt.2.1 pc = .ok (.lmul, nx - pc)) (hln : lenI (.lmul) = 0 ∨ nx = pc + lenI (.lmul)) (hpc : pc < aRET) (hnx : nx < aRET) (htg : tg < aRET) (h : sI mt (.lmul, nx, tg, q) pc ls st n M K) (hK : ∀ d, K d → aWA mt p l e R s m args below meth c A D σ0 n0 Q Fz d) : aWA mt p l e R s m args below meth c A D σ0 n0 Q Fz (pc, ls, st, n, M) := by
  obtain ⟨rfl, hdg⟩ := ln_1 (k := 1) hd hln rfl (by decide)
  simp only [sI] at h
  split at h
  · exact so_pure hpc hnx (hK _ h) (fun σ la H locs cells slots hl hS hO k => lv_lmul (cx_x C) (cx_b C) hdg k)
  · exact h.elim
theorem so_iushr (C : aCx mt lv p l e R s m args below meth c A D σ0 n0 Q Fz) (hd : decode mt.2.1 pc = .ok (.iushr, nx - pc)) (hln : lenI (.iushr) = 0 ∨ nx = pc + lenI (.iushr)) (hpc : pc < aRET) (hnx : nx < aRET) (htg : tg < aRET) (h : sI mt (.iushr, nx, tg, q) pc ls st n M K) (hK : ∀ d, K d → aWA mt p l e R s m args below meth c A D σ0 n0 Q Fz d) : aWA mt p l e R s m args below meth c A D σ0 n0 Q Fz (pc, ls, st, n, M) := by
  obtain ⟨rfl, hdg⟩ := ln_1 (k := 1) hd hln rfl (by decide)
  simp only [sI] at h
  split at h
  · exact so_pure hpc hnx (hK _ h) (fun σ la H locs cells slots hl hS hO k => lv_iushr (cx_x C) (cx_b C) hdg rfl k)
  · exact h.elim
theorem so_idiv (C : aCx mt lv p l e R s m args below meth c A D σ0 n0 Q Fz) (hd : decode mt.2.1 pc = .ok (.idiv, nx - pc)) (hln : lenI (.idiv) = 0 ∨ nx = pc + lenI (.idiv)) (hpc : pc < aRET) (hnx : nx < aRET) (htg : tg < aRET) (h : sI mt (.idiv, nx, tg, q) pc ls st n M K) (hK : ∀ d, K d → aWA mt p l e R s m args below meth c A D σ0 n0 Q Fz d) : aWA mt p l e R s m args below meth c A D σ0 n0 Q Fz (pc, ls, st, n, M) := by
  obtain ⟨rfl, hdg⟩ := ln_1 (k := 1) hd hln rfl (by decide)
  simp only [sI] at h
  split at h
  · exact so_pure hpc hnx (hK _ h.2) (fun σ la H locs cells slots hl hS hO k => lv_idiv (cx_x C) (cx_b C) hdg h.1 k)
  · exact h.elim
theorem so_irem (C : aCx mt lv p l e R s m args below meth c A D σ0 n0 Q Fz) (hd : decode mt.2.1 pc = .ok (.irem, nx - pc)) (hln : lenI (.irem) = 0 ∨ nx = pc + lenI (.irem)) (hpc : pc < aRET) (hnx : nx < aRET) (htg : tg < aRET) (h : sI mt (.irem, nx, tg, q) pc ls st n M K) (hK : ∀ d, K d → aWA mt p l e R s m args below meth c A D σ0 n0 Q Fz d) : aWA mt p l e R s m args below meth c A D σ0 n0 Q Fz (pc, ls, st, n, M) := by
  obtain ⟨rfl, hdg⟩ := ln_1 (k := 1) hd hln rfl (by decide)
  simp only [sI] at h
  split at h
  · exact so_pure hpc hnx (hK _ h.2) (fun σ la H locs cells slots hl hS hO k => lv_irem (cx_x C) (cx_b C) hdg h.1 k)
  · exact h.elim
theorem so_ldiv (C : aCx mt lv p l e R s m args below meth c A D σ0 n0 Q Fz) (hd : decode mt.2.1 pc = .ok (.ldiv, nx - pc)) (hln : lenI (.ldiv) = 0 ∨ nx = pc + lenI (.ldiv)) (hpc : pc < aRET) (hnx : nx < aRET) (htg : tg < aRET) (h : sI mt (.ldiv, nx, tg, q) pc ls st n M K) (hK : ∀ d, K d → aWA mt p l e R s m args below meth c A D σ0 n0 Q Fz d) : aWA mt p l e R s m args below meth c A D σ0 n0 Q Fz (pc, ls, st, n, M) := by
  obtain ⟨rfl, hdg⟩ := ln_1 (k := 1) hd hln rfl (by decide)
  simp only [sI] at h
  split at h
  · exact so_pure hpc hnx (hK _ h.2) (fun σ la H locs cells slots hl hS hO k => lv_ldiv (cx_x C) (cx_b C) hdg h.1 k)
  · exact h.elim
theorem so_lrem (C : aCx mt lv p l e R s m args below meth c A D σ0 n0 Q Fz) (hd : decode mt.2.1 pc = .ok (.lrem, nx - pc)) (hln : lenI (.lrem) = 0 ∨ nx = pc + lenI (.lrem)) (hpc : pc < aRET) (hnx : nx < aRET) (htg : tg < aRET) (h : sI mt (.lrem, nx, tg, q) pc ls st n M K) (hK : ∀ d, K d → aWA mt p l e R s m args below meth c A D σ0 n0 Q Fz d) : aWA mt p l e R s m args below meth c A D σ0 n0 Q Fz (pc, ls, st, n, M) := by
  obtain ⟨rfl, hdg⟩ := ln_1 (k := 1) hd hln rfl (by decide)
  simp only [sI] at h
  split at h
  · exact so_pure hpc hnx (hK _ h.2) (fun σ la H locs cells slots hl hS hO k => lv_lrem (cx_x C) (cx_b C) hdg h.1 k)
  · exact h.elim
theorem so_lcmp (C : aCx mt lv p l e R s m args below meth c A D σ0 n0 Q Fz) (hd : decode mt.2.1 pc = .ok (.lcmp, nx - pc)) (hln : lenI (.lcmp) = 0 ∨ nx = pc + lenI (.lcmp)) (hpc : pc < aRET) (hnx : nx < aRET) (htg : tg < aRET) (h : sI mt (.lcmp, nx, tg, q) pc ls st n M K) (hK : ∀ d, K d → aWA mt p l e R s m args below meth c A D σ0 n0 Q Fz d) : aWA mt p l e R s m args below meth c A D σ0 n0 Q Fz (pc, ls, st, n, M) := by
  obtain ⟨rfl, hdg⟩ := ln_1 (k := 1) hd hln rfl (by decide)
  simp only [sI] at h
  split at h
  · exact so_pure hpc hnx (hK _ h) (fun σ la H locs cells slots hl hS hO k => W.lcmp (cx_x C) (cx_b C) hdg k)
  · exact h.elim
theorem so_i2l (C : aCx mt lv p l e R s m args below meth c A D σ0 n0 Q Fz) (hd : decode mt.2.1 pc = .ok (.i2l, nx - pc)) (hln : lenI (.i2l) = 0 ∨ nx = pc + lenI (.i2l)) (hpc : pc < aRET) (hnx : nx < aRET) (htg : tg < aRET) (h : sI mt (.i2l, nx, tg, q) pc ls st n M K) (hK : ∀ d, K d → aWA mt p l e R s m args below meth c A D σ0 n0 Q Fz d) : aWA mt p l e R s m args below meth c A D σ0 n0 Q Fz (pc, ls, st, n, M) := by
  obtain ⟨rfl, hdg⟩ := ln_1 (k := 1) hd hln rfl (by decide)
  simp only [sI] at h
  split at h
  · exact so_pure hpc hnx (hK _ h) (fun σ la H locs cells slots hl hS hO k => lv_i2l (cx_x C) (cx_b C) hdg rfl k)
  · exact h.elim
theorem so_l2i (C : aCx mt lv p l e R s m args below meth c A D σ0 n0 Q Fz) (hd : decode mt.2.1 pc = .ok (.l2i, nx - pc)) (hln : lenI (.l2i) = 0 ∨ nx = pc + lenI (.l2i)) (hpc : pc < aRET) (hnx : nx < aRET) (htg : tg < aRET) (h : sI mt (.l2i, nx, tg, q) pc ls st n M K) (hK : ∀ d, K d → aWA mt p l e R s m args below meth c A D σ0 n0 Q Fz d) : aWA mt p l e R s m args below meth c A D σ0 n0 Q Fz (pc, ls, st, n, M) := by
  obtain ⟨rfl, hdg⟩ := ln_1 (k := 1) hd hln rfl (by decide)
  simp only [sI] at h
  split at h
  · exact so_pure hpc hnx (hK _ h) (fun σ la H locs cells slots hl hS hO k => lv_l2i (cx_x C) (cx_b C) hdg rfl k)
  · exact h.elim
theorem so_i2b (C : aCx mt lv p l e R s m args below meth c A D σ0 n0 Q Fz) (hd : decode mt.2.1 pc = .ok (.i2b, nx - pc)) (hln : lenI (.i2b) = 0 ∨ nx = pc + lenI (.i2b)) (hpc : pc < aRET) (hnx : nx < aRET) (htg : tg < aRET) (h : sI mt (.i2b, nx, tg, q) pc ls st n M K) (hK : ∀ d, K d → aWA mt p l e R s m args below meth c A D σ0 n0 Q Fz d) : aWA mt p l e R s m args below meth c A D σ0 n0 Q Fz (pc, ls, st, n, M) := by
  obtain ⟨rfl, hdg⟩ := ln_1 (k := 1) hd hln rfl (by decide)
  simp only [sI] at h
  split at h
  · exact so_pure hpc hnx (hK _ h) (fun σ la H locs cells slots hl hS hO k => lv_i2b (cx_x C) (cx_b C) hdg rfl k)
  · exact h.elim
theorem so_i2s (C : aCx mt lv p l e R s m args below meth c A D σ0 n0 Q Fz) (hd : decode mt.2.1 pc = .ok (.i2s, nx - pc)) (hln : lenI (.i2s) = 0 ∨ nx = pc + lenI (.i2s)) (hpc : pc < aRET) (hnx : nx < aRET) (htg : tg < aRET) (h : sI mt (.i2s, nx, tg, q) pc ls st n M K) (hK : ∀ d, K d → aWA mt p l e R s m args below meth c A D σ0 n0 Q Fz d) : aWA mt p l e R s m args below meth c A D σ0 n0 Q Fz (pc, ls, st, n, M) := by
  obtain ⟨rfl, hdg⟩ := ln_1 (k := 1) hd hln rfl (by decide)
  simp only [sI] at h
  split at h
  · exact so_pure hpc hnx (hK _ h) (fun σ la H locs cells slots hl hS hO k => lv_i2s (cx_x C) (cx_b C) hdg rfl k)
  · exact h.elim
theorem so_i2c (C : aCx mt lv p l e R s m args below meth c A D σ0 n0 Q Fz) (hd : decode mt.2.1 pc = .ok (.i2c, nx - pc)) (hln : lenI (.i2c) = 0 ∨ nx = pc + lenI (.i2c)) (hpc : pc < aRET) (hnx : nx < aRET) (htg : tg < aRET) (h : sI mt (.i2c, nx, tg, q) pc ls st n M K) (hK : ∀ d, K d → aWA mt p l e R s m args below meth c A D σ0 n0 Q Fz d) : aWA mt p l e R s m args below meth c A D σ0 n0 Q Fz (pc, ls, st, n, M) := by
  obtain ⟨rfl, hdg⟩ := ln_1 (k := 1) hd hln rfl (by decide)
  simp only [sI] at h
  split at h
  · exact so_pure hpc hnx (hK _ h) (fun σ la H locs cells slots hl hS hO k => lv_i2c (cx_x C) (cx_b C) hdg rfl k)
  · exact h.elim
theorem so_dup (C : aCx mt lv p l e R s m args below meth c A D σ0 n0 Q Fz) (hd : decode mt.2.1 pc = .ok (.dup, nx - pc)) (hln : lenI (.dup) = 0 ∨ nx = pc + lenI (.dup)) (hpc : pc < aRET) (hnx : nx < aRET) (htg : tg < aRET) (h : sI mt (.dup, nx, tg, q) pc ls st n M K) (hK : ∀ d, K d → aWA mt p l e R s m args below meth c A D σ0 n0 Q Fz d) : aWA mt p l e R s m args below meth c A D σ0 n0 Q Fz (pc, ls, st, n, M) := by
  obtain ⟨rfl, hdg⟩ := ln_1 (k := 1) hd hln rfl (by decide)
  simp only [sI] at h
  split at h
  · exact so_pure hpc hnx (hK _ h) (fun σ la H locs cells slots hl hS hO k => lv_dup (cx_x C) (cx_b C) hdg rfl k)
  · exact so_pure hpc hnx (hK _ h) (fun σ la H locs cells slots hl hS hO k => lv_dup (cx_x C) (cx_b C) hdg rfl k)
  · exact h.elim
theorem so_pop (C : aCx mt lv p l e R s m args below meth c A D σ0 n0 Q Fz) (hd : decode mt.2.1 pc = .ok (.pop, nx - pc)) (hln : lenI (.pop) = 0 ∨ nx = pc + lenI (.pop)) (hpc : pc < aRET) (hnx : nx < aRET) (htg : tg < aRET) (h : sI mt (.pop, nx, tg, q) pc ls st n M K) (hK : ∀ d, K d → aWA mt p l e R s m args below meth c A D σ0 n0 Q Fz d) : aWA mt p l e R s m args below meth c A D σ0 n0 Q Fz (pc, ls, st, n, M) := by
  obtain ⟨rfl, hdg⟩ := ln_1 (k := 1) hd hln rfl (by decide)
  simp only [sI] at h
  split at h
  · exact so_pure hpc hnx (hK _ h) (fun σ la H locs cells slots hl hS hO k => lv_pop (cx_x C) (cx_b C) hdg rfl k)
  · exact so_pure hpc hnx (hK _ h) (fun σ la H locs cells slots hl hS hO k => lv_pop (cx_x C) (cx_b C) hdg rfl k)
  · exact h.elim
theorem so_dup2 (C : aCx mt lv p l e R s m args below meth c A D σ0 n0 Q Fz) (hd : decode mt.2.1 pc = .ok (.dup2, nx - pc)) (hln : lenI (.dup2) = 0 ∨ nx = pc + lenI (.dup2)) (hpc : pc < aRET) (hnx : nx < aRET) (htg : tg < aRET) (h : sI mt (.dup2, nx, tg, q) pc ls st n M K) (hK : ∀ d, K d → aWA mt p l e R s m args below meth c A D σ0 n0 Q Fz d) : aWA mt p l e R s m args below meth c A D σ0 n0 Q Fz (pc, ls, st, n, M) := by
  obtain ⟨rfl, hdg⟩ := ln_1 (k := 1) hd hln rfl (by decide)
  simp only [sI] at h
  split at h
  · exact so_pure hpc hnx (hK _ h) (fun σ la H locs cells slots hl hS hO k => lv_dup2_11 (cx_x C) (cx_b C) hdg rfl rfl k)
  · exact so_pure hpc hnx (hK _ h) (fun σ la H locs cells slots hl hS hO k => lv_dup2_11 (cx_x C) (cx_b C) hdg rfl rfl k)
  · exact h.elim
theorem so_iload {v : Nat} (C : aCx mt lv p l e R s m args below meth c A D σ0 n0 Q Fz) (hd : decode mt.2.1 pc = .ok (.iload v, nx - pc)) (hln : lenI (.iload v) = 0 ∨ nx = pc + lenI (.iload v)) (hpc : pc < aRET) (hnx : nx < aRET) (htg : tg < aRET) (hv : v = q.2.1) (h : sI mt (.iload v, nx, tg, q) pc ls st n M K) (hK : ∀ d, K d → aWA mt p l e R s m args below meth c A D σ0 n0 Q Fz d) : aWA mt p l e R s m args below meth c A D σ0 n0 Q Fz (pc, ls, st, n, M) := by
  obtain ⟨rfl, hdg⟩ := ln_1 (k := 2) hd hln rfl (by decide)
  simp only [sI] at h
  split at h
  · next hg => subst hv; exact so_pure hpc hnx (hK _ h) (fun σ la H locs cells slots hl hS hO k => lv_iload (cx_x C) (cx_b C) hdg (lv_get hl hg) k)
  · exact h.elim
theorem so_aload {v : Nat} (C : aCx mt lv p l e R s m args below meth c A D σ0 n0 Q Fz) (hd : decode mt.2.1 pc = .ok (.aload v, nx - pc)) (hln : lenI (.aload v) = 0 ∨ nx = pc + lenI (.aload v)) (hpc : pc < aRET) (hnx : nx < aRET) (htg : tg < aRET) (hv : v = q.2.1) (h : sI mt (.aload v, nx, tg, q) pc ls st n M K) (hK : ∀ d, K d → aWA mt p l e R s m args below meth c A D σ0 n0 Q Fz d) : aWA mt p l e R s m args below meth c A D σ0 n0 Q Fz (pc, ls, st, n, M) := by
  obtain ⟨rfl, hdg⟩ := ln_1 (k := 2) hd hln rfl (by decide)
  simp only [sI] at h
  split at h
  · next hg => subst hv; exact so_pure hpc hnx (hK _ h) (fun σ la H locs cells slots hl hS hO k => lv_aload (cx_x C) (cx_b C) hdg (lv_get hl hg) k)
  · exact h.elim
theorem so_lload {v : Nat} (C : aCx mt lv p l e R s m args below meth c A D σ0 n0 Q Fz) (hd : decode mt.2.1 pc = .ok (.lload v, nx - pc)) (hln : lenI (.lload v) = 0 ∨ nx = pc + lenI (.lload v)) (hpc : pc < aRET) (hnx : nx < aRET) (htg : tg < aRET) (hv : v = q.2.1) (h : sI mt (.lload v, nx, tg, q) pc ls st n M K) (hK : ∀ d, K d → aWA mt p l e R s m args below meth c A D σ0 n0 Q Fz d) : aWA mt p l e R s m args below meth c A D σ0 n0 Q Fz (pc, ls, st, n, M) := by
  obtain ⟨rfl, hdg⟩ := ln_1 (k := 2) hd hln rfl (by decide)
  simp only [sI] at h
  split at h
  · next hg => subst hv; exact so_pure hpc hnx (hK _ h) (fun σ la H locs cells slots hl hS hO k => lv_lload (cx_x C) (cx_b C) hdg (lv_get hl hg) k)
  · exact h.elim
theorem so_iload_n {v : Fin 4} (C : aCx mt lv p l e R s m args below meth c A D σ0 n0 Q Fz) (hd : decode mt.2.1 pc = .ok (.iload_n v, nx - pc)) (hln : lenI (.iload_n v) = 0 ∨ nx = pc + lenI (.iload_n v)) (hpc : pc < aRET) (hnx : nx < aRET) (htg : tg < aRET) (hv : (v : Nat) = q.2.1) (h : sI mt (.iload_n v, nx, tg, q) pc ls st n M K) (hK : ∀ d, K d → aWA mt p l e R s m args below meth c A D σ0 n0 Q Fz d) : aWA mt p l e R s m args below meth c A D σ0 n0 Q Fz (pc, ls, st, n, M) := by
  obtain ⟨rfl, hdg⟩ := ln_1 (k := 1) hd hln rfl (by decide)
  simp only [sI] at h
  split at h
  · next hg => exact so_pure hpc hnx (hK _ h) (fun σ la H locs cells slots hl hS hO k => lv_iload_n (cx_x C) (cx_b C) hdg hv (lv_get hl hg) k)
  · exact h.elim
theorem so_aload_n {v : Fin 4} (C : aCx mt lv p l e R s m args below meth c A D σ0 n0 Q Fz) (hd : decode mt.2.1 pc = .ok (.aload_n v, nx - pc)) (hln : lenI (.aload_n v) = 0 ∨ nx = pc + lenI (.aload_n v)) (hpc : pc < aRET) (hnx : nx < aRET) (htg : tg < aRET) (hv : (v : Nat) = q.2.1) (h : sI mt (.aload_n v, nx, tg, q) pc ls st n M K) (hK : ∀ d, K d → aWA mt p l e R s m args below meth c A D σ0 n0 Q Fz d) : aWA mt p l e R s m args below meth c A D σ0 n0 Q Fz (pc, ls, st, n, M) := by
  obtain ⟨rfl, hdg⟩ := ln_1 (k := 1) hd hln rfl (by decide)
  simp only [sI] at h
  split at h
  · next hg => exact so_pure hpc hnx (hK _ h) (fun σ la H locs cells slots hl hS hO k => lv_aload_n (cx_x C) (cx_b C) hdg hv (lv_get hl hg) k)
  · exact h.elim
theorem so_lload_n {v : Fin 4} (C : aCx mt lv p l e R s m args below meth c A D σ0 n0 Q Fz) (hd : decode mt.2.1 pc = .ok (.lload_n v, nx - pc)) (hln : lenI (.lload_n v) = 0 ∨ nx = pc + lenI (.lload_n v)) (hpc : pc < aRET) (hnx : nx < aRET) (htg : tg < aRET) (hv : (v : Nat) = q.2.1) (h : sI mt (.lload_n v, nx, tg, q) pc ls st n M K) (hK : ∀ d, K d → aWA mt p l e R s m args below meth c A D σ0 n0 Q Fz d) : aWA mt p l e R s m args below meth c A D σ0 n0 Q Fz (pc, ls, st, n, M) := by
  obtain ⟨rfl, hdg⟩ := ln_1 (k := 1) hd hln rfl (by decide)
  simp only [sI] at h
  split at h
  · next hg => exact so_pure hpc hnx (hK _ h) (fun σ la H locs cells slots hl hS hO k => lv_lload_n (cx_x C) (cx_b C) hdg hv (lv_get hl hg) k)
  · exact h.elim
theorem so_istore {v : Nat} (C : aCx mt lv p l e R s m args below meth c A D σ0 n0 Q Fz) (hd : decode mt.2.1 pc = .ok (.istore v, nx - pc)) (hln : lenI (.istore v) = 0 ∨ nx = pc + lenI (.istore v)) (hpc : pc < aRET) (hnx : nx < aRET) (htg : tg < aRET) (hv : v = q.2.1 ∧ q.2.1 < mt.2.2.1) (h : sI mt (.istore v, nx, tg, q) pc ls st n M K) (hK : ∀ d, K d → aWA mt p l e R s m args below meth c A D σ0 n0 Q Fz d) : aWA mt p l e R s m args below meth c A D σ0 n0 Q Fz (pc, ls, st, n, M) := by
  obtain ⟨rfl, hdg⟩ := ln_1 (k := 2) hd hln rfl (by decide)
  simp only [sI] at h
  obtain ⟨hv, hlt⟩ := hv
  split at h
  · subst hv; exact so_loc hpc hnx (fun hlen => (puL_len _ _).trans hlen) (hK _ h) (fun σ la H locs cells slots hlen hl k => lv_istore (cx_x C) (cx_b C) hdg hl hlt rfl (fun lb hb => k lb (lv_pu (by rw [hlen]; exact hlt) hb)))
  · exact h.elim
theorem so_astore {v : Nat} (C : aCx mt lv p l e R s m args below meth c A D σ0 n0 Q Fz) (hd : decode mt.2.1 pc = .ok (.astore v, nx - pc)) (hln : lenI (.astore v) = 0 ∨ nx = pc + lenI (.astore v)) (hpc : pc < aRET) (hnx : nx < aRET) (htg : tg < aRET) (hv : v = q.2.1 ∧ q.2.1 < mt.2.2.1) (h : sI mt (.astore v, nx, tg, q) pc ls st n M K) (hK : ∀ d, K d → aWA mt p l e R s m args below meth c A D σ0 n0 Q Fz d) : aWA mt p l e R s m args below meth c A D σ0 n0 Q Fz (pc, ls, st, n, M) := by
  obtain ⟨rfl, hdg⟩ := ln_1 (k := 2) hd hln rfl (by decide)
  simp only [sI] at h
  obtain ⟨hv, hlt⟩ := hv
  split at h
  · subst hv; exact so_loc hpc hnx (fun hlen => (puL_len _ _).trans hlen) (hK _ h) (fun σ la H locs cells slots hlen hl k => lv_astore (cx_x C) (cx_b C) hdg hl hlt rfl (fun lb hb => k lb (lv_pu (by rw [hlen]; exact hlt) hb)))
  · exact h.elim
theorem so_lstore {v : Nat} (C : aCx mt lv p l e R s m args below meth c A D σ0 n0 Q Fz) (hd : decode mt.2.1 pc = .ok (.lstore v, nx - pc)) (hln : lenI (.lstore v) = 0 ∨ nx = pc + lenI (.lstore v)) (hpc : pc < aRET) (hnx : nx < aRET) (htg : tg < aRET) (hv : v = q.2.1 ∧ q.2.1 + 1 < mt.2.2.1) (h : sI mt (.lstore v, nx, tg, q) pc ls st n M K) (hK : ∀ d, K d → aWA mt p l e R s m args below meth c A D σ0 n0 Q Fz d) : aWA mt p l e R s m args below meth c A D σ0 n0 Q Fz (pc, ls, st, n, M) := by
  obtain ⟨rfl, hdg⟩ := ln_1 (k := 2) hd hln rfl (by decide)
  simp only [sI] at h
  obtain ⟨hv, hlt⟩ := hv
  split at h
  · subst hv; exact so_loc hpc hnx (fun hlen => (puL2_len _ _ (by rw [hlen]; exact hlt)).trans hlen) (hK _ h) (fun σ la H locs cells slots hlen hl k => lv_lstore (cx_x C) (cx_b C) hdg hl hlt rfl (fun lb hb => k lb (lv_pu2 (by rw [hlen]; exact hlt) hb)))
  · exact h.elim
theorem so_istore_n {v : Fin 4} (C : aCx mt lv p l e R s m args below meth c A D σ0 n0 Q Fz) (hd : decode mt.2.1 pc = .ok (.istore_n v, nx - pc)) (hln : lenI (.istore_n v) = 0 ∨ nx = pc + lenI (.istore_n v)) (hpc : pc < aRET) (hnx : nx < aRET) (htg : tg < aRET) (hv : (v : Nat) = q.2.1 ∧ q.2.1 < mt.2.2.1) (h : sI mt (.istore_n v, nx, tg, q) pc ls st n M K) (hK : ∀ d, K d → aWA mt p l e R s m args below meth c A D σ0 n0 Q Fz d) : aWA mt p l e R s m args below meth c A D σ0 n0 Q Fz (pc, ls, st, n, M) := by
  obtain ⟨rfl, hdg⟩ := ln_1 (k := 1) hd hln rfl (by decide)
  simp only [sI] at h
  obtain ⟨hv, hlt⟩ := hv
  split at h
  · exact so_loc hpc hnx (fun hlen => (puL_len _ _).trans hlen) (hK _ h) (fun σ la H locs cells slots hlen hl k => lv_istore_n (cx_x C) (cx_b C) hdg hv hl hlt rfl (fun lb hb => k lb (lv_pu (by rw [hlen]; exact hlt) hb)))
  · exact h.elim
theorem so_astore_n {v : Fin 4} (C : aCx mt lv p l e R s m args below meth c A D σ0 n0 Q Fz) (hd : decode mt.2.1 pc = .ok (.astore_n v, nx - pc)) (hln : lenI (.astore_n v) = 0 ∨ nx = pc + lenI (.astore_n v)) (hpc : pc < aRET) (hnx : nx < aRET) (htg : tg < aRET) (hv : (v : Nat) = q.2.1 ∧ q.2.1 < mt.2.2.1) (h : sI mt (.astore_n v, nx, tg, q) pc ls st n M K) (hK : ∀ d, K d → aWA mt p l e R s m args below meth c A D σ0 n0 Q Fz d) : aWA mt p l e R s m args below meth c A D σ0 n0 Q Fz (pc, ls, st, n, M) := by
  obtain ⟨rfl, hdg⟩ := ln_1 (k := 1) hd hln rfl (by decide)
  simp only [sI] at h
  obtain ⟨hv, hlt⟩ := hv
  split at h
  · exact so_loc hpc hnx (fun hlen => (puL_len _ _).trans hlen) (hK _ h) (fun σ la H locs cells slots hlen hl k => lv_astore_n (cx_x C) (cx_b C) hdg hv hl hlt rfl (fun lb hb => k lb (lv_pu (by rw [hlen]; exact hlt) hb)))
  · exact h.elim
theorem so_lstore_n {v : Fin 4} (C : aCx mt lv p l e R s m args below meth c A D σ0 n0 Q Fz) (hd : decode mt.2.1 pc = .ok (.lstore_n v, nx - pc)) (hln : lenI (.lstore_n v) = 0 ∨ nx = pc + lenI (.lstore_n v)) (hpc : pc < aRET) (hnx : nx < aRET) (htg : tg < aRET) (hv : (v : Nat) = q.2.1 ∧ q.2.1 + 1 < mt.2.2.1) (h : sI mt (.lstore_n v, nx, tg, q) pc ls st n M K) (hK : ∀ d, K d → aWA mt p l e R s m args below meth c A D σ0 n0 Q Fz d) : aWA mt p l e R s m args below meth c A D σ0 n0 Q Fz (pc, ls, st, n, M) := by
  obtain ⟨rfl, hdg⟩ := ln_1 (k := 1) hd hln rfl (by decide)
  simp only [sI] at h
  obtain ⟨hv, hlt⟩ := hv
  split at h
  · exact so_loc hpc hnx (fun hlen => (puL2_len _ _ (by rw [hlen]; exact hlt)).trans hlen) (hK _ h) (fun σ la H locs cells slots hlen hl k => lv_lstore_n (cx_x C) (cx_b C) hdg hv hl hlt rfl (fun lb hb => k lb (lv_pu2 (by rw [hlen]; exact hlt) hb)))
  · exact h.elim
theorem so_iinc {v : Nat} {w : Int} (C : aCx mt lv p l e R s m args below meth c A D σ0 n0 Q Fz) (hd : decode mt.2.1 pc = .ok (.iinc v w, nx - pc)) (hln : lenI (.iinc v w) = 0 ∨ nx = pc + lenI (.iinc v w)) (hpc : pc < aRET) (hnx : nx < aRET) (htg : tg < aRET) (hv : v = q.2.1 ∧ q.2.1 < mt.2.2.1 ∧ Int32.ofInt w = q.2.2.2) (h : sI mt (.iinc v w, nx, tg, q) pc ls st n M K) (hK : ∀ d, K d → aWA mt p l e R s m args below meth c A D σ0 n0 Q Fz d) : aWA mt p l e R s m args below meth c A D σ0 n0 Q Fz (pc, ls, st, n, M) := by
  obtain ⟨rfl, hdg⟩ := ln_1 (k := 3) hd hln rfl (by decide)
  simp only [sI] at h
  obtain ⟨rfl, hlt, hw⟩ := hv
  split at h
  · next x hg =>
    refine so_loc hpc hnx (fun hlen => (puL_len _ _).trans hlen) (hK _ h) (fun σ la H locs cells slots hlen hl k => ?_)
    obtain ⟨j, hj⟩ := List.getElem?_of_mem (ascF_get (σ := σ) hg 0)
    rw [Nat.zero_add] at hj
    exact lv_iinc (cx_x C) (cx_b C) hdg hl hj (by rw [hw]) hlt rfl (fun lb hb => k lb (lv_pu (by rw [hlen]; exact hlt) hb))
  · exact h.elim
theorem so_goto {v : Int} (C : aCx mt lv p l e R s m args below meth c A D σ0 n0 Q Fz) (hd : decode mt.2.1 pc = .ok (.goto v, nx - pc)) (hln : lenI (.goto v) = 0 ∨ nx = pc + lenI (.goto v)) (hpc : pc < aRET) (hnx : nx < aRET) (htg : tg < aRET) (hv : (pc : Int) + v = (tg : Int)) (h : sI mt (.goto v, nx, tg, q) pc ls st n M K) (hK : ∀ d, K d → aWA mt p l e R s m args below meth c A D σ0 n0 Q Fz d) : aWA mt p l e R s m args below meth c A D σ0 n0 Q Fz (pc, ls, st, n, M) := by
  obtain ⟨rfl, hdg⟩ := ln_1 (k := 3) hd hln rfl (by decide)
  simp only [sI] at h
  exact so_pure hpc htg (hK _ h) (fun σ la H locs cells slots hl hS hO k => lv_goto (cx_x C) (cx_b C) hdg hv k)
theorem so_if_eq {v : Int} (C : aCx mt lv p l e R s m args below meth c A D σ0 n0 Q Fz) (hd : decode mt.2.1 pc = .ok (.ifCond .eq v, nx - pc)) (hln : lenI (.ifCond .eq v) = 0 ∨ nx = pc + lenI (.ifCond .eq v)) (hpc : pc < aRET) (hnx : nx < aRET) (htg : tg < aRET) (hv : (pc : Int) + v = (tg : Int)) (h : sI mt (.ifCond .eq v, nx, tg, q) pc ls st n M K) (hK : ∀ d, K d → aWA mt p l e R s m args below meth c A D σ0 n0 Q Fz d) : aWA mt p l e R s m args below meth c A D σ0 n0 Q Fz (pc, ls, st, n, M) := by
  obtain ⟨rfl, hdg⟩ := ln_1 (k := 3) hd hln rfl (by decide)
  simp only [sI] at h
  split at h
  · exact so_br hpc hnx htg (fun z => hK _ (h.1 z)) (fun z => hK _ (h.2 z)) (fun σ la H locs cells slots kt kf => lv_if_eq (cx_x C) (cx_b C) hdg hv kt kf)
  · exact h.elim
theorem so_if_ne {v : Int} (C : aCx mt lv p l e R s m args below meth c A D σ0 n0 Q Fz) (hd : decode mt.2.1 pc = .ok (.ifCond .ne v, nx - pc)) (hln : lenI (.ifCond .ne v) = 0 ∨ nx = pc + lenI (.ifCond .ne v)) (hpc : pc < aRET) (hnx : nx < aRET) (htg : tg < aRET) (hv : (pc : Int) + v = (tg : Int)) (h : sI mt (.ifCond .ne v, nx, tg, q) pc ls st n M K) (hK : ∀ d, K d → aWA mt p l e R s m args below meth c A D σ0 n0 Q Fz d) : aWA mt p l e R s m args below meth c A D σ0 n0 Q Fz (pc, ls, st, n, M) := by
  obtain ⟨rfl, hdg⟩ := ln_1 (k := 3) hd hln rfl (by decide)
  simp only [sI] at h
  split at h
  · exact so_br hpc hnx htg (fun z => hK _ (h.1 z)) (fun z => hK _ (h.2 z)) (fun σ la H locs cells slots kt kf => lv_if_ne (cx_x C) (cx_b C) hdg hv kt (fun z => kf (fun q => q z)))
  · exact h.elim
theorem so_if_lt {v : Int} (C : aCx mt lv p l e R s m args below meth c A D σ0 n0 Q Fz) (hd : decode mt.2.1 pc = .ok (.ifCond .lt v, nx - pc)) (hln : lenI (.ifCond .lt v) = 0 ∨ nx = pc + lenI (.ifCond .lt v)) (hpc : pc < aRET) (hnx : nx < aRET) (htg : tg < aRET) (hv : (pc : Int) + v = (tg : Int)) (h : sI mt (.ifCond .lt v, nx, tg, q) pc ls st n M K) (hK : ∀ d, K d → aWA mt p l e R s m args below meth c A D σ0 n0 Q Fz d) : aWA mt p l e R s m args below meth c A D σ0 n0 Q Fz (pc, ls, st, n, M) := by
  obtain ⟨rfl, hdg⟩ := ln_1 (k := 3) hd hln rfl (by decide)
  simp only [sI] at h
  split at h
  · exact so_br hpc hnx htg (fun z => hK _ (h.1 z)) (fun z => hK _ (h.2 z)) (fun σ la H locs cells slots kt kf => lv_if_lt (cx_x C) (cx_b C) hdg hv kt kf)
  · exact h.elim
theorem so_if_ge {v : Int} (C : aCx mt lv p l e R s m args below meth c A D σ0 n0 Q Fz) (hd : decode mt.2.1 pc = .ok (.ifCond .ge v, nx - pc)) (hln : lenI (.ifCond .ge v) = 0 ∨ nx = pc + lenI (.ifCond .ge v)) (hpc : pc < aRET) (hnx : nx < aRET) (htg : tg < aRET) (hv : (pc : Int) + v = (tg : Int)) (h : sI mt (.ifCond .ge v, nx, tg, q) pc ls st n M K) (hK : ∀ d, K d → aWA mt p l e R s m args below meth c A D σ0 n0 Q Fz d) : aWA mt p l e R s m args below meth c A D σ0 n0 Q Fz (pc, ls, st, n, M) := by
  obtain ⟨rfl, hdg⟩ := ln_1 (k := 3) hd hln rfl (by decide)
  simp only [sI] at h
  split at h
  · exact so_br hpc hnx htg (fun z => hK _ (h.1 z)) (fun z => hK _ (h.2 z)) (fun σ la H locs cells slots kt kf => lv_if_ge (cx_x C) (cx_b C) hdg hv kt kf)
  · exact h.elim
theorem so_if_gt {v : Int} (C : aCx mt lv p l e R s m args below meth c A D σ0 n0 Q Fz) (hd : decode mt.2.1 pc = .ok (.ifCond .gt v, nx - pc)) (hln : lenI (.ifCond .gt v) = 0 ∨ nx = pc + lenI (.ifCond .gt v)) (hpc : pc < aRET) (hnx : nx < aRET) (htg : tg < aRET) (hv : (pc : Int) + v = (tg : Int)) (h : sI mt (.ifCond .gt v, nx, tg, q) pc ls st n M K) (hK : ∀ d, K d → aWA mt p l e R s m args below meth c A D σ0 n0 Q Fz d) : aWA mt p l e R s m args below meth c A D σ0 n0 Q Fz (pc, ls, st, n, M) := by
  obtain ⟨rfl, hdg⟩ := ln_1 (k := 3) hd hln rfl (by decide)
  simp only [sI] at h
  split at h
  · exact so_br hpc hnx htg (fun z => hK _ (h.1 z)) (fun z => hK _ (h.2 z)) (fun σ la H locs cells slots kt kf => lv_if_gt (cx_x C) (cx_b C) hdg hv kt kf)
  · exact h.elim
theorem so_if_le {v : Int} (C : aCx mt lv p l e R s m args below meth c A D σ0 n0 Q Fz) (hd : decode mt.2.1 pc = .ok (.ifCond .le v, nx - pc)) (hln : lenI (.ifCond .le v) = 0 ∨ nx = pc + lenI (.ifCond .le v)) (hpc : pc < aRET) (hnx : nx < aRET) (htg : tg < aRET) (hv : (pc : Int) + v = (tg : Int)) (h : sI mt (.ifCond .le v, nx, tg, q) pc ls st n M K) (hK : ∀ d, K d → aWA mt p l e R s m args below meth c A D σ0 n0 Q Fz d) : aWA mt p l e R s m args below meth c A D σ0 n0 Q Fz (pc, ls, st, n, M) := by
  obtain ⟨rfl, hdg⟩ := ln_1 (k := 3) hd hln rfl (by decide)
  simp only [sI] at h
  split at h
  · exact so_br hpc hnx htg (fun z => hK _ (h.1 z)) (fun z => hK _ (h.2 z)) (fun σ la H locs cells slots kt kf => lv_if_le (cx_x C) (cx_b C) hdg hv kt kf)
  · exact h.elim
theorem so_icmp_eq {v : Int} (C : aCx mt lv p l e R s m args below meth c A D σ0 n0 Q Fz) (hd : decode mt.2.1 pc = .ok (.if_icmp .eq v, nx - pc)) (hln : lenI (.if_icmp .eq v) = 0 ∨ nx = pc + lenI (.if_icmp .eq v)) (hpc : pc < aRET) (hnx : nx < aRET) (htg : tg < aRET) (hv : (pc : Int) + v = (tg : Int)) (h : sI mt (.if_icmp .eq v, nx, tg, q) pc ls st n M K) (hK : ∀ d, K d → aWA mt p l e R s m args below meth c A D σ0 n0 Q Fz d) : aWA mt p l e R s m args below meth c A D σ0 n0 Q Fz (pc, ls, st, n, M) := by
  obtain ⟨rfl, hdg⟩ := ln_1 (k := 3) hd hln rfl (by decide)
  simp only [sI] at h
  split at h
  · exact so_br hpc hnx htg (fun z => hK _ (h.1 z)) (fun z => hK _ (h.2 z)) (fun σ la H locs cells slots kt kf => lv_icmp_eq (cx_x C) (cx_b C) hdg hv kt kf)
  · exact h.elim
theorem so_icmp_ne {v : Int} (C : aCx mt lv p l e R s m args below meth c A D σ0 n0 Q Fz) (hd : decode mt.2.1 pc = .ok (.if_icmp .ne v, nx - pc)) (hln : lenI (.if_icmp .ne v) = 0 ∨ nx = pc + lenI (.if_icmp .ne v)) (hpc : pc < aRET) (hnx : nx < aRET) (htg : tg < aRET) (hv : (pc : Int) + v = (tg : Int)) (h : sI mt (.if_icmp .ne v, nx, tg, q) pc ls st n M K) (hK : ∀ d, K d → aWA mt p l e R s m args below meth c A D σ0 n0 Q Fz d) : aWA mt p l e R s m args below meth c A D σ0 n0 Q Fz (pc, ls, st, n, M) := by
  obtain ⟨rfl, hdg⟩ := ln_1 (k := 3) hd hln rfl (by decide)
  simp only [sI] at h
  split at h
  · exact so_br hpc hnx htg (fun z => hK _ (h.1 z)) (fun z => hK _ (h.2 z)) (fun σ la H locs cells slots kt kf => lv_icmp_ne (cx_x C) (cx_b C) hdg hv kt (fun z => kf (fun q => q z)))
  · exact h.elim
theorem so_icmp_lt {v : Int} (C : aCx mt lv p l e R s m args below meth c A D σ0 n0 Q Fz) (hd : decode mt.2.1 pc = .ok (.if_icmp .lt v, nx - pc)) (hln : lenI (.if_icmp .lt v) = 0 ∨ nx = pc + lenI (.if_icmp .lt v)) (hpc : pc < aRET) (hnx : nx < aRET) (htg : tg < aRET) (hv : (pc : Int) + v = (tg : Int)) (h : sI mt (.if_icmp .lt v, nx, tg, q) pc ls st n M K) (hK : ∀ d, K d → aWA mt p l e R s m args below meth c A D σ0 n0 Q Fz d) : aWA mt p l e R s m args below meth c A D σ0 n0 Q Fz (pc, ls, st, n, M) := by
  obtain ⟨rfl, hdg⟩ := ln_1 (k := 3) hd hln rfl (by decide)
  simp only [sI] at h
  split at h
  · exact so_br hpc hnx htg (fun z => hK _ (h.1 z)) (fun z => hK _ (h.2 z)) (fun σ la H locs cells slots kt kf => lv_icmp_lt (cx_x C) (cx_b C) hdg hv kt kf)
  · exact h.elim
theorem so_icmp_ge {v : Int} (C : aCx mt lv p l e R s m args below meth c A D σ0 n0 Q Fz) (hd : decode mt.2.1 pc = .ok (.if_icmp .ge v, nx - pc)) (hln : lenI (.if_icmp .ge v) = 0 ∨ nx = pc + lenI (.if_icmp .ge v)) (hpc : pc < aRET) (hnx : nx < aRET) (htg : tg < aRET) (hv : (pc : Int) + v = (tg : Int)) (h : sI mt (.if_icmp .ge v, nx, tg, q) pc ls st n M K) (hK : ∀ d, K d → aWA mt p l e R s m args below meth c A D σ0 n0 Q Fz d) : aWA mt p l e R s m args below meth c A D σ0 n0 Q Fz (pc, ls, st, n, M) := by
  obtain ⟨rfl, hdg⟩ := ln_1 (k := 3) hd hln rfl (by decide)
  simp only [sI] at h
  split at h
  · exact so_br hpc hnx htg (fun z => hK _ (h.1 z)) (fun z => hK _ (h.2 z)) (fun σ la H locs cells slots kt kf => lv_icmp_ge (cx_x C) (cx_b C) hdg hv kt kf)
  · exact h.elim
theorem so_icmp_gt {v : Int} (C : aCx mt lv p l e R s m args below meth c A D σ0 n0 Q Fz) (hd : decode mt.2.1 pc = .ok (.if_icmp .gt v, nx - pc)) (hln : lenI (.if_icmp .gt v) = 0 ∨ nx = pc + lenI (.if_icmp .gt v)) (hpc : pc < aRET) (hnx : nx < aRET) (htg : tg < aRET) (hv : (pc : Int) + v = (tg : Int)) (h : sI mt (.if_icmp .gt v, nx, tg, q) pc ls st n M K) (hK : ∀ d, K d → aWA mt p l e R s m args below meth c A D σ0 n0 Q Fz d) : aWA mt p l e R s m args below meth c A D σ0 n0 Q Fz (pc, ls, st, n, M) := by
  obtain ⟨rfl, hdg⟩ := ln_1 (k := 3) hd hln rfl (by decide)
  simp only [sI] at h
  split at h
  · exact so_br hpc hnx htg (fun z => hK _ (h.1 z)) (fun z => hK _ (h.2 z)) (fun σ la H locs cells slots kt kf => lv_icmp_gt (cx_x C) (cx_b C) hdg hv kt kf)
  · exact h.elim
theorem so_icmp_le {v : Int} (C : aCx mt lv p l e R s m args below meth c A D σ0 n0 Q Fz) (hd : decode mt.2.1 pc = .ok (.if_icmp .le v, nx - pc)) (hln : lenI (.if_icmp .le v) = 0 ∨ nx = pc + lenI (.if_icmp .le v)) (hpc : pc < aRET) (hnx : nx < aRET) (htg : tg < aRET) (hv : (pc : Int) + v = (tg : Int)) (h : sI mt (.if_icmp .le v, nx, tg, q) pc ls st n M K) (hK : ∀ d, K d → aWA mt p l e R s m args below meth c A D σ0 n0 Q Fz d) : aWA mt p l e R s m args below meth c A D σ0 n0 Q Fz (pc, ls, st, n, M) := by
  obtain ⟨rfl, hdg⟩ := ln_1 (k := 3) hd hln rfl (by decide)
  simp only [sI] at h
  split at h
  · exact so_br hpc hnx htg (fun z => hK _ (h.1 z)) (fun z => hK _ (h.2 z)) (fun σ la H locs cells slots kt kf => lv_icmp_le (cx_x C) (cx_b C) hdg hv kt kf)
  · exact h.elim
theorem so_ldc {v : Nat} (C : aCx mt lv p l e R s m args below meth c A D σ0 n0 Q Fz) (hd : decode mt.2.1 pc = .ok (.ldc v, nx - pc)) (hln : lenI (.ldc v) = 0 ∨ nx = pc + lenI (.ldc v)) (hpc : pc < aRET) (hnx : nx < aRET) (htg : tg < aRET) (hv : lkW mt.1.cls v q) (h : sI mt (.ldc v, nx, tg, q) pc ls st n M K) (hK : ∀ d, K d → aWA mt p l e R s m args below meth c A D σ0 n0 Q Fz d) : aWA mt p l e R s m args below meth c A D σ0 n0 Q Fz (pc, ls, st, n, M) := by
  obtain ⟨rfl, hdg⟩ := ln_1 (k := 2) hd hln rfl (by decide)
  simp only [sI] at h
  obtain ⟨q1, q2, q3, q4⟩ := q
  dsimp only at h hv
  split at h
  · exact so_pure hpc hnx (hK _ h) (fun σ la H locs cells slots hl hS hO k => lv_ldc (cx_x C) (cx_b C) (cx_own C) (cx_ts C hv) hdg k)
  · refine so_pure hpc hnx (hK _ h) (fun σ la H locs cells slots hl hS hO k => ?_)
    have h1 := C.2.2.2.1.2.2.1 _ hv.2
    dsimp only at h1
    rw [← hO (100 + q2) (Or.inr (by omega))] at h1
    exact va_ldcS (cx_x C) (cx_b C) (cx_own C) h1 hdg k
  · exact h.elim
theorem so_ldc_w {v : Nat} (C : aCx mt lv p l e R s m args below meth c A D σ0 n0 Q Fz) (hd : decode mt.2.1 pc = .ok (.ldc_w v, nx - pc)) (hln : lenI (.ldc_w v) = 0 ∨ nx = pc + lenI (.ldc_w v)) (hpc : pc < aRET) (hnx : nx < aRET) (htg : tg < aRET) (hv : lkW mt.1.cls v q) (h : sI mt (.ldc_w v, nx, tg, q) pc ls st n M K) (hK : ∀ d, K d → aWA mt p l e R s m args below meth c A D σ0 n0 Q Fz d) : aWA mt p l e R s m args below meth c A D σ0 n0 Q Fz (pc, ls, st, n, M) := by
  obtain ⟨rfl, hdg⟩ := ln_1 (k := 3) hd hln rfl (by decide)
  simp only [sI] at h
  obtain ⟨q1, q2, q3, q4⟩ := q
  dsimp only at h hv
  split at h
  · exact so_pure hpc hnx (hK _ h) (fun σ la H locs cells slots hl hS hO k => lv_ldcw (cx_x C) (cx_b C) (cx_own C) (cx_ts C hv) hdg k)
  · exact h.elim
theorem so_ldc2_w {v : Nat} (C : aCx mt lv p l e R s m args below meth c A D σ0 n0 Q Fz) (hd : decode mt.2.1 pc = .ok (.ldc2_w v, nx - pc)) (hln : lenI (.ldc2_w v) = 0 ∨ nx = pc + lenI (.ldc2_w v)) (hpc : pc < aRET) (hnx : nx < aRET) (htg : tg < aRET) (hv : lkW mt.1.cls v q) (h : sI mt (.ldc2_w v, nx, tg, q) pc ls st n M K) (hK : ∀ d, K d → aWA mt p l e R s m args below meth c A D σ0 n0 Q Fz d) : aWA mt p l e R s m args below meth c A D σ0 n0 Q Fz (pc, ls, st, n, M) := by
  obtain ⟨rfl, hdg⟩ := ln_1 (k := 3) hd hln rfl (by decide)
  simp only [sI] at h
  obtain ⟨q1, q2, q3, q4⟩ := q
  dsimp only at h hv
  split at h
  · exact so_pure hpc hnx (hK _ h) (fun σ la H locs cells slots hl hS hO k => lv_ldc2 (cx_x C) (cx_b C) (cx_own C) (cx_ts C hv) hdg k)
  · exact h.elim
theorem so_getstatic {v : Nat} (C : aCx mt lv p l e R s m args below meth c A D σ0 n0 Q Fz) (hd : decode mt.2.1 pc = .ok (.getstatic v, nx - pc)) (hln : lenI (.getstatic v) = 0 ∨ nx = pc + lenI (.getstatic v)) (hpc : pc < aRET) (hnx : nx < aRET) (htg : tg < aRET) (hv : lkW mt.1.cls v q) (h : sI mt (.getstatic v, nx, tg, q) pc ls st n M K) (hK : ∀ d, K d → aWA mt p l e R s m args below meth c A D σ0 n0 Q Fz d) : aWA mt p l e R s m args below meth c A D σ0 n0 Q Fz (pc, ls, st, n, M) := by
  obtain ⟨rfl, hdg⟩ := ln_1 (k := 3) hd hln rfl (by decide)
  simp only [sI] at h
  obtain ⟨q1, q2, q3, q4⟩ := q
  dsimp only at h hv
  split at h
  · refine so_pure hpc hnx (hK _ h) (fun σ la H locs cells slots hl hS hO k => ?_)
    have h1 := (C.2.2.2.1.1 q2 hv.1.1 hv.1.2).1
    rw [← hO q2 (Or.inr (Nat.le_trans (by omega) hv.1.1))] at h1
    exact va_gets (cx_x C) (cx_b C) h1 hS (cx_own C) (cx_ts C hv.2) (fun _ z => z) hdg k
  · refine so_pure hpc hnx (hK _ h) (fun σ la H locs cells slots hl hS hO k => ?_)
    have h1 := (C.2.2.2.1.1 q2 hv.1.1 hv.1.2).1
    rw [← hO q2 (Or.inr (Nat.le_trans (by omega) hv.1.1))] at h1
    exact va_getsN (cx_x C) (cx_b C) h1 hS (cx_own C) (va_Nw.use rfl (C.2.2.2.1.2.2.2.1 _ hv.2)) (fun _ z => z) hdg k
  · exact so_pure hpc hnx (hK _ h) (fun σ la H locs cells slots hl hS hO k => va_gets (cx_x C) (cx_b C) C.2.2.2.1.2.2.2.2.1 hS (cx_own C) (cx_ts C hv) (fun _ z => z) hdg k)
  · rcases C.2.2.2.1.2.2.2.2.2.2 with z | z
    · exact so_pure hpc hnx (hK _ h.1) (fun σ la H locs cells slots hl hS hO k => va_gets (cx_x C) (cx_b C) z hS (cx_own C) (cx_ts C hv) (fun _ z => z) hdg k)
    · refine so_pure hpc hnx (hK _ h.2) (fun σ la H locs cells slots hl hS hO k => ?_)
      rw [← hO 500 (Or.inr (by omega))] at z
      exact va_gets (cx_x C) (cx_b C) z hS (cx_own C) (cx_ts C hv) (fun _ z => z) hdg k
  · exact h.elim
theorem so_tsw {d lo hi : Int} {offs : Array Int} (C : aCx mt lv p l e R s m args below meth c A D σ0 n0 Q Fz) (hd : decode mt.2.1 pc = .ok (.tableswitch d lo hi offs, nx - pc)) (hln : lenI (.tableswitch d lo hi offs) = 0 ∨ nx = pc + lenI (.tableswitch d lo hi offs)) (hpc : pc < aRET) (hnx : nx < aRET) (htg : tg < aRET) (hv : (lo = (Int32.ofInt lo).toInt ∧ hi = lo + offs.toList.length - 1 ∧ hi < 2147483647) ∧ ∀ o ∈ d :: offs.toList, 0 ≤ (pc : Int) + o ∧ (pc : Int) + o < 99999) (h : sI mt (.tableswitch d lo hi offs, nx, tg, q) pc ls st n M K) (hK : ∀ d, K d → aWA mt p l e R s m args below meth c A D σ0 n0 Q Fz d) : aWA mt p l e R s m args below meth c A D σ0 n0 Q Fz (pc, ls, st, n, M) := by
  simp only [sI] at h
  obtain ⟨⟨hlo, hhi, hmx⟩, hoff⟩ := hv
  split at h
  · next x st =>
    have hS := sw_sound _ _ h (by rw [← hlo]; omega)
    rw [← hlo] at hS
    rcases hS with ⟨j, o, h1, h2, h3⟩ | ⟨h1, h2⟩
    · have hj : j < offs.toList.length := (List.getElem?_eq_some_iff.mp h1).1
      have ho := hoff o (List.mem_cons_of_mem _ (List.mem_of_getElem? h1))
      have e1 : ((((pc : Int) + o).toNat : Nat) : Int) = (pc : Int) + o := Int.toNat_of_nonneg ho.1
      refine so_pure hpc (nx := ((pc : Int) + o).toNat) (by show _ < 99999; omega) (hK _ h3) (fun σ la H locs cells slots hl hS hO k => lv_tableIn (cx_x C) (cx_b C) hd (by omega) (by omega) (off := o) ?_ e1.symm k)
      rw [h2, show (lo + (j : Int) - lo).toNat = j by omega, ← Array.getElem?_toList]
      exact h1
    · have ho := hoff d List.mem_cons_self
      have e1 : ((((pc : Int) + d).toNat : Nat) : Int) = (pc : Int) + d := Int.toNat_of_nonneg ho.1
      exact so_pure hpc (nx := ((pc : Int) + d).toNat) (by show _ < 99999; omega) (hK _ h2) (fun σ la H locs cells slots hl hS hO k => lv_tableOut (cx_x C) (cx_b C) hd (by omega) e1.symm k)
  · exact h.elim
theorem so_ireturn (C : aCx mt lv p l e R s m args below meth c A D σ0 n0 Q Fz) (hd : decode mt.2.1 pc = .ok (.ireturn, nx - pc)) (hln : lenI (.ireturn) = 0 ∨ nx = pc + lenI (.ireturn)) (hpc : pc < aRET) (h : sI mt (.ireturn, nx, tg, q) pc ls st n M K) (hK : ∀ d, K d → aWA mt p l e R s m args below meth c A D σ0 n0 Q Fz d) : aWA mt p l e R s m args below meth c A D σ0 n0 Q Fz (pc, ls, st, n, M) := by
  obtain ⟨rfl, hdg⟩ := ln_1 (k := 1) hd hln rfl (by decide)
  simp only [sI] at h
  have fin : ∀ {st : List Value}, retI mt (.ireturn) st → K (aRET, [], st, n, M) → aWA mt p l e R s m args below meth c A D σ0 n0 Q Fz (pc, ls, st, n, M) := fun hr hk => ⟨fun z => absurd z (Nat.ne_of_lt hpc), fun _ σ τ H locs la hF _ _ => C.2.2.2.2.2.2.2.2 pc _ _ n M σ τ H locs la hr hdg ((hK _ hk).1 rfl) hF⟩
  split at h
  · split at h
    · next hr => exact fin ⟨_, hr, rfl⟩ h
    · next hr => exact fin ⟨_, hr, by rcases h.1 with z | z <;> rw [z] <;> rfl⟩ h.2
    · next hr => exact fin ⟨_, hr, h.1⟩ h.2
    · next hr => exact fin ⟨_, hr, h.1⟩ h.2
    · exact h.elim
  · exact h.elim
theorem so_lreturn (C : aCx mt lv p l e R s m args below meth c A D σ0 n0 Q Fz) (hd : decode mt.2.1 pc = .ok (.lreturn, nx - pc)) (hln : lenI (.lreturn) = 0 ∨ nx = pc + lenI (.lreturn)) (hpc : pc < aRET) (h : sI mt (.lreturn, nx, tg, q) pc ls st n M K) (hK : ∀ d, K d → aWA mt p l e R s m args below meth c A D σ0 n0 Q Fz d) : aWA mt p l e R s m args below meth c A D σ0 n0 Q Fz (pc, ls, st, n, M) := by
  obtain ⟨rfl, hdg⟩ := ln_1 (k := 1) hd hln rfl (by decide)
  simp only [sI] at h
  have fin : ∀ {st : List Value}, retI mt (.lreturn) st → K (aRET, [], st, n, M) → aWA mt p l e R s m args below meth c A D σ0 n0 Q Fz (pc, ls, st, n, M) := fun hr hk => ⟨fun z => absurd z (Nat.ne_of_lt hpc), fun _ σ τ H locs la hF _ _ => C.2.2.2.2.2.2.2.2 pc _ _ n M σ τ H locs la hr hdg ((hK _ hk).1 rfl) hF⟩
  split at h
  · split at h
    · next hr => exact fin hr h
    · exact h.elim
  · exact h.elim
theorem so_areturn (C : aCx mt lv p l e R s m args below meth c A D σ0 n0 Q Fz) (hd : decode mt.2.1 pc = .ok (.areturn, nx - pc)) (hln : lenI (.areturn) = 0 ∨ nx = pc + lenI (.areturn)) (hpc : pc < aRET) (h : sI mt (.areturn, nx, tg, q) pc ls st n M K) (hK : ∀ d, K d → aWA mt p l e R s m args below meth c A D σ0 n0 Q Fz d) : aWA mt p l e R s m args below meth c A D σ0 n0 Q Fz (pc, ls, st, n, M) := by
  obtain ⟨rfl, hdg⟩ := ln_1 (k := 1) hd hln rfl (by decide)
  simp only [sI] at h
  have fin : ∀ {st : List Value}, retI mt (.areturn) st → K (aRET, [], st, n, M) → aWA mt p l e R s m args below meth c A D σ0 n0 Q Fz (pc, ls, st, n, M) := fun hr hk => ⟨fun z => absurd z (Nat.ne_of_lt hpc), fun _ σ τ H locs la hF _ _ => C.2.2.2.2.2.2.2.2 pc _ _ n M σ τ H locs la hr hdg ((hK _ hk).1 rfl) hF⟩
  split at h
  · split at h
    · next hr => exact fin ⟨_, hr⟩ h
    · exact h.elim
  · exact h.elim
theorem so_return_ (C : aCx mt lv p l e R s m args below meth c A D σ0 n0 Q Fz) (hd : decode mt.2.1 pc = .ok (.return_, nx - pc)) (hln : lenI (.return_) = 0 ∨ nx = pc + lenI (.return_)) (hpc : pc < aRET) (h : sI mt (.return_, nx, tg, q) pc ls st n M K) (hK : ∀ d, K d → aWA mt p l e R s m args below meth c A D σ0 n0 Q Fz d) : aWA mt p l e R s m args below meth c A D σ0 n0 Q Fz (pc, ls, st, n, M) := by
  obtain ⟨rfl, hdg⟩ := ln_1 (k := 1) hd hln rfl (by decide)
  simp only [sI] at h
  have fin : ∀ {st : List Value}, retI mt (.return_) st → K (aRET, [], st, n, M) → aWA mt p l e R s m args below meth c A D σ0 n0 Q Fz (pc, ls, st, n, M) := fun hr hk => ⟨fun z => absurd z (Nat.ne_of_lt hpc), fun _ σ τ H locs la hF _ _ => C.2.2.2.2.2.2.2.2 pc _ _ n M σ τ H locs la hr hdg ((hK _ hk).1 rfl) hF⟩
  split at h
  · split at h
    · next hr => exact fin hr h
    · exact h.elim
  · exact h.elim
end SO3
end
section
/-! ===== the step function is right: cells; printed by wip/whole/mk09.py ===== -/
theorem vw_at {ci : Nat} (h : ci < 7) : vwCl[ci]? = some (nmC ci, tbC ci, nfC ci) := by
  rcases (show ci = 0 ∨ ci = 1 ∨ ci = 2 ∨ ci = 3 ∨ ci = 4 ∨ ci = 5 ∨ ci = 6 by omega) with rfl | rfl | rfl | rfl | rfl | rfl | rfl <;> rfl
theorem tyC_ok {ci : Nat} (h : ci < 7) : ∀ k, k < nfC ci → parseFieldDescriptor (tbC ci k).2.2.1 = some (tyC ci k) := by
  rcases (show ci = 0 ∨ ci = 1 ∨ ci = 2 ∨ ci = 3 ∨ ci = 4 ∨ ci = 5 ∨ ci = 6 by omega) with rfl | rfl | rfl | rfl | rfl | rfl | rfl
  · exact tyX0_ok
  · exact tyX1_ok
  · exact tyX2_ok
  · exact tyX3_ok
  · exact tyX4_ok
  · exact tyX5_ok
  · exact tyX6_ok
theorem nmC_ok {ci : Nat} (h : ci < 7) : ∀ a, a < nfC ci → ∀ b, b < nfC ci → a ≠ b → (tbC ci a).2.1 ≠ (tbC ci b).2.1 := by
  rcases (show ci = 0 ∨ ci = 1 ∨ ci = 2 ∨ ci = 3 ∨ ci = 4 ∨ ci = 5 ∨ ci = 6 by omega) with rfl | rfl | rfl | rfl | rfl | rfl | rfl
  · exact nmX0
  · exact nmX1
  · exact nmX2
  · exact nmX3
  · exact nmX4
  · exact nmX5
  · exact nmX6
theorem us_0 : ∀ ci, ci < 7 → ∀ w ∈ u_ws (nmC ci) (tbC ci) (nfC ci), w ∈ lw_tbl ∧ goodWord w = true := by decide +kernel
theorem us_in {ci : Nat} (h : ci < 7) : ∀ w ∈ u_ws (nmC ci) (tbC ci) (nfC ci), w ∈ gw := fun w hw => gw_in (us_0 ci h w hw).1 (us_0 ci h w hw).2
theorem ce_obj {σ τ : Nat → Nat} {M : aMem} {a ci : Nat} (h : shp a = (0, ci)) : ce σ τ M a = .inr (ci, (List.range (nfC ci)).map fun k => if isRf ci k = true then va_rf ((M.2.2 a k).map σ) else .int (M.1 a k)) := by
  simp only [ce, h]
theorem ce_int {σ τ : Nat → Nat} {M : aMem} {a z : Nat} (h : shp a = (1, z)) : ce σ τ M a = .inl (τ a, z, .inl (M.1 a)) := by
  simp only [ce, h]
theorem ce_long {σ τ : Nat → Nat} {M : aMem} {a z : Nat} (h : shp a = (2, z)) : ce σ τ M a = .inl (τ a, z, .inr (.inl (M.2.1 a))) := by
  simp only [ce, h]
theorem ce_ref {σ τ : Nat → Nat} {M : aMem} {a z : Nat} (h : shp a = (3, z)) : ce σ τ M a = .inl (τ a, z, .inr (.inr (.inr (.inr fun j => (M.2.2 a j).map σ)))) := by
  simp only [ce, h]
theorem ce_ext {σ τ : Nat → Nat} {M M' : aMem} {a : Nat} (h1 : M'.1 a = M.1 a) (h2 : M'.2.1 a = M.2.1 a) (h3 : M'.2.2 a = M.2.2 a) : ce σ τ M' a = ce σ τ M a := by
  simp only [ce, h1, h2, h3]
theorem ce_addr {σ σ' τ τ' : Nat → Nat} {M : aMem} {a : Nat} (ht : τ' a = τ a) (h : ∀ k b, M.2.2 a k = some b → σ' b = σ b) : ce σ' τ' M a = ce σ τ M a := by
  have e : ∀ k, (M.2.2 a k).map σ' = (M.2.2 a k).map σ := by
    intro k
    cases hk : M.2.2 a k with
    | none => rfl
    | some b => simp [h k b hk]
  simp only [ce, e, ht]
theorem rl_id {n : Nat} {h h' : Nat → Nat → Int32} {g g' : Nat → Nat → Int64} {r : Nat → Nat → Option Nat} (z : aRL n (h, g, r)) : aRL n (h', g', r) := z
theorem rl_up {n o k x : Nat} {M : aMem} (hx : x < n) (h : aRL n M) : aRL n (M.1, M.2.1, up2 M.2.2 o k (some x)) := by
  intro a ha j y hy
  simp only [up2] at hy
  split at hy
  · split at hy
    · cases hy; exact hx
    · exact h a ha j y hy
  · exact h a ha j y hy
theorem up2_row {α : Type} {h : Nat → Nat → α} {a k : Nat} {x : α} {b : Nat} (hb : b ≠ a) : up2 h a k x b = h b := by
  funext j
  simp [up2, hb]
theorem up2_self {h : Nat → Nat → Int32} {a k : Nat} {x : Int32} : up2 h a k x a = upd (h a) k x := by
  funext j
  simp [up2, upd]
theorem up2_selfL {h : Nat → Nat → Int64} {a k : Nat} {x : Int64} : up2 h a k x a = vp_updL (h a) k x := by
  funext j
  simp [up2, vp_updL]
theorem upR_row {α : Type} {h : Nat → Nat → α} {a : Nat} {f : Nat → α} {b : Nat} (hb : b ≠ a) : upR h a f b = h b := by
  simp [upR, hb]
theorem upR_self {α : Type} {h : Nat → Nat → α} {a : Nat} {f : Nat → α} : upR h a f a = f := by
  simp [upR]
section SO4
variable {mt : aM} {lv : Nat} {p : Program} {l : Launch} {e : Env} {R : Room} {s : State} {m : MethodId} {args : Array Value} {below : List Frame} {meth : Method} {c : Code} {A : Nat → Prop} {D : va_G} {σ0 : Nat → Nat} {n0 : Nat} {Q : State → Prop} {Fz : List Value → Nat → aMem → Prop} {pc nx tg : Nat} {q : aQ} {ls : List (Option Value)} {st : List Value} {n : Nat} {M : aMem} {K : aCfg → Prop}
theorem cx_K1 (C : aCx mt lv p l e R s m args below meth c A D σ0 n0 Q Fz) {σ τ : Nat → Nat} {H : Heap} {locs : List Loc} (hF : aFa A D σ0 n0 mt.2.2.2.2.1.2.2 s σ τ n M H locs) {a : Nat} (ha : a < n) {ty : FieldType} (ht : tyA (shp a) = some ty) : va_K D vwCl [(τ a, ty)] s :=
  ⟨C.2.2.1.1, fun k q hk => by
    match k, hk with
    | 0, hk => cases hk; exact hF.2.2.1 a ha ty ht
    | k + 1, hk => simp at hk⟩
theorem w_tld {cc : ByteArray} (hx : p.tables.exec = Jvm.exec) (hb : c.code = cc) {H : Heap} {locs : List Loc} {cells slots : Nat} {t N : Nat} {f : Nat → Int32} (hT : va_T .int t N (fun j => .int (f j)) A s s.heap) (hS : va_S A s.heap H locs) {i : Int32} (hin : vp_in i N) {la : Array Slot} {rest : List Value} (hdg : decode cc pc = .ok (.iaload, 1))
    (kk : W p l e R s m args below meth c H locs cells slots Q (F0 m (pc + 1) la (.int (f i.toNatClampNeg) :: rest))) : W p l e R s m args below meth c H locs cells slots Q (F0 m pc la (.int i :: .ref t :: rest)) := by
  obtain ⟨cell, h1, h2, h3, h4, h5, h6, h7⟩ := hT
  have hlt : t < s.heap.size := (Array.getElem?_eq_some_iff.mp h1).1
  have hc : H[t]? = some cell := (hS.2.1 t hlt h7).trans h1
  have hi : ¬ i < 0 ∧ i.toNatClampNeg < N := ⟨fun z => hin (Or.inl z), Nat.lt_of_not_le fun z => hin (Or.inr z)⟩
  exact W.iald hx hb hc h2 h3 (fun z => by rcases z with z | z; exact hi.1 z; exact absurd (Nat.lt_of_lt_of_le hi.2 h4) (Nat.not_lt.mpr z)) (h6 _ hi.2) rfl rfl hdg kk
theorem w_tlb {cc : ByteArray} (hx : p.tables.exec = Jvm.exec) (hb : c.code = cc) {H : Heap} {locs : List Loc} {cells slots : Nat} {t N : Nat} {f : Nat → Int32} (hT : va_T .byte t N (fun j => .int (f j)) A s s.heap) (hS : va_S A s.heap H locs) {i : Int32} (hin : vp_in i N) {la : Array Slot} {rest : List Value} (hdg : decode cc pc = .ok (.baload, 1))
    (kk : W p l e R s m args below meth c H locs cells slots Q (F0 m (pc + 1) la (.int (f i.toNatClampNeg) :: rest))) : W p l e R s m args below meth c H locs cells slots Q (F0 m pc la (.int i :: .ref t :: rest)) := by
  obtain ⟨cell, h1, h2, h3, h4, h5, h6, h7⟩ := hT
  have hlt : t < s.heap.size := (Array.getElem?_eq_some_iff.mp h1).1
  have hc : H[t]? = some cell := (hS.2.1 t hlt h7).trans h1
  have hi : ¬ i < 0 ∧ i.toNatClampNeg < N := ⟨fun z => hin (Or.inl z), Nat.lt_of_not_le fun z => hin (Or.inr z)⟩
  exact W.bald hx hb hc h2 h3 (fun z => by rcases z with z | z; exact hi.1 z; exact absurd (Nat.lt_of_lt_of_le hi.2 h4) (Nat.not_lt.mpr z)) (h6 _ hi.2) rfl rfl hdg kk
theorem w_tlen {cc : ByteArray} (hx : p.tables.exec = Jvm.exec) (hb : c.code = cc) {H : Heap} {locs : List Loc} {cells slots : Nat} {ty : FieldType} {t N : Nat} {f : Nat → Value} (hT : va_T ty t N f A s s.heap) (hS : va_S A s.heap H locs) {la : Array Slot} {rest : List Value} (hdg : decode cc pc = .ok (.arraylength, 1))
    (kk : W p l e R s m args below meth c H locs cells slots Q (F0 m (pc + 1) la (.int (Int32.ofNat N) :: rest))) : W p l e R s m args below meth c H locs cells slots Q (F0 m pc la (.ref t :: rest)) := by
  obtain ⟨cell, h1, h2, h3, h4, h5, h6, h7⟩ := hT
  have hlt : t < s.heap.size := (Array.getElem?_eq_some_iff.mp h1).1
  have hc : H[t]? = some cell := (hS.2.1 t hlt h7).trans h1
  exact W.alen hx hb hc h2 h5 rfl rfl hdg kk
theorem fs_at {σ : Nat → Nat} {M : aMem} {o ci k : Nat} (hk : k < nfC ci) : ((List.range (nfC ci)).map fun k => if isRf ci k = true then va_rf ((M.2.2 o k).map σ) else Value.int (M.1 o k))[k]? = some (if isRf ci k = true then va_rf ((M.2.2 o k).map σ) else Value.int (M.1 o k)) := by
  simp [hk]
theorem shp_all : ∀ a, a < 402 → (((shp a).1 = 4 → 100 ≤ a ∧ a < 114) ∧ ((shp a).1 = 5 → 200 ≤ a ∧ a < 214 ∧ (shp a).2 = strLen.getD (a - 200) 0) ∧ ((shp a).1 = 6 → 300 ≤ a ∧ a ≤ 304 ∧ (shp a).2 = (sarL a).length) ∧ ((shp a).1 = 7 → a = 400)) := by decide +kernel
theorem shp_lt {a : Nat} {k z : Nat} (h : shp a = (k, z)) (hk : k ≠ 9) : a < 402 := by
  rcases Nat.lt_or_ge a 402 with q | q
  · exact q
  · rw [shp_big (by omega)] at h
    exact absurd (congrArg Prod.fst h).symm hk
theorem str_o {a z : Nat} (h : shp a = (4, z)) : ∃ i, a = 100 + i ∧ i < strN := by
  have h1 := (shp_all a (shp_lt h (by decide))).1 (by rw [h])
  exact ⟨a - 100, by omega, by show _ < 14; omega⟩
theorem str_b {a z : Nat} (h : shp a = (5, z)) : ∃ i, a = 200 + i ∧ i < strN ∧ z = strLen.getD i 0 := by
  have h1 := (shp_all a (shp_lt h (by decide))).2.1 (by rw [h])
  rw [h] at h1
  exact ⟨a - 200, by omega, by show _ < 14; omega, h1.2.2⟩
theorem sar_o {a z : Nat} (h : shp a = (6, z)) : 300 ≤ a ∧ a ≤ 304 ∧ z = (sarL a).length := by
  have h1 := (shp_all a (shp_lt h (by decide))).2.2.1 (by rw [h])
  rw [h] at h1
  exact h1
theorem scr_o {a z : Nat} (h : shp a = (7, z)) : a = 400 := (shp_all a (shp_lt h (by decide))).2.2.2 (by rw [h])
theorem so_getfield {v : Nat} (C : aCx mt lv p l e R s m args below meth c A D σ0 n0 Q Fz) (hd : decode mt.2.1 pc = .ok (.getfield v, nx - pc)) (hln : lenI (.getfield v) = 0 ∨ nx = pc + lenI (.getfield v)) (hpc : pc < aRET) (hnx : nx < aRET) (htg : tg < aRET) (hv : lkW mt.1.cls v q) (h : sI mt (.getfield v, nx, tg, q) pc ls st n M K) (hK : ∀ d, K d → aWA mt p l e R s m args below meth c A D σ0 n0 Q Fz d) : aWA mt p l e R s m args below meth c A D σ0 n0 Q Fz (pc, ls, st, n, M) := by
  obtain ⟨rfl, hdg⟩ := ln_1 (k := 3) hd hln rfl (by decide)
  simp only [sI] at h
  obtain ⟨q1, q2, q3, q4⟩ := q
  dsimp only at h hv
  split at h
  · next o st =>
    split at h
    · split at h
      · next ci hsh =>
        split at h
        · next hc =>
          simp only [Bool.and_eq_true, Nat.blt_eq] at hc
          obtain ⟨hbe, hlt⟩ := hc
          obtain rfl := Nat.eq_of_beq_eq_true hbe
          split at h
          · next hr =>
            refine so_look hpc hnx (hK _ h) (fun σ τ la H locs cells slots hl hF k => ?_)
            have he := wd_at (σ := σ) (τ := τ) (M := M) hlt
            rw [ce_obj hsh] at he
            refine va_get (cx_x C) (cx_b C) (ref := (tbC ci q3).1) C.2.1 (us_in hv.1) (cx_own C) C.2.2.1 hF.2.2.2.1 o he (vw_at hv.1) q3 hv.2.1 (cx_ts C hv.2.2) (fun _ z => z) (fs_at hv.2.1) hdg ?_
            rw [if_pos hr]
            simp only [List.map_cons, cv_rf] at k
            exact k
          · next hr =>
            refine so_look hpc hnx (hK _ h) (fun σ τ la H locs cells slots hl hF k => ?_)
            have he := wd_at (σ := σ) (τ := τ) (M := M) hlt
            rw [ce_obj hsh] at he
            refine va_get (cx_x C) (cx_b C) (ref := (tbC ci q3).1) C.2.1 (us_in hv.1) (cx_own C) C.2.2.1 hF.2.2.2.1 o he (vw_at hv.1) q3 hv.2.1 (cx_ts C hv.2.2) (fun _ z => z) (fs_at hv.2.1) hdg ?_
            rw [if_neg (by rw [hr]; exact Bool.false_ne_true)]
            exact k
        · exact h.elim
      · exact h.elim
    · split at h
      · next hsh =>
        obtain ⟨i, rfl, hi⟩ := str_o hsh
        refine so_look hpc hnx (hK _ h) (fun σ τ la H locs cells slots hl hF k => ?_)
        have h1 := (C.2.2.2.1.2.1.1 i hi).2.2.1
        dsimp only at h1
        rw [← hF.1 (100 + i) (Or.inr (by omega)), ← hF.1 (200 + i) (Or.inr (by omega))] at h1
        rw [show 100 + i + 100 = 200 + i by omega] at k
        exact vk_getf (cx_x C) (cx_b C) h1 hF.2.2.2.2.2 (cx_own C) (cx_ts C hv) (fun _ z => z) hdg k
      · exact h.elim
    · split at h
      · next hsh =>
        obtain ⟨i, rfl, hi⟩ := str_o hsh
        refine so_look hpc hnx (hK _ h) (fun σ τ la H locs cells slots hl hF k => ?_)
        have h1 := (C.2.2.2.1.2.1.1 i hi).2.1
        dsimp only at h1
        rw [← hF.1 (100 + i) (Or.inr (by omega))] at h1
        exact vk_getf (cx_x C) (cx_b C) h1 hF.2.2.2.2.2 (cx_own C) (cx_ts C hv) (fun _ z => z) hdg k
      · exact h.elim
    · exact h.elim
  · exact h.elim
theorem rf_all : ∀ ci, ci < 7 → ∀ k, k < nfC ci → isRf ci k = true → (tyC ci k = .int → False) ∧ (match tyC ci k with | .object _ => true | .array _ => true | _ => false) = true := by decide +kernel
theorem rf_fit {ci k : Nat} (h : ci < 7) (hk : k < nfC ci) (hr : isRf ci k = true) {a : Nat} : narrow (tyC ci k) (.ref a) = .ref a ∧ fits (tyC ci k) (.ref a) = true := by
  have h1 := (rf_all ci h k hk hr).2
  split at h1
  · next z => rw [z]; exact ⟨rfl, rfl⟩
  · next z => rw [z]; exact ⟨rfl, rfl⟩
  · cases h1
theorem so_putfield {v : Nat} (C : aCx mt lv p l e R s m args below meth c A D σ0 n0 Q Fz) (hd : decode mt.2.1 pc = .ok (.putfield v, nx - pc)) (hln : lenI (.putfield v) = 0 ∨ nx = pc + lenI (.putfield v)) (hpc : pc < aRET) (hnx : nx < aRET) (htg : tg < aRET) (hv : lkW mt.1.cls v q) (h : sI mt (.putfield v, nx, tg, q) pc ls st n M K) (hK : ∀ d, K d → aWA mt p l e R s m args below meth c A D σ0 n0 Q Fz d) : aWA mt p l e R s m args below meth c A D σ0 n0 Q Fz (pc, ls, st, n, M) := by
  obtain ⟨rfl, hdg⟩ := ln_1 (k := 3) hd hln rfl (by decide)
  simp only [sI] at h
  obtain ⟨q1, q2, q3, q4⟩ := q
  dsimp only at h hv
  split at h
  · next x o st =>
    split at h
    · split at h
      · next ci hsh =>
        split at h
        · next hc =>
          simp only [Bool.and_eq_true, Nat.blt_eq, Bool.not_eq_true'] at hc
          obtain ⟨⟨⟨hbe, hlt⟩, hr⟩, hfin⟩ := hc
          obtain rfl := Nat.eq_of_beq_eq_true hbe
          refine so_mem hpc hnx rl_id (hK _ h.2) (fun σ τ la H locs cells slots hl hF k => ?_)
          have he := wd_at (σ := σ) (τ := τ) (M := M) hlt
          rw [ce_obj hsh] at he
          have hty : tyC ci q3 = .int ∨ tyC ci q3 = .boolean := by
            simp only [isRf] at hr
            split at hr
            · next z => exact Or.inl z
            · next z => exact Or.inr z
            · cases hr
          have hnar : narrow (tyC ci q3) (.int x) = .int x ∧ fits (tyC ci q3) (.int x) = true := by
            rcases hty with z | z
            · rw [z]; exact ⟨rfl, rfl⟩
            · rw [z]
              rcases h.1 (by simp only [isBl, z]) with y | y
              · rw [y]; exact ⟨rfl, rfl⟩
              · rw [y]; exact ⟨rfl, rfl⟩
          refine va_put (cx_x C) (cx_b C) (ref := (tbC ci q3).1) C.2.1 (us_in hv.1) (tyC ci) (tyC_ok hv.1) (nmC_ok hv.1) (cx_own C) C.2.2.1 hF.2.2.2.1 hF.2.2.2.2.1 hF.2.2.2.2.2 o he (vw_at hv.1) q3 hv.2.1 (cx_ts C hv.2.2) (fun _ z => z) hfin (tyC_ok hv.1 q3 hv.2.1) hnar.1 hnar.2 (by simpa using hv.2.1) hdg (fun H1 locs1 g1 g2 g3 => ?_)
          have e1 : (wd σ τ n M).set o (σ o, .inr (ci, ((List.range (nfC ci)).map fun k => if isRf ci k = true then va_rf ((M.2.2 o k).map σ) else Value.int (M.1 o k)).set q3 (.int x))) = wd σ τ n (up2 M.1 o q3 x, M.2) := by
            refine wd_set hlt ?_ (fun b hb => ce_ext (up2_row hb) rfl rfl)
            rw [ce_obj hsh]
            congr 2
            apply List.ext_getElem?
            intro j
            rw [List.getElem?_set]
            by_cases hj : j < nfC ci
            · by_cases hj2 : q3 = j
              · subst hj2
                simp [hj, hr, up2]
              · simp [hj, hj2, up2, Ne.symm hj2]
            · have : ¬ q3 = j := fun z => hj (z ▸ hv.2.1)
              simp [hj, this]
          exact k H1 locs1 (by rw [← e1]; exact g1) (by rw [← e1]; exact g2) g3
        · exact h.elim
      · exact h.elim
    · exact h.elim
  · next x o st =>
    split at h
    · split at h
      · next ci hsh =>
        split at h
        · next hc =>
          simp only [Bool.and_eq_true, Nat.blt_eq] at hc
          obtain ⟨⟨⟨⟨hbe, hlt⟩, hr⟩, hfin⟩, hlx⟩ := hc
          obtain rfl := Nat.eq_of_beq_eq_true hbe
          refine so_mem hpc hnx (rl_up hlx) (hK _ h.2) (fun σ τ la H locs cells slots hl hF k => ?_)
          have he := wd_at (σ := σ) (τ := τ) (M := M) hlt
          rw [ce_obj hsh] at he
          have hnar : narrow (tyC ci q3) (.ref (σ x)) = .ref (σ x) ∧ fits (tyC ci q3) (.ref (σ x)) = true := rf_fit hv.1 hv.2.1 hr
          refine va_putF (cx_x C) (cx_b C) (ref := (tbC ci q3).1) C.2.1 (us_in hv.1) (tyC ci) (tyC_ok hv.1) (nmC_ok hv.1) (cx_own C) C.2.2.1 hF.2.2.2.1 hF.2.2.2.2.1 hF.2.2.2.2.2 o he (vw_at hv.1) q3 hv.2.1 (cx_ts C hv.2.2) (fun _ z => z) hfin (C.1.2.2.2.1.trans h.1.1) h.1.2 (tyC_ok hv.1 q3 hv.2.1) hnar.1 hnar.2 (by simpa using hv.2.1) hdg (fun H1 locs1 g1 g2 g3 => ?_)
          have e1 : (wd σ τ n M).set o (σ o, .inr (ci, ((List.range (nfC ci)).map fun k => if isRf ci k = true then va_rf ((M.2.2 o k).map σ) else Value.int (M.1 o k)).set q3 (.ref (σ x)))) = wd σ τ n (M.1, M.2.1, up2 M.2.2 o q3 (some x)) := by
            refine wd_set hlt ?_ (fun b hb => ce_ext rfl rfl (up2_row hb))
            rw [ce_obj hsh]
            congr 2
            apply List.ext_getElem?
            intro j
            rw [List.getElem?_set]
            by_cases hj : j < nfC ci
            · by_cases hj2 : q3 = j
              · subst hj2
                simp [hj, hr, up2, va_rf]
              · simp [hj, hj2, up2, Ne.symm hj2]
            · have : ¬ q3 = j := fun z => hj (z ▸ hv.2.1)
              simp [hj, this]
          exact k H1 locs1 (by rw [← e1]; exact g1) (by rw [← e1]; exact g2) g3
        · exact h.elim
      · exact h.elim
    · exact h.elim
  · exact h.elim
theorem so_iaload (C : aCx mt lv p l e R s m args below meth c A D σ0 n0 Q Fz) (hd : decode mt.2.1 pc = .ok (.iaload, nx - pc)) (hln : lenI (.iaload) = 0 ∨ nx = pc + lenI (.iaload)) (hpc : pc < aRET) (hnx : nx < aRET) (htg : tg < aRET) (h : sI mt (.iaload, nx, tg, q) pc ls st n M K) (hK : ∀ d, K d → aWA mt p l e R s m args below meth c A D σ0 n0 Q Fz d) : aWA mt p l e R s m args below meth c A D σ0 n0 Q Fz (pc, ls, st, n, M) := by
  obtain ⟨rfl, hdg⟩ := ln_1 (k := 1) hd hln rfl (by decide)
  simp only [sI] at h
  split at h
  · next i o st =>
    split at h
    · next z hsh =>
      split at h
      · next hlt =>
        rw [Nat.blt_eq] at hlt
        refine so_look hpc hnx (hK _ h.2) (fun σ τ la H locs cells slots hl hF k => ?_)
        have he := wd_at (σ := σ) (τ := τ) (M := M) hlt
        rw [ce_int hsh] at he
        exact va_iald (cx_x C) (cx_b C) (cx_K1 C hF hlt (by rw [hsh]; rfl)) hF.2.2.2.1 o 0 he rfl h.1 hdg k
      · exact h.elim
    · next z hsh =>
      obtain ⟨h1, h2, rfl⟩ := sar_o hsh
      refine so_look hpc hnx (hK _ h.2) (fun σ τ la H locs cells slots hl hF k => ?_)
      have hT := (C.2.2.2.1.1 o h1 h2).2
      rw [← hF.1 o (Or.inr (by omega))] at hT
      exact w_tld (cx_x C) (cx_b C) hT hF.2.2.2.2.2 h.1 hdg k
    · next z hsh =>
      obtain rfl := scr_o hsh
      refine so_look hpc hnx (hK _ h.2) (fun σ τ la H locs cells slots hl hF k => ?_)
      rcases C.2.2.2.2.2.2.2.1 with z | ⟨z1, z2, z3⟩
      · exact absurd h.1 (by rw [z]; exact fun y => y (Or.inr (Nat.zero_le _)))
      · rw [← hF.1 400 (Or.inr (by omega))] at z1 z2 z3
        exact va_sld (cx_x C) (cx_b C) z1 z2 z3 hF.2.2.2.2.2 h.1 hdg k
    · exact h.elim
  · exact h.elim
theorem so_baload (C : aCx mt lv p l e R s m args below meth c A D σ0 n0 Q Fz) (hd : decode mt.2.1 pc = .ok (.baload, nx - pc)) (hln : lenI (.baload) = 0 ∨ nx = pc + lenI (.baload)) (hpc : pc < aRET) (hnx : nx < aRET) (htg : tg < aRET) (h : sI mt (.baload, nx, tg, q) pc ls st n M K) (hK : ∀ d, K d → aWA mt p l e R s m args below meth c A D σ0 n0 Q Fz d) : aWA mt p l e R s m args below meth c A D σ0 n0 Q Fz (pc, ls, st, n, M) := by
  obtain ⟨rfl, hdg⟩ := ln_1 (k := 1) hd hln rfl (by decide)
  simp only [sI] at h
  split at h
  · next i o st =>
    split at h
    · next z hsh =>
      obtain ⟨j, rfl, hj, rfl⟩ := str_b hsh
      refine so_look hpc hnx (hK _ h.2) (fun σ τ la H locs cells slots hl hF k => ?_)
      have hT := (C.2.2.2.1.2.1.1 j hj).2.2.2
      dsimp only at hT
      rw [← hF.1 (200 + j) (Or.inr (by omega))] at hT
      rw [show 200 + j - 200 = j by omega] at k
      exact w_tlb (cx_x C) (cx_b C) hT hF.2.2.2.2.2 h.1 hdg k
    · exact h.elim
  · exact h.elim
theorem so_laload (C : aCx mt lv p l e R s m args below meth c A D σ0 n0 Q Fz) (hd : decode mt.2.1 pc = .ok (.laload, nx - pc)) (hln : lenI (.laload) = 0 ∨ nx = pc + lenI (.laload)) (hpc : pc < aRET) (hnx : nx < aRET) (htg : tg < aRET) (h : sI mt (.laload, nx, tg, q) pc ls st n M K) (hK : ∀ d, K d → aWA mt p l e R s m args below meth c A D σ0 n0 Q Fz d) : aWA mt p l e R s m args below meth c A D σ0 n0 Q Fz (pc, ls, st, n, M) := by
  obtain ⟨rfl, hdg⟩ := ln_1 (k := 1) hd hln rfl (by decide)
  simp only [sI] at h
  split at h
  · next i o st =>
    split at h
    · next z hsh =>
      split at h
      · next hlt =>
        rw [Nat.blt_eq] at hlt
        refine so_look hpc hnx (hK _ h.2) (fun σ τ la H locs cells slots hl hF k => ?_)
        have he := wd_at (σ := σ) (τ := τ) (M := M) hlt
        rw [ce_long hsh] at he
        exact va_lald (cx_x C) (cx_b C) (cx_K1 C hF hlt (by rw [hsh]; rfl)) hF.2.2.2.1 o 0 he rfl h.1 hdg k
      · exact h.elim
    · exact h.elim
  · exact h.elim
theorem so_aaload (C : aCx mt lv p l e R s m args below meth c A D σ0 n0 Q Fz) (hd : decode mt.2.1 pc = .ok (.aaload, nx - pc)) (hln : lenI (.aaload) = 0 ∨ nx = pc + lenI (.aaload)) (hpc : pc < aRET) (hnx : nx < aRET) (htg : tg < aRET) (h : sI mt (.aaload, nx, tg, q) pc ls st n M K) (hK : ∀ d, K d → aWA mt p l e R s m args below meth c A D σ0 n0 Q Fz d) : aWA mt p l e R s m args below meth c A D σ0 n0 Q Fz (pc, ls, st, n, M) := by
  obtain ⟨rfl, hdg⟩ := ln_1 (k := 1) hd hln rfl (by decide)
  simp only [sI] at h
  split at h
  · next i o st =>
    split at h
    · next z hsh =>
      split at h
      · next hlt =>
        rw [Nat.blt_eq] at hlt
        refine so_look hpc hnx (hK _ h.2) (fun σ τ la H locs cells slots hl hF k => ?_)
        have he := wd_at (σ := σ) (τ := τ) (M := M) hlt
        rw [ce_ref hsh] at he
        simp only [List.map_cons, cv_rf] at k
        exact va_aldq (cx_x C) (cx_b C) (cx_K1 C hF hlt (by rw [hsh]; rfl)) hF.2.2.2.1 o 0 he rfl h.1 hdg k
      · exact h.elim
    · exact h.elim
  · exact h.elim
theorem so_iastore (C : aCx mt lv p l e R s m args below meth c A D σ0 n0 Q Fz) (hd : decode mt.2.1 pc = .ok (.iastore, nx - pc)) (hln : lenI (.iastore) = 0 ∨ nx = pc + lenI (.iastore)) (hpc : pc < aRET) (hnx : nx < aRET) (htg : tg < aRET) (h : sI mt (.iastore, nx, tg, q) pc ls st n M K) (hK : ∀ d, K d → aWA mt p l e R s m args below meth c A D σ0 n0 Q Fz d) : aWA mt p l e R s m args below meth c A D σ0 n0 Q Fz (pc, ls, st, n, M) := by
  obtain ⟨rfl, hdg⟩ := ln_1 (k := 1) hd hln rfl (by decide)
  simp only [sI] at h
  split at h
  · next x i o st =>
    split at h
    · next z hsh =>
      split at h
      · next hlt =>
        rw [Nat.blt_eq] at hlt
        refine so_mem hpc hnx rl_id (hK _ h.2) (fun σ τ la H locs cells slots hl hF k => ?_)
        have he := wd_at (σ := σ) (τ := τ) (M := M) hlt
        rw [ce_int hsh] at he
        refine va_iast (cx_x C) (cx_b C) (cx_K1 C hF hlt (by rw [hsh]; rfl)) hF.2.2.2.1 hF.2.2.2.2.1 hF.2.2.2.2.2 o 0 he rfl h.1 hdg (fun H1 locs1 g1 g2 g3 => ?_)
        have e1 := wd_set (σ := σ) (τ := τ) (M := M) (M' := (up2 M.1 o i.toNatClampNeg x, M.2)) hlt ((ce_int hsh).trans (congrArg (fun f => Sum.inl (τ o, z, Sum.inl f)) up2_self)) (fun b hb => ce_ext (up2_row hb) rfl rfl)
        exact k H1 locs1 (by rw [← e1]; exact g1) (by rw [← e1]; exact g2) g3
      · exact h.elim
    · exact h.elim
  · exact h.elim
theorem so_lastore (C : aCx mt lv p l e R s m args below meth c A D σ0 n0 Q Fz) (hd : decode mt.2.1 pc = .ok (.lastore, nx - pc)) (hln : lenI (.lastore) = 0 ∨ nx = pc + lenI (.lastore)) (hpc : pc < aRET) (hnx : nx < aRET) (htg : tg < aRET) (h : sI mt (.lastore, nx, tg, q) pc ls st n M K) (hK : ∀ d, K d → aWA mt p l e R s m args below meth c A D σ0 n0 Q Fz d) : aWA mt p l e R s m args below meth c A D σ0 n0 Q Fz (pc, ls, st, n, M) := by
  obtain ⟨rfl, hdg⟩ := ln_1 (k := 1) hd hln rfl (by decide)
  simp only [sI] at h
  split at h
  · next x i o st =>
    split at h
    · next z hsh =>
      split at h
      · next hlt =>
        rw [Nat.blt_eq] at hlt
        refine so_mem hpc hnx rl_id (hK _ h.2) (fun σ τ la H locs cells slots hl hF k => ?_)
        have he := wd_at (σ := σ) (τ := τ) (M := M) hlt
        rw [ce_long hsh] at he
        refine va_last (cx_x C) (cx_b C) (cx_K1 C hF hlt (by rw [hsh]; rfl)) hF.2.2.2.1 hF.2.2.2.2.1 hF.2.2.2.2.2 o 0 he rfl h.1 hdg (fun H1 locs1 g1 g2 g3 => ?_)
        have e1 := wd_set (σ := σ) (τ := τ) (M := M) (M' := (M.1, up2 M.2.1 o i.toNatClampNeg x, M.2.2)) hlt ((ce_long hsh).trans (congrArg (fun f => Sum.inl (τ o, z, Sum.inr (Sum.inl f))) up2_selfL)) (fun b hb => ce_ext rfl (up2_row hb) rfl)
        exact k H1 locs1 (by rw [← e1]; exact g1) (by rw [← e1]; exact g2) g3
      · exact h.elim
    · exact h.elim
  · exact h.elim
theorem so_aastore (C : aCx mt lv p l e R s m args below meth c A D σ0 n0 Q Fz) (hd : decode mt.2.1 pc = .ok (.aastore, nx - pc)) (hln : lenI (.aastore) = 0 ∨ nx = pc + lenI (.aastore)) (hpc : pc < aRET) (hnx : nx < aRET) (htg : tg < aRET) (h : sI mt (.aastore, nx, tg, q) pc ls st n M K) (hK : ∀ d, K d → aWA mt p l e R s m args below meth c A D σ0 n0 Q Fz d) : aWA mt p l e R s m args below meth c A D σ0 n0 Q Fz (pc, ls, st, n, M) := by
  obtain ⟨rfl, hdg⟩ := ln_1 (k := 1) hd hln rfl (by decide)
  simp only [sI] at h
  split at h
  · next x i o st =>
    split at h
    · next z hsh =>
      split at h
      · next hlt =>
        simp only [Bool.and_eq_true, Nat.blt_eq] at hlt
        obtain ⟨⟨hlt, hlx⟩, hxs⟩ := hlt
        have hx2 : shp x = (0, 2) := by
          split at hxs
          · next y => exact y
          · cases hxs
        refine so_mem hpc hnx (rl_up hlx) (hK _ h.2) (fun σ τ la H locs cells slots hl hF k => ?_)
        have he := wd_at (σ := σ) (τ := τ) (M := M) hlt
        rw [ce_ref hsh] at he
        have hex := wd_at (σ := σ) (τ := τ) (M := M) hlx
        rw [ce_obj hx2] at hex
        refine va_astq (cx_x C) (cx_b C) (cx_K1 C hF hlt (by rw [hsh]; rfl)) hF.2.2.2.1 hF.2.2.2.2.1 hF.2.2.2.2.2 o 0 x 2 he rfl hex (vw_at (by decide)) h.1 hdg (fun H1 locs1 g1 g2 g3 => ?_)
        have e0 : (fun j => (up2 M.2.2 o i.toNatClampNeg (some x) o j).map σ) = va_up (fun j => (M.2.2 o j).map σ) i.toNatClampNeg (some (σ x)) := by
          funext j
          by_cases hj : j = i.toNatClampNeg
          · subst hj; simp [up2, va_up]
          · simp [up2, va_up, hj]
        have e1 := wd_set (σ := σ) (τ := τ) (M := M) (M' := (M.1, M.2.1, up2 M.2.2 o i.toNatClampNeg (some x))) hlt ((ce_ref hsh).trans (by rw [e0])) (fun b hb => ce_ext rfl rfl (up2_row hb))
        exact k H1 locs1 (by rw [← e1]; exact g1) (by rw [← e1]; exact g2) g3
      · exact h.elim
    · exact h.elim
  · exact h.elim
theorem so_arraylength (C : aCx mt lv p l e R s m args below meth c A D σ0 n0 Q Fz) (hd : decode mt.2.1 pc = .ok (.arraylength, nx - pc)) (hln : lenI (.arraylength) = 0 ∨ nx = pc + lenI (.arraylength)) (hpc : pc < aRET) (hnx : nx < aRET) (htg : tg < aRET) (h : sI mt (.arraylength, nx, tg, q) pc ls st n M K) (hK : ∀ d, K d → aWA mt p l e R s m args below meth c A D σ0 n0 Q Fz d) : aWA mt p l e R s m args below meth c A D σ0 n0 Q Fz (pc, ls, st, n, M) := by
  obtain ⟨rfl, hdg⟩ := ln_1 (k := 1) hd hln rfl (by decide)
  simp only [sI] at h
  split at h
  · next o st =>
    split at h
    · next z hsh =>
      split at h
      · next hlt =>
        rw [Nat.blt_eq] at hlt
        refine so_look hpc hnx (hK _ h) (fun σ τ la H locs cells slots hl hF k => ?_)
        have he := wd_at (σ := σ) (τ := τ) (M := M) hlt
        rw [ce_int hsh] at he
        exact va_alen (cx_x C) (cx_b C) (cx_K1 C hF hlt (by rw [hsh]; rfl)) hF.2.2.2.1 o 0 he rfl rfl hdg k
      · exact h.elim
    · next z hsh =>
      obtain ⟨j, rfl, hj, rfl⟩ := str_b hsh
      refine so_look hpc hnx (hK _ h) (fun σ τ la H locs cells slots hl hF k => ?_)
      have hT := (C.2.2.2.1.2.1.1 j hj).2.2.2
      dsimp only at hT
      rw [← hF.1 (200 + j) (Or.inr (by omega))] at hT
      exact w_tlen (cx_x C) (cx_b C) hT hF.2.2.2.2.2 hdg k
    · next z hsh =>
      obtain rfl := scr_o hsh
      split at h
      · next L hL =>
        refine so_look hpc hnx (hK _ h) (fun σ τ la H locs cells slots hl hF k => ?_)
        rcases C.2.2.2.2.2.2.2.1 with z | ⟨z1, z2, z3⟩
        · rw [hL] at z; cases z
        · rw [← hF.1 400 (Or.inr (by omega))] at z1 z2 z3
          rw [hL] at z1
          exact va_slen (cx_x C) (cx_b C) z1 z2 z3 hF.2.2.2.2.2 hdg k
      · exact h.elim
    · exact h.elim
  · exact h.elim
end SO4
end
section
/-! ===== the step function is right: new cells, copies, Object's constructor ===== -/
section SO5
variable {mt : aM} {lv : Nat} {p : Program} {l : Launch} {e : Env} {R : Room} {s : State} {m : MethodId} {args : Array Value} {below : List Frame} {meth : Method} {c : Code} {A : Nat → Prop} {D : va_G} {σ0 : Nat → Nat} {n0 : Nat} {Q : State → Prop} {Fz : List Value → Nat → aMem → Prop} {pc nx tg : Nat} {q : aQ} {ls : List (Option Value)} {st : List Value} {n : Nat} {M : aMem} {K : aCfg → Prop}
def upA (σ : Nat → Nat) (n q : Nat) : Nat → Nat := fun a => if a = n then q else σ a
theorem upA_ne {σ : Nat → Nat} {n q a : Nat} (h : a ≠ n) : upA σ n q a = σ a := by simp [upA, h]
theorem upA_self {σ : Nat → Nat} {n q : Nat} : upA σ n q n = q := by simp [upA]
theorem cv_upA {σ : Nat → Nat} {n q : Nat} {v : Value} (h : nrV n v = true) : cv (upA σ n q) v = cv σ v := by
  cases v with
  | ref x =>
    simp only [nrV, Bool.not_eq_true'] at h
    have : x ≠ n := fun z => by rw [z, Nat.beq_refl] at h; cases h
    simp [cv, upA_ne this]
  | _ => rfl
theorem st_upA {σ : Nat → Nat} {n q : Nat} {st : List Value} (h : st.all (nrV n) = true) : st.map (cv (upA σ n q)) = st.map (cv σ) :=
  List.map_congr_left fun v hv => cv_upA (List.all_eq_true.mp h v hv)
theorem as_upA {σ : Nat → Nat} {n q : Nat} : ∀ (ls : List (Option Value)) (i : Nat), nrL n ls = true → ascF (upA σ n q) i ls = ascF σ i ls := by
  intro ls
  induction ls with
  | nil => intro i _; rfl
  | cons a t ih =>
    intro i h
    cases a with
    | none => exact ih (i + 1) h
    | some v =>
      simp only [nrL, Bool.and_eq_true] at h
      simp only [ascF, cv_upA h.1, ih (i + 1) h.2]
/-- a new cell n: its facts -/
theorem fa_new {σ τ : Nat → Nat} {H H1 : Heap} {locs : List Loc} {M' : aMem} {q cA : Nat} (hlt : n < mt.2.2.2.2.1.2.2) (hn : n < nW) (hF : aFa A D σ0 n0 mt.2.2.2.2.1.2.2 s σ τ n M H locs)
    (hrow : ∀ a, a ≠ n → M'.1 a = M.1 a ∧ M'.2.1 a = M.2.1 a ∧ M'.2.2 a = M.2.2 a) (hrn : ∀ k x, M'.2.2 n k = some x → x < n + 1)
    {ec : va_E} (hec : ce (upA σ n q) (upA τ n cA) M' n = ec) (hty : ∀ ty, tyA (shp n) = some ty → ArrOfT s cA ty ∧ va_RA s cA ty)
    (gP : va_P D vwCl (wd σ τ n M ++ [(q, ec)]) H1) (gD : va_D A (wd σ τ n M ++ [(q, ec)])) (gS : va_S A s.heap H1 locs) :
    aFa A D σ0 n0 mt.2.2.2.2.1.2.2 s (upA σ n q) (upA τ n cA) (n + 1) M' H1 locs := by
  obtain ⟨h1, ⟨h2, h3, h4⟩, h5, h6, h7, h8⟩ := hF
  have hnW : nW = 76 := rfl
  have ew : wd (upA σ n q) (upA τ n cA) (n + 1) M' = wd σ τ n M ++ [(q, ec)] := by
    rw [wd_succ, hec, upA_self]
    congr 1
    refine wd_congr fun a ha => ?_
    have hne : a ≠ n := Nat.ne_of_lt ha
    refine ⟨upA_ne hne, ?_⟩
    obtain ⟨r1, r2, r3⟩ := hrow a hne
    rw [ce_ext r1 r2 r3]
    refine ce_addr (upA_ne hne) fun k b hb => ?_
    exact upA_ne (Nat.ne_of_lt (h4 a ha k b hb))
  refine ⟨fun a ha => ?_, ⟨by omega, ⟨by omega, Or.inr (by omega)⟩, fun a ha k x hx => ?_⟩, fun a ha ty ht => ?_, by rw [ew]; exact gP, by rw [ew]; exact gD, gS⟩
  · rw [upA_ne (by omega)]; exact h1 a ha
  · by_cases hne : a = n
    · subst hne; exact hrn k x hx
    · rw [(hrow a hne).2.2] at hx
      exact Nat.lt_succ_of_lt (h4 a (by omega) k x hx)
  · by_cases hne : a = n
    · subst hne; rw [upA_self]; exact hty ty ht
    · rw [upA_ne hne]; exact h5 a (by omega) ty ht
theorem cx_room (C : aCx mt lv p l e R s m args below meth c A D σ0 n0 Q Fz) (h0 : n0 ≤ n) (h : n < mt.2.2.2.2.1.2.2) : (n - n0) + 1 ≤ R.cells ∧ (szp n - szp n0) + ssz (shp n) ≤ R.slots ∧ n + 1 - n0 = (n - n0) + 1 ∧ szp (n + 1) - szp n0 = (szp n - szp n0) + ssz (shp n) := by
  obtain ⟨-, -, -, h3, h4, -⟩ := C.2.2.2.2.2.2.1
  have mono : ∀ a b : Nat, a ≤ b → szp a ≤ szp b := by
    intro a b hab
    induction hab with
    | refl => exact Nat.le_refl _
    | step _ ih => exact Nat.le_trans ih (Nat.le_add_right _ _)
  have g1 := mono n0 n h0
  have g2 := mono (n + 1) _ h
  have g3 : szp (n + 1) = szp n + ssz (shp n) := rfl
  omega
theorem shp_ob {a k z : Nat} (h : shp a = (k, z)) (ha : a < nW) (hk : k = 0) : z < 7 := by
  have := (shp_obj a ha).2
  rw [h] at this
  exact this hk
theorem dv_all : ∀ ci, ci < 7 → ∀ k, k < nfC ci → defaultValue (tyC ci k) = (if isRf ci k = true then .null else .int 0) := by decide +kernel
theorem so_new {v : Nat} (C : aCx mt lv p l e R s m args below meth c A D σ0 n0 Q Fz) (hd : decode mt.2.1 pc = .ok (.new v, nx - pc)) (hln : lenI (.new v) = 0 ∨ nx = pc + lenI (.new v)) (hpc : pc < aRET) (hnx : nx < aRET) (hv : lkW mt.1.cls v q) (hcl : ∀ ci, ci < 7 → Cond.instantiable (nmC ci) (nfC ci) ∈ gw ∧ Cond.initialized (nmC ci) ∈ gw) (h : sI mt (.new v, nx, tg, q) pc ls st n M K) (hK : ∀ d, K d → aWA mt p l e R s m args below meth c A D σ0 n0 Q Fz d) : aWA mt p l e R s m args below meth c A D σ0 n0 Q Fz (pc, ls, st, n, M) := by
  obtain ⟨rfl, hdg⟩ := ln_1 (k := 3) hd hln rfl (by decide)
  simp only [sI] at h
  obtain ⟨q1, q2, q3, q4⟩ := q
  dsimp only at h hv
  split at h
  · split at h
    · next ci hsh =>
      split at h
      · next hc =>
        simp only [Bool.and_eq_true, Nat.blt_eq] at hc
        obtain ⟨⟨hbe, hlt⟩, hnr⟩ := hc
        obtain rfl := Nat.eq_of_beq_eq_true hbe
        simp only [nrS, Bool.and_eq_true] at hnr
        have hnW : n < nW := Nat.lt_of_lt_of_le hlt C.2.2.2.2.2.2.1.2.2.2.2.2
        refine ⟨fun hr => absurd hr (Nat.ne_of_lt hpc), fun _ σ τ H locs la hF hlen hl => ?_⟩
        have hW := (hK _ h).2 (Nat.ne_of_lt hnx)
        obtain ⟨r1, r2, r3, r4⟩ := cx_room C hF.2.1.1 hlt
        rw [hsh] at r2 r4
        dsimp only at hW ⊢
        refine va_new (ci := ci) (fs := (List.range (nfC ci)).map fun k => if isRf ci k = true then .null else .int 0) (C := nmC ci) (T := tbC ci) (N := nfC ci) (cx_x C) (cx_b C) C.2.1 (us_in hv.1) (tyC ci) (tyC_ok hv.1) (cx_own C) (cx_ts C hv.2) (cx_ts C (hcl ci hv.1).1) (cx_ts C (hcl ci hv.1).2) C.2.2.1 hF.2.2.2.1 hF.2.2.2.2.1 hF.2.2.2.2.2 C.2.2.2.2.1 (vw_at hv.1) (fun j hj => ?_) r1 r2 hdg (fun q H1 g1 g2 g3 => ?_)
        · rw [dv_all ci hv.1 j hj]
          simp [vp_V, hj]
        · have hF' := fa_new (M' := (rowZ M.1 n 0, M.2.1, rowZ M.2.2 n none)) (q := q) (cA := 0) hlt hnW hF (fun a ha => ⟨upR_row ha, rfl, upR_row ha⟩) (fun k x hx => by simp [rowZ, upR] at hx) (by
              rw [ce_obj hsh]
              simp only [rowZ, upR_self, Option.map_none, va_rf]) (fun ty ht => by rw [hsh] at ht; cases ht) g1 g2 g3
          have hw := hW (upA σ n q) (upA τ n 0) H1 locs la hF' hlen (by rw [as_upA _ _ hnr.1]; exact hl)
          rw [List.map_cons, st_upA hnr.2, show cv (upA σ n q) (.ref n) = .ref q by simp [cv, upA_self], r3, r4] at hw
          exact hw
      · exact h.elim
    · exact h.elim
  · exact h.elim
theorem so_newarray {ty : ArrayType} (C : aCx mt lv p l e R s m args below meth c A D σ0 n0 Q Fz) (hd : decode mt.2.1 pc = .ok (.newarray ty, nx - pc)) (hln : lenI (.newarray ty) = 0 ∨ nx = pc + lenI (.newarray ty)) (hpc : pc < aRET) (hnx : nx < aRET) (har : Cond.arrayClass .int ∈ gw ∧ Cond.arrayClass .long ∈ gw) (h : sI mt (.newarray ty, nx, tg, q) pc ls st n M K) (hK : ∀ d, K d → aWA mt p l e R s m args below meth c A D σ0 n0 Q Fz d) : aWA mt p l e R s m args below meth c A D σ0 n0 Q Fz (pc, ls, st, n, M) := by
  obtain ⟨rfl, hdg⟩ := ln_1 (k := 2) hd hln rfl (by decide)
  simp only [sI] at h
  have hsm : ∀ a, a < nW → (shp a).2 < 2000 := by decide +kernel
  split at h
  · next x st =>
    split at h
    · next z hsh =>
      split at h
      · next hlt =>
        simp only [Bool.and_eq_true, Nat.blt_eq] at hlt
        obtain ⟨hlt, hnr⟩ := hlt
        simp only [nrS, Bool.and_eq_true] at hnr
        obtain ⟨rfl, h⟩ := h
        have hnW : n < nW := Nat.lt_of_lt_of_le hlt C.2.2.2.2.2.2.1.2.2.2.2.2
        have hz := hsm n hnW
        rw [hsh] at hz
        dsimp only at hz
        refine ⟨fun hr => absurd hr (Nat.ne_of_lt hpc), fun _ σ τ H locs la hF hlen hl => ?_⟩
        have hW := (hK _ h).2 (Nat.ne_of_lt hnx)
        obtain ⟨r1, r2, r3, r4⟩ := cx_room C hF.2.1.1 hlt
        rw [hsh] at r2 r4
        dsimp only at hW ⊢
        refine va_newa (atype := .int) (cx_x C) (cx_b C) (cx_ts C har.1) (ty := .int) rfl C.2.2.1 hF.2.2.2.1 hF.2.2.2.2.1 hF.2.2.2.2.2 C.2.2.2.2.1 (N' := z) (a0 := (z, .inl fun _ => 0)) (fun cA => rfl) (nI_pos (by omega)) (nI_clamp (by omega)) (by simp only [componentBytes]; omega) r1 r2 hdg (fun q cA H1 g0 g1 g2 g3 => ?_)
        have hF' := fa_new (M' := (rowZ M.1 n 0, M.2.1, rowZ M.2.2 n none)) (q := q) (cA := cA) hlt hnW hF (fun a ha => ⟨upR_row ha, rfl, upR_row ha⟩) (fun k x hx => by simp [rowZ, upR] at hx) (by
            rw [ce_int hsh, upA_self]
            simp only [rowZ, upR_self]) (fun ty ht => by rw [hsh] at ht; cases ht; exact g0.2 0 (cA, .int) rfl) g1 g2 g3
        have hw := hW (upA σ n q) (upA τ n cA) H1 locs la hF' hlen (by rw [as_upA _ _ hnr.1]; exact hl)
        rw [List.map_cons, st_upA hnr.2, show cv (upA σ n q) (.ref n) = .ref q by simp [cv, upA_self], r3, r4] at hw
        exact hw
      · exact h.elim
    · next z hsh =>
      split at h
      · next hlt =>
        simp only [Bool.and_eq_true, Nat.blt_eq] at hlt
        obtain ⟨hlt, hnr⟩ := hlt
        simp only [nrS, Bool.and_eq_true] at hnr
        obtain ⟨rfl, h⟩ := h
        have hnW : n < nW := Nat.lt_of_lt_of_le hlt C.2.2.2.2.2.2.1.2.2.2.2.2
        have hz := hsm n hnW
        rw [hsh] at hz
        dsimp only at hz
        refine ⟨fun hr => absurd hr (Nat.ne_of_lt hpc), fun _ σ τ H locs la hF hlen hl => ?_⟩
        have hW := (hK _ h).2 (Nat.ne_of_lt hnx)
        obtain ⟨r1, r2, r3, r4⟩ := cx_room C hF.2.1.1 hlt
        rw [hsh] at r2 r4
        dsimp only at hW ⊢
        refine va_newa (atype := .long) (cx_x C) (cx_b C) (cx_ts C har.2) (ty := .long) rfl C.2.2.1 hF.2.2.2.1 hF.2.2.2.2.1 hF.2.2.2.2.2 C.2.2.2.2.1 (N' := z) (a0 := (z, .inr (.inl fun _ => 0))) (fun cA => rfl) (nI_pos (by omega)) (nI_clamp (by omega)) (by simp only [componentBytes]; omega) r1 r2 hdg (fun q cA H1 g0 g1 g2 g3 => ?_)
        have hF' := fa_new (M' := (M.1, rowZ M.2.1 n 0, rowZ M.2.2 n none)) (q := q) (cA := cA) hlt hnW hF (fun a ha => ⟨rfl, upR_row ha, upR_row ha⟩) (fun k x hx => by simp [rowZ, upR] at hx) (by
            rw [ce_long hsh, upA_self]
            simp only [rowZ, upR_self]) (fun ty ht => by rw [hsh] at ht; cases ht; exact g0.2 0 (cA, .long) rfl) g1 g2 g3
        have hw := hW (upA σ n q) (upA τ n cA) H1 locs la hF' hlen (by rw [as_upA _ _ hnr.1]; exact hl)
        rw [List.map_cons, st_upA hnr.2, show cv (upA σ n q) (.ref n) = .ref q by simp [cv, upA_self], r3, r4] at hw
        exact hw
      · exact h.elim
    · exact h.elim
  · exact h.elim
theorem so_anewarray {v : Nat} (C : aCx mt lv p l e R s m args below meth c A D σ0 n0 Q Fz) (hd : decode mt.2.1 pc = .ok (.anewarray v, nx - pc)) (hln : lenI (.anewarray v) = 0 ∨ nx = pc + lenI (.anewarray v)) (hpc : pc < aRET) (hnx : nx < aRET) (hv : lkW mt.1.cls v q) (h : sI mt (.anewarray v, nx, tg, q) pc ls st n M K) (hK : ∀ d, K d → aWA mt p l e R s m args below meth c A D σ0 n0 Q Fz d) : aWA mt p l e R s m args below meth c A D σ0 n0 Q Fz (pc, ls, st, n, M) := by
  obtain ⟨rfl, hdg⟩ := ln_1 (k := 3) hd hln rfl (by decide)
  simp only [sI] at h
  obtain ⟨q1, q2, q3, q4⟩ := q
  dsimp only at h hv
  have hsm : ∀ a, a < nW → (shp a).2 < 2000 := by decide +kernel
  split at h
  · next x st =>
    split at h
    · split at h
      · next z hsh =>
        split at h
        · next hlt =>
          simp only [Bool.and_eq_true, Nat.blt_eq] at hlt
          obtain ⟨hlt, hnr⟩ := hlt
          simp only [nrS, Bool.and_eq_true] at hnr
          obtain ⟨rfl, h⟩ := h
          have hnW : n < nW := Nat.lt_of_lt_of_le hlt C.2.2.2.2.2.2.1.2.2.2.2.2
          have hz := hsm n hnW
          rw [hsh] at hz
          dsimp only at hz
          refine ⟨fun hr => absurd hr (Nat.ne_of_lt hpc), fun _ σ τ H locs la hF hlen hl => ?_⟩
          have hW := (hK _ h).2 (Nat.ne_of_lt hnx)
          obtain ⟨r1, r2, r3, r4⟩ := cx_room C hF.2.1.1 hlt
          rw [hsh] at r2 r4
          dsimp only at hW ⊢
          refine va_newq (cx_x C) (cx_b C) (cx_own C) (cx_ts C hv) C.2.2.2.1.2.2.2.2.2.1 C.2.2.1 hF.2.2.2.1 hF.2.2.2.2.1 hF.2.2.2.2.2 C.2.2.2.2.1 (N' := z) (nI_pos (by omega)) (nI_clamp (by omega)) (by omega) r1 r2 hdg (fun q cA H1 g0 g1 g2 g3 => ?_)
          have hF' := fa_new (M' := (M.1, M.2.1, rowZ M.2.2 n none)) (q := q) (cA := cA) hlt hnW hF (fun a ha => ⟨rfl, rfl, upR_row ha⟩) (fun k x hx => by simp [rowZ, upR] at hx) (by
              rw [ce_ref hsh, upA_self]
              simp only [rowZ, upR_self, Option.map_none]) (fun ty ht => by rw [hsh] at ht; cases ht; exact g0.2 0 (cA, .object RX2) rfl) g1 g2 g3
          have hw := hW (upA σ n q) (upA τ n cA) H1 locs la hF' hlen (by rw [as_upA _ _ hnr.1]; exact hl)
          rw [List.map_cons, st_upA hnr.2, show cv (upA σ n q) (.ref n) = .ref q by simp [cv, upA_self], r3, r4] at hw
          exact hw
        · exact h.elim
      · exact h.elim
    · exact h.elim
  · exact h.elim
theorem so_copy {v : Nat} (C : aCx mt lv p l e R s m args below meth c A D σ0 n0 Q Fz) (hd : decode mt.2.1 pc = .ok (.invokestatic v, nx - pc)) (hln : lenI (.invokestatic v) = 0 ∨ nx = pc + lenI (.invokestatic v)) (hpc : pc < aRET) (hnx : nx < aRET) (hv : lkW mt.1.cls v q) (hcp : Cond.native arraycopyName ∈ gw ∧ Cond.static arraycopyName ∈ gw ∧ Cond.initialized "java/lang/System" ∈ gw) (h : sI mt (.invokestatic v, nx, tg, q) pc ls st n M K) (hK : ∀ d, K d → aWA mt p l e R s m args below meth c A D σ0 n0 Q Fz d) : aWA mt p l e R s m args below meth c A D σ0 n0 Q Fz (pc, ls, st, n, M) := by
  obtain ⟨rfl, hdg⟩ := ln_1 (k := 3) hd hln rfl (by decide)
  simp only [sI] at h
  obtain ⟨q1, q2, q3, q4⟩ := q
  dsimp only at h hv
  split at h
  · split at h
    · next w dp b sp a st =>
      split at h
      · next za zb hsa hsb =>
        split at h
        · next hc =>
          simp only [Bool.and_eq_true, Nat.blt_eq] at hc
          obtain ⟨⟨hla, hlb⟩, hst⟩ := hc
          have hst : st = [] := List.eq_nil_of_length_eq_zero (Nat.eq_of_beq_eq_true hst)
          subst hst
          obtain ⟨⟨c1, c2, c3, c4, c5⟩, h⟩ := h
          refine so_mem hpc hnx rl_id (hK _ h) (fun σ τ la H locs cells slots hl hF k => ?_)
          have hea := wd_at (σ := σ) (τ := τ) (M := M) hla
          rw [ce_int hsa] at hea
          have heb := wd_at (σ := σ) (τ := τ) (M := M) hlb
          rw [ce_int hsb] at heb
          have hK2 : va_K D vwCl [(τ a, .int), (τ b, .int)] s := ⟨C.2.2.1.1, fun k q hk => by
            match k, hk with
            | 0, hk => cases hk; exact hF.2.2.1 a hla .int (by rw [hsa]; rfl)
            | 1, hk => cases hk; exact hF.2.2.1 b hlb .int (by rw [hsb]; rfl)
            | k + 2, hk => simp at hk⟩
          obtain ⟨f1, f2, f3, -⟩ := C.2.2.2.2.2.2.1
          refine va_copyi (cx_x C) (cx_b C) (by rw [C.1.2.2.1]; exact hl.1.symm) (cx_own C) (cx_ts C hv) (cx_ts C hcp.1) (cx_ts C hcp.2.1) (cx_ts C hcp.2.2) hK2 hF.2.2.2.1 hF.2.2.2.2.1 hF.2.2.2.2.2 a b 0 1 hea heb rfl rfl rfl c1 c2 c3 c4 c5 (fun _ _ => rfl) (by omega) (by simp [nativeFrameWords]; omega) hdg (fun H1 locs1 g1 g2 g3 => ?_)
          have e1 := wd_set (σ := σ) (τ := τ) (M := M) (M' := (upR M.1 b (va_cpy (M.1 a) (M.1 b) sp.toNatClampNeg dp.toNatClampNeg w.toNatClampNeg), M.2)) hlb ((ce_int hsb).trans (congrArg (fun f => Sum.inl (τ b, zb, Sum.inl f)) upR_self)) (fun d hd => ce_ext (upR_row hd) rfl rfl)
          exact k H1 locs1 (by rw [← e1]; exact g1) (by rw [← e1]; exact g2) g3
        · exact h.elim
      · exact h.elim
    · exact h.elim
  · exact h.elim
theorem so_oinit {v : Nat} (C : aCx mt lv p l e R s m args below meth c A D σ0 n0 Q Fz) (hd : decode mt.2.1 pc = .ok (.invokespecial v, nx - pc)) (hln : lenI (.invokespecial v) = 0 ∨ nx = pc + lenI (.invokespecial v)) (hpc : pc < aRET) (hnx : nx < aRET) (hv : lkW mt.1.cls v q) (hoi : Cond.instanceMethod objectInit ∈ gw ∧ Cond.code objectInit ⟨#[0xb1]⟩ 1 none ∈ gw) (h : sI mt (.invokespecial v, nx, tg, q) pc ls st n M K) (hK : ∀ d, K d → aWA mt p l e R s m args below meth c A D σ0 n0 Q Fz d) : aWA mt p l e R s m args below meth c A D σ0 n0 Q Fz (pc, ls, st, n, M) := by
  obtain ⟨rfl, hdg⟩ := ln_1 (k := 3) hd hln rfl (by decide)
  simp only [sI] at h
  obtain ⟨q1, q2, q3, q4⟩ := q
  dsimp only at h hv
  split at h
  · split at h
    · next x st =>
      split at h
      · next hst =>
        have hst : st = [] := List.eq_nil_of_length_eq_zero (Nat.eq_of_beq_eq_true hst)
        subst hst
        obtain ⟨f1, f2, f3, -⟩ := C.2.2.2.2.2.2.1
        exact so_pure hpc hnx (hK _ h) (fun σ la H locs cells slots hl hS hO k => W.objInit (cx_x C) (cx_b C) (cx_own C) (cx_ts C hv) (cx_ts C hoi.1) (cx_ts C hoi.2) rfl (hl.1.trans C.1.2.2.1.symm) rfl hdg (by omega) (by simp [JFrame.monitorRoom]; omega) k)
      · exact h.elim
    · exact h.elim
  · exact h.elim
end SO5
end
section
/-! ===== the step function is right; walks, segments, contracts, calls; printed by wip/whole/mk11.py ===== -/
theorem wl_cl : ∀ ci, ci < 7 → (Cond.instantiable (nmC ci) (nfC ci) ∈ lw_tbl ∧ goodWord (Cond.instantiable (nmC ci) (nfC ci)) = true) ∧ (Cond.initialized (nmC ci) ∈ lw_tbl ∧ goodWord (Cond.initialized (nmC ci)) = true) := by decide +kernel
theorem wl_cl2 : ∀ ci, ci < 7 → Cond.instantiable (nmC ci) (nfC ci) ∈ gw ∧ Cond.initialized (nmC ci) ∈ gw := fun ci h => ⟨gw_in (wl_cl ci h).1.1 (wl_cl ci h).1.2, gw_in (wl_cl ci h).2.1 (wl_cl ci h).2.2⟩
theorem wl_ai : Cond.arrayClass .int ∈ gw := gw_in (List.mem_of_getElem? (i := 143) (by decide +kernel)) rfl
theorem wl_al : Cond.arrayClass .long ∈ gw := gw_in (List.mem_of_getElem? (i := 232) (by decide +kernel)) rfl
theorem wl_n : Cond.native arraycopyName ∈ gw := gw_in (List.mem_of_getElem? (i := 313) (by decide +kernel)) rfl
theorem wl_ns : Cond.static arraycopyName ∈ gw := gw_in (List.mem_of_getElem? (i := 312) (by decide +kernel)) rfl
theorem wl_ni : Cond.initialized "java/lang/System" ∈ gw := gw_in (List.mem_of_getElem? (i := 48) (by decide +kernel)) rfl
theorem wl_oi : Cond.instanceMethod objectInit ∈ gw := gw_in (List.mem_of_getElem? (i := 61) (by decide +kernel)) rfl
theorem wl_oc : Cond.code objectInit ⟨#[0xb1]⟩ 1 none ∈ gw := gw_in (List.mem_of_getElem? (i := 62) (by decide +kernel)) rfl
section SO6
variable {mt : aM} {lv : Nat} {p : Program} {l : Launch} {e : Env} {R : Room} {s : State} {m : MethodId} {args : Array Value} {below : List Frame} {meth : Method} {c : Code} {A : Nat → Prop} {D : va_G} {σ0 : Nat → Nat} {n0 : Nat} {Q : State → Prop} {Fz : List Value → Nat → aMem → Prop}
set_option maxHeartbeats 4000000 in
theorem st1_sound (C : aCx mt lv p l e R s m args below meth c A D σ0 n0 Q Fz) {cf : aCfg} {K : aCfg → Prop} (h : st1 mt cf K) (hK : ∀ d, K d → aWA mt p l e R s m args below meth c A D σ0 n0 Q Fz d) : aWA mt p l e R s m args below meth c A D σ0 n0 Q Fz cf := by
  obtain ⟨pc, ls, st, n, M⟩ := cf
  unfold st1 at h
  dsimp only at h
  have hE := C.2.2.2.2.2.1 pc
  generalize mt.2.2.2.2.2 pc = eo at h hE
  cases eo with
  | none => exact h.elim
  | some en =>
  obtain ⟨i, nx, tg, q⟩ := en
  obtain ⟨hd, hln, ⟨hpc, hnx, htg⟩, hok⟩ := hE _ rfl
  dsimp only at hd hln hpc hnx htg hok
  have hpc : pc < aRET := hpc
  have hnx : nx < aRET := hnx
  have htg : tg < aRET := htg
  cases i
  case iadd => exact so_iadd C hd hln hpc hnx htg h hK
  case isub => exact so_isub C hd hln hpc hnx htg h hK
  case imul => exact so_imul C hd hln hpc hnx htg h hK
  case iand => exact so_iand C hd hln hpc hnx htg h hK
  case ior => exact so_ior C hd hln hpc hnx htg h hK
  case ixor => exact so_ixor C hd hln hpc hnx htg h hK
  case ishl => exact so_ishl C hd hln hpc hnx htg h hK
  case ishr => exact so_ishr C hd hln hpc hnx htg h hK
  case ladd => exact so_ladd C hd hln hpc hnx htg h hK
  case lsub => exact so_lsub C hd hln hpc hnx htg h hK
  case lmul => exact so_lmul C hd hln hpc hnx htg h hK
  case iushr => exact so_iushr C hd hln hpc hnx htg h hK
  case idiv => exact so_idiv C hd hln hpc hnx htg h hK
  case irem => exact so_irem C hd hln hpc hnx htg h hK
  case ldiv => exact so_ldiv C hd hln hpc hnx htg h hK
  case lrem => exact so_lrem C hd hln hpc hnx htg h hK
  case lcmp => exact so_lcmp C hd hln hpc hnx htg h hK
  case i2l => exact so_i2l C hd hln hpc hnx htg h hK
  case l2i => exact so_l2i C hd hln hpc hnx htg h hK
  case i2b => exact so_i2b C hd hln hpc hnx htg h hK
  case i2s => exact so_i2s C hd hln hpc hnx htg h hK
  case i2c => exact so_i2c C hd hln hpc hnx htg h hK
  case dup => exact so_dup C hd hln hpc hnx htg h hK
  case pop => exact so_pop C hd hln hpc hnx htg h hK
  case dup2 => exact so_dup2 C hd hln hpc hnx htg h hK
  case iaload => exact so_iaload C hd hln hpc hnx htg h hK
  case baload => exact so_baload C hd hln hpc hnx htg h hK
  case laload => exact so_laload C hd hln hpc hnx htg h hK
  case aaload => exact so_aaload C hd hln hpc hnx htg h hK
  case iastore => exact so_iastore C hd hln hpc hnx htg h hK
  case lastore => exact so_lastore C hd hln hpc hnx htg h hK
  case aastore => exact so_aastore C hd hln hpc hnx htg h hK
  case arraylength => exact so_arraylength C hd hln hpc hnx htg h hK
  case iconst v => exact so_iconst C hd hln hpc hnx htg hok h hK
  case bipush v => exact so_bipush C hd hln hpc hnx htg hok h hK
  case sipush v => exact so_sipush C hd hln hpc hnx htg hok h hK
  case lconst v => exact so_lconst C hd hln hpc hnx htg hok h hK
  case iload v => exact so_iload C hd hln hpc hnx htg hok h hK
  case aload v => exact so_aload C hd hln hpc hnx htg hok h hK
  case lload v => exact so_lload C hd hln hpc hnx htg hok h hK
  case iload_n v => exact so_iload_n C hd hln hpc hnx htg hok h hK
  case aload_n v => exact so_aload_n C hd hln hpc hnx htg hok h hK
  case lload_n v => exact so_lload_n C hd hln hpc hnx htg hok h hK
  case istore v => exact so_istore C hd hln hpc hnx htg hok h hK
  case astore v => exact so_astore C hd hln hpc hnx htg hok h hK
  case lstore v => exact so_lstore C hd hln hpc hnx htg hok h hK
  case istore_n v => exact so_istore_n C hd hln hpc hnx htg hok h hK
  case astore_n v => exact so_astore_n C hd hln hpc hnx htg hok h hK
  case lstore_n v => exact so_lstore_n C hd hln hpc hnx htg hok h hK
  case goto v => exact so_goto C hd hln hpc hnx htg hok h hK
  case ldc v => exact so_ldc C hd hln hpc hnx htg hok h hK
  case ldc_w v => exact so_ldc_w C hd hln hpc hnx htg hok h hK
  case ldc2_w v => exact so_ldc2_w C hd hln hpc hnx htg hok h hK
  case getstatic v => exact so_getstatic C hd hln hpc hnx htg hok h hK
  case getfield v => exact so_getfield C hd hln hpc hnx htg hok h hK
  case putfield v => exact so_putfield C hd hln hpc hnx htg hok h hK
  case iinc v w => exact so_iinc C hd hln hpc hnx htg hok h hK
  case tableswitch d lo hi offs => exact so_tsw C hd hln hpc hnx htg hok h hK
  case ifCond cd v =>
    cases cd
    · exact so_if_eq C hd hln hpc hnx htg hok h hK
    · exact so_if_ne C hd hln hpc hnx htg hok h hK
    · exact so_if_lt C hd hln hpc hnx htg hok h hK
    · exact so_if_ge C hd hln hpc hnx htg hok h hK
    · exact so_if_gt C hd hln hpc hnx htg hok h hK
    · exact so_if_le C hd hln hpc hnx htg hok h hK
  case if_icmp cd v =>
    cases cd
    · exact so_icmp_eq C hd hln hpc hnx htg hok h hK
    · exact so_icmp_ne C hd hln hpc hnx htg hok h hK
    · exact so_icmp_lt C hd hln hpc hnx htg hok h hK
    · exact so_icmp_ge C hd hln hpc hnx htg hok h hK
    · exact so_icmp_gt C hd hln hpc hnx htg hok h hK
    · exact so_icmp_le C hd hln hpc hnx htg hok h hK
  case ireturn => exact so_ireturn C hd hln hpc h hK
  case lreturn => exact so_lreturn C hd hln hpc h hK
  case areturn => exact so_areturn C hd hln hpc h hK
  case return_ => exact so_return_ C hd hln hpc h hK
  case new v => exact so_new C hd hln hpc hnx hok wl_cl2 h hK
  case newarray v => exact so_newarray C hd hln hpc hnx ⟨wl_ai, wl_al⟩ h hK
  case anewarray v => exact so_anewarray C hd hln hpc hnx hok h hK
  case invokestatic v => exact so_copy C hd hln hpc hnx hok ⟨wl_n, wl_ns, wl_ni⟩ h hK
  case invokespecial v => exact so_oinit C hd hln hpc hnx hok ⟨wl_oi, wl_oc⟩ h hK
  all_goals exact False.elim h
theorem go_sound (C : aCx mt lv p l e R s m args below meth c A D σ0 n0 Q Fz) (cuts : List Nat) : ∀ (k : Nat) (cf : aCfg) (K : aCfg → Prop), go mt cuts k cf K → (∀ d, K d → aWA mt p l e R s m args below meth c A D σ0 n0 Q Fz d) → aWA mt p l e R s m args below meth c A D σ0 n0 Q Fz cf := by
  intro k
  induction k with
  | zero => intro cf K h hK; exact hK cf h
  | succ k ih =>
    intro cf K h hK
    refine st1_sound C h (fun d hd => ?_)
    split at hd
    · exact hK d hd
    · exact ih d K hd hK
end SO6
/-- a segment of a walk: from one point to another, in every context -/
def Seg (mt : aM) (lv : Nat) (cf cf' : aCfg) : Prop := ∀ (p : Program) (l : Launch) (e : Env) (R : Room) (s : State) (m : MethodId) (args : Array Value) (below : List Frame) (meth : Method) (c : Code) (A : Nat → Prop) (D : va_G) (σ0 : Nat → Nat) (n0 : Nat) (Q : State → Prop) (Fz : List Value → Nat → aMem → Prop),
  aCx mt lv p l e R s m args below meth c A D σ0 n0 Q Fz → aWA mt p l e R s m args below meth c A D σ0 n0 Q Fz cf' → aWA mt p l e R s m args below meth c A D σ0 n0 Q Fz cf
theorem Seg.rf {mt : aM} {lv : Nat} {a : aCfg} : Seg mt lv a a := fun _ _ _ _ _ _ _ _ _ _ _ _ _ _ _ _ _ h => h
theorem Seg.of {mt : aM} {lv : Nat} {a b : aCfg} (h : a = b) : Seg mt lv a b := h ▸ Seg.rf
theorem Seg.tr {mt : aM} {lv : Nat} {a b d : aCfg} (h1 : Seg mt lv a b) (h2 : Seg mt lv b d) : Seg mt lv a d := fun p l e R s m args below meth c A D σ0 n0 Q Fz C h => h1 p l e R s m args below meth c A D σ0 n0 Q Fz C (h2 p l e R s m args below meth c A D σ0 n0 Q Fz C h)
/-- a walk up to the next stops -/
theorem Seg.go {mt : aM} {lv : Nat} {a b : aCfg} (cuts : List Nat) (k : Nat) (h : go mt cuts k a (fun d => Seg mt lv d b)) : Seg mt lv a b := fun p l e R s m args below meth c A D σ0 n0 Q Fz C hb =>
  go_sound C cuts k a _ h (fun d hd => hd p l e R s m args below meth c A D σ0 n0 Q Fz C hb)
/-- a counted loop -/
theorem Seg.iter {mt : aM} {lv : Nat} (f : Nat → aCfg) (n : Nat) (h : ∀ i, i < n → Seg mt lv (f i) (f (i + 1))) : Seg mt lv (f 0) (f n) := by
  induction n with
  | zero => exact Seg.rf
  | succ n ih => exact (ih (fun i hi => h i (Nat.lt_succ_of_lt hi))).tr (h n (Nat.lt_succ_self n))
/-- the addresses that a call may write -/
def Aw (σ : Nat → Nat) (n sz : Nat) : Nat → Prop := fun q => (∃ k, k < n ∧ q = σ k) ∨ sz ≤ q
/-- how a method ends -/
def aEnd (D : va_G) (A : Nat → Prop) (σ0 : Nat → Nat) (n0 n1 : Nat) (r : List Value) (M1 : aMem) : Array Value → State → Outcome → State → Prop := fun _ st o t =>
  ∃ σ τ : Nat → Nat, aOk σ0 n0 σ ∧ aTy τ n1 t ∧ (n0 ≤ n1 ∧ n1 ≤ nW ∧ aRL n1 M1) ∧ o = .returned ((r.map (cv σ)).head?) ∧ va_P D vwCl (wd σ τ n1 M1) t.heap ∧ va_D A (wd σ τ n1 M1) ∧ va_F A st t
def aSta (D : va_G) (σ0 τ0 : Nat → Nat) (n0 : Nat) (M0 : aMem) (av : List Value) (sz : Nat) : Array Value → State → Prop := fun v U =>
  v = (av.map (cv σ0)).toArray ∧ U.heap.size = sz ∧ va_P D vwCl (wd σ0 τ0 n0 M0) U.heap ∧ va_D (fun _ => True) (wd σ0 τ0 n0 M0) ∧ va_K D vwCl [] U ∧ aTy τ0 n0 U ∧ aX σ0 (Aw σ0 n0 sz) U U.heap ∧ n0 ≤ nW ∧ aRL n0 M0
/-- a method's contract: from its arguments and a memory it comes to an answer and a memory -/
def MM (mt : aM) (lv : Nat) (av : List Value) (n0 : Nat) (M0 : aMem) (r : List Value) (n1 : Nat) (M1 : aMem) : Prop :=
  ∀ (l : Launch) (D : va_G) (σ0 τ0 : Nat → Nat) (sz : Nat), Met l mt.1 (Cond.code mt.1 mt.2.1 mt.2.2.1 mt.2.2.2.1 :: gw) (rmL lv n0 n1) (aSta D σ0 τ0 n0 M0 av sz) (aEnd D (Aw σ0 n0 sz) σ0 n0 n1 r M1) (n1 - n0) (szp n1 - szp n0) (Aw σ0 n0 sz)
theorem szp_mono {a b : Nat} (hab : a ≤ b) : szp a ≤ szp b := by
  induction hab with
  | refl => exact Nat.le_refl _
  | step _ ih => exact Nat.le_trans ih (Nat.le_add_right _ _)
theorem en_as {σ : Nat → Nat} : ∀ (av : List Value) (i : Nat), ascF σ i (enL av) = lv_args i (av.map (cv σ)) := by
  intro av
  induction av with
  | nil => intro i; rfl
  | cons v t ih =>
    intro i
    cases v <;> simp [enL, ascF, lv_args, ih, cv, Value.category]
theorem en_len {σ : Nat → Nat} : ∀ (av : List Value), (enL av).length = (lg_sl (av.map (cv σ))).length := by
  intro av
  induction av with
  | nil => rfl
  | cons v t ih =>
    simp only [lg_sl] at ih
    cases v <;> simp [enL, lg_sl, ih, cv, Value.category] <;> omega
theorem pa_as {σ : Nat → Nat} : ∀ (n : Nat) (ls : List (Option Value)) (i : Nat), ls.length ≤ n → ascF σ i (paL n ls) = ascF σ i ls := by
  intro n
  induction n with
  | zero => intro ls i h; cases ls with
    | nil => rfl
    | cons a t => simp at h
  | succ n ih =>
    intro ls i h
    cases ls with
    | nil => simp only [paL, ascF]; exact ih [] (i + 1) (Nat.zero_le _)
    | cons a t =>
      simp only [List.length_cons] at h
      cases a with
      | none => simp only [paL, ascF]; exact ih t (i + 1) (by omega)
      | some v => simp only [paL, ascF]; rw [ih t (i + 1) (by omega)]
theorem pa_len : ∀ (n : Nat) (ls : List (Option Value)), (paL n ls).length = n := by
  intro n
  induction n with
  | zero => intro ls; cases ls <;> rfl
  | succ n ih => intro ls; cases ls <;> simp [paL, ih]
set_option maxHeartbeats 1000000 in
/-- a contract out of a segment from entry to return -/
theorem MM.of {mt : aM} {lv : Nat} {av : List Value} {n0 n1 : Nat} {M0 M1 : aMem} {r : List Value} (hy : plainName mt.1.cls = true) (hok : OkM mt) (hen : (enL av).length ≤ mt.2.2.1) (hlv : 1 ≤ lv) (hscr : mt.2.2.2.2.1.1 = 0) (hnx : mt.2.2.2.2.1.2.2 ≤ n1) (hn01 : n0 ≤ n1) (hn1 : n1 ≤ nW)
    (h : Seg mt lv (0, paL mt.2.2.1 (enL av), [], n0, M0) (aRET, [], r, n1, M1)) : MM mt lv av n0 M0 r n1 M1 := by
  intro l D σ0 τ0 sz
  refine Met.ofW (cc := mt.2.1) (maxL := mt.2.2.1) (ret := mt.2.2.2.1) hy rfl ?_
  intro p e s m args below meth c s₁ B hml hv
  obtain ⟨rfl, hsz, hP, hD, hK, hT, hX, hnW, hRL⟩ := hv
  have hx := B.exec
  have hb := B.bytes
  have hr := B.returns
  have hts := atoms_spec (ws := Cond.code mt.1 mt.2.1 mt.2.2.1 mt.2.2.2.1 :: gw) B.pre
  have hown : s.vm.findClass mt.1.cls = some m.cls := findClass_of_methodNamed B.named
  have hlocks := B.notSynchronized
  have hnm : meth.name = mt.1.name := (name_of_methodNamed B.named B.method).1
  have hA : ∀ q, s.heap.size ≤ q → Aw σ0 n0 sz q := fun q hq => Or.inr (by rw [← hsz]; exact hq)
  have hDA : va_D (Aw σ0 n0 sz) (wd σ0 τ0 n0 M0) := ⟨hD.1, fun k q hk => by
    rcases Nat.lt_or_ge k n0 with hk2 | hk2
    · rw [wd_at hk2] at hk; cases hk; exact Or.inl ⟨k, hk2, rfl⟩
    · rw [wd_out hk2] at hk; cases hk⟩
  have C : aCx mt lv p l e (rmL lv n0 n1) s m (av.map (cv σ0)).toArray below meth c (Aw σ0 n0 sz) D σ0 n0 (MQ below (aEnd D (Aw σ0 n0 sz) σ0 n0 n1 r M1) (av.map (cv σ0)).toArray s (n1 - n0) (szp n1 - szp n0) (Aw σ0 n0 sz)) (fun st n M => st = r ∧ n = n1 ∧ M = M1) := by
    refine ⟨⟨hx, hb, hml, hnm, hown⟩, fun w hw => hts w (List.mem_cons_of_mem _ hw), hK, hX, hA, hok, ⟨hlv, Nat.le_refl _, Nat.le_refl _, ?_, ?_, Nat.le_trans hnx hn1⟩, Or.inl hscr, ?_⟩
    · show _ ≤ n1 - n0; omega
    · have := szp_mono hnx
      show _ ≤ szp n1 - szp n0; omega
    · intro pc i st n M σ τ H locs la hret hdec hfin hF
      obtain ⟨rfl, rfl, rfl⟩ := hfin
      have hq : ∀ (t : State) (v : Option Value), t.heap = H → s.WarmedH t.vm → v = (st.map (cv σ)).head? → aEnd D (Aw σ0 n0 sz) σ0 n0 n st M (av.map (cv σ0)).toArray s (.returned v) t := fun t v ht hw hv => ⟨σ, τ, hF.1, hF.2.2.1.moved hw.alike, ⟨hF.2.1.1, hF.2.1.2.1.1, hF.2.1.2.2⟩, by rw [hv], by rw [ht]; exact hF.2.2.2.1, hF.2.2.2.2.1, hF.2.2.2.2.2.F ht⟩
      have hf : ∀ q ∈ locs, Aw σ0 n0 sz q.base := hF.2.2.2.2.2.2.2
      cases i <;> try exact hret.elim
      case ireturn =>
        match st, hret with
        | [.int v], ⟨ty, h1, h2⟩ => exact W.zret hx hb (hr.trans h1) h2 (fun t ht hw => hq t _ ht hw rfl) hf hdec
      case lreturn =>
        match st, hret with
        | [.long v], h1 => exact W.lret hx hb (hr.trans h1) (fun t ht hw => hq t _ ht hw rfl) hf hdec
      case areturn =>
        match st, hret with
        | [.ref v], ⟨k, h1⟩ => exact W.aret hx hb (hr.trans h1) (Or.inl ⟨k, rfl⟩) (Or.inr ⟨_, rfl⟩) (fun t ht hw => hq t _ ht hw rfl) hf hdec
      case return_ =>
        match st, hret with
        | [], h1 => exact W.vret hx hb (hr.trans h1) (fun t ht hw => hq t _ ht hw rfl) hf hdec
  have hl := lv_entry (av.map (cv σ0)) (n := mt.2.2.1) (by rw [← en_len]; exact hen)
  have hw := (h p l e _ s m _ below meth c _ D σ0 n0 _ _ C ⟨fun _ => ⟨rfl, rfl, rfl⟩, fun z => absurd rfl z⟩).2 (show (0 : Nat) ≠ aRET by decide) σ0 τ0 s.heap [] _ ⟨fun _ _ => rfl, ⟨Nat.le_refl _, ⟨hnW, Or.inl rfl⟩, hRL⟩, hT, hP, hDA, va_S.rf⟩ (pa_len _ _) (by rw [pa_as _ _ _ hen, en_as]; exact hl)
  rw [lg_entry_eq]
  simp only [Nat.sub_self] at hw
  exact hw
/-- references among the locals and on the stack that a call leaves as they are -/
def rfV (n : Nat) : Value → Bool
  | .ref x => Nat.blt x n || Nat.ble 100 x
  | _ => true
def rfL (n : Nat) : List (Option Value) → Bool
  | [] => true
  | none :: t => rfL n t
  | some v :: t => rfV n v && rfL n t
def rfS (n : Nat) : List Value → Bool
  | [] => true
  | v :: t => rfV n v && rfS n t
theorem cv_ok {σ σ1 : Nat → Nat} {n : Nat} (h : aOk σ n σ1) {v : Value} (hv : rfV n v = true) : cv σ1 v = cv σ v := by
  cases v with
  | ref x =>
    simp only [rfV, Bool.or_eq_true, Nat.blt_eq, Nat.ble_eq] at hv
    simp only [cv, h x hv]
  | _ => rfl
theorem st_ok {σ σ1 : Nat → Nat} {n : Nat} (h : aOk σ n σ1) : ∀ {st : List Value}, rfS n st = true → st.map (cv σ1) = st.map (cv σ) := by
  intro st
  induction st with
  | nil => intro _; rfl
  | cons v t ih =>
    intro hs
    simp only [rfS, Bool.and_eq_true] at hs
    simp only [List.map_cons, cv_ok h hs.1, ih hs.2]
theorem as_ok {σ σ1 : Nat → Nat} {n : Nat} (h : aOk σ n σ1) : ∀ (ls : List (Option Value)) (i : Nat), rfL n ls = true → ascF σ1 i ls = ascF σ i ls := by
  intro ls
  induction ls with
  | nil => intro i _; rfl
  | cons a t ih =>
    intro i hs
    cases a with
    | none => exact ih (i + 1) hs
    | some v =>
      simp only [rfL, Bool.and_eq_true] at hs
      simp only [ascF, cv_ok h hs.1, ih (i + 1) hs.2]
/-- what a method's own words say: they stand in the tables -/
def OkY (mt : aM) (np : Nat) : Prop := Cond.code mt.1 mt.2.1 mt.2.2.1 mt.2.2.2.1 ∈ gw ∧ Cond.initialized mt.1.cls ∈ gw ∧ (mt.1.cls ≠ "java/lang/invoke/MethodHandle" ∧ mt.1.cls ≠ "java/lang/invoke/VarHandle" ∧ (parseMethodDescriptor mt.1.desc).map (fun d => d.parameters.length) = some np) ∧ mt.2.2.1 ≤ 21
theorem cat_cv {σ : Nat → Nat} {st : List Value} (h : (st.map fun v => v.category).sum ≤ 8) : ((st.map (cv σ)).map fun v => v.category).sum ≤ 8 := by
  rw [List.map_map, show ((fun v : Value => v.category) ∘ cv σ) = (fun v => v.category) from funext fun v => cv_cat σ v]
  exact h
theorem gw_good {y : Cond} (h : y ∈ gw) : GoodIn gw (y :: gw) := fun w hw => by
  rcases List.mem_cons.mp hw with rfl | hw
  · exact ⟨h, gw_ok h⟩
  · exact ⟨hw, gw_ok hw⟩
section CALL
variable {mt ct : aM} {lv lw : Nat} {pc nx tg : Nat} {q : aQ} {ls : List (Option Value)} {st : List Value} {n n1 : Nat} {M M1 : aMem} {av r : List Value} {idx np : Nat} {i : Instr}
theorem sta_blind {D : va_G} {σ0 τ0 : Nat → Nat} {n0 sz : Nat} {M0 : aMem} : FrameBlind (aSta D σ0 τ0 n0 M0 av sz) := fun a U g mk h => by
  obtain ⟨h1, h2, h3, h4, h5, h6, h7, h8⟩ := h
  have hvm : (U.calling g mk a).vm = U.vm := rfl
  have hal : U.vm.Alike (U.calling g mk a).vm := by rw [hvm]; exact Vm.Alike.refl U.vm
  exact ⟨h1, h2, h3, h4, va_K.moved hal h5, h6.moved hal, h7.same hvm, h8⟩
theorem Seg.core (hrf : rfL n ls = true) (hrs : rfS n st = true) (hr1 : r.length ≤ 1) (hpc : pc < aRET) (hnx : nx = pc + 3) (hnr : nx < aRET) (hn : n ≤ n1) (stk : List Value)
    (run : ∀ (p : Program) (l : Launch) (e : Env) (R : Room) (s : State) (m : MethodId) (args : Array Value) (below : List Frame) (meth : Method) (c : Code) (A : Nat → Prop) (D : va_G) (σ0 : Nat → Nat) (n0 : Nat) (Q : State → Prop) (Fz : List Value → Nat → aMem → Prop) (σ τ : Nat → Nat) (H : Heap) (locs : List Loc) (la : Array Slot), aCx mt lv p l e R s m args below meth c A D σ0 n0 Q Fz → aFa A D σ0 n0 mt.2.2.2.2.1.2.2 s σ τ n M H locs → la.size = mt.2.2.1 →
      (∀ U : State, U.heap = H → s.WarmedH U.vm → aSta D σ τ n M av H.size (av.map (cv σ)).toArray U) → ((n - n0) + (n1 - n) ≤ R.cells ∧ (szp n - szp n0) + (szp n1 - szp n) ≤ R.slots) →
      ∃ a, va_Run p l e R s m args below meth c H locs (n - n0) (szp n - szp n0) (n1 - n) (szp n1 - szp n) (F0 m pc la (stk.map (cv σ))) (st.map (cv σ)) (aEnd D (Aw σ n H.size) σ n n1 r M1 a) (Aw σ n H.size))
    (hroom : n1 = n ∨ n1 ≤ mt.2.2.2.2.1.2.2) : Seg mt lv (pc, ls, stk, n, M) (nx, ls, r ++ st, n1, M1) := by
  intro p l e R s m args below meth c A D σ0 n0 Q Fz C h
  refine ⟨fun hr => absurd hr (Nat.ne_of_lt hpc), fun _ σ τ H locs la hF hlen hl => ?_⟩
  subst hnx
  dsimp only at hF hlen hl ⊢
  obtain ⟨hO, ⟨hn0, ⟨hnW, hnz⟩, hRL⟩, hT, hP, hD, hS⟩ := id hF
  have hAw : ∀ q, Aw σ n H.size q → A q := fun q hq => by
    rcases hq with ⟨k, hk, rfl⟩ | hq
    · exact hD.2 k _ (wd_at hk)
    · exact C.2.2.2.2.1 q (Nat.le_trans hS.1 hq)
  have hpre : ∀ U : State, U.heap = H → s.WarmedH U.vm → aSta D σ τ n M av H.size (av.map (cv σ)).toArray U := fun U hU hW => by
    refine ⟨rfl, by rw [hU], by rw [hU]; exact hP, hD.weaken (fun _ _ _ _ => trivial), va_K.moved hW.alike C.2.2.1, hT.moved hW.alike, ?_, hnW, hRL⟩
    rw [hU]
    exact (((C.2.2.2.1.swap (fun a ha => hO a (Or.inr ha))).kept hS.2.1).narrow hAw).warm hW
  have s0 := szp_mono hn0
  have s1 := szp_mono hn
  have hroom2 : (n - n0) + (n1 - n) ≤ R.cells ∧ (szp n - szp n0) + (szp n1 - szp n) ≤ R.slots := by
    obtain ⟨-, -, -, c1, c2, -⟩ := C.2.2.2.2.2.2.1
    rcases hroom with e1 | e1
    · rcases hnz with e2 | e2
      · subst e1; subst e2; simp
      · have := szp_mono e2
        subst e1
        omega
    · have := szp_mono e1
      omega
  obtain ⟨av0, hrun⟩ := run p l e R s m args below meth c A D σ0 n0 Q Fz σ τ H locs la C hF hl.1 hpre hroom2
  intro T hTh X
  obtain ⟨v, st₀, t, T', L, h0, X', hL, e1, e2, ⟨σ1, τ1, k1, k2, k3, k4, k5, k6, k7⟩, stp⟩ := hrun T hTh X
  have hv : v.toList = r.map (cv σ1) := by
    have : v = (r.map (cv σ1)).head? := by injection k4
    rw [this]
    match r, hr1 with
    | [], _ => rfl
    | [x], _ => rfl
    | _ :: _ :: _, z => simp at z
  have hal : s.vm.Alike t.vm := by rw [← e2]; exact X'.warmed.alike
  have hbk : t.vm.Alike s.vm := hal.symm
  have hw := (h.2 (show pc + 3 ≠ aRET from ?_)) σ1 τ1 t.heap (locs ++ L) la ⟨fun a ha => ?_, ⟨by dsimp only; omega, ⟨k3.2.1, ?_⟩, k3.2.2⟩, k2.moved hbk, k5, k6.weaken (fun _ _ _ z => hAw _ z), ?_⟩ hlen (by dsimp only; rw [as_ok k1 _ _ hrf]; exact hl)
  · dsimp only at hw
    have hcell : n1 - n0 = (n - n0) + (n1 - n) := by omega
    have hslot : szp n1 - szp n0 = (szp n - szp n0) + (szp n1 - szp n) := by omega
    rw [hcell, hslot] at hw
    obtain ⟨t2, a1, b1⟩ := hw T' e1 X'
    refine ⟨t2, stp t2 ?_, b1⟩
    rw [List.map_append, st_ok k1 hrs, ← hv] at a1
    exact a1
  · exact Nat.ne_of_lt hnr
  · rcases ha with ha | ha
    · rw [k1 a (Or.inl (by omega))]; exact hO a (Or.inl ha)
    · rw [k1 a (Or.inr ha)]; exact hO a (Or.inr ha)
  · dsimp only
    rcases hroom with z | z
    · rw [z]; exact hnz
    · exact Or.inr z
  · unfold va_F at k7
    rw [h0] at k7
    refine ⟨Nat.le_trans hS.1 k7.1, fun q h1 h2 => ?_, fun q hq => ?_⟩
    · rw [k7.2 q (Nat.lt_of_lt_of_le h1 hS.1) (fun z => h2 (hAw q z))]
      exact hS.2.1 q h1 h2
    · rcases List.mem_append.mp hq with z | z
      · exact hS.2.2 q z
      · exact hAw _ (hL q z)
theorem ok_pc (hok : OkM mt) (hc : mt.2.2.2.2.2 pc = some (i, nx, tg, q)) (hl : lenI i = 3) : pc < aRET ∧ nx = pc + 3 ∧ nx < aRET ∧ decode mt.2.1 pc = .ok (i, 3) := by
  obtain ⟨h1, h2, ⟨h3, h4, -⟩, -⟩ := hok pc _ hc
  dsimp only at h1 h2 h4
  obtain ⟨h5, h6⟩ := ln_1 h1 h2 hl (by decide)
  exact ⟨h3, h5, h4, h6⟩
theorem call_b {R : Room} {s : State} {args : Array Value} (hts : ∀ w ∈ gw, w.before args s = true) {own : String} (hy : OkY ct np) (hl : Cond.methodLink own idx ct.1 ∈ gw) (hlw : lw < lv) (hR : lv ≤ R.frames ∧ 40 * lv ≤ R.locals) : CallB R s args own idx ct.1 ct.2.1 ct.2.2.1 ct.2.2.2.1 (Cond.code ct.1 ct.2.1 ct.2.2.1 ct.2.2.2.1 :: gw) (rmL lw n n1) (n1 - n) (szp n1 - szp n) np :=
  callB_of np hts (gw_good hy.1) rfl rfl rfl (hts _ hy.2.1) (hts _ hl) hy.2.2.1 (by have := hy.2.2.2; simp only [rmL]; omega)
/-- a call of an object's method -/
theorem Seg.callV {b ci : Nat} {As : List Value} (hM : MM ct lw (.ref b :: As) n M r n1 M1) (hc : mt.2.2.2.2.2 pc = some (.invokevirtual idx, nx, tg, q)) (hl : Cond.methodLink mt.1.cls idx ct.1 ∈ gw) (hin : Cond.instanceMethod ct.1 ∈ gw) (hse : Cond.selects ct.1.cls ct.1 ct.1 ∈ gw) (hy : OkY ct np) (hb : shp b = (0, ci) ∧ b < n ∧ ci < 7 ∧ nmC ci = ct.1.cls) (hnp : As.length = np)
    (hlw : lw < lv) (hrf : rfL n ls = true) (hrs : rfS n st = true) (hcat : (st.map fun v => v.category).sum ≤ 8) (hr1 : r.length ≤ 1) (hn : n ≤ n1) (hroom : n1 = n ∨ n1 ≤ mt.2.2.2.2.1.2.2) : Seg mt lv (pc, ls, As.reverse ++ (.ref b :: st), n, M) (nx, ls, r ++ st, n1, M1) := by
  intro p l e R s m args below meth c A D σ0 n0 Q Fz C
  obtain ⟨hpc, hnx, hnr, hdg⟩ := ok_pc C.2.2.2.2.2.1 hc rfl
  refine Seg.core (av := .ref b :: As) hrf hrs hr1 hpc hnx hnr hn _ ?_ hroom p l e R s m args below meth c A D σ0 n0 Q Fz C
  intro p l e R s m args below meth c A D σ0 n0 Q Fz σ τ H locs la C hF hla hpre hroom2
  refine ⟨_, va_runV (As := As.map (cv σ)) (b := σ b) (C := ct.1.cls) (n := np) ⟨C.1.1, C.1.2.1, C.1.2.2.1, C.1.2.2.2.2, C.2.1⟩ (hM l D σ τ H.size) ⟨call_b (lv := lv) C.2.1 hy hl hlw ⟨C.2.2.2.2.2.2.1.2.1, C.2.2.2.2.2.2.1.2.2.1⟩, C.2.1 _ hin, C.2.1 _ hse⟩ ⟨sta_blind, ?_, fun U hU hW => hpre U hU hW⟩ rfl (by simpa using hnp) hla (by simp [cv]) (lv_room (cat_cv hcat)) hdg hroom2⟩
  have he := wd_at (σ := σ) (τ := τ) (M := M) hb.2.1
  rw [ce_obj hb.1] at he
  have := va_recv C.2.2.1 hF.2.2.2.1 (vw_at hb.2.2.1) he
  rw [hb.2.2.2] at this
  exact this
/-- a call of a constant text's method -/
theorem Seg.callT {j : Nat} {As : List Value} (hM : MM ct lw (.ref (100 + j) :: As) n M r n1 M1) (hc : mt.2.2.2.2.2 pc = some (.invokevirtual idx, nx, tg, q)) (hl : Cond.methodLink mt.1.cls idx ct.1 ∈ gw) (hin : Cond.instanceMethod ct.1 ∈ gw) (hse : Cond.selects ct.1.cls ct.1 ct.1 ∈ gw) (hy : OkY ct np) (hb : j < strN ∧ ct.1.cls = "java/lang/String") (hnp : As.length = np)
    (hlw : lw < lv) (hrf : rfL n ls = true) (hrs : rfS n st = true) (hcat : (st.map fun v => v.category).sum ≤ 8) (hr1 : r.length ≤ 1) (hn : n ≤ n1) (hroom : n1 = n ∨ n1 ≤ mt.2.2.2.2.1.2.2) : Seg mt lv (pc, ls, As.reverse ++ (.ref (100 + j) :: st), n, M) (nx, ls, r ++ st, n1, M1) := by
  intro p l e R s m args below meth c A D σ0 n0 Q Fz C
  obtain ⟨hpc, hnx, hnr, hdg⟩ := ok_pc C.2.2.2.2.2.1 hc rfl
  refine Seg.core (av := .ref (100 + j) :: As) hrf hrs hr1 hpc hnx hnr hn _ ?_ hroom p l e R s m args below meth c A D σ0 n0 Q Fz C
  intro p l e R s m args below meth c A D σ0 n0 Q Fz σ τ H locs la C hF hla hpre hroom2
  refine ⟨_, va_runV (As := As.map (cv σ)) (b := σ (100 + j)) (C := ct.1.cls) (n := np) ⟨C.1.1, C.1.2.1, C.1.2.2.1, C.1.2.2.2.2, C.2.1⟩ (hM l D σ τ H.size) ⟨call_b (lv := lv) C.2.1 hy hl hlw ⟨C.2.2.2.2.2.2.1.2.1, C.2.2.2.2.2.2.1.2.2.1⟩, C.2.1 _ hin, C.2.1 _ hse⟩ ⟨sta_blind, ?_, fun U hU hW => hpre U hU hW⟩ rfl (by simpa using hnp) hla (by simp [cv]) (lv_room (cat_cv hcat)) hdg hroom2⟩
  have := vk_recv C.2.2.2.1.2.1 hb.1 hF.2.2.2.2.2
  rw [hF.1 (100 + j) (Or.inr (by omega)), hb.2]
  exact this
/-- a call of a static method -/
theorem Seg.callS (hM : MM ct lw av n M r n1 M1) (hc : mt.2.2.2.2.2 pc = some (.invokestatic idx, nx, tg, q)) (hl : Cond.methodLink mt.1.cls idx ct.1 ∈ gw) (hst : Cond.static ct.1 ∈ gw) (hy : OkY ct np) (hnp : av.length = np)
    (hlw : lw < lv) (hrf : rfL n ls = true) (hrs : rfS n st = true) (hcat : (st.map fun v => v.category).sum ≤ 8) (hr1 : r.length ≤ 1) (hn : n ≤ n1) (hroom : n1 = n ∨ n1 ≤ mt.2.2.2.2.1.2.2) : Seg mt lv (pc, ls, av.reverse ++ st, n, M) (nx, ls, r ++ st, n1, M1) := by
  intro p l e R s m args below meth c A D σ0 n0 Q Fz C
  obtain ⟨hpc, hnx, hnr, hdg⟩ := ok_pc C.2.2.2.2.2.1 hc rfl
  refine Seg.core (av := av) hrf hrs hr1 hpc hnx hnr hn _ ?_ hroom p l e R s m args below meth c A D σ0 n0 Q Fz C
  intro p l e R s m args below meth c A D σ0 n0 Q Fz σ τ H locs la C hF hla hpre hroom2
  exact ⟨_, va_runS (As := av.map (cv σ)) (n := np) ⟨C.1.1, C.1.2.1, C.1.2.2.1, C.1.2.2.2.2, C.2.1⟩ (hM l D σ τ H.size) ⟨call_b (lv := lv) C.2.1 hy hl hlw ⟨C.2.2.2.2.2.2.1.2.1, C.2.2.2.2.2.2.1.2.2.1⟩, C.2.1 _ hst⟩ ⟨sta_blind, fun U hU hW => hpre U hU hW⟩ rfl (by simpa using hnp) hla (by simp) (lv_room (cat_cv hcat)) hdg hroom2⟩
/-- a call of a nest mate's private static method -/
theorem Seg.callN (hM : MM ct lw av n M r n1 M1) (hc : mt.2.2.2.2.2 pc = some (.invokestatic idx, nx, tg, q)) (hl : Cond.methodLinkNest mt.1.cls idx ct.1 RX5 ∈ nestw) (hst : Cond.static ct.1 ∈ gw) (hy : OkY ct np) (hnp : av.length = np)
    (hlw : lw < lv) (hrf : rfL n ls = true) (hrs : rfS n st = true) (hcat : (st.map fun v => v.category).sum ≤ 8) (hr1 : r.length ≤ 1) (hn : n ≤ n1) (hroom : n1 = n ∨ n1 ≤ mt.2.2.2.2.1.2.2) : Seg mt lv (pc, ls, av.reverse ++ st, n, M) (nx, ls, r ++ st, n1, M1) := by
  intro p l e R s m args below meth c A D σ0 n0 Q Fz C
  obtain ⟨hpc, hnx, hnr, hdg⟩ := ok_pc C.2.2.2.2.2.1 hc rfl
  refine Seg.core (av := av) hrf hrs hr1 hpc hnx hnr hn _ ?_ hroom p l e R s m args below meth c A D σ0 n0 Q Fz C
  intro p l e R s m args below meth c A D σ0 n0 Q Fz σ τ H locs la C hF hla hpre hroom2
  exact ⟨_, va_runSN (As := av.map (cv σ)) (n := np) ⟨C.1.1, C.1.2.1, C.1.2.2.1, C.1.2.2.2.2, C.2.1⟩ (hM l D σ τ H.size) ⟨va_cnB np C.2.1 (gw_good hy.1) rfl rfl rfl (C.2.2.2.1.2.2.2.1 _ hl) (C.2.1 _ hy.2.1) hy.2.2.1 (by have := hy.2.2.2; have h1 := C.2.2.2.2.2.2.1.2.1; have h2 := C.2.2.2.2.2.2.1.2.2.1; simp only [rmL]; omega), C.2.1 _ hst, trivial⟩ ⟨sta_blind, fun U hU hW => hpre U hU hW⟩ rfl (by simpa using hnp) hla (by simp) (lv_room (cat_cv hcat)) hdg hroom2⟩
/-- a call of a constructor -/
theorem Seg.callI {b : Nat} {As : List Value} (hM : MM ct lw (.ref b :: As) n M [] n1 M1) (hret : ct.2.2.2.1 = none) (hc : mt.2.2.2.2.2 pc = some (.invokespecial idx, nx, tg, q)) (hl : Cond.methodLink mt.1.cls idx ct.1 ∈ gw) (hin : Cond.instanceMethod ct.1 ∈ gw) (hini : ct.1.name = "<init>") (hy : OkY ct np) (hnp : As.length = np)
    (hlw : lw < lv) (hrf : rfL n ls = true) (hrs : rfS n st = true) (hcat : (st.map fun v => v.category).sum ≤ 8) (hn : n ≤ n1) (hroom : n1 = n ∨ n1 ≤ mt.2.2.2.2.1.2.2) : Seg mt lv (pc, ls, As.reverse ++ (.ref b :: st), n, M) (nx, ls, st, n1, M1) := by
  intro p l e R s m args below meth c A D σ0 n0 Q Fz C
  obtain ⟨hpc, hnx, hnr, hdg⟩ := ok_pc C.2.2.2.2.2.1 hc rfl
  refine Seg.core (r := []) (av := .ref b :: As) hrf hrs (Nat.zero_le _) hpc hnx hnr hn _ ?_ hroom p l e R s m args below meth c A D σ0 n0 Q Fz C
  intro p l e R s m args below meth c A D σ0 n0 Q Fz σ τ H locs la C hF hla hpre hroom2
  have cb := call_b (n := n) (n1 := n1) (R := R) (lv := lv) C.2.1 hy hl hlw ⟨C.2.2.2.2.2.2.1.2.1, C.2.2.2.2.2.2.1.2.2.1⟩
  have hMl := hM l D σ τ H.size
  rw [hret] at cb hMl
  exact ⟨_, va_runI (As := As.map (cv σ)) (b := σ b) (n := np) ⟨C.1.1, C.1.2.1, C.1.2.2.1, C.1.2.2.2.2, C.2.1⟩ hMl ⟨cb, hini, C.2.1 _ hin⟩ ⟨sta_blind, fun U hU hW => hpre U hU hW⟩ rfl (by simpa using hnp) hla (by simp [cv]) (lv_room (cat_cv hcat)) hdg hroom2⟩
end CALL
end
section
/-! ===== links of the constant pools, by their places in the tables; printed by wip/whole/mk12.py ===== -/
def aC (N : Nat) (f : Nat → Option aI) : Nat → Option aI := fun pc => bif Nat.blt pc N then f pc else none
/-- an entry of a code table, checked by program -/
def chkI (lks : List (Nat × aQ)) (maxL pc : Nat) (e : aI) : Bool := match e with
  | (i, _, tg, q) => match i with
    | .iconst v => decide (Int32.ofInt v = q.2.2.2)
    | .bipush v => decide ((Int8.ofInt v).toInt32 = q.2.2.2)
    | .sipush v => decide ((Int16.ofInt v).toInt32 = q.2.2.2)
    | .lconst v => decide ((v : Nat) = q.2.1)
    | .iload k => decide (k = q.2.1)
    | .aload k => decide (k = q.2.1)
    | .lload k => decide (k = q.2.1)
    | .iload_n k => decide ((k : Nat) = q.2.1)
    | .aload_n k => decide ((k : Nat) = q.2.1)
    | .lload_n k => decide ((k : Nat) = q.2.1)
    | .istore k => decide (k = q.2.1 ∧ q.2.1 < maxL)
    | .astore k => decide (k = q.2.1 ∧ q.2.1 < maxL)
    | .lstore k => decide (k = q.2.1 ∧ q.2.1 + 1 < maxL)
    | .istore_n k => decide ((k : Nat) = q.2.1 ∧ q.2.1 < maxL)
    | .astore_n k => decide ((k : Nat) = q.2.1 ∧ q.2.1 < maxL)
    | .lstore_n k => decide ((k : Nat) = q.2.1 ∧ q.2.1 + 1 < maxL)
    | .iinc k v => decide (k = q.2.1 ∧ q.2.1 < maxL ∧ Int32.ofInt v = q.2.2.2)
    | .tableswitch d lo hi offs => decide ((lo = (Int32.ofInt lo).toInt ∧ hi = lo + offs.toList.length - 1 ∧ hi < 2147483647) ∧ ∀ o ∈ d :: offs.toList, 0 ≤ (pc : Int) + o ∧ (pc : Int) + o < 99999)
    | .goto off => decide ((pc : Int) + off = (tg : Int))
    | .ifCond _ off => decide ((pc : Int) + off = (tg : Int))
    | .if_icmp _ off => decide ((pc : Int) + off = (tg : Int))
    | .ldc idx => lks.elem (idx, q)
    | .ldc_w idx => lks.elem (idx, q)
    | .ldc2_w idx => lks.elem (idx, q)
    | .getfield idx => lks.elem (idx, q)
    | .putfield idx => lks.elem (idx, q)
    | .getstatic idx => lks.elem (idx, q)
    | .new idx => lks.elem (idx, q)
    | .anewarray idx => lks.elem (idx, q)
    | .invokestatic idx => Nat.beq q.1 20 || lks.elem (idx, q)
    | .invokespecial idx => Nat.beq q.1 20 || lks.elem (idx, q)
    | _ => true
theorem lk_20 {own : String} {idx : Nat} {q : aQ} (h : Nat.beq q.1 20 = true) : lkW own idx q := by
  obtain ⟨a, b, c, d⟩ := q
  have : a = 20 := Nat.eq_of_beq_eq_true h
  subst this
  trivial
theorem chkI_ok {y : MethodName} {lks : List (Nat × aQ)} {maxL pc : Nat} {e : aI} (hl : ∀ x ∈ lks, lkW y.cls x.1 x.2) (h : chkI lks maxL pc e = true) : okI y maxL pc e := by
  obtain ⟨i, nx, tg, q⟩ := e
  have hm : ∀ {idx : Nat}, lks.elem (idx, q) = true → lkW y.cls idx q := fun z => hl _ (List.mem_of_elem_eq_true z)
  have hm2 : ∀ {idx : Nat}, (Nat.beq q.1 20 || lks.elem (idx, q)) = true → lkW y.cls idx q := fun z => by
    rw [Bool.or_eq_true] at z
    exact z.elim lk_20 hm
  cases i
  all_goals first
    | exact trivial
    | (simp only [chkI, decide_eq_true_eq] at h; exact h)
    | exact hm h
    | exact hm2 h
def chkE (lks : List (Nat × aQ)) (cc : ByteArray) (maxL pc : Nat) (e : aI) : Bool := decide (decode cc pc = .ok (e.1, e.2.1 - pc)) && decide (lenI e.1 = 0 ∨ e.2.1 = pc + lenI e.1) && decide (pc < 99999 ∧ e.2.1 < 99999 ∧ e.2.2.1 < 99999) && chkI lks maxL pc e
def chkO (lks : List (Nat × aQ)) (cc : ByteArray) (maxL pc : Nat) (e : Option aI) : Bool := match e with
  | some e => chkE lks cc maxL pc e
  | none => true
theorem chkE_ok {y : MethodName} {lks : List (Nat × aQ)} {cc : ByteArray} {maxL pc : Nat} {e : aI} (hl : ∀ x ∈ lks, lkW y.cls x.1 x.2) (h : chkE lks cc maxL pc e = true) : okE y cc maxL pc e := by
  simp only [chkE, Bool.and_eq_true, decide_eq_true_eq] at h
  obtain ⟨⟨⟨h1, h2⟩, h3⟩, h4⟩ := h
  exact ⟨h1, h2, h3, chkI_ok hl h4⟩
theorem OkM.of {mt : aM} {lks : List (Nat × aQ)} {N : Nat} {f : Nat → Option aI} (hl : ∀ x ∈ lks, lkW mt.1.cls x.1 x.2) (hk : mt.2.2.2.2.2 = aC N f) (h : ∀ pc, pc < N → chkO lks mt.2.1 mt.2.2.1 pc (f pc) = true) : OkM mt := by
  intro pc en he
  rw [hk] at he
  unfold aC at he
  rcases Nat.lt_or_ge pc N with hp | hp
  · rw [show Nat.blt pc N = true by rw [Nat.blt_eq]; exact hp, cond_true] at he
    have h1 := h pc hp
    rw [he] at h1
    exact chkE_ok hl h1
  · rw [show Nat.blt pc N = false by rw [← Bool.not_eq_true, Nat.blt_eq]; omega, cond_false] at he
    cases he
def lks_RX0 : List (Nat × aQ) := [(3, (13, 0, 0, (0 : Int32))), (9, (1, 0, 1, (0 : Int32))), (15, (1, 0, 2, (0 : Int32))), (18, (1, 0, 3, (0 : Int32))), (21, (1, 0, 4, (0 : Int32))), (24, (1, 0, 6, (0 : Int32))), (28, (1, 0, 7, (0 : Int32))), (31, (1, 0, 8, (0 : Int32))), (34, (1, 0, 9, (0 : Int32))), (37, (1, 0, 10, (0 : Int32))), (40, (1, 0, 0, (0 : Int32))), (44, (1, 0, 5, (0 : Int32))), (48, (1, 4, 8, (0 : Int32))), (59, (1, 4, 1, (0 : Int32))), (62, (1, 4, 0, (0 : Int32))), (94, (1, 4, 12, (0 : Int32))), (130, (3, 0, 0, (-1 : Int32))), (139, (1, 4, 11, (0 : Int32))), (145, (1, 4, 5, (0 : Int32))), (148, (1, 4, 9, (0 : Int32))), (151, (1, 4, 6, (0 : Int32))), (154, (1, 4, 10, (0 : Int32)))]
theorem lkp_RX0_0 : lkW RX0 3 (13, 0, 0, (0 : Int32)) := gw_in (List.mem_of_getElem? (i := 197) (by decide +kernel)) rfl
theorem lkp_RX0_1 : lkW RX0 9 (1, 0, 1, (0 : Int32)) := ⟨by decide, by decide, gw_in (List.mem_of_getElem? (i := 199) (by decide +kernel)) rfl⟩
theorem lkp_RX0_2 : lkW RX0 15 (1, 0, 2, (0 : Int32)) := ⟨by decide, by decide, gw_in (List.mem_of_getElem? (i := 200) (by decide +kernel)) rfl⟩
theorem lkp_RX0_3 : lkW RX0 18 (1, 0, 3, (0 : Int32)) := ⟨by decide, by decide, gw_in (List.mem_of_getElem? (i := 201) (by decide +kernel)) rfl⟩
theorem lkp_RX0_4 : lkW RX0 21 (1, 0, 4, (0 : Int32)) := ⟨by decide, by decide, gw_in (List.mem_of_getElem? (i := 202) (by decide +kernel)) rfl⟩
theorem lkp_RX0_5 : lkW RX0 24 (1, 0, 6, (0 : Int32)) := ⟨by decide, by decide, gw_in (List.mem_of_getElem? (i := 204) (by decide +kernel)) rfl⟩
theorem lkp_RX0_6 : lkW RX0 28 (1, 0, 7, (0 : Int32)) := ⟨by decide, by decide, gw_in (List.mem_of_getElem? (i := 205) (by decide +kernel)) rfl⟩
theorem lkp_RX0_7 : lkW RX0 31 (1, 0, 8, (0 : Int32)) := ⟨by decide, by decide, gw_in (List.mem_of_getElem? (i := 206) (by decide +kernel)) rfl⟩
theorem lkp_RX0_8 : lkW RX0 34 (1, 0, 9, (0 : Int32)) := ⟨by decide, by decide, gw_in (List.mem_of_getElem? (i := 207) (by decide +kernel)) rfl⟩
theorem lkp_RX0_9 : lkW RX0 37 (1, 0, 10, (0 : Int32)) := ⟨by decide, by decide, gw_in (List.mem_of_getElem? (i := 208) (by decide +kernel)) rfl⟩
theorem lkp_RX0_10 : lkW RX0 40 (1, 0, 0, (0 : Int32)) := ⟨by decide, by decide, gw_in (List.mem_of_getElem? (i := 198) (by decide +kernel)) rfl⟩
theorem lkp_RX0_11 : lkW RX0 44 (1, 0, 5, (0 : Int32)) := ⟨by decide, by decide, gw_in (List.mem_of_getElem? (i := 203) (by decide +kernel)) rfl⟩
theorem lkp_RX0_12 : lkW RX0 48 (1, 4, 8, (0 : Int32)) := ⟨by decide, by decide, gw_in (List.mem_of_getElem? (i := 88) (by decide +kernel)) rfl⟩
theorem lkp_RX0_13 : lkW RX0 59 (1, 4, 1, (0 : Int32)) := ⟨by decide, by decide, gw_in (List.mem_of_getElem? (i := 74) (by decide +kernel)) rfl⟩
theorem lkp_RX0_14 : lkW RX0 62 (1, 4, 0, (0 : Int32)) := ⟨by decide, by decide, gw_in (List.mem_of_getElem? (i := 70) (by decide +kernel)) rfl⟩
theorem lkp_RX0_15 : lkW RX0 94 (1, 4, 12, (0 : Int32)) := ⟨by decide, by decide, gw_in (List.mem_of_getElem? (i := 102) (by decide +kernel)) rfl⟩
theorem lkp_RX0_16 : lkW RX0 130 (3, 0, 0, (-1 : Int32)) := gw_in (List.mem_of_getElem? (i := 788) (by decide +kernel)) rfl
theorem lkp_RX0_17 : lkW RX0 139 (1, 4, 11, (0 : Int32)) := ⟨by decide, by decide, gw_in (List.mem_of_getElem? (i := 99) (by decide +kernel)) rfl⟩
theorem lkp_RX0_18 : lkW RX0 145 (1, 4, 5, (0 : Int32)) := ⟨by decide, by decide, gw_in (List.mem_of_getElem? (i := 82) (by decide +kernel)) rfl⟩
theorem lkp_RX0_19 : lkW RX0 148 (1, 4, 9, (0 : Int32)) := ⟨by decide, by decide, gw_in (List.mem_of_getElem? (i := 93) (by decide +kernel)) rfl⟩
theorem lkp_RX0_20 : lkW RX0 151 (1, 4, 6, (0 : Int32)) := ⟨by decide, by decide, gw_in (List.mem_of_getElem? (i := 84) (by decide +kernel)) rfl⟩
theorem lkp_RX0_21 : lkW RX0 154 (1, 4, 10, (0 : Int32)) := ⟨by decide, by decide, gw_in (List.mem_of_getElem? (i := 96) (by decide +kernel)) rfl⟩
theorem lkp_RX0 : ∀ x ∈ lks_RX0, lkW RX0 x.1 x.2 := List.forall_mem_cons.mpr ⟨lkp_RX0_0, List.forall_mem_cons.mpr ⟨lkp_RX0_1, List.forall_mem_cons.mpr ⟨lkp_RX0_2, List.forall_mem_cons.mpr ⟨lkp_RX0_3, List.forall_mem_cons.mpr ⟨lkp_RX0_4, List.forall_mem_cons.mpr ⟨lkp_RX0_5, List.forall_mem_cons.mpr ⟨lkp_RX0_6, List.forall_mem_cons.mpr ⟨lkp_RX0_7, List.forall_mem_cons.mpr ⟨lkp_RX0_8, List.forall_mem_cons.mpr ⟨lkp_RX0_9, List.forall_mem_cons.mpr ⟨lkp_RX0_10, List.forall_mem_cons.mpr ⟨lkp_RX0_11, List.forall_mem_cons.mpr ⟨lkp_RX0_12, List.forall_mem_cons.mpr ⟨lkp_RX0_13, List.forall_mem_cons.mpr ⟨lkp_RX0_14, List.forall_mem_cons.mpr ⟨lkp_RX0_15, List.forall_mem_cons.mpr ⟨lkp_RX0_16, List.forall_mem_cons.mpr ⟨lkp_RX0_17, List.forall_mem_cons.mpr ⟨lkp_RX0_18, List.forall_mem_cons.mpr ⟨lkp_RX0_19, List.forall_mem_cons.mpr ⟨lkp_RX0_20, List.forall_mem_cons.mpr ⟨lkp_RX0_21, fun _ h => absurd h List.not_mem_nil⟩⟩⟩⟩⟩⟩⟩⟩⟩⟩⟩⟩⟩⟩⟩⟩⟩⟩⟩⟩⟩⟩
def lks_RX1 : List (Nat × aQ) := [(3, (13, 0, 0, (0 : Int32))), (9, (4, 4, 0, (0 : Int32))), (12, (1, 1, 1, (0 : Int32))), (18, (1, 1, 0, (0 : Int32))), (22, (1, 1, 2, (0 : Int32))), (26, (1, 1, 3, (0 : Int32))), (29, (1, 1, 4, (0 : Int32))), (32, (1, 1, 5, (0 : Int32))), (35, (1, 1, 6, (0 : Int32))), (49, (1, 3, 1, (0 : Int32))), (54, (1, 3, 0, (0 : Int32))), (85, (7, 0, 0, (0 : Int32))), (87, (7, 1, 0, (0 : Int32))), (89, (7, 2, 0, (0 : Int32))), (91, (7, 3, 0, (0 : Int32))), (93, (7, 4, 0, (0 : Int32))), (95, (7, 5, 0, (0 : Int32))), (97, (7, 6, 0, (0 : Int32))), (99, (7, 7, 0, (0 : Int32))), (104, (7, 8, 0, (0 : Int32))), (122, (7, 9, 0, (0 : Int32))), (130, (1, 4, 0, (0 : Int32))), (133, (1, 4, 1, (0 : Int32))), (136, (1, 4, 8, (0 : Int32))), (139, (7, 10, 0, (0 : Int32))), (141, (7, 11, 0, (0 : Int32))), (143, (6, 301, 0, (0 : Int32))), (146, (6, 302, 0, (0 : Int32))), (149, (7, 12, 0, (0 : Int32))), (155, (1, 4, 12, (0 : Int32))), (158, (6, 303, 0, (0 : Int32))), (161, (6, 304, 0, (0 : Int32))), (164, (7, 13, 0, (0 : Int32)))]
theorem lkp_RX1_0 : lkW RX1 3 (13, 0, 0, (0 : Int32)) := gw_in (List.mem_of_getElem? (i := 165) (by decide +kernel)) rfl
theorem lkp_RX1_1 : lkW RX1 9 (4, 4, 0, (0 : Int32)) := ⟨by decide, gw_in (List.mem_of_getElem? (i := 166) (by decide +kernel)) rfl⟩
theorem lkp_RX1_2 : lkW RX1 12 (1, 1, 1, (0 : Int32)) := ⟨by decide, by decide, gw_in (List.mem_of_getElem? (i := 169) (by decide +kernel)) rfl⟩
theorem lkp_RX1_3 : lkW RX1 18 (1, 1, 0, (0 : Int32)) := ⟨by decide, by decide, gw_in (List.mem_of_getElem? (i := 168) (by decide +kernel)) rfl⟩
theorem lkp_RX1_4 : lkW RX1 22 (1, 1, 2, (0 : Int32)) := ⟨by decide, by decide, gw_in (List.mem_of_getElem? (i := 171) (by decide +kernel)) rfl⟩
theorem lkp_RX1_5 : lkW RX1 26 (1, 1, 3, (0 : Int32)) := ⟨by decide, by decide, gw_in (List.mem_of_getElem? (i := 172) (by decide +kernel)) rfl⟩
theorem lkp_RX1_6 : lkW RX1 29 (1, 1, 4, (0 : Int32)) := ⟨by decide, by decide, gw_in (List.mem_of_getElem? (i := 173) (by decide +kernel)) rfl⟩
theorem lkp_RX1_7 : lkW RX1 32 (1, 1, 5, (0 : Int32)) := ⟨by decide, by decide, gw_in (List.mem_of_getElem? (i := 174) (by decide +kernel)) rfl⟩
theorem lkp_RX1_8 : lkW RX1 35 (1, 1, 6, (0 : Int32)) := ⟨by decide, by decide, gw_in (List.mem_of_getElem? (i := 175) (by decide +kernel)) rfl⟩
theorem lkp_RX1_9 : lkW RX1 49 (1, 3, 1, (0 : Int32)) := ⟨by decide, by decide, gw_in (List.mem_of_getElem? (i := 154) (by decide +kernel)) rfl⟩
theorem lkp_RX1_10 : lkW RX1 54 (1, 3, 0, (0 : Int32)) := ⟨by decide, by decide, gw_in (List.mem_of_getElem? (i := 151) (by decide +kernel)) rfl⟩
theorem lkp_RX1_11 : lkW RX1 85 (7, 0, 0, (0 : Int32)) := ⟨by decide, by decide +kernel⟩
theorem lkp_RX1_12 : lkW RX1 87 (7, 1, 0, (0 : Int32)) := ⟨by decide, by decide +kernel⟩
theorem lkp_RX1_13 : lkW RX1 89 (7, 2, 0, (0 : Int32)) := ⟨by decide, by decide +kernel⟩
theorem lkp_RX1_14 : lkW RX1 91 (7, 3, 0, (0 : Int32)) := ⟨by decide, by decide +kernel⟩
theorem lkp_RX1_15 : lkW RX1 93 (7, 4, 0, (0 : Int32)) := ⟨by decide, by decide +kernel⟩
theorem lkp_RX1_16 : lkW RX1 95 (7, 5, 0, (0 : Int32)) := ⟨by decide, by decide +kernel⟩
theorem lkp_RX1_17 : lkW RX1 97 (7, 6, 0, (0 : Int32)) := ⟨by decide, by decide +kernel⟩
theorem lkp_RX1_18 : lkW RX1 99 (7, 7, 0, (0 : Int32)) := ⟨by decide, by decide +kernel⟩
theorem lkp_RX1_19 : lkW RX1 104 (7, 8, 0, (0 : Int32)) := ⟨by decide, by decide +kernel⟩
theorem lkp_RX1_20 : lkW RX1 122 (7, 9, 0, (0 : Int32)) := ⟨by decide, by decide +kernel⟩
theorem lkp_RX1_21 : lkW RX1 130 (1, 4, 0, (0 : Int32)) := ⟨by decide, by decide, gw_in (List.mem_of_getElem? (i := 72) (by decide +kernel)) rfl⟩
theorem lkp_RX1_22 : lkW RX1 133 (1, 4, 1, (0 : Int32)) := ⟨by decide, by decide, gw_in (List.mem_of_getElem? (i := 76) (by decide +kernel)) rfl⟩
theorem lkp_RX1_23 : lkW RX1 136 (1, 4, 8, (0 : Int32)) := ⟨by decide, by decide, gw_in (List.mem_of_getElem? (i := 90) (by decide +kernel)) rfl⟩
theorem lkp_RX1_24 : lkW RX1 139 (7, 10, 0, (0 : Int32)) := ⟨by decide, by decide +kernel⟩
theorem lkp_RX1_25 : lkW RX1 141 (7, 11, 0, (0 : Int32)) := ⟨by decide, by decide +kernel⟩
theorem lkp_RX1_26 : lkW RX1 143 (6, 301, 0, (0 : Int32)) := ⟨by decide, by decide +kernel⟩
theorem lkp_RX1_27 : lkW RX1 146 (6, 302, 0, (0 : Int32)) := ⟨by decide, by decide +kernel⟩
theorem lkp_RX1_28 : lkW RX1 149 (7, 12, 0, (0 : Int32)) := ⟨by decide, by decide +kernel⟩
theorem lkp_RX1_29 : lkW RX1 155 (1, 4, 12, (0 : Int32)) := ⟨by decide, by decide, gw_in (List.mem_of_getElem? (i := 103) (by decide +kernel)) rfl⟩
theorem lkp_RX1_30 : lkW RX1 158 (6, 303, 0, (0 : Int32)) := ⟨by decide, by decide +kernel⟩
theorem lkp_RX1_31 : lkW RX1 161 (6, 304, 0, (0 : Int32)) := ⟨by decide, by decide +kernel⟩
theorem lkp_RX1_32 : lkW RX1 164 (7, 13, 0, (0 : Int32)) := ⟨by decide, by decide +kernel⟩
theorem lkp_RX1 : ∀ x ∈ lks_RX1, lkW RX1 x.1 x.2 := List.forall_mem_cons.mpr ⟨lkp_RX1_0, List.forall_mem_cons.mpr ⟨lkp_RX1_1, List.forall_mem_cons.mpr ⟨lkp_RX1_2, List.forall_mem_cons.mpr ⟨lkp_RX1_3, List.forall_mem_cons.mpr ⟨lkp_RX1_4, List.forall_mem_cons.mpr ⟨lkp_RX1_5, List.forall_mem_cons.mpr ⟨lkp_RX1_6, List.forall_mem_cons.mpr ⟨lkp_RX1_7, List.forall_mem_cons.mpr ⟨lkp_RX1_8, List.forall_mem_cons.mpr ⟨lkp_RX1_9, List.forall_mem_cons.mpr ⟨lkp_RX1_10, List.forall_mem_cons.mpr ⟨lkp_RX1_11, List.forall_mem_cons.mpr ⟨lkp_RX1_12, List.forall_mem_cons.mpr ⟨lkp_RX1_13, List.forall_mem_cons.mpr ⟨lkp_RX1_14, List.forall_mem_cons.mpr ⟨lkp_RX1_15, List.forall_mem_cons.mpr ⟨lkp_RX1_16, List.forall_mem_cons.mpr ⟨lkp_RX1_17, List.forall_mem_cons.mpr ⟨lkp_RX1_18, List.forall_mem_cons.mpr ⟨lkp_RX1_19, List.forall_mem_cons.mpr ⟨lkp_RX1_20, List.forall_mem_cons.mpr ⟨lkp_RX1_21, List.forall_mem_cons.mpr ⟨lkp_RX1_22, List.forall_mem_cons.mpr ⟨lkp_RX1_23, List.forall_mem_cons.mpr ⟨lkp_RX1_24, List.forall_mem_cons.mpr ⟨lkp_RX1_25, List.forall_mem_cons.mpr ⟨lkp_RX1_26, List.forall_mem_cons.mpr ⟨lkp_RX1_27, List.forall_mem_cons.mpr ⟨lkp_RX1_28, List.forall_mem_cons.mpr ⟨lkp_RX1_29, List.forall_mem_cons.mpr ⟨lkp_RX1_30, List.forall_mem_cons.mpr ⟨lkp_RX1_31, List.forall_mem_cons.mpr ⟨lkp_RX1_32, fun _ h => absurd h List.not_mem_nil⟩⟩⟩⟩⟩⟩⟩⟩⟩⟩⟩⟩⟩⟩⟩⟩⟩⟩⟩⟩⟩⟩⟩⟩⟩⟩⟩⟩⟩⟩⟩⟩⟩
def lks_RX2 : List (Nat × aQ) := [(3, (13, 0, 0, (0 : Int32))), (9, (1, 2, 0, (0 : Int32))), (15, (1, 2, 1, (0 : Int32))), (19, (1, 2, 2, (0 : Int32)))]
theorem lkp_RX2_0 : lkW RX2 3 (13, 0, 0, (0 : Int32)) := gw_in (List.mem_of_getElem? (i := 239) (by decide +kernel)) rfl
theorem lkp_RX2_1 : lkW RX2 9 (1, 2, 0, (0 : Int32)) := ⟨by decide, by decide, gw_in (List.mem_of_getElem? (i := 240) (by decide +kernel)) rfl⟩
theorem lkp_RX2_2 : lkW RX2 15 (1, 2, 1, (0 : Int32)) := ⟨by decide, by decide, gw_in (List.mem_of_getElem? (i := 242) (by decide +kernel)) rfl⟩
theorem lkp_RX2_3 : lkW RX2 19 (1, 2, 2, (0 : Int32)) := ⟨by decide, by decide, gw_in (List.mem_of_getElem? (i := 244) (by decide +kernel)) rfl⟩
theorem lkp_RX2 : ∀ x ∈ lks_RX2, lkW RX2 x.1 x.2 := List.forall_mem_cons.mpr ⟨lkp_RX2_0, List.forall_mem_cons.mpr ⟨lkp_RX2_1, List.forall_mem_cons.mpr ⟨lkp_RX2_2, List.forall_mem_cons.mpr ⟨lkp_RX2_3, fun _ h => absurd h List.not_mem_nil⟩⟩⟩⟩
def lks_RX3 : List (Nat × aQ) := [(3, (13, 0, 0, (0 : Int32))), (9, (1, 3, 0, (0 : Int32))), (15, (1, 3, 1, (0 : Int32)))]
theorem lkp_RX3_0 : lkW RX3 3 (13, 0, 0, (0 : Int32)) := gw_in (List.mem_of_getElem? (i := 149) (by decide +kernel)) rfl
theorem lkp_RX3_1 : lkW RX3 9 (1, 3, 0, (0 : Int32)) := ⟨by decide, by decide, gw_in (List.mem_of_getElem? (i := 150) (by decide +kernel)) rfl⟩
theorem lkp_RX3_2 : lkW RX3 15 (1, 3, 1, (0 : Int32)) := ⟨by decide, by decide, gw_in (List.mem_of_getElem? (i := 152) (by decide +kernel)) rfl⟩
theorem lkp_RX3 : ∀ x ∈ lks_RX3, lkW RX3 x.1 x.2 := List.forall_mem_cons.mpr ⟨lkp_RX3_0, List.forall_mem_cons.mpr ⟨lkp_RX3_1, List.forall_mem_cons.mpr ⟨lkp_RX3_2, fun _ h => absurd h List.not_mem_nil⟩⟩⟩
def lks_RX4 : List (Nat × aQ) := [(3, (13, 0, 0, (0 : Int32))), (9, (1, 4, 0, (0 : Int32))), (15, (1, 4, 1, (0 : Int32))), (18, (1, 4, 2, (0 : Int32))), (21, (1, 4, 3, (0 : Int32))), (24, (1, 4, 4, (0 : Int32))), (27, (1, 4, 5, (0 : Int32))), (30, (1, 4, 6, (0 : Int32))), (33, (1, 4, 7, (0 : Int32))), (36, (1, 4, 9, (0 : Int32))), (39, (1, 4, 10, (0 : Int32))), (42, (1, 4, 11, (0 : Int32))), (45, (1, 4, 15, (0 : Int32))), (48, (1, 4, 8, (0 : Int32))), (52, (1, 4, 12, (0 : Int32))), (55, (1, 4, 13, (0 : Int32))), (58, (1, 4, 14, (0 : Int32))), (61, (12, 0, 0, (0 : Int32))), (67, (2, 0, 0, (1103515245 : Int32)))]
theorem lkp_RX4_0 : lkW RX4 3 (13, 0, 0, (0 : Int32)) := gw_in (List.mem_of_getElem? (i := 68) (by decide +kernel)) rfl
theorem lkp_RX4_1 : lkW RX4 9 (1, 4, 0, (0 : Int32)) := ⟨by decide, by decide, gw_in (List.mem_of_getElem? (i := 69) (by decide +kernel)) rfl⟩
theorem lkp_RX4_2 : lkW RX4 15 (1, 4, 1, (0 : Int32)) := ⟨by decide, by decide, gw_in (List.mem_of_getElem? (i := 73) (by decide +kernel)) rfl⟩
theorem lkp_RX4_3 : lkW RX4 18 (1, 4, 2, (0 : Int32)) := ⟨by decide, by decide, gw_in (List.mem_of_getElem? (i := 77) (by decide +kernel)) rfl⟩
theorem lkp_RX4_4 : lkW RX4 21 (1, 4, 3, (0 : Int32)) := ⟨by decide, by decide, gw_in (List.mem_of_getElem? (i := 79) (by decide +kernel)) rfl⟩
theorem lkp_RX4_5 : lkW RX4 24 (1, 4, 4, (0 : Int32)) := ⟨by decide, by decide, gw_in (List.mem_of_getElem? (i := 80) (by decide +kernel)) rfl⟩
theorem lkp_RX4_6 : lkW RX4 27 (1, 4, 5, (0 : Int32)) := ⟨by decide, by decide, gw_in (List.mem_of_getElem? (i := 81) (by decide +kernel)) rfl⟩
theorem lkp_RX4_7 : lkW RX4 30 (1, 4, 6, (0 : Int32)) := ⟨by decide, by decide, gw_in (List.mem_of_getElem? (i := 83) (by decide +kernel)) rfl⟩
theorem lkp_RX4_8 : lkW RX4 33 (1, 4, 7, (0 : Int32)) := ⟨by decide, by decide, gw_in (List.mem_of_getElem? (i := 85) (by decide +kernel)) rfl⟩
theorem lkp_RX4_9 : lkW RX4 36 (1, 4, 9, (0 : Int32)) := ⟨by decide, by decide, gw_in (List.mem_of_getElem? (i := 91) (by decide +kernel)) rfl⟩
theorem lkp_RX4_10 : lkW RX4 39 (1, 4, 10, (0 : Int32)) := ⟨by decide, by decide, gw_in (List.mem_of_getElem? (i := 94) (by decide +kernel)) rfl⟩
theorem lkp_RX4_11 : lkW RX4 42 (1, 4, 11, (0 : Int32)) := ⟨by decide, by decide, gw_in (List.mem_of_getElem? (i := 97) (by decide +kernel)) rfl⟩
theorem lkp_RX4_12 : lkW RX4 45 (1, 4, 15, (0 : Int32)) := ⟨by decide, by decide, gw_in (List.mem_of_getElem? (i := 108) (by decide +kernel)) rfl⟩
theorem lkp_RX4_13 : lkW RX4 48 (1, 4, 8, (0 : Int32)) := ⟨by decide, by decide, gw_in (List.mem_of_getElem? (i := 87) (by decide +kernel)) rfl⟩
theorem lkp_RX4_14 : lkW RX4 52 (1, 4, 12, (0 : Int32)) := ⟨by decide, by decide, gw_in (List.mem_of_getElem? (i := 100) (by decide +kernel)) rfl⟩
theorem lkp_RX4_15 : lkW RX4 55 (1, 4, 13, (0 : Int32)) := ⟨by decide, by decide, gw_in (List.mem_of_getElem? (i := 104) (by decide +kernel)) rfl⟩
theorem lkp_RX4_16 : lkW RX4 58 (1, 4, 14, (0 : Int32)) := ⟨by decide, by decide, gw_in (List.mem_of_getElem? (i := 106) (by decide +kernel)) rfl⟩
theorem lkp_RX4_17 : lkW RX4 61 (12, 0, 0, (0 : Int32)) := gw_in (List.mem_of_getElem? (i := 311) (by decide +kernel)) rfl
theorem lkp_RX4_18 : lkW RX4 67 (2, 0, 0, (1103515245 : Int32)) := gw_in (List.mem_of_getElem? (i := 526) (by decide +kernel)) rfl
theorem lkp_RX4 : ∀ x ∈ lks_RX4, lkW RX4 x.1 x.2 := List.forall_mem_cons.mpr ⟨lkp_RX4_0, List.forall_mem_cons.mpr ⟨lkp_RX4_1, List.forall_mem_cons.mpr ⟨lkp_RX4_2, List.forall_mem_cons.mpr ⟨lkp_RX4_3, List.forall_mem_cons.mpr ⟨lkp_RX4_4, List.forall_mem_cons.mpr ⟨lkp_RX4_5, List.forall_mem_cons.mpr ⟨lkp_RX4_6, List.forall_mem_cons.mpr ⟨lkp_RX4_7, List.forall_mem_cons.mpr ⟨lkp_RX4_8, List.forall_mem_cons.mpr ⟨lkp_RX4_9, List.forall_mem_cons.mpr ⟨lkp_RX4_10, List.forall_mem_cons.mpr ⟨lkp_RX4_11, List.forall_mem_cons.mpr ⟨lkp_RX4_12, List.forall_mem_cons.mpr ⟨lkp_RX4_13, List.forall_mem_cons.mpr ⟨lkp_RX4_14, List.forall_mem_cons.mpr ⟨lkp_RX4_15, List.forall_mem_cons.mpr ⟨lkp_RX4_16, List.forall_mem_cons.mpr ⟨lkp_RX4_17, List.forall_mem_cons.mpr ⟨lkp_RX4_18, fun _ h => absurd h List.not_mem_nil⟩⟩⟩⟩⟩⟩⟩⟩⟩⟩⟩⟩⟩⟩⟩⟩⟩⟩⟩
def lks_RX5 : List (Nat × aQ) := [(1, (13, 0, 0, (0 : Int32))), (7, (4, 4, 0, (0 : Int32))), (10, (1, 5, 0, (0 : Int32))), (16, (1, 5, 1, (0 : Int32))), (19, (1, 5, 2, (0 : Int32))), (23, (4, 3, 0, (0 : Int32))), (26, (1, 5, 3, (0 : Int32))), (30, (4, 1, 0, (0 : Int32))), (35, (1, 5, 4, (0 : Int32))), (39, (4, 0, 0, (0 : Int32))), (44, (1, 5, 5, (0 : Int32))), (48, (11, 0, 0, (0 : Int32))), (48, (4, 2, 0, (0 : Int32))), (50, (1, 5, 6, (0 : Int32))), (55, (1, 5, 7, (0 : Int32))), (63, (2, 0, 0, (-1000001 : Int32))), (68, (1, 3, 1, (0 : Int32))), (72, (2, 0, 0, (-1000002 : Int32))), (81, (1, 1, 6, (0 : Int32))), (84, (1, 1, 1, (0 : Int32))), (94, (1, 4, 0, (0 : Int32))), (97, (1, 4, 1, (0 : Int32))), (107, (1, 4, 8, (0 : Int32))), (125, (2, 0, 0, (-1000004 : Int32))), (132, (1, 4, 12, (0 : Int32))), (141, (1, 4, 9, (0 : Int32))), (144, (1, 4, 10, (0 : Int32))), (147, (1, 4, 11, (0 : Int32))), (154, (1, 4, 13, (0 : Int32))), (248, (1, 4, 14, (0 : Int32))), (254, (1, 4, 15, (0 : Int32))), (257, (2, 0, 0, (-1000006 : Int32))), (258, (1, 4, 2, (0 : Int32))), (264, (2, 0, 0, (-1000003 : Int32))), (268, (2, 0, 0, (-1000007 : Int32))), (272, (1, 2, 2, (0 : Int32))), (282, (1, 2, 1, (0 : Int32))), (288, (1, 2, 0, (0 : Int32))), (291, (12, 0, 0, (0 : Int32))), (297, (1, 4, 7, (0 : Int32))), (306, (5, 301, 0, (0 : Int32))), (309, (5, 302, 0, (0 : Int32))), (312, (5, 303, 0, (0 : Int32))), (315, (5, 304, 0, (0 : Int32))), (318, (5, 300, 0, (0 : Int32)))]
theorem lkp_RX5_0 : lkW RX5 1 (13, 0, 0, (0 : Int32)) := gw_in (List.mem_of_getElem? (i := 60) (by decide +kernel)) rfl
theorem lkp_RX5_1 : lkW RX5 7 (4, 4, 0, (0 : Int32)) := ⟨by decide, gw_in (List.mem_of_getElem? (i := 63) (by decide +kernel)) rfl⟩
theorem lkp_RX5_2 : lkW RX5 10 (1, 5, 0, (0 : Int32)) := ⟨by decide, by decide, gw_in (List.mem_of_getElem? (i := 253) (by decide +kernel)) rfl⟩
theorem lkp_RX5_3 : lkW RX5 16 (1, 5, 1, (0 : Int32)) := ⟨by decide, by decide, gw_in (List.mem_of_getElem? (i := 254) (by decide +kernel)) rfl⟩
theorem lkp_RX5_4 : lkW RX5 19 (1, 5, 2, (0 : Int32)) := ⟨by decide, by decide, gw_in (List.mem_of_getElem? (i := 255) (by decide +kernel)) rfl⟩
theorem lkp_RX5_5 : lkW RX5 23 (4, 3, 0, (0 : Int32)) := ⟨by decide, gw_in (List.mem_of_getElem? (i := 144) (by decide +kernel)) rfl⟩
theorem lkp_RX5_6 : lkW RX5 26 (1, 5, 3, (0 : Int32)) := ⟨by decide, by decide, gw_in (List.mem_of_getElem? (i := 256) (by decide +kernel)) rfl⟩
theorem lkp_RX5_7 : lkW RX5 30 (4, 1, 0, (0 : Int32)) := ⟨by decide, gw_in (List.mem_of_getElem? (i := 160) (by decide +kernel)) rfl⟩
theorem lkp_RX5_8 : lkW RX5 35 (1, 5, 4, (0 : Int32)) := ⟨by decide, by decide, gw_in (List.mem_of_getElem? (i := 257) (by decide +kernel)) rfl⟩
theorem lkp_RX5_9 : lkW RX5 39 (4, 0, 0, (0 : Int32)) := ⟨by decide, gw_in (List.mem_of_getElem? (i := 192) (by decide +kernel)) rfl⟩
theorem lkp_RX5_10 : lkW RX5 44 (1, 5, 5, (0 : Int32)) := ⟨by decide, by decide, gw_in (List.mem_of_getElem? (i := 258) (by decide +kernel)) rfl⟩
theorem lkp_RX5_11 : lkW RX5 48 (11, 0, 0, (0 : Int32)) := gw_in (List.mem_of_getElem? (i := 233) (by decide +kernel)) rfl
theorem lkp_RX5_12 : lkW RX5 48 (4, 2, 0, (0 : Int32)) := ⟨by decide, gw_in (List.mem_of_getElem? (i := 233) (by decide +kernel)) rfl⟩
theorem lkp_RX5_13 : lkW RX5 50 (1, 5, 6, (0 : Int32)) := ⟨by decide, by decide, gw_in (List.mem_of_getElem? (i := 259) (by decide +kernel)) rfl⟩
theorem lkp_RX5_14 : lkW RX5 55 (1, 5, 7, (0 : Int32)) := ⟨by decide, by decide, gw_in (List.mem_of_getElem? (i := 260) (by decide +kernel)) rfl⟩
theorem lkp_RX5_15 : lkW RX5 63 (2, 0, 0, (-1000001 : Int32)) := gw_in (List.mem_of_getElem? (i := 285) (by decide +kernel)) rfl
theorem lkp_RX5_16 : lkW RX5 68 (1, 3, 1, (0 : Int32)) := ⟨by decide, by decide, gw_in (List.mem_of_getElem? (i := 153) (by decide +kernel)) rfl⟩
theorem lkp_RX5_17 : lkW RX5 72 (2, 0, 0, (-1000002 : Int32)) := gw_in (List.mem_of_getElem? (i := 290) (by decide +kernel)) rfl
theorem lkp_RX5_18 : lkW RX5 81 (1, 1, 6, (0 : Int32)) := ⟨by decide, by decide, gw_in (List.mem_of_getElem? (i := 176) (by decide +kernel)) rfl⟩
theorem lkp_RX5_19 : lkW RX5 84 (1, 1, 1, (0 : Int32)) := ⟨by decide, by decide, gw_in (List.mem_of_getElem? (i := 170) (by decide +kernel)) rfl⟩
theorem lkp_RX5_20 : lkW RX5 94 (1, 4, 0, (0 : Int32)) := ⟨by decide, by decide, gw_in (List.mem_of_getElem? (i := 71) (by decide +kernel)) rfl⟩
theorem lkp_RX5_21 : lkW RX5 97 (1, 4, 1, (0 : Int32)) := ⟨by decide, by decide, gw_in (List.mem_of_getElem? (i := 75) (by decide +kernel)) rfl⟩
theorem lkp_RX5_22 : lkW RX5 107 (1, 4, 8, (0 : Int32)) := ⟨by decide, by decide, gw_in (List.mem_of_getElem? (i := 89) (by decide +kernel)) rfl⟩
theorem lkp_RX5_23 : lkW RX5 125 (2, 0, 0, (-1000004 : Int32)) := gw_in (List.mem_of_getElem? (i := 491) (by decide +kernel)) rfl
theorem lkp_RX5_24 : lkW RX5 132 (1, 4, 12, (0 : Int32)) := ⟨by decide, by decide, gw_in (List.mem_of_getElem? (i := 101) (by decide +kernel)) rfl⟩
theorem lkp_RX5_25 : lkW RX5 141 (1, 4, 9, (0 : Int32)) := ⟨by decide, by decide, gw_in (List.mem_of_getElem? (i := 92) (by decide +kernel)) rfl⟩
theorem lkp_RX5_26 : lkW RX5 144 (1, 4, 10, (0 : Int32)) := ⟨by decide, by decide, gw_in (List.mem_of_getElem? (i := 95) (by decide +kernel)) rfl⟩
theorem lkp_RX5_27 : lkW RX5 147 (1, 4, 11, (0 : Int32)) := ⟨by decide, by decide, gw_in (List.mem_of_getElem? (i := 98) (by decide +kernel)) rfl⟩
theorem lkp_RX5_28 : lkW RX5 154 (1, 4, 13, (0 : Int32)) := ⟨by decide, by decide, gw_in (List.mem_of_getElem? (i := 105) (by decide +kernel)) rfl⟩
theorem lkp_RX5_29 : lkW RX5 248 (1, 4, 14, (0 : Int32)) := ⟨by decide, by decide, gw_in (List.mem_of_getElem? (i := 107) (by decide +kernel)) rfl⟩
theorem lkp_RX5_30 : lkW RX5 254 (1, 4, 15, (0 : Int32)) := ⟨by decide, by decide, gw_in (List.mem_of_getElem? (i := 109) (by decide +kernel)) rfl⟩
theorem lkp_RX5_31 : lkW RX5 257 (2, 0, 0, (-1000006 : Int32)) := gw_in (List.mem_of_getElem? (i := 828) (by decide +kernel)) rfl
theorem lkp_RX5_32 : lkW RX5 258 (1, 4, 2, (0 : Int32)) := ⟨by decide, by decide, gw_in (List.mem_of_getElem? (i := 78) (by decide +kernel)) rfl⟩
theorem lkp_RX5_33 : lkW RX5 264 (2, 0, 0, (-1000003 : Int32)) := gw_in (List.mem_of_getElem? (i := 834) (by decide +kernel)) rfl
theorem lkp_RX5_34 : lkW RX5 268 (2, 0, 0, (-1000007 : Int32)) := gw_in (List.mem_of_getElem? (i := 842) (by decide +kernel)) rfl
theorem lkp_RX5_35 : lkW RX5 272 (1, 2, 2, (0 : Int32)) := ⟨by decide, by decide, gw_in (List.mem_of_getElem? (i := 245) (by decide +kernel)) rfl⟩
theorem lkp_RX5_36 : lkW RX5 282 (1, 2, 1, (0 : Int32)) := ⟨by decide, by decide, gw_in (List.mem_of_getElem? (i := 243) (by decide +kernel)) rfl⟩
theorem lkp_RX5_37 : lkW RX5 288 (1, 2, 0, (0 : Int32)) := ⟨by decide, by decide, gw_in (List.mem_of_getElem? (i := 241) (by decide +kernel)) rfl⟩
theorem lkp_RX5_38 : lkW RX5 291 (12, 0, 0, (0 : Int32)) := gw_in (List.mem_of_getElem? (i := 870) (by decide +kernel)) rfl
theorem lkp_RX5_39 : lkW RX5 297 (1, 4, 7, (0 : Int32)) := ⟨by decide, by decide, gw_in (List.mem_of_getElem? (i := 86) (by decide +kernel)) rfl⟩
theorem lkp_RX5_40 : lkW RX5 306 (5, 301, 0, (0 : Int32)) := ⟨by decide, gw_in (List.mem_of_getElem? (i := 464) (by decide +kernel)) rfl⟩
theorem lkp_RX5_41 : lkW RX5 309 (5, 302, 0, (0 : Int32)) := ⟨by decide, gw_in (List.mem_of_getElem? (i := 465) (by decide +kernel)) rfl⟩
theorem lkp_RX5_42 : lkW RX5 312 (5, 303, 0, (0 : Int32)) := ⟨by decide, gw_in (List.mem_of_getElem? (i := 503) (by decide +kernel)) rfl⟩
theorem lkp_RX5_43 : lkW RX5 315 (5, 304, 0, (0 : Int32)) := ⟨by decide, gw_in (List.mem_of_getElem? (i := 504) (by decide +kernel)) rfl⟩
theorem lkp_RX5_44 : lkW RX5 318 (5, 300, 0, (0 : Int32)) := ⟨by decide, gw_in (List.mem_of_getElem? (i := 832) (by decide +kernel)) rfl⟩
theorem lkp_RX5 : ∀ x ∈ lks_RX5, lkW RX5 x.1 x.2 := List.forall_mem_cons.mpr ⟨lkp_RX5_0, List.forall_mem_cons.mpr ⟨lkp_RX5_1, List.forall_mem_cons.mpr ⟨lkp_RX5_2, List.forall_mem_cons.mpr ⟨lkp_RX5_3, List.forall_mem_cons.mpr ⟨lkp_RX5_4, List.forall_mem_cons.mpr ⟨lkp_RX5_5, List.forall_mem_cons.mpr ⟨lkp_RX5_6, List.forall_mem_cons.mpr ⟨lkp_RX5_7, List.forall_mem_cons.mpr ⟨lkp_RX5_8, List.forall_mem_cons.mpr ⟨lkp_RX5_9, List.forall_mem_cons.mpr ⟨lkp_RX5_10, List.forall_mem_cons.mpr ⟨lkp_RX5_11, List.forall_mem_cons.mpr ⟨lkp_RX5_12, List.forall_mem_cons.mpr ⟨lkp_RX5_13, List.forall_mem_cons.mpr ⟨lkp_RX5_14, List.forall_mem_cons.mpr ⟨lkp_RX5_15, List.forall_mem_cons.mpr ⟨lkp_RX5_16, List.forall_mem_cons.mpr ⟨lkp_RX5_17, List.forall_mem_cons.mpr ⟨lkp_RX5_18, List.forall_mem_cons.mpr ⟨lkp_RX5_19, List.forall_mem_cons.mpr ⟨lkp_RX5_20, List.forall_mem_cons.mpr ⟨lkp_RX5_21, List.forall_mem_cons.mpr ⟨lkp_RX5_22, List.forall_mem_cons.mpr ⟨lkp_RX5_23, List.forall_mem_cons.mpr ⟨lkp_RX5_24, List.forall_mem_cons.mpr ⟨lkp_RX5_25, List.forall_mem_cons.mpr ⟨lkp_RX5_26, List.forall_mem_cons.mpr ⟨lkp_RX5_27, List.forall_mem_cons.mpr ⟨lkp_RX5_28, List.forall_mem_cons.mpr ⟨lkp_RX5_29, List.forall_mem_cons.mpr ⟨lkp_RX5_30, List.forall_mem_cons.mpr ⟨lkp_RX5_31, List.forall_mem_cons.mpr ⟨lkp_RX5_32, List.forall_mem_cons.mpr ⟨lkp_RX5_33, List.forall_mem_cons.mpr ⟨lkp_RX5_34, List.forall_mem_cons.mpr ⟨lkp_RX5_35, List.forall_mem_cons.mpr ⟨lkp_RX5_36, List.forall_mem_cons.mpr ⟨lkp_RX5_37, List.forall_mem_cons.mpr ⟨lkp_RX5_38, List.forall_mem_cons.mpr ⟨lkp_RX5_39, List.forall_mem_cons.mpr ⟨lkp_RX5_40, List.forall_mem_cons.mpr ⟨lkp_RX5_41, List.forall_mem_cons.mpr ⟨lkp_RX5_42, List.forall_mem_cons.mpr ⟨lkp_RX5_43, List.forall_mem_cons.mpr ⟨lkp_RX5_44, fun _ h => absurd h List.not_mem_nil⟩⟩⟩⟩⟩⟩⟩⟩⟩⟩⟩⟩⟩⟩⟩⟩⟩⟩⟩⟩⟩⟩⟩⟩⟩⟩⟩⟩⟩⟩⟩⟩⟩⟩⟩⟩⟩⟩⟩⟩⟩⟩⟩⟩⟩
def lks_RX6 : List (Nat × aQ) := [(1, (13, 0, 0, (0 : Int32))), (7, (1, 6, 0, (0 : Int32))), (13, (1, 6, 1, (0 : Int32))), (16, (1, 6, 2, (0 : Int32))), (19, (1, 6, 4, (0 : Int32))), (22, (1, 6, 5, (0 : Int32))), (25, (1, 6, 13, (0 : Int32))), (28, (1, 6, 14, (0 : Int32))), (31, (1, 6, 16, (0 : Int32))), (34, (1, 6, 17, (0 : Int32))), (37, (1, 6, 18, (0 : Int32))), (40, (1, 6, 19, (0 : Int32))), (43, (1, 6, 20, (0 : Int32))), (46, (2, 0, 0, (-1000001 : Int32))), (55, (1, 6, 6, (0 : Int32))), (59, (1, 6, 7, (0 : Int32))), (65, (1, 6, 9, (0 : Int32))), (68, (1, 6, 8, (0 : Int32))), (71, (1, 6, 10, (0 : Int32))), (95, (1, 6, 11, (0 : Int32))), (101, (7, 9, 0, (0 : Int32))), (105, (7, 10, 0, (0 : Int32))), (107, (7, 11, 0, (0 : Int32))), (109, (7, 12, 0, (0 : Int32))), (111, (7, 13, 0, (0 : Int32))), (113, (7, 7, 0, (0 : Int32))), (119, (7, 8, 0, (0 : Int32))), (124, (7, 0, 0, (0 : Int32))), (126, (7, 1, 0, (0 : Int32))), (128, (7, 2, 0, (0 : Int32))), (130, (7, 3, 0, (0 : Int32))), (132, (7, 4, 0, (0 : Int32))), (134, (7, 5, 0, (0 : Int32))), (136, (7, 6, 0, (0 : Int32))), (142, (1, 6, 12, (0 : Int32))), (187, (2, 0, 0, (1103515245 : Int32))), (209, (1, 6, 15, (0 : Int32))), (262, (1, 6, 3, (0 : Int32)))]
theorem lkp_RX6_0 : lkW RX6 1 (13, 0, 0, (0 : Int32)) := gw_in (List.mem_of_getElem? (i := 914) (by decide +kernel)) rfl
theorem lkp_RX6_1 : lkW RX6 7 (1, 6, 0, (0 : Int32)) := ⟨by decide, by decide, gw_in (List.mem_of_getElem? (i := 915) (by decide +kernel)) rfl⟩
theorem lkp_RX6_2 : lkW RX6 13 (1, 6, 1, (0 : Int32)) := ⟨by decide, by decide, gw_in (List.mem_of_getElem? (i := 916) (by decide +kernel)) rfl⟩
theorem lkp_RX6_3 : lkW RX6 16 (1, 6, 2, (0 : Int32)) := ⟨by decide, by decide, gw_in (List.mem_of_getElem? (i := 917) (by decide +kernel)) rfl⟩
theorem lkp_RX6_4 : lkW RX6 19 (1, 6, 4, (0 : Int32)) := ⟨by decide, by decide, gw_in (List.mem_of_getElem? (i := 919) (by decide +kernel)) rfl⟩
theorem lkp_RX6_5 : lkW RX6 22 (1, 6, 5, (0 : Int32)) := ⟨by decide, by decide, gw_in (List.mem_of_getElem? (i := 920) (by decide +kernel)) rfl⟩
theorem lkp_RX6_6 : lkW RX6 25 (1, 6, 13, (0 : Int32)) := ⟨by decide, by decide, gw_in (List.mem_of_getElem? (i := 928) (by decide +kernel)) rfl⟩
theorem lkp_RX6_7 : lkW RX6 28 (1, 6, 14, (0 : Int32)) := ⟨by decide, by decide, gw_in (List.mem_of_getElem? (i := 929) (by decide +kernel)) rfl⟩
theorem lkp_RX6_8 : lkW RX6 31 (1, 6, 16, (0 : Int32)) := ⟨by decide, by decide, gw_in (List.mem_of_getElem? (i := 931) (by decide +kernel)) rfl⟩
theorem lkp_RX6_9 : lkW RX6 34 (1, 6, 17, (0 : Int32)) := ⟨by decide, by decide, gw_in (List.mem_of_getElem? (i := 932) (by decide +kernel)) rfl⟩
theorem lkp_RX6_10 : lkW RX6 37 (1, 6, 18, (0 : Int32)) := ⟨by decide, by decide, gw_in (List.mem_of_getElem? (i := 933) (by decide +kernel)) rfl⟩
theorem lkp_RX6_11 : lkW RX6 40 (1, 6, 19, (0 : Int32)) := ⟨by decide, by decide, gw_in (List.mem_of_getElem? (i := 934) (by decide +kernel)) rfl⟩
theorem lkp_RX6_12 : lkW RX6 43 (1, 6, 20, (0 : Int32)) := ⟨by decide, by decide, gw_in (List.mem_of_getElem? (i := 935) (by decide +kernel)) rfl⟩
theorem lkp_RX6_13 : lkW RX6 46 (2, 0, 0, (-1000001 : Int32)) := gw_in (List.mem_of_getElem? (i := 990) (by decide +kernel)) rfl
theorem lkp_RX6_14 : lkW RX6 55 (1, 6, 6, (0 : Int32)) := ⟨by decide, by decide, gw_in (List.mem_of_getElem? (i := 921) (by decide +kernel)) rfl⟩
theorem lkp_RX6_15 : lkW RX6 59 (1, 6, 7, (0 : Int32)) := ⟨by decide, by decide, gw_in (List.mem_of_getElem? (i := 922) (by decide +kernel)) rfl⟩
theorem lkp_RX6_16 : lkW RX6 65 (1, 6, 9, (0 : Int32)) := ⟨by decide, by decide, gw_in (List.mem_of_getElem? (i := 924) (by decide +kernel)) rfl⟩
theorem lkp_RX6_17 : lkW RX6 68 (1, 6, 8, (0 : Int32)) := ⟨by decide, by decide, gw_in (List.mem_of_getElem? (i := 923) (by decide +kernel)) rfl⟩
theorem lkp_RX6_18 : lkW RX6 71 (1, 6, 10, (0 : Int32)) := ⟨by decide, by decide, gw_in (List.mem_of_getElem? (i := 925) (by decide +kernel)) rfl⟩
theorem lkp_RX6_19 : lkW RX6 95 (1, 6, 11, (0 : Int32)) := ⟨by decide, by decide, gw_in (List.mem_of_getElem? (i := 926) (by decide +kernel)) rfl⟩
theorem lkp_RX6_20 : lkW RX6 101 (7, 9, 0, (0 : Int32)) := ⟨by decide, by decide +kernel⟩
theorem lkp_RX6_21 : lkW RX6 105 (7, 10, 0, (0 : Int32)) := ⟨by decide, by decide +kernel⟩
theorem lkp_RX6_22 : lkW RX6 107 (7, 11, 0, (0 : Int32)) := ⟨by decide, by decide +kernel⟩
theorem lkp_RX6_23 : lkW RX6 109 (7, 12, 0, (0 : Int32)) := ⟨by decide, by decide +kernel⟩
theorem lkp_RX6_24 : lkW RX6 111 (7, 13, 0, (0 : Int32)) := ⟨by decide, by decide +kernel⟩
theorem lkp_RX6_25 : lkW RX6 113 (7, 7, 0, (0 : Int32)) := ⟨by decide, by decide +kernel⟩
theorem lkp_RX6_26 : lkW RX6 119 (7, 8, 0, (0 : Int32)) := ⟨by decide, by decide +kernel⟩
theorem lkp_RX6_27 : lkW RX6 124 (7, 0, 0, (0 : Int32)) := ⟨by decide, by decide +kernel⟩
theorem lkp_RX6_28 : lkW RX6 126 (7, 1, 0, (0 : Int32)) := ⟨by decide, by decide +kernel⟩
theorem lkp_RX6_29 : lkW RX6 128 (7, 2, 0, (0 : Int32)) := ⟨by decide, by decide +kernel⟩
theorem lkp_RX6_30 : lkW RX6 130 (7, 3, 0, (0 : Int32)) := ⟨by decide, by decide +kernel⟩
theorem lkp_RX6_31 : lkW RX6 132 (7, 4, 0, (0 : Int32)) := ⟨by decide, by decide +kernel⟩
theorem lkp_RX6_32 : lkW RX6 134 (7, 5, 0, (0 : Int32)) := ⟨by decide, by decide +kernel⟩
theorem lkp_RX6_33 : lkW RX6 136 (7, 6, 0, (0 : Int32)) := ⟨by decide, by decide +kernel⟩
theorem lkp_RX6_34 : lkW RX6 142 (1, 6, 12, (0 : Int32)) := ⟨by decide, by decide, gw_in (List.mem_of_getElem? (i := 927) (by decide +kernel)) rfl⟩
theorem lkp_RX6_35 : lkW RX6 187 (2, 0, 0, (1103515245 : Int32)) := gw_in (List.mem_of_getElem? (i := 1124) (by decide +kernel)) rfl
theorem lkp_RX6_36 : lkW RX6 209 (1, 6, 15, (0 : Int32)) := ⟨by decide, by decide, gw_in (List.mem_of_getElem? (i := 930) (by decide +kernel)) rfl⟩
theorem lkp_RX6_37 : lkW RX6 262 (1, 6, 3, (0 : Int32)) := ⟨by decide, by decide, gw_in (List.mem_of_getElem? (i := 918) (by decide +kernel)) rfl⟩
theorem lkp_RX6 : ∀ x ∈ lks_RX6, lkW RX6 x.1 x.2 := List.forall_mem_cons.mpr ⟨lkp_RX6_0, List.forall_mem_cons.mpr ⟨lkp_RX6_1, List.forall_mem_cons.mpr ⟨lkp_RX6_2, List.forall_mem_cons.mpr ⟨lkp_RX6_3, List.forall_mem_cons.mpr ⟨lkp_RX6_4, List.forall_mem_cons.mpr ⟨lkp_RX6_5, List.forall_mem_cons.mpr ⟨lkp_RX6_6, List.forall_mem_cons.mpr ⟨lkp_RX6_7, List.forall_mem_cons.mpr ⟨lkp_RX6_8, List.forall_mem_cons.mpr ⟨lkp_RX6_9, List.forall_mem_cons.mpr ⟨lkp_RX6_10, List.forall_mem_cons.mpr ⟨lkp_RX6_11, List.forall_mem_cons.mpr ⟨lkp_RX6_12, List.forall_mem_cons.mpr ⟨lkp_RX6_13, List.forall_mem_cons.mpr ⟨lkp_RX6_14, List.forall_mem_cons.mpr ⟨lkp_RX6_15, List.forall_mem_cons.mpr ⟨lkp_RX6_16, List.forall_mem_cons.mpr ⟨lkp_RX6_17, List.forall_mem_cons.mpr ⟨lkp_RX6_18, List.forall_mem_cons.mpr ⟨lkp_RX6_19, List.forall_mem_cons.mpr ⟨lkp_RX6_20, List.forall_mem_cons.mpr ⟨lkp_RX6_21, List.forall_mem_cons.mpr ⟨lkp_RX6_22, List.forall_mem_cons.mpr ⟨lkp_RX6_23, List.forall_mem_cons.mpr ⟨lkp_RX6_24, List.forall_mem_cons.mpr ⟨lkp_RX6_25, List.forall_mem_cons.mpr ⟨lkp_RX6_26, List.forall_mem_cons.mpr ⟨lkp_RX6_27, List.forall_mem_cons.mpr ⟨lkp_RX6_28, List.forall_mem_cons.mpr ⟨lkp_RX6_29, List.forall_mem_cons.mpr ⟨lkp_RX6_30, List.forall_mem_cons.mpr ⟨lkp_RX6_31, List.forall_mem_cons.mpr ⟨lkp_RX6_32, List.forall_mem_cons.mpr ⟨lkp_RX6_33, List.forall_mem_cons.mpr ⟨lkp_RX6_34, List.forall_mem_cons.mpr ⟨lkp_RX6_35, List.forall_mem_cons.mpr ⟨lkp_RX6_36, List.forall_mem_cons.mpr ⟨lkp_RX6_37, fun _ h => absurd h List.not_mem_nil⟩⟩⟩⟩⟩⟩⟩⟩⟩⟩⟩⟩⟩⟩⟩⟩⟩⟩⟩⟩⟩⟩⟩⟩⟩⟩⟩⟩⟩⟩⟩⟩⟩⟩⟩⟩⟩⟩
def lks_RJ6 : List (Nat × aQ) := [(264, (2, 0, 0, (65536 : Int32))), (265, (2, 0, 0, (1431655765 : Int32))), (266, (2, 0, 0, (858993459 : Int32))), (267, (2, 0, 0, (252645135 : Int32)))]
theorem lkp_RJ6_0 : lkW RJ6 264 (2, 0, 0, (65536 : Int32)) := gw_in (List.mem_of_getElem? (i := 733) (by decide +kernel)) rfl
theorem lkp_RJ6_1 : lkW RJ6 265 (2, 0, 0, (1431655765 : Int32)) := gw_in (List.mem_of_getElem? (i := 704) (by decide +kernel)) rfl
theorem lkp_RJ6_2 : lkW RJ6 266 (2, 0, 0, (858993459 : Int32)) := gw_in (List.mem_of_getElem? (i := 705) (by decide +kernel)) rfl
theorem lkp_RJ6_3 : lkW RJ6 267 (2, 0, 0, (252645135 : Int32)) := gw_in (List.mem_of_getElem? (i := 706) (by decide +kernel)) rfl
theorem lkp_RJ6 : ∀ x ∈ lks_RJ6, lkW RJ6 x.1 x.2 := List.forall_mem_cons.mpr ⟨lkp_RJ6_0, List.forall_mem_cons.mpr ⟨lkp_RJ6_1, List.forall_mem_cons.mpr ⟨lkp_RJ6_2, List.forall_mem_cons.mpr ⟨lkp_RJ6_3, fun _ h => absurd h List.not_mem_nil⟩⟩⟩⟩
def lks_RJ0 : List (Nat × aQ) := [(9, (8, 0, 0, (0 : Int32))), (15, (9, 0, 0, (0 : Int32))), (38, (10, 0, 0, (0 : Int32))), (1053, (14, 0, 0, (0 : Int32)))]
theorem lkp_RJ0_0 : lkW RJ0 9 (8, 0, 0, (0 : Int32)) := gw_in (List.mem_of_getElem? (i := 1362) (by decide +kernel)) rfl
theorem lkp_RJ0_1 : lkW RJ0 15 (9, 0, 0, (0 : Int32)) := gw_in (List.mem_of_getElem? (i := 1363) (by decide +kernel)) rfl
theorem lkp_RJ0_2 : lkW RJ0 38 (10, 0, 0, (0 : Int32)) := gw_in (List.mem_of_getElem? (i := 342) (by decide +kernel)) rfl
theorem lkp_RJ0_3 : lkW RJ0 1053 (14, 0, 0, (0 : Int32)) := gw_in (List.mem_of_getElem? (i := 358) (by decide +kernel)) rfl
theorem lkp_RJ0 : ∀ x ∈ lks_RJ0, lkW RJ0 x.1 x.2 := List.forall_mem_cons.mpr ⟨lkp_RJ0_0, List.forall_mem_cons.mpr ⟨lkp_RJ0_1, List.forall_mem_cons.mpr ⟨lkp_RJ0_2, List.forall_mem_cons.mpr ⟨lkp_RJ0_3, fun _ h => absurd h List.not_mem_nil⟩⟩⟩⟩
def lks_RL : List (Nat × aQ) := [(7, (4, 5, 0, (0 : Int32))), (10, (4, 6, 0, (0 : Int32)))]
theorem lkp_RL_0 : lkW RL 7 (4, 5, 0, (0 : Int32)) := ⟨by decide, gw_in (List.mem_of_getElem? (i := 55) (by decide +kernel)) rfl⟩
theorem lkp_RL_1 : lkW RL 10 (4, 6, 0, (0 : Int32)) := ⟨by decide, gw_in (List.mem_of_getElem? (i := 909) (by decide +kernel)) rfl⟩
theorem lkp_RL : ∀ x ∈ lks_RL, lkW RL x.1 x.2 := List.forall_mem_cons.mpr ⟨lkp_RL_0, List.forall_mem_cons.mpr ⟨lkp_RL_1, fun _ h => absurd h List.not_mem_nil⟩⟩
def lks_RJ1 : List (Nat × aQ) := []
theorem lkp_RJ1 : ∀ x ∈ lks_RJ1, lkW RJ1 x.1 x.2 := fun _ h => absurd h List.not_mem_nil
def lks_RJ9 : List (Nat × aQ) := []
theorem lkp_RJ9 : ∀ x ∈ lks_RJ9, lkW RJ9 x.1 x.2 := fun _ h => absurd h List.not_mem_nil
def lks_RJ3 : List (Nat × aQ) := []
theorem lkp_RJ3 : ∀ x ∈ lks_RJ3, lkW RJ3 x.1 x.2 := fun _ h => absurd h List.not_mem_nil
end
section
/-! ===== the step function with its parts apart, for walking; printed by wip/whole/mk15.py ===== -/
abbrev aK : Type := Nat → List (Option Value) → List Value → Nat → (Nat → Nat → Int32) → (Nat → Nat → Int64) → (Nat → Nat → Option Nat) → Prop
/-- lists of locals laid out -/
def kpK : Option Value → (Option Value → Prop) → Prop
  | some (.long _), k => k none
  | some (.double _), k => k none
  | some v, k => k (some v)
  | none, k => k none
def puK : List (Option Value) → Nat → Value → (List (Option Value) → Prop) → Prop
  | [], _, _, k => k []
  | _ :: t, 0, v, k => k (some v :: t)
  | a :: t, 1, v, k => kpK a (fun a => puK t 0 v (fun t => k (a :: t)))
  | a :: t, n + 2, v, k => puK t (n + 1) v (fun t => k (a :: t))
def puK2 : List (Option Value) → Nat → Value → (List (Option Value) → Prop) → Prop
  | [], _, _, k => k []
  | [_], _, _, k => k []
  | _ :: _ :: t, 0, v, k => k (some v :: none :: t)
  | a :: b :: t, 1, v, k => kpK a (fun a => puK2 (b :: t) 0 v (fun t => k (a :: t)))
  | a :: b :: t, n + 2, v, k => puK2 (b :: t) (n + 1) v (fun t => k (a :: t))
def rfK (x : Option Nat) (k1 : Nat → Prop) (k2 : Prop) : Prop := match x with
  | some a => k1 a
  | none => k2
theorem kpK_eq {a : Option Value} {k : Option Value → Prop} : kpK a k = k (kpL a) := by
  cases a with
  | none => rfl
  | some v => cases v <;> rfl
theorem puK_eq {v : Value} : ∀ (ls : List (Option Value)) (i : Nat) (k : List (Option Value) → Prop), puK ls i v k = k (puL ls i v) := by
  intro ls
  induction ls with
  | nil => intro i k; simp [puK, puL]
  | cons a t ih =>
    intro i k
    match i with
    | 0 => simp [puK, puL]
    | 1 => simp only [puK, puL, kpK_eq, ih]
    | i + 2 => simp only [puK, puL, ih]
theorem puK2_eq {v : Value} : ∀ (ls : List (Option Value)) (i : Nat) (k : List (Option Value) → Prop), puK2 ls i v k = k (puL2 ls i v) := by
  intro ls
  induction ls with
  | nil => intro i k; simp [puK2, puL2]
  | cons a t ih =>
    intro i k
    cases t with
    | nil => simp [puK2, puL2]
    | cons b t =>
      match i with
      | 0 => simp [puK2, puL2]
      | 1 => simp only [puK2, puL2, kpK_eq, ih]
      | i + 2 => simp only [puK2, puL2, ih]
theorem rfK_eq {x : Option Nat} {f : Value → Prop} : rfK x (fun a => f (.ref a)) (f .null) = f (va_rf x) := by
  cases x <;> rfl
def sJ (mt : aM) (e : aI) (pc : Nat) (ls : List (Option Value)) (st : List Value) (n : Nat) (h : Nat → Nat → Int32) (g : Nat → Nat → Int64) (r : Nat → Nat → Option Nat) (K : aK) : Prop :=
  match e with
  | (i, nx, tg, (q1, q2, q3, q4)) => match i with
    | .iconst _ => K nx ls (.int q4 :: st) n h g r
    | .bipush _ => K nx ls (.int q4 :: st) n h g r
    | .sipush _ => K nx ls (.int q4 :: st) n h g r
    | .lconst _ => match q2 with
      | 0 => K nx ls (.long 0 :: st) n h g r
      | _ => K nx ls (.long 1 :: st) n h g r
    | .ldc _ => match q1 with
      | 2 => K nx ls (.int q4 :: st) n h g r
      | 7 => K nx ls (.ref (100 + q2) :: st) n h g r
      | _ => False
    | .ldc_w _ => match q1 with
      | 2 => K nx ls (.int q4 :: st) n h g r
      | _ => False
    | .ldc2_w _ => match q1 with
      | 3 => K nx ls (.long q4.toInt64 :: st) n h g r
      | _ => False
    | .iload _ => match geL ls q2 with
      | some (.int x) => K nx ls (.int x :: st) n h g r
      | _ => False
    | .iload_n _ => match geL ls q2 with
      | some (.int x) => K nx ls (.int x :: st) n h g r
      | _ => False
    | .aload _ => match geL ls q2 with
      | some (.ref x) => K nx ls (.ref x :: st) n h g r
      | _ => False
    | .aload_n _ => match geL ls q2 with
      | some (.ref x) => K nx ls (.ref x :: st) n h g r
      | _ => False
    | .lload _ => match geL ls q2 with
      | some (.long x) => K nx ls (.long x :: st) n h g r
      | _ => False
    | .lload_n _ => match geL ls q2 with
      | some (.long x) => K nx ls (.long x :: st) n h g r
      | _ => False
    | .istore _ => match st with
      | .int x :: st => puK ls q2 (.int x) (fun ls => K nx ls st n h g r)
      | _ => False
    | .istore_n _ => match st with
      | .int x :: st => puK ls q2 (.int x) (fun ls => K nx ls st n h g r)
      | _ => False
    | .astore _ => match st with
      | .ref x :: st => puK ls q2 (.ref x) (fun ls => K nx ls st n h g r)
      | _ => False
    | .astore_n _ => match st with
      | .ref x :: st => puK ls q2 (.ref x) (fun ls => K nx ls st n h g r)
      | _ => False
    | .lstore _ => match st with
      | .long x :: st => puK2 ls q2 (.long x) (fun ls => K nx ls st n h g r)
      | _ => False
    | .lstore_n _ => match st with
      | .long x :: st => puK2 ls q2 (.long x) (fun ls => K nx ls st n h g r)
      | _ => False
    | .iinc _ _ => match geL ls q2 with
      | some (.int x) => puK ls q2 (.int (x + q4)) (fun ls => K nx ls st n h g r)
      | _ => False
    | .iadd => match st with
      | .int y :: .int x :: st => K nx ls (.int (x + y) :: st) n h g r
      | _ => False
    | .isub => match st with
      | .int y :: .int x :: st => K nx ls (.int (x - y) :: st) n h g r
      | _ => False
    | .imul => match st with
      | .int y :: .int x :: st => K nx ls (.int (x * y) :: st) n h g r
      | _ => False
    | .iand => match st with
      | .int y :: .int x :: st => K nx ls (.int (x &&& y) :: st) n h g r
      | _ => False
    | .ior => match st with
      | .int y :: .int x :: st => K nx ls (.int (x ||| y) :: st) n h g r
      | _ => False
    | .ixor => match st with
      | .int y :: .int x :: st => K nx ls (.int (x ^^^ y) :: st) n h g r
      | _ => False
    | .ishl => match st with
      | .int y :: .int x :: st => K nx ls (.int (x <<< (y &&& 31)) :: st) n h g r
      | _ => False
    | .ishr => match st with
      | .int y :: .int x :: st => K nx ls (.int (x >>> (y &&& 31)) :: st) n h g r
      | _ => False
    | .iushr => match st with
      | .int y :: .int x :: st => K nx ls (.int (jush x y) :: st) n h g r
      | _ => False
    | .idiv => match st with
      | .int y :: .int x :: st => y ≠ 0 ∧ K nx ls (.int (x / y) :: st) n h g r
      | _ => False
    | .irem => match st with
      | .int y :: .int x :: st => y ≠ 0 ∧ K nx ls (.int (jrem x y) :: st) n h g r
      | _ => False
    | .ladd => match st with
      | .long y :: .long x :: st => K nx ls (.long (x + y) :: st) n h g r
      | _ => False
    | .lsub => match st with
      | .long y :: .long x :: st => K nx ls (.long (x - y) :: st) n h g r
      | _ => False
    | .lmul => match st with
      | .long y :: .long x :: st => K nx ls (.long (x * y) :: st) n h g r
      | _ => False
    | .ldiv => match st with
      | .long y :: .long x :: st => y ≠ 0 ∧ K nx ls (.long (x / y) :: st) n h g r
      | _ => False
    | .lrem => match st with
      | .long y :: .long x :: st => y ≠ 0 ∧ K nx ls (.long (jremL x y) :: st) n h g r
      | _ => False
    | .lcmp => match st with
      | .long y :: .long x :: st => K nx ls (.int (lg_cmp x y) :: st) n h g r
      | _ => False
    | .i2l => match st with
      | .int x :: st => K nx ls (.long x.toInt64 :: st) n h g r
      | _ => False
    | .l2i => match st with
      | .long x :: st => K nx ls (.int x.toInt32 :: st) n h g r
      | _ => False
    | .i2b => match st with
      | .int x :: st => K nx ls (.int x.toInt8.toInt32 :: st) n h g r
      | _ => False
    | .i2s => match st with
      | .int x :: st => K nx ls (.int x.toInt16.toInt32 :: st) n h g r
      | _ => False
    | .i2c => match st with
      | .int x :: st => K nx ls (.int (jchr x) :: st) n h g r
      | _ => False
    | .dup => match st with
      | .int x :: st => K nx ls (.int x :: .int x :: st) n h g r
      | .ref x :: st => K nx ls (.ref x :: .ref x :: st) n h g r
      | _ => False
    | .dup2 => match st with
      | .int y :: .ref x :: st => K nx ls (.int y :: .ref x :: .int y :: .ref x :: st) n h g r
      | .int y :: .int x :: st => K nx ls (.int y :: .int x :: .int y :: .int x :: st) n h g r
      | _ => False
    | .pop => match st with
      | .int _ :: st => K nx ls st n h g r
      | .ref _ :: st => K nx ls st n h g r
      | _ => False
    | .goto _ => K tg ls st n h g r
    | .ifCond c _ => match st with
      | .int x :: st => br2 (cmpP c x 0) (K tg ls st n h g r) (K nx ls st n h g r)
      | _ => False
    | .if_icmp c _ => match st with
      | .int y :: .int x :: st => br2 (cmpP c x y) (K tg ls st n h g r) (K nx ls st n h g r)
      | _ => False
    | .tableswitch d lo _ offs => match st with
      | .int x :: st => swK x pc (K (((pc : Int) + d).toNat) ls st n h g r) (fun t => K t ls st n h g r) offs.toList (Int32.ofInt lo)
      | _ => False
    | .getfield _ => match st with
      | .ref o :: st => match q1 with
        | 1 => match shp o with
          | (0, ci) => match Nat.beq ci q2 && Nat.blt o n with
            | true => match isRf ci q3 with
              | true => rfK (r o q3) (fun x => K nx ls (.ref x :: st) n h g r) (K nx ls (.null :: st) n h g r)
              | false => K nx ls (.int (h o q3) :: st) n h g r
            | false => False
          | _ => False
        | 8 => match shp o with
          | (4, _) => K nx ls (.ref (o + 100) :: st) n h g r
          | _ => False
        | 9 => match shp o with
          | (4, _) => K nx ls (.int 0 :: st) n h g r
          | _ => False
        | _ => False
      | _ => False
    | .putfield _ => match st with
      | .int x :: .ref o :: st => match q1 with
        | 1 => match shp o with
          | (0, ci) => match Nat.beq ci q2 && Nat.blt o n && !(isRf ci q3) && !(tbC ci q3).2.2.2 with
            | true => (isBl ci q3 = true → x = 0 ∨ x = 1) ∧ K nx ls st n (up2 h o q3 x) g r
            | false => False
          | _ => False
        | _ => False
      | .ref x :: .ref o :: st => match q1 with
        | 1 => match shp o with
          | (0, ci) => match Nat.beq ci q2 && Nat.blt o n && isRf ci q3 && (tbC ci q3).2.2.2 && Nat.blt x n with
            | true => (mt.1.name = "<init>" ∧ (tbC ci q3).1 = mt.1.cls) ∧ K nx ls st n h g (up2 r o q3 (some x))
            | false => False
          | _ => False
        | _ => False
      | _ => False
    | .getstatic _ => match q1 with
      | 5 => K nx ls (.ref q2 :: st) n h g r
      | 6 => K nx ls (.ref q2 :: st) n h g r
      | 10 => K nx ls (.int 1 :: st) n h g r
      | 14 => K nx ls (.null :: st) n h g r ∧ K nx ls (.ref 500 :: st) n h g r
      | _ => False
    | .iaload => match st with
      | .int i :: .ref o :: st => match shp o with
        | (1, z) => match Nat.blt o n with
          | true => vp_in i z ∧ K nx ls (.int (h o i.toNatClampNeg) :: st) n h g r
          | false => False
        | (6, z) => vp_in i z ∧ K nx ls (.int (sar o i.toNatClampNeg) :: st) n h g r
        | (7, _) => vp_in i (mt.2.2.2.2.1.1 - 1) ∧ K nx ls (.int (mt.2.2.2.2.1.2.1 i.toNatClampNeg) :: st) n h g r
        | _ => False
      | _ => False
    | .baload => match st with
      | .int i :: .ref o :: st => match shp o with
        | (5, z) => vp_in i z ∧ K nx ls (.int ((strByt.getD (o - 200) []).getD i.toNatClampNeg 0) :: st) n h g r
        | _ => False
      | _ => False
    | .laload => match st with
      | .int i :: .ref o :: st => match shp o with
        | (2, z) => match Nat.blt o n with
          | true => vp_in i z ∧ K nx ls (.long (g o i.toNatClampNeg) :: st) n h g r
          | false => False
        | _ => False
      | _ => False
    | .aaload => match st with
      | .int i :: .ref o :: st => match shp o with
        | (3, z) => match Nat.blt o n with
          | true => vp_in i z ∧ rfK (r o i.toNatClampNeg) (fun x => K nx ls (.ref x :: st) n h g r) (K nx ls (.null :: st) n h g r)
          | false => False
        | _ => False
      | _ => False
    | .iastore => match st with
      | .int x :: .int i :: .ref o :: st => match shp o with
        | (1, z) => match Nat.blt o n with
          | true => vp_in i z ∧ K nx ls st n (up2 h o i.toNatClampNeg x) g r
          | false => False
        | _ => False
      | _ => False
    | .lastore => match st with
      | .long x :: .int i :: .ref o :: st => match shp o with
        | (2, z) => match Nat.blt o n with
          | true => vp_in i z ∧ K nx ls st n h (up2 g o i.toNatClampNeg x) r
          | false => False
        | _ => False
      | _ => False
    | .aastore => match st with
      | .ref x :: .int i :: .ref o :: st => match shp o with
        | (3, z) => match Nat.blt o n && Nat.blt x n && (match shp x with | (0, 2) => true | _ => false) with
          | true => vp_in i z ∧ K nx ls st n h g (up2 r o i.toNatClampNeg (some x))
          | false => False
        | _ => False
      | _ => False
    | .arraylength => match st with
      | .ref o :: st => match shp o with
        | (1, z) => match Nat.blt o n with
          | true => K nx ls (.int (Int32.ofNat z) :: st) n h g r
          | false => False
        | (5, z) => K nx ls (.int (Int32.ofNat z) :: st) n h g r
        | (7, _) => match mt.2.2.2.2.1.1 with
          | L + 1 => K nx ls (.int (Int32.ofNat L) :: st) n h g r
          | 0 => False
        | _ => False
      | _ => False
    | .new _ => match q1 with
      | 4 => match shp n with
        | (0, ci) => match Nat.beq ci q2 && Nat.blt n mt.2.2.2.2.1.2.2 && nrS n ls st with
          | true => K nx ls (.ref n :: st) (n + 1) (rowZ h n 0) g (rowZ r n none)
          | false => False
        | _ => False
      | _ => False
    | .newarray ty => match st with
      | .int x :: st => match ty, shp n with
        | .int, (1, z) => match Nat.blt n mt.2.2.2.2.1.2.2 && nrS n ls st with
          | true => x = Int32.ofNat z ∧ K nx ls (.ref n :: st) (n + 1) (rowZ h n 0) g (rowZ r n none)
          | false => False
        | .long, (2, z) => match Nat.blt n mt.2.2.2.2.1.2.2 && nrS n ls st with
          | true => x = Int32.ofNat z ∧ K nx ls (.ref n :: st) (n + 1) h (rowZ g n 0) (rowZ r n none)
          | false => False
        | _, _ => False
      | _ => False
    | .anewarray _ => match st with
      | .int x :: st => match q1 with
        | 11 => match shp n with
          | (3, z) => match Nat.blt n mt.2.2.2.2.1.2.2 && nrS n ls st with
            | true => x = Int32.ofNat z ∧ K nx ls (.ref n :: st) (n + 1) h g (rowZ r n none)
            | false => False
          | _ => False
        | _ => False
      | _ => False
    | .invokestatic _ => match q1 with
      | 12 => match st with
        | .int w :: .int dp :: .ref b :: .int sp :: .ref a :: st => match shp a, shp b with
          | (1, za), (1, zb) => match Nat.blt a n && Nat.blt b n && Nat.beq st.length 0 with
            | true => (¬ sp < 0 ∧ ¬ dp < 0 ∧ ¬ w < 0 ∧ sp.toNatClampNeg + w.toNatClampNeg ≤ za ∧ dp.toNatClampNeg + w.toNatClampNeg ≤ zb) ∧ K nx ls st n (upR h b (va_cpy (h a) (h b) sp.toNatClampNeg dp.toNatClampNeg w.toNatClampNeg)) g r
            | false => False
          | _, _ => False
        | _ => False
      | _ => False
    | .invokespecial _ => match q1 with
      | 13 => match st with
        | .ref _ :: st => match Nat.beq st.length 0 with
          | true => K nx ls st n h g r
          | false => False
        | _ => False
      | _ => False
    | .ireturn => match st with
      | [.int x] => match mt.2.2.2.1 with
        | some .int => K aRET [] ([.int x]) n h g r
        | some .boolean => (x = 0 ∨ x = 1) ∧ K aRET [] ([.int x]) n h g r
        | some .char => narrow .char (.int x) = .int x ∧ K aRET [] ([.int x]) n h g r
        | some .byte => narrow .byte (.int x) = .int x ∧ K aRET [] ([.int x]) n h g r
        | _ => False
      | _ => False
    | .lreturn => match st with
      | [.long x] => match mt.2.2.2.1 with
        | some .long => K aRET [] ([.long x]) n h g r
        | _ => False
      | _ => False
    | .areturn => match st with
      | [.ref x] => match mt.2.2.2.1 with
        | some (.object _) => K aRET [] ([.ref x]) n h g r
        | _ => False
      | _ => False
    | .return_ => match st with
      | [] => match mt.2.2.2.1 with
        | none => K aRET [] [] n h g r
        | _ => False
      | _ => False
    | _ => False
theorem swK_mono {x : Int32} {pc : Nat} {kd kd' : Prop} {K K' : Nat → Prop} (h0 : kd → kd') (h1 : ∀ t, K t → K' t) : ∀ (l : List Int) (v : Int32), swK x pc kd K l v → swK x pc kd' K' l v := by
  intro l
  induction l with
  | nil => intro v h; exact h0 h
  | cons o t ih => intro v h; exact ⟨fun z => h1 _ (h.1 z), fun z => ih _ (h.2 z)⟩
set_option maxHeartbeats 4000000 in
theorem st1_mono {mt : aM} {cf : aCfg} {K K' : aCfg → Prop} (h : st1 mt cf K) (hK : ∀ d, K d → K' d) : st1 mt cf K' := by
  obtain ⟨pc, ls, st, n, M⟩ := cf
  unfold st1 at h ⊢
  dsimp only at h ⊢
  generalize mt.2.2.2.2.2 pc = eo at h ⊢
  cases eo with
  | none => exact h.elim
  | some en =>
  dsimp only at h ⊢
  obtain ⟨i, nx, tg, q1, q2, q3, q4⟩ := en
  cases i
  case tableswitch d lo hi offs =>
    simp only [sI] at h ⊢
    split at h
    · exact swK_mono (hK _) (fun t => hK _) _ _ h
    · exact h.elim
  all_goals first
    | exact h.elim
    | (simp only [sI] at h ⊢; first
        | exact hK _ h
        | (repeat' split at h)
          all_goals first
            | exact h.elim
            | exact hK _ h
            | exact ⟨h.1, hK _ h.2⟩
            | exact ⟨fun z => hK _ (h.1 z), fun z => hK _ (h.2 z)⟩
            | exact ⟨hK _ h.1, hK _ h.2⟩
            | (simp_all only []; done)
            | (simp_all; done))
def goJ (mt : aM) (cuts : List Nat) : Nat → Nat → List (Option Value) → List Value → Nat → (Nat → Nat → Int32) → (Nat → Nat → Int64) → (Nat → Nat → Option Nat) → aK → Prop
  | 0, pc, ls, st, n, h, g, r, K => K pc ls st n h g r
  | k + 1, pc, ls, st, n, h, g, r, K => match mt.2.2.2.2.2 pc with
    | some en => sJ mt en pc ls st n h g r (fun pc ls st n h g r => match stopB mt cuts pc with
      | true => K pc ls st n h g r
      | false => goJ mt cuts k pc ls st n h g r K)
    | none => False
def aU (K : aK) : aCfg → Prop := fun d => K d.1 d.2.1 d.2.2.1 d.2.2.2.1 d.2.2.2.2.1 d.2.2.2.2.2.1 d.2.2.2.2.2.2
set_option maxHeartbeats 2000000 in
theorem sJ_eq {mt : aM} {e : aI} {pc : Nat} {ls : List (Option Value)} {st : List Value} {n : Nat} {h : Nat → Nat → Int32} {g : Nat → Nat → Int64} {r : Nat → Nat → Option Nat} {K : aK} (z : sJ mt e pc ls st n h g r K) : sI mt e pc ls st n (h, g, r) (aU K) := by
  obtain ⟨i, nx, tg, q1, q2, q3, q4⟩ := e
  cases i
  case istore k => simp only [sJ, puK_eq] at z; exact z
  case istore_n k => simp only [sJ, puK_eq] at z; exact z
  case astore k => simp only [sJ, puK_eq] at z; exact z
  case astore_n k => simp only [sJ, puK_eq] at z; exact z
  case lstore k => simp only [sJ, puK2_eq] at z; exact z
  case lstore_n k => simp only [sJ, puK2_eq] at z; exact z
  case iinc k v => simp only [sJ, puK_eq] at z; exact z
  case getfield k =>
    have e1 : ∀ (x : Option Nat) (st : List Value), rfK x (fun x => K nx ls (.ref x :: st) n h g r) (K nx ls (.null :: st) n h g r) = K nx ls (va_rf x :: st) n h g r := fun x st => rfK_eq (f := fun v => K nx ls (v :: st) n h g r)
    simp only [sJ, e1] at z
    exact z
  case aaload =>
    have e1 : ∀ (x : Option Nat) (st : List Value), rfK x (fun x => K nx ls (.ref x :: st) n h g r) (K nx ls (.null :: st) n h g r) = K nx ls (va_rf x :: st) n h g r := fun x st => rfK_eq (f := fun v => K nx ls (v :: st) n h g r)
    simp only [sJ, e1] at z
    exact z
  all_goals exact z
theorem goJ_eq {mt : aM} {cuts : List Nat} : ∀ (k pc : Nat) (ls : List (Option Value)) (st : List Value) (n : Nat) (h : Nat → Nat → Int32) (g : Nat → Nat → Int64) (r : Nat → Nat → Option Nat) (K : aK), goJ mt cuts k pc ls st n h g r K → go mt cuts k (pc, ls, st, n, h, g, r) (aU K) := by
  intro k
  induction k with
  | zero => intro pc ls st n h g r K z; exact z
  | succ k ih =>
    intro pc ls st n h g r K z
    have z1 : st1 mt (pc, ls, st, n, h, g, r) (aU fun pc ls st n h g r => match stopB mt cuts pc with
      | true => K pc ls st n h g r
      | false => goJ mt cuts k pc ls st n h g r K) := by
      unfold st1
      dsimp only [goJ] at z ⊢
      split at z
      · next hc => rw [hc]; exact sJ_eq z
      · exact z.elim
    refine st1_mono z1 (fun d hd => ?_)
    obtain ⟨pc', ls', st', n', h', g', r'⟩ := d
    simp only [aU] at hd
    dsimp only
    split at hd
    · next hs => rw [hs]; exact hd
    · next hs => rw [hs]; exact ih _ _ _ _ _ _ _ _ hd
/-- a walk up to the next stops -/
theorem Seg.run {mt : aM} {lv : Nat} {pc : Nat} {ls : List (Option Value)} {st : List Value} {n : Nat} {h : Nat → Nat → Int32} {g : Nat → Nat → Int64} {r : Nat → Nat → Option Nat} {b : aCfg} (cuts : List Nat) (k : Nat) (z : goJ mt cuts k pc ls st n h g r (fun pc ls st n h g r => Seg mt lv (pc, ls, st, n, h, g, r) b)) : Seg mt lv (pc, ls, st, n, h, g, r) b := Seg.go cuts k (goJ_eq k pc ls st n h g r _ z)
end
