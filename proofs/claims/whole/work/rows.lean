section
-- ===== PART A: goes FIRST, ahead of the names: the tables' words, and 'selects' of the private methods out of them =====
/-- a private method of a class that the tables say can be made, by its rows of tables_1 -/
def lw_okq (q : MethodName × Nat) : Prop := (q.1.cls ≠ "java/lang/invoke/MethodHandle" ∧ q.1.cls ≠ "java/lang/invoke/VarHandle") ∧ Cond.instantiable q.1.cls q.2 ∈ tables_1 ∧ Cond.privateMethod q.1 ∈ tables_1 ∧ Cond.instanceMethod q.1 ∈ tables_1
theorem lw_p0 : lw_okq (⟨"AdaptivePlayer", "runWord", "(Ljava/lang/String;)I"⟩, 8) := ⟨⟨by decide +kernel, by decide +kernel⟩, List.mem_of_getElem? (i := 21) (by decide +kernel), List.mem_of_getElem? (i := 614) (by decide +kernel), List.mem_of_getElem? (i := 615) (by decide +kernel)⟩
theorem lw_p1 : lw_okq (⟨"AdaptivePlayer", "changePause", "(Z)I"⟩, 8) := ⟨⟨by decide +kernel, by decide +kernel⟩, List.mem_of_getElem? (i := 21) (by decide +kernel), List.mem_of_getElem? (i := 627) (by decide +kernel), List.mem_of_getElem? (i := 628) (by decide +kernel)⟩
theorem lw_p2 : lw_okq (⟨"AdaptivePlayer", "runWordWithArgument", "(Ljava/lang/String;Ljava/lang/String;)I"⟩, 8) := ⟨⟨by decide +kernel, by decide +kernel⟩, List.mem_of_getElem? (i := 21) (by decide +kernel), List.mem_of_getElem? (i := 660) (by decide +kernel), List.mem_of_getElem? (i := 661) (by decide +kernel)⟩
theorem lw_p3 : lw_okq (⟨"AdaptivePlayer", "changePolicy", "(I)I"⟩, 8) := ⟨⟨by decide +kernel, by decide +kernel⟩, List.mem_of_getElem? (i := 21) (by decide +kernel), List.mem_of_getElem? (i := 672) (by decide +kernel), List.mem_of_getElem? (i := 673) (by decide +kernel)⟩
theorem lw_p4 : lw_okq (⟨"AdaptivePlayer", "changeCap", "(I)I"⟩, 8) := ⟨⟨by decide +kernel, by decide +kernel⟩, List.mem_of_getElem? (i := 21) (by decide +kernel), List.mem_of_getElem? (i := 692) (by decide +kernel), List.mem_of_getElem? (i := 693) (by decide +kernel)⟩
theorem lw_p5 : lw_okq (⟨"AdaptivePlayer", "seek", "(I)I"⟩, 8) := ⟨⟨by decide +kernel, by decide +kernel⟩, List.mem_of_getElem? (i := 21) (by decide +kernel), List.mem_of_getElem? (i := 697) (by decide +kernel), List.mem_of_getElem? (i := 698) (by decide +kernel)⟩
theorem lw_p6 : lw_okq (⟨"AdaptivePlayer$Session", "canStartDownload", "()Z"⟩, 18) := ⟨⟨by decide +kernel, by decide +kernel⟩, List.mem_of_getElem? (i := 104) (by decide +kernel), List.mem_of_getElem? (i := 714) (by decide +kernel), List.mem_of_getElem? (i := 715) (by decide +kernel)⟩
theorem lw_p7 : lw_okq (⟨"AdaptivePlayer$Session", "hasNextSegment", "()Z"⟩, 18) := ⟨⟨by decide +kernel, by decide +kernel⟩, List.mem_of_getElem? (i := 104) (by decide +kernel), List.mem_of_getElem? (i := 718) (by decide +kernel), List.mem_of_getElem? (i := 719) (by decide +kernel)⟩
theorem lw_p8 : lw_okq (⟨"AdaptivePlayer$Session", "chooseLevel", "(II)I"⟩, 18) := ⟨⟨by decide +kernel, by decide +kernel⟩, List.mem_of_getElem? (i := 104) (by decide +kernel), List.mem_of_getElem? (i := 722) (by decide +kernel), List.mem_of_getElem? (i := 723) (by decide +kernel)⟩
theorem lw_p9 : lw_okq (⟨"AdaptivePlayer$Session", "levelByRate", "(I)I"⟩, 18) := ⟨⟨by decide +kernel, by decide +kernel⟩, List.mem_of_getElem? (i := 104) (by decide +kernel), List.mem_of_getElem? (i := 727) (by decide +kernel), List.mem_of_getElem? (i := 728) (by decide +kernel)⟩
theorem lw_p10 : lw_okq (⟨"AdaptivePlayer$Session", "levelByBuffer", "(I)I"⟩, 18) := ⟨⟨by decide +kernel, by decide +kernel⟩, List.mem_of_getElem? (i := 104) (by decide +kernel), List.mem_of_getElem? (i := 740) (by decide +kernel), List.mem_of_getElem? (i := 741) (by decide +kernel)⟩
theorem lw_p11 : lw_okq (⟨"AdaptivePlayer$Session", "levelByBoth", "(I)I"⟩, 18) := ⟨⟨by decide +kernel, by decide +kernel⟩, List.mem_of_getElem? (i := 104) (by decide +kernel), List.mem_of_getElem? (i := 744) (by decide +kernel), List.mem_of_getElem? (i := 745) (by decide +kernel)⟩
theorem lw_p12 : lw_okq (⟨"AdaptivePlayer$Session", "completeSegment", "()V"⟩, 18) := ⟨⟨by decide +kernel, by decide +kernel⟩, List.mem_of_getElem? (i := 104) (by decide +kernel), List.mem_of_getElem? (i := 771) (by decide +kernel), List.mem_of_getElem? (i := 772) (by decide +kernel)⟩
theorem lw_p13 : lw_okq (⟨"AdaptivePlayer$Session", "play", "()V"⟩, 18) := ⟨⟨by decide +kernel, by decide +kernel⟩, List.mem_of_getElem? (i := 104) (by decide +kernel), List.mem_of_getElem? (i := 784) (by decide +kernel), List.mem_of_getElem? (i := 785) (by decide +kernel)⟩
theorem lw_p14 : lw_okq (⟨"AdaptivePlayer$Session", "playIfReady", "()V"⟩, 18) := ⟨⟨by decide +kernel, by decide +kernel⟩, List.mem_of_getElem? (i := 104) (by decide +kernel), List.mem_of_getElem? (i := 788) (by decide +kernel), List.mem_of_getElem? (i := 789) (by decide +kernel)⟩
theorem lw_p15 : lw_okq (⟨"AdaptivePlayer$Session", "playMillisecond", "()V"⟩, 18) := ⟨⟨by decide +kernel, by decide +kernel⟩, List.mem_of_getElem? (i := 104) (by decide +kernel), List.mem_of_getElem? (i := 792) (by decide +kernel), List.mem_of_getElem? (i := 793) (by decide +kernel)⟩
def lw_privs_1 : List (MethodName × Nat) := [(⟨"AdaptivePlayer", "runWord", "(Ljava/lang/String;)I"⟩, 8), (⟨"AdaptivePlayer", "changePause", "(Z)I"⟩, 8), (⟨"AdaptivePlayer", "runWordWithArgument", "(Ljava/lang/String;Ljava/lang/String;)I"⟩, 8), (⟨"AdaptivePlayer", "changePolicy", "(I)I"⟩, 8), (⟨"AdaptivePlayer", "changeCap", "(I)I"⟩, 8), (⟨"AdaptivePlayer", "seek", "(I)I"⟩, 8), (⟨"AdaptivePlayer$Session", "canStartDownload", "()Z"⟩, 18), (⟨"AdaptivePlayer$Session", "hasNextSegment", "()Z"⟩, 18), (⟨"AdaptivePlayer$Session", "chooseLevel", "(II)I"⟩, 18), (⟨"AdaptivePlayer$Session", "levelByRate", "(I)I"⟩, 18), (⟨"AdaptivePlayer$Session", "levelByBuffer", "(I)I"⟩, 18), (⟨"AdaptivePlayer$Session", "levelByBoth", "(I)I"⟩, 18), (⟨"AdaptivePlayer$Session", "completeSegment", "()V"⟩, 18), (⟨"AdaptivePlayer$Session", "play", "()V"⟩, 18), (⟨"AdaptivePlayer$Session", "playIfReady", "()V"⟩, 18), (⟨"AdaptivePlayer$Session", "playMillisecond", "()V"⟩, 18)]
theorem lw_r1 : ∀ q ∈ lw_privs_1, lw_okq q := List.forall_mem_cons.mpr ⟨lw_p0, List.forall_mem_cons.mpr ⟨lw_p1, List.forall_mem_cons.mpr ⟨lw_p2, List.forall_mem_cons.mpr ⟨lw_p3, List.forall_mem_cons.mpr ⟨lw_p4, List.forall_mem_cons.mpr ⟨lw_p5, List.forall_mem_cons.mpr ⟨lw_p6, List.forall_mem_cons.mpr ⟨lw_p7, List.forall_mem_cons.mpr ⟨lw_p8, List.forall_mem_cons.mpr ⟨lw_p9, List.forall_mem_cons.mpr ⟨lw_p10, List.forall_mem_cons.mpr ⟨lw_p11, List.forall_mem_cons.mpr ⟨lw_p12, List.forall_mem_cons.mpr ⟨lw_p13, List.forall_mem_cons.mpr ⟨lw_p14, List.forall_mem_cons.mpr ⟨lw_p15, fun _ h => absurd h List.not_mem_nil⟩⟩⟩⟩⟩⟩⟩⟩⟩⟩⟩⟩⟩⟩⟩⟩
theorem lw_p16 : lw_okq (⟨"AdaptivePlayer", "simulationError", "(I)I"⟩, 8) := ⟨⟨by decide +kernel, by decide +kernel⟩, List.mem_of_getElem? (i := 21) (by decide +kernel), List.mem_of_getElem? (i := 863) (by decide +kernel), List.mem_of_getElem? (i := 864) (by decide +kernel)⟩
theorem lw_p17 : lw_okq (⟨"AdaptivePlayerModel", "begins", "()V"⟩, 20) := ⟨⟨by decide +kernel, by decide +kernel⟩, List.mem_of_getElem? (i := 881) (by decide +kernel), List.mem_of_getElem? (i := 887) (by decide +kernel), List.mem_of_getElem? (i := 888) (by decide +kernel)⟩
theorem lw_p18 : lw_okq (⟨"AdaptivePlayerModel", "has", "(IJI)Z"⟩, 20) := ⟨⟨by decide +kernel, by decide +kernel⟩, List.mem_of_getElem? (i := 881) (by decide +kernel), List.mem_of_getElem? (i := 989) (by decide +kernel), List.mem_of_getElem? (i := 990) (by decide +kernel)⟩
theorem lw_p19 : lw_okq (⟨"AdaptivePlayerModel", "policyFrom", "(I)I"⟩, 20) := ⟨⟨by decide +kernel, by decide +kernel⟩, List.mem_of_getElem? (i := 881) (by decide +kernel), List.mem_of_getElem? (i := 994) (by decide +kernel), List.mem_of_getElem? (i := 995) (by decide +kernel)⟩
theorem lw_p20 : lw_okq (⟨"AdaptivePlayerModel", "setsPolicy", "(I)I"⟩, 20) := ⟨⟨by decide +kernel, by decide +kernel⟩, List.mem_of_getElem? (i := 881) (by decide +kernel), List.mem_of_getElem? (i := 999) (by decide +kernel), List.mem_of_getElem? (i := 1000) (by decide +kernel)⟩
theorem lw_p21 : lw_okq (⟨"AdaptivePlayerModel", "capFrom", "(I)I"⟩, 20) := ⟨⟨by decide +kernel, by decide +kernel⟩, List.mem_of_getElem? (i := 881) (by decide +kernel), List.mem_of_getElem? (i := 1007) (by decide +kernel), List.mem_of_getElem? (i := 1008) (by decide +kernel)⟩
theorem lw_p22 : lw_okq (⟨"AdaptivePlayerModel", "numberFrom", "(I)I"⟩, 20) := ⟨⟨by decide +kernel, by decide +kernel⟩, List.mem_of_getElem? (i := 881) (by decide +kernel), List.mem_of_getElem? (i := 1011) (by decide +kernel), List.mem_of_getElem? (i := 1012) (by decide +kernel)⟩
theorem lw_p23 : lw_okq (⟨"AdaptivePlayerModel", "isDigit", "(I)Z"⟩, 20) := ⟨⟨by decide +kernel, by decide +kernel⟩, List.mem_of_getElem? (i := 881) (by decide +kernel), List.mem_of_getElem? (i := 1015) (by decide +kernel), List.mem_of_getElem? (i := 1016) (by decide +kernel)⟩
theorem lw_p24 : lw_okq (⟨"AdaptivePlayerModel", "seekFrom", "(I)I"⟩, 20) := ⟨⟨by decide +kernel, by decide +kernel⟩, List.mem_of_getElem? (i := 881) (by decide +kernel), List.mem_of_getElem? (i := 1020) (by decide +kernel), List.mem_of_getElem? (i := 1021) (by decide +kernel)⟩
theorem lw_p25 : lw_okq (⟨"AdaptivePlayerModel", "pauses", "(I)I"⟩, 20) := ⟨⟨by decide +kernel, by decide +kernel⟩, List.mem_of_getElem? (i := 881) (by decide +kernel), List.mem_of_getElem? (i := 1025) (by decide +kernel), List.mem_of_getElem? (i := 1026) (by decide +kernel)⟩
theorem lw_p26 : lw_okq (⟨"AdaptivePlayerModel", "passes", "(I)V"⟩, 20) := ⟨⟨by decide +kernel, by decide +kernel⟩, List.mem_of_getElem? (i := 881) (by decide +kernel), List.mem_of_getElem? (i := 1038) (by decide +kernel), List.mem_of_getElem? (i := 1039) (by decide +kernel)⟩
theorem lw_p27 : lw_okq (⟨"AdaptivePlayerModel", "startsDownload", "(I)V"⟩, 20) := ⟨⟨by decide +kernel, by decide +kernel⟩, List.mem_of_getElem? (i := 881) (by decide +kernel), List.mem_of_getElem? (i := 1042) (by decide +kernel), List.mem_of_getElem? (i := 1043) (by decide +kernel)⟩
theorem lw_p28 : lw_okq (⟨"AdaptivePlayerModel", "chosen", "(I)I"⟩, 20) := ⟨⟨by decide +kernel, by decide +kernel⟩, List.mem_of_getElem? (i := 881) (by decide +kernel), List.mem_of_getElem? (i := 1046) (by decide +kernel), List.mem_of_getElem? (i := 1047) (by decide +kernel)⟩
theorem lw_p29 : lw_okq (⟨"AdaptivePlayerModel", "highest", "()I"⟩, 20) := ⟨⟨by decide +kernel, by decide +kernel⟩, List.mem_of_getElem? (i := 881) (by decide +kernel), List.mem_of_getElem? (i := 1050) (by decide +kernel), List.mem_of_getElem? (i := 1051) (by decide +kernel)⟩
theorem lw_p30 : lw_okq (⟨"AdaptivePlayerModel", "levelByRate", "()I"⟩, 20) := ⟨⟨by decide +kernel, by decide +kernel⟩, List.mem_of_getElem? (i := 881) (by decide +kernel), List.mem_of_getElem? (i := 1054) (by decide +kernel), List.mem_of_getElem? (i := 1055) (by decide +kernel)⟩
theorem lw_p31 : lw_okq (⟨"AdaptivePlayerModel", "estimate", "()I"⟩, 20) := ⟨⟨by decide +kernel, by decide +kernel⟩, List.mem_of_getElem? (i := 881) (by decide +kernel), List.mem_of_getElem? (i := 1058) (by decide +kernel), List.mem_of_getElem? (i := 1059) (by decide +kernel)⟩
def lw_privs_2 : List (MethodName × Nat) := [(⟨"AdaptivePlayer", "simulationError", "(I)I"⟩, 8), (⟨"AdaptivePlayerModel", "begins", "()V"⟩, 20), (⟨"AdaptivePlayerModel", "has", "(IJI)Z"⟩, 20), (⟨"AdaptivePlayerModel", "policyFrom", "(I)I"⟩, 20), (⟨"AdaptivePlayerModel", "setsPolicy", "(I)I"⟩, 20), (⟨"AdaptivePlayerModel", "capFrom", "(I)I"⟩, 20), (⟨"AdaptivePlayerModel", "numberFrom", "(I)I"⟩, 20), (⟨"AdaptivePlayerModel", "isDigit", "(I)Z"⟩, 20), (⟨"AdaptivePlayerModel", "seekFrom", "(I)I"⟩, 20), (⟨"AdaptivePlayerModel", "pauses", "(I)I"⟩, 20), (⟨"AdaptivePlayerModel", "passes", "(I)V"⟩, 20), (⟨"AdaptivePlayerModel", "startsDownload", "(I)V"⟩, 20), (⟨"AdaptivePlayerModel", "chosen", "(I)I"⟩, 20), (⟨"AdaptivePlayerModel", "highest", "()I"⟩, 20), (⟨"AdaptivePlayerModel", "levelByRate", "()I"⟩, 20), (⟨"AdaptivePlayerModel", "estimate", "()I"⟩, 20)]
theorem lw_r2 : ∀ q ∈ lw_privs_2, lw_okq q := List.forall_mem_cons.mpr ⟨lw_p16, List.forall_mem_cons.mpr ⟨lw_p17, List.forall_mem_cons.mpr ⟨lw_p18, List.forall_mem_cons.mpr ⟨lw_p19, List.forall_mem_cons.mpr ⟨lw_p20, List.forall_mem_cons.mpr ⟨lw_p21, List.forall_mem_cons.mpr ⟨lw_p22, List.forall_mem_cons.mpr ⟨lw_p23, List.forall_mem_cons.mpr ⟨lw_p24, List.forall_mem_cons.mpr ⟨lw_p25, List.forall_mem_cons.mpr ⟨lw_p26, List.forall_mem_cons.mpr ⟨lw_p27, List.forall_mem_cons.mpr ⟨lw_p28, List.forall_mem_cons.mpr ⟨lw_p29, List.forall_mem_cons.mpr ⟨lw_p30, List.forall_mem_cons.mpr ⟨lw_p31, fun _ h => absurd h List.not_mem_nil⟩⟩⟩⟩⟩⟩⟩⟩⟩⟩⟩⟩⟩⟩⟩⟩
theorem lw_p32 : lw_okq (⟨"AdaptivePlayerModel", "levelByBuffer", "()I"⟩, 20) := ⟨⟨by decide +kernel, by decide +kernel⟩, List.mem_of_getElem? (i := 881) (by decide +kernel), List.mem_of_getElem? (i := 1062) (by decide +kernel), List.mem_of_getElem? (i := 1063) (by decide +kernel)⟩
theorem lw_p33 : lw_okq (⟨"AdaptivePlayerModel", "levelOfBoth", "()I"⟩, 20) := ⟨⟨by decide +kernel, by decide +kernel⟩, List.mem_of_getElem? (i := 881) (by decide +kernel), List.mem_of_getElem? (i := 1066) (by decide +kernel), List.mem_of_getElem? (i := 1067) (by decide +kernel)⟩
theorem lw_p34 : lw_okq (⟨"AdaptivePlayerModel", "sizeOf", "(II)I"⟩, 20) := ⟨⟨by decide +kernel, by decide +kernel⟩, List.mem_of_getElem? (i := 881) (by decide +kernel), List.mem_of_getElem? (i := 1070) (by decide +kernel), List.mem_of_getElem? (i := 1071) (by decide +kernel)⟩
theorem lw_p35 : lw_okq (⟨"AdaptivePlayerModel", "receives", "()V"⟩, 20) := ⟨⟨by decide +kernel, by decide +kernel⟩, List.mem_of_getElem? (i := 881) (by decide +kernel), List.mem_of_getElem? (i := 1074) (by decide +kernel), List.mem_of_getElem? (i := 1075) (by decide +kernel)⟩
theorem lw_p36 : lw_okq (⟨"AdaptivePlayerModel", "rateAt", "(I)I"⟩, 20) := ⟨⟨by decide +kernel, by decide +kernel⟩, List.mem_of_getElem? (i := 881) (by decide +kernel), List.mem_of_getElem? (i := 1078) (by decide +kernel), List.mem_of_getElem? (i := 1079) (by decide +kernel)⟩
theorem lw_p37 : lw_okq (⟨"AdaptivePlayerModel", "completes", "()V"⟩, 20) := ⟨⟨by decide +kernel, by decide +kernel⟩, List.mem_of_getElem? (i := 881) (by decide +kernel), List.mem_of_getElem? (i := 1082) (by decide +kernel), List.mem_of_getElem? (i := 1083) (by decide +kernel)⟩
theorem lw_p38 : lw_okq (⟨"AdaptivePlayerModel", "plays", "()V"⟩, 20) := ⟨⟨by decide +kernel, by decide +kernel⟩, List.mem_of_getElem? (i := 881) (by decide +kernel), List.mem_of_getElem? (i := 1086) (by decide +kernel), List.mem_of_getElem? (i := 1087) (by decide +kernel)⟩
theorem lw_p39 : lw_okq (⟨"AdaptivePlayerModel", "waits", "()V"⟩, 20) := ⟨⟨by decide +kernel, by decide +kernel⟩, List.mem_of_getElem? (i := 881) (by decide +kernel), List.mem_of_getElem? (i := 1090) (by decide +kernel), List.mem_of_getElem? (i := 1091) (by decide +kernel)⟩
theorem lw_p40 : lw_okq (⟨"AdaptivePlayerModel", "simulated", "(II)I"⟩, 20) := ⟨⟨by decide +kernel, by decide +kernel⟩, List.mem_of_getElem? (i := 881) (by decide +kernel), List.mem_of_getElem? (i := 1154) (by decide +kernel), List.mem_of_getElem? (i := 1155) (by decide +kernel)⟩
theorem lw_p41 : lw_okq (⟨"AdaptivePlayerModel", "setsAside", "()V"⟩, 20) := ⟨⟨by decide +kernel, by decide +kernel⟩, List.mem_of_getElem? (i := 881) (by decide +kernel), List.mem_of_getElem? (i := 1158) (by decide +kernel), List.mem_of_getElem? (i := 1159) (by decide +kernel)⟩
theorem lw_p42 : lw_okq (⟨"AdaptivePlayerModel", "simulates", "(I)V"⟩, 20) := ⟨⟨by decide +kernel, by decide +kernel⟩, List.mem_of_getElem? (i := 881) (by decide +kernel), List.mem_of_getElem? (i := 1162) (by decide +kernel), List.mem_of_getElem? (i := 1163) (by decide +kernel)⟩
theorem lw_p43 : lw_okq (⟨"AdaptivePlayerModel", "takesBack", "()V"⟩, 20) := ⟨⟨by decide +kernel, by decide +kernel⟩, List.mem_of_getElem? (i := 881) (by decide +kernel), List.mem_of_getElem? (i := 1167) (by decide +kernel), List.mem_of_getElem? (i := 1168) (by decide +kernel)⟩
def lw_privs_3 : List (MethodName × Nat) := [(⟨"AdaptivePlayerModel", "levelByBuffer", "()I"⟩, 20), (⟨"AdaptivePlayerModel", "levelOfBoth", "()I"⟩, 20), (⟨"AdaptivePlayerModel", "sizeOf", "(II)I"⟩, 20), (⟨"AdaptivePlayerModel", "receives", "()V"⟩, 20), (⟨"AdaptivePlayerModel", "rateAt", "(I)I"⟩, 20), (⟨"AdaptivePlayerModel", "completes", "()V"⟩, 20), (⟨"AdaptivePlayerModel", "plays", "()V"⟩, 20), (⟨"AdaptivePlayerModel", "waits", "()V"⟩, 20), (⟨"AdaptivePlayerModel", "simulated", "(II)I"⟩, 20), (⟨"AdaptivePlayerModel", "setsAside", "()V"⟩, 20), (⟨"AdaptivePlayerModel", "simulates", "(I)V"⟩, 20), (⟨"AdaptivePlayerModel", "takesBack", "()V"⟩, 20)]
theorem lw_r3 : ∀ q ∈ lw_privs_3, lw_okq q := List.forall_mem_cons.mpr ⟨lw_p32, List.forall_mem_cons.mpr ⟨lw_p33, List.forall_mem_cons.mpr ⟨lw_p34, List.forall_mem_cons.mpr ⟨lw_p35, List.forall_mem_cons.mpr ⟨lw_p36, List.forall_mem_cons.mpr ⟨lw_p37, List.forall_mem_cons.mpr ⟨lw_p38, List.forall_mem_cons.mpr ⟨lw_p39, List.forall_mem_cons.mpr ⟨lw_p40, List.forall_mem_cons.mpr ⟨lw_p41, List.forall_mem_cons.mpr ⟨lw_p42, List.forall_mem_cons.mpr ⟨lw_p43, fun _ h => absurd h List.not_mem_nil⟩⟩⟩⟩⟩⟩⟩⟩⟩⟩⟩⟩
def lw_privs : List (MethodName × Nat) := lw_privs_1 ++ (lw_privs_2 ++ (lw_privs_3))
def lw_ySB : MethodName := ⟨"java/lang/AbstractStringBuilder", "isLatin1", "()Z"⟩
def lw_yS1 : MethodName := ⟨"java/lang/AbstractStringBuilder", "ensureCapacityInternal", "(I)V"⟩
def lw_yS2 : MethodName := ⟨"java/lang/AbstractStringBuilder", "newCapacity", "(I)I"⟩
def lw_yS3 : MethodName := ⟨"java/lang/AbstractStringBuilder", "inflate", "()V"⟩
/-- private methods of a superclass, called on an object of the subclass -/
def lw_ex : List Cond := [.selects "java/lang/StringBuilder" lw_yS1 lw_yS1, .selects "java/lang/StringBuilder" lw_yS2 lw_yS2, .selects "java/lang/StringBuilder" lw_yS3 lw_yS3]
def lw_tbl : List Cond := lw_ex ++ (k2_sels lw_privs ++ tables_1)
theorem lw_selP {C : String} {y z : MethodName} {s : State} {args : Array Value} {n : Nat} (hy : y.cls ≠ "java/lang/invoke/MethodHandle" ∧ y.cls ≠ "java/lang/invoke/VarHandle")
    (hins : (Cond.instantiable C n).before args s = true) (hz : (Cond.selects C z z).before args s = true) (hzy : z.cls = y.cls) (hpriv : (Cond.privateMethod y).before args s = true) (hinst : (Cond.instanceMethod y).before args s = true) :
    (Cond.selects C y y).before args s = true := by
  obtain ⟨c, k, hc, hk, -, -, -, -⟩ := Cond.instantiable_spec hins
  obtain ⟨mk, methM, hnamed, hmethM, -, -⟩ := Cond.instanceMethod_spec hinst
  have hfound : s.methodFound? y.cls y.name y.desc = some mk := State.methodFound?_of_named hnamed hy
  obtain ⟨c2, r2, m2, q1, q2, q3, q4, kk, hkk, hni⟩ := Cond.selects_spec hz
  have e1 : m2.cls = mk.cls := by
    have h1 := findClass_of_methodNamed q3
    have h2 := findClass_of_methodNamed hnamed
    rw [hzy] at h1
    exact Option.some.inj (h1.symm.trans h2)
  have hsel : selectMethod {} s.vm c mk = .method mk := selectMethod_private hmethM (Cond.privateMethod_at hpriv mk methM hnamed hmethM)
  rw [e1] at hkk
  simp only [Cond.before, Cond.holds, Cond.value, hc, hfound, hnamed, hsel, hkk]
  simp; exact hni
theorem lw_privs_ok : ∀ q ∈ lw_privs, lw_okq q := by
  show ∀ q ∈ lw_privs_1 ++ (lw_privs_2 ++ (lw_privs_3)), lw_okq q
  exact List.forall_mem_append.mpr ⟨lw_r1, List.forall_mem_append.mpr ⟨lw_r2, lw_r3⟩⟩
theorem lw_e1 {args : Array Value} {s : State} (hts : ∀ w ∈ tables_1, w.before args s = true) : (Cond.selects "java/lang/StringBuilder" lw_yS1 lw_yS1).before args s = true := lw_selP (C := "java/lang/StringBuilder") (n := 4) (z := lw_ySB) ⟨by decide +kernel, by decide +kernel⟩ (hts _ (List.mem_of_getElem? (i := 232) (by decide +kernel))) (hts _ (List.mem_of_getElem? (i := 419) (by decide +kernel))) rfl (hts _ (List.mem_of_getElem? (i := 382) (by decide +kernel))) (hts _ (List.mem_of_getElem? (i := 383) (by decide +kernel)))
theorem lw_e2 {args : Array Value} {s : State} (hts : ∀ w ∈ tables_1, w.before args s = true) : (Cond.selects "java/lang/StringBuilder" lw_yS2 lw_yS2).before args s = true := lw_selP (C := "java/lang/StringBuilder") (n := 4) (z := lw_ySB) ⟨by decide +kernel, by decide +kernel⟩ (hts _ (List.mem_of_getElem? (i := 232) (by decide +kernel))) (hts _ (List.mem_of_getElem? (i := 419) (by decide +kernel))) rfl (hts _ (List.mem_of_getElem? (i := 386) (by decide +kernel))) (hts _ (List.mem_of_getElem? (i := 387) (by decide +kernel)))
theorem lw_e3 {args : Array Value} {s : State} (hts : ∀ w ∈ tables_1, w.before args s = true) : (Cond.selects "java/lang/StringBuilder" lw_yS3 lw_yS3).before args s = true := lw_selP (C := "java/lang/StringBuilder") (n := 4) (z := lw_ySB) ⟨by decide +kernel, by decide +kernel⟩ (hts _ (List.mem_of_getElem? (i := 232) (by decide +kernel))) (hts _ (List.mem_of_getElem? (i := 419) (by decide +kernel))) rfl (hts _ (List.mem_of_getElem? (i := 425) (by decide +kernel))) (hts _ (List.mem_of_getElem? (i := 426) (by decide +kernel)))
theorem lw_hts {args : Array Value} {s : State} (hts : ∀ w ∈ tables_1, w.before args s = true) : ∀ w ∈ lw_tbl, w.before args s = true := by
  have h2 := k2_hts_sels (args := args) (s := s) lw_privs hts lw_privs_ok
  intro w hw
  rcases List.mem_append.mp hw with h | h
  · rcases List.mem_cons.mp h with rfl | h
    · exact lw_e1 hts
    · rcases List.mem_cons.mp h with rfl | h
      · exact lw_e2 hts
      · rcases List.mem_cons.mp h with rfl | h
        · exact lw_e3 hts
        · exact absurd h List.not_mem_nil
  · exact h2 w h
end
section
def RX0 : String := "AdaptivePlayer$Connection"
def TX0 : u_T := fun k => match k with
  | 0 => ("AdaptivePlayer$Connection", "ends", "[I", true)
  | 1 => ("AdaptivePlayer$Connection", "rates", "[I", true)
  | _ => ("AdaptivePlayer$Connection", "periodCount", "I", false)
def tyX0 : Nat → FieldType := fun k => match k with
  | 0 => .array .int
  | 1 => .array .int
  | _ => .int
theorem nmX0 : ∀ a, a < 3 → ∀ b, b < 3 → a ≠ b → (TX0 a).2.1 ≠ (TX0 b).2.1 := by decide +kernel
theorem tyX0_ok : ∀ k, k < 3 → parseFieldDescriptor (TX0 k).2.2.1 = some (tyX0 k) := by decide +kernel
abbrev cX0_init : ByteArray := prog_2_method_1_code
def yX0_init : MethodName := ⟨RX0, "<init>", "()V"⟩
abbrev cX0_appendPeriod : ByteArray := prog_2_method_2_code
def yX0_appendPeriod : MethodName := ⟨RX0, "appendPeriod", "(II)V"⟩
abbrev cX0_rateAt : ByteArray := prog_2_method_3_code
def yX0_rateAt : MethodName := ⟨RX0, "rateAt", "(I)I"⟩
def RX1 : String := "AdaptivePlayer$Download"
def TX1 : u_T := fun k => match k with
  | 0 => ("AdaptivePlayer$Download", "running", "Z", false)
  | 1 => ("AdaptivePlayer$Download", "level", "I", false)
  | 2 => ("AdaptivePlayer$Download", "size", "I", false)
  | 3 => ("AdaptivePlayer$Download", "received", "I", false)
  | _ => ("AdaptivePlayer$Download", "timeSpent", "I", false)
def tyX1 : Nat → FieldType := fun k => match k with
  | 0 => .boolean
  | 1 => .int
  | 2 => .int
  | 3 => .int
  | _ => .int
theorem nmX1 : ∀ a, a < 5 → ∀ b, b < 5 → a ≠ b → (TX1 a).2.1 ≠ (TX1 b).2.1 := by decide +kernel
theorem tyX1_ok : ∀ k, k < 5 → parseFieldDescriptor (TX1 k).2.2.1 = some (tyX1 k) := by decide +kernel
abbrev cX1_init : ByteArray := prog_3_method_1_code
def yX1_init : MethodName := ⟨RX1, "<init>", "()V"⟩
abbrev cX1_start : ByteArray := prog_3_method_2_code
def yX1_start : MethodName := ⟨RX1, "start", "(II)V"⟩
abbrev cX1_stop : ByteArray := prog_3_method_3_code
def yX1_stop : MethodName := ⟨RX1, "stop", "()V"⟩
abbrev cX1_receive : ByteArray := prog_3_method_4_code
def yX1_receive : MethodName := ⟨RX1, "receive", "(I)V"⟩
abbrev cX1_isComplete : ByteArray := prog_3_method_5_code
def yX1_isComplete : MethodName := ⟨RX1, "isComplete", "()Z"⟩
abbrev cX1_throughput : ByteArray := prog_3_method_6_code
def yX1_throughput : MethodName := ⟨RX1, "throughput", "()I"⟩
def RX2 : String := "AdaptivePlayer$Session"
def TX2 : u_T := fun k => match k with
  | 0 => ("AdaptivePlayer$Session", "video", "LAdaptivePlayer$Video;", true)
  | 1 => ("AdaptivePlayer$Session", "connection", "LAdaptivePlayer$Connection;", true)
  | 2 => ("AdaptivePlayer$Session", "settings", "LAdaptivePlayer$Settings;", true)
  | 3 => ("AdaptivePlayer$Session", "completedLevels", "[I", true)
  | 4 => ("AdaptivePlayer$Session", "throughputs", "LAdaptivePlayer$Throughputs;", true)
  | 5 => ("AdaptivePlayer$Session", "download", "LAdaptivePlayer$Download;", true)
  | 6 => ("AdaptivePlayer$Session", "paused", "Z", false)
  | 7 => ("AdaptivePlayer$Session", "time", "I", false)
  | 8 => ("AdaptivePlayer$Session", "position", "I", false)
  | 9 => ("AdaptivePlayer$Session", "buffer", "I", false)
  | 10 => ("AdaptivePlayer$Session", "state", "I", false)
  | 11 => ("AdaptivePlayer$Session", "nextSegment", "I", false)
  | 12 => ("AdaptivePlayer$Session", "switchCount", "I", false)
  | 13 => ("AdaptivePlayer$Session", "stallCount", "I", false)
  | 14 => ("AdaptivePlayer$Session", "stallTime", "I", false)
  | 15 => ("AdaptivePlayer$Session", "startupTime", "I", false)
  | 16 => ("AdaptivePlayer$Session", "bitrateSum", "I", false)
  | _ => ("AdaptivePlayer$Session", "latestLevel", "I", false)
def tyX2 : Nat → FieldType := fun k => match k with
  | 0 => .object "AdaptivePlayer$Video"
  | 1 => .object "AdaptivePlayer$Connection"
  | 2 => .object "AdaptivePlayer$Settings"
  | 3 => .array .int
  | 4 => .object "AdaptivePlayer$Throughputs"
  | 5 => .object "AdaptivePlayer$Download"
  | 6 => .boolean
  | 7 => .int
  | 8 => .int
  | 9 => .int
  | 10 => .int
  | 11 => .int
  | 12 => .int
  | 13 => .int
  | 14 => .int
  | 15 => .int
  | 16 => .int
  | _ => .int
theorem nmX2 : ∀ a, a < 18 → ∀ b, b < 18 → a ≠ b → (TX2 a).2.1 ≠ (TX2 b).2.1 := by decide +kernel
theorem tyX2_ok : ∀ k, k < 18 → parseFieldDescriptor (TX2 k).2.2.1 = some (tyX2 k) := by decide +kernel
abbrev cX2_init : ByteArray := prog_4_method_1_code
def yX2_init : MethodName := ⟨RX2, "<init>", "(LAdaptivePlayer$Video;LAdaptivePlayer$Connection;LAdaptivePlayer$Settings;)V"⟩
abbrev cX2_begin : ByteArray := prog_4_method_2_code
def yX2_begin : MethodName := ⟨RX2, "begin", "()V"⟩
abbrev cX2_moveTo : ByteArray := prog_4_method_3_code
def yX2_moveTo : MethodName := ⟨RX2, "moveTo", "(I)V"⟩
abbrev cX2_playWhole : ByteArray := prog_4_method_4_code
def yX2_playWhole : MethodName := ⟨RX2, "playWhole", "(II)V"⟩
abbrev cX2_passMillisecond : ByteArray := prog_4_method_5_code
def yX2_passMillisecond : MethodName := ⟨RX2, "passMillisecond", "(II)Z"⟩
abbrev cX2_completedLevelOf : ByteArray := prog_4_method_6_code
def yX2_completedLevelOf : MethodName := ⟨RX2, "completedLevelOf", "(I)I"⟩
abbrev cX2_hasNextSegment : ByteArray := prog_4_method_7_code
def yX2_hasNextSegment : MethodName := ⟨RX2, "hasNextSegment", "()Z"⟩
abbrev cX2_canStartDownload : ByteArray := prog_4_method_8_code
def yX2_canStartDownload : MethodName := ⟨RX2, "canStartDownload", "()Z"⟩
abbrev cX2_completeSegment : ByteArray := prog_4_method_9_code
def yX2_completeSegment : MethodName := ⟨RX2, "completeSegment", "()V"⟩
abbrev cX2_play : ByteArray := prog_4_method_10_code
def yX2_play : MethodName := ⟨RX2, "play", "()V"⟩
abbrev cX2_playIfReady : ByteArray := prog_4_method_11_code
def yX2_playIfReady : MethodName := ⟨RX2, "playIfReady", "()V"⟩
abbrev cX2_playMillisecond : ByteArray := prog_4_method_12_code
def yX2_playMillisecond : MethodName := ⟨RX2, "playMillisecond", "()V"⟩
abbrev cX2_chooseLevel : ByteArray := prog_4_method_13_code
def yX2_chooseLevel : MethodName := ⟨RX2, "chooseLevel", "(II)I"⟩
abbrev cX2_levelByRate : ByteArray := prog_4_method_14_code
def yX2_levelByRate : MethodName := ⟨RX2, "levelByRate", "(I)I"⟩
abbrev cX2_levelByBuffer : ByteArray := prog_4_method_15_code
def yX2_levelByBuffer : MethodName := ⟨RX2, "levelByBuffer", "(I)I"⟩
abbrev cX2_levelByBoth : ByteArray := prog_4_method_16_code
def yX2_levelByBoth : MethodName := ⟨RX2, "levelByBoth", "(I)I"⟩
def RX3 : String := "AdaptivePlayer$Settings"
def TX3 : u_T := fun k => match k with
  | 0 => ("AdaptivePlayer$Settings", "maximumBuffer", "I", false)
  | 1 => ("AdaptivePlayer$Settings", "threshold", "I", false)
  | 2 => ("AdaptivePlayer$Settings", "safety", "I", false)
  | 3 => ("AdaptivePlayer$Settings", "reservoir", "I", false)
  | _ => ("AdaptivePlayer$Settings", "cushion", "I", false)
def tyX3 : Nat → FieldType := fun k => match k with
  | 0 => .int
  | 1 => .int
  | 2 => .int
  | 3 => .int
  | _ => .int
theorem nmX3 : ∀ a, a < 5 → ∀ b, b < 5 → a ≠ b → (TX3 a).2.1 ≠ (TX3 b).2.1 := by decide +kernel
theorem tyX3_ok : ∀ k, k < 5 → parseFieldDescriptor (TX3 k).2.2.1 = some (tyX3 k) := by decide +kernel
abbrev cX3_init : ByteArray := prog_5_method_1_code
def yX3_init : MethodName := ⟨RX3, "<init>", "()V"⟩
abbrev cX3_changeBuffer : ByteArray := prog_5_method_2_code
def yX3_changeBuffer : MethodName := ⟨RX3, "changeBuffer", "(II)Z"⟩
abbrev cX3_changePolicyNumbers : ByteArray := prog_5_method_3_code
def yX3_changePolicyNumbers : MethodName := ⟨RX3, "changePolicyNumbers", "(III)Z"⟩
def RX4 : String := "AdaptivePlayer$Throughputs"
def TX4 : u_T := fun k => match k with
  | 0 => ("AdaptivePlayer$Throughputs", "latest", "[I", true)
  | _ => ("AdaptivePlayer$Throughputs", "count", "I", false)
def tyX4 : Nat → FieldType := fun k => match k with
  | 0 => .array .int
  | _ => .int
theorem nmX4 : ∀ a, a < 2 → ∀ b, b < 2 → a ≠ b → (TX4 a).2.1 ≠ (TX4 b).2.1 := by decide +kernel
theorem tyX4_ok : ∀ k, k < 2 → parseFieldDescriptor (TX4 k).2.2.1 = some (tyX4 k) := by decide +kernel
abbrev cX4_init : ByteArray := prog_6_method_1_code
def yX4_init : MethodName := ⟨RX4, "<init>", "()V"⟩
abbrev cX4_forget : ByteArray := prog_6_method_2_code
def yX4_forget : MethodName := ⟨RX4, "forget", "()V"⟩
abbrev cX4_add : ByteArray := prog_6_method_3_code
def yX4_add : MethodName := ⟨RX4, "add", "(I)V"⟩
abbrev cX4_estimate : ByteArray := prog_6_method_4_code
def yX4_estimate : MethodName := ⟨RX4, "estimate", "()I"⟩
def RX5 : String := "AdaptivePlayer$Video"
def TX5 : u_T := fun k => match k with
  | 0 => ("AdaptivePlayer$Video", "bitrates", "[I", true)
  | 1 => ("AdaptivePlayer$Video", "variations", "[I", true)
  | 2 => ("AdaptivePlayer$Video", "segmentCount", "I", false)
  | 3 => ("AdaptivePlayer$Video", "duration", "I", false)
  | _ => ("AdaptivePlayer$Video", "levelCount", "I", false)
def tyX5 : Nat → FieldType := fun k => match k with
  | 0 => .array .int
  | 1 => .array .int
  | 2 => .int
  | 3 => .int
  | _ => .int
theorem nmX5 : ∀ a, a < 5 → ∀ b, b < 5 → a ≠ b → (TX5 a).2.1 ≠ (TX5 b).2.1 := by decide +kernel
theorem tyX5_ok : ∀ k, k < 5 → parseFieldDescriptor (TX5 k).2.2.1 = some (tyX5 k) := by decide +kernel
abbrev cX5_init : ByteArray := prog_7_method_1_code
def yX5_init : MethodName := ⟨RX5, "<init>", "()V"⟩
abbrev cX5_replace : ByteArray := prog_7_method_2_code
def yX5_replace : MethodName := ⟨RX5, "replace", "(II)V"⟩
abbrev cX5_appendLevel : ByteArray := prog_7_method_3_code
def yX5_appendLevel : MethodName := ⟨RX5, "appendLevel", "(I)V"⟩
abbrev cX5_hasSegment : ByteArray := prog_7_method_4_code
def yX5_hasSegment : MethodName := ⟨RX5, "hasSegment", "(I)Z"⟩
abbrev cX5_hasLevel : ByteArray := prog_7_method_5_code
def yX5_hasLevel : MethodName := ⟨RX5, "hasLevel", "(I)Z"⟩
abbrev cX5_bitrateOf : ByteArray := prog_7_method_6_code
def yX5_bitrateOf : MethodName := ⟨RX5, "bitrateOf", "(I)I"⟩
abbrev cX5_highestBitrate : ByteArray := prog_7_method_7_code
def yX5_highestBitrate : MethodName := ⟨RX5, "highestBitrate", "()I"⟩
abbrev cX5_highestLevelWithin : ByteArray := prog_7_method_8_code
def yX5_highestLevelWithin : MethodName := ⟨RX5, "highestLevelWithin", "(II)I"⟩
abbrev cX5_variationOf : ByteArray := prog_7_method_9_code
def yX5_variationOf : MethodName := ⟨RX5, "variationOf", "(I)I"⟩
abbrev cX5_changeVariation : ByteArray := prog_7_method_10_code
def yX5_changeVariation : MethodName := ⟨RX5, "changeVariation", "(II)V"⟩
abbrev cX5_sizeOf : ByteArray := prog_7_method_11_code
def yX5_sizeOf : MethodName := ⟨RX5, "sizeOf", "(II)I"⟩
def RX6 : String := "AdaptivePlayer"
def TX6 : u_T := fun k => match k with
  | 0 => ("AdaptivePlayer", "video", "LAdaptivePlayer$Video;", true)
  | 1 => ("AdaptivePlayer", "connection", "LAdaptivePlayer$Connection;", true)
  | 2 => ("AdaptivePlayer", "settings", "LAdaptivePlayer$Settings;", true)
  | 3 => ("AdaptivePlayer", "session", "LAdaptivePlayer$Session;", true)
  | 4 => ("AdaptivePlayer", "whatIf", "LAdaptivePlayer$Session;", true)
  | 5 => ("AdaptivePlayer", "commandLine", "Ljava/lang/StringBuilder;", true)
  | 6 => ("AdaptivePlayer", "policy", "I", false)
  | _ => ("AdaptivePlayer", "cap", "I", false)
def tyX6 : Nat → FieldType := fun k => match k with
  | 0 => .object "AdaptivePlayer$Video"
  | 1 => .object "AdaptivePlayer$Connection"
  | 2 => .object "AdaptivePlayer$Settings"
  | 3 => .object "AdaptivePlayer$Session"
  | 4 => .object "AdaptivePlayer$Session"
  | 5 => .object "java/lang/StringBuilder"
  | 6 => .int
  | _ => .int
theorem nmX6 : ∀ a, a < 8 → ∀ b, b < 8 → a ≠ b → (TX6 a).2.1 ≠ (TX6 b).2.1 := by decide +kernel
theorem tyX6_ok : ∀ k, k < 8 → parseFieldDescriptor (TX6 k).2.2.1 = some (tyX6 k) := by decide +kernel
abbrev cX6_init : ByteArray := prog_1_method_1_code
def yX6_init : MethodName := ⟨RX6, "<init>", "()V"⟩
abbrev cX6_setVideo : ByteArray := prog_1_method_2_code
def yX6_setVideo : MethodName := ⟨RX6, "setVideo", "(II)I"⟩
abbrev cX6_addLevel : ByteArray := prog_1_method_3_code
def yX6_addLevel : MethodName := ⟨RX6, "addLevel", "(I)I"⟩
abbrev cX6_setVariation : ByteArray := prog_1_method_4_code
def yX6_setVariation : MethodName := ⟨RX6, "setVariation", "(II)I"⟩
abbrev cX6_addPeriod : ByteArray := prog_1_method_5_code
def yX6_addPeriod : MethodName := ⟨RX6, "addPeriod", "(II)I"⟩
abbrev cX6_setBuffer : ByteArray := prog_1_method_6_code
def yX6_setBuffer : MethodName := ⟨RX6, "setBuffer", "(II)I"⟩
abbrev cX6_setPolicyNumbers : ByteArray := prog_1_method_7_code
def yX6_setPolicyNumbers : MethodName := ⟨RX6, "setPolicyNumbers", "(III)I"⟩
abbrev cX6_typeKey : ByteArray := prog_1_method_8_code
def yX6_typeKey : MethodName := ⟨RX6, "typeKey", "(I)I"⟩
abbrev cX6_runCommand : ByteArray := prog_1_method_9_code
def yX6_runCommand : MethodName := ⟨RX6, "runCommand", "()I"⟩
abbrev cX6_restart : ByteArray := prog_1_method_10_code
def yX6_restart : MethodName := ⟨RX6, "restart", "()I"⟩
abbrev cX6_advance : ByteArray := prog_1_method_11_code
def yX6_advance : MethodName := ⟨RX6, "advance", "(I)I"⟩
abbrev cX6_time : ByteArray := prog_1_method_12_code
def yX6_time : MethodName := ⟨RX6, "time", "()I"⟩
abbrev cX6_position : ByteArray := prog_1_method_13_code
def yX6_position : MethodName := ⟨RX6, "position", "()I"⟩
abbrev cX6_bufferLevel : ByteArray := prog_1_method_14_code
def yX6_bufferLevel : MethodName := ⟨RX6, "bufferLevel", "()I"⟩
abbrev cX6_state : ByteArray := prog_1_method_15_code
def yX6_state : MethodName := ⟨RX6, "state", "()I"⟩
abbrev cX6_isPaused : ByteArray := prog_1_method_16_code
def yX6_isPaused : MethodName := ⟨RX6, "isPaused", "()I"⟩
abbrev cX6_downloadingSegment : ByteArray := prog_1_method_17_code
def yX6_downloadingSegment : MethodName := ⟨RX6, "downloadingSegment", "()I"⟩
abbrev cX6_segmentLevel : ByteArray := prog_1_method_18_code
def yX6_segmentLevel : MethodName := ⟨RX6, "segmentLevel", "(I)I"⟩
abbrev cX6_throughputEstimate : ByteArray := prog_1_method_19_code
def yX6_throughputEstimate : MethodName := ⟨RX6, "throughputEstimate", "()I"⟩
abbrev cX6_switchCount : ByteArray := prog_1_method_20_code
def yX6_switchCount : MethodName := ⟨RX6, "switchCount", "()I"⟩
abbrev cX6_stallCount : ByteArray := prog_1_method_21_code
def yX6_stallCount : MethodName := ⟨RX6, "stallCount", "()I"⟩
abbrev cX6_stallTime : ByteArray := prog_1_method_22_code
def yX6_stallTime : MethodName := ⟨RX6, "stallTime", "()I"⟩
abbrev cX6_startupTime : ByteArray := prog_1_method_23_code
def yX6_startupTime : MethodName := ⟨RX6, "startupTime", "()I"⟩
abbrev cX6_bitrateSum : ByteArray := prog_1_method_24_code
def yX6_bitrateSum : MethodName := ⟨RX6, "bitrateSum", "()I"⟩
abbrev cX6_segmentSize : ByteArray := prog_1_method_25_code
def yX6_segmentSize : MethodName := ⟨RX6, "segmentSize", "(II)I"⟩
abbrev cX6_simulatedStallTime : ByteArray := prog_1_method_26_code
def yX6_simulatedStallTime : MethodName := ⟨RX6, "simulatedStallTime", "(I)I"⟩
abbrev cX6_simulatedBitrateSum : ByteArray := prog_1_method_27_code
def yX6_simulatedBitrateSum : MethodName := ⟨RX6, "simulatedBitrateSum", "(I)I"⟩
abbrev cX6_bestSmoothLevel : ByteArray := prog_1_method_28_code
def yX6_bestSmoothLevel : MethodName := ⟨RX6, "bestSmoothLevel", "()I"⟩
abbrev cX6_simulationError : ByteArray := prog_1_method_29_code
def yX6_simulationError : MethodName := ⟨RX6, "simulationError", "(I)I"⟩
abbrev cX6_runWord : ByteArray := prog_1_method_30_code
def yX6_runWord : MethodName := ⟨RX6, "runWord", "(Ljava/lang/String;)I"⟩
abbrev cX6_runWordWithArgument : ByteArray := prog_1_method_31_code
def yX6_runWordWithArgument : MethodName := ⟨RX6, "runWordWithArgument", "(Ljava/lang/String;Ljava/lang/String;)I"⟩
abbrev cX6_changePause : ByteArray := prog_1_method_32_code
def yX6_changePause : MethodName := ⟨RX6, "changePause", "(Z)I"⟩
abbrev cX6_changePolicy : ByteArray := prog_1_method_33_code
def yX6_changePolicy : MethodName := ⟨RX6, "changePolicy", "(I)I"⟩
abbrev cX6_changeCap : ByteArray := prog_1_method_34_code
def yX6_changeCap : MethodName := ⟨RX6, "changeCap", "(I)I"⟩
abbrev cX6_seek : ByteArray := prog_1_method_35_code
def yX6_seek : MethodName := ⟨RX6, "seek", "(I)I"⟩
abbrev cX6_policyNamed : ByteArray := prog_1_method_36_code
def yX6_policyNamed : MethodName := ⟨RX6, "policyNamed", "(Ljava/lang/String;)I"⟩
abbrev cX6_numberIn : ByteArray := prog_1_method_37_code
def yX6_numberIn : MethodName := ⟨RX6, "numberIn", "(Ljava/lang/String;)I"⟩
abbrev cX6_isWithin : ByteArray := prog_1_method_38_code
def yX6_isWithin : MethodName := ⟨RX6, "isWithin", "(III)Z"⟩
abbrev cX6_oneIf : ByteArray := prog_1_method_39_code
def yX6_oneIf : MethodName := ⟨RX6, "oneIf", "(Z)I"⟩
def RX7 : String := "AdaptivePlayerModel"
def TX7 : u_T := fun k => match k with
  | 0 => ("AdaptivePlayerModel", "segments", "I", false)
  | 1 => ("AdaptivePlayerModel", "duration", "I", false)
  | 2 => ("AdaptivePlayerModel", "variation", "[I", true)
  | 3 => ("AdaptivePlayerModel", "levels", "I", false)
  | 4 => ("AdaptivePlayerModel", "bitrate", "[I", true)
  | 5 => ("AdaptivePlayerModel", "periods", "I", false)
  | 6 => ("AdaptivePlayerModel", "periodEnd", "[I", true)
  | 7 => ("AdaptivePlayerModel", "periodRate", "[I", true)
  | 8 => ("AdaptivePlayerModel", "maximum", "I", false)
  | 9 => ("AdaptivePlayerModel", "threshold", "I", false)
  | 10 => ("AdaptivePlayerModel", "safety", "I", false)
  | 11 => ("AdaptivePlayerModel", "reservoir", "I", false)
  | 12 => ("AdaptivePlayerModel", "cushion", "I", false)
  | 13 => ("AdaptivePlayerModel", "policy", "I", false)
  | 14 => ("AdaptivePlayerModel", "cap", "I", false)
  | 15 => ("AdaptivePlayerModel", "now", "[I", true)
  | 16 => ("AdaptivePlayerModel", "aside", "[I", true)
  | 17 => ("AdaptivePlayerModel", "keys", "I", false)
  | 18 => ("AdaptivePlayerModel", "key", "[I", true)
  | _ => ("AdaptivePlayerModel", "typed", "I", false)
def tyX7 : Nat → FieldType := fun k => match k with
  | 0 => .int
  | 1 => .int
  | 2 => .array .int
  | 3 => .int
  | 4 => .array .int
  | 5 => .int
  | 6 => .array .int
  | 7 => .array .int
  | 8 => .int
  | 9 => .int
  | 10 => .int
  | 11 => .int
  | 12 => .int
  | 13 => .int
  | 14 => .int
  | 15 => .array .int
  | 16 => .array .int
  | 17 => .int
  | 18 => .array .int
  | _ => .int
theorem nmX7 : ∀ a, a < 20 → ∀ b, b < 20 → a ≠ b → (TX7 a).2.1 ≠ (TX7 b).2.1 := by decide +kernel
theorem tyX7_ok : ∀ k, k < 20 → parseFieldDescriptor (TX7 k).2.2.1 = some (tyX7 k) := by decide +kernel
abbrev cX7_init : ByteArray := prog_9_method_1_code
def yX7_init : MethodName := ⟨RX7, "<init>", "()V"⟩
abbrev cX7_within : ByteArray := prog_9_method_2_code
def yX7_within : MethodName := ⟨RX7, "within", "(III)Z"⟩
abbrev cX7_begins : ByteArray := prog_9_method_3_code
def yX7_begins : MethodName := ⟨RX7, "begins", "()V"⟩
abbrev cX7_setVideo : ByteArray := prog_9_method_4_code
def yX7_setVideo : MethodName := ⟨RX7, "setVideo", "(II)I"⟩
abbrev cX7_addLevel : ByteArray := prog_9_method_5_code
def yX7_addLevel : MethodName := ⟨RX7, "addLevel", "(I)I"⟩
abbrev cX7_setVariation : ByteArray := prog_9_method_6_code
def yX7_setVariation : MethodName := ⟨RX7, "setVariation", "(II)I"⟩
abbrev cX7_addPeriod : ByteArray := prog_9_method_7_code
def yX7_addPeriod : MethodName := ⟨RX7, "addPeriod", "(II)I"⟩
abbrev cX7_setBuffer : ByteArray := prog_9_method_8_code
def yX7_setBuffer : MethodName := ⟨RX7, "setBuffer", "(II)I"⟩
abbrev cX7_setPolicyNumbers : ByteArray := prog_9_method_9_code
def yX7_setPolicyNumbers : MethodName := ⟨RX7, "setPolicyNumbers", "(III)I"⟩
abbrev cX7_typeKey : ByteArray := prog_9_method_10_code
def yX7_typeKey : MethodName := ⟨RX7, "typeKey", "(I)I"⟩
abbrev cX7_has : ByteArray := prog_9_method_11_code
def yX7_has : MethodName := ⟨RX7, "has", "(IJI)Z"⟩
abbrev cX7_isDigit : ByteArray := prog_9_method_12_code
def yX7_isDigit : MethodName := ⟨RX7, "isDigit", "(I)Z"⟩
abbrev cX7_numberFrom : ByteArray := prog_9_method_13_code
def yX7_numberFrom : MethodName := ⟨RX7, "numberFrom", "(I)I"⟩
abbrev cX7_setsPolicy : ByteArray := prog_9_method_14_code
def yX7_setsPolicy : MethodName := ⟨RX7, "setsPolicy", "(I)I"⟩
abbrev cX7_policyFrom : ByteArray := prog_9_method_15_code
def yX7_policyFrom : MethodName := ⟨RX7, "policyFrom", "(I)I"⟩
abbrev cX7_capFrom : ByteArray := prog_9_method_16_code
def yX7_capFrom : MethodName := ⟨RX7, "capFrom", "(I)I"⟩
abbrev cX7_seekFrom : ByteArray := prog_9_method_17_code
def yX7_seekFrom : MethodName := ⟨RX7, "seekFrom", "(I)I"⟩
abbrev cX7_pauses : ByteArray := prog_9_method_18_code
def yX7_pauses : MethodName := ⟨RX7, "pauses", "(I)I"⟩
abbrev cX7_runCommand : ByteArray := prog_9_method_19_code
def yX7_runCommand : MethodName := ⟨RX7, "runCommand", "()I"⟩
abbrev cX7_sizeOf : ByteArray := prog_9_method_20_code
def yX7_sizeOf : MethodName := ⟨RX7, "sizeOf", "(II)I"⟩
abbrev cX7_rateAt : ByteArray := prog_9_method_21_code
def yX7_rateAt : MethodName := ⟨RX7, "rateAt", "(I)I"⟩
abbrev cX7_highest : ByteArray := prog_9_method_22_code
def yX7_highest : MethodName := ⟨RX7, "highest", "()I"⟩
abbrev cX7_estimate : ByteArray := prog_9_method_23_code
def yX7_estimate : MethodName := ⟨RX7, "estimate", "()I"⟩
abbrev cX7_levelByRate : ByteArray := prog_9_method_24_code
def yX7_levelByRate : MethodName := ⟨RX7, "levelByRate", "()I"⟩
abbrev cX7_levelByBuffer : ByteArray := prog_9_method_25_code
def yX7_levelByBuffer : MethodName := ⟨RX7, "levelByBuffer", "()I"⟩
abbrev cX7_levelOfBoth : ByteArray := prog_9_method_26_code
def yX7_levelOfBoth : MethodName := ⟨RX7, "levelOfBoth", "()I"⟩
abbrev cX7_chosen : ByteArray := prog_9_method_27_code
def yX7_chosen : MethodName := ⟨RX7, "chosen", "(I)I"⟩
abbrev cX7_startsDownload : ByteArray := prog_9_method_28_code
def yX7_startsDownload : MethodName := ⟨RX7, "startsDownload", "(I)V"⟩
abbrev cX7_completes : ByteArray := prog_9_method_29_code
def yX7_completes : MethodName := ⟨RX7, "completes", "()V"⟩
abbrev cX7_receives : ByteArray := prog_9_method_30_code
def yX7_receives : MethodName := ⟨RX7, "receives", "()V"⟩
abbrev cX7_plays : ByteArray := prog_9_method_31_code
def yX7_plays : MethodName := ⟨RX7, "plays", "()V"⟩
abbrev cX7_waits : ByteArray := prog_9_method_32_code
def yX7_waits : MethodName := ⟨RX7, "waits", "()V"⟩
abbrev cX7_passes : ByteArray := prog_9_method_33_code
def yX7_passes : MethodName := ⟨RX7, "passes", "(I)V"⟩
abbrev cX7_restart : ByteArray := prog_9_method_34_code
def yX7_restart : MethodName := ⟨RX7, "restart", "()I"⟩
abbrev cX7_advance : ByteArray := prog_9_method_35_code
def yX7_advance : MethodName := ⟨RX7, "advance", "(I)I"⟩
abbrev cX7_time : ByteArray := prog_9_method_36_code
def yX7_time : MethodName := ⟨RX7, "time", "()I"⟩
abbrev cX7_position : ByteArray := prog_9_method_37_code
def yX7_position : MethodName := ⟨RX7, "position", "()I"⟩
abbrev cX7_bufferLevel : ByteArray := prog_9_method_38_code
def yX7_bufferLevel : MethodName := ⟨RX7, "bufferLevel", "()I"⟩
abbrev cX7_state : ByteArray := prog_9_method_39_code
def yX7_state : MethodName := ⟨RX7, "state", "()I"⟩
abbrev cX7_isPaused : ByteArray := prog_9_method_40_code
def yX7_isPaused : MethodName := ⟨RX7, "isPaused", "()I"⟩
abbrev cX7_downloadingSegment : ByteArray := prog_9_method_41_code
def yX7_downloadingSegment : MethodName := ⟨RX7, "downloadingSegment", "()I"⟩
abbrev cX7_segmentLevel : ByteArray := prog_9_method_42_code
def yX7_segmentLevel : MethodName := ⟨RX7, "segmentLevel", "(I)I"⟩
abbrev cX7_throughputEstimate : ByteArray := prog_9_method_43_code
def yX7_throughputEstimate : MethodName := ⟨RX7, "throughputEstimate", "()I"⟩
abbrev cX7_switchCount : ByteArray := prog_9_method_44_code
def yX7_switchCount : MethodName := ⟨RX7, "switchCount", "()I"⟩
abbrev cX7_stallCount : ByteArray := prog_9_method_45_code
def yX7_stallCount : MethodName := ⟨RX7, "stallCount", "()I"⟩
abbrev cX7_stallTime : ByteArray := prog_9_method_46_code
def yX7_stallTime : MethodName := ⟨RX7, "stallTime", "()I"⟩
abbrev cX7_startupTime : ByteArray := prog_9_method_47_code
def yX7_startupTime : MethodName := ⟨RX7, "startupTime", "()I"⟩
abbrev cX7_bitrateSum : ByteArray := prog_9_method_48_code
def yX7_bitrateSum : MethodName := ⟨RX7, "bitrateSum", "()I"⟩
abbrev cX7_segmentSize : ByteArray := prog_9_method_49_code
def yX7_segmentSize : MethodName := ⟨RX7, "segmentSize", "(II)I"⟩
abbrev cX7_setsAside : ByteArray := prog_9_method_50_code
def yX7_setsAside : MethodName := ⟨RX7, "setsAside", "()V"⟩
abbrev cX7_takesBack : ByteArray := prog_9_method_51_code
def yX7_takesBack : MethodName := ⟨RX7, "takesBack", "()V"⟩
abbrev cX7_simulates : ByteArray := prog_9_method_52_code
def yX7_simulates : MethodName := ⟨RX7, "simulates", "(I)V"⟩
abbrev cX7_simulated : ByteArray := prog_9_method_53_code
def yX7_simulated : MethodName := ⟨RX7, "simulated", "(II)I"⟩
abbrev cX7_simulatedStallTime : ByteArray := prog_9_method_54_code
def yX7_simulatedStallTime : MethodName := ⟨RX7, "simulatedStallTime", "(I)I"⟩
abbrev cX7_simulatedBitrateSum : ByteArray := prog_9_method_55_code
def yX7_simulatedBitrateSum : MethodName := ⟨RX7, "simulatedBitrateSum", "(I)I"⟩
abbrev cX7_bestSmoothLevel : ByteArray := prog_9_method_56_code
def yX7_bestSmoothLevel : MethodName := ⟨RX7, "bestSmoothLevel", "()I"⟩
def RJ5 : String := "java/lang/AbstractStringBuilder"
def TJ5 : u_T := fun k => match k with
  | _ => ("", "", "", false)
def tyJ5 : Nat → FieldType := fun k => match k with
  | _ => .int
theorem nmJ5 : ∀ a, a < 0 → ∀ b, b < 0 → a ≠ b → (TJ5 a).2.1 ≠ (TJ5 b).2.1 := by decide +kernel
theorem tyJ5_ok : ∀ k, k < 0 → parseFieldDescriptor (TJ5 k).2.2.1 = some (tyJ5 k) := by decide +kernel
abbrev cJ5_init_d00df : ByteArray := prog_10_method_2_code
def yJ5_init_d00df : MethodName := ⟨RJ5, "<init>", "(I)V"⟩
abbrev cJ5_length_8abf5 : ByteArray := prog_10_method_6_code
def yJ5_length_8abf5 : MethodName := ⟨RJ5, "length", "()I"⟩
abbrev cJ5_ensureCapacityInternal_d00df : ByteArray := prog_10_method_9_code
def yJ5_ensureCapacityInternal_d00df : MethodName := ⟨RJ5, "ensureCapacityInternal", "(I)V"⟩
abbrev cJ5_newCapacity_0f7a4 : ByteArray := prog_10_method_10_code
def yJ5_newCapacity_0f7a4 : MethodName := ⟨RJ5, "newCapacity", "(I)I"⟩
abbrev cJ5_inflate_da8c8 : ByteArray := prog_10_method_11_code
def yJ5_inflate_da8c8 : MethodName := ⟨RJ5, "inflate", "()V"⟩
abbrev cJ5_setLength_d00df : ByteArray := prog_10_method_13_code
def yJ5_setLength_d00df : MethodName := ⟨RJ5, "setLength", "(I)V"⟩
abbrev cJ5_append_3fe6f : ByteArray := prog_10_method_31_code
def yJ5_append_3fe6f : MethodName := ⟨RJ5, "append", "(C)Ljava/lang/AbstractStringBuilder;"⟩
abbrev cJ5_getValue_6d5f1 : ByteArray := prog_10_method_64_code
def yJ5_getValue_6d5f1 : MethodName := ⟨RJ5, "getValue", "()[B"⟩
abbrev cJ5_isLatin1_aae02 : ByteArray := prog_10_method_68_code
def yJ5_isLatin1_aae02 : MethodName := ⟨RJ5, "isLatin1", "()Z"⟩
def RJ11 : String := "java/lang/Character"
def TJ11 : u_T := fun k => match k with
  | _ => ("", "", "", false)
def tyJ11 : Nat → FieldType := fun k => match k with
  | _ => .int
theorem nmJ11 : ∀ a, a < 0 → ∀ b, b < 0 → a ≠ b → (TJ11 a).2.1 ≠ (TJ11 b).2.1 := by decide +kernel
theorem tyJ11_ok : ∀ k, k < 0 → parseFieldDescriptor (TJ11 k).2.2.1 = some (tyJ11 k) := by decide +kernel
abbrev cJ11_isValidCodePoint_9a6ad : ByteArray := prog_11_method_11_code
def yJ11_isValidCodePoint_9a6ad : MethodName := ⟨RJ11, "isValidCodePoint", "(I)Z"⟩
abbrev cJ11_highSurrogate_5068e : ByteArray := prog_11_method_28_code
def yJ11_highSurrogate_5068e : MethodName := ⟨RJ11, "highSurrogate", "(I)C"⟩
abbrev cJ11_lowSurrogate_5068e : ByteArray := prog_11_method_29_code
def yJ11_lowSurrogate_5068e : MethodName := ⟨RJ11, "lowSurrogate", "(I)C"⟩
def RJx8e188 : String := "java/lang/Cloneable"
def TJx8e188 : u_T := fun k => match k with
  | _ => ("", "", "", false)
def tyJx8e188 : Nat → FieldType := fun k => match k with
  | _ => .int
theorem nmJx8e188 : ∀ a, a < 0 → ∀ b, b < 0 → a ≠ b → (TJx8e188 a).2.1 ≠ (TJx8e188 b).2.1 := by decide +kernel
theorem tyJx8e188_ok : ∀ k, k < 0 → parseFieldDescriptor (TJx8e188 k).2.2.1 = some (tyJx8e188 k) := by decide +kernel
def RJ9 : String := "java/lang/Math"
def TJ9 : u_T := fun k => match k with
  | _ => ("", "", "", false)
def tyJ9 : Nat → FieldType := fun k => match k with
  | _ => .int
theorem nmJ9 : ∀ a, a < 0 → ∀ b, b < 0 → a ≠ b → (TJ9 a).2.1 ≠ (TJ9 b).2.1 := by decide +kernel
theorem tyJ9_ok : ∀ k, k < 0 → parseFieldDescriptor (TJ9 k).2.2.1 = some (tyJ9 k) := by decide +kernel
abbrev cJ9_max_7cf53 : ByteArray := prog_13_method_65_code
def yJ9_max_7cf53 : MethodName := ⟨RJ9, "max", "(II)I"⟩
abbrev cJ9_min_7cf53 : ByteArray := prog_13_method_69_code
def yJ9_min_7cf53 : MethodName := ⟨RJ9, "min", "(II)I"⟩
def RJ0 : String := "java/lang/String"
def TJ0 : u_T := fun k => match k with
  | 0 => ("java/lang/String", "value", "[B", true)
  | 1 => ("java/lang/String", "coder", "B", true)
  | 2 => ("java/lang/String", "hash", "I", false)
  | _ => ("java/lang/String", "hashIsZero", "Z", false)
def tyJ0 : Nat → FieldType := fun k => match k with
  | 0 => .array .byte
  | 1 => .byte
  | 2 => .int
  | _ => .boolean
theorem nmJ0 : ∀ a, a < 4 → ∀ b, b < 4 → a ≠ b → (TJ0 a).2.1 ≠ (TJ0 b).2.1 := by decide +kernel
theorem tyJ0_ok : ∀ k, k < 4 → parseFieldDescriptor (TJ0 k).2.2.1 = some (tyJ0 k) := by decide +kernel
abbrev cJ0_init_81219 : ByteArray := prog_14_method_53_code
def yJ0_init_81219 : MethodName := ⟨RJ0, "<init>", "(Ljava/lang/StringBuilder;)V"⟩
abbrev cJ0_length_8abf5 : ByteArray := prog_14_method_54_code
def yJ0_length_8abf5 : MethodName := ⟨RJ0, "length", "()I"⟩
abbrev cJ0_charAt_5068e : ByteArray := prog_14_method_56_code
def yJ0_charAt_5068e : MethodName := ⟨RJ0, "charAt", "(I)C"⟩
abbrev cJ0_equals_9ea2d : ByteArray := prog_14_method_66_code
def yJ0_equals_9ea2d : MethodName := ⟨RJ0, "equals", "(Ljava/lang/Object;)Z"⟩
abbrev cJ0_indexOf_0f7a4 : ByteArray := prog_14_method_79_code
def yJ0_indexOf_0f7a4 : MethodName := ⟨RJ0, "indexOf", "(I)I"⟩
abbrev cJ0_indexOf_7cf53 : ByteArray := prog_14_method_80_code
def yJ0_indexOf_7cf53 : MethodName := ⟨RJ0, "indexOf", "(II)I"⟩
abbrev cJ0_substring_b52d3 : ByteArray := prog_14_method_91_code
def yJ0_substring_b52d3 : MethodName := ⟨RJ0, "substring", "(I)Ljava/lang/String;"⟩
abbrev cJ0_substring_37a41 : ByteArray := prog_14_method_92_code
def yJ0_substring_37a41 : MethodName := ⟨RJ0, "substring", "(II)Ljava/lang/String;"⟩
abbrev cJ0_init_db425 : ByteArray := prog_14_method_150_code
def yJ0_init_db425 : MethodName := ⟨RJ0, "<init>", "(Ljava/lang/AbstractStringBuilder;Ljava/lang/Void;)V"⟩
abbrev cJ0_init_031fb : ByteArray := prog_14_method_151_code
def yJ0_init_031fb : MethodName := ⟨RJ0, "<init>", "([BB)V"⟩
abbrev cJ0_coder_7d493 : ByteArray := prog_14_method_152_code
def yJ0_coder_7d493 : MethodName := ⟨RJ0, "coder", "()B"⟩
abbrev cJ0_isLatin1_aae02 : ByteArray := prog_14_method_154_code
def yJ0_isLatin1_aae02 : MethodName := ⟨RJ0, "isLatin1", "()Z"⟩
abbrev cJ0_checkIndex_df160 : ByteArray := prog_14_method_155_code
def yJ0_checkIndex_df160 : MethodName := ⟨RJ0, "checkIndex", "(II)V"⟩
abbrev cJ0_checkBoundsOffCount_cabcc : ByteArray := prog_14_method_157_code
def yJ0_checkBoundsOffCount_cabcc : MethodName := ⟨RJ0, "checkBoundsOffCount", "(III)I"⟩
abbrev cJ0_checkBoundsBeginEnd_23922 : ByteArray := prog_14_method_158_code
def yJ0_checkBoundsBeginEnd_23922 : MethodName := ⟨RJ0, "checkBoundsBeginEnd", "(III)V"⟩
def RJ4 : String := "java/lang/StringBuilder"
def TJ4 : u_T := fun k => match k with
  | 0 => ("java/lang/AbstractStringBuilder", "value", "[B", false)
  | 1 => ("java/lang/AbstractStringBuilder", "coder", "B", false)
  | 2 => ("java/lang/AbstractStringBuilder", "maybeLatin1", "Z", false)
  | _ => ("java/lang/AbstractStringBuilder", "count", "I", false)
def tyJ4 : Nat → FieldType := fun k => match k with
  | 0 => .array .byte
  | 1 => .byte
  | 2 => .boolean
  | _ => .int
theorem nmJ4 : ∀ a, a < 4 → ∀ b, b < 4 → a ≠ b → (TJ4 a).2.1 ≠ (TJ4 b).2.1 := by decide +kernel
theorem tyJ4_ok : ∀ k, k < 4 → parseFieldDescriptor (TJ4 k).2.2.1 = some (tyJ4 k) := by decide +kernel
abbrev cJ4_init_da8c8 : ByteArray := prog_15_method_1_code
def yJ4_init_da8c8 : MethodName := ⟨RJ4, "<init>", "()V"⟩
abbrev cJ4_append_cf468 : ByteArray := prog_15_method_14_code
def yJ4_append_cf468 : MethodName := ⟨RJ4, "append", "(C)Ljava/lang/StringBuilder;"⟩
abbrev cJ4_toString_0e30d : ByteArray := prog_15_method_42_code
def yJ4_toString_0e30d : MethodName := ⟨RJ4, "toString", "()Ljava/lang/String;"⟩
abbrev cJ4_setLength_d00df : ByteArray := prog_15_method_89_code
def yJ4_setLength_d00df : MethodName := ⟨RJ4, "setLength", "(I)V"⟩
abbrev cJ4_length_8abf5 : ByteArray := prog_15_method_93_code
def yJ4_length_8abf5 : MethodName := ⟨RJ4, "length", "()I"⟩
def RJ1 : String := "java/lang/StringLatin1"
def TJ1 : u_T := fun k => match k with
  | _ => ("", "", "", false)
def tyJ1 : Nat → FieldType := fun k => match k with
  | _ => .int
theorem nmJ1 : ∀ a, a < 0 → ∀ b, b < 0 → a ≠ b → (TJ1 a).2.1 ≠ (TJ1 b).2.1 := by decide +kernel
theorem tyJ1_ok : ∀ k, k < 0 → parseFieldDescriptor (TJ1 k).2.2.1 = some (tyJ1 k) := by decide +kernel
abbrev cJ1_charAt_3b067 : ByteArray := prog_16_method_2_code
def yJ1_charAt_3b067 : MethodName := ⟨RJ1, "charAt", "([BI)C"⟩
abbrev cJ1_canEncode_fc78d : ByteArray := prog_16_method_3_code
def yJ1_canEncode_fc78d : MethodName := ⟨RJ1, "canEncode", "(C)Z"⟩
abbrev cJ1_canEncode_9a6ad : ByteArray := prog_16_method_4_code
def yJ1_canEncode_9a6ad : MethodName := ⟨RJ1, "canEncode", "(I)Z"⟩
abbrev cJ1_equals_b5fdf : ByteArray := prog_16_method_13_code
def yJ1_equals_b5fdf : MethodName := ⟨RJ1, "equals", "([B[B)Z"⟩
abbrev cJ1_indexOf_4cfef : ByteArray := prog_16_method_22_code
def yJ1_indexOf_4cfef : MethodName := ⟨RJ1, "indexOf", "([BIII)I"⟩
abbrev cJ1_indexOfChar_4cfef : ByteArray := prog_16_method_23_code
def yJ1_indexOfChar_4cfef : MethodName := ⟨RJ1, "indexOfChar", "([BIII)I"⟩
abbrev cJ1_newString_b4f7a : ByteArray := prog_16_method_47_code
def yJ1_newString_b4f7a : MethodName := ⟨RJ1, "newString", "([BII)Ljava/lang/String;"⟩
abbrev cJ1_fillNull_b72d1 : ByteArray := prog_16_method_48_code
def yJ1_fillNull_b72d1 : MethodName := ⟨RJ1, "fillNull", "([BII)V"⟩
abbrev cJ1_inflate_0e8fd : ByteArray := prog_16_method_50_code
def yJ1_inflate_0e8fd : MethodName := ⟨RJ1, "inflate", "([BI[BII)V"⟩
def RJ2 : String := "java/lang/StringUTF16"
def TJ2 : u_T := fun k => match k with
  | _ => ("", "", "", false)
def tyJ2 : Nat → FieldType := fun k => match k with
  | _ => .int
theorem nmJ2 : ∀ a, a < 0 → ∀ b, b < 0 → a ≠ b → (TJ2 a).2.1 ≠ (TJ2 b).2.1 := by decide +kernel
theorem tyJ2_ok : ∀ k, k < 0 → parseFieldDescriptor (TJ2 k).2.2.1 = some (tyJ2 k) := by decide +kernel
abbrev cJ2_newBytesFor_77867 : ByteArray := prog_17_method_2_code
def yJ2_newBytesFor_77867 : MethodName := ⟨RJ2, "newBytesFor", "(I)[B"⟩
abbrev cJ2_newBytesLength_0f7a4 : ByteArray := prog_17_method_3_code
def yJ2_newBytesLength_0f7a4 : MethodName := ⟨RJ2, "newBytesLength", "(I)I"⟩
abbrev cJ2_putChar_b72d1 : ByteArray := prog_17_method_4_code
def yJ2_putChar_b72d1 : MethodName := ⟨RJ2, "putChar", "([BII)V"⟩
abbrev cJ2_getChar_3b067 : ByteArray := prog_17_method_5_code
def yJ2_getChar_3b067 : MethodName := ⟨RJ2, "getChar", "([BI)C"⟩
abbrev cJ2_length_9d52b : ByteArray := prog_17_method_6_code
def yJ2_length_9d52b : MethodName := ⟨RJ2, "length", "([B)I"⟩
abbrev cJ2_coderFromArrayLen_85cad : ByteArray := prog_17_method_15_code
def yJ2_coderFromArrayLen_85cad : MethodName := ⟨RJ2, "coderFromArrayLen", "([BI)B"⟩
abbrev cJ2_compress_39247 : ByteArray := prog_17_method_17_code
def yJ2_compress_39247 : MethodName := ⟨RJ2, "compress", "([BII)[B"⟩
abbrev cJ2_compress_5af95 : ByteArray := prog_17_method_22_code
def yJ2_compress_5af95 : MethodName := ⟨RJ2, "compress", "([BI[BII)I"⟩
abbrev cJ2_indexOf_4cfef : ByteArray := prog_17_method_40_code
def yJ2_indexOf_4cfef : MethodName := ⟨RJ2, "indexOf", "([BIII)I"⟩
abbrev cJ2_indexOfChar_4cfef : ByteArray := prog_17_method_47_code
def yJ2_indexOfChar_4cfef : MethodName := ⟨RJ2, "indexOfChar", "([BIII)I"⟩
abbrev cJ2_indexOfCharUnsafe_4cfef : ByteArray := prog_17_method_48_code
def yJ2_indexOfCharUnsafe_4cfef : MethodName := ⟨RJ2, "indexOfCharUnsafe", "([BIII)I"⟩
abbrev cJ2_indexOfSupplementary_4cfef : ByteArray := prog_17_method_49_code
def yJ2_indexOfSupplementary_4cfef : MethodName := ⟨RJ2, "indexOfSupplementary", "([BIII)I"⟩
abbrev cJ2_newString_b4f7a : ByteArray := prog_17_method_69_code
def yJ2_newString_b4f7a : MethodName := ⟨RJ2, "newString", "([BII)Ljava/lang/String;"⟩
abbrev cJ2_fillNull_b72d1 : ByteArray := prog_17_method_70_code
def yJ2_fillNull_b72d1 : MethodName := ⟨RJ2, "fillNull", "([BII)V"⟩
abbrev cJ2_putCharSB_b72d1 : ByteArray := prog_17_method_71_code
def yJ2_putCharSB_b72d1 : MethodName := ⟨RJ2, "putCharSB", "([BII)V"⟩
abbrev cJ2_charAt_3b067 : ByteArray := prog_17_method_83_code
def yJ2_charAt_3b067 : MethodName := ⟨RJ2, "charAt", "([BI)C"⟩
abbrev cJ2_inflate_0e8fd : ByteArray := prog_17_method_86_code
def yJ2_inflate_0e8fd : MethodName := ⟨RJ2, "inflate", "([BI[BII)V"⟩
abbrev cJ2_checkIndex_2214a : ByteArray := prog_17_method_91_code
def yJ2_checkIndex_2214a : MethodName := ⟨RJ2, "checkIndex", "(I[B)V"⟩
abbrev cJ2_checkBoundsBeginEnd_d044e : ByteArray := prog_17_method_93_code
def yJ2_checkBoundsBeginEnd_d044e : MethodName := ⟨RJ2, "checkBoundsBeginEnd", "(II[B)V"⟩
abbrev cJ2_checkBoundsOffCount_d044e : ByteArray := prog_17_method_94_code
def yJ2_checkBoundsOffCount_d044e : MethodName := ⟨RJ2, "checkBoundsOffCount", "(II[B)V"⟩
def RJ10 : String := "java/lang/System"
def TJ10 : u_T := fun k => match k with
  | _ => ("", "", "", false)
def tyJ10 : Nat → FieldType := fun k => match k with
  | _ => .int
theorem nmJ10 : ∀ a, a < 0 → ∀ b, b < 0 → a ≠ b → (TJ10 a).2.1 ≠ (TJ10 b).2.1 := by decide +kernel
theorem tyJ10_ok : ∀ k, k < 0 → parseFieldDescriptor (TJ10 k).2.2.1 = some (tyJ10 k) := by decide +kernel
def RJ7 : String := "java/util/Arrays"
def TJ7 : u_T := fun k => match k with
  | _ => ("", "", "", false)
def tyJ7 : Nat → FieldType := fun k => match k with
  | _ => .int
theorem nmJ7 : ∀ a, a < 0 → ∀ b, b < 0 → a ≠ b → (TJ7 a).2.1 ≠ (TJ7 b).2.1 := by decide +kernel
theorem tyJ7_ok : ∀ k, k < 0 → parseFieldDescriptor (TJ7 k).2.2.1 = some (tyJ7 k) := by decide +kernel
abbrev cJ7_rangeCheck_23922 : ByteArray := prog_19_method_30_code
def yJ7_rangeCheck_23922 : MethodName := ⟨RJ7, "rangeCheck", "(III)V"⟩
abbrev cJ7_fill_eb02e : ByteArray := prog_19_method_110_code
def yJ7_fill_eb02e : MethodName := ⟨RJ7, "fill", "([BIIB)V"⟩
abbrev cJ7_copyOf_9075b : ByteArray := prog_19_method_121_code
def yJ7_copyOf_9075b : MethodName := ⟨RJ7, "copyOf", "([BI)[B"⟩
abbrev cJ7_checkLength_df160 : ByteArray := prog_19_method_131_code
def yJ7_checkLength_df160 : MethodName := ⟨RJ7, "checkLength", "(II)V"⟩
abbrev cJ7_copyOfRange_39247 : ByteArray := prog_19_method_132_code
def yJ7_copyOfRange_39247 : MethodName := ⟨RJ7, "copyOfRange", "([BII)[B"⟩
abbrev cJ7_copyOfRangeByte_39247 : ByteArray := prog_19_method_133_code
def yJ7_copyOfRangeByte_39247 : MethodName := ⟨RJ7, "copyOfRangeByte", "([BII)[B"⟩
def RJ8 : String := "jdk/internal/util/ArraysSupport"
def TJ8 : u_T := fun k => match k with
  | _ => ("", "", "", false)
def tyJ8 : Nat → FieldType := fun k => match k with
  | _ => .int
theorem nmJ8 : ∀ a, a < 0 → ∀ b, b < 0 → a ≠ b → (TJ8 a).2.1 ≠ (TJ8 b).2.1 := by decide +kernel
theorem tyJ8_ok : ∀ k, k < 0 → parseFieldDescriptor (TJ8 k).2.2.1 = some (tyJ8 k) := by decide +kernel
abbrev cJ8_newLength_cabcc : ByteArray := prog_20_method_27_code
def yJ8_newLength_cabcc : MethodName := ⟨RJ8, "newLength", "(III)I"⟩
abbrev cJ8_hugeLength_7cf53 : ByteArray := prog_20_method_28_code
def yJ8_hugeLength_7cf53 : MethodName := ⟨RJ8, "hugeLength", "(II)I"⟩
def RJ3 : String := "jdk/internal/util/Preconditions"
def TJ3 : u_T := fun k => match k with
  | _ => ("", "", "", false)
def tyJ3 : Nat → FieldType := fun k => match k with
  | _ => .int
theorem nmJ3 : ∀ a, a < 0 → ∀ b, b < 0 → a ≠ b → (TJ3 a).2.1 ≠ (TJ3 b).2.1 := by decide +kernel
theorem tyJ3_ok : ∀ k, k < 0 → parseFieldDescriptor (TJ3 k).2.2.1 = some (tyJ3 k) := by decide +kernel
abbrev cJ3_checkIndex_8e157 : ByteArray := prog_21_method_11_code
def yJ3_checkIndex_8e157 : MethodName := ⟨RJ3, "checkIndex", "(IILjava/util/function/BiFunction;)I"⟩
abbrev cJ3_checkFromToIndex_8c36e : ByteArray := prog_21_method_12_code
def yJ3_checkFromToIndex_8c36e : MethodName := ⟨RJ3, "checkFromToIndex", "(IIILjava/util/function/BiFunction;)I"⟩
abbrev cJ3_checkFromIndexSize_8c36e : ByteArray := prog_21_method_13_code
def yJ3_checkFromIndexSize_8c36e : MethodName := ⟨RJ3, "checkFromIndexSize", "(IIILjava/util/function/BiFunction;)I"⟩
def RL : String := "AdaptivePlayerLaw"
abbrev cL_law : ByteArray := code
def yL_law : MethodName := ⟨RL, "law", "([I)Z"⟩
abbrev vwCl : List vw_C := [(RJ0, TJ0, 4), (RJ4, TJ4, 4), (RX0, TX0, 3), (RX1, TX1, 5), (RX2, TX2, 18), (RX3, TX3, 5), (RX4, TX4, 2), (RX5, TX5, 5), (RX6, TX6, 8), (RX7, TX7, 20)]
end
section
/-! ===== one list of words for every method; one bundle for what stays, one for the world; rows over them ===== -/
def gT : List Cond := lw_tbl.filter goodWord
theorem gT_in {w : Cond} (h : w ∈ lw_tbl) (g : goodWord w = true) : w ∈ gT := List.mem_filter.mpr ⟨h, g⟩
theorem gT_tbl {w : Cond} (h : w ∈ gT) : w ∈ lw_tbl := (List.mem_filter.mp h).1
theorem gT_good {w : Cond} (h : w ∈ gT) : goodWord w = true := (List.mem_filter.mp h).2
def wU (y : MethodName) (cc : ByteArray) (n : Nat) (r : Option FieldType) : List Cond := Cond.code y cc n r :: gT
theorem wU_good {y : MethodName} {cc : ByteArray} {n : Nat} {r : Option FieldType} (h : Cond.code y cc n r ∈ gT) : GoodIn gT (wU y cc n r) := fun w hw => by
  rcases List.mem_cons.mp hw with rfl | hw
  · exact ⟨h, good_of_word (gT_good h)⟩
  · exact ⟨hw, good_of_word (gT_good hw)⟩
theorem fm_of_map {α β : Type} {f : α → Option β} : ∀ {is : List α} {w : List β}, is.map f = w.map some → is.filterMap f = w
  | [], [], _ => rfl
  | [], b :: w, h => by simp at h
  | a :: is, [], h => by simp at h
  | a :: is, b :: w, h => by
    simp only [List.map_cons, List.cons.injEq] at h
    simp only [List.filterMap_cons, h.1]
    rw [fm_of_map h.2]
abbrev tyL (cI cB : ClassId) : List (ClassId × FieldType) := [(cI, .int), (cB, .byte)]
def EE (p : Program) (c : Code) (cc : ByteArray) (nL : Nat) (s : State) (args : Array Value) (m : MethodId) (own : String) (D : va_G) (cI cB : ClassId) : Prop :=
  CallFix p m c cc nL s args gT own ∧ va_K D vwCl (tyL cI cB) s
def WD (D : va_G) (A : Nat → Prop) (H0 H : Heap) (locs : List Loc) (w : va_W) : Prop := va_P D vwCl w H ∧ va_D A w ∧ va_S A H0 H locs
def LV (own : String) (index : Nat) (C : String) (y : MethodName) (cc : ByteArray) (n : Nat) (r : Option FieldType) (k : Nat) : Prop :=
  Cond.methodLink own index y ∈ gT ∧ Cond.instanceMethod y ∈ gT ∧ Cond.selects C y y ∈ gT ∧ Cond.initialized C ∈ gT ∧ Cond.code y cc n r ∈ gT ∧ (y.cls = C ∧ y.cls ≠ "java/lang/invoke/MethodHandle" ∧ y.cls ≠ "java/lang/invoke/VarHandle" ∧ (parseMethodDescriptor y.desc).map (fun d => d.parameters.length) = some k)
def LSt (own : String) (index : Nat) (y : MethodName) (cc : ByteArray) (n : Nat) (r : Option FieldType) (k : Nat) : Prop :=
  Cond.methodLink own index y ∈ gT ∧ Cond.static y ∈ gT ∧ Cond.initialized y.cls ∈ gT ∧ Cond.code y cc n r ∈ gT ∧ (y.cls ≠ "java/lang/invoke/MethodHandle" ∧ y.cls ≠ "java/lang/invoke/VarHandle" ∧ (parseMethodDescriptor y.desc).map (fun d => d.parameters.length) = some k)
def LI (own : String) (index : Nat) (y : MethodName) (cc : ByteArray) (n : Nat) (k : Nat) : Prop :=
  Cond.methodLink own index y ∈ gT ∧ Cond.instanceMethod y ∈ gT ∧ Cond.initialized y.cls ∈ gT ∧ Cond.code y cc n none ∈ gT ∧ y.name = "<init>" ∧ (y.cls ≠ "java/lang/invoke/MethodHandle" ∧ y.cls ≠ "java/lang/invoke/VarHandle" ∧ (parseMethodDescriptor y.desc).map (fun d => d.parameters.length) = some k)
/-- the contracts: X is what is wanted of the start beside the world (constants that lie outside it) -/
def PC (X : Nat → State → Prop) (D : va_G) (cI cB : ClassId) (as : List Value) (w0 : va_W) (sz : Nat) : Array Value → State → Prop :=
  va_Pc as (fun U => U.heap.size = sz ∧ va_P D vwCl w0 U.heap ∧ va_K D vwCl (tyL cI cB) U ∧ va_D (fun _ => True) w0 ∧ X sz U)
def AT {S : Type} (D : va_G) (cI cB : ClassId) (A : Nat → Prop) (w1 : S → va_W) : S → State → Prop := fun u t => va_P D vwCl (w1 u) t.heap ∧ va_K D vwCl (tyL cI cB) t ∧ va_D A (w1 u)
def AR {S : Type} (D : va_G) (cI cB : ClassId) (A : Nat → Prop) (w1 : S → Nat → va_W) : S → Nat → State → Prop := fun u a t => va_P D vwCl (w1 u a) t.heap ∧ va_K D vwCl (tyL cI cB) t ∧ va_D A (w1 u a)
def CI {S : Type} (l : Launch) (X : Nat → State → Prop) (D : va_G) (cI cB : ClassId) (y : MethodName) (cc : ByteArray) (n : Nat) (r : Option FieldType) (fr lo mc ms : Nat) (as : List Value) (w0 : va_W) (post : Int32 → S → Prop) (w1 : S → va_W) : Prop :=
  ∀ sz : Nat, Met l y (wU y cc n r) { frames := fr, cells := mc, slots := ms, locals := lo } (PC X D cI cB as w0 sz) (va_Qi post (AT D cI cB (va_A w0 sz) w1) (va_A w0 sz)) mc ms (va_A w0 sz)
def CV {S : Type} (l : Launch) (X : Nat → State → Prop) (D : va_G) (cI cB : ClassId) (y : MethodName) (cc : ByteArray) (n : Nat) (fr lo mc ms : Nat) (as : List Value) (w0 : va_W) (post : S → Prop) (w1 : S → va_W) : Prop :=
  ∀ sz : Nat, Met l y (wU y cc n none) { frames := fr, cells := mc, slots := ms, locals := lo } (PC X D cI cB as w0 sz) (va_Qv post (AT D cI cB (va_A w0 sz) w1) (va_A w0 sz)) mc ms (va_A w0 sz)
def CR {S : Type} (l : Launch) (X : Nat → State → Prop) (D : va_G) (cI cB : ClassId) (y : MethodName) (cc : ByteArray) (n : Nat) (r : Option FieldType) (fr lo mc ms : Nat) (as : List Value) (w0 : va_W) (post : S → Prop) (w1 : S → Nat → va_W) : Prop :=
  ∀ sz : Nat, Met l y (wU y cc n r) { frames := fr, cells := mc, slots := ms, locals := lo } (PC X D cI cB as w0 sz) (va_Qr post (AR D cI cB (va_A w0 sz) w1) (va_A w0 sz)) mc ms (va_A w0 sz)
abbrev X0 : Nat → State → Prop := fun _ _ => True
def Xb (X : Nat → State → Prop) : Prop := ∀ (sz : Nat) (U : State) (g : JFrame) (mk : MethodId) (a : Array Value), X sz U → X sz (U.calling g mk a)
theorem X0b : Xb X0 := fun _ _ _ _ _ _ => trivial
theorem PC_blind {X : Nat → State → Prop} (hX : Xb X) {D : va_G} {cI cB : ClassId} {as : List Value} {w0 : va_W} {sz : Nat} : FrameBlind (PC X D cI cB as w0 sz) := fun a U g mk q => by
  obtain ⟨q0, q1, qP, qK, qD, qX⟩ := q
  exact ⟨q0, q1, qP, va_K.moved (u := U) (U := U.calling g mk a) (Vm.Alike.refl U.vm) qK, qD, hX _ _ _ _ _ qX⟩
section ROWS
variable {p : Program} {l : Launch} {e : Env} {R : Room} {s : State} {m : MethodId} {args : Array Value} {below : List Frame} {meth : Method} {c : Code} {H : Heap} {locs : List Loc} {cells slots : Nat} {Q : State → Prop}
variable {cc : ByteArray} {pc nL : Nat} {ls : Array Slot} {rest : List Value} {D : va_G} {A : Nat → Prop} {a : Nat} {cI cB : ClassId} {w : va_W} {H0 : Heap} {own : String}
theorem r_get (E : EE p c cc nL s args m own D cI cB) (X : WD D A H0 H locs w) {ref C : String} {T : u_T} {N ci index : Nat} (k : Nat) (hin : ∀ w ∈ u_ws C T N, w ∈ gT) (hc : vwCl[ci]? = some (C, T, N)) (hk : k < N) (hl : Cond.fieldLink own index ref (T k).2.1 (T k).2.2.1 ∈ gT) (href : (T k).1 = ref) (q0 : Nat) {fs : List Value} {v : Value} (he : w[q0]? = some (a, .inr (ci, fs))) (hv : fs[k]? = some v) (hd : decode cc pc = .ok (.getfield index, 3))
    (kk : W p l e R s m args below meth c H locs cells slots Q (F0 m (pc + 3) ls (v :: rest))) : W p l e R s m args below meth c H locs cells slots Q (F0 m pc ls (.ref a :: rest)) :=
  va_get (C := C) (T := T) (N := N) (ref := ref) (index := index) E.1.1 E.1.2.1 E.1.2.2.2.2 hin E.1.2.2.2.1 E.2 X.1 q0 he hc k hk (E.1.2.2.2.2 _ hl) (fun x h => by rw [← href]; exact h) hv hd kk
theorem r_put (E : EE p c cc nL s args m own D cI cB) (X : WD D A H0 H locs w) {ref C : String} {T : u_T} {ty0 : Nat → FieldType} {N ci index : Nat} (k : Nat) (hin : ∀ w ∈ u_ws C T N, w ∈ gT) (hty : ∀ k, k < N → parseFieldDescriptor (T k).2.2.1 = some (ty0 k)) (hnm : ∀ a, a < N → ∀ b, b < N → a ≠ b → (T a).2.1 ≠ (T b).2.1) (hc : vwCl[ci]? = some (C, T, N)) (hk : k < N) (hl : Cond.fieldLink own index ref (T k).2.1 (T k).2.2.1 ∈ gT) (href : (T k).1 = ref) (hfin : (T k).2.2.2 = false)
    (q0 : Nat) {fs : List Value} {v : Value} {w' : va_W} (he : w[q0]? = some (a, .inr (ci, fs))) (hn : narrow (ty0 k) v = v) (hf : fits (ty0 k) v = true) (hlen : k < fs.length) (hw : w.set q0 (a, .inr (ci, fs.set k v)) = w') (hd : decode cc pc = .ok (.putfield index, 3))
    (kk : ∀ (H1 : Heap) (locs1 : List Loc), WD D A H0 H1 locs1 w' → W p l e R s m args below meth c H1 locs1 cells slots Q (F0 m (pc + 3) ls rest)) : W p l e R s m args below meth c H locs cells slots Q (F0 m pc ls (v :: .ref a :: rest)) := by
  subst hw
  exact va_put (C := C) (T := T) (N := N) (ref := ref) (index := index) (ty := ty0 k) E.1.1 E.1.2.1 E.1.2.2.2.2 hin ty0 hty hnm E.1.2.2.2.1 E.2 X.1 X.2.1 X.2.2 q0 he hc k hk (E.1.2.2.2.2 _ hl) (fun x h => by rw [← href]; exact h) hfin (hty k hk) hn hf hlen hd (fun H1 locs1 h1 h2 h3 => kk H1 locs1 ⟨h1, h2, h3⟩)
theorem r_putF (E : EE p c cc nL s args m own D cI cB) (X : WD D A H0 H locs w) {ref C : String} {T : u_T} {ty0 : Nat → FieldType} {N ci index : Nat} (k : Nat) (hin : ∀ w ∈ u_ws C T N, w ∈ gT) (hty : ∀ k, k < N → parseFieldDescriptor (T k).2.2.1 = some (ty0 k)) (hnm : ∀ a, a < N → ∀ b, b < N → a ≠ b → (T a).2.1 ≠ (T b).2.1) (hc : vwCl[ci]? = some (C, T, N)) (hk : k < N) (hl : Cond.fieldLink own index ref (T k).2.1 (T k).2.2.1 ∈ gT) (href : (T k).1 = ref) (hfin : (T k).2.2.2 = true) (hin2 : meth.name = "<init>") (hdecl : (T k).1 = own)
    (q0 : Nat) {fs : List Value} {v : Value} {w' : va_W} (he : w[q0]? = some (a, .inr (ci, fs))) (hn : narrow (ty0 k) v = v) (hf : fits (ty0 k) v = true) (hlen : k < fs.length) (hw : w.set q0 (a, .inr (ci, fs.set k v)) = w') (hd : decode cc pc = .ok (.putfield index, 3))
    (kk : ∀ (H1 : Heap) (locs1 : List Loc), WD D A H0 H1 locs1 w' → W p l e R s m args below meth c H1 locs1 cells slots Q (F0 m (pc + 3) ls rest)) : W p l e R s m args below meth c H locs cells slots Q (F0 m pc ls (v :: .ref a :: rest)) := by
  subst hw
  exact va_putF (C := C) (T := T) (N := N) (ref := ref) (index := index) (ty := ty0 k) E.1.1 E.1.2.1 E.1.2.2.2.2 hin ty0 hty hnm E.1.2.2.2.1 E.2 X.1 X.2.1 X.2.2 q0 he hc k hk (E.1.2.2.2.2 _ hl) (fun x h => by rw [← href]; exact h) hfin hin2 hdecl (hty k hk) hn hf hlen hd (fun H1 locs1 h1 h2 h3 => kk H1 locs1 ⟨h1, h2, h3⟩)
theorem r_iald (E : EE p c cc nL s args m own D cI cB) (X : WD D A H0 H locs w) (q0 : Nat) {n : Nat} {f : Nat → Int32} (he : w[q0]? = some (a, .inl (cI, n, .inl f))) {i : Int32} (hin : vp_in i n) (hd : decode cc pc = .ok (.iaload, 1))
    (kk : W p l e R s m args below meth c H locs cells slots Q (F0 m (pc + 1) ls (.int (f i.toNatClampNeg) :: rest))) : W p l e R s m args below meth c H locs cells slots Q (F0 m pc ls (.int i :: .ref a :: rest)) :=
  va_iald E.1.1 E.1.2.1 E.2 X.1 q0 0 he rfl hin hd kk
theorem r_bald (E : EE p c cc nL s args m own D cI cB) (X : WD D A H0 H locs w) (q0 : Nat) {n : Nat} {f : Nat → Int32} (he : w[q0]? = some (a, .inl (cB, n, .inl f))) {i : Int32} (hin : vp_in i n) (hd : decode cc pc = .ok (.baload, 1))
    (kk : W p l e R s m args below meth c H locs cells slots Q (F0 m (pc + 1) ls (.int (f i.toNatClampNeg) :: rest))) : W p l e R s m args below meth c H locs cells slots Q (F0 m pc ls (.int i :: .ref a :: rest)) :=
  va_bald E.1.1 E.1.2.1 E.2 X.1 q0 1 he rfl hin hd kk
theorem r_iast (E : EE p c cc nL s args m own D cI cB) (X : WD D A H0 H locs w) (q0 : Nat) {n : Nat} {f : Nat → Int32} {w' : va_W} (he : w[q0]? = some (a, .inl (cI, n, .inl f))) {i x : Int32} (hin : vp_in i n) (hw : w.set q0 (a, .inl (cI, n, .inl (upd f i.toNatClampNeg x))) = w') (hd : decode cc pc = .ok (.iastore, 1))
    (kk : ∀ (H1 : Heap) (locs1 : List Loc), WD D A H0 H1 locs1 w' → W p l e R s m args below meth c H1 locs1 cells slots Q (F0 m (pc + 1) ls rest)) : W p l e R s m args below meth c H locs cells slots Q (F0 m pc ls (.int x :: .int i :: .ref a :: rest)) := by
  subst hw
  exact va_iast E.1.1 E.1.2.1 E.2 X.1 X.2.1 X.2.2 q0 0 he rfl hin hd (fun H1 locs1 h1 h2 h3 => kk H1 locs1 ⟨h1, h2, h3⟩)
theorem r_bast (E : EE p c cc nL s args m own D cI cB) (X : WD D A H0 H locs w) (q0 : Nat) {n : Nat} {f : Nat → Int32} {w' : va_W} (he : w[q0]? = some (a, .inl (cB, n, .inl f))) {i x : Int32} (hin : vp_in i n) (hw : w.set q0 (a, .inl (cB, n, .inl (upd f i.toNatClampNeg (vp_nar .byte x)))) = w') (hd : decode cc pc = .ok (.bastore, 1))
    (kk : ∀ (H1 : Heap) (locs1 : List Loc), WD D A H0 H1 locs1 w' → W p l e R s m args below meth c H1 locs1 cells slots Q (F0 m (pc + 1) ls rest)) : W p l e R s m args below meth c H locs cells slots Q (F0 m pc ls (.int x :: .int i :: .ref a :: rest)) := by
  subst hw
  exact va_bast E.1.1 E.1.2.1 E.2 X.1 X.2.1 X.2.2 q0 1 he rfl hin hd (fun H1 locs1 h1 h2 h3 => kk H1 locs1 ⟨h1, h2, h3⟩)
theorem r_alenI (E : EE p c cc nL s args m own D cI cB) (X : WD D A H0 H locs w) (q0 : Nat) {n : Nat} {f : Nat → Int32} (he : w[q0]? = some (a, .inl (cI, n, .inl f))) {v : Int32} (hv : Int32.ofNat n = v) (hd : decode cc pc = .ok (.arraylength, 1))
    (kk : W p l e R s m args below meth c H locs cells slots Q (F0 m (pc + 1) ls (.int v :: rest))) : W p l e R s m args below meth c H locs cells slots Q (F0 m pc ls (.ref a :: rest)) :=
  va_alen E.1.1 E.1.2.1 E.2 X.1 q0 0 he rfl hv hd kk
theorem r_alenB (E : EE p c cc nL s args m own D cI cB) (X : WD D A H0 H locs w) (q0 : Nat) {n : Nat} {f : Nat → Int32} (he : w[q0]? = some (a, .inl (cB, n, .inl f))) {v : Int32} (hv : Int32.ofNat n = v) (hd : decode cc pc = .ok (.arraylength, 1))
    (kk : W p l e R s m args below meth c H locs cells slots Q (F0 m (pc + 1) ls (.int v :: rest))) : W p l e R s m args below meth c H locs cells slots Q (F0 m pc ls (.ref a :: rest)) :=
  va_alen E.1.1 E.1.2.1 E.2 X.1 q0 1 he rfl hv hd kk
/-- behind a call: the callee's cells in their places again -/
theorem w_join {w0 wr w1 w2 : va_W} {H1 : Heap} {locs1 : List Loc} (X : WD D A H0 H locs w) (hA : ∀ q, H0.size ≤ q → A q) (isC isR ps : List Nat) (hC : isC.map (fun i => w[i]?) = w0.map some) (hR : isR.map (fun i => w[i]?) = wr.map some) (hn : va_nd isR = true) (hdis : ∀ i ∈ isR, i ∉ isC) (hps : va_nd ps = true) (h2 : ps.map (fun i => (wr ++ w1)[i]?) = w2.map some)
    (hk1 : ∀ q : Nat, q < H.size → ¬ va_A w0 H.size q → H1[q]? = H[q]?) (hP1 : va_P D vwCl w1 H1) (hD1 : va_D (va_A w0 H.size) w1) (hS1 : va_S A H0 H1 locs1) : WD D A H0 H1 locs1 w2 := by
  obtain ⟨hP2, hD2⟩ := va_join (wr := wr) (w1 := w1) X.1 X.2.1 isC isR hC hR hn hdis hk1 (va_free (wc := w0) X.2.1 X.2.2 hA isC hC) hP1 hD1
  exact ⟨hP2.sub ps (fm_of_map h2), hD2.sub ps hps h2, hS1⟩
theorem pre_of {X : Nat → State → Prop} {w0 : va_W} (E : EE p c cc nL s args m own D cI cB) (Y : WD D A H0 H locs w) (isC : List Nat) (hC : isC.map (fun i => w[i]?) = w0.map some) (hnC : va_nd isC = true) (hX : ∀ U : State, U.heap = H → s.WarmedH U.vm → X H.size U) {as : List Value} : ∀ U : State, U.heap = H → s.WarmedH U.vm → PC X D cI cB as w0 H.size as.toArray U := fun U hU hW =>
  ⟨rfl, by rw [hU], by rw [hU]; exact Y.1.sub isC (fm_of_map hC), va_K.moved hW.alike E.2, (Y.2.1.sub isC hnC hC).weaken (fun _ _ _ _ => trivial), hX U hU hW⟩
section CALLS
variable {S : Type} {X : Nat → State → Prop} {y : MethodName} {cy : ByteArray} {ny k index : Nat} {ry : Option FieldType} {fr lo mc ms : Nat} {As : List Value} {b : Nat} {w0 wr : va_W} {C : String}
theorem r_Vi {post : Int32 → S → Prop} {w1 : S → va_W} {w2 : S → va_W} (E : EE p c cc nL s args m own D cI cB) (Y : WD D A H0 H locs w) (hA : ∀ q, H0.size ≤ q → A q) (hl : ls.size = nL) (M : CI l X D cI cB y cy ny ry fr lo mc ms (.ref b :: As) w0 post w1) (L : LV own index C y cy ny ry k) (hXb : Xb X) (hX : ∀ U : State, U.heap = H → s.WarmedH U.vm → X H.size U) (isC isR ps : List Nat) (hC : isC.map (fun i => w[i]?) = w0.map some) (hR : isR.map (fun i => w[i]?) = wr.map some) (hnd : va_nd isC = true ∧ va_nd isR = true ∧ va_nd ps = true ∧ ∀ i ∈ isR, i ∉ isC) (h2 : ∀ u, ps.map (fun i => (wr ++ w1 u)[i]?) = (w2 u).map some)
    (qr : Nat) {fs : List Value} {ci : Nat} {T : u_T} {N : Nat} (hrc : vwCl[ci]? = some (C, T, N)) (hre : w[qr]? = some (b, .inr (ci, fs))) (hR' : fr + 1 ≤ R.frames ∧ 8 + (ny + 11) + lo ≤ R.locals) (hroom : cells + mc ≤ R.cells ∧ slots + ms ≤ R.slots) (hn : As.length = k) {st : List Value} (hst : st = As.reverse ++ .ref b :: rest) (hcat : (rest.map fun v => v.category).sum ≤ 8) (hd : decode cc pc = .ok (.invokevirtual index, 3))
    (kk : ∀ (r : Int32) (u : S) (H1 : Heap) (locs1 : List Loc), post r u → WD D A H0 H1 locs1 (w2 u) → W p l e R s m args below meth c H1 locs1 (cells + mc) (slots + ms) Q (F0 m (pc + 3) ls (.int r :: rest))) : W p l e R s m args below meth c H locs cells slots Q (F0 m pc ls st) := by
  subst hst
  obtain ⟨g1, g2, g3, g4, g5, g6⟩ := L
  have hT : GoodIn gT (wsV own index C y (wU y cy ny ry)) := fun v hv => by
    rcases List.mem_append.mp hv with h | h
    · have hm : v ∈ gT := by
        simp only [List.mem_cons, List.not_mem_nil, or_false] at h
        rcases h with rfl | rfl | rfl | rfl <;> assumption
      exact ⟨hm, good_of_word (gT_good hm)⟩
    · exact wU_good g5 v h
  have hF := va_free (wc := w0) Y.2.1 Y.2.2 hA isC hC
  refine va_calli (va_runV (As := As) (rest := rest) E.1 (M H.size) (cwV k E.1.2.2.2.2 hT rfl rfl rfl g6 hR') ⟨PC_blind hXb, va_recv E.2 Y.1 hrc hre, pre_of E Y isC hC hnd.1 hX⟩ rfl hn hl rfl (lv_room hcat) hd hroom) Y.2.2 (fun q _ h => hF q h) hF (fun r u t H1 locs1 ht hvm hw hB hz1 hk1 hS => ?_)
  obtain ⟨hP1, hK1, hD1⟩ := hB
  rw [ht] at hP1
  exact kk r u H1 locs1 hw (w_join Y hA isC isR ps hC hR hnd.2.1 hnd.2.2.2 hnd.2.2.1 (h2 u) hk1 hP1 hD1 hS)
theorem r_Vv {post : S → Prop} {w1 : S → va_W} {w2 : S → va_W} (E : EE p c cc nL s args m own D cI cB) (Y : WD D A H0 H locs w) (hA : ∀ q, H0.size ≤ q → A q) (hl : ls.size = nL) (M : CV l X D cI cB y cy ny fr lo mc ms (.ref b :: As) w0 post w1) (L : LV own index C y cy ny none k) (hXb : Xb X) (hX : ∀ U : State, U.heap = H → s.WarmedH U.vm → X H.size U) (isC isR ps : List Nat) (hC : isC.map (fun i => w[i]?) = w0.map some) (hR : isR.map (fun i => w[i]?) = wr.map some) (hnd : va_nd isC = true ∧ va_nd isR = true ∧ va_nd ps = true ∧ ∀ i ∈ isR, i ∉ isC) (h2 : ∀ u, ps.map (fun i => (wr ++ w1 u)[i]?) = (w2 u).map some)
    (qr : Nat) {fs : List Value} {ci : Nat} {T : u_T} {N : Nat} (hrc : vwCl[ci]? = some (C, T, N)) (hre : w[qr]? = some (b, .inr (ci, fs))) (hR' : fr + 1 ≤ R.frames ∧ 8 + (ny + 11) + lo ≤ R.locals) (hroom : cells + mc ≤ R.cells ∧ slots + ms ≤ R.slots) (hn : As.length = k) {st : List Value} (hst : st = As.reverse ++ .ref b :: rest) (hcat : (rest.map fun v => v.category).sum ≤ 8) (hd : decode cc pc = .ok (.invokevirtual index, 3))
    (kk : ∀ (u : S) (H1 : Heap) (locs1 : List Loc), post u → WD D A H0 H1 locs1 (w2 u) → W p l e R s m args below meth c H1 locs1 (cells + mc) (slots + ms) Q (F0 m (pc + 3) ls rest)) : W p l e R s m args below meth c H locs cells slots Q (F0 m pc ls st) := by
  subst hst
  obtain ⟨g1, g2, g3, g4, g5, g6⟩ := L
  have hT : GoodIn gT (wsV own index C y (wU y cy ny none)) := fun v hv => by
    rcases List.mem_append.mp hv with h | h
    · have hm : v ∈ gT := by
        simp only [List.mem_cons, List.not_mem_nil, or_false] at h
        rcases h with rfl | rfl | rfl | rfl <;> assumption
      exact ⟨hm, good_of_word (gT_good hm)⟩
    · exact wU_good g5 v h
  have hF := va_free (wc := w0) Y.2.1 Y.2.2 hA isC hC
  refine va_callv (va_runV (As := As) (rest := rest) E.1 (M H.size) (cwV k E.1.2.2.2.2 hT rfl rfl rfl g6 hR') ⟨PC_blind hXb, va_recv E.2 Y.1 hrc hre, pre_of E Y isC hC hnd.1 hX⟩ rfl hn hl rfl (lv_room hcat) hd hroom) Y.2.2 (fun q _ h => hF q h) hF (fun u t H1 locs1 ht hvm hw hB hz1 hk1 hS => ?_)
  obtain ⟨hP1, hK1, hD1⟩ := hB
  rw [ht] at hP1
  exact kk u H1 locs1 hw (w_join Y hA isC isR ps hC hR hnd.2.1 hnd.2.2.2 hnd.2.2.1 (h2 u) hk1 hP1 hD1 hS)
theorem r_Si {post : Int32 → S → Prop} {w1 : S → va_W} {w2 : S → va_W} (E : EE p c cc nL s args m own D cI cB) (Y : WD D A H0 H locs w) (hA : ∀ q, H0.size ≤ q → A q) (hl : ls.size = nL) (M : CI l X D cI cB y cy ny ry fr lo mc ms As w0 post w1) (L : LSt own index y cy ny ry k) (hXb : Xb X) (hX : ∀ U : State, U.heap = H → s.WarmedH U.vm → X H.size U) (isC isR ps : List Nat) (hC : isC.map (fun i => w[i]?) = w0.map some) (hR : isR.map (fun i => w[i]?) = wr.map some) (hnd : va_nd isC = true ∧ va_nd isR = true ∧ va_nd ps = true ∧ ∀ i ∈ isR, i ∉ isC) (h2 : ∀ u, ps.map (fun i => (wr ++ w1 u)[i]?) = (w2 u).map some)
    (hR' : fr + 1 ≤ R.frames ∧ 8 + (ny + 11) + lo ≤ R.locals) (hroom : cells + mc ≤ R.cells ∧ slots + ms ≤ R.slots) (hn : As.length = k) {st : List Value} (hst : st = As.reverse ++ rest) (hcat : (rest.map fun v => v.category).sum ≤ 8) (hd : decode cc pc = .ok (.invokestatic index, 3))
    (kk : ∀ (r : Int32) (u : S) (H1 : Heap) (locs1 : List Loc), post r u → WD D A H0 H1 locs1 (w2 u) → W p l e R s m args below meth c H1 locs1 (cells + mc) (slots + ms) Q (F0 m (pc + 3) ls (.int r :: rest))) : W p l e R s m args below meth c H locs cells slots Q (F0 m pc ls st) := by
  subst hst
  obtain ⟨g1, g2, g3, g4, g5⟩ := L
  have hF := va_free (wc := w0) Y.2.1 Y.2.2 hA isC hC
  have hts := E.1.2.2.2.2
  refine va_calli (va_runS (As := As) (rest := rest) E.1 (M H.size) ⟨callB_of k hts (wU_good g4) rfl rfl rfl (hts _ g3) (hts _ g1) g5 hR', hts _ g2⟩ ⟨PC_blind hXb, pre_of E Y isC hC hnd.1 hX⟩ rfl hn hl rfl (lv_room hcat) hd hroom) Y.2.2 (fun q _ h => hF q h) hF (fun r u t H1 locs1 ht hvm hw hB hz1 hk1 hS => ?_)
  obtain ⟨hP1, hK1, hD1⟩ := hB
  rw [ht] at hP1
  exact kk r u H1 locs1 hw (w_join Y hA isC isR ps hC hR hnd.2.1 hnd.2.2.2 hnd.2.2.1 (h2 u) hk1 hP1 hD1 hS)
theorem r_Iv {post : S → Prop} {w1 : S → va_W} {w2 : S → va_W} (E : EE p c cc nL s args m own D cI cB) (Y : WD D A H0 H locs w) (hA : ∀ q, H0.size ≤ q → A q) (hl : ls.size = nL) (M : CV l X D cI cB y cy ny fr lo mc ms (.ref b :: As) w0 post w1) (L : LI own index y cy ny k) (hXb : Xb X) (hX : ∀ U : State, U.heap = H → s.WarmedH U.vm → X H.size U) (isC isR ps : List Nat) (hC : isC.map (fun i => w[i]?) = w0.map some) (hR : isR.map (fun i => w[i]?) = wr.map some) (hnd : va_nd isC = true ∧ va_nd isR = true ∧ va_nd ps = true ∧ ∀ i ∈ isR, i ∉ isC) (h2 : ∀ u, ps.map (fun i => (wr ++ w1 u)[i]?) = (w2 u).map some)
    (hR' : fr + 1 ≤ R.frames ∧ 8 + (ny + 11) + lo ≤ R.locals) (hroom : cells + mc ≤ R.cells ∧ slots + ms ≤ R.slots) (hn : As.length = k) {st : List Value} (hst : st = As.reverse ++ .ref b :: rest) (hcat : (rest.map fun v => v.category).sum ≤ 8) (hd : decode cc pc = .ok (.invokespecial index, 3))
    (kk : ∀ (u : S) (H1 : Heap) (locs1 : List Loc), post u → WD D A H0 H1 locs1 (w2 u) → W p l e R s m args below meth c H1 locs1 (cells + mc) (slots + ms) Q (F0 m (pc + 3) ls rest)) : W p l e R s m args below meth c H locs cells slots Q (F0 m pc ls st) := by
  subst hst
  obtain ⟨g1, g2, g3, g4, g5, g6⟩ := L
  have hF := va_free (wc := w0) Y.2.1 Y.2.2 hA isC hC
  have hts := E.1.2.2.2.2
  refine va_callv (va_runI (As := As) (rest := rest) E.1 (M H.size) (cwI k hts (wU_good g4) rfl rfl rfl (hts _ g3) (hts _ g1) (hts _ g2) g5 g6 hR') ⟨PC_blind hXb, pre_of E Y isC hC hnd.1 hX⟩ rfl hn hl rfl (lv_room hcat) hd hroom) Y.2.2 (fun q _ h => hF q h) hF (fun u t H1 locs1 ht hvm hw hB hz1 hk1 hS => ?_)
  obtain ⟨hP1, hK1, hD1⟩ := hB
  rw [ht] at hP1
  exact kk u H1 locs1 hw (w_join Y hA isC isR ps hC hR hnd.2.1 hnd.2.2.2 hnd.2.2.1 (h2 u) hk1 hP1 hD1 hS)
end CALLS
end ROWS
section ENTER
variable {S : Type} {l : Launch} {X : Nat → State → Prop} {D : va_G} {cI cB : ClassId} {y : MethodName} {cc : ByteArray} {n : Nat} {r : Option FieldType} {fr lo mc ms : Nat} {as : List Value} {w0 : va_W}
theorem CI.of {post : Int32 → S → Prop} {w1 : S → va_W} (hy : plainName y.cls = true) (hn : (lg_sl as).length ≤ n)
    (body : ∀ (p : Program) (e : Env) (s : State) (m : MethodId) (below : List Frame) (meth : Method) (c : Code) (A : Nat → Prop) (ls : Array Slot), EE p c cc n s as.toArray m y.cls D cI cB → meth.sig.returnType = r → meth.locks = false → meth.name = y.name → (∀ q, s.heap.size ≤ q → A q) → (∀ q, A q → va_A w0 s.heap.size q) → X s.heap.size s → WD D A s.heap s.heap [] w0 → lv_has ls n (lv_args 0 as) → W p l e { frames := fr, cells := mc, slots := ms, locals := lo } s m as.toArray below meth c s.heap [] 0 0 (MQ below (va_Qi post (AT D cI cB A w1) A) as.toArray s mc ms A) (F0 m 0 ls [])) : CI l X D cI cB y cc n r fr lo mc ms as w0 post w1 := by
  intro sz
  refine Met.ofW (cc := cc) (maxL := n) (ret := r) hy rfl ?_
  intro p e s m args below meth c s₁ B hml hv
  obtain ⟨rfl, hsz, hP, hK, hD0, hX⟩ := hv
  have hts : ∀ w ∈ gT, w.before as.toArray s = true := fun w h => atoms_spec (ws := wU y cc n r) B.pre w (List.mem_cons_of_mem _ h)
  subst hsz
  have hD := hD0.self (sz := s.heap.size)
  have hl := lv_entry as (n := n) hn
  rw [lg_entry_eq]
  exact body p e s m below meth c (va_A w0 s.heap.size) _ ⟨⟨B.exec, B.bytes, hml, findClass_of_methodNamed B.named, hts⟩, hK⟩ B.returns B.notSynchronized (name_of_methodNamed B.named B.method).1 (fun q h => Or.inr h) (fun q h => h) hX ⟨hP, hD, va_S.rf⟩ hl
theorem CV.of {post : S → Prop} {w1 : S → va_W} (hy : plainName y.cls = true) (hn : (lg_sl as).length ≤ n)
    (body : ∀ (p : Program) (e : Env) (s : State) (m : MethodId) (below : List Frame) (meth : Method) (c : Code) (A : Nat → Prop) (ls : Array Slot), EE p c cc n s as.toArray m y.cls D cI cB → meth.sig.returnType = none → meth.locks = false → meth.name = y.name → (∀ q, s.heap.size ≤ q → A q) → (∀ q, A q → va_A w0 s.heap.size q) → X s.heap.size s → WD D A s.heap s.heap [] w0 → lv_has ls n (lv_args 0 as) → W p l e { frames := fr, cells := mc, slots := ms, locals := lo } s m as.toArray below meth c s.heap [] 0 0 (MQ below (va_Qv post (AT D cI cB A w1) A) as.toArray s mc ms A) (F0 m 0 ls [])) : CV l X D cI cB y cc n fr lo mc ms as w0 post w1 := by
  intro sz
  refine Met.ofW (cc := cc) (maxL := n) (ret := none) hy rfl ?_
  intro p e s m args below meth c s₁ B hml hv
  obtain ⟨rfl, hsz, hP, hK, hD0, hX⟩ := hv
  have hts : ∀ w ∈ gT, w.before as.toArray s = true := fun w h => atoms_spec (ws := wU y cc n none) B.pre w (List.mem_cons_of_mem _ h)
  subst hsz
  have hD := hD0.self (sz := s.heap.size)
  have hl := lv_entry as (n := n) hn
  rw [lg_entry_eq]
  exact body p e s m below meth c (va_A w0 s.heap.size) _ ⟨⟨B.exec, B.bytes, hml, findClass_of_methodNamed B.named, hts⟩, hK⟩ B.returns B.notSynchronized (name_of_methodNamed B.named B.method).1 (fun q h => Or.inr h) (fun q h => h) hX ⟨hP, hD, va_S.rf⟩ hl
variable {p : Program} {e : Env} {R : Room} {s : State} {m : MethodId} {args : Array Value} {below : List Frame} {meth : Method} {c : Code} {H : Heap} {locs : List Loc} {cells slots : Nat} {pc nL : Nat} {ls : Array Slot} {A : Nat → Prop} {w : va_W} {own : String}
theorem r_iret {post : Int32 → S → Prop} {w1 : S → va_W} (E : EE p c cc nL s args m own D cI cB) (Y : WD D A s.heap H locs w) (hr : meth.sig.returnType = some .int) (hk : meth.locks = false) (v : Int32) (u : S) (hp : post v u) (hw : w1 u = w) (hc : cells ≤ mc ∧ slots ≤ ms) (hd : decode cc pc = .ok (.ireturn, 1)) : W p l e R s m args below meth c H locs cells slots (MQ below (va_Qi post (AT D cI cB A w1) A) args s mc ms A) (F0 m pc ls [.int v]) := by
  subst hw
  refine W.widen hc.1 hc.2 ?_
  exact W.iret E.1.1 E.1.2.1 hr (fun t ht hW => ⟨⟨v, u, rfl, hp, by rw [ht]; exact Y.1, va_K.moved hW.alike E.2, Y.2.1⟩, Y.2.2.F ht⟩) Y.2.2.2.2 hd hk
theorem r_zret {post : Int32 → S → Prop} {w1 : S → va_W} {ty : FieldType} (E : EE p c cc nL s args m own D cI cB) (Y : WD D A s.heap H locs w) (hr : meth.sig.returnType = some ty) (hk : meth.locks = false) (v : Int32) (hn : narrow ty (.int v) = .int v) (u : S) (hp : post v u) (hw : w1 u = w) (hc : cells ≤ mc ∧ slots ≤ ms) (hd : decode cc pc = .ok (.ireturn, 1)) : W p l e R s m args below meth c H locs cells slots (MQ below (va_Qi post (AT D cI cB A w1) A) args s mc ms A) (F0 m pc ls [.int v]) := by
  subst hw
  refine W.widen hc.1 hc.2 ?_
  exact W.zret E.1.1 E.1.2.1 hr hn (fun t ht hW => ⟨⟨v, u, rfl, hp, by rw [ht]; exact Y.1, va_K.moved hW.alike E.2, Y.2.1⟩, Y.2.2.F ht⟩) Y.2.2.2.2 hd hk
theorem r_vret {post : S → Prop} {w1 : S → va_W} (E : EE p c cc nL s args m own D cI cB) (Y : WD D A s.heap H locs w) (hr : meth.sig.returnType = none) (hk : meth.locks = false) (u : S) (hp : post u) (hw : w1 u = w) (hc : cells ≤ mc ∧ slots ≤ ms) (hd : decode cc pc = .ok (.return_, 1)) : W p l e R s m args below meth c H locs cells slots (MQ below (va_Qv post (AT D cI cB A w1) A) args s mc ms A) (F0 m pc ls []) := by
  subst hw
  refine W.widen hc.1 hc.2 ?_
  exact W.vret E.1.1 E.1.2.1 hr (fun t ht hW => ⟨⟨u, rfl, hp, by rw [ht]; exact Y.1, va_K.moved hW.alike E.2, Y.2.1⟩, Y.2.2.F ht⟩) Y.2.2.2.2 hd hk
end ENTER
end
section
theorem sg1 {w : Cond} (h : w ∈ tables_1_1) (g : goodWord w = true) : w ∈ gT := gT_in (List.mem_append_right _ (List.mem_append_right _ (List.mem_append_left _ h))) g
theorem sg2 {w : Cond} (h : w ∈ tables_1_2) (g : goodWord w = true) : w ∈ gT := gT_in (List.mem_append_right _ (List.mem_append_right _ (List.mem_append_right _ (List.mem_append_left _ h)))) g
theorem sg3 {w : Cond} (h : w ∈ tables_1_3) (g : goodWord w = true) : w ∈ gT := gT_in (List.mem_append_right _ (List.mem_append_right _ (List.mem_append_right _ (List.mem_append_right _ (List.mem_append_left _ h))))) g
theorem sg4 {w : Cond} (h : w ∈ tables_1_4) (g : goodWord w = true) : w ∈ gT := gT_in (List.mem_append_right _ (List.mem_append_right _ (List.mem_append_right _ (List.mem_append_right _ (List.mem_append_right _ (List.mem_append_left _ h)))))) g
theorem sg5 {w : Cond} (h : w ∈ tables_1_5) (g : goodWord w = true) : w ∈ gT := gT_in (List.mem_append_right _ (List.mem_append_right _ (List.mem_append_right _ (List.mem_append_right _ (List.mem_append_right _ (List.mem_append_right _ (h))))))) g
theorem sgp {w : Cond} (h : w ∈ k2_sels lw_privs) (g : goodWord w = true) : w ∈ gT := gT_in (List.mem_append_right _ (List.mem_append_left _ h)) g
theorem sge {w : Cond} (h : w ∈ lw_ex) (g : goodWord w = true) : w ∈ gT := gT_in (List.mem_append_left _ h) g
theorem ms_X6_runWord : Cond.selects RX6 yX6_runWord yX6_runWord ∈ gT := sgp (List.mem_of_getElem? (i := 0) rfl) rfl
theorem ms_X6_changePause : Cond.selects RX6 yX6_changePause yX6_changePause ∈ gT := sgp (List.mem_of_getElem? (i := 1) rfl) rfl
theorem ms_X6_runWordWithArgument : Cond.selects RX6 yX6_runWordWithArgument yX6_runWordWithArgument ∈ gT := sgp (List.mem_of_getElem? (i := 2) rfl) rfl
theorem ms_X6_changePolicy : Cond.selects RX6 yX6_changePolicy yX6_changePolicy ∈ gT := sgp (List.mem_of_getElem? (i := 3) rfl) rfl
theorem ms_X6_changeCap : Cond.selects RX6 yX6_changeCap yX6_changeCap ∈ gT := sgp (List.mem_of_getElem? (i := 4) rfl) rfl
theorem ms_X6_seek : Cond.selects RX6 yX6_seek yX6_seek ∈ gT := sgp (List.mem_of_getElem? (i := 5) rfl) rfl
theorem ms_X2_canStartDownload : Cond.selects RX2 yX2_canStartDownload yX2_canStartDownload ∈ gT := sgp (List.mem_of_getElem? (i := 6) rfl) rfl
theorem ms_X2_hasNextSegment : Cond.selects RX2 yX2_hasNextSegment yX2_hasNextSegment ∈ gT := sgp (List.mem_of_getElem? (i := 7) rfl) rfl
theorem ms_X2_chooseLevel : Cond.selects RX2 yX2_chooseLevel yX2_chooseLevel ∈ gT := sgp (List.mem_of_getElem? (i := 8) rfl) rfl
theorem ms_X2_levelByRate : Cond.selects RX2 yX2_levelByRate yX2_levelByRate ∈ gT := sgp (List.mem_of_getElem? (i := 9) rfl) rfl
theorem ms_X2_levelByBuffer : Cond.selects RX2 yX2_levelByBuffer yX2_levelByBuffer ∈ gT := sgp (List.mem_of_getElem? (i := 10) rfl) rfl
theorem ms_X2_levelByBoth : Cond.selects RX2 yX2_levelByBoth yX2_levelByBoth ∈ gT := sgp (List.mem_of_getElem? (i := 11) rfl) rfl
theorem ms_X2_completeSegment : Cond.selects RX2 yX2_completeSegment yX2_completeSegment ∈ gT := sgp (List.mem_of_getElem? (i := 12) rfl) rfl
theorem ms_X2_play : Cond.selects RX2 yX2_play yX2_play ∈ gT := sgp (List.mem_of_getElem? (i := 13) rfl) rfl
theorem ms_X2_playIfReady : Cond.selects RX2 yX2_playIfReady yX2_playIfReady ∈ gT := sgp (List.mem_of_getElem? (i := 14) rfl) rfl
theorem ms_X2_playMillisecond : Cond.selects RX2 yX2_playMillisecond yX2_playMillisecond ∈ gT := sgp (List.mem_of_getElem? (i := 15) rfl) rfl
theorem ms_X6_simulationError : Cond.selects RX6 yX6_simulationError yX6_simulationError ∈ gT := sgp (List.mem_of_getElem? (i := 16) rfl) rfl
theorem ms_X7_begins : Cond.selects RX7 yX7_begins yX7_begins ∈ gT := sgp (List.mem_of_getElem? (i := 17) rfl) rfl
theorem ms_X7_has : Cond.selects RX7 yX7_has yX7_has ∈ gT := sgp (List.mem_of_getElem? (i := 18) rfl) rfl
theorem ms_X7_policyFrom : Cond.selects RX7 yX7_policyFrom yX7_policyFrom ∈ gT := sgp (List.mem_of_getElem? (i := 19) rfl) rfl
theorem ms_X7_setsPolicy : Cond.selects RX7 yX7_setsPolicy yX7_setsPolicy ∈ gT := sgp (List.mem_of_getElem? (i := 20) rfl) rfl
theorem ms_X7_capFrom : Cond.selects RX7 yX7_capFrom yX7_capFrom ∈ gT := sgp (List.mem_of_getElem? (i := 21) rfl) rfl
theorem ms_X7_numberFrom : Cond.selects RX7 yX7_numberFrom yX7_numberFrom ∈ gT := sgp (List.mem_of_getElem? (i := 22) rfl) rfl
theorem ms_X7_isDigit : Cond.selects RX7 yX7_isDigit yX7_isDigit ∈ gT := sgp (List.mem_of_getElem? (i := 23) rfl) rfl
theorem ms_X7_seekFrom : Cond.selects RX7 yX7_seekFrom yX7_seekFrom ∈ gT := sgp (List.mem_of_getElem? (i := 24) rfl) rfl
theorem ms_X7_pauses : Cond.selects RX7 yX7_pauses yX7_pauses ∈ gT := sgp (List.mem_of_getElem? (i := 25) rfl) rfl
theorem ms_X7_passes : Cond.selects RX7 yX7_passes yX7_passes ∈ gT := sgp (List.mem_of_getElem? (i := 26) rfl) rfl
theorem ms_X7_startsDownload : Cond.selects RX7 yX7_startsDownload yX7_startsDownload ∈ gT := sgp (List.mem_of_getElem? (i := 27) rfl) rfl
theorem ms_X7_chosen : Cond.selects RX7 yX7_chosen yX7_chosen ∈ gT := sgp (List.mem_of_getElem? (i := 28) rfl) rfl
theorem ms_X7_highest : Cond.selects RX7 yX7_highest yX7_highest ∈ gT := sgp (List.mem_of_getElem? (i := 29) rfl) rfl
theorem ms_X7_levelByRate : Cond.selects RX7 yX7_levelByRate yX7_levelByRate ∈ gT := sgp (List.mem_of_getElem? (i := 30) rfl) rfl
theorem ms_X7_estimate : Cond.selects RX7 yX7_estimate yX7_estimate ∈ gT := sgp (List.mem_of_getElem? (i := 31) rfl) rfl
theorem ms_X7_levelByBuffer : Cond.selects RX7 yX7_levelByBuffer yX7_levelByBuffer ∈ gT := sgp (List.mem_of_getElem? (i := 32) rfl) rfl
theorem ms_X7_levelOfBoth : Cond.selects RX7 yX7_levelOfBoth yX7_levelOfBoth ∈ gT := sgp (List.mem_of_getElem? (i := 33) rfl) rfl
theorem ms_X7_sizeOf : Cond.selects RX7 yX7_sizeOf yX7_sizeOf ∈ gT := sgp (List.mem_of_getElem? (i := 34) rfl) rfl
theorem ms_X7_receives : Cond.selects RX7 yX7_receives yX7_receives ∈ gT := sgp (List.mem_of_getElem? (i := 35) rfl) rfl
theorem ms_X7_rateAt : Cond.selects RX7 yX7_rateAt yX7_rateAt ∈ gT := sgp (List.mem_of_getElem? (i := 36) rfl) rfl
theorem ms_X7_completes : Cond.selects RX7 yX7_completes yX7_completes ∈ gT := sgp (List.mem_of_getElem? (i := 37) rfl) rfl
theorem ms_X7_plays : Cond.selects RX7 yX7_plays yX7_plays ∈ gT := sgp (List.mem_of_getElem? (i := 38) rfl) rfl
theorem ms_X7_waits : Cond.selects RX7 yX7_waits yX7_waits ∈ gT := sgp (List.mem_of_getElem? (i := 39) rfl) rfl
theorem ms_X7_simulated : Cond.selects RX7 yX7_simulated yX7_simulated ∈ gT := sgp (List.mem_of_getElem? (i := 40) rfl) rfl
theorem ms_X7_setsAside : Cond.selects RX7 yX7_setsAside yX7_setsAside ∈ gT := sgp (List.mem_of_getElem? (i := 41) rfl) rfl
theorem ms_X7_simulates : Cond.selects RX7 yX7_simulates yX7_simulates ∈ gT := sgp (List.mem_of_getElem? (i := 42) rfl) rfl
theorem ms_X7_takesBack : Cond.selects RX7 yX7_takesBack yX7_takesBack ∈ gT := sgp (List.mem_of_getElem? (i := 43) rfl) rfl
theorem ms_J4_J5_ensureCapacityInternal_d00df_J5_ensureCapacityInternal_d00df : Cond.selects RJ4 yJ5_ensureCapacityInternal_d00df yJ5_ensureCapacityInternal_d00df ∈ gT := sge (List.mem_of_getElem? (i := 0) rfl) rfl
theorem ms_J4_J5_newCapacity_0f7a4_J5_newCapacity_0f7a4 : Cond.selects RJ4 yJ5_newCapacity_0f7a4 yJ5_newCapacity_0f7a4 ∈ gT := sge (List.mem_of_getElem? (i := 1) rfl) rfl
theorem ms_J4_J5_inflate_da8c8_J5_inflate_da8c8 : Cond.selects RJ4 yJ5_inflate_da8c8 yJ5_inflate_da8c8 ∈ gT := sge (List.mem_of_getElem? (i := 2) rfl) rfl
theorem mn_L : Cond.initialized RL ∈ gT := sg1 (List.mem_of_getElem? (i := 0) rfl) rfl
theorem mn_X6 : Cond.initialized RX6 ∈ gT := sg1 (List.mem_of_getElem? (i := 1) rfl) rfl
theorem mn_X5 : Cond.initialized RX5 ∈ gT := sg1 (List.mem_of_getElem? (i := 2) rfl) rfl
theorem mn_X0 : Cond.initialized RX0 ∈ gT := sg1 (List.mem_of_getElem? (i := 3) rfl) rfl
theorem mn_X3 : Cond.initialized RX3 ∈ gT := sg1 (List.mem_of_getElem? (i := 4) rfl) rfl
theorem mn_X2 : Cond.initialized RX2 ∈ gT := sg1 (List.mem_of_getElem? (i := 5) rfl) rfl
theorem mn_X4 : Cond.initialized RX4 ∈ gT := sg1 (List.mem_of_getElem? (i := 6) rfl) rfl
theorem mn_X1 : Cond.initialized RX1 ∈ gT := sg1 (List.mem_of_getElem? (i := 7) rfl) rfl
theorem mn_J5 : Cond.initialized RJ5 ∈ gT := sg1 (List.mem_of_getElem? (i := 8) rfl) rfl
theorem mn_J4 : Cond.initialized RJ4 ∈ gT := sg1 (List.mem_of_getElem? (i := 9) rfl) rfl
theorem mn_J0 : Cond.initialized RJ0 ∈ gT := sg1 (List.mem_of_getElem? (i := 10) rfl) rfl
theorem mn_J2 : Cond.initialized RJ2 ∈ gT := sg1 (List.mem_of_getElem? (i := 11) rfl) rfl
theorem mn_X7 : Cond.initialized RX7 ∈ gT := sg1 (List.mem_of_getElem? (i := 12) rfl) rfl
theorem mn_J8 : Cond.initialized RJ8 ∈ gT := sg1 (List.mem_of_getElem? (i := 13) rfl) rfl
theorem mn_J9 : Cond.initialized RJ9 ∈ gT := sg1 (List.mem_of_getElem? (i := 14) rfl) rfl
theorem mn_J7 : Cond.initialized RJ7 ∈ gT := sg1 (List.mem_of_getElem? (i := 15) rfl) rfl
theorem mn_J10 : Cond.initialized RJ10 ∈ gT := sg1 (List.mem_of_getElem? (i := 16) rfl) rfl
theorem mn_J1 : Cond.initialized RJ1 ∈ gT := sg1 (List.mem_of_getElem? (i := 17) rfl) rfl
theorem mn_J3 : Cond.initialized RJ3 ∈ gT := sg1 (List.mem_of_getElem? (i := 18) rfl) rfl
theorem mn_J11 : Cond.initialized RJ11 ∈ gT := sg1 (List.mem_of_getElem? (i := 19) rfl) rfl
theorem ml_L_7 : Cond.classLink RL 7 RX6 ∈ gT := sg1 (List.mem_of_getElem? (i := 20) rfl) rfl
theorem mq_X6 : Cond.instantiable RX6 8 ∈ gT := sg1 (List.mem_of_getElem? (i := 21) rfl) rfl
theorem mm_L_9 : Cond.methodLink RL 9 yX6_init ∈ gT := sg1 (List.mem_of_getElem? (i := 22) rfl) rfl
theorem mi_X6_init : Cond.instanceMethod yX6_init ∈ gT := sg1 (List.mem_of_getElem? (i := 23) rfl) rfl
theorem mc_X6_init : Cond.code yX6_init cX6_init 1 none ∈ gT := sg1 (List.mem_of_getElem? (i := 24) rfl) rfl
theorem mm_X6_3 : Cond.methodLink RX6 3 Lib.objectInit ∈ gT := sg1 (List.mem_of_getElem? (i := 25) rfl) rfl
theorem mi_objectInit : Cond.instanceMethod Lib.objectInit ∈ gT := sg1 (List.mem_of_getElem? (i := 26) rfl) rfl
theorem mc_objectInit : Cond.code Lib.objectInit object_method_1_code 1 none ∈ gT := sg1 (List.mem_of_getElem? (i := 27) rfl) rfl
theorem ml_X6_9 : Cond.classLink RX6 9 RX5 ∈ gT := sg1 (List.mem_of_getElem? (i := 28) rfl) rfl
theorem mq_X5 : Cond.instantiable RX5 5 ∈ gT := sg1 (List.mem_of_getElem? (i := 29) rfl) rfl
theorem mm_X6_11 : Cond.methodLink RX6 11 yX5_init ∈ gT := sg1 (List.mem_of_getElem? (i := 30) rfl) rfl
theorem mi_X5_init : Cond.instanceMethod yX5_init ∈ gT := sg1 (List.mem_of_getElem? (i := 31) rfl) rfl
theorem mc_X5_init : Cond.code yX5_init cX5_init 1 none ∈ gT := sg1 (List.mem_of_getElem? (i := 32) rfl) rfl
theorem mm_X5_3 : Cond.methodLink RX5 3 Lib.objectInit ∈ gT := sg1 (List.mem_of_getElem? (i := 33) rfl) rfl
theorem mm_X5_18 : Cond.methodLink RX5 18 yX5_replace ∈ gT := sg1 (List.mem_of_getElem? (i := 34) rfl) rfl
theorem mi_X5_replace : Cond.instanceMethod yX5_replace ∈ gT := sg1 (List.mem_of_getElem? (i := 35) rfl) rfl
theorem ms_X5_replace : Cond.selects RX5 yX5_replace yX5_replace ∈ gT := sg1 (List.mem_of_getElem? (i := 36) rfl) rfl
theorem mc_X5_replace : Cond.code yX5_replace cX5_replace 4 none ∈ gT := sg1 (List.mem_of_getElem? (i := 37) rfl) rfl
theorem mf_X5_9 : Cond.fieldLink RX5 9 "AdaptivePlayer$Video" "bitrates" "[I" ∈ gT := sg1 (List.mem_of_getElem? (i := 38) rfl) rfl
theorem mf_X5_15 : Cond.fieldLink RX5 15 "AdaptivePlayer$Video" "variations" "[I" ∈ gT := sg1 (List.mem_of_getElem? (i := 39) rfl) rfl
theorem mf_X5_22 : Cond.fieldLink RX5 22 "AdaptivePlayer$Video" "segmentCount" "I" ∈ gT := sg1 (List.mem_of_getElem? (i := 40) rfl) rfl
theorem mf_X2_138 : Cond.fieldLink RX2 138 "AdaptivePlayer$Video" "segmentCount" "I" ∈ gT := sg1 (List.mem_of_getElem? (i := 41) rfl) rfl
theorem mf_X5_26 : Cond.fieldLink RX5 26 "AdaptivePlayer$Video" "duration" "I" ∈ gT := sg1 (List.mem_of_getElem? (i := 42) rfl) rfl
theorem mf_X2_86 : Cond.fieldLink RX2 86 "AdaptivePlayer$Video" "duration" "I" ∈ gT := sg1 (List.mem_of_getElem? (i := 43) rfl) rfl
theorem mf_X5_29 : Cond.fieldLink RX5 29 "AdaptivePlayer$Video" "levelCount" "I" ∈ gT := sg1 (List.mem_of_getElem? (i := 44) rfl) rfl
theorem mf_X6_71 : Cond.fieldLink RX6 71 "AdaptivePlayer$Video" "levelCount" "I" ∈ gT := sg1 (List.mem_of_getElem? (i := 45) rfl) rfl
theorem mf_X2_171 : Cond.fieldLink RX2 171 "AdaptivePlayer$Video" "levelCount" "I" ∈ gT := sg1 (List.mem_of_getElem? (i := 46) rfl) rfl
theorem ma_int : Cond.arrayClass .int ∈ gT := sg1 (List.mem_of_getElem? (i := 58) rfl) rfl
theorem ml_X6_16 : Cond.classLink RX6 16 RX0 ∈ gT := sg1 (List.mem_of_getElem? (i := 59) rfl) rfl
theorem mq_X0 : Cond.instantiable RX0 3 ∈ gT := sg1 (List.mem_of_getElem? (i := 60) rfl) rfl
theorem mi_X0_init : Cond.instanceMethod yX0_init ∈ gT := sg1 (List.mem_of_getElem? (i := 62) rfl) rfl
theorem mc_X0_init : Cond.code yX0_init cX0_init 1 none ∈ gT := sg1 (List.mem_of_getElem? (i := 63) rfl) rfl
theorem mm_X0_3 : Cond.methodLink RX0 3 Lib.objectInit ∈ gT := sg1 (List.mem_of_getElem? (i := 64) rfl) rfl
theorem mf_X0_9 : Cond.fieldLink RX0 9 "AdaptivePlayer$Connection" "ends" "[I" ∈ gT := sg1 (List.mem_of_getElem? (i := 65) rfl) rfl
theorem mf_X0_15 : Cond.fieldLink RX0 15 "AdaptivePlayer$Connection" "rates" "[I" ∈ gT := sg1 (List.mem_of_getElem? (i := 66) rfl) rfl
theorem mf_X0_18 : Cond.fieldLink RX0 18 "AdaptivePlayer$Connection" "periodCount" "I" ∈ gT := sg1 (List.mem_of_getElem? (i := 67) rfl) rfl
theorem mf_X6_90 : Cond.fieldLink RX6 90 "AdaptivePlayer$Connection" "periodCount" "I" ∈ gT := sg1 (List.mem_of_getElem? (i := 68) rfl) rfl
theorem ml_X6_23 : Cond.classLink RX6 23 RX3 ∈ gT := sg1 (List.mem_of_getElem? (i := 76) rfl) rfl
theorem mq_X3 : Cond.instantiable RX3 5 ∈ gT := sg1 (List.mem_of_getElem? (i := 77) rfl) rfl
theorem mi_X3_init : Cond.instanceMethod yX3_init ∈ gT := sg1 (List.mem_of_getElem? (i := 79) rfl) rfl
theorem mc_X3_init : Cond.code yX3_init cX3_init 1 none ∈ gT := sg1 (List.mem_of_getElem? (i := 80) rfl) rfl
theorem mm_X3_1 : Cond.methodLink RX3 1 Lib.objectInit ∈ gT := sg1 (List.mem_of_getElem? (i := 81) rfl) rfl
theorem mf_X3_7 : Cond.fieldLink RX3 7 "AdaptivePlayer$Settings" "maximumBuffer" "I" ∈ gT := sg1 (List.mem_of_getElem? (i := 82) rfl) rfl
theorem mf_X2_144 : Cond.fieldLink RX2 144 "AdaptivePlayer$Settings" "maximumBuffer" "I" ∈ gT := sg1 (List.mem_of_getElem? (i := 83) rfl) rfl
theorem mf_X3_13 : Cond.fieldLink RX3 13 "AdaptivePlayer$Settings" "threshold" "I" ∈ gT := sg1 (List.mem_of_getElem? (i := 84) rfl) rfl
theorem mf_X2_168 : Cond.fieldLink RX2 168 "AdaptivePlayer$Settings" "threshold" "I" ∈ gT := sg1 (List.mem_of_getElem? (i := 85) rfl) rfl
theorem mf_X3_16 : Cond.fieldLink RX3 16 "AdaptivePlayer$Settings" "safety" "I" ∈ gT := sg1 (List.mem_of_getElem? (i := 86) rfl) rfl
theorem mf_X2_191 : Cond.fieldLink RX2 191 "AdaptivePlayer$Settings" "safety" "I" ∈ gT := sg1 (List.mem_of_getElem? (i := 87) rfl) rfl
theorem mf_X3_19 : Cond.fieldLink RX3 19 "AdaptivePlayer$Settings" "reservoir" "I" ∈ gT := sg1 (List.mem_of_getElem? (i := 88) rfl) rfl
theorem mf_X2_197 : Cond.fieldLink RX2 197 "AdaptivePlayer$Settings" "reservoir" "I" ∈ gT := sg1 (List.mem_of_getElem? (i := 89) rfl) rfl
theorem mf_X3_22 : Cond.fieldLink RX3 22 "AdaptivePlayer$Settings" "cushion" "I" ∈ gT := sg1 (List.mem_of_getElem? (i := 90) rfl) rfl
theorem mf_X2_200 : Cond.fieldLink RX2 200 "AdaptivePlayer$Settings" "cushion" "I" ∈ gT := sg1 (List.mem_of_getElem? (i := 91) rfl) rfl
theorem ml_X6_30 : Cond.classLink RX6 30 RX2 ∈ gT := sg1 (List.mem_of_getElem? (i := 103) rfl) rfl
theorem mq_X2 : Cond.instantiable RX2 18 ∈ gT := sg1 (List.mem_of_getElem? (i := 104) rfl) rfl
theorem mm_X6_32 : Cond.methodLink RX6 32 yX2_init ∈ gT := sg1 (List.mem_of_getElem? (i := 105) rfl) rfl
theorem mi_X2_init : Cond.instanceMethod yX2_init ∈ gT := sg1 (List.mem_of_getElem? (i := 106) rfl) rfl
theorem mc_X2_init : Cond.code yX2_init cX2_init 4 none ∈ gT := sg1 (List.mem_of_getElem? (i := 107) rfl) rfl
theorem mm_X2_3 : Cond.methodLink RX2 3 Lib.objectInit ∈ gT := sg1 (List.mem_of_getElem? (i := 108) rfl) rfl
theorem ml_X2_15 : Cond.classLink RX2 15 RX4 ∈ gT := sg1 (List.mem_of_getElem? (i := 109) rfl) rfl
theorem mq_X4 : Cond.instantiable RX4 2 ∈ gT := sg1 (List.mem_of_getElem? (i := 110) rfl) rfl
theorem mi_X4_init : Cond.instanceMethod yX4_init ∈ gT := sg1 (List.mem_of_getElem? (i := 112) rfl) rfl
theorem mc_X4_init : Cond.code yX4_init cX4_init 1 none ∈ gT := sg1 (List.mem_of_getElem? (i := 113) rfl) rfl
theorem mm_X4_3 : Cond.methodLink RX4 3 Lib.objectInit ∈ gT := sg1 (List.mem_of_getElem? (i := 114) rfl) rfl
theorem mf_X4_9 : Cond.fieldLink RX4 9 "AdaptivePlayer$Throughputs" "latest" "[I" ∈ gT := sg1 (List.mem_of_getElem? (i := 115) rfl) rfl
theorem mf_X4_15 : Cond.fieldLink RX4 15 "AdaptivePlayer$Throughputs" "count" "I" ∈ gT := sg1 (List.mem_of_getElem? (i := 116) rfl) rfl
theorem ml_X2_22 : Cond.classLink RX2 22 RX1 ∈ gT := sg1 (List.mem_of_getElem? (i := 122) rfl) rfl
theorem mq_X1 : Cond.instantiable RX1 5 ∈ gT := sg1 (List.mem_of_getElem? (i := 123) rfl) rfl
theorem mi_X1_init : Cond.instanceMethod yX1_init ∈ gT := sg1 (List.mem_of_getElem? (i := 125) rfl) rfl
theorem mc_X1_init : Cond.code yX1_init cX1_init 1 none ∈ gT := sg1 (List.mem_of_getElem? (i := 126) rfl) rfl
theorem mm_X1_1 : Cond.methodLink RX1 1 Lib.objectInit ∈ gT := sg1 (List.mem_of_getElem? (i := 127) rfl) rfl
theorem mf_X1_7 : Cond.fieldLink RX1 7 "AdaptivePlayer$Download" "running" "Z" ∈ gT := sg1 (List.mem_of_getElem? (i := 128) rfl) rfl
theorem mf_X2_117 : Cond.fieldLink RX2 117 "AdaptivePlayer$Download" "running" "Z" ∈ gT := sg1 (List.mem_of_getElem? (i := 129) rfl) rfl
theorem mf_X6_164 : Cond.fieldLink RX6 164 "AdaptivePlayer$Download" "running" "Z" ∈ gT := sg1 (List.mem_of_getElem? (i := 130) rfl) rfl
theorem mf_X1_13 : Cond.fieldLink RX1 13 "AdaptivePlayer$Download" "level" "I" ∈ gT := sg1 (List.mem_of_getElem? (i := 131) rfl) rfl
theorem mf_X2_149 : Cond.fieldLink RX2 149 "AdaptivePlayer$Download" "level" "I" ∈ gT := sg1 (List.mem_of_getElem? (i := 132) rfl) rfl
theorem mf_X1_17 : Cond.fieldLink RX1 17 "AdaptivePlayer$Download" "size" "I" ∈ gT := sg1 (List.mem_of_getElem? (i := 133) rfl) rfl
theorem mf_X1_20 : Cond.fieldLink RX1 20 "AdaptivePlayer$Download" "received" "I" ∈ gT := sg1 (List.mem_of_getElem? (i := 134) rfl) rfl
theorem mf_X1_23 : Cond.fieldLink RX1 23 "AdaptivePlayer$Download" "timeSpent" "I" ∈ gT := sg1 (List.mem_of_getElem? (i := 135) rfl) rfl
theorem mm_X2_41 : Cond.methodLink RX2 41 yX2_begin ∈ gT := sg1 (List.mem_of_getElem? (i := 147) rfl) rfl
theorem mi_X2_begin : Cond.instanceMethod yX2_begin ∈ gT := sg1 (List.mem_of_getElem? (i := 148) rfl) rfl
theorem ms_X2_begin : Cond.selects RX2 yX2_begin yX2_begin ∈ gT := sg1 (List.mem_of_getElem? (i := 149) rfl) rfl
theorem mc_X2_begin : Cond.code yX2_begin cX2_begin 2 none ∈ gT := sg1 (List.mem_of_getElem? (i := 150) rfl) rfl
theorem mm_X2_44 : Cond.methodLink RX2 44 yX2_moveTo ∈ gT := sg1 (List.mem_of_getElem? (i := 151) rfl) rfl
theorem mi_X2_moveTo : Cond.instanceMethod yX2_moveTo ∈ gT := sg1 (List.mem_of_getElem? (i := 152) rfl) rfl
theorem ms_X2_moveTo : Cond.selects RX2 yX2_moveTo yX2_moveTo ∈ gT := sg1 (List.mem_of_getElem? (i := 153) rfl) rfl
theorem mc_X2_moveTo : Cond.code yX2_moveTo cX2_moveTo 2 none ∈ gT := sg1 (List.mem_of_getElem? (i := 154) rfl) rfl
theorem mm_X2_74 : Cond.methodLink RX2 74 yX1_stop ∈ gT := sg1 (List.mem_of_getElem? (i := 155) rfl) rfl
theorem mi_X1_stop : Cond.instanceMethod yX1_stop ∈ gT := sg1 (List.mem_of_getElem? (i := 156) rfl) rfl
theorem ms_X1_stop : Cond.selects RX1 yX1_stop yX1_stop ∈ gT := sg1 (List.mem_of_getElem? (i := 157) rfl) rfl
theorem mc_X1_stop : Cond.code yX1_stop cX1_stop 1 none ∈ gT := sg1 (List.mem_of_getElem? (i := 158) rfl) rfl
theorem mm_X2_77 : Cond.methodLink RX2 77 yX4_forget ∈ gT := sg1 (List.mem_of_getElem? (i := 159) rfl) rfl
theorem mi_X4_forget : Cond.instanceMethod yX4_forget ∈ gT := sg1 (List.mem_of_getElem? (i := 160) rfl) rfl
theorem ms_X4_forget : Cond.selects RX4 yX4_forget yX4_forget ∈ gT := sg1 (List.mem_of_getElem? (i := 161) rfl) rfl
theorem mc_X4_forget : Cond.code yX4_forget cX4_forget 1 none ∈ gT := sg1 (List.mem_of_getElem? (i := 162) rfl) rfl
theorem mf_X2_29 : Cond.fieldLink RX2 29 "AdaptivePlayer$Session" "video" "LAdaptivePlayer$Video;" ∈ gT := sg1 (List.mem_of_getElem? (i := 163) rfl) rfl
theorem mf_X2_33 : Cond.fieldLink RX2 33 "AdaptivePlayer$Session" "connection" "LAdaptivePlayer$Connection;" ∈ gT := sg1 (List.mem_of_getElem? (i := 164) rfl) rfl
theorem mf_X2_37 : Cond.fieldLink RX2 37 "AdaptivePlayer$Session" "settings" "LAdaptivePlayer$Settings;" ∈ gT := sg1 (List.mem_of_getElem? (i := 165) rfl) rfl
theorem mf_X2_9 : Cond.fieldLink RX2 9 "AdaptivePlayer$Session" "completedLevels" "[I" ∈ gT := sg1 (List.mem_of_getElem? (i := 166) rfl) rfl
theorem mf_X2_18 : Cond.fieldLink RX2 18 "AdaptivePlayer$Session" "throughputs" "LAdaptivePlayer$Throughputs;" ∈ gT := sg1 (List.mem_of_getElem? (i := 167) rfl) rfl
theorem mf_X6_175 : Cond.fieldLink RX6 175 "AdaptivePlayer$Session" "throughputs" "LAdaptivePlayer$Throughputs;" ∈ gT := sg1 (List.mem_of_getElem? (i := 168) rfl) rfl
theorem mf_X2_25 : Cond.fieldLink RX2 25 "AdaptivePlayer$Session" "download" "LAdaptivePlayer$Download;" ∈ gT := sg1 (List.mem_of_getElem? (i := 169) rfl) rfl
theorem mf_X6_160 : Cond.fieldLink RX6 160 "AdaptivePlayer$Session" "download" "LAdaptivePlayer$Download;" ∈ gT := sg1 (List.mem_of_getElem? (i := 170) rfl) rfl
theorem mf_X2_48 : Cond.fieldLink RX2 48 "AdaptivePlayer$Session" "paused" "Z" ∈ gT := sg1 (List.mem_of_getElem? (i := 171) rfl) rfl
theorem mf_X6_156 : Cond.fieldLink RX6 156 "AdaptivePlayer$Session" "paused" "Z" ∈ gT := sg1 (List.mem_of_getElem? (i := 172) rfl) rfl
theorem mf_X2_52 : Cond.fieldLink RX2 52 "AdaptivePlayer$Session" "time" "I" ∈ gT := sg1 (List.mem_of_getElem? (i := 173) rfl) rfl
theorem mf_X6_141 : Cond.fieldLink RX6 141 "AdaptivePlayer$Session" "time" "I" ∈ gT := sg1 (List.mem_of_getElem? (i := 174) rfl) rfl
theorem mf_X2_91 : Cond.fieldLink RX2 91 "AdaptivePlayer$Session" "position" "I" ∈ gT := sg1 (List.mem_of_getElem? (i := 175) rfl) rfl
theorem mf_X6_147 : Cond.fieldLink RX6 147 "AdaptivePlayer$Session" "position" "I" ∈ gT := sg1 (List.mem_of_getElem? (i := 176) rfl) rfl
theorem mf_X2_80 : Cond.fieldLink RX2 80 "AdaptivePlayer$Session" "buffer" "I" ∈ gT := sg1 (List.mem_of_getElem? (i := 177) rfl) rfl
theorem mf_X6_150 : Cond.fieldLink RX6 150 "AdaptivePlayer$Session" "buffer" "I" ∈ gT := sg1 (List.mem_of_getElem? (i := 178) rfl) rfl
theorem mf_X2_94 : Cond.fieldLink RX2 94 "AdaptivePlayer$Session" "state" "I" ∈ gT := sg1 (List.mem_of_getElem? (i := 179) rfl) rfl
theorem mf_X6_153 : Cond.fieldLink RX6 153 "AdaptivePlayer$Session" "state" "I" ∈ gT := sg1 (List.mem_of_getElem? (i := 180) rfl) rfl
theorem mf_X2_83 : Cond.fieldLink RX2 83 "AdaptivePlayer$Session" "nextSegment" "I" ∈ gT := sg1 (List.mem_of_getElem? (i := 181) rfl) rfl
theorem mf_X6_169 : Cond.fieldLink RX6 169 "AdaptivePlayer$Session" "nextSegment" "I" ∈ gT := sg1 (List.mem_of_getElem? (i := 182) rfl) rfl
theorem mf_X2_56 : Cond.fieldLink RX2 56 "AdaptivePlayer$Session" "switchCount" "I" ∈ gT := sg1 (List.mem_of_getElem? (i := 183) rfl) rfl
theorem mf_X6_184 : Cond.fieldLink RX6 184 "AdaptivePlayer$Session" "switchCount" "I" ∈ gT := sg1 (List.mem_of_getElem? (i := 184) rfl) rfl
theorem mf_X2_59 : Cond.fieldLink RX2 59 "AdaptivePlayer$Session" "stallCount" "I" ∈ gT := sg1 (List.mem_of_getElem? (i := 185) rfl) rfl
theorem mf_X6_187 : Cond.fieldLink RX6 187 "AdaptivePlayer$Session" "stallCount" "I" ∈ gT := sg1 (List.mem_of_getElem? (i := 186) rfl) rfl
theorem mf_X2_62 : Cond.fieldLink RX2 62 "AdaptivePlayer$Session" "stallTime" "I" ∈ gT := sg1 (List.mem_of_getElem? (i := 187) rfl) rfl
theorem mf_X6_190 : Cond.fieldLink RX6 190 "AdaptivePlayer$Session" "stallTime" "I" ∈ gT := sg1 (List.mem_of_getElem? (i := 188) rfl) rfl
theorem mf_X2_65 : Cond.fieldLink RX2 65 "AdaptivePlayer$Session" "startupTime" "I" ∈ gT := sg1 (List.mem_of_getElem? (i := 189) rfl) rfl
theorem mf_X6_193 : Cond.fieldLink RX6 193 "AdaptivePlayer$Session" "startupTime" "I" ∈ gT := sg1 (List.mem_of_getElem? (i := 190) rfl) rfl
theorem mf_X2_68 : Cond.fieldLink RX2 68 "AdaptivePlayer$Session" "bitrateSum" "I" ∈ gT := sg1 (List.mem_of_getElem? (i := 191) rfl) rfl
theorem mf_X6_196 : Cond.fieldLink RX6 196 "AdaptivePlayer$Session" "bitrateSum" "I" ∈ gT := sg1 (List.mem_of_getElem? (i := 192) rfl) rfl
theorem mf_X2_71 : Cond.fieldLink RX2 71 "AdaptivePlayer$Session" "latestLevel" "I" ∈ gT := sg1 (List.mem_of_getElem? (i := 193) rfl) rfl
theorem ml_X6_42 : Cond.classLink RX6 42 RJ4 ∈ gT := sg1 (List.mem_of_getElem? (i := 231) rfl) rfl
theorem mq_J4 : Cond.instantiable RJ4 4 ∈ gT := sg1 (List.mem_of_getElem? (i := 232) rfl) rfl
theorem mm_X6_44 : Cond.methodLink RX6 44 yJ4_init_da8c8 ∈ gT := sg1 (List.mem_of_getElem? (i := 233) rfl) rfl
theorem mi_J4_init_da8c8 : Cond.instanceMethod yJ4_init_da8c8 ∈ gT := sg1 (List.mem_of_getElem? (i := 234) rfl) rfl
theorem mc_J4_init_da8c8 : Cond.code yJ4_init_da8c8 cJ4_init_da8c8 1 none ∈ gT := sg1 (List.mem_of_getElem? (i := 235) rfl) rfl
theorem mm_J4_1 : Cond.methodLink RJ4 1 yJ5_init_d00df ∈ gT := sg1 (List.mem_of_getElem? (i := 236) rfl) rfl
theorem mi_J5_init_d00df : Cond.instanceMethod yJ5_init_d00df ∈ gT := sg1 (List.mem_of_getElem? (i := 237) rfl) rfl
theorem mc_J5_init_d00df : Cond.code yJ5_init_d00df cJ5_init_d00df 2 none ∈ gT := sg1 (List.mem_of_getElem? (i := 238) rfl) rfl
theorem mm_J5_3 : Cond.methodLink RJ5 3 Lib.objectInit ∈ gT := sg1 (List.mem_of_getElem? (i := 239) rfl) rfl
theorem mf_J5_18 : Cond.fieldLink RJ5 18 "java/lang/String" "COMPACT_STRINGS" "Z" ∈ gT := sg2 (List.mem_of_getElem? (i := 0) rfl) rfl
theorem mm_J5_26 : Cond.methodLink RJ5 26 yJ2_newBytesFor_77867 ∈ gT := sg2 (List.mem_of_getElem? (i := 2) rfl) rfl
theorem mt_J2_newBytesFor_77867 : Cond.static yJ2_newBytesFor_77867 ∈ gT := sg2 (List.mem_of_getElem? (i := 3) rfl) rfl
theorem mc_J2_newBytesFor_77867 : Cond.code yJ2_newBytesFor_77867 cJ2_newBytesFor_77867 1 (some (.array .byte)) ∈ gT := sg2 (List.mem_of_getElem? (i := 4) rfl) rfl
theorem mm_J2_11 : Cond.methodLink RJ2 11 yJ2_newBytesLength_0f7a4 ∈ gT := sg2 (List.mem_of_getElem? (i := 5) rfl) rfl
theorem mt_J2_newBytesLength_0f7a4 : Cond.static yJ2_newBytesLength_0f7a4 ∈ gT := sg2 (List.mem_of_getElem? (i := 6) rfl) rfl
theorem mc_J2_newBytesLength_0f7a4 : Cond.code yJ2_newBytesLength_0f7a4 cJ2_newBytesLength_0f7a4 1 (some .int) ∈ gT := sg2 (List.mem_of_getElem? (i := 7) rfl) rfl
theorem mk_J2_20 : Cond.constant RJ2 20 (1073741823) ∈ gT := sg2 (List.mem_of_getElem? (i := 8) rfl) rfl
theorem mf_J5_15 : Cond.fieldLink RJ5 15 "java/lang/AbstractStringBuilder" "value" "[B" ∈ gT := sg2 (List.mem_of_getElem? (i := 9) rfl) rfl
theorem mf_J5_22 : Cond.fieldLink RJ5 22 "java/lang/AbstractStringBuilder" "coder" "B" ∈ gT := sg2 (List.mem_of_getElem? (i := 10) rfl) rfl
theorem mf_J5_73 : Cond.fieldLink RJ5 73 "java/lang/AbstractStringBuilder" "maybeLatin1" "Z" ∈ gT := sg2 (List.mem_of_getElem? (i := 11) rfl) rfl
theorem mf_J0_1048 : Cond.fieldLink RJ0 1048 "java/lang/AbstractStringBuilder" "maybeLatin1" "Z" ∈ gT := sg2 (List.mem_of_getElem? (i := 12) rfl) rfl
theorem mf_J5_79 : Cond.fieldLink RJ5 79 "java/lang/AbstractStringBuilder" "count" "I" ∈ gT := sg2 (List.mem_of_getElem? (i := 13) rfl) rfl
theorem ma_byte : Cond.arrayClass .byte ∈ gT := sg2 (List.mem_of_getElem? (i := 23) rfl) rfl
theorem mf_X6_12 : Cond.fieldLink RX6 12 "AdaptivePlayer" "video" "LAdaptivePlayer$Video;" ∈ gT := sg2 (List.mem_of_getElem? (i := 24) rfl) rfl
theorem mf_X6_19 : Cond.fieldLink RX6 19 "AdaptivePlayer" "connection" "LAdaptivePlayer$Connection;" ∈ gT := sg2 (List.mem_of_getElem? (i := 25) rfl) rfl
theorem mf_X6_26 : Cond.fieldLink RX6 26 "AdaptivePlayer" "settings" "LAdaptivePlayer$Settings;" ∈ gT := sg2 (List.mem_of_getElem? (i := 26) rfl) rfl
theorem mf_X6_35 : Cond.fieldLink RX6 35 "AdaptivePlayer" "session" "LAdaptivePlayer$Session;" ∈ gT := sg2 (List.mem_of_getElem? (i := 27) rfl) rfl
theorem mf_X6_39 : Cond.fieldLink RX6 39 "AdaptivePlayer" "whatIf" "LAdaptivePlayer$Session;" ∈ gT := sg2 (List.mem_of_getElem? (i := 28) rfl) rfl
theorem mf_X6_45 : Cond.fieldLink RX6 45 "AdaptivePlayer" "commandLine" "Ljava/lang/StringBuilder;" ∈ gT := sg2 (List.mem_of_getElem? (i := 29) rfl) rfl
theorem mf_X6_49 : Cond.fieldLink RX6 49 "AdaptivePlayer" "policy" "I" ∈ gT := sg2 (List.mem_of_getElem? (i := 30) rfl) rfl
theorem mf_X6_53 : Cond.fieldLink RX6 53 "AdaptivePlayer" "cap" "I" ∈ gT := sg2 (List.mem_of_getElem? (i := 31) rfl) rfl
theorem mm_L_13 : Cond.methodLink RL 13 yX6_setVideo ∈ gT := sg2 (List.mem_of_getElem? (i := 49) rfl) rfl
theorem mi_X6_setVideo : Cond.instanceMethod yX6_setVideo ∈ gT := sg2 (List.mem_of_getElem? (i := 50) rfl) rfl
theorem ms_X6_setVideo : Cond.selects RX6 yX6_setVideo yX6_setVideo ∈ gT := sg2 (List.mem_of_getElem? (i := 51) rfl) rfl
theorem mc_X6_setVideo : Cond.code yX6_setVideo cX6_setVideo 3 (some .int) ∈ gT := sg2 (List.mem_of_getElem? (i := 52) rfl) rfl
theorem mm_X6_56 : Cond.methodLink RX6 56 yX6_isWithin ∈ gT := sg2 (List.mem_of_getElem? (i := 53) rfl) rfl
theorem mt_X6_isWithin : Cond.static yX6_isWithin ∈ gT := sg2 (List.mem_of_getElem? (i := 54) rfl) rfl
theorem mc_X6_isWithin : Cond.code yX6_isWithin cX6_isWithin 3 (some .boolean) ∈ gT := sg2 (List.mem_of_getElem? (i := 55) rfl) rfl
theorem mm_X6_60 : Cond.methodLink RX6 60 yX5_replace ∈ gT := sg2 (List.mem_of_getElem? (i := 56) rfl) rfl
theorem mm_X6_64 : Cond.methodLink RX6 64 yX2_begin ∈ gT := sg2 (List.mem_of_getElem? (i := 57) rfl) rfl
theorem mm_L_18 : Cond.methodLink RL 18 yX6_addLevel ∈ gT := sg2 (List.mem_of_getElem? (i := 58) rfl) rfl
theorem mi_X6_addLevel : Cond.instanceMethod yX6_addLevel ∈ gT := sg2 (List.mem_of_getElem? (i := 59) rfl) rfl
theorem ms_X6_addLevel : Cond.selects RX6 yX6_addLevel yX6_addLevel ∈ gT := sg2 (List.mem_of_getElem? (i := 60) rfl) rfl
theorem mc_X6_addLevel : Cond.code yX6_addLevel cX6_addLevel 2 (some .int) ∈ gT := sg2 (List.mem_of_getElem? (i := 61) rfl) rfl
theorem mm_X6_67 : Cond.methodLink RX6 67 yX5_highestBitrate ∈ gT := sg2 (List.mem_of_getElem? (i := 62) rfl) rfl
theorem mi_X5_highestBitrate : Cond.instanceMethod yX5_highestBitrate ∈ gT := sg2 (List.mem_of_getElem? (i := 63) rfl) rfl
theorem ms_X5_highestBitrate : Cond.selects RX5 yX5_highestBitrate yX5_highestBitrate ∈ gT := sg2 (List.mem_of_getElem? (i := 64) rfl) rfl
theorem mc_X5_highestBitrate : Cond.code yX5_highestBitrate cX5_highestBitrate 1 (some .int) ∈ gT := sg2 (List.mem_of_getElem? (i := 65) rfl) rfl
theorem mm_X5_36 : Cond.methodLink RX5 36 yX5_bitrateOf ∈ gT := sg2 (List.mem_of_getElem? (i := 66) rfl) rfl
theorem mi_X5_bitrateOf : Cond.instanceMethod yX5_bitrateOf ∈ gT := sg2 (List.mem_of_getElem? (i := 67) rfl) rfl
theorem ms_X5_bitrateOf : Cond.selects RX5 yX5_bitrateOf yX5_bitrateOf ∈ gT := sg2 (List.mem_of_getElem? (i := 68) rfl) rfl
theorem mc_X5_bitrateOf : Cond.code yX5_bitrateOf cX5_bitrateOf 2 (some .int) ∈ gT := sg2 (List.mem_of_getElem? (i := 69) rfl) rfl
theorem mm_X5_32 : Cond.methodLink RX5 32 yX5_hasLevel ∈ gT := sg2 (List.mem_of_getElem? (i := 70) rfl) rfl
theorem mi_X5_hasLevel : Cond.instanceMethod yX5_hasLevel ∈ gT := sg2 (List.mem_of_getElem? (i := 71) rfl) rfl
theorem ms_X5_hasLevel : Cond.selects RX5 yX5_hasLevel yX5_hasLevel ∈ gT := sg2 (List.mem_of_getElem? (i := 72) rfl) rfl
theorem mc_X5_hasLevel : Cond.code yX5_hasLevel cX5_hasLevel 2 (some .boolean) ∈ gT := sg2 (List.mem_of_getElem? (i := 73) rfl) rfl
theorem mm_X6_74 : Cond.methodLink RX6 74 yX5_appendLevel ∈ gT := sg2 (List.mem_of_getElem? (i := 74) rfl) rfl
theorem mi_X5_appendLevel : Cond.instanceMethod yX5_appendLevel ∈ gT := sg2 (List.mem_of_getElem? (i := 75) rfl) rfl
theorem ms_X5_appendLevel : Cond.selects RX5 yX5_appendLevel yX5_appendLevel ∈ gT := sg2 (List.mem_of_getElem? (i := 76) rfl) rfl
theorem mc_X5_appendLevel : Cond.code yX5_appendLevel cX5_appendLevel 2 none ∈ gT := sg2 (List.mem_of_getElem? (i := 77) rfl) rfl
theorem mm_L_23 : Cond.methodLink RL 23 yX6_setVariation ∈ gT := sg2 (List.mem_of_getElem? (i := 78) rfl) rfl
theorem mi_X6_setVariation : Cond.instanceMethod yX6_setVariation ∈ gT := sg2 (List.mem_of_getElem? (i := 79) rfl) rfl
theorem ms_X6_setVariation : Cond.selects RX6 yX6_setVariation yX6_setVariation ∈ gT := sg2 (List.mem_of_getElem? (i := 80) rfl) rfl
theorem mc_X6_setVariation : Cond.code yX6_setVariation cX6_setVariation 4 (some .int) ∈ gT := sg2 (List.mem_of_getElem? (i := 81) rfl) rfl
theorem mm_X6_78 : Cond.methodLink RX6 78 yX5_hasSegment ∈ gT := sg2 (List.mem_of_getElem? (i := 82) rfl) rfl
theorem mi_X5_hasSegment : Cond.instanceMethod yX5_hasSegment ∈ gT := sg2 (List.mem_of_getElem? (i := 83) rfl) rfl
theorem ms_X5_hasSegment : Cond.selects RX5 yX5_hasSegment yX5_hasSegment ∈ gT := sg2 (List.mem_of_getElem? (i := 84) rfl) rfl
theorem mc_X5_hasSegment : Cond.code yX5_hasSegment cX5_hasSegment 2 (some .boolean) ∈ gT := sg2 (List.mem_of_getElem? (i := 85) rfl) rfl
theorem mm_X6_82 : Cond.methodLink RX6 82 yX5_variationOf ∈ gT := sg2 (List.mem_of_getElem? (i := 86) rfl) rfl
theorem mi_X5_variationOf : Cond.instanceMethod yX5_variationOf ∈ gT := sg2 (List.mem_of_getElem? (i := 87) rfl) rfl
theorem ms_X5_variationOf : Cond.selects RX5 yX5_variationOf yX5_variationOf ∈ gT := sg2 (List.mem_of_getElem? (i := 88) rfl) rfl
theorem mc_X5_variationOf : Cond.code yX5_variationOf cX5_variationOf 2 (some .int) ∈ gT := sg2 (List.mem_of_getElem? (i := 89) rfl) rfl
theorem mm_X5_46 : Cond.methodLink RX5 46 yX5_hasSegment ∈ gT := sg2 (List.mem_of_getElem? (i := 90) rfl) rfl
theorem mm_X6_86 : Cond.methodLink RX6 86 yX5_changeVariation ∈ gT := sg2 (List.mem_of_getElem? (i := 91) rfl) rfl
theorem mi_X5_changeVariation : Cond.instanceMethod yX5_changeVariation ∈ gT := sg2 (List.mem_of_getElem? (i := 92) rfl) rfl
theorem ms_X5_changeVariation : Cond.selects RX5 yX5_changeVariation yX5_changeVariation ∈ gT := sg2 (List.mem_of_getElem? (i := 93) rfl) rfl
theorem mc_X5_changeVariation : Cond.code yX5_changeVariation cX5_changeVariation 3 none ∈ gT := sg2 (List.mem_of_getElem? (i := 94) rfl) rfl
theorem mm_L_27 : Cond.methodLink RL 27 yX6_addPeriod ∈ gT := sg2 (List.mem_of_getElem? (i := 95) rfl) rfl
theorem mi_X6_addPeriod : Cond.instanceMethod yX6_addPeriod ∈ gT := sg2 (List.mem_of_getElem? (i := 96) rfl) rfl
theorem ms_X6_addPeriod : Cond.selects RX6 yX6_addPeriod yX6_addPeriod ∈ gT := sg2 (List.mem_of_getElem? (i := 97) rfl) rfl
theorem mc_X6_addPeriod : Cond.code yX6_addPeriod cX6_addPeriod 3 (some .int) ∈ gT := sg2 (List.mem_of_getElem? (i := 98) rfl) rfl
theorem mk_X6_89 : Cond.constant RX6 89 (60000) ∈ gT := sg2 (List.mem_of_getElem? (i := 99) rfl) rfl
theorem mm_X6_93 : Cond.methodLink RX6 93 yX0_appendPeriod ∈ gT := sg2 (List.mem_of_getElem? (i := 100) rfl) rfl
theorem mi_X0_appendPeriod : Cond.instanceMethod yX0_appendPeriod ∈ gT := sg2 (List.mem_of_getElem? (i := 101) rfl) rfl
theorem ms_X0_appendPeriod : Cond.selects RX0 yX0_appendPeriod yX0_appendPeriod ∈ gT := sg2 (List.mem_of_getElem? (i := 102) rfl) rfl
theorem mc_X0_appendPeriod : Cond.code yX0_appendPeriod cX0_appendPeriod 4 none ∈ gT := sg2 (List.mem_of_getElem? (i := 103) rfl) rfl
theorem mm_L_31 : Cond.methodLink RL 31 yX6_setBuffer ∈ gT := sg2 (List.mem_of_getElem? (i := 104) rfl) rfl
theorem mi_X6_setBuffer : Cond.instanceMethod yX6_setBuffer ∈ gT := sg2 (List.mem_of_getElem? (i := 105) rfl) rfl
theorem ms_X6_setBuffer : Cond.selects RX6 yX6_setBuffer yX6_setBuffer ∈ gT := sg2 (List.mem_of_getElem? (i := 106) rfl) rfl
theorem mc_X6_setBuffer : Cond.code yX6_setBuffer cX6_setBuffer 3 (some .int) ∈ gT := sg2 (List.mem_of_getElem? (i := 107) rfl) rfl
theorem mm_X6_96 : Cond.methodLink RX6 96 yX3_changeBuffer ∈ gT := sg2 (List.mem_of_getElem? (i := 108) rfl) rfl
theorem mi_X3_changeBuffer : Cond.instanceMethod yX3_changeBuffer ∈ gT := sg2 (List.mem_of_getElem? (i := 109) rfl) rfl
theorem ms_X3_changeBuffer : Cond.selects RX3 yX3_changeBuffer yX3_changeBuffer ∈ gT := sg2 (List.mem_of_getElem? (i := 110) rfl) rfl
theorem mc_X3_changeBuffer : Cond.code yX3_changeBuffer cX3_changeBuffer 4 (some .boolean) ∈ gT := sg2 (List.mem_of_getElem? (i := 111) rfl) rfl
theorem mm_X6_100 : Cond.methodLink RX6 100 yX6_oneIf ∈ gT := sg2 (List.mem_of_getElem? (i := 112) rfl) rfl
theorem mt_X6_oneIf : Cond.static yX6_oneIf ∈ gT := sg2 (List.mem_of_getElem? (i := 113) rfl) rfl
theorem mc_X6_oneIf : Cond.code yX6_oneIf cX6_oneIf 1 (some .int) ∈ gT := sg2 (List.mem_of_getElem? (i := 114) rfl) rfl
theorem mm_L_35 : Cond.methodLink RL 35 yX6_setPolicyNumbers ∈ gT := sg2 (List.mem_of_getElem? (i := 115) rfl) rfl
theorem mi_X6_setPolicyNumbers : Cond.instanceMethod yX6_setPolicyNumbers ∈ gT := sg2 (List.mem_of_getElem? (i := 116) rfl) rfl
theorem ms_X6_setPolicyNumbers : Cond.selects RX6 yX6_setPolicyNumbers yX6_setPolicyNumbers ∈ gT := sg2 (List.mem_of_getElem? (i := 117) rfl) rfl
theorem mc_X6_setPolicyNumbers : Cond.code yX6_setPolicyNumbers cX6_setPolicyNumbers 4 (some .int) ∈ gT := sg2 (List.mem_of_getElem? (i := 118) rfl) rfl
theorem mm_X6_104 : Cond.methodLink RX6 104 yX3_changePolicyNumbers ∈ gT := sg2 (List.mem_of_getElem? (i := 119) rfl) rfl
theorem mi_X3_changePolicyNumbers : Cond.instanceMethod yX3_changePolicyNumbers ∈ gT := sg2 (List.mem_of_getElem? (i := 120) rfl) rfl
theorem ms_X3_changePolicyNumbers : Cond.selects RX3 yX3_changePolicyNumbers yX3_changePolicyNumbers ∈ gT := sg2 (List.mem_of_getElem? (i := 121) rfl) rfl
theorem mc_X3_changePolicyNumbers : Cond.code yX3_changePolicyNumbers cX3_changePolicyNumbers 5 (some .boolean) ∈ gT := sg2 (List.mem_of_getElem? (i := 122) rfl) rfl
theorem mm_L_40 : Cond.methodLink RL 40 yX6_typeKey ∈ gT := sg2 (List.mem_of_getElem? (i := 123) rfl) rfl
theorem mi_X6_typeKey : Cond.instanceMethod yX6_typeKey ∈ gT := sg2 (List.mem_of_getElem? (i := 124) rfl) rfl
theorem ms_X6_typeKey : Cond.selects RX6 yX6_typeKey yX6_typeKey ∈ gT := sg2 (List.mem_of_getElem? (i := 125) rfl) rfl
theorem mc_X6_typeKey : Cond.code yX6_typeKey cX6_typeKey 2 (some .int) ∈ gT := sg2 (List.mem_of_getElem? (i := 126) rfl) rfl
theorem mm_X6_107 : Cond.methodLink RX6 107 yJ4_length_8abf5 ∈ gT := sg2 (List.mem_of_getElem? (i := 127) rfl) rfl
theorem mi_J4_length_8abf5 : Cond.instanceMethod yJ4_length_8abf5 ∈ gT := sg2 (List.mem_of_getElem? (i := 128) rfl) rfl
theorem ms_J4_length_8abf5 : Cond.selects RJ4 yJ4_length_8abf5 yJ4_length_8abf5 ∈ gT := sg2 (List.mem_of_getElem? (i := 129) rfl) rfl
theorem mc_J4_length_8abf5 : Cond.code yJ4_length_8abf5 cJ4_length_8abf5 1 (some .int) ∈ gT := sg2 (List.mem_of_getElem? (i := 130) rfl) rfl
theorem mm_J4_343 : Cond.methodLink RJ4 343 yJ5_length_8abf5 ∈ gT := sg2 (List.mem_of_getElem? (i := 131) rfl) rfl
theorem mi_J5_length_8abf5 : Cond.instanceMethod yJ5_length_8abf5 ∈ gT := sg2 (List.mem_of_getElem? (i := 132) rfl) rfl
theorem mc_J5_length_8abf5 : Cond.code yJ5_length_8abf5 cJ5_length_8abf5 1 (some .int) ∈ gT := sg2 (List.mem_of_getElem? (i := 133) rfl) rfl
theorem mm_X6_110 : Cond.methodLink RX6 110 yJ4_append_cf468 ∈ gT := sg2 (List.mem_of_getElem? (i := 134) rfl) rfl
theorem mi_J4_append_cf468 : Cond.instanceMethod yJ4_append_cf468 ∈ gT := sg2 (List.mem_of_getElem? (i := 135) rfl) rfl
theorem ms_J4_append_cf468 : Cond.selects RJ4 yJ4_append_cf468 yJ4_append_cf468 ∈ gT := sg2 (List.mem_of_getElem? (i := 136) rfl) rfl
theorem mc_J4_append_cf468 : Cond.code yJ4_append_cf468 cJ4_append_cf468 2 (some (.object "java/lang/StringBuilder")) ∈ gT := sg2 (List.mem_of_getElem? (i := 137) rfl) rfl
theorem mm_J4_50 : Cond.methodLink RJ4 50 yJ5_append_3fe6f ∈ gT := sg2 (List.mem_of_getElem? (i := 138) rfl) rfl
theorem mi_J5_append_3fe6f : Cond.instanceMethod yJ5_append_3fe6f ∈ gT := sg2 (List.mem_of_getElem? (i := 139) rfl) rfl
theorem mc_J5_append_3fe6f : Cond.code yJ5_append_3fe6f cJ5_append_3fe6f 2 (some (.object "java/lang/AbstractStringBuilder")) ∈ gT := sg2 (List.mem_of_getElem? (i := 140) rfl) rfl
theorem mm_J5_100 : Cond.methodLink RJ5 100 yJ5_ensureCapacityInternal_d00df ∈ gT := sg2 (List.mem_of_getElem? (i := 141) rfl) rfl
theorem mi_J5_ensureCapacityInternal_d00df : Cond.instanceMethod yJ5_ensureCapacityInternal_d00df ∈ gT := sg2 (List.mem_of_getElem? (i := 143) rfl) rfl
theorem mc_J5_ensureCapacityInternal_d00df : Cond.code yJ5_ensureCapacityInternal_d00df cJ5_ensureCapacityInternal_d00df 3 none ∈ gT := sg2 (List.mem_of_getElem? (i := 144) rfl) rfl
theorem mm_J5_104 : Cond.methodLink RJ5 104 yJ5_newCapacity_0f7a4 ∈ gT := sg2 (List.mem_of_getElem? (i := 145) rfl) rfl
theorem mi_J5_newCapacity_0f7a4 : Cond.instanceMethod yJ5_newCapacity_0f7a4 ∈ gT := sg2 (List.mem_of_getElem? (i := 147) rfl) rfl
theorem mc_J5_newCapacity_0f7a4 : Cond.code yJ5_newCapacity_0f7a4 cJ5_newCapacity_0f7a4 6 (some .int) ∈ gT := sg2 (List.mem_of_getElem? (i := 148) rfl) rfl
theorem mm_J5_114 : Cond.methodLink RJ5 114 yJ8_newLength_cabcc ∈ gT := sg2 (List.mem_of_getElem? (i := 149) rfl) rfl
theorem mt_J8_newLength_cabcc : Cond.static yJ8_newLength_cabcc ∈ gT := sg2 (List.mem_of_getElem? (i := 150) rfl) rfl
theorem mc_J8_newLength_cabcc : Cond.code yJ8_newLength_cabcc cJ8_newLength_cabcc 4 (some .int) ∈ gT := sg2 (List.mem_of_getElem? (i := 151) rfl) rfl
theorem mm_J8_194 : Cond.methodLink RJ8 194 yJ9_max_7cf53 ∈ gT := sg2 (List.mem_of_getElem? (i := 152) rfl) rfl
theorem mt_J9_max_7cf53 : Cond.static yJ9_max_7cf53 ∈ gT := sg2 (List.mem_of_getElem? (i := 153) rfl) rfl
theorem mc_J9_max_7cf53 : Cond.code yJ9_max_7cf53 cJ9_max_7cf53 2 (some .int) ∈ gT := sg2 (List.mem_of_getElem? (i := 154) rfl) rfl
theorem mk_J8_200 : Cond.constant RJ8 200 (2147483639) ∈ gT := sg2 (List.mem_of_getElem? (i := 155) rfl) rfl
theorem mm_J8_201 : Cond.methodLink RJ8 201 yJ8_hugeLength_7cf53 ∈ gT := sg2 (List.mem_of_getElem? (i := 156) rfl) rfl
theorem mt_J8_hugeLength_7cf53 : Cond.static yJ8_hugeLength_7cf53 ∈ gT := sg2 (List.mem_of_getElem? (i := 157) rfl) rfl
theorem mc_J8_hugeLength_7cf53 : Cond.code yJ8_hugeLength_7cf53 cJ8_hugeLength_7cf53 3 (some .int) ∈ gT := sg2 (List.mem_of_getElem? (i := 158) rfl) rfl
theorem mk_J5_39 : Cond.constant RJ5 39 (2147483647) ∈ gT := sg2 (List.mem_of_getElem? (i := 159) rfl) rfl
theorem mm_J5_108 : Cond.methodLink RJ5 108 yJ7_copyOf_9075b ∈ gT := sg2 (List.mem_of_getElem? (i := 160) rfl) rfl
theorem mt_J7_copyOf_9075b : Cond.static yJ7_copyOf_9075b ∈ gT := sg2 (List.mem_of_getElem? (i := 161) rfl) rfl
theorem mc_J7_copyOf_9075b : Cond.code yJ7_copyOf_9075b cJ7_copyOf_9075b 3 (some (.array .byte)) ∈ gT := sg2 (List.mem_of_getElem? (i := 162) rfl) rfl
theorem mm_J7_310 : Cond.methodLink RJ7 310 ⟨"[B", "clone", "()Ljava/lang/Object;"⟩ ∈ gT := sg2 (List.mem_of_getElem? (i := 163) rfl) rfl
theorem ml_J7_311 : Cond.classLink RJ7 311 "[B" ∈ gT := sg2 (List.mem_of_getElem? (i := 169) rfl) rfl
theorem mm_J7_304 : Cond.methodLink RJ7 304 yJ9_min_7cf53 ∈ gT := sg2 (List.mem_of_getElem? (i := 170) rfl) rfl
theorem mt_J9_min_7cf53 : Cond.static yJ9_min_7cf53 ∈ gT := sg2 (List.mem_of_getElem? (i := 171) rfl) rfl
theorem mc_J9_min_7cf53 : Cond.code yJ9_min_7cf53 cJ9_min_7cf53 2 (some .int) ∈ gT := sg2 (List.mem_of_getElem? (i := 172) rfl) rfl
theorem mm_J7_150 : Cond.methodLink RJ7 150 ⟨RJ10, "arraycopy", "(Ljava/lang/Object;ILjava/lang/Object;II)V"⟩ ∈ gT := sg2 (List.mem_of_getElem? (i := 173) rfl) rfl
theorem mm_J5_83 : Cond.methodLink RJ5 83 yJ5_isLatin1_aae02 ∈ gT := sg2 (List.mem_of_getElem? (i := 176) rfl) rfl
theorem mi_J5_isLatin1_aae02 : Cond.instanceMethod yJ5_isLatin1_aae02 ∈ gT := sg2 (List.mem_of_getElem? (i := 177) rfl) rfl
theorem ms_J4_J5_isLatin1_aae02_J5_isLatin1_aae02 : Cond.selects RJ4 yJ5_isLatin1_aae02 yJ5_isLatin1_aae02 ∈ gT := sg2 (List.mem_of_getElem? (i := 179) rfl) rfl
theorem mc_J5_isLatin1_aae02 : Cond.code yJ5_isLatin1_aae02 cJ5_isLatin1_aae02 1 (some .boolean) ∈ gT := sg2 (List.mem_of_getElem? (i := 180) rfl) rfl
theorem mm_J5_191 : Cond.methodLink RJ5 191 yJ1_canEncode_fc78d ∈ gT := sg2 (List.mem_of_getElem? (i := 181) rfl) rfl
theorem mt_J1_canEncode_fc78d : Cond.static yJ1_canEncode_fc78d ∈ gT := sg2 (List.mem_of_getElem? (i := 182) rfl) rfl
theorem mc_J1_canEncode_fc78d : Cond.code yJ1_canEncode_fc78d cJ1_canEncode_fc78d 1 (some .boolean) ∈ gT := sg2 (List.mem_of_getElem? (i := 183) rfl) rfl
theorem mm_J5_195 : Cond.methodLink RJ5 195 yJ5_inflate_da8c8 ∈ gT := sg2 (List.mem_of_getElem? (i := 184) rfl) rfl
theorem mi_J5_inflate_da8c8 : Cond.instanceMethod yJ5_inflate_da8c8 ∈ gT := sg2 (List.mem_of_getElem? (i := 186) rfl) rfl
theorem mc_J5_inflate_da8c8 : Cond.code yJ5_inflate_da8c8 cJ5_inflate_da8c8 2 none ∈ gT := sg2 (List.mem_of_getElem? (i := 187) rfl) rfl
theorem mm_J5_125 : Cond.methodLink RJ5 125 yJ1_inflate_0e8fd ∈ gT := sg2 (List.mem_of_getElem? (i := 188) rfl) rfl
theorem mt_J1_inflate_0e8fd : Cond.static yJ1_inflate_0e8fd ∈ gT := sg2 (List.mem_of_getElem? (i := 189) rfl) rfl
theorem mc_J1_inflate_0e8fd : Cond.code yJ1_inflate_0e8fd cJ1_inflate_0e8fd 5 none ∈ gT := sg2 (List.mem_of_getElem? (i := 190) rfl) rfl
theorem mm_J1_240 : Cond.methodLink RJ1 240 yJ2_inflate_0e8fd ∈ gT := sg2 (List.mem_of_getElem? (i := 191) rfl) rfl
theorem mt_J2_inflate_0e8fd : Cond.static yJ2_inflate_0e8fd ∈ gT := sg2 (List.mem_of_getElem? (i := 192) rfl) rfl
theorem mc_J2_inflate_0e8fd : Cond.code yJ2_inflate_0e8fd cJ2_inflate_0e8fd 6 none ∈ gT := sg2 (List.mem_of_getElem? (i := 193) rfl) rfl
theorem mm_J2_173 : Cond.methodLink RJ2 173 yJ2_checkBoundsOffCount_d044e ∈ gT := sg2 (List.mem_of_getElem? (i := 194) rfl) rfl
theorem mt_J2_checkBoundsOffCount_d044e : Cond.static yJ2_checkBoundsOffCount_d044e ∈ gT := sg2 (List.mem_of_getElem? (i := 195) rfl) rfl
theorem mc_J2_checkBoundsOffCount_d044e : Cond.code yJ2_checkBoundsOffCount_d044e cJ2_checkBoundsOffCount_d044e 3 none ∈ gT := sg2 (List.mem_of_getElem? (i := 196) rfl) rfl
theorem mm_J2_48 : Cond.methodLink RJ2 48 yJ2_length_9d52b ∈ gT := sg2 (List.mem_of_getElem? (i := 197) rfl) rfl
theorem mt_J2_length_9d52b : Cond.static yJ2_length_9d52b ∈ gT := sg2 (List.mem_of_getElem? (i := 198) rfl) rfl
theorem mc_J2_length_9d52b : Cond.code yJ2_length_9d52b cJ2_length_9d52b 1 (some .int) ∈ gT := sg2 (List.mem_of_getElem? (i := 199) rfl) rfl
theorem mm_J2_419 : Cond.methodLink RJ2 419 yJ0_checkBoundsOffCount_cabcc ∈ gT := sg2 (List.mem_of_getElem? (i := 200) rfl) rfl
theorem mt_J0_checkBoundsOffCount_cabcc : Cond.static yJ0_checkBoundsOffCount_cabcc ∈ gT := sg2 (List.mem_of_getElem? (i := 201) rfl) rfl
theorem mc_J0_checkBoundsOffCount_cabcc : Cond.code yJ0_checkBoundsOffCount_cabcc cJ0_checkBoundsOffCount_cabcc 3 (some .int) ∈ gT := sg2 (List.mem_of_getElem? (i := 202) rfl) rfl
theorem mf_J0_1053 : Cond.fieldLink RJ0 1053 "jdk/internal/util/Preconditions" "SIOOBE_FORMATTER" "Ljava/util/function/BiFunction;" ∈ gT := sg2 (List.mem_of_getElem? (i := 203) rfl) rfl
theorem mm_J0_1065 : Cond.methodLink RJ0 1065 yJ3_checkFromIndexSize_8c36e ∈ gT := sg2 (List.mem_of_getElem? (i := 205) rfl) rfl
theorem mt_J3_checkFromIndexSize_8c36e : Cond.static yJ3_checkFromIndexSize_8c36e ∈ gT := sg2 (List.mem_of_getElem? (i := 206) rfl) rfl
theorem mc_J3_checkFromIndexSize_8c36e : Cond.code yJ3_checkFromIndexSize_8c36e cJ3_checkFromIndexSize_8c36e 4 (some .int) ∈ gT := sg2 (List.mem_of_getElem? (i := 207) rfl) rfl
theorem mm_J2_111 : Cond.methodLink RJ2 111 yJ2_putChar_b72d1 ∈ gT := sg2 (List.mem_of_getElem? (i := 208) rfl) rfl
theorem mt_J2_putChar_b72d1 : Cond.static yJ2_putChar_b72d1 ∈ gT := sg2 (List.mem_of_getElem? (i := 209) rfl) rfl
theorem mc_J2_putChar_b72d1 : Cond.code yJ2_putChar_b72d1 cJ2_putChar_b72d1 3 none ∈ gT := sg2 (List.mem_of_getElem? (i := 210) rfl) rfl
theorem mf_J2_44 : Cond.fieldLink RJ2 44 "java/lang/StringUTF16" "$assertionsDisabled" "Z" ∈ gT := sg2 (List.mem_of_getElem? (i := 211) rfl) rfl
theorem mf_J2_59 : Cond.fieldLink RJ2 59 "java/lang/StringUTF16" "HI_BYTE_SHIFT" "I" ∈ gT := sg2 (List.mem_of_getElem? (i := 213) rfl) rfl
theorem mf_J2_63 : Cond.fieldLink RJ2 63 "java/lang/StringUTF16" "LO_BYTE_SHIFT" "I" ∈ gT := sg2 (List.mem_of_getElem? (i := 215) rfl) rfl
theorem mm_J5_197 : Cond.methodLink RJ5 197 yJ2_putCharSB_b72d1 ∈ gT := sg2 (List.mem_of_getElem? (i := 217) rfl) rfl
theorem mt_J2_putCharSB_b72d1 : Cond.static yJ2_putCharSB_b72d1 ∈ gT := sg2 (List.mem_of_getElem? (i := 218) rfl) rfl
theorem mc_J2_putCharSB_b72d1 : Cond.code yJ2_putCharSB_b72d1 cJ2_putCharSB_b72d1 3 none ∈ gT := sg2 (List.mem_of_getElem? (i := 219) rfl) rfl
theorem mm_J2_67 : Cond.methodLink RJ2 67 yJ2_checkIndex_2214a ∈ gT := sg2 (List.mem_of_getElem? (i := 220) rfl) rfl
theorem mt_J2_checkIndex_2214a : Cond.static yJ2_checkIndex_2214a ∈ gT := sg2 (List.mem_of_getElem? (i := 221) rfl) rfl
theorem mc_J2_checkIndex_2214a : Cond.code yJ2_checkIndex_2214a cJ2_checkIndex_2214a 2 none ∈ gT := sg2 (List.mem_of_getElem? (i := 222) rfl) rfl
theorem mm_J2_414 : Cond.methodLink RJ2 414 yJ0_checkIndex_df160 ∈ gT := sg2 (List.mem_of_getElem? (i := 223) rfl) rfl
theorem mt_J0_checkIndex_df160 : Cond.static yJ0_checkIndex_df160 ∈ gT := sg2 (List.mem_of_getElem? (i := 224) rfl) rfl
theorem mc_J0_checkIndex_df160 : Cond.code yJ0_checkIndex_df160 cJ0_checkIndex_df160 2 none ∈ gT := sg2 (List.mem_of_getElem? (i := 225) rfl) rfl
theorem mm_J0_1059 : Cond.methodLink RJ0 1059 yJ3_checkIndex_8e157 ∈ gT := sg2 (List.mem_of_getElem? (i := 226) rfl) rfl
theorem mt_J3_checkIndex_8e157 : Cond.static yJ3_checkIndex_8e157 ∈ gT := sg2 (List.mem_of_getElem? (i := 227) rfl) rfl
theorem mc_J3_checkIndex_8e157 : Cond.code yJ3_checkIndex_8e157 cJ3_checkIndex_8e157 3 (some .int) ∈ gT := sg2 (List.mem_of_getElem? (i := 228) rfl) rfl
theorem mm_L_44 : Cond.methodLink RL 44 yX6_runCommand ∈ gT := sg2 (List.mem_of_getElem? (i := 229) rfl) rfl
theorem mi_X6_runCommand : Cond.instanceMethod yX6_runCommand ∈ gT := sg2 (List.mem_of_getElem? (i := 230) rfl) rfl
theorem ms_X6_runCommand : Cond.selects RX6 yX6_runCommand yX6_runCommand ∈ gT := sg2 (List.mem_of_getElem? (i := 231) rfl) rfl
theorem mc_X6_runCommand : Cond.code yX6_runCommand cX6_runCommand 3 (some .int) ∈ gT := sg2 (List.mem_of_getElem? (i := 232) rfl) rfl
theorem mm_X6_114 : Cond.methodLink RX6 114 yJ4_toString_0e30d ∈ gT := sg2 (List.mem_of_getElem? (i := 233) rfl) rfl
theorem mi_J4_toString_0e30d : Cond.instanceMethod yJ4_toString_0e30d ∈ gT := sg2 (List.mem_of_getElem? (i := 234) rfl) rfl
theorem ms_J4_toString_0e30d : Cond.selects RJ4 yJ4_toString_0e30d yJ4_toString_0e30d ∈ gT := sg2 (List.mem_of_getElem? (i := 235) rfl) rfl
theorem mc_J4_toString_0e30d : Cond.code yJ4_toString_0e30d cJ4_toString_0e30d 1 (some (.object "java/lang/String")) ∈ gT := sg2 (List.mem_of_getElem? (i := 236) rfl) rfl
theorem ml_J4_18 : Cond.classLink RJ4 18 RJ0 ∈ gT := sg2 (List.mem_of_getElem? (i := 237) rfl) rfl
theorem mq_J0 : Cond.instantiable RJ0 4 ∈ gT := sg2 (List.mem_of_getElem? (i := 238) rfl) rfl
theorem mm_J4_137 : Cond.methodLink RJ4 137 yJ0_init_81219 ∈ gT := sg2 (List.mem_of_getElem? (i := 239) rfl) rfl
theorem mi_J0_init_81219 : Cond.instanceMethod yJ0_init_81219 ∈ gT := sg3 (List.mem_of_getElem? (i := 0) rfl) rfl
theorem mc_J0_init_81219 : Cond.code yJ0_init_81219 cJ0_init_81219 2 none ∈ gT := sg3 (List.mem_of_getElem? (i := 1) rfl) rfl
theorem mm_J0_489 : Cond.methodLink RJ0 489 yJ0_init_db425 ∈ gT := sg3 (List.mem_of_getElem? (i := 2) rfl) rfl
theorem mi_J0_init_db425 : Cond.instanceMethod yJ0_init_db425 ∈ gT := sg3 (List.mem_of_getElem? (i := 3) rfl) rfl
theorem mc_J0_init_db425 : Cond.code yJ0_init_db425 cJ0_init_db425 5 none ∈ gT := sg3 (List.mem_of_getElem? (i := 4) rfl) rfl
theorem mm_J0_1 : Cond.methodLink RJ0 1 Lib.objectInit ∈ gT := sg3 (List.mem_of_getElem? (i := 5) rfl) rfl
theorem mm_J0_552 : Cond.methodLink RJ0 552 yJ5_getValue_6d5f1 ∈ gT := sg3 (List.mem_of_getElem? (i := 6) rfl) rfl
theorem mi_J5_getValue_6d5f1 : Cond.instanceMethod yJ5_getValue_6d5f1 ∈ gT := sg3 (List.mem_of_getElem? (i := 7) rfl) rfl
theorem ms_J4_J5_getValue_6d5f1_J5_getValue_6d5f1 : Cond.selects RJ4 yJ5_getValue_6d5f1 yJ5_getValue_6d5f1 ∈ gT := sg3 (List.mem_of_getElem? (i := 9) rfl) rfl
theorem mc_J5_getValue_6d5f1 : Cond.code yJ5_getValue_6d5f1 cJ5_getValue_6d5f1 1 (some (.array .byte)) ∈ gT := sg3 (List.mem_of_getElem? (i := 10) rfl) rfl
theorem mm_J0_549 : Cond.methodLink RJ0 549 yJ5_length_8abf5 ∈ gT := sg3 (List.mem_of_getElem? (i := 11) rfl) rfl
theorem mm_J0_1047 : Cond.methodLink RJ0 1047 yJ5_isLatin1_aae02 ∈ gT := sg3 (List.mem_of_getElem? (i := 12) rfl) rfl
theorem mm_J0_54 : Cond.methodLink RJ0 54 yJ7_copyOfRange_39247 ∈ gT := sg3 (List.mem_of_getElem? (i := 13) rfl) rfl
theorem mt_J7_copyOfRange_39247 : Cond.static yJ7_copyOfRange_39247 ∈ gT := sg3 (List.mem_of_getElem? (i := 14) rfl) rfl
theorem mc_J7_copyOfRange_39247 : Cond.code yJ7_copyOfRange_39247 cJ7_copyOfRange_39247 3 (some (.array .byte)) ∈ gT := sg3 (List.mem_of_getElem? (i := 15) rfl) rfl
theorem mm_J7_339 : Cond.methodLink RJ7 339 yJ7_copyOfRangeByte_39247 ∈ gT := sg3 (List.mem_of_getElem? (i := 16) rfl) rfl
theorem mt_J7_copyOfRangeByte_39247 : Cond.static yJ7_copyOfRangeByte_39247 ∈ gT := sg3 (List.mem_of_getElem? (i := 17) rfl) rfl
theorem mc_J7_copyOfRangeByte_39247 : Cond.code yJ7_copyOfRangeByte_39247 cJ7_copyOfRangeByte_39247 5 (some (.array .byte)) ∈ gT := sg3 (List.mem_of_getElem? (i := 18) rfl) rfl
theorem mm_J7_343 : Cond.methodLink RJ7 343 yJ7_checkLength_df160 ∈ gT := sg3 (List.mem_of_getElem? (i := 19) rfl) rfl
theorem mt_J7_checkLength_df160 : Cond.static yJ7_checkLength_df160 ∈ gT := sg3 (List.mem_of_getElem? (i := 20) rfl) rfl
theorem mc_J7_checkLength_df160 : Cond.code yJ7_checkLength_df160 cJ7_checkLength_df160 2 none ∈ gT := sg3 (List.mem_of_getElem? (i := 21) rfl) rfl
theorem mf_J0_38 : Cond.fieldLink RJ0 38 "java/lang/String" "COMPACT_STRINGS" "Z" ∈ gT := sg3 (List.mem_of_getElem? (i := 22) rfl) rfl
theorem mm_J0_1051 : Cond.methodLink RJ0 1051 yJ2_compress_39247 ∈ gT := sg3 (List.mem_of_getElem? (i := 23) rfl) rfl
theorem mt_J2_compress_39247 : Cond.static yJ2_compress_39247 ∈ gT := sg3 (List.mem_of_getElem? (i := 24) rfl) rfl
theorem mc_J2_compress_39247 : Cond.code yJ2_compress_39247 cJ2_compress_39247 6 (some (.array .byte)) ∈ gT := sg3 (List.mem_of_getElem? (i := 25) rfl) rfl
theorem mm_J2_123 : Cond.methodLink RJ2 123 yJ2_compress_5af95 ∈ gT := sg3 (List.mem_of_getElem? (i := 26) rfl) rfl
theorem mt_J2_compress_5af95 : Cond.static yJ2_compress_5af95 ∈ gT := sg3 (List.mem_of_getElem? (i := 27) rfl) rfl
theorem mc_J2_compress_5af95 : Cond.code yJ2_compress_5af95 cJ2_compress_5af95 7 (some .int) ∈ gT := sg3 (List.mem_of_getElem? (i := 28) rfl) rfl
theorem mm_J2_71 : Cond.methodLink RJ2 71 yJ2_getChar_3b067 ∈ gT := sg3 (List.mem_of_getElem? (i := 29) rfl) rfl
theorem mt_J2_getChar_3b067 : Cond.static yJ2_getChar_3b067 ∈ gT := sg3 (List.mem_of_getElem? (i := 30) rfl) rfl
theorem mc_J2_getChar_3b067 : Cond.code yJ2_getChar_3b067 cJ2_getChar_3b067 2 (some .char) ∈ gT := sg3 (List.mem_of_getElem? (i := 31) rfl) rfl
theorem mm_J2_126 : Cond.methodLink RJ2 126 yJ7_copyOfRange_39247 ∈ gT := sg3 (List.mem_of_getElem? (i := 32) rfl) rfl
theorem mm_J0_47 : Cond.methodLink RJ0 47 yJ2_coderFromArrayLen_85cad ∈ gT := sg3 (List.mem_of_getElem? (i := 33) rfl) rfl
theorem mt_J2_coderFromArrayLen_85cad : Cond.static yJ2_coderFromArrayLen_85cad ∈ gT := sg3 (List.mem_of_getElem? (i := 34) rfl) rfl
theorem mc_J2_coderFromArrayLen_85cad : Cond.code yJ2_coderFromArrayLen_85cad cJ2_coderFromArrayLen_85cad 2 (some .byte) ∈ gT := sg3 (List.mem_of_getElem? (i := 35) rfl) rfl
theorem mf_J0_9 : Cond.fieldLink RJ0 9 "java/lang/String" "value" "[B" ∈ gT := sg3 (List.mem_of_getElem? (i := 36) rfl) rfl
theorem mf_J0_15 : Cond.fieldLink RJ0 15 "java/lang/String" "coder" "B" ∈ gT := sg3 (List.mem_of_getElem? (i := 37) rfl) rfl
theorem mm_X6_118 : Cond.methodLink RX6 118 yJ4_setLength_d00df ∈ gT := sg3 (List.mem_of_getElem? (i := 47) rfl) rfl
theorem mi_J4_setLength_d00df : Cond.instanceMethod yJ4_setLength_d00df ∈ gT := sg3 (List.mem_of_getElem? (i := 48) rfl) rfl
theorem ms_J4_setLength_d00df : Cond.selects RJ4 yJ4_setLength_d00df yJ4_setLength_d00df ∈ gT := sg3 (List.mem_of_getElem? (i := 49) rfl) rfl
theorem mc_J4_setLength_d00df : Cond.code yJ4_setLength_d00df cJ4_setLength_d00df 2 none ∈ gT := sg3 (List.mem_of_getElem? (i := 50) rfl) rfl
theorem mm_J4_333 : Cond.methodLink RJ4 333 yJ5_setLength_d00df ∈ gT := sg3 (List.mem_of_getElem? (i := 51) rfl) rfl
theorem mi_J5_setLength_d00df : Cond.instanceMethod yJ5_setLength_d00df ∈ gT := sg3 (List.mem_of_getElem? (i := 52) rfl) rfl
theorem mc_J5_setLength_d00df : Cond.code yJ5_setLength_d00df cJ5_setLength_d00df 2 none ∈ gT := sg3 (List.mem_of_getElem? (i := 53) rfl) rfl
theorem mm_J5_133 : Cond.methodLink RJ5 133 yJ1_fillNull_b72d1 ∈ gT := sg3 (List.mem_of_getElem? (i := 54) rfl) rfl
theorem mt_J1_fillNull_b72d1 : Cond.static yJ1_fillNull_b72d1 ∈ gT := sg3 (List.mem_of_getElem? (i := 55) rfl) rfl
theorem mc_J1_fillNull_b72d1 : Cond.code yJ1_fillNull_b72d1 cJ1_fillNull_b72d1 3 none ∈ gT := sg3 (List.mem_of_getElem? (i := 56) rfl) rfl
theorem mm_J1_236 : Cond.methodLink RJ1 236 yJ7_fill_eb02e ∈ gT := sg3 (List.mem_of_getElem? (i := 57) rfl) rfl
theorem mt_J7_fill_eb02e : Cond.static yJ7_fill_eb02e ∈ gT := sg3 (List.mem_of_getElem? (i := 58) rfl) rfl
theorem mc_J7_fill_eb02e : Cond.code yJ7_fill_eb02e cJ7_fill_eb02e 5 none ∈ gT := sg3 (List.mem_of_getElem? (i := 59) rfl) rfl
theorem mm_J7_13 : Cond.methodLink RJ7 13 yJ7_rangeCheck_23922 ∈ gT := sg3 (List.mem_of_getElem? (i := 60) rfl) rfl
theorem mt_J7_rangeCheck_23922 : Cond.static yJ7_rangeCheck_23922 ∈ gT := sg3 (List.mem_of_getElem? (i := 61) rfl) rfl
theorem mc_J7_rangeCheck_23922 : Cond.code yJ7_rangeCheck_23922 cJ7_rangeCheck_23922 3 none ∈ gT := sg3 (List.mem_of_getElem? (i := 62) rfl) rfl
theorem mm_J5_137 : Cond.methodLink RJ5 137 yJ2_fillNull_b72d1 ∈ gT := sg3 (List.mem_of_getElem? (i := 63) rfl) rfl
theorem mt_J2_fillNull_b72d1 : Cond.static yJ2_fillNull_b72d1 ∈ gT := sg3 (List.mem_of_getElem? (i := 64) rfl) rfl
theorem mc_J2_fillNull_b72d1 : Cond.code yJ2_fillNull_b72d1 cJ2_fillNull_b72d1 3 none ∈ gT := sg3 (List.mem_of_getElem? (i := 65) rfl) rfl
theorem mm_J2_380 : Cond.methodLink RJ2 380 yJ7_fill_eb02e ∈ gT := sg3 (List.mem_of_getElem? (i := 66) rfl) rfl
theorem mm_X6_121 : Cond.methodLink RX6 121 yJ0_indexOf_0f7a4 ∈ gT := sg3 (List.mem_of_getElem? (i := 67) rfl) rfl
theorem mi_J0_indexOf_0f7a4 : Cond.instanceMethod yJ0_indexOf_0f7a4 ∈ gT := sg3 (List.mem_of_getElem? (i := 68) rfl) rfl
theorem ms_J0_indexOf_0f7a4 : Cond.selects RJ0 yJ0_indexOf_0f7a4 yJ0_indexOf_0f7a4 ∈ gT := sg3 (List.mem_of_getElem? (i := 69) rfl) rfl
theorem mc_J0_indexOf_0f7a4 : Cond.code yJ0_indexOf_0f7a4 cJ0_indexOf_0f7a4 2 (some .int) ∈ gT := sg3 (List.mem_of_getElem? (i := 70) rfl) rfl
theorem mm_J0_633 : Cond.methodLink RJ0 633 yJ0_indexOf_7cf53 ∈ gT := sg3 (List.mem_of_getElem? (i := 71) rfl) rfl
theorem mi_J0_indexOf_7cf53 : Cond.instanceMethod yJ0_indexOf_7cf53 ∈ gT := sg3 (List.mem_of_getElem? (i := 72) rfl) rfl
theorem ms_J0_indexOf_7cf53 : Cond.selects RJ0 yJ0_indexOf_7cf53 yJ0_indexOf_7cf53 ∈ gT := sg3 (List.mem_of_getElem? (i := 73) rfl) rfl
theorem mc_J0_indexOf_7cf53 : Cond.code yJ0_indexOf_7cf53 cJ0_indexOf_7cf53 3 (some .int) ∈ gT := sg3 (List.mem_of_getElem? (i := 74) rfl) rfl
theorem mm_J0_492 : Cond.methodLink RJ0 492 yJ0_isLatin1_aae02 ∈ gT := sg3 (List.mem_of_getElem? (i := 75) rfl) rfl
theorem mi_J0_isLatin1_aae02 : Cond.instanceMethod yJ0_isLatin1_aae02 ∈ gT := sg3 (List.mem_of_getElem? (i := 76) rfl) rfl
theorem ms_J0_isLatin1_aae02 : Cond.selects RJ0 yJ0_isLatin1_aae02 yJ0_isLatin1_aae02 ∈ gT := sg3 (List.mem_of_getElem? (i := 77) rfl) rfl
theorem mc_J0_isLatin1_aae02 : Cond.code yJ0_isLatin1_aae02 cJ0_isLatin1_aae02 1 (some .boolean) ∈ gT := sg3 (List.mem_of_getElem? (i := 78) rfl) rfl
theorem mm_J0_505 : Cond.methodLink RJ0 505 yJ0_length_8abf5 ∈ gT := sg3 (List.mem_of_getElem? (i := 79) rfl) rfl
theorem mi_J0_length_8abf5 : Cond.instanceMethod yJ0_length_8abf5 ∈ gT := sg3 (List.mem_of_getElem? (i := 80) rfl) rfl
theorem ms_J0_length_8abf5 : Cond.selects RJ0 yJ0_length_8abf5 yJ0_length_8abf5 ∈ gT := sg3 (List.mem_of_getElem? (i := 81) rfl) rfl
theorem mc_J0_length_8abf5 : Cond.code yJ0_length_8abf5 cJ0_length_8abf5 1 (some .int) ∈ gT := sg3 (List.mem_of_getElem? (i := 82) rfl) rfl
theorem mm_J0_335 : Cond.methodLink RJ0 335 yJ0_coder_7d493 ∈ gT := sg3 (List.mem_of_getElem? (i := 83) rfl) rfl
theorem mi_J0_coder_7d493 : Cond.instanceMethod yJ0_coder_7d493 ∈ gT := sg3 (List.mem_of_getElem? (i := 84) rfl) rfl
theorem ms_J0_coder_7d493 : Cond.selects RJ0 yJ0_coder_7d493 yJ0_coder_7d493 ∈ gT := sg3 (List.mem_of_getElem? (i := 85) rfl) rfl
theorem mc_J0_coder_7d493 : Cond.code yJ0_coder_7d493 cJ0_coder_7d493 1 (some .byte) ∈ gT := sg3 (List.mem_of_getElem? (i := 86) rfl) rfl
theorem mm_J0_637 : Cond.methodLink RJ0 637 yJ1_indexOf_4cfef ∈ gT := sg3 (List.mem_of_getElem? (i := 87) rfl) rfl
theorem mt_J1_indexOf_4cfef : Cond.static yJ1_indexOf_4cfef ∈ gT := sg3 (List.mem_of_getElem? (i := 88) rfl) rfl
theorem mc_J1_indexOf_4cfef : Cond.code yJ1_indexOf_4cfef cJ1_indexOf_4cfef 4 (some .int) ∈ gT := sg3 (List.mem_of_getElem? (i := 89) rfl) rfl
theorem mm_J1_88 : Cond.methodLink RJ1 88 yJ1_canEncode_9a6ad ∈ gT := sg3 (List.mem_of_getElem? (i := 90) rfl) rfl
theorem mt_J1_canEncode_9a6ad : Cond.static yJ1_canEncode_9a6ad ∈ gT := sg3 (List.mem_of_getElem? (i := 91) rfl) rfl
theorem mc_J1_canEncode_9a6ad : Cond.code yJ1_canEncode_9a6ad cJ1_canEncode_9a6ad 1 (some .boolean) ∈ gT := sg3 (List.mem_of_getElem? (i := 92) rfl) rfl
theorem mm_J1_92 : Cond.methodLink RJ1 92 yJ9_max_7cf53 ∈ gT := sg3 (List.mem_of_getElem? (i := 93) rfl) rfl
theorem mm_J1_38 : Cond.methodLink RJ1 38 yJ9_min_7cf53 ∈ gT := sg3 (List.mem_of_getElem? (i := 94) rfl) rfl
theorem mm_J1_95 : Cond.methodLink RJ1 95 yJ1_indexOfChar_4cfef ∈ gT := sg3 (List.mem_of_getElem? (i := 95) rfl) rfl
theorem mt_J1_indexOfChar_4cfef : Cond.static yJ1_indexOfChar_4cfef ∈ gT := sg3 (List.mem_of_getElem? (i := 96) rfl) rfl
theorem mc_J1_indexOfChar_4cfef : Cond.code yJ1_indexOfChar_4cfef cJ1_indexOfChar_4cfef 6 (some .int) ∈ gT := sg3 (List.mem_of_getElem? (i := 97) rfl) rfl
theorem mm_J0_640 : Cond.methodLink RJ0 640 yJ2_indexOf_4cfef ∈ gT := sg3 (List.mem_of_getElem? (i := 98) rfl) rfl
theorem mt_J2_indexOf_4cfef : Cond.static yJ2_indexOf_4cfef ∈ gT := sg3 (List.mem_of_getElem? (i := 99) rfl) rfl
theorem mc_J2_indexOf_4cfef : Cond.code yJ2_indexOf_4cfef cJ2_indexOf_4cfef 4 (some .int) ∈ gT := sg3 (List.mem_of_getElem? (i := 100) rfl) rfl
theorem mm_J2_224 : Cond.methodLink RJ2 224 yJ9_max_7cf53 ∈ gT := sg3 (List.mem_of_getElem? (i := 101) rfl) rfl
theorem mm_J2_183 : Cond.methodLink RJ2 183 yJ9_min_7cf53 ∈ gT := sg3 (List.mem_of_getElem? (i := 102) rfl) rfl
theorem mk_J2_227 : Cond.constant RJ2 227 (65536) ∈ gT := sg3 (List.mem_of_getElem? (i := 103) rfl) rfl
theorem mm_J2_228 : Cond.methodLink RJ2 228 yJ2_indexOfChar_4cfef ∈ gT := sg3 (List.mem_of_getElem? (i := 104) rfl) rfl
theorem mt_J2_indexOfChar_4cfef : Cond.static yJ2_indexOfChar_4cfef ∈ gT := sg3 (List.mem_of_getElem? (i := 105) rfl) rfl
theorem mc_J2_indexOfChar_4cfef : Cond.code yJ2_indexOfChar_4cfef cJ2_indexOfChar_4cfef 4 (some .int) ∈ gT := sg3 (List.mem_of_getElem? (i := 106) rfl) rfl
theorem mm_J2_96 : Cond.methodLink RJ2 96 yJ2_checkBoundsBeginEnd_d044e ∈ gT := sg3 (List.mem_of_getElem? (i := 107) rfl) rfl
end
section
theorem mt_J2_checkBoundsBeginEnd_d044e : Cond.static yJ2_checkBoundsBeginEnd_d044e ∈ gT := sg3 (List.mem_of_getElem? (i := 108) rfl) rfl
theorem mc_J2_checkBoundsBeginEnd_d044e : Cond.code yJ2_checkBoundsBeginEnd_d044e cJ2_checkBoundsBeginEnd_d044e 3 none ∈ gT := sg3 (List.mem_of_getElem? (i := 109) rfl) rfl
theorem mm_J2_241 : Cond.methodLink RJ2 241 yJ0_checkBoundsBeginEnd_23922 ∈ gT := sg3 (List.mem_of_getElem? (i := 110) rfl) rfl
theorem mt_J0_checkBoundsBeginEnd_23922 : Cond.static yJ0_checkBoundsBeginEnd_23922 ∈ gT := sg3 (List.mem_of_getElem? (i := 111) rfl) rfl
theorem mc_J0_checkBoundsBeginEnd_23922 : Cond.code yJ0_checkBoundsBeginEnd_23922 cJ0_checkBoundsBeginEnd_23922 3 none ∈ gT := sg3 (List.mem_of_getElem? (i := 112) rfl) rfl
theorem mm_J0_1062 : Cond.methodLink RJ0 1062 yJ3_checkFromToIndex_8c36e ∈ gT := sg3 (List.mem_of_getElem? (i := 113) rfl) rfl
theorem mt_J3_checkFromToIndex_8c36e : Cond.static yJ3_checkFromToIndex_8c36e ∈ gT := sg3 (List.mem_of_getElem? (i := 114) rfl) rfl
theorem mc_J3_checkFromToIndex_8c36e : Cond.code yJ3_checkFromToIndex_8c36e cJ3_checkFromToIndex_8c36e 4 (some .int) ∈ gT := sg3 (List.mem_of_getElem? (i := 115) rfl) rfl
theorem mm_J2_244 : Cond.methodLink RJ2 244 yJ2_indexOfCharUnsafe_4cfef ∈ gT := sg3 (List.mem_of_getElem? (i := 116) rfl) rfl
theorem mt_J2_indexOfCharUnsafe_4cfef : Cond.static yJ2_indexOfCharUnsafe_4cfef ∈ gT := sg3 (List.mem_of_getElem? (i := 117) rfl) rfl
theorem mc_J2_indexOfCharUnsafe_4cfef : Cond.code yJ2_indexOfCharUnsafe_4cfef cJ2_indexOfCharUnsafe_4cfef 5 (some .int) ∈ gT := sg3 (List.mem_of_getElem? (i := 118) rfl) rfl
theorem mm_J2_232 : Cond.methodLink RJ2 232 yJ2_indexOfSupplementary_4cfef ∈ gT := sg3 (List.mem_of_getElem? (i := 119) rfl) rfl
theorem mt_J2_indexOfSupplementary_4cfef : Cond.static yJ2_indexOfSupplementary_4cfef ∈ gT := sg3 (List.mem_of_getElem? (i := 120) rfl) rfl
theorem mc_J2_indexOfSupplementary_4cfef : Cond.code yJ2_indexOfSupplementary_4cfef cJ2_indexOfSupplementary_4cfef 7 (some .int) ∈ gT := sg3 (List.mem_of_getElem? (i := 121) rfl) rfl
theorem mm_J2_164 : Cond.methodLink RJ2 164 yJ11_isValidCodePoint_9a6ad ∈ gT := sg3 (List.mem_of_getElem? (i := 122) rfl) rfl
theorem mt_J11_isValidCodePoint_9a6ad : Cond.static yJ11_isValidCodePoint_9a6ad ∈ gT := sg3 (List.mem_of_getElem? (i := 123) rfl) rfl
theorem mc_J11_isValidCodePoint_9a6ad : Cond.code yJ11_isValidCodePoint_9a6ad cJ11_isValidCodePoint_9a6ad 2 (some .boolean) ∈ gT := sg3 (List.mem_of_getElem? (i := 124) rfl) rfl
theorem mm_J2_157 : Cond.methodLink RJ2 157 yJ11_highSurrogate_5068e ∈ gT := sg3 (List.mem_of_getElem? (i := 125) rfl) rfl
theorem mt_J11_highSurrogate_5068e : Cond.static yJ11_highSurrogate_5068e ∈ gT := sg3 (List.mem_of_getElem? (i := 126) rfl) rfl
theorem mc_J11_highSurrogate_5068e : Cond.code yJ11_highSurrogate_5068e cJ11_highSurrogate_5068e 1 (some .char) ∈ gT := sg3 (List.mem_of_getElem? (i := 127) rfl) rfl
theorem mk_J11_110 : Cond.constant RJ11 110 (55232) ∈ gT := sg3 (List.mem_of_getElem? (i := 128) rfl) rfl
theorem mm_J2_161 : Cond.methodLink RJ2 161 yJ11_lowSurrogate_5068e ∈ gT := sg3 (List.mem_of_getElem? (i := 129) rfl) rfl
theorem mt_J11_lowSurrogate_5068e : Cond.static yJ11_lowSurrogate_5068e ∈ gT := sg3 (List.mem_of_getElem? (i := 130) rfl) rfl
theorem mc_J11_lowSurrogate_5068e : Cond.code yJ11_lowSurrogate_5068e cJ11_lowSurrogate_5068e 1 (some .char) ∈ gT := sg3 (List.mem_of_getElem? (i := 131) rfl) rfl
theorem mk_J11_76 : Cond.constant RJ11 76 (56320) ∈ gT := sg3 (List.mem_of_getElem? (i := 132) rfl) rfl
theorem mm_X6_126 : Cond.methodLink RX6 126 yX6_runWord ∈ gT := sg3 (List.mem_of_getElem? (i := 133) rfl) rfl
theorem mi_X6_runWord : Cond.instanceMethod yX6_runWord ∈ gT := sg3 (List.mem_of_getElem? (i := 135) rfl) rfl
theorem mc_X6_runWord : Cond.code yX6_runWord cX6_runWord 2 (some .int) ∈ gT := sg3 (List.mem_of_getElem? (i := 136) rfl) rfl
theorem mm_X6_214 : Cond.methodLink RX6 214 yJ0_equals_9ea2d ∈ gT := sg3 (List.mem_of_getElem? (i := 138) rfl) rfl
theorem mi_J0_equals_9ea2d : Cond.instanceMethod yJ0_equals_9ea2d ∈ gT := sg3 (List.mem_of_getElem? (i := 139) rfl) rfl
theorem ms_J0_equals_9ea2d : Cond.selects RJ0 yJ0_equals_9ea2d yJ0_equals_9ea2d ∈ gT := sg3 (List.mem_of_getElem? (i := 140) rfl) rfl
theorem mc_J0_equals_9ea2d : Cond.code yJ0_equals_9ea2d cJ0_equals_9ea2d 3 (some .boolean) ∈ gT := sg3 (List.mem_of_getElem? (i := 141) rfl) rfl
theorem ml_J0_10 : Cond.classLink RJ0 10 RJ0 ∈ gT := sg3 (List.mem_of_getElem? (i := 142) rfl) rfl
theorem mm_J0_541 : Cond.methodLink RJ0 541 yJ1_equals_b5fdf ∈ gT := sg3 (List.mem_of_getElem? (i := 143) rfl) rfl
theorem mt_J1_equals_b5fdf : Cond.static yJ1_equals_b5fdf ∈ gT := sg3 (List.mem_of_getElem? (i := 144) rfl) rfl
theorem mc_J1_equals_b5fdf : Cond.code yJ1_equals_b5fdf cJ1_equals_b5fdf 3 (some .boolean) ∈ gT := sg3 (List.mem_of_getElem? (i := 145) rfl) rfl
theorem mm_X6_218 : Cond.methodLink RX6 218 yX6_changePause ∈ gT := sg3 (List.mem_of_getElem? (i := 146) rfl) rfl
theorem mi_X6_changePause : Cond.instanceMethod yX6_changePause ∈ gT := sg3 (List.mem_of_getElem? (i := 148) rfl) rfl
theorem mc_X6_changePause : Cond.code yX6_changePause cX6_changePause 3 (some .int) ∈ gT := sg3 (List.mem_of_getElem? (i := 149) rfl) rfl
theorem mm_X6_130 : Cond.methodLink RX6 130 yJ0_substring_37a41 ∈ gT := sg3 (List.mem_of_getElem? (i := 151) rfl) rfl
theorem mi_J0_substring_37a41 : Cond.instanceMethod yJ0_substring_37a41 ∈ gT := sg3 (List.mem_of_getElem? (i := 152) rfl) rfl
theorem ms_J0_substring_37a41 : Cond.selects RJ0 yJ0_substring_37a41 yJ0_substring_37a41 ∈ gT := sg3 (List.mem_of_getElem? (i := 153) rfl) rfl
theorem mc_J0_substring_37a41 : Cond.code yJ0_substring_37a41 cJ0_substring_37a41 5 (some (.object "java/lang/String")) ∈ gT := sg3 (List.mem_of_getElem? (i := 154) rfl) rfl
theorem mm_J0_521 : Cond.methodLink RJ0 521 yJ0_checkBoundsBeginEnd_23922 ∈ gT := sg3 (List.mem_of_getElem? (i := 155) rfl) rfl
theorem mm_J0_685 : Cond.methodLink RJ0 685 yJ1_newString_b4f7a ∈ gT := sg3 (List.mem_of_getElem? (i := 156) rfl) rfl
theorem mt_J1_newString_b4f7a : Cond.static yJ1_newString_b4f7a ∈ gT := sg3 (List.mem_of_getElem? (i := 157) rfl) rfl
theorem mc_J1_newString_b4f7a : Cond.code yJ1_newString_b4f7a cJ1_newString_b4f7a 3 (some (.object "java/lang/String")) ∈ gT := sg3 (List.mem_of_getElem? (i := 158) rfl) rfl
theorem ml_J1_1 : Cond.classLink RJ1 1 RJ0 ∈ gT := sg3 (List.mem_of_getElem? (i := 160) rfl) rfl
theorem mm_J1_232 : Cond.methodLink RJ1 232 yJ7_copyOfRange_39247 ∈ gT := sg3 (List.mem_of_getElem? (i := 161) rfl) rfl
theorem mm_J1_112 : Cond.methodLink RJ1 112 yJ0_init_031fb ∈ gT := sg3 (List.mem_of_getElem? (i := 162) rfl) rfl
theorem mi_J0_init_031fb : Cond.instanceMethod yJ0_init_031fb ∈ gT := sg3 (List.mem_of_getElem? (i := 163) rfl) rfl
theorem mc_J0_init_031fb : Cond.code yJ0_init_031fb cJ0_init_031fb 3 none ∈ gT := sg3 (List.mem_of_getElem? (i := 164) rfl) rfl
theorem mm_J0_689 : Cond.methodLink RJ0 689 yJ2_newString_b4f7a ∈ gT := sg3 (List.mem_of_getElem? (i := 165) rfl) rfl
theorem mt_J2_newString_b4f7a : Cond.static yJ2_newString_b4f7a ∈ gT := sg3 (List.mem_of_getElem? (i := 166) rfl) rfl
theorem mc_J2_newString_b4f7a : Cond.code yJ2_newString_b4f7a cJ2_newString_b4f7a 5 (some (.object "java/lang/String")) ∈ gT := sg3 (List.mem_of_getElem? (i := 167) rfl) rfl
theorem mf_J2_251 : Cond.fieldLink RJ2 251 "java/lang/String" "COMPACT_STRINGS" "Z" ∈ gT := sg3 (List.mem_of_getElem? (i := 169) rfl) rfl
theorem mm_J2_257 : Cond.methodLink RJ2 257 yJ2_compress_39247 ∈ gT := sg3 (List.mem_of_getElem? (i := 170) rfl) rfl
theorem mm_J2_259 : Cond.methodLink RJ2 259 yJ2_coderFromArrayLen_85cad ∈ gT := sg3 (List.mem_of_getElem? (i := 171) rfl) rfl
theorem ml_J2_3 : Cond.classLink RJ2 3 RJ0 ∈ gT := sg3 (List.mem_of_getElem? (i := 172) rfl) rfl
theorem mm_J2_263 : Cond.methodLink RJ2 263 yJ0_init_031fb ∈ gT := sg3 (List.mem_of_getElem? (i := 173) rfl) rfl
theorem mm_X6_134 : Cond.methodLink RX6 134 yJ0_substring_b52d3 ∈ gT := sg3 (List.mem_of_getElem? (i := 174) rfl) rfl
theorem mi_J0_substring_b52d3 : Cond.instanceMethod yJ0_substring_b52d3 ∈ gT := sg3 (List.mem_of_getElem? (i := 175) rfl) rfl
theorem ms_J0_substring_b52d3 : Cond.selects RJ0 yJ0_substring_b52d3 yJ0_substring_b52d3 ∈ gT := sg3 (List.mem_of_getElem? (i := 176) rfl) rfl
theorem mc_J0_substring_b52d3 : Cond.code yJ0_substring_b52d3 cJ0_substring_b52d3 2 (some (.object "java/lang/String")) ∈ gT := sg3 (List.mem_of_getElem? (i := 177) rfl) rfl
theorem mm_J0_681 : Cond.methodLink RJ0 681 yJ0_substring_37a41 ∈ gT := sg3 (List.mem_of_getElem? (i := 178) rfl) rfl
theorem mm_X6_137 : Cond.methodLink RX6 137 yX6_runWordWithArgument ∈ gT := sg3 (List.mem_of_getElem? (i := 179) rfl) rfl
theorem mi_X6_runWordWithArgument : Cond.instanceMethod yX6_runWordWithArgument ∈ gT := sg3 (List.mem_of_getElem? (i := 181) rfl) rfl
theorem mc_X6_runWordWithArgument : Cond.code yX6_runWordWithArgument cX6_runWordWithArgument 3 (some .int) ∈ gT := sg3 (List.mem_of_getElem? (i := 182) rfl) rfl
theorem mm_X6_224 : Cond.methodLink RX6 224 yX6_policyNamed ∈ gT := sg3 (List.mem_of_getElem? (i := 184) rfl) rfl
theorem mt_X6_policyNamed : Cond.static yX6_policyNamed ∈ gT := sg3 (List.mem_of_getElem? (i := 185) rfl) rfl
theorem mc_X6_policyNamed : Cond.code yX6_policyNamed cX6_policyNamed 1 (some .int) ∈ gT := sg3 (List.mem_of_getElem? (i := 186) rfl) rfl
theorem mm_X6_227 : Cond.methodLink RX6 227 yX6_changePolicy ∈ gT := sg3 (List.mem_of_getElem? (i := 191) rfl) rfl
theorem mi_X6_changePolicy : Cond.instanceMethod yX6_changePolicy ∈ gT := sg3 (List.mem_of_getElem? (i := 193) rfl) rfl
theorem mc_X6_changePolicy : Cond.code yX6_changePolicy cX6_changePolicy 3 (some .int) ∈ gT := sg3 (List.mem_of_getElem? (i := 194) rfl) rfl
theorem mm_X6_231 : Cond.methodLink RX6 231 yX6_numberIn ∈ gT := sg3 (List.mem_of_getElem? (i := 196) rfl) rfl
theorem mt_X6_numberIn : Cond.static yX6_numberIn ∈ gT := sg3 (List.mem_of_getElem? (i := 197) rfl) rfl
theorem mc_X6_numberIn : Cond.code yX6_numberIn cX6_numberIn 4 (some .int) ∈ gT := sg3 (List.mem_of_getElem? (i := 198) rfl) rfl
theorem mm_X6_251 : Cond.methodLink RX6 251 yJ0_length_8abf5 ∈ gT := sg3 (List.mem_of_getElem? (i := 199) rfl) rfl
theorem mm_X6_252 : Cond.methodLink RX6 252 yJ0_charAt_5068e ∈ gT := sg3 (List.mem_of_getElem? (i := 200) rfl) rfl
theorem mi_J0_charAt_5068e : Cond.instanceMethod yJ0_charAt_5068e ∈ gT := sg3 (List.mem_of_getElem? (i := 201) rfl) rfl
theorem ms_J0_charAt_5068e : Cond.selects RJ0 yJ0_charAt_5068e yJ0_charAt_5068e ∈ gT := sg3 (List.mem_of_getElem? (i := 202) rfl) rfl
theorem mc_J0_charAt_5068e : Cond.code yJ0_charAt_5068e cJ0_charAt_5068e 2 (some .char) ∈ gT := sg3 (List.mem_of_getElem? (i := 203) rfl) rfl
theorem mm_J0_495 : Cond.methodLink RJ0 495 yJ1_charAt_3b067 ∈ gT := sg3 (List.mem_of_getElem? (i := 204) rfl) rfl
theorem mt_J1_charAt_3b067 : Cond.static yJ1_charAt_3b067 ∈ gT := sg3 (List.mem_of_getElem? (i := 205) rfl) rfl
theorem mc_J1_charAt_3b067 : Cond.code yJ1_charAt_3b067 cJ1_charAt_3b067 2 (some .char) ∈ gT := sg3 (List.mem_of_getElem? (i := 206) rfl) rfl
theorem mm_J1_9 : Cond.methodLink RJ1 9 yJ0_checkIndex_df160 ∈ gT := sg3 (List.mem_of_getElem? (i := 207) rfl) rfl
theorem mm_J0_498 : Cond.methodLink RJ0 498 yJ2_charAt_3b067 ∈ gT := sg3 (List.mem_of_getElem? (i := 208) rfl) rfl
theorem mt_J2_charAt_3b067 : Cond.static yJ2_charAt_3b067 ∈ gT := sg3 (List.mem_of_getElem? (i := 209) rfl) rfl
theorem mc_J2_charAt_3b067 : Cond.code yJ2_charAt_3b067 cJ2_charAt_3b067 2 (some .char) ∈ gT := sg3 (List.mem_of_getElem? (i := 210) rfl) rfl
theorem mm_X6_234 : Cond.methodLink RX6 234 yX6_changeCap ∈ gT := sg3 (List.mem_of_getElem? (i := 211) rfl) rfl
theorem mi_X6_changeCap : Cond.instanceMethod yX6_changeCap ∈ gT := sg3 (List.mem_of_getElem? (i := 213) rfl) rfl
theorem mc_X6_changeCap : Cond.code yX6_changeCap cX6_changeCap 3 (some .int) ∈ gT := sg3 (List.mem_of_getElem? (i := 214) rfl) rfl
theorem mm_X6_239 : Cond.methodLink RX6 239 yX6_seek ∈ gT := sg3 (List.mem_of_getElem? (i := 216) rfl) rfl
theorem mi_X6_seek : Cond.instanceMethod yX6_seek ∈ gT := sg3 (List.mem_of_getElem? (i := 218) rfl) rfl
theorem mc_X6_seek : Cond.code yX6_seek cX6_seek 2 (some .int) ∈ gT := sg3 (List.mem_of_getElem? (i := 219) rfl) rfl
theorem mm_X6_241 : Cond.methodLink RX6 241 yX2_moveTo ∈ gT := sg3 (List.mem_of_getElem? (i := 220) rfl) rfl
theorem mm_L_49 : Cond.methodLink RL 49 yX6_restart ∈ gT := sg3 (List.mem_of_getElem? (i := 221) rfl) rfl
theorem mi_X6_restart : Cond.instanceMethod yX6_restart ∈ gT := sg3 (List.mem_of_getElem? (i := 222) rfl) rfl
theorem ms_X6_restart : Cond.selects RX6 yX6_restart yX6_restart ∈ gT := sg3 (List.mem_of_getElem? (i := 223) rfl) rfl
theorem mc_X6_restart : Cond.code yX6_restart cX6_restart 2 (some .int) ∈ gT := sg3 (List.mem_of_getElem? (i := 224) rfl) rfl
theorem mm_L_53 : Cond.methodLink RL 53 yX6_advance ∈ gT := sg3 (List.mem_of_getElem? (i := 225) rfl) rfl
theorem mi_X6_advance : Cond.instanceMethod yX6_advance ∈ gT := sg3 (List.mem_of_getElem? (i := 226) rfl) rfl
theorem ms_X6_advance : Cond.selects RX6 yX6_advance yX6_advance ∈ gT := sg3 (List.mem_of_getElem? (i := 227) rfl) rfl
theorem mc_X6_advance : Cond.code yX6_advance cX6_advance 4 (some .int) ∈ gT := sg3 (List.mem_of_getElem? (i := 228) rfl) rfl
theorem mm_X6_144 : Cond.methodLink RX6 144 yX2_passMillisecond ∈ gT := sg3 (List.mem_of_getElem? (i := 229) rfl) rfl
theorem mi_X2_passMillisecond : Cond.instanceMethod yX2_passMillisecond ∈ gT := sg3 (List.mem_of_getElem? (i := 230) rfl) rfl
theorem ms_X2_passMillisecond : Cond.selects RX2 yX2_passMillisecond yX2_passMillisecond ∈ gT := sg3 (List.mem_of_getElem? (i := 231) rfl) rfl
theorem mc_X2_passMillisecond : Cond.code yX2_passMillisecond cX2_passMillisecond 4 (some .boolean) ∈ gT := sg3 (List.mem_of_getElem? (i := 232) rfl) rfl
theorem mm_X2_102 : Cond.methodLink RX2 102 yX2_canStartDownload ∈ gT := sg3 (List.mem_of_getElem? (i := 233) rfl) rfl
theorem mi_X2_canStartDownload : Cond.instanceMethod yX2_canStartDownload ∈ gT := sg3 (List.mem_of_getElem? (i := 235) rfl) rfl
theorem mc_X2_canStartDownload : Cond.code yX2_canStartDownload cX2_canStartDownload 1 (some .boolean) ∈ gT := sg3 (List.mem_of_getElem? (i := 236) rfl) rfl
theorem mm_X2_141 : Cond.methodLink RX2 141 yX2_hasNextSegment ∈ gT := sg3 (List.mem_of_getElem? (i := 237) rfl) rfl
theorem mi_X2_hasNextSegment : Cond.instanceMethod yX2_hasNextSegment ∈ gT := sg3 (List.mem_of_getElem? (i := 239) rfl) rfl
theorem mc_X2_hasNextSegment : Cond.code yX2_hasNextSegment cX2_hasNextSegment 1 (some .boolean) ∈ gT := sg4 (List.mem_of_getElem? (i := 0) rfl) rfl
theorem mm_X2_106 : Cond.methodLink RX2 106 yX2_chooseLevel ∈ gT := sg4 (List.mem_of_getElem? (i := 1) rfl) rfl
theorem mi_X2_chooseLevel : Cond.instanceMethod yX2_chooseLevel ∈ gT := sg4 (List.mem_of_getElem? (i := 3) rfl) rfl
theorem mc_X2_chooseLevel : Cond.code yX2_chooseLevel cX2_chooseLevel 4 (some .int) ∈ gT := sg4 (List.mem_of_getElem? (i := 4) rfl) rfl
theorem mm_X2_174 : Cond.methodLink RX2 174 yJ9_min_7cf53 ∈ gT := sg4 (List.mem_of_getElem? (i := 5) rfl) rfl
theorem mm_X2_179 : Cond.methodLink RX2 179 yX2_levelByRate ∈ gT := sg4 (List.mem_of_getElem? (i := 6) rfl) rfl
theorem mi_X2_levelByRate : Cond.instanceMethod yX2_levelByRate ∈ gT := sg4 (List.mem_of_getElem? (i := 8) rfl) rfl
theorem mc_X2_levelByRate : Cond.code yX2_levelByRate cX2_levelByRate 3 (some .int) ∈ gT := sg4 (List.mem_of_getElem? (i := 9) rfl) rfl
theorem mm_X2_188 : Cond.methodLink RX2 188 yX4_estimate ∈ gT := sg4 (List.mem_of_getElem? (i := 10) rfl) rfl
theorem mi_X4_estimate : Cond.instanceMethod yX4_estimate ∈ gT := sg4 (List.mem_of_getElem? (i := 11) rfl) rfl
theorem ms_X4_estimate : Cond.selects RX4 yX4_estimate yX4_estimate ∈ gT := sg4 (List.mem_of_getElem? (i := 12) rfl) rfl
theorem mc_X4_estimate : Cond.code yX4_estimate cX4_estimate 3 (some .int) ∈ gT := sg4 (List.mem_of_getElem? (i := 13) rfl) rfl
theorem mm_X2_194 : Cond.methodLink RX2 194 yX5_highestLevelWithin ∈ gT := sg4 (List.mem_of_getElem? (i := 14) rfl) rfl
theorem mi_X5_highestLevelWithin : Cond.instanceMethod yX5_highestLevelWithin ∈ gT := sg4 (List.mem_of_getElem? (i := 15) rfl) rfl
theorem ms_X5_highestLevelWithin : Cond.selects RX5 yX5_highestLevelWithin yX5_highestLevelWithin ∈ gT := sg4 (List.mem_of_getElem? (i := 16) rfl) rfl
theorem mc_X5_highestLevelWithin : Cond.code yX5_highestLevelWithin cX5_highestLevelWithin 4 (some .int) ∈ gT := sg4 (List.mem_of_getElem? (i := 17) rfl) rfl
theorem mm_X5_40 : Cond.methodLink RX5 40 yJ9_min_7cf53 ∈ gT := sg4 (List.mem_of_getElem? (i := 18) rfl) rfl
theorem mm_X2_182 : Cond.methodLink RX2 182 yX2_levelByBuffer ∈ gT := sg4 (List.mem_of_getElem? (i := 19) rfl) rfl
theorem mi_X2_levelByBuffer : Cond.instanceMethod yX2_levelByBuffer ∈ gT := sg4 (List.mem_of_getElem? (i := 21) rfl) rfl
theorem mc_X2_levelByBuffer : Cond.code yX2_levelByBuffer cX2_levelByBuffer 3 (some .int) ∈ gT := sg4 (List.mem_of_getElem? (i := 22) rfl) rfl
theorem mm_X2_185 : Cond.methodLink RX2 185 yX2_levelByBoth ∈ gT := sg4 (List.mem_of_getElem? (i := 23) rfl) rfl
theorem mi_X2_levelByBoth : Cond.instanceMethod yX2_levelByBoth ∈ gT := sg4 (List.mem_of_getElem? (i := 25) rfl) rfl
theorem mc_X2_levelByBoth : Cond.code yX2_levelByBoth cX2_levelByBoth 3 (some .int) ∈ gT := sg4 (List.mem_of_getElem? (i := 26) rfl) rfl
theorem mm_X2_110 : Cond.methodLink RX2 110 yX5_sizeOf ∈ gT := sg4 (List.mem_of_getElem? (i := 27) rfl) rfl
theorem mi_X5_sizeOf : Cond.instanceMethod yX5_sizeOf ∈ gT := sg4 (List.mem_of_getElem? (i := 28) rfl) rfl
theorem ms_X5_sizeOf : Cond.selects RX5 yX5_sizeOf yX5_sizeOf ∈ gT := sg4 (List.mem_of_getElem? (i := 29) rfl) rfl
theorem mc_X5_sizeOf : Cond.code yX5_sizeOf cX5_sizeOf 3 (some .int) ∈ gT := sg4 (List.mem_of_getElem? (i := 30) rfl) rfl
theorem mm_X5_49 : Cond.methodLink RX5 49 yX5_variationOf ∈ gT := sg4 (List.mem_of_getElem? (i := 31) rfl) rfl
theorem mj_X5_52 : Cond.constantLong RX5 52 (100) ∈ gT := sg4 (List.mem_of_getElem? (i := 32) rfl) rfl
theorem mm_X2_113 : Cond.methodLink RX2 113 yX1_start ∈ gT := sg4 (List.mem_of_getElem? (i := 33) rfl) rfl
theorem mi_X1_start : Cond.instanceMethod yX1_start ∈ gT := sg4 (List.mem_of_getElem? (i := 34) rfl) rfl
theorem ms_X1_start : Cond.selects RX1 yX1_start yX1_start ∈ gT := sg4 (List.mem_of_getElem? (i := 35) rfl) rfl
theorem mc_X1_start : Cond.code yX1_start cX1_start 3 none ∈ gT := sg4 (List.mem_of_getElem? (i := 36) rfl) rfl
theorem mm_X2_120 : Cond.methodLink RX2 120 yX0_rateAt ∈ gT := sg4 (List.mem_of_getElem? (i := 37) rfl) rfl
theorem mi_X0_rateAt : Cond.instanceMethod yX0_rateAt ∈ gT := sg4 (List.mem_of_getElem? (i := 38) rfl) rfl
theorem ms_X0_rateAt : Cond.selects RX0 yX0_rateAt yX0_rateAt ∈ gT := sg4 (List.mem_of_getElem? (i := 39) rfl) rfl
theorem mc_X0_rateAt : Cond.code yX0_rateAt cX0_rateAt 5 (some .int) ∈ gT := sg4 (List.mem_of_getElem? (i := 40) rfl) rfl
theorem mm_X0_22 : Cond.methodLink RX0 22 yJ9_min_7cf53 ∈ gT := sg4 (List.mem_of_getElem? (i := 41) rfl) rfl
theorem mm_X2_126 : Cond.methodLink RX2 126 yX1_receive ∈ gT := sg4 (List.mem_of_getElem? (i := 42) rfl) rfl
theorem mi_X1_receive : Cond.instanceMethod yX1_receive ∈ gT := sg4 (List.mem_of_getElem? (i := 43) rfl) rfl
theorem ms_X1_receive : Cond.selects RX1 yX1_receive yX1_receive ∈ gT := sg4 (List.mem_of_getElem? (i := 44) rfl) rfl
theorem mc_X1_receive : Cond.code yX1_receive cX1_receive 2 none ∈ gT := sg4 (List.mem_of_getElem? (i := 45) rfl) rfl
theorem mm_X2_129 : Cond.methodLink RX2 129 yX1_isComplete ∈ gT := sg4 (List.mem_of_getElem? (i := 46) rfl) rfl
theorem mi_X1_isComplete : Cond.instanceMethod yX1_isComplete ∈ gT := sg4 (List.mem_of_getElem? (i := 47) rfl) rfl
theorem ms_X1_isComplete : Cond.selects RX1 yX1_isComplete yX1_isComplete ∈ gT := sg4 (List.mem_of_getElem? (i := 48) rfl) rfl
theorem mc_X1_isComplete : Cond.code yX1_isComplete cX1_isComplete 1 (some .boolean) ∈ gT := sg4 (List.mem_of_getElem? (i := 49) rfl) rfl
theorem mm_X2_132 : Cond.methodLink RX2 132 yX2_completeSegment ∈ gT := sg4 (List.mem_of_getElem? (i := 50) rfl) rfl
theorem mi_X2_completeSegment : Cond.instanceMethod yX2_completeSegment ∈ gT := sg4 (List.mem_of_getElem? (i := 52) rfl) rfl
theorem mc_X2_completeSegment : Cond.code yX2_completeSegment cX2_completeSegment 2 none ∈ gT := sg4 (List.mem_of_getElem? (i := 53) rfl) rfl
theorem mm_X2_152 : Cond.methodLink RX2 152 yX1_throughput ∈ gT := sg4 (List.mem_of_getElem? (i := 54) rfl) rfl
theorem mi_X1_throughput : Cond.instanceMethod yX1_throughput ∈ gT := sg4 (List.mem_of_getElem? (i := 55) rfl) rfl
theorem ms_X1_throughput : Cond.selects RX1 yX1_throughput yX1_throughput ∈ gT := sg4 (List.mem_of_getElem? (i := 56) rfl) rfl
theorem mc_X1_throughput : Cond.code yX1_throughput cX1_throughput 1 (some .int) ∈ gT := sg4 (List.mem_of_getElem? (i := 57) rfl) rfl
theorem mm_X2_156 : Cond.methodLink RX2 156 yX4_add ∈ gT := sg4 (List.mem_of_getElem? (i := 58) rfl) rfl
theorem mi_X4_add : Cond.instanceMethod yX4_add ∈ gT := sg4 (List.mem_of_getElem? (i := 59) rfl) rfl
theorem ms_X4_add : Cond.selects RX4 yX4_add yX4_add ∈ gT := sg4 (List.mem_of_getElem? (i := 60) rfl) rfl
theorem mc_X4_add : Cond.code yX4_add cX4_add 3 none ∈ gT := sg4 (List.mem_of_getElem? (i := 61) rfl) rfl
theorem mm_X2_159 : Cond.methodLink RX2 159 yX5_bitrateOf ∈ gT := sg4 (List.mem_of_getElem? (i := 62) rfl) rfl
theorem mm_X2_135 : Cond.methodLink RX2 135 yX2_play ∈ gT := sg4 (List.mem_of_getElem? (i := 63) rfl) rfl
theorem mi_X2_play : Cond.instanceMethod yX2_play ∈ gT := sg4 (List.mem_of_getElem? (i := 65) rfl) rfl
theorem mc_X2_play : Cond.code yX2_play cX2_play 1 none ∈ gT := sg4 (List.mem_of_getElem? (i := 66) rfl) rfl
theorem mm_X2_162 : Cond.methodLink RX2 162 yX2_playIfReady ∈ gT := sg4 (List.mem_of_getElem? (i := 67) rfl) rfl
theorem mi_X2_playIfReady : Cond.instanceMethod yX2_playIfReady ∈ gT := sg4 (List.mem_of_getElem? (i := 69) rfl) rfl
theorem mc_X2_playIfReady : Cond.code yX2_playIfReady cX2_playIfReady 1 none ∈ gT := sg4 (List.mem_of_getElem? (i := 70) rfl) rfl
theorem mm_X2_165 : Cond.methodLink RX2 165 yX2_playMillisecond ∈ gT := sg4 (List.mem_of_getElem? (i := 71) rfl) rfl
theorem mi_X2_playMillisecond : Cond.instanceMethod yX2_playMillisecond ∈ gT := sg4 (List.mem_of_getElem? (i := 73) rfl) rfl
theorem mc_X2_playMillisecond : Cond.code yX2_playMillisecond cX2_playMillisecond 1 none ∈ gT := sg4 (List.mem_of_getElem? (i := 74) rfl) rfl
theorem mm_L_57 : Cond.methodLink RL 57 yX6_time ∈ gT := sg4 (List.mem_of_getElem? (i := 75) rfl) rfl
theorem mi_X6_time : Cond.instanceMethod yX6_time ∈ gT := sg4 (List.mem_of_getElem? (i := 76) rfl) rfl
theorem ms_X6_time : Cond.selects RX6 yX6_time yX6_time ∈ gT := sg4 (List.mem_of_getElem? (i := 77) rfl) rfl
theorem mc_X6_time : Cond.code yX6_time cX6_time 1 (some .int) ∈ gT := sg4 (List.mem_of_getElem? (i := 78) rfl) rfl
theorem mm_L_61 : Cond.methodLink RL 61 yX6_position ∈ gT := sg4 (List.mem_of_getElem? (i := 79) rfl) rfl
theorem mi_X6_position : Cond.instanceMethod yX6_position ∈ gT := sg4 (List.mem_of_getElem? (i := 80) rfl) rfl
theorem ms_X6_position : Cond.selects RX6 yX6_position yX6_position ∈ gT := sg4 (List.mem_of_getElem? (i := 81) rfl) rfl
theorem mc_X6_position : Cond.code yX6_position cX6_position 1 (some .int) ∈ gT := sg4 (List.mem_of_getElem? (i := 82) rfl) rfl
theorem mm_L_65 : Cond.methodLink RL 65 yX6_bufferLevel ∈ gT := sg4 (List.mem_of_getElem? (i := 83) rfl) rfl
theorem mi_X6_bufferLevel : Cond.instanceMethod yX6_bufferLevel ∈ gT := sg4 (List.mem_of_getElem? (i := 84) rfl) rfl
theorem ms_X6_bufferLevel : Cond.selects RX6 yX6_bufferLevel yX6_bufferLevel ∈ gT := sg4 (List.mem_of_getElem? (i := 85) rfl) rfl
theorem mc_X6_bufferLevel : Cond.code yX6_bufferLevel cX6_bufferLevel 1 (some .int) ∈ gT := sg4 (List.mem_of_getElem? (i := 86) rfl) rfl
theorem mm_L_69 : Cond.methodLink RL 69 yX6_state ∈ gT := sg4 (List.mem_of_getElem? (i := 87) rfl) rfl
theorem mi_X6_state : Cond.instanceMethod yX6_state ∈ gT := sg4 (List.mem_of_getElem? (i := 88) rfl) rfl
theorem ms_X6_state : Cond.selects RX6 yX6_state yX6_state ∈ gT := sg4 (List.mem_of_getElem? (i := 89) rfl) rfl
theorem mc_X6_state : Cond.code yX6_state cX6_state 1 (some .int) ∈ gT := sg4 (List.mem_of_getElem? (i := 90) rfl) rfl
theorem mm_L_73 : Cond.methodLink RL 73 yX6_isPaused ∈ gT := sg4 (List.mem_of_getElem? (i := 91) rfl) rfl
theorem mi_X6_isPaused : Cond.instanceMethod yX6_isPaused ∈ gT := sg4 (List.mem_of_getElem? (i := 92) rfl) rfl
theorem ms_X6_isPaused : Cond.selects RX6 yX6_isPaused yX6_isPaused ∈ gT := sg4 (List.mem_of_getElem? (i := 93) rfl) rfl
theorem mc_X6_isPaused : Cond.code yX6_isPaused cX6_isPaused 1 (some .int) ∈ gT := sg4 (List.mem_of_getElem? (i := 94) rfl) rfl
theorem mm_L_77 : Cond.methodLink RL 77 yX6_downloadingSegment ∈ gT := sg4 (List.mem_of_getElem? (i := 95) rfl) rfl
theorem mi_X6_downloadingSegment : Cond.instanceMethod yX6_downloadingSegment ∈ gT := sg4 (List.mem_of_getElem? (i := 96) rfl) rfl
theorem ms_X6_downloadingSegment : Cond.selects RX6 yX6_downloadingSegment yX6_downloadingSegment ∈ gT := sg4 (List.mem_of_getElem? (i := 97) rfl) rfl
theorem mc_X6_downloadingSegment : Cond.code yX6_downloadingSegment cX6_downloadingSegment 1 (some .int) ∈ gT := sg4 (List.mem_of_getElem? (i := 98) rfl) rfl
theorem mm_L_81 : Cond.methodLink RL 81 yX6_segmentLevel ∈ gT := sg4 (List.mem_of_getElem? (i := 99) rfl) rfl
theorem mi_X6_segmentLevel : Cond.instanceMethod yX6_segmentLevel ∈ gT := sg4 (List.mem_of_getElem? (i := 100) rfl) rfl
theorem ms_X6_segmentLevel : Cond.selects RX6 yX6_segmentLevel yX6_segmentLevel ∈ gT := sg4 (List.mem_of_getElem? (i := 101) rfl) rfl
theorem mc_X6_segmentLevel : Cond.code yX6_segmentLevel cX6_segmentLevel 2 (some .int) ∈ gT := sg4 (List.mem_of_getElem? (i := 102) rfl) rfl
theorem mm_X6_172 : Cond.methodLink RX6 172 yX2_completedLevelOf ∈ gT := sg4 (List.mem_of_getElem? (i := 103) rfl) rfl
theorem mi_X2_completedLevelOf : Cond.instanceMethod yX2_completedLevelOf ∈ gT := sg4 (List.mem_of_getElem? (i := 104) rfl) rfl
theorem ms_X2_completedLevelOf : Cond.selects RX2 yX2_completedLevelOf yX2_completedLevelOf ∈ gT := sg4 (List.mem_of_getElem? (i := 105) rfl) rfl
theorem mc_X2_completedLevelOf : Cond.code yX2_completedLevelOf cX2_completedLevelOf 2 (some .int) ∈ gT := sg4 (List.mem_of_getElem? (i := 106) rfl) rfl
theorem mm_L_85 : Cond.methodLink RL 85 yX6_throughputEstimate ∈ gT := sg4 (List.mem_of_getElem? (i := 107) rfl) rfl
theorem mi_X6_throughputEstimate : Cond.instanceMethod yX6_throughputEstimate ∈ gT := sg4 (List.mem_of_getElem? (i := 108) rfl) rfl
theorem ms_X6_throughputEstimate : Cond.selects RX6 yX6_throughputEstimate yX6_throughputEstimate ∈ gT := sg4 (List.mem_of_getElem? (i := 109) rfl) rfl
theorem mc_X6_throughputEstimate : Cond.code yX6_throughputEstimate cX6_throughputEstimate 1 (some .int) ∈ gT := sg4 (List.mem_of_getElem? (i := 110) rfl) rfl
theorem mm_X6_179 : Cond.methodLink RX6 179 yX4_estimate ∈ gT := sg4 (List.mem_of_getElem? (i := 111) rfl) rfl
theorem mm_L_89 : Cond.methodLink RL 89 yX6_switchCount ∈ gT := sg4 (List.mem_of_getElem? (i := 112) rfl) rfl
theorem mi_X6_switchCount : Cond.instanceMethod yX6_switchCount ∈ gT := sg4 (List.mem_of_getElem? (i := 113) rfl) rfl
theorem ms_X6_switchCount : Cond.selects RX6 yX6_switchCount yX6_switchCount ∈ gT := sg4 (List.mem_of_getElem? (i := 114) rfl) rfl
theorem mc_X6_switchCount : Cond.code yX6_switchCount cX6_switchCount 1 (some .int) ∈ gT := sg4 (List.mem_of_getElem? (i := 115) rfl) rfl
theorem mm_L_93 : Cond.methodLink RL 93 yX6_stallCount ∈ gT := sg4 (List.mem_of_getElem? (i := 116) rfl) rfl
theorem mi_X6_stallCount : Cond.instanceMethod yX6_stallCount ∈ gT := sg4 (List.mem_of_getElem? (i := 117) rfl) rfl
theorem ms_X6_stallCount : Cond.selects RX6 yX6_stallCount yX6_stallCount ∈ gT := sg4 (List.mem_of_getElem? (i := 118) rfl) rfl
theorem mc_X6_stallCount : Cond.code yX6_stallCount cX6_stallCount 1 (some .int) ∈ gT := sg4 (List.mem_of_getElem? (i := 119) rfl) rfl
theorem mm_L_97 : Cond.methodLink RL 97 yX6_stallTime ∈ gT := sg4 (List.mem_of_getElem? (i := 120) rfl) rfl
theorem mi_X6_stallTime : Cond.instanceMethod yX6_stallTime ∈ gT := sg4 (List.mem_of_getElem? (i := 121) rfl) rfl
theorem ms_X6_stallTime : Cond.selects RX6 yX6_stallTime yX6_stallTime ∈ gT := sg4 (List.mem_of_getElem? (i := 122) rfl) rfl
theorem mc_X6_stallTime : Cond.code yX6_stallTime cX6_stallTime 1 (some .int) ∈ gT := sg4 (List.mem_of_getElem? (i := 123) rfl) rfl
theorem mm_L_101 : Cond.methodLink RL 101 yX6_startupTime ∈ gT := sg4 (List.mem_of_getElem? (i := 124) rfl) rfl
theorem mi_X6_startupTime : Cond.instanceMethod yX6_startupTime ∈ gT := sg4 (List.mem_of_getElem? (i := 125) rfl) rfl
theorem ms_X6_startupTime : Cond.selects RX6 yX6_startupTime yX6_startupTime ∈ gT := sg4 (List.mem_of_getElem? (i := 126) rfl) rfl
theorem mc_X6_startupTime : Cond.code yX6_startupTime cX6_startupTime 1 (some .int) ∈ gT := sg4 (List.mem_of_getElem? (i := 127) rfl) rfl
theorem mm_L_105 : Cond.methodLink RL 105 yX6_bitrateSum ∈ gT := sg4 (List.mem_of_getElem? (i := 128) rfl) rfl
theorem mi_X6_bitrateSum : Cond.instanceMethod yX6_bitrateSum ∈ gT := sg4 (List.mem_of_getElem? (i := 129) rfl) rfl
theorem ms_X6_bitrateSum : Cond.selects RX6 yX6_bitrateSum yX6_bitrateSum ∈ gT := sg4 (List.mem_of_getElem? (i := 130) rfl) rfl
theorem mc_X6_bitrateSum : Cond.code yX6_bitrateSum cX6_bitrateSum 1 (some .int) ∈ gT := sg4 (List.mem_of_getElem? (i := 131) rfl) rfl
theorem mm_L_109 : Cond.methodLink RL 109 yX6_segmentSize ∈ gT := sg4 (List.mem_of_getElem? (i := 132) rfl) rfl
theorem mi_X6_segmentSize : Cond.instanceMethod yX6_segmentSize ∈ gT := sg4 (List.mem_of_getElem? (i := 133) rfl) rfl
theorem ms_X6_segmentSize : Cond.selects RX6 yX6_segmentSize yX6_segmentSize ∈ gT := sg4 (List.mem_of_getElem? (i := 134) rfl) rfl
theorem mc_X6_segmentSize : Cond.code yX6_segmentSize cX6_segmentSize 3 (some .int) ∈ gT := sg4 (List.mem_of_getElem? (i := 135) rfl) rfl
theorem mm_X6_199 : Cond.methodLink RX6 199 yX5_hasLevel ∈ gT := sg4 (List.mem_of_getElem? (i := 136) rfl) rfl
theorem mm_X6_202 : Cond.methodLink RX6 202 yX5_sizeOf ∈ gT := sg4 (List.mem_of_getElem? (i := 137) rfl) rfl
theorem mm_L_113 : Cond.methodLink RL 113 yX6_simulatedStallTime ∈ gT := sg4 (List.mem_of_getElem? (i := 138) rfl) rfl
theorem mi_X6_simulatedStallTime : Cond.instanceMethod yX6_simulatedStallTime ∈ gT := sg4 (List.mem_of_getElem? (i := 139) rfl) rfl
theorem ms_X6_simulatedStallTime : Cond.selects RX6 yX6_simulatedStallTime yX6_simulatedStallTime ∈ gT := sg4 (List.mem_of_getElem? (i := 140) rfl) rfl
theorem mc_X6_simulatedStallTime : Cond.code yX6_simulatedStallTime cX6_simulatedStallTime 3 (some .int) ∈ gT := sg4 (List.mem_of_getElem? (i := 141) rfl) rfl
theorem mm_X6_206 : Cond.methodLink RX6 206 yX6_simulationError ∈ gT := sg4 (List.mem_of_getElem? (i := 142) rfl) rfl
theorem mi_X6_simulationError : Cond.instanceMethod yX6_simulationError ∈ gT := sg4 (List.mem_of_getElem? (i := 144) rfl) rfl
theorem mc_X6_simulationError : Cond.code yX6_simulationError cX6_simulationError 2 (some .int) ∈ gT := sg4 (List.mem_of_getElem? (i := 145) rfl) rfl
theorem mm_X6_209 : Cond.methodLink RX6 209 yX2_playWhole ∈ gT := sg4 (List.mem_of_getElem? (i := 146) rfl) rfl
theorem mi_X2_playWhole : Cond.instanceMethod yX2_playWhole ∈ gT := sg4 (List.mem_of_getElem? (i := 147) rfl) rfl
theorem ms_X2_playWhole : Cond.selects RX2 yX2_playWhole yX2_playWhole ∈ gT := sg4 (List.mem_of_getElem? (i := 148) rfl) rfl
theorem mc_X2_playWhole : Cond.code yX2_playWhole cX2_playWhole 4 none ∈ gT := sg4 (List.mem_of_getElem? (i := 149) rfl) rfl
theorem mk_X2_97 : Cond.constant RX2 97 (120000) ∈ gT := sg4 (List.mem_of_getElem? (i := 150) rfl) rfl
theorem mm_X2_98 : Cond.methodLink RX2 98 yX2_passMillisecond ∈ gT := sg4 (List.mem_of_getElem? (i := 151) rfl) rfl
theorem mm_L_117 : Cond.methodLink RL 117 yX6_simulatedBitrateSum ∈ gT := sg4 (List.mem_of_getElem? (i := 152) rfl) rfl
theorem mi_X6_simulatedBitrateSum : Cond.instanceMethod yX6_simulatedBitrateSum ∈ gT := sg4 (List.mem_of_getElem? (i := 153) rfl) rfl
theorem ms_X6_simulatedBitrateSum : Cond.selects RX6 yX6_simulatedBitrateSum yX6_simulatedBitrateSum ∈ gT := sg4 (List.mem_of_getElem? (i := 154) rfl) rfl
theorem mc_X6_simulatedBitrateSum : Cond.code yX6_simulatedBitrateSum cX6_simulatedBitrateSum 3 (some .int) ∈ gT := sg4 (List.mem_of_getElem? (i := 155) rfl) rfl
theorem mm_L_121 : Cond.methodLink RL 121 yX6_bestSmoothLevel ∈ gT := sg4 (List.mem_of_getElem? (i := 156) rfl) rfl
theorem mi_X6_bestSmoothLevel : Cond.instanceMethod yX6_bestSmoothLevel ∈ gT := sg4 (List.mem_of_getElem? (i := 157) rfl) rfl
theorem ms_X6_bestSmoothLevel : Cond.selects RX6 yX6_bestSmoothLevel yX6_bestSmoothLevel ∈ gT := sg4 (List.mem_of_getElem? (i := 158) rfl) rfl
theorem mc_X6_bestSmoothLevel : Cond.code yX6_bestSmoothLevel cX6_bestSmoothLevel 2 (some .int) ∈ gT := sg4 (List.mem_of_getElem? (i := 159) rfl) rfl
theorem ml_L_10 : Cond.classLink RL 10 RX7 ∈ gT := sg4 (List.mem_of_getElem? (i := 160) rfl) rfl
theorem mq_X7 : Cond.instantiable RX7 20 ∈ gT := sg4 (List.mem_of_getElem? (i := 161) rfl) rfl
theorem mm_L_12 : Cond.methodLink RL 12 yX7_init ∈ gT := sg4 (List.mem_of_getElem? (i := 162) rfl) rfl
theorem mi_X7_init : Cond.instanceMethod yX7_init ∈ gT := sg4 (List.mem_of_getElem? (i := 163) rfl) rfl
theorem mc_X7_init : Cond.code yX7_init cX7_init 2 none ∈ gT := sg4 (List.mem_of_getElem? (i := 164) rfl) rfl
theorem mm_X7_1 : Cond.methodLink RX7 1 Lib.objectInit ∈ gT := sg4 (List.mem_of_getElem? (i := 165) rfl) rfl
theorem mm_X7_56 : Cond.methodLink RX7 56 yX7_begins ∈ gT := sg4 (List.mem_of_getElem? (i := 166) rfl) rfl
theorem mi_X7_begins : Cond.instanceMethod yX7_begins ∈ gT := sg4 (List.mem_of_getElem? (i := 168) rfl) rfl
theorem mc_X7_begins : Cond.code yX7_begins cX7_begins 2 none ∈ gT := sg4 (List.mem_of_getElem? (i := 169) rfl) rfl
theorem mf_X7_7 : Cond.fieldLink RX7 7 "AdaptivePlayerModel" "segments" "I" ∈ gT := sg4 (List.mem_of_getElem? (i := 170) rfl) rfl
theorem mf_X7_13 : Cond.fieldLink RX7 13 "AdaptivePlayerModel" "duration" "I" ∈ gT := sg4 (List.mem_of_getElem? (i := 171) rfl) rfl
theorem mf_X7_16 : Cond.fieldLink RX7 16 "AdaptivePlayerModel" "variation" "[I" ∈ gT := sg4 (List.mem_of_getElem? (i := 172) rfl) rfl
theorem mf_X7_63 : Cond.fieldLink RX7 63 "AdaptivePlayerModel" "levels" "I" ∈ gT := sg4 (List.mem_of_getElem? (i := 173) rfl) rfl
theorem mf_X7_20 : Cond.fieldLink RX7 20 "AdaptivePlayerModel" "bitrate" "[I" ∈ gT := sg4 (List.mem_of_getElem? (i := 174) rfl) rfl
theorem mf_X7_67 : Cond.fieldLink RX7 67 "AdaptivePlayerModel" "periods" "I" ∈ gT := sg4 (List.mem_of_getElem? (i := 175) rfl) rfl
theorem mf_X7_23 : Cond.fieldLink RX7 23 "AdaptivePlayerModel" "periodEnd" "[I" ∈ gT := sg4 (List.mem_of_getElem? (i := 176) rfl) rfl
theorem mf_X7_26 : Cond.fieldLink RX7 26 "AdaptivePlayerModel" "periodRate" "[I" ∈ gT := sg4 (List.mem_of_getElem? (i := 177) rfl) rfl
theorem mf_X7_29 : Cond.fieldLink RX7 29 "AdaptivePlayerModel" "maximum" "I" ∈ gT := sg4 (List.mem_of_getElem? (i := 178) rfl) rfl
theorem mf_X7_32 : Cond.fieldLink RX7 32 "AdaptivePlayerModel" "threshold" "I" ∈ gT := sg4 (List.mem_of_getElem? (i := 179) rfl) rfl
theorem mf_X7_35 : Cond.fieldLink RX7 35 "AdaptivePlayerModel" "safety" "I" ∈ gT := sg4 (List.mem_of_getElem? (i := 180) rfl) rfl
theorem mf_X7_38 : Cond.fieldLink RX7 38 "AdaptivePlayerModel" "reservoir" "I" ∈ gT := sg4 (List.mem_of_getElem? (i := 181) rfl) rfl
theorem mf_X7_41 : Cond.fieldLink RX7 41 "AdaptivePlayerModel" "cushion" "I" ∈ gT := sg4 (List.mem_of_getElem? (i := 182) rfl) rfl
theorem mf_X7_82 : Cond.fieldLink RX7 82 "AdaptivePlayerModel" "policy" "I" ∈ gT := sg4 (List.mem_of_getElem? (i := 183) rfl) rfl
theorem mf_X7_44 : Cond.fieldLink RX7 44 "AdaptivePlayerModel" "cap" "I" ∈ gT := sg4 (List.mem_of_getElem? (i := 184) rfl) rfl
theorem mf_X7_47 : Cond.fieldLink RX7 47 "AdaptivePlayerModel" "now" "[I" ∈ gT := sg4 (List.mem_of_getElem? (i := 185) rfl) rfl
theorem mf_X7_50 : Cond.fieldLink RX7 50 "AdaptivePlayerModel" "aside" "[I" ∈ gT := sg4 (List.mem_of_getElem? (i := 186) rfl) rfl
theorem mf_X7_70 : Cond.fieldLink RX7 70 "AdaptivePlayerModel" "keys" "I" ∈ gT := sg4 (List.mem_of_getElem? (i := 187) rfl) rfl
theorem mf_X7_53 : Cond.fieldLink RX7 53 "AdaptivePlayerModel" "key" "[I" ∈ gT := sg4 (List.mem_of_getElem? (i := 188) rfl) rfl
theorem mf_X7_73 : Cond.fieldLink RX7 73 "AdaptivePlayerModel" "typed" "I" ∈ gT := sg4 (List.mem_of_getElem? (i := 189) rfl) rfl
theorem mm_L_17 : Cond.methodLink RL 17 yX7_setVideo ∈ gT := sg4 (List.mem_of_getElem? (i := 231) rfl) rfl
theorem mi_X7_setVideo : Cond.instanceMethod yX7_setVideo ∈ gT := sg4 (List.mem_of_getElem? (i := 232) rfl) rfl
theorem ms_X7_setVideo : Cond.selects RX7 yX7_setVideo yX7_setVideo ∈ gT := sg4 (List.mem_of_getElem? (i := 233) rfl) rfl
theorem mc_X7_setVideo : Cond.code yX7_setVideo cX7_setVideo 4 (some .int) ∈ gT := sg4 (List.mem_of_getElem? (i := 234) rfl) rfl
theorem mm_X7_59 : Cond.methodLink RX7 59 yX7_within ∈ gT := sg4 (List.mem_of_getElem? (i := 235) rfl) rfl
theorem mt_X7_within : Cond.static yX7_within ∈ gT := sg4 (List.mem_of_getElem? (i := 236) rfl) rfl
theorem mc_X7_within : Cond.code yX7_within cX7_within 3 (some .boolean) ∈ gT := sg4 (List.mem_of_getElem? (i := 237) rfl) rfl
theorem mm_L_22 : Cond.methodLink RL 22 yX7_addLevel ∈ gT := sg4 (List.mem_of_getElem? (i := 238) rfl) rfl
theorem mi_X7_addLevel : Cond.instanceMethod yX7_addLevel ∈ gT := sg4 (List.mem_of_getElem? (i := 239) rfl) rfl
theorem ms_X7_addLevel : Cond.selects RX7 yX7_addLevel yX7_addLevel ∈ gT := sg5 (List.mem_of_getElem? (i := 0) rfl) rfl
theorem mc_X7_addLevel : Cond.code yX7_addLevel cX7_addLevel 2 (some .int) ∈ gT := sg5 (List.mem_of_getElem? (i := 1) rfl) rfl
theorem mm_L_26 : Cond.methodLink RL 26 yX7_setVariation ∈ gT := sg5 (List.mem_of_getElem? (i := 2) rfl) rfl
theorem mi_X7_setVariation : Cond.instanceMethod yX7_setVariation ∈ gT := sg5 (List.mem_of_getElem? (i := 3) rfl) rfl
theorem ms_X7_setVariation : Cond.selects RX7 yX7_setVariation yX7_setVariation ∈ gT := sg5 (List.mem_of_getElem? (i := 4) rfl) rfl
theorem mc_X7_setVariation : Cond.code yX7_setVariation cX7_setVariation 4 (some .int) ∈ gT := sg5 (List.mem_of_getElem? (i := 5) rfl) rfl
theorem mm_L_30 : Cond.methodLink RL 30 yX7_addPeriod ∈ gT := sg5 (List.mem_of_getElem? (i := 6) rfl) rfl
theorem mi_X7_addPeriod : Cond.instanceMethod yX7_addPeriod ∈ gT := sg5 (List.mem_of_getElem? (i := 7) rfl) rfl
theorem ms_X7_addPeriod : Cond.selects RX7 yX7_addPeriod yX7_addPeriod ∈ gT := sg5 (List.mem_of_getElem? (i := 8) rfl) rfl
theorem mc_X7_addPeriod : Cond.code yX7_addPeriod cX7_addPeriod 3 (some .int) ∈ gT := sg5 (List.mem_of_getElem? (i := 9) rfl) rfl
theorem mk_X7_66 : Cond.constant RX7 66 (60000) ∈ gT := sg5 (List.mem_of_getElem? (i := 10) rfl) rfl
theorem mm_L_34 : Cond.methodLink RL 34 yX7_setBuffer ∈ gT := sg5 (List.mem_of_getElem? (i := 11) rfl) rfl
theorem mi_X7_setBuffer : Cond.instanceMethod yX7_setBuffer ∈ gT := sg5 (List.mem_of_getElem? (i := 12) rfl) rfl
theorem ms_X7_setBuffer : Cond.selects RX7 yX7_setBuffer yX7_setBuffer ∈ gT := sg5 (List.mem_of_getElem? (i := 13) rfl) rfl
theorem mc_X7_setBuffer : Cond.code yX7_setBuffer cX7_setBuffer 4 (some .int) ∈ gT := sg5 (List.mem_of_getElem? (i := 14) rfl) rfl
theorem mm_L_39 : Cond.methodLink RL 39 yX7_setPolicyNumbers ∈ gT := sg5 (List.mem_of_getElem? (i := 15) rfl) rfl
theorem mi_X7_setPolicyNumbers : Cond.instanceMethod yX7_setPolicyNumbers ∈ gT := sg5 (List.mem_of_getElem? (i := 16) rfl) rfl
theorem ms_X7_setPolicyNumbers : Cond.selects RX7 yX7_setPolicyNumbers yX7_setPolicyNumbers ∈ gT := sg5 (List.mem_of_getElem? (i := 17) rfl) rfl
theorem mc_X7_setPolicyNumbers : Cond.code yX7_setPolicyNumbers cX7_setPolicyNumbers 5 (some .int) ∈ gT := sg5 (List.mem_of_getElem? (i := 18) rfl) rfl
theorem mm_L_43 : Cond.methodLink RL 43 yX7_typeKey ∈ gT := sg5 (List.mem_of_getElem? (i := 19) rfl) rfl
theorem mi_X7_typeKey : Cond.instanceMethod yX7_typeKey ∈ gT := sg5 (List.mem_of_getElem? (i := 20) rfl) rfl
theorem ms_X7_typeKey : Cond.selects RX7 yX7_typeKey yX7_typeKey ∈ gT := sg5 (List.mem_of_getElem? (i := 21) rfl) rfl
theorem mc_X7_typeKey : Cond.code yX7_typeKey cX7_typeKey 2 (some .int) ∈ gT := sg5 (List.mem_of_getElem? (i := 22) rfl) rfl
theorem mm_L_48 : Cond.methodLink RL 48 yX7_runCommand ∈ gT := sg5 (List.mem_of_getElem? (i := 23) rfl) rfl
theorem mi_X7_runCommand : Cond.instanceMethod yX7_runCommand ∈ gT := sg5 (List.mem_of_getElem? (i := 24) rfl) rfl
theorem ms_X7_runCommand : Cond.selects RX7 yX7_runCommand yX7_runCommand ∈ gT := sg5 (List.mem_of_getElem? (i := 25) rfl) rfl
theorem mc_X7_runCommand : Cond.code yX7_runCommand cX7_runCommand 1 (some .int) ∈ gT := sg5 (List.mem_of_getElem? (i := 26) rfl) rfl
theorem mj_X7_104 : Cond.constantLong RX7 104 (16151209032527) ∈ gT := sg5 (List.mem_of_getElem? (i := 27) rfl) rfl
theorem mm_X7_87 : Cond.methodLink RX7 87 yX7_has ∈ gT := sg5 (List.mem_of_getElem? (i := 28) rfl) rfl
theorem mi_X7_has : Cond.instanceMethod yX7_has ∈ gT := sg5 (List.mem_of_getElem? (i := 30) rfl) rfl
theorem mc_X7_has : Cond.code yX7_has cX7_has 9 (some .boolean) ∈ gT := sg5 (List.mem_of_getElem? (i := 31) rfl) rfl
theorem mj_X7_76 : Cond.constantLong RX7 76 (100) ∈ gT := sg5 (List.mem_of_getElem? (i := 32) rfl) rfl
theorem mm_X7_106 : Cond.methodLink RX7 106 yX7_policyFrom ∈ gT := sg5 (List.mem_of_getElem? (i := 33) rfl) rfl
theorem mi_X7_policyFrom : Cond.instanceMethod yX7_policyFrom ∈ gT := sg5 (List.mem_of_getElem? (i := 35) rfl) rfl
theorem mc_X7_policyFrom : Cond.code yX7_policyFrom cX7_policyFrom 3 (some .int) ∈ gT := sg5 (List.mem_of_getElem? (i := 36) rfl) rfl
theorem mj_X7_85 : Cond.constantLong RX7 85 (609240504) ∈ gT := sg5 (List.mem_of_getElem? (i := 37) rfl) rfl
theorem mm_X7_91 : Cond.methodLink RX7 91 yX7_setsPolicy ∈ gT := sg5 (List.mem_of_getElem? (i := 38) rfl) rfl
theorem mi_X7_setsPolicy : Cond.instanceMethod yX7_setsPolicy ∈ gT := sg5 (List.mem_of_getElem? (i := 40) rfl) rfl
theorem mc_X7_setsPolicy : Cond.code yX7_setsPolicy cX7_setsPolicy 3 (some .int) ∈ gT := sg5 (List.mem_of_getElem? (i := 41) rfl) rfl
theorem mj_X7_95 : Cond.constantLong RX7 95 (18012005) ∈ gT := sg5 (List.mem_of_getElem? (i := 42) rfl) rfl
theorem mj_X7_97 : Cond.constantLong RX7 97 (22106060518) ∈ gT := sg5 (List.mem_of_getElem? (i := 43) rfl) rfl
theorem mj_X7_99 : Cond.constantLong RX7 99 (82502180904) ∈ gT := sg5 (List.mem_of_getElem? (i := 44) rfl) rfl
theorem mj_X7_109 : Cond.constantLong RX7 109 (3011627) ∈ gT := sg5 (List.mem_of_getElem? (i := 45) rfl) rfl
theorem mm_X7_111 : Cond.methodLink RX7 111 yX7_capFrom ∈ gT := sg5 (List.mem_of_getElem? (i := 46) rfl) rfl
theorem mi_X7_capFrom : Cond.instanceMethod yX7_capFrom ∈ gT := sg5 (List.mem_of_getElem? (i := 48) rfl) rfl
theorem mc_X7_capFrom : Cond.code yX7_capFrom cX7_capFrom 4 (some .int) ∈ gT := sg5 (List.mem_of_getElem? (i := 49) rfl) rfl
theorem mm_X7_101 : Cond.methodLink RX7 101 yX7_numberFrom ∈ gT := sg5 (List.mem_of_getElem? (i := 50) rfl) rfl
theorem mi_X7_numberFrom : Cond.instanceMethod yX7_numberFrom ∈ gT := sg5 (List.mem_of_getElem? (i := 52) rfl) rfl
theorem mc_X7_numberFrom : Cond.code yX7_numberFrom cX7_numberFrom 3 (some .int) ∈ gT := sg5 (List.mem_of_getElem? (i := 53) rfl) rfl
theorem mm_X7_78 : Cond.methodLink RX7 78 yX7_isDigit ∈ gT := sg5 (List.mem_of_getElem? (i := 54) rfl) rfl
theorem mi_X7_isDigit : Cond.instanceMethod yX7_isDigit ∈ gT := sg5 (List.mem_of_getElem? (i := 56) rfl) rfl
theorem mc_X7_isDigit : Cond.code yX7_isDigit cX7_isDigit 2 (some .boolean) ∈ gT := sg5 (List.mem_of_getElem? (i := 57) rfl) rfl
theorem mj_X7_114 : Cond.constantLong RX7 114 (1905051127) ∈ gT := sg5 (List.mem_of_getElem? (i := 58) rfl) rfl
theorem mm_X7_116 : Cond.methodLink RX7 116 yX7_seekFrom ∈ gT := sg5 (List.mem_of_getElem? (i := 59) rfl) rfl
theorem mi_X7_seekFrom : Cond.instanceMethod yX7_seekFrom ∈ gT := sg5 (List.mem_of_getElem? (i := 61) rfl) rfl
theorem mc_X7_seekFrom : Cond.code yX7_seekFrom cX7_seekFrom 3 (some .int) ∈ gT := sg5 (List.mem_of_getElem? (i := 62) rfl) rfl
theorem mj_X7_119 : Cond.constantLong RX7 119 (1601211905) ∈ gT := sg5 (List.mem_of_getElem? (i := 63) rfl) rfl
theorem mm_X7_121 : Cond.methodLink RX7 121 yX7_pauses ∈ gT := sg5 (List.mem_of_getElem? (i := 64) rfl) rfl
theorem mi_X7_pauses : Cond.instanceMethod yX7_pauses ∈ gT := sg5 (List.mem_of_getElem? (i := 66) rfl) rfl
theorem mc_X7_pauses : Cond.code yX7_pauses cX7_pauses 3 (some .int) ∈ gT := sg5 (List.mem_of_getElem? (i := 67) rfl) rfl
theorem mj_X7_124 : Cond.constantLong RX7 124 (16120125) ∈ gT := sg5 (List.mem_of_getElem? (i := 68) rfl) rfl
theorem mm_L_52 : Cond.methodLink RL 52 yX7_restart ∈ gT := sg5 (List.mem_of_getElem? (i := 69) rfl) rfl
theorem mi_X7_restart : Cond.instanceMethod yX7_restart ∈ gT := sg5 (List.mem_of_getElem? (i := 70) rfl) rfl
theorem ms_X7_restart : Cond.selects RX7 yX7_restart yX7_restart ∈ gT := sg5 (List.mem_of_getElem? (i := 71) rfl) rfl
theorem mc_X7_restart : Cond.code yX7_restart cX7_restart 2 (some .int) ∈ gT := sg5 (List.mem_of_getElem? (i := 72) rfl) rfl
theorem mm_L_56 : Cond.methodLink RL 56 yX7_advance ∈ gT := sg5 (List.mem_of_getElem? (i := 73) rfl) rfl
theorem mi_X7_advance : Cond.instanceMethod yX7_advance ∈ gT := sg5 (List.mem_of_getElem? (i := 74) rfl) rfl
theorem ms_X7_advance : Cond.selects RX7 yX7_advance yX7_advance ∈ gT := sg5 (List.mem_of_getElem? (i := 75) rfl) rfl
theorem mc_X7_advance : Cond.code yX7_advance cX7_advance 4 (some .int) ∈ gT := sg5 (List.mem_of_getElem? (i := 76) rfl) rfl
theorem mm_X7_168 : Cond.methodLink RX7 168 yX7_passes ∈ gT := sg5 (List.mem_of_getElem? (i := 77) rfl) rfl
theorem mi_X7_passes : Cond.instanceMethod yX7_passes ∈ gT := sg5 (List.mem_of_getElem? (i := 79) rfl) rfl
theorem mc_X7_passes : Cond.code yX7_passes cX7_passes 2 none ∈ gT := sg5 (List.mem_of_getElem? (i := 80) rfl) rfl
theorem mm_X7_155 : Cond.methodLink RX7 155 yX7_startsDownload ∈ gT := sg5 (List.mem_of_getElem? (i := 81) rfl) rfl
theorem mi_X7_startsDownload : Cond.instanceMethod yX7_startsDownload ∈ gT := sg5 (List.mem_of_getElem? (i := 83) rfl) rfl
theorem mc_X7_startsDownload : Cond.code yX7_startsDownload cX7_startsDownload 2 none ∈ gT := sg5 (List.mem_of_getElem? (i := 84) rfl) rfl
theorem mm_X7_142 : Cond.methodLink RX7 142 yX7_chosen ∈ gT := sg5 (List.mem_of_getElem? (i := 85) rfl) rfl
theorem mi_X7_chosen : Cond.instanceMethod yX7_chosen ∈ gT := sg5 (List.mem_of_getElem? (i := 87) rfl) rfl
theorem mc_X7_chosen : Cond.code yX7_chosen cX7_chosen 2 (some .int) ∈ gT := sg5 (List.mem_of_getElem? (i := 88) rfl) rfl
theorem mm_X7_130 : Cond.methodLink RX7 130 yX7_highest ∈ gT := sg5 (List.mem_of_getElem? (i := 89) rfl) rfl
theorem mi_X7_highest : Cond.instanceMethod yX7_highest ∈ gT := sg5 (List.mem_of_getElem? (i := 91) rfl) rfl
theorem mc_X7_highest : Cond.code yX7_highest cX7_highest 1 (some .int) ∈ gT := sg5 (List.mem_of_getElem? (i := 92) rfl) rfl
theorem mm_X7_133 : Cond.methodLink RX7 133 yX7_levelByRate ∈ gT := sg5 (List.mem_of_getElem? (i := 93) rfl) rfl
theorem mi_X7_levelByRate : Cond.instanceMethod yX7_levelByRate ∈ gT := sg5 (List.mem_of_getElem? (i := 95) rfl) rfl
theorem mc_X7_levelByRate : Cond.code yX7_levelByRate cX7_levelByRate 4 (some .int) ∈ gT := sg5 (List.mem_of_getElem? (i := 96) rfl) rfl
theorem mm_X7_126 : Cond.methodLink RX7 126 yX7_estimate ∈ gT := sg5 (List.mem_of_getElem? (i := 97) rfl) rfl
theorem mi_X7_estimate : Cond.instanceMethod yX7_estimate ∈ gT := sg5 (List.mem_of_getElem? (i := 99) rfl) rfl
theorem mc_X7_estimate : Cond.code yX7_estimate cX7_estimate 4 (some .int) ∈ gT := sg5 (List.mem_of_getElem? (i := 100) rfl) rfl
theorem mm_X7_136 : Cond.methodLink RX7 136 yX7_levelByBuffer ∈ gT := sg5 (List.mem_of_getElem? (i := 101) rfl) rfl
theorem mi_X7_levelByBuffer : Cond.instanceMethod yX7_levelByBuffer ∈ gT := sg5 (List.mem_of_getElem? (i := 103) rfl) rfl
theorem mc_X7_levelByBuffer : Cond.code yX7_levelByBuffer cX7_levelByBuffer 2 (some .int) ∈ gT := sg5 (List.mem_of_getElem? (i := 104) rfl) rfl
theorem mm_X7_139 : Cond.methodLink RX7 139 yX7_levelOfBoth ∈ gT := sg5 (List.mem_of_getElem? (i := 105) rfl) rfl
theorem mi_X7_levelOfBoth : Cond.instanceMethod yX7_levelOfBoth ∈ gT := sg5 (List.mem_of_getElem? (i := 107) rfl) rfl
theorem mc_X7_levelOfBoth : Cond.code yX7_levelOfBoth cX7_levelOfBoth 2 (some .int) ∈ gT := sg5 (List.mem_of_getElem? (i := 108) rfl) rfl
theorem mm_X7_145 : Cond.methodLink RX7 145 yX7_sizeOf ∈ gT := sg5 (List.mem_of_getElem? (i := 109) rfl) rfl
theorem mi_X7_sizeOf : Cond.instanceMethod yX7_sizeOf ∈ gT := sg5 (List.mem_of_getElem? (i := 111) rfl) rfl
theorem mc_X7_sizeOf : Cond.code yX7_sizeOf cX7_sizeOf 3 (some .int) ∈ gT := sg5 (List.mem_of_getElem? (i := 112) rfl) rfl
theorem mm_X7_159 : Cond.methodLink RX7 159 yX7_receives ∈ gT := sg5 (List.mem_of_getElem? (i := 113) rfl) rfl
theorem mi_X7_receives : Cond.instanceMethod yX7_receives ∈ gT := sg5 (List.mem_of_getElem? (i := 115) rfl) rfl
theorem mc_X7_receives : Cond.code yX7_receives cX7_receives 1 none ∈ gT := sg5 (List.mem_of_getElem? (i := 116) rfl) rfl
theorem mm_X7_149 : Cond.methodLink RX7 149 yX7_rateAt ∈ gT := sg5 (List.mem_of_getElem? (i := 117) rfl) rfl
theorem mi_X7_rateAt : Cond.instanceMethod yX7_rateAt ∈ gT := sg5 (List.mem_of_getElem? (i := 119) rfl) rfl
theorem mc_X7_rateAt : Cond.code yX7_rateAt cX7_rateAt 3 (some .int) ∈ gT := sg5 (List.mem_of_getElem? (i := 120) rfl) rfl
theorem mm_X7_152 : Cond.methodLink RX7 152 yX7_completes ∈ gT := sg5 (List.mem_of_getElem? (i := 121) rfl) rfl
theorem mi_X7_completes : Cond.instanceMethod yX7_completes ∈ gT := sg5 (List.mem_of_getElem? (i := 123) rfl) rfl
theorem mc_X7_completes : Cond.code yX7_completes cX7_completes 1 none ∈ gT := sg5 (List.mem_of_getElem? (i := 124) rfl) rfl
theorem mm_X7_162 : Cond.methodLink RX7 162 yX7_plays ∈ gT := sg5 (List.mem_of_getElem? (i := 125) rfl) rfl
theorem mi_X7_plays : Cond.instanceMethod yX7_plays ∈ gT := sg5 (List.mem_of_getElem? (i := 127) rfl) rfl
theorem mc_X7_plays : Cond.code yX7_plays cX7_plays 2 none ∈ gT := sg5 (List.mem_of_getElem? (i := 128) rfl) rfl
theorem mm_X7_165 : Cond.methodLink RX7 165 yX7_waits ∈ gT := sg5 (List.mem_of_getElem? (i := 129) rfl) rfl
theorem mi_X7_waits : Cond.instanceMethod yX7_waits ∈ gT := sg5 (List.mem_of_getElem? (i := 131) rfl) rfl
theorem mc_X7_waits : Cond.code yX7_waits cX7_waits 1 none ∈ gT := sg5 (List.mem_of_getElem? (i := 132) rfl) rfl
theorem mm_L_60 : Cond.methodLink RL 60 yX7_time ∈ gT := sg5 (List.mem_of_getElem? (i := 133) rfl) rfl
theorem mi_X7_time : Cond.instanceMethod yX7_time ∈ gT := sg5 (List.mem_of_getElem? (i := 134) rfl) rfl
theorem ms_X7_time : Cond.selects RX7 yX7_time yX7_time ∈ gT := sg5 (List.mem_of_getElem? (i := 135) rfl) rfl
theorem mc_X7_time : Cond.code yX7_time cX7_time 1 (some .int) ∈ gT := sg5 (List.mem_of_getElem? (i := 136) rfl) rfl
theorem mm_L_64 : Cond.methodLink RL 64 yX7_position ∈ gT := sg5 (List.mem_of_getElem? (i := 137) rfl) rfl
theorem mi_X7_position : Cond.instanceMethod yX7_position ∈ gT := sg5 (List.mem_of_getElem? (i := 138) rfl) rfl
theorem ms_X7_position : Cond.selects RX7 yX7_position yX7_position ∈ gT := sg5 (List.mem_of_getElem? (i := 139) rfl) rfl
theorem mc_X7_position : Cond.code yX7_position cX7_position 1 (some .int) ∈ gT := sg5 (List.mem_of_getElem? (i := 140) rfl) rfl
theorem mm_L_68 : Cond.methodLink RL 68 yX7_bufferLevel ∈ gT := sg5 (List.mem_of_getElem? (i := 141) rfl) rfl
theorem mi_X7_bufferLevel : Cond.instanceMethod yX7_bufferLevel ∈ gT := sg5 (List.mem_of_getElem? (i := 142) rfl) rfl
theorem ms_X7_bufferLevel : Cond.selects RX7 yX7_bufferLevel yX7_bufferLevel ∈ gT := sg5 (List.mem_of_getElem? (i := 143) rfl) rfl
theorem mc_X7_bufferLevel : Cond.code yX7_bufferLevel cX7_bufferLevel 1 (some .int) ∈ gT := sg5 (List.mem_of_getElem? (i := 144) rfl) rfl
theorem mm_L_72 : Cond.methodLink RL 72 yX7_state ∈ gT := sg5 (List.mem_of_getElem? (i := 145) rfl) rfl
theorem mi_X7_state : Cond.instanceMethod yX7_state ∈ gT := sg5 (List.mem_of_getElem? (i := 146) rfl) rfl
theorem ms_X7_state : Cond.selects RX7 yX7_state yX7_state ∈ gT := sg5 (List.mem_of_getElem? (i := 147) rfl) rfl
theorem mc_X7_state : Cond.code yX7_state cX7_state 1 (some .int) ∈ gT := sg5 (List.mem_of_getElem? (i := 148) rfl) rfl
theorem mm_L_76 : Cond.methodLink RL 76 yX7_isPaused ∈ gT := sg5 (List.mem_of_getElem? (i := 149) rfl) rfl
theorem mi_X7_isPaused : Cond.instanceMethod yX7_isPaused ∈ gT := sg5 (List.mem_of_getElem? (i := 150) rfl) rfl
theorem ms_X7_isPaused : Cond.selects RX7 yX7_isPaused yX7_isPaused ∈ gT := sg5 (List.mem_of_getElem? (i := 151) rfl) rfl
theorem mc_X7_isPaused : Cond.code yX7_isPaused cX7_isPaused 1 (some .int) ∈ gT := sg5 (List.mem_of_getElem? (i := 152) rfl) rfl
theorem mm_L_80 : Cond.methodLink RL 80 yX7_downloadingSegment ∈ gT := sg5 (List.mem_of_getElem? (i := 153) rfl) rfl
theorem mi_X7_downloadingSegment : Cond.instanceMethod yX7_downloadingSegment ∈ gT := sg5 (List.mem_of_getElem? (i := 154) rfl) rfl
theorem ms_X7_downloadingSegment : Cond.selects RX7 yX7_downloadingSegment yX7_downloadingSegment ∈ gT := sg5 (List.mem_of_getElem? (i := 155) rfl) rfl
theorem mc_X7_downloadingSegment : Cond.code yX7_downloadingSegment cX7_downloadingSegment 1 (some .int) ∈ gT := sg5 (List.mem_of_getElem? (i := 156) rfl) rfl
theorem mm_L_84 : Cond.methodLink RL 84 yX7_segmentLevel ∈ gT := sg5 (List.mem_of_getElem? (i := 157) rfl) rfl
theorem mi_X7_segmentLevel : Cond.instanceMethod yX7_segmentLevel ∈ gT := sg5 (List.mem_of_getElem? (i := 158) rfl) rfl
theorem ms_X7_segmentLevel : Cond.selects RX7 yX7_segmentLevel yX7_segmentLevel ∈ gT := sg5 (List.mem_of_getElem? (i := 159) rfl) rfl
theorem mc_X7_segmentLevel : Cond.code yX7_segmentLevel cX7_segmentLevel 2 (some .int) ∈ gT := sg5 (List.mem_of_getElem? (i := 160) rfl) rfl
theorem mm_L_88 : Cond.methodLink RL 88 yX7_throughputEstimate ∈ gT := sg5 (List.mem_of_getElem? (i := 161) rfl) rfl
theorem mi_X7_throughputEstimate : Cond.instanceMethod yX7_throughputEstimate ∈ gT := sg5 (List.mem_of_getElem? (i := 162) rfl) rfl
theorem ms_X7_throughputEstimate : Cond.selects RX7 yX7_throughputEstimate yX7_throughputEstimate ∈ gT := sg5 (List.mem_of_getElem? (i := 163) rfl) rfl
theorem mc_X7_throughputEstimate : Cond.code yX7_throughputEstimate cX7_throughputEstimate 1 (some .int) ∈ gT := sg5 (List.mem_of_getElem? (i := 164) rfl) rfl
theorem mm_L_92 : Cond.methodLink RL 92 yX7_switchCount ∈ gT := sg5 (List.mem_of_getElem? (i := 165) rfl) rfl
theorem mi_X7_switchCount : Cond.instanceMethod yX7_switchCount ∈ gT := sg5 (List.mem_of_getElem? (i := 166) rfl) rfl
theorem ms_X7_switchCount : Cond.selects RX7 yX7_switchCount yX7_switchCount ∈ gT := sg5 (List.mem_of_getElem? (i := 167) rfl) rfl
theorem mc_X7_switchCount : Cond.code yX7_switchCount cX7_switchCount 1 (some .int) ∈ gT := sg5 (List.mem_of_getElem? (i := 168) rfl) rfl
theorem mm_L_96 : Cond.methodLink RL 96 yX7_stallCount ∈ gT := sg5 (List.mem_of_getElem? (i := 169) rfl) rfl
theorem mi_X7_stallCount : Cond.instanceMethod yX7_stallCount ∈ gT := sg5 (List.mem_of_getElem? (i := 170) rfl) rfl
theorem ms_X7_stallCount : Cond.selects RX7 yX7_stallCount yX7_stallCount ∈ gT := sg5 (List.mem_of_getElem? (i := 171) rfl) rfl
theorem mc_X7_stallCount : Cond.code yX7_stallCount cX7_stallCount 1 (some .int) ∈ gT := sg5 (List.mem_of_getElem? (i := 172) rfl) rfl
theorem mm_L_100 : Cond.methodLink RL 100 yX7_stallTime ∈ gT := sg5 (List.mem_of_getElem? (i := 173) rfl) rfl
theorem mi_X7_stallTime : Cond.instanceMethod yX7_stallTime ∈ gT := sg5 (List.mem_of_getElem? (i := 174) rfl) rfl
theorem ms_X7_stallTime : Cond.selects RX7 yX7_stallTime yX7_stallTime ∈ gT := sg5 (List.mem_of_getElem? (i := 175) rfl) rfl
theorem mc_X7_stallTime : Cond.code yX7_stallTime cX7_stallTime 1 (some .int) ∈ gT := sg5 (List.mem_of_getElem? (i := 176) rfl) rfl
theorem mm_L_104 : Cond.methodLink RL 104 yX7_startupTime ∈ gT := sg5 (List.mem_of_getElem? (i := 177) rfl) rfl
theorem mi_X7_startupTime : Cond.instanceMethod yX7_startupTime ∈ gT := sg5 (List.mem_of_getElem? (i := 178) rfl) rfl
theorem ms_X7_startupTime : Cond.selects RX7 yX7_startupTime yX7_startupTime ∈ gT := sg5 (List.mem_of_getElem? (i := 179) rfl) rfl
theorem mc_X7_startupTime : Cond.code yX7_startupTime cX7_startupTime 1 (some .int) ∈ gT := sg5 (List.mem_of_getElem? (i := 180) rfl) rfl
theorem mm_L_108 : Cond.methodLink RL 108 yX7_bitrateSum ∈ gT := sg5 (List.mem_of_getElem? (i := 181) rfl) rfl
theorem mi_X7_bitrateSum : Cond.instanceMethod yX7_bitrateSum ∈ gT := sg5 (List.mem_of_getElem? (i := 182) rfl) rfl
theorem ms_X7_bitrateSum : Cond.selects RX7 yX7_bitrateSum yX7_bitrateSum ∈ gT := sg5 (List.mem_of_getElem? (i := 183) rfl) rfl
theorem mc_X7_bitrateSum : Cond.code yX7_bitrateSum cX7_bitrateSum 1 (some .int) ∈ gT := sg5 (List.mem_of_getElem? (i := 184) rfl) rfl
theorem mm_L_112 : Cond.methodLink RL 112 yX7_segmentSize ∈ gT := sg5 (List.mem_of_getElem? (i := 185) rfl) rfl
theorem mi_X7_segmentSize : Cond.instanceMethod yX7_segmentSize ∈ gT := sg5 (List.mem_of_getElem? (i := 186) rfl) rfl
theorem ms_X7_segmentSize : Cond.selects RX7 yX7_segmentSize yX7_segmentSize ∈ gT := sg5 (List.mem_of_getElem? (i := 187) rfl) rfl
theorem mc_X7_segmentSize : Cond.code yX7_segmentSize cX7_segmentSize 3 (some .int) ∈ gT := sg5 (List.mem_of_getElem? (i := 188) rfl) rfl
theorem mm_L_116 : Cond.methodLink RL 116 yX7_simulatedStallTime ∈ gT := sg5 (List.mem_of_getElem? (i := 189) rfl) rfl
theorem mi_X7_simulatedStallTime : Cond.instanceMethod yX7_simulatedStallTime ∈ gT := sg5 (List.mem_of_getElem? (i := 190) rfl) rfl
theorem ms_X7_simulatedStallTime : Cond.selects RX7 yX7_simulatedStallTime yX7_simulatedStallTime ∈ gT := sg5 (List.mem_of_getElem? (i := 191) rfl) rfl
theorem mc_X7_simulatedStallTime : Cond.code yX7_simulatedStallTime cX7_simulatedStallTime 2 (some .int) ∈ gT := sg5 (List.mem_of_getElem? (i := 192) rfl) rfl
theorem mm_X7_181 : Cond.methodLink RX7 181 yX7_simulated ∈ gT := sg5 (List.mem_of_getElem? (i := 193) rfl) rfl
theorem mi_X7_simulated : Cond.instanceMethod yX7_simulated ∈ gT := sg5 (List.mem_of_getElem? (i := 195) rfl) rfl
theorem mc_X7_simulated : Cond.code yX7_simulated cX7_simulated 4 (some .int) ∈ gT := sg5 (List.mem_of_getElem? (i := 196) rfl) rfl
theorem mm_X7_172 : Cond.methodLink RX7 172 yX7_setsAside ∈ gT := sg5 (List.mem_of_getElem? (i := 197) rfl) rfl
theorem mi_X7_setsAside : Cond.instanceMethod yX7_setsAside ∈ gT := sg5 (List.mem_of_getElem? (i := 199) rfl) rfl
theorem mc_X7_setsAside : Cond.code yX7_setsAside cX7_setsAside 2 none ∈ gT := sg5 (List.mem_of_getElem? (i := 200) rfl) rfl
theorem mm_X7_175 : Cond.methodLink RX7 175 yX7_simulates ∈ gT := sg5 (List.mem_of_getElem? (i := 201) rfl) rfl
theorem mi_X7_simulates : Cond.instanceMethod yX7_simulates ∈ gT := sg5 (List.mem_of_getElem? (i := 203) rfl) rfl
theorem mc_X7_simulates : Cond.code yX7_simulates cX7_simulates 2 none ∈ gT := sg5 (List.mem_of_getElem? (i := 204) rfl) rfl
theorem mk_X7_171 : Cond.constant RX7 171 (120000) ∈ gT := sg5 (List.mem_of_getElem? (i := 205) rfl) rfl
theorem mm_X7_178 : Cond.methodLink RX7 178 yX7_takesBack ∈ gT := sg5 (List.mem_of_getElem? (i := 206) rfl) rfl
theorem mi_X7_takesBack : Cond.instanceMethod yX7_takesBack ∈ gT := sg5 (List.mem_of_getElem? (i := 208) rfl) rfl
theorem mc_X7_takesBack : Cond.code yX7_takesBack cX7_takesBack 2 none ∈ gT := sg5 (List.mem_of_getElem? (i := 209) rfl) rfl
theorem mm_L_120 : Cond.methodLink RL 120 yX7_simulatedBitrateSum ∈ gT := sg5 (List.mem_of_getElem? (i := 210) rfl) rfl
theorem mi_X7_simulatedBitrateSum : Cond.instanceMethod yX7_simulatedBitrateSum ∈ gT := sg5 (List.mem_of_getElem? (i := 211) rfl) rfl
theorem ms_X7_simulatedBitrateSum : Cond.selects RX7 yX7_simulatedBitrateSum yX7_simulatedBitrateSum ∈ gT := sg5 (List.mem_of_getElem? (i := 212) rfl) rfl
theorem mc_X7_simulatedBitrateSum : Cond.code yX7_simulatedBitrateSum cX7_simulatedBitrateSum 2 (some .int) ∈ gT := sg5 (List.mem_of_getElem? (i := 213) rfl) rfl
theorem mm_L_124 : Cond.methodLink RL 124 yX7_bestSmoothLevel ∈ gT := sg5 (List.mem_of_getElem? (i := 214) rfl) rfl
theorem mi_X7_bestSmoothLevel : Cond.instanceMethod yX7_bestSmoothLevel ∈ gT := sg5 (List.mem_of_getElem? (i := 215) rfl) rfl
theorem ms_X7_bestSmoothLevel : Cond.selects RX7 yX7_bestSmoothLevel yX7_bestSmoothLevel ∈ gT := sg5 (List.mem_of_getElem? (i := 216) rfl) rfl
theorem mc_X7_bestSmoothLevel : Cond.code yX7_bestSmoothLevel cX7_bestSmoothLevel 4 (some .int) ∈ gT := sg5 (List.mem_of_getElem? (i := 217) rfl) rfl
theorem ms_J4_J5_length_8abf5_J4_length_8abf5 : Cond.selects RJ4 yJ5_length_8abf5 yJ4_length_8abf5 ∈ gT := sg5 (List.mem_of_getElem? (i := 223) rfl) rfl
theorem inX0 : ∀ w ∈ u_ws RX0 TX0 3, w ∈ gT := show ∀ w ∈ ([u_lay RX0 TX0 0, u_lay RX0 TX0 1, u_lay RX0 TX0 2] : List Cond), w ∈ gT from List.forall_mem_cons.mpr ⟨sg1 (List.mem_of_getElem? (i := 69) rfl) rfl, List.forall_mem_cons.mpr ⟨sg1 (List.mem_of_getElem? (i := 71) rfl) rfl, List.forall_mem_cons.mpr ⟨sg1 (List.mem_of_getElem? (i := 73) rfl) rfl, fun _ h => absurd h List.not_mem_nil⟩⟩⟩
theorem inX1 : ∀ w ∈ u_ws RX1 TX1 5, w ∈ gT := show ∀ w ∈ ([u_lay RX1 TX1 0, u_lay RX1 TX1 1, u_lay RX1 TX1 2, u_lay RX1 TX1 3, u_lay RX1 TX1 4] : List Cond), w ∈ gT from List.forall_mem_cons.mpr ⟨sg1 (List.mem_of_getElem? (i := 136) rfl) rfl, List.forall_mem_cons.mpr ⟨sg1 (List.mem_of_getElem? (i := 138) rfl) rfl, List.forall_mem_cons.mpr ⟨sg1 (List.mem_of_getElem? (i := 140) rfl) rfl, List.forall_mem_cons.mpr ⟨sg1 (List.mem_of_getElem? (i := 142) rfl) rfl, List.forall_mem_cons.mpr ⟨sg1 (List.mem_of_getElem? (i := 144) rfl) rfl, fun _ h => absurd h List.not_mem_nil⟩⟩⟩⟩⟩
theorem inX2 : ∀ w ∈ u_ws RX2 TX2 18, w ∈ gT := show ∀ w ∈ ([u_lay RX2 TX2 0, u_lay RX2 TX2 1, u_lay RX2 TX2 2, u_lay RX2 TX2 3, u_lay RX2 TX2 4, u_lay RX2 TX2 5, u_lay RX2 TX2 6, u_lay RX2 TX2 7, u_lay RX2 TX2 8, u_lay RX2 TX2 9, u_lay RX2 TX2 10, u_lay RX2 TX2 11, u_lay RX2 TX2 12, u_lay RX2 TX2 13, u_lay RX2 TX2 14, u_lay RX2 TX2 15, u_lay RX2 TX2 16, u_lay RX2 TX2 17] : List Cond), w ∈ gT from List.forall_mem_cons.mpr ⟨sg1 (List.mem_of_getElem? (i := 194) rfl) rfl, List.forall_mem_cons.mpr ⟨sg1 (List.mem_of_getElem? (i := 196) rfl) rfl, List.forall_mem_cons.mpr ⟨sg1 (List.mem_of_getElem? (i := 198) rfl) rfl, List.forall_mem_cons.mpr ⟨sg1 (List.mem_of_getElem? (i := 200) rfl) rfl, List.forall_mem_cons.mpr ⟨sg1 (List.mem_of_getElem? (i := 202) rfl) rfl, List.forall_mem_cons.mpr ⟨sg1 (List.mem_of_getElem? (i := 204) rfl) rfl, List.forall_mem_cons.mpr ⟨sg1 (List.mem_of_getElem? (i := 206) rfl) rfl, List.forall_mem_cons.mpr ⟨sg1 (List.mem_of_getElem? (i := 208) rfl) rfl, List.forall_mem_cons.mpr ⟨sg1 (List.mem_of_getElem? (i := 210) rfl) rfl, List.forall_mem_cons.mpr ⟨sg1 (List.mem_of_getElem? (i := 212) rfl) rfl, List.forall_mem_cons.mpr ⟨sg1 (List.mem_of_getElem? (i := 214) rfl) rfl, List.forall_mem_cons.mpr ⟨sg1 (List.mem_of_getElem? (i := 216) rfl) rfl, List.forall_mem_cons.mpr ⟨sg1 (List.mem_of_getElem? (i := 218) rfl) rfl, List.forall_mem_cons.mpr ⟨sg1 (List.mem_of_getElem? (i := 220) rfl) rfl, List.forall_mem_cons.mpr ⟨sg1 (List.mem_of_getElem? (i := 222) rfl) rfl, List.forall_mem_cons.mpr ⟨sg1 (List.mem_of_getElem? (i := 224) rfl) rfl, List.forall_mem_cons.mpr ⟨sg1 (List.mem_of_getElem? (i := 226) rfl) rfl, List.forall_mem_cons.mpr ⟨sg1 (List.mem_of_getElem? (i := 228) rfl) rfl, fun _ h => absurd h List.not_mem_nil⟩⟩⟩⟩⟩⟩⟩⟩⟩⟩⟩⟩⟩⟩⟩⟩⟩⟩
theorem inX3 : ∀ w ∈ u_ws RX3 TX3 5, w ∈ gT := show ∀ w ∈ ([u_lay RX3 TX3 0, u_lay RX3 TX3 1, u_lay RX3 TX3 2, u_lay RX3 TX3 3, u_lay RX3 TX3 4] : List Cond), w ∈ gT from List.forall_mem_cons.mpr ⟨sg1 (List.mem_of_getElem? (i := 92) rfl) rfl, List.forall_mem_cons.mpr ⟨sg1 (List.mem_of_getElem? (i := 94) rfl) rfl, List.forall_mem_cons.mpr ⟨sg1 (List.mem_of_getElem? (i := 96) rfl) rfl, List.forall_mem_cons.mpr ⟨sg1 (List.mem_of_getElem? (i := 98) rfl) rfl, List.forall_mem_cons.mpr ⟨sg1 (List.mem_of_getElem? (i := 100) rfl) rfl, fun _ h => absurd h List.not_mem_nil⟩⟩⟩⟩⟩
theorem inX4 : ∀ w ∈ u_ws RX4 TX4 2, w ∈ gT := show ∀ w ∈ ([u_lay RX4 TX4 0, u_lay RX4 TX4 1] : List Cond), w ∈ gT from List.forall_mem_cons.mpr ⟨sg1 (List.mem_of_getElem? (i := 117) rfl) rfl, List.forall_mem_cons.mpr ⟨sg1 (List.mem_of_getElem? (i := 119) rfl) rfl, fun _ h => absurd h List.not_mem_nil⟩⟩
theorem inX5 : ∀ w ∈ u_ws RX5 TX5 5, w ∈ gT := show ∀ w ∈ ([u_lay RX5 TX5 0, u_lay RX5 TX5 1, u_lay RX5 TX5 2, u_lay RX5 TX5 3, u_lay RX5 TX5 4] : List Cond), w ∈ gT from List.forall_mem_cons.mpr ⟨sg1 (List.mem_of_getElem? (i := 47) rfl) rfl, List.forall_mem_cons.mpr ⟨sg1 (List.mem_of_getElem? (i := 49) rfl) rfl, List.forall_mem_cons.mpr ⟨sg1 (List.mem_of_getElem? (i := 51) rfl) rfl, List.forall_mem_cons.mpr ⟨sg1 (List.mem_of_getElem? (i := 53) rfl) rfl, List.forall_mem_cons.mpr ⟨sg1 (List.mem_of_getElem? (i := 55) rfl) rfl, fun _ h => absurd h List.not_mem_nil⟩⟩⟩⟩⟩
theorem inX6 : ∀ w ∈ u_ws RX6 TX6 8, w ∈ gT := show ∀ w ∈ ([u_lay RX6 TX6 0, u_lay RX6 TX6 1, u_lay RX6 TX6 2, u_lay RX6 TX6 3, u_lay RX6 TX6 4, u_lay RX6 TX6 5, u_lay RX6 TX6 6, u_lay RX6 TX6 7] : List Cond), w ∈ gT from List.forall_mem_cons.mpr ⟨sg2 (List.mem_of_getElem? (i := 32) rfl) rfl, List.forall_mem_cons.mpr ⟨sg2 (List.mem_of_getElem? (i := 34) rfl) rfl, List.forall_mem_cons.mpr ⟨sg2 (List.mem_of_getElem? (i := 36) rfl) rfl, List.forall_mem_cons.mpr ⟨sg2 (List.mem_of_getElem? (i := 38) rfl) rfl, List.forall_mem_cons.mpr ⟨sg2 (List.mem_of_getElem? (i := 40) rfl) rfl, List.forall_mem_cons.mpr ⟨sg2 (List.mem_of_getElem? (i := 42) rfl) rfl, List.forall_mem_cons.mpr ⟨sg2 (List.mem_of_getElem? (i := 44) rfl) rfl, List.forall_mem_cons.mpr ⟨sg2 (List.mem_of_getElem? (i := 46) rfl) rfl, fun _ h => absurd h List.not_mem_nil⟩⟩⟩⟩⟩⟩⟩⟩
theorem inX7 : ∀ w ∈ u_ws RX7 TX7 20, w ∈ gT := show ∀ w ∈ ([u_lay RX7 TX7 0, u_lay RX7 TX7 1, u_lay RX7 TX7 2, u_lay RX7 TX7 3, u_lay RX7 TX7 4, u_lay RX7 TX7 5, u_lay RX7 TX7 6, u_lay RX7 TX7 7, u_lay RX7 TX7 8, u_lay RX7 TX7 9, u_lay RX7 TX7 10, u_lay RX7 TX7 11, u_lay RX7 TX7 12, u_lay RX7 TX7 13, u_lay RX7 TX7 14, u_lay RX7 TX7 15, u_lay RX7 TX7 16, u_lay RX7 TX7 17, u_lay RX7 TX7 18, u_lay RX7 TX7 19] : List Cond), w ∈ gT from List.forall_mem_cons.mpr ⟨sg4 (List.mem_of_getElem? (i := 190) rfl) rfl, List.forall_mem_cons.mpr ⟨sg4 (List.mem_of_getElem? (i := 192) rfl) rfl, List.forall_mem_cons.mpr ⟨sg4 (List.mem_of_getElem? (i := 194) rfl) rfl, List.forall_mem_cons.mpr ⟨sg4 (List.mem_of_getElem? (i := 196) rfl) rfl, List.forall_mem_cons.mpr ⟨sg4 (List.mem_of_getElem? (i := 198) rfl) rfl, List.forall_mem_cons.mpr ⟨sg4 (List.mem_of_getElem? (i := 200) rfl) rfl, List.forall_mem_cons.mpr ⟨sg4 (List.mem_of_getElem? (i := 202) rfl) rfl, List.forall_mem_cons.mpr ⟨sg4 (List.mem_of_getElem? (i := 204) rfl) rfl, List.forall_mem_cons.mpr ⟨sg4 (List.mem_of_getElem? (i := 206) rfl) rfl, List.forall_mem_cons.mpr ⟨sg4 (List.mem_of_getElem? (i := 208) rfl) rfl, List.forall_mem_cons.mpr ⟨sg4 (List.mem_of_getElem? (i := 210) rfl) rfl, List.forall_mem_cons.mpr ⟨sg4 (List.mem_of_getElem? (i := 212) rfl) rfl, List.forall_mem_cons.mpr ⟨sg4 (List.mem_of_getElem? (i := 214) rfl) rfl, List.forall_mem_cons.mpr ⟨sg4 (List.mem_of_getElem? (i := 216) rfl) rfl, List.forall_mem_cons.mpr ⟨sg4 (List.mem_of_getElem? (i := 218) rfl) rfl, List.forall_mem_cons.mpr ⟨sg4 (List.mem_of_getElem? (i := 220) rfl) rfl, List.forall_mem_cons.mpr ⟨sg4 (List.mem_of_getElem? (i := 222) rfl) rfl, List.forall_mem_cons.mpr ⟨sg4 (List.mem_of_getElem? (i := 224) rfl) rfl, List.forall_mem_cons.mpr ⟨sg4 (List.mem_of_getElem? (i := 226) rfl) rfl, List.forall_mem_cons.mpr ⟨sg4 (List.mem_of_getElem? (i := 228) rfl) rfl, fun _ h => absurd h List.not_mem_nil⟩⟩⟩⟩⟩⟩⟩⟩⟩⟩⟩⟩⟩⟩⟩⟩⟩⟩⟩⟩
theorem inJ0 : ∀ w ∈ u_ws RJ0 TJ0 4, w ∈ gT := show ∀ w ∈ ([u_lay RJ0 TJ0 0, u_lay RJ0 TJ0 1, u_lay RJ0 TJ0 2, u_lay RJ0 TJ0 3] : List Cond), w ∈ gT from List.forall_mem_cons.mpr ⟨sg3 (List.mem_of_getElem? (i := 38) rfl) rfl, List.forall_mem_cons.mpr ⟨sg3 (List.mem_of_getElem? (i := 40) rfl) rfl, List.forall_mem_cons.mpr ⟨sg3 (List.mem_of_getElem? (i := 42) rfl) rfl, List.forall_mem_cons.mpr ⟨sg3 (List.mem_of_getElem? (i := 44) rfl) rfl, fun _ h => absurd h List.not_mem_nil⟩⟩⟩⟩
theorem inJ4 : ∀ w ∈ u_ws RJ4 TJ4 4, w ∈ gT := show ∀ w ∈ ([u_lay RJ4 TJ4 0, u_lay RJ4 TJ4 1, u_lay RJ4 TJ4 2, u_lay RJ4 TJ4 3] : List Cond), w ∈ gT from List.forall_mem_cons.mpr ⟨sg2 (List.mem_of_getElem? (i := 14) rfl) rfl, List.forall_mem_cons.mpr ⟨sg2 (List.mem_of_getElem? (i := 16) rfl) rfl, List.forall_mem_cons.mpr ⟨sg2 (List.mem_of_getElem? (i := 18) rfl) rfl, List.forall_mem_cons.mpr ⟨sg2 (List.mem_of_getElem? (i := 20) rfl) rfl, fun _ h => absurd h List.not_mem_nil⟩⟩⟩⟩
end
section
theorem dX0_init_0 : decode cX0_init 0 = .ok (.aload_n 0, 1) := by decide +kernel
theorem dX0_init_1 : decode cX0_init 1 = .ok (.invokespecial 3, 3) := by decide +kernel
theorem dX0_init_4 : decode cX0_init 4 = .ok (.aload_n 0, 1) := by decide +kernel
theorem dX0_init_5 : decode cX0_init 5 = .ok (.bipush 12, 2) := by decide +kernel
theorem dX0_init_7 : decode cX0_init 7 = .ok (.newarray .int, 2) := by decide +kernel
theorem dX0_init_9 : decode cX0_init 9 = .ok (.putfield 9, 3) := by decide +kernel
theorem dX0_init_12 : decode cX0_init 12 = .ok (.aload_n 0, 1) := by decide +kernel
theorem dX0_init_13 : decode cX0_init 13 = .ok (.bipush 12, 2) := by decide +kernel
theorem dX0_init_15 : decode cX0_init 15 = .ok (.newarray .int, 2) := by decide +kernel
theorem dX0_init_17 : decode cX0_init 17 = .ok (.putfield 15, 3) := by decide +kernel
theorem dX0_init_20 : decode cX0_init 20 = .ok (.return_, 1) := by decide +kernel
theorem dX0_appendPeriod_0 : decode cX0_appendPeriod 0 = .ok (.aload_n 0, 1) := by decide +kernel
theorem dX0_appendPeriod_1 : decode cX0_appendPeriod 1 = .ok (.getfield 18, 3) := by decide +kernel
theorem dX0_appendPeriod_4 : decode cX0_appendPeriod 4 = .ok (.aload_n 0, 1) := by decide +kernel
theorem dX0_appendPeriod_5 : decode cX0_appendPeriod 5 = .ok (.getfield 9, 3) := by decide +kernel
theorem dX0_appendPeriod_8 : decode cX0_appendPeriod 8 = .ok (.arraylength, 1) := by decide +kernel
theorem dX0_appendPeriod_9 : decode cX0_appendPeriod 9 = .ok (.if_icmp .ge 70, 3) := by decide +kernel
theorem dX0_appendPeriod_12 : decode cX0_appendPeriod 12 = .ok (.aload_n 0, 1) := by decide +kernel
theorem dX0_appendPeriod_13 : decode cX0_appendPeriod 13 = .ok (.getfield 18, 3) := by decide +kernel
theorem dX0_appendPeriod_16 : decode cX0_appendPeriod 16 = .ok (.aload_n 0, 1) := by decide +kernel
theorem dX0_appendPeriod_17 : decode cX0_appendPeriod 17 = .ok (.getfield 15, 3) := by decide +kernel
theorem dX0_appendPeriod_20 : decode cX0_appendPeriod 20 = .ok (.arraylength, 1) := by decide +kernel
theorem dX0_appendPeriod_21 : decode cX0_appendPeriod 21 = .ok (.if_icmp .ge 58, 3) := by decide +kernel
theorem dX0_appendPeriod_24 : decode cX0_appendPeriod 24 = .ok (.aload_n 0, 1) := by decide +kernel
theorem dX0_appendPeriod_25 : decode cX0_appendPeriod 25 = .ok (.getfield 18, 3) := by decide +kernel
theorem dX0_appendPeriod_28 : decode cX0_appendPeriod 28 = .ok (.ifCond .le 17, 3) := by decide +kernel
theorem dX0_appendPeriod_31 : decode cX0_appendPeriod 31 = .ok (.aload_n 0, 1) := by decide +kernel
theorem dX0_appendPeriod_32 : decode cX0_appendPeriod 32 = .ok (.getfield 9, 3) := by decide +kernel
theorem dX0_appendPeriod_35 : decode cX0_appendPeriod 35 = .ok (.aload_n 0, 1) := by decide +kernel
theorem dX0_appendPeriod_36 : decode cX0_appendPeriod 36 = .ok (.getfield 18, 3) := by decide +kernel
theorem dX0_appendPeriod_39 : decode cX0_appendPeriod 39 = .ok (.iconst 1, 1) := by decide +kernel
theorem dX0_appendPeriod_40 : decode cX0_appendPeriod 40 = .ok (.isub, 1) := by decide +kernel
theorem dX0_appendPeriod_41 : decode cX0_appendPeriod 41 = .ok (.iaload, 1) := by decide +kernel
theorem dX0_appendPeriod_42 : decode cX0_appendPeriod 42 = .ok (.goto 4, 3) := by decide +kernel
theorem dX0_appendPeriod_45 : decode cX0_appendPeriod 45 = .ok (.iconst 0, 1) := by decide +kernel
theorem dX0_appendPeriod_46 : decode cX0_appendPeriod 46 = .ok (.istore_n 3, 1) := by decide +kernel
theorem dX0_appendPeriod_47 : decode cX0_appendPeriod 47 = .ok (.aload_n 0, 1) := by decide +kernel
theorem dX0_appendPeriod_48 : decode cX0_appendPeriod 48 = .ok (.getfield 9, 3) := by decide +kernel
theorem dX0_appendPeriod_51 : decode cX0_appendPeriod 51 = .ok (.aload_n 0, 1) := by decide +kernel
theorem dX0_appendPeriod_52 : decode cX0_appendPeriod 52 = .ok (.getfield 18, 3) := by decide +kernel
theorem dX0_appendPeriod_55 : decode cX0_appendPeriod 55 = .ok (.iload_n 3, 1) := by decide +kernel
theorem dX0_appendPeriod_56 : decode cX0_appendPeriod 56 = .ok (.iload_n 1, 1) := by decide +kernel
theorem dX0_appendPeriod_57 : decode cX0_appendPeriod 57 = .ok (.iadd, 1) := by decide +kernel
theorem dX0_appendPeriod_58 : decode cX0_appendPeriod 58 = .ok (.iastore, 1) := by decide +kernel
theorem dX0_appendPeriod_59 : decode cX0_appendPeriod 59 = .ok (.aload_n 0, 1) := by decide +kernel
theorem dX0_appendPeriod_60 : decode cX0_appendPeriod 60 = .ok (.getfield 15, 3) := by decide +kernel
theorem dX0_appendPeriod_63 : decode cX0_appendPeriod 63 = .ok (.aload_n 0, 1) := by decide +kernel
theorem dX0_appendPeriod_64 : decode cX0_appendPeriod 64 = .ok (.getfield 18, 3) := by decide +kernel
theorem dX0_appendPeriod_67 : decode cX0_appendPeriod 67 = .ok (.iload_n 2, 1) := by decide +kernel
theorem dX0_appendPeriod_68 : decode cX0_appendPeriod 68 = .ok (.iastore, 1) := by decide +kernel
theorem dX0_appendPeriod_69 : decode cX0_appendPeriod 69 = .ok (.aload_n 0, 1) := by decide +kernel
theorem dX0_appendPeriod_70 : decode cX0_appendPeriod 70 = .ok (.dup, 1) := by decide +kernel
theorem dX0_appendPeriod_71 : decode cX0_appendPeriod 71 = .ok (.getfield 18, 3) := by decide +kernel
theorem dX0_appendPeriod_74 : decode cX0_appendPeriod 74 = .ok (.iconst 1, 1) := by decide +kernel
theorem dX0_appendPeriod_75 : decode cX0_appendPeriod 75 = .ok (.iadd, 1) := by decide +kernel
theorem dX0_appendPeriod_76 : decode cX0_appendPeriod 76 = .ok (.putfield 18, 3) := by decide +kernel
theorem dX0_appendPeriod_79 : decode cX0_appendPeriod 79 = .ok (.return_, 1) := by decide +kernel
theorem dX0_rateAt_0 : decode cX0_rateAt 0 = .ok (.sipush 1000, 3) := by decide +kernel
theorem dX0_rateAt_3 : decode cX0_rateAt 3 = .ok (.istore_n 2, 1) := by decide +kernel
theorem dX0_rateAt_4 : decode cX0_rateAt 4 = .ok (.aload_n 0, 1) := by decide +kernel
theorem dX0_rateAt_5 : decode cX0_rateAt 5 = .ok (.getfield 18, 3) := by decide +kernel
theorem dX0_rateAt_8 : decode cX0_rateAt 8 = .ok (.aload_n 0, 1) := by decide +kernel
theorem dX0_rateAt_9 : decode cX0_rateAt 9 = .ok (.getfield 9, 3) := by decide +kernel
theorem dX0_rateAt_12 : decode cX0_rateAt 12 = .ok (.arraylength, 1) := by decide +kernel
theorem dX0_rateAt_13 : decode cX0_rateAt 13 = .ok (.aload_n 0, 1) := by decide +kernel
theorem dX0_rateAt_14 : decode cX0_rateAt 14 = .ok (.getfield 15, 3) := by decide +kernel
theorem dX0_rateAt_17 : decode cX0_rateAt 17 = .ok (.arraylength, 1) := by decide +kernel
theorem dX0_rateAt_18 : decode cX0_rateAt 18 = .ok (.invokestatic 22, 3) := by decide +kernel
theorem dX0_rateAt_21 : decode cX0_rateAt 21 = .ok (.invokestatic 22, 3) := by decide +kernel
theorem dX0_rateAt_24 : decode cX0_rateAt 24 = .ok (.istore_n 3, 1) := by decide +kernel
theorem dX0_rateAt_25 : decode cX0_rateAt 25 = .ok (.iconst 0, 1) := by decide +kernel
theorem dX0_rateAt_26 : decode cX0_rateAt 26 = .ok (.istore 4, 2) := by decide +kernel
theorem dX0_rateAt_28 : decode cX0_rateAt 28 = .ok (.iload 4, 2) := by decide +kernel
theorem dX0_rateAt_30 : decode cX0_rateAt 30 = .ok (.iload_n 3, 1) := by decide +kernel
theorem dX0_rateAt_31 : decode cX0_rateAt 31 = .ok (.if_icmp .ge 30, 3) := by decide +kernel
theorem dX0_rateAt_34 : decode cX0_rateAt 34 = .ok (.aload_n 0, 1) := by decide +kernel
theorem dX0_rateAt_35 : decode cX0_rateAt 35 = .ok (.getfield 15, 3) := by decide +kernel
theorem dX0_rateAt_38 : decode cX0_rateAt 38 = .ok (.iload 4, 2) := by decide +kernel
theorem dX0_rateAt_40 : decode cX0_rateAt 40 = .ok (.iaload, 1) := by decide +kernel
theorem dX0_rateAt_41 : decode cX0_rateAt 41 = .ok (.istore_n 2, 1) := by decide +kernel
theorem dX0_rateAt_42 : decode cX0_rateAt 42 = .ok (.iload_n 1, 1) := by decide +kernel
theorem dX0_rateAt_43 : decode cX0_rateAt 43 = .ok (.aload_n 0, 1) := by decide +kernel
theorem dX0_rateAt_44 : decode cX0_rateAt 44 = .ok (.getfield 9, 3) := by decide +kernel
theorem dX0_rateAt_47 : decode cX0_rateAt 47 = .ok (.iload 4, 2) := by decide +kernel
theorem dX0_rateAt_49 : decode cX0_rateAt 49 = .ok (.iaload, 1) := by decide +kernel
theorem dX0_rateAt_50 : decode cX0_rateAt 50 = .ok (.if_icmp .ge 5, 3) := by decide +kernel
theorem dX0_rateAt_53 : decode cX0_rateAt 53 = .ok (.iload_n 2, 1) := by decide +kernel
theorem dX0_rateAt_54 : decode cX0_rateAt 54 = .ok (.ireturn, 1) := by decide +kernel
theorem dX0_rateAt_55 : decode cX0_rateAt 55 = .ok (.iinc 4 1, 3) := by decide +kernel
theorem dX0_rateAt_58 : decode cX0_rateAt 58 = .ok (.goto (-30), 3) := by decide +kernel
theorem dX0_rateAt_61 : decode cX0_rateAt 61 = .ok (.iload_n 2, 1) := by decide +kernel
theorem dX0_rateAt_62 : decode cX0_rateAt 62 = .ok (.ireturn, 1) := by decide +kernel
theorem dX1_init_0 : decode cX1_init 0 = .ok (.aload_n 0, 1) := by decide +kernel
theorem dX1_init_1 : decode cX1_init 1 = .ok (.invokespecial 1, 3) := by decide +kernel
theorem dX1_init_4 : decode cX1_init 4 = .ok (.return_, 1) := by decide +kernel
theorem dX1_start_0 : decode cX1_start 0 = .ok (.aload_n 0, 1) := by decide +kernel
theorem dX1_start_1 : decode cX1_start 1 = .ok (.iconst 1, 1) := by decide +kernel
theorem dX1_start_2 : decode cX1_start 2 = .ok (.putfield 7, 3) := by decide +kernel
theorem dX1_start_5 : decode cX1_start 5 = .ok (.aload_n 0, 1) := by decide +kernel
theorem dX1_start_6 : decode cX1_start 6 = .ok (.iload_n 1, 1) := by decide +kernel
theorem dX1_start_7 : decode cX1_start 7 = .ok (.putfield 13, 3) := by decide +kernel
theorem dX1_start_10 : decode cX1_start 10 = .ok (.aload_n 0, 1) := by decide +kernel
theorem dX1_start_11 : decode cX1_start 11 = .ok (.iload_n 2, 1) := by decide +kernel
theorem dX1_start_12 : decode cX1_start 12 = .ok (.putfield 17, 3) := by decide +kernel
theorem dX1_start_15 : decode cX1_start 15 = .ok (.aload_n 0, 1) := by decide +kernel
theorem dX1_start_16 : decode cX1_start 16 = .ok (.iconst 0, 1) := by decide +kernel
theorem dX1_start_17 : decode cX1_start 17 = .ok (.putfield 20, 3) := by decide +kernel
theorem dX1_start_20 : decode cX1_start 20 = .ok (.aload_n 0, 1) := by decide +kernel
theorem dX1_start_21 : decode cX1_start 21 = .ok (.iconst 0, 1) := by decide +kernel
theorem dX1_start_22 : decode cX1_start 22 = .ok (.putfield 23, 3) := by decide +kernel
theorem dX1_start_25 : decode cX1_start 25 = .ok (.return_, 1) := by decide +kernel
theorem dX1_stop_0 : decode cX1_stop 0 = .ok (.aload_n 0, 1) := by decide +kernel
theorem dX1_stop_1 : decode cX1_stop 1 = .ok (.iconst 0, 1) := by decide +kernel
theorem dX1_stop_2 : decode cX1_stop 2 = .ok (.putfield 7, 3) := by decide +kernel
theorem dX1_stop_5 : decode cX1_stop 5 = .ok (.return_, 1) := by decide +kernel
theorem dX1_receive_0 : decode cX1_receive 0 = .ok (.aload_n 0, 1) := by decide +kernel
theorem dX1_receive_1 : decode cX1_receive 1 = .ok (.dup, 1) := by decide +kernel
theorem dX1_receive_2 : decode cX1_receive 2 = .ok (.getfield 20, 3) := by decide +kernel
theorem dX1_receive_5 : decode cX1_receive 5 = .ok (.iload_n 1, 1) := by decide +kernel
theorem dX1_receive_6 : decode cX1_receive 6 = .ok (.iadd, 1) := by decide +kernel
theorem dX1_receive_7 : decode cX1_receive 7 = .ok (.putfield 20, 3) := by decide +kernel
theorem dX1_receive_10 : decode cX1_receive 10 = .ok (.aload_n 0, 1) := by decide +kernel
theorem dX1_receive_11 : decode cX1_receive 11 = .ok (.dup, 1) := by decide +kernel
theorem dX1_receive_12 : decode cX1_receive 12 = .ok (.getfield 23, 3) := by decide +kernel
theorem dX1_receive_15 : decode cX1_receive 15 = .ok (.iconst 1, 1) := by decide +kernel
theorem dX1_receive_16 : decode cX1_receive 16 = .ok (.iadd, 1) := by decide +kernel
theorem dX1_receive_17 : decode cX1_receive 17 = .ok (.putfield 23, 3) := by decide +kernel
theorem dX1_receive_20 : decode cX1_receive 20 = .ok (.return_, 1) := by decide +kernel
theorem dX1_isComplete_0 : decode cX1_isComplete 0 = .ok (.aload_n 0, 1) := by decide +kernel
theorem dX1_isComplete_1 : decode cX1_isComplete 1 = .ok (.getfield 20, 3) := by decide +kernel
theorem dX1_isComplete_4 : decode cX1_isComplete 4 = .ok (.aload_n 0, 1) := by decide +kernel
theorem dX1_isComplete_5 : decode cX1_isComplete 5 = .ok (.getfield 17, 3) := by decide +kernel
theorem dX1_isComplete_8 : decode cX1_isComplete 8 = .ok (.if_icmp .lt 7, 3) := by decide +kernel
theorem dX1_isComplete_11 : decode cX1_isComplete 11 = .ok (.iconst 1, 1) := by decide +kernel
theorem dX1_isComplete_12 : decode cX1_isComplete 12 = .ok (.goto 4, 3) := by decide +kernel
theorem dX1_isComplete_15 : decode cX1_isComplete 15 = .ok (.iconst 0, 1) := by decide +kernel
theorem dX1_isComplete_16 : decode cX1_isComplete 16 = .ok (.ireturn, 1) := by decide +kernel
theorem dX1_throughput_0 : decode cX1_throughput 0 = .ok (.aload_n 0, 1) := by decide +kernel
theorem dX1_throughput_1 : decode cX1_throughput 1 = .ok (.getfield 23, 3) := by decide +kernel
theorem dX1_throughput_4 : decode cX1_throughput 4 = .ok (.ifCond .le 15, 3) := by decide +kernel
theorem dX1_throughput_7 : decode cX1_throughput 7 = .ok (.aload_n 0, 1) := by decide +kernel
theorem dX1_throughput_8 : decode cX1_throughput 8 = .ok (.getfield 17, 3) := by decide +kernel
theorem dX1_throughput_11 : decode cX1_throughput 11 = .ok (.aload_n 0, 1) := by decide +kernel
theorem dX1_throughput_12 : decode cX1_throughput 12 = .ok (.getfield 23, 3) := by decide +kernel
theorem dX1_throughput_15 : decode cX1_throughput 15 = .ok (.idiv, 1) := by decide +kernel
theorem dX1_throughput_16 : decode cX1_throughput 16 = .ok (.goto 4, 3) := by decide +kernel
theorem dX1_throughput_19 : decode cX1_throughput 19 = .ok (.iconst 0, 1) := by decide +kernel
theorem dX1_throughput_20 : decode cX1_throughput 20 = .ok (.ireturn, 1) := by decide +kernel
theorem dX2_init_0 : decode cX2_init 0 = .ok (.aload_n 0, 1) := by decide +kernel
theorem dX2_init_1 : decode cX2_init 1 = .ok (.invokespecial 3, 3) := by decide +kernel
theorem dX2_init_4 : decode cX2_init 4 = .ok (.aload_n 0, 1) := by decide +kernel
theorem dX2_init_5 : decode cX2_init 5 = .ok (.bipush 30, 2) := by decide +kernel
theorem dX2_init_7 : decode cX2_init 7 = .ok (.newarray .int, 2) := by decide +kernel
theorem dX2_init_9 : decode cX2_init 9 = .ok (.putfield 9, 3) := by decide +kernel
theorem dX2_init_12 : decode cX2_init 12 = .ok (.aload_n 0, 1) := by decide +kernel
theorem dX2_init_13 : decode cX2_init 13 = .ok (.new 15, 3) := by decide +kernel
theorem dX2_init_16 : decode cX2_init 16 = .ok (.dup, 1) := by decide +kernel
theorem dX2_init_17 : decode cX2_init 17 = .ok (.invokespecial 17, 3) := by decide +kernel
theorem dX2_init_20 : decode cX2_init 20 = .ok (.putfield 18, 3) := by decide +kernel
theorem dX2_init_23 : decode cX2_init 23 = .ok (.aload_n 0, 1) := by decide +kernel
theorem dX2_init_24 : decode cX2_init 24 = .ok (.new 22, 3) := by decide +kernel
theorem dX2_init_27 : decode cX2_init 27 = .ok (.dup, 1) := by decide +kernel
theorem dX2_init_28 : decode cX2_init 28 = .ok (.invokespecial 24, 3) := by decide +kernel
theorem dX2_init_31 : decode cX2_init 31 = .ok (.putfield 25, 3) := by decide +kernel
theorem dX2_init_34 : decode cX2_init 34 = .ok (.aload_n 0, 1) := by decide +kernel
theorem dX2_init_35 : decode cX2_init 35 = .ok (.aload_n 1, 1) := by decide +kernel
theorem dX2_init_36 : decode cX2_init 36 = .ok (.putfield 29, 3) := by decide +kernel
theorem dX2_init_39 : decode cX2_init 39 = .ok (.aload_n 0, 1) := by decide +kernel
theorem dX2_init_40 : decode cX2_init 40 = .ok (.aload_n 2, 1) := by decide +kernel
theorem dX2_init_41 : decode cX2_init 41 = .ok (.putfield 33, 3) := by decide +kernel
theorem dX2_init_44 : decode cX2_init 44 = .ok (.aload_n 0, 1) := by decide +kernel
theorem dX2_init_45 : decode cX2_init 45 = .ok (.aload_n 3, 1) := by decide +kernel
theorem dX2_init_46 : decode cX2_init 46 = .ok (.putfield 37, 3) := by decide +kernel
theorem dX2_init_49 : decode cX2_init 49 = .ok (.aload_n 0, 1) := by decide +kernel
theorem dX2_init_50 : decode cX2_init 50 = .ok (.invokevirtual 41, 3) := by decide +kernel
theorem dX2_init_53 : decode cX2_init 53 = .ok (.return_, 1) := by decide +kernel
theorem dX2_begin_0 : decode cX2_begin 0 = .ok (.aload_n 0, 1) := by decide +kernel
theorem dX2_begin_1 : decode cX2_begin 1 = .ok (.iconst 0, 1) := by decide +kernel
theorem dX2_begin_2 : decode cX2_begin 2 = .ok (.invokevirtual 44, 3) := by decide +kernel
theorem dX2_begin_5 : decode cX2_begin 5 = .ok (.aload_n 0, 1) := by decide +kernel
theorem dX2_begin_6 : decode cX2_begin 6 = .ok (.iconst 0, 1) := by decide +kernel
theorem dX2_begin_7 : decode cX2_begin 7 = .ok (.putfield 48, 3) := by decide +kernel
theorem dX2_begin_10 : decode cX2_begin 10 = .ok (.aload_n 0, 1) := by decide +kernel
theorem dX2_begin_11 : decode cX2_begin 11 = .ok (.iconst 0, 1) := by decide +kernel
theorem dX2_begin_12 : decode cX2_begin 12 = .ok (.putfield 52, 3) := by decide +kernel
theorem dX2_begin_15 : decode cX2_begin 15 = .ok (.aload_n 0, 1) := by decide +kernel
theorem dX2_begin_16 : decode cX2_begin 16 = .ok (.iconst 0, 1) := by decide +kernel
theorem dX2_begin_17 : decode cX2_begin 17 = .ok (.putfield 56, 3) := by decide +kernel
theorem dX2_begin_20 : decode cX2_begin 20 = .ok (.aload_n 0, 1) := by decide +kernel
theorem dX2_begin_21 : decode cX2_begin 21 = .ok (.iconst 0, 1) := by decide +kernel
theorem dX2_begin_22 : decode cX2_begin 22 = .ok (.putfield 59, 3) := by decide +kernel
theorem dX2_begin_25 : decode cX2_begin 25 = .ok (.aload_n 0, 1) := by decide +kernel
theorem dX2_begin_26 : decode cX2_begin 26 = .ok (.iconst 0, 1) := by decide +kernel
theorem dX2_begin_27 : decode cX2_begin 27 = .ok (.putfield 62, 3) := by decide +kernel
theorem dX2_begin_30 : decode cX2_begin 30 = .ok (.aload_n 0, 1) := by decide +kernel
theorem dX2_begin_31 : decode cX2_begin 31 = .ok (.iconst 0, 1) := by decide +kernel
theorem dX2_begin_32 : decode cX2_begin 32 = .ok (.putfield 65, 3) := by decide +kernel
theorem dX2_begin_35 : decode cX2_begin 35 = .ok (.aload_n 0, 1) := by decide +kernel
theorem dX2_begin_36 : decode cX2_begin 36 = .ok (.iconst 0, 1) := by decide +kernel
theorem dX2_begin_37 : decode cX2_begin 37 = .ok (.putfield 68, 3) := by decide +kernel
theorem dX2_begin_40 : decode cX2_begin 40 = .ok (.aload_n 0, 1) := by decide +kernel
theorem dX2_begin_41 : decode cX2_begin 41 = .ok (.bipush (-6), 2) := by decide +kernel
theorem dX2_begin_43 : decode cX2_begin 43 = .ok (.putfield 71, 3) := by decide +kernel
theorem dX2_begin_46 : decode cX2_begin 46 = .ok (.iconst 0, 1) := by decide +kernel
theorem dX2_begin_47 : decode cX2_begin 47 = .ok (.istore_n 1, 1) := by decide +kernel
theorem dX2_begin_48 : decode cX2_begin 48 = .ok (.iload_n 1, 1) := by decide +kernel
theorem dX2_begin_49 : decode cX2_begin 49 = .ok (.aload_n 0, 1) := by decide +kernel
theorem dX2_begin_50 : decode cX2_begin 50 = .ok (.getfield 9, 3) := by decide +kernel
theorem dX2_begin_53 : decode cX2_begin 53 = .ok (.arraylength, 1) := by decide +kernel
theorem dX2_begin_54 : decode cX2_begin 54 = .ok (.if_icmp .ge 17, 3) := by decide +kernel
theorem dX2_begin_57 : decode cX2_begin 57 = .ok (.aload_n 0, 1) := by decide +kernel
theorem dX2_begin_58 : decode cX2_begin 58 = .ok (.getfield 9, 3) := by decide +kernel
theorem dX2_begin_61 : decode cX2_begin 61 = .ok (.iload_n 1, 1) := by decide +kernel
theorem dX2_begin_62 : decode cX2_begin 62 = .ok (.bipush (-6), 2) := by decide +kernel
theorem dX2_begin_64 : decode cX2_begin 64 = .ok (.iastore, 1) := by decide +kernel
theorem dX2_begin_65 : decode cX2_begin 65 = .ok (.iinc 1 1, 3) := by decide +kernel
theorem dX2_begin_68 : decode cX2_begin 68 = .ok (.goto (-20), 3) := by decide +kernel
theorem dX2_begin_71 : decode cX2_begin 71 = .ok (.return_, 1) := by decide +kernel
theorem dX2_moveTo_0 : decode cX2_moveTo 0 = .ok (.aload_n 0, 1) := by decide +kernel
theorem dX2_moveTo_1 : decode cX2_moveTo 1 = .ok (.getfield 25, 3) := by decide +kernel
theorem dX2_moveTo_4 : decode cX2_moveTo 4 = .ok (.invokevirtual 74, 3) := by decide +kernel
theorem dX2_moveTo_7 : decode cX2_moveTo 7 = .ok (.aload_n 0, 1) := by decide +kernel
theorem dX2_moveTo_8 : decode cX2_moveTo 8 = .ok (.getfield 18, 3) := by decide +kernel
theorem dX2_moveTo_11 : decode cX2_moveTo 11 = .ok (.invokevirtual 77, 3) := by decide +kernel
theorem dX2_moveTo_14 : decode cX2_moveTo 14 = .ok (.aload_n 0, 1) := by decide +kernel
theorem dX2_moveTo_15 : decode cX2_moveTo 15 = .ok (.iconst 0, 1) := by decide +kernel
theorem dX2_moveTo_16 : decode cX2_moveTo 16 = .ok (.putfield 80, 3) := by decide +kernel
theorem dX2_moveTo_19 : decode cX2_moveTo 19 = .ok (.aload_n 0, 1) := by decide +kernel
theorem dX2_moveTo_20 : decode cX2_moveTo 20 = .ok (.iload_n 1, 1) := by decide +kernel
theorem dX2_moveTo_21 : decode cX2_moveTo 21 = .ok (.putfield 83, 3) := by decide +kernel
theorem dX2_moveTo_24 : decode cX2_moveTo 24 = .ok (.aload_n 0, 1) := by decide +kernel
theorem dX2_moveTo_25 : decode cX2_moveTo 25 = .ok (.iload_n 1, 1) := by decide +kernel
theorem dX2_moveTo_26 : decode cX2_moveTo 26 = .ok (.aload_n 0, 1) := by decide +kernel
theorem dX2_moveTo_27 : decode cX2_moveTo 27 = .ok (.getfield 29, 3) := by decide +kernel
theorem dX2_moveTo_30 : decode cX2_moveTo 30 = .ok (.getfield 86, 3) := by decide +kernel
theorem dX2_moveTo_33 : decode cX2_moveTo 33 = .ok (.imul, 1) := by decide +kernel
theorem dX2_moveTo_34 : decode cX2_moveTo 34 = .ok (.putfield 91, 3) := by decide +kernel
theorem dX2_moveTo_37 : decode cX2_moveTo 37 = .ok (.aload_n 0, 1) := by decide +kernel
theorem dX2_moveTo_38 : decode cX2_moveTo 38 = .ok (.iconst 0, 1) := by decide +kernel
theorem dX2_moveTo_39 : decode cX2_moveTo 39 = .ok (.putfield 94, 3) := by decide +kernel
theorem dX2_moveTo_42 : decode cX2_moveTo 42 = .ok (.return_, 1) := by decide +kernel
theorem dX2_playWhole_0 : decode cX2_playWhole 0 = .ok (.aload_n 0, 1) := by decide +kernel
theorem dX2_playWhole_1 : decode cX2_playWhole 1 = .ok (.invokevirtual 41, 3) := by decide +kernel
theorem dX2_playWhole_4 : decode cX2_playWhole 4 = .ok (.iconst 0, 1) := by decide +kernel
theorem dX2_playWhole_5 : decode cX2_playWhole 5 = .ok (.istore_n 3, 1) := by decide +kernel
theorem dX2_playWhole_6 : decode cX2_playWhole 6 = .ok (.iload_n 3, 1) := by decide +kernel
theorem dX2_playWhole_7 : decode cX2_playWhole 7 = .ok (.ldc 97, 2) := by decide +kernel
theorem dX2_playWhole_9 : decode cX2_playWhole 9 = .ok (.if_icmp .ge 24, 3) := by decide +kernel
theorem dX2_playWhole_12 : decode cX2_playWhole 12 = .ok (.aload_n 0, 1) := by decide +kernel
theorem dX2_playWhole_13 : decode cX2_playWhole 13 = .ok (.getfield 94, 3) := by decide +kernel
theorem dX2_playWhole_16 : decode cX2_playWhole 16 = .ok (.iconst 3, 1) := by decide +kernel
theorem dX2_playWhole_17 : decode cX2_playWhole 17 = .ok (.if_icmp .eq 16, 3) := by decide +kernel
theorem dX2_playWhole_20 : decode cX2_playWhole 20 = .ok (.aload_n 0, 1) := by decide +kernel
theorem dX2_playWhole_21 : decode cX2_playWhole 21 = .ok (.iload_n 1, 1) := by decide +kernel
theorem dX2_playWhole_22 : decode cX2_playWhole 22 = .ok (.iload_n 2, 1) := by decide +kernel
theorem dX2_playWhole_23 : decode cX2_playWhole 23 = .ok (.invokevirtual 98, 3) := by decide +kernel
theorem dX2_playWhole_26 : decode cX2_playWhole 26 = .ok (.pop, 1) := by decide +kernel
theorem dX2_playWhole_27 : decode cX2_playWhole 27 = .ok (.iinc 3 1, 3) := by decide +kernel
theorem dX2_playWhole_30 : decode cX2_playWhole 30 = .ok (.goto (-24), 3) := by decide +kernel
theorem dX2_playWhole_33 : decode cX2_playWhole 33 = .ok (.return_, 1) := by decide +kernel
theorem dX2_passMillisecond_0 : decode cX2_passMillisecond 0 = .ok (.aload_n 0, 1) := by decide +kernel
theorem dX2_passMillisecond_1 : decode cX2_passMillisecond 1 = .ok (.invokevirtual 102, 3) := by decide +kernel
theorem dX2_passMillisecond_4 : decode cX2_passMillisecond 4 = .ok (.ifCond .eq 30, 3) := by decide +kernel
theorem dX2_passMillisecond_7 : decode cX2_passMillisecond 7 = .ok (.aload_n 0, 1) := by decide +kernel
theorem dX2_passMillisecond_8 : decode cX2_passMillisecond 8 = .ok (.iload_n 1, 1) := by decide +kernel
theorem dX2_passMillisecond_9 : decode cX2_passMillisecond 9 = .ok (.iload_n 2, 1) := by decide +kernel
theorem dX2_passMillisecond_10 : decode cX2_passMillisecond 10 = .ok (.invokevirtual 106, 3) := by decide +kernel
theorem dX2_passMillisecond_13 : decode cX2_passMillisecond 13 = .ok (.istore_n 3, 1) := by decide +kernel
theorem dX2_passMillisecond_14 : decode cX2_passMillisecond 14 = .ok (.aload_n 0, 1) := by decide +kernel
theorem dX2_passMillisecond_15 : decode cX2_passMillisecond 15 = .ok (.getfield 25, 3) := by decide +kernel
theorem dX2_passMillisecond_18 : decode cX2_passMillisecond 18 = .ok (.iload_n 3, 1) := by decide +kernel
theorem dX2_passMillisecond_19 : decode cX2_passMillisecond 19 = .ok (.aload_n 0, 1) := by decide +kernel
theorem dX2_passMillisecond_20 : decode cX2_passMillisecond 20 = .ok (.getfield 29, 3) := by decide +kernel
theorem dX2_passMillisecond_23 : decode cX2_passMillisecond 23 = .ok (.iload_n 3, 1) := by decide +kernel
theorem dX2_passMillisecond_24 : decode cX2_passMillisecond 24 = .ok (.aload_n 0, 1) := by decide +kernel
theorem dX2_passMillisecond_25 : decode cX2_passMillisecond 25 = .ok (.getfield 83, 3) := by decide +kernel
theorem dX2_passMillisecond_28 : decode cX2_passMillisecond 28 = .ok (.invokevirtual 110, 3) := by decide +kernel
theorem dX2_passMillisecond_31 : decode cX2_passMillisecond 31 = .ok (.invokevirtual 113, 3) := by decide +kernel
theorem dX2_passMillisecond_34 : decode cX2_passMillisecond 34 = .ok (.iconst 0, 1) := by decide +kernel
theorem dX2_passMillisecond_35 : decode cX2_passMillisecond 35 = .ok (.istore_n 3, 1) := by decide +kernel
theorem dX2_passMillisecond_36 : decode cX2_passMillisecond 36 = .ok (.aload_n 0, 1) := by decide +kernel
theorem dX2_passMillisecond_37 : decode cX2_passMillisecond 37 = .ok (.getfield 25, 3) := by decide +kernel
theorem dX2_passMillisecond_40 : decode cX2_passMillisecond 40 = .ok (.getfield 117, 3) := by decide +kernel
theorem dX2_passMillisecond_43 : decode cX2_passMillisecond 43 = .ok (.ifCond .eq 29, 3) := by decide +kernel
theorem dX2_passMillisecond_46 : decode cX2_passMillisecond 46 = .ok (.aload_n 0, 1) := by decide +kernel
theorem dX2_passMillisecond_47 : decode cX2_passMillisecond 47 = .ok (.getfield 25, 3) := by decide +kernel
theorem dX2_passMillisecond_50 : decode cX2_passMillisecond 50 = .ok (.aload_n 0, 1) := by decide +kernel
theorem dX2_passMillisecond_51 : decode cX2_passMillisecond 51 = .ok (.getfield 33, 3) := by decide +kernel
theorem dX2_passMillisecond_54 : decode cX2_passMillisecond 54 = .ok (.aload_n 0, 1) := by decide +kernel
theorem dX2_passMillisecond_55 : decode cX2_passMillisecond 55 = .ok (.getfield 52, 3) := by decide +kernel
theorem dX2_passMillisecond_58 : decode cX2_passMillisecond 58 = .ok (.invokevirtual 120, 3) := by decide +kernel
theorem dX2_passMillisecond_61 : decode cX2_passMillisecond 61 = .ok (.invokevirtual 126, 3) := by decide +kernel
theorem dX2_passMillisecond_64 : decode cX2_passMillisecond 64 = .ok (.aload_n 0, 1) := by decide +kernel
theorem dX2_passMillisecond_65 : decode cX2_passMillisecond 65 = .ok (.getfield 25, 3) := by decide +kernel
theorem dX2_passMillisecond_68 : decode cX2_passMillisecond 68 = .ok (.invokevirtual 129, 3) := by decide +kernel
theorem dX2_passMillisecond_71 : decode cX2_passMillisecond 71 = .ok (.istore_n 3, 1) := by decide +kernel
theorem dX2_passMillisecond_72 : decode cX2_passMillisecond 72 = .ok (.iload_n 3, 1) := by decide +kernel
theorem dX2_passMillisecond_73 : decode cX2_passMillisecond 73 = .ok (.ifCond .eq 7, 3) := by decide +kernel
theorem dX2_passMillisecond_76 : decode cX2_passMillisecond 76 = .ok (.aload_n 0, 1) := by decide +kernel
theorem dX2_passMillisecond_77 : decode cX2_passMillisecond 77 = .ok (.invokevirtual 132, 3) := by decide +kernel
theorem dX2_passMillisecond_80 : decode cX2_passMillisecond 80 = .ok (.aload_n 0, 1) := by decide +kernel
theorem dX2_passMillisecond_81 : decode cX2_passMillisecond 81 = .ok (.getfield 48, 3) := by decide +kernel
theorem dX2_passMillisecond_84 : decode cX2_passMillisecond 84 = .ok (.ifCond .ne 7, 3) := by decide +kernel
theorem dX2_passMillisecond_87 : decode cX2_passMillisecond 87 = .ok (.aload_n 0, 1) := by decide +kernel
theorem dX2_passMillisecond_88 : decode cX2_passMillisecond 88 = .ok (.invokevirtual 135, 3) := by decide +kernel
theorem dX2_passMillisecond_91 : decode cX2_passMillisecond 91 = .ok (.aload_n 0, 1) := by decide +kernel
theorem dX2_passMillisecond_92 : decode cX2_passMillisecond 92 = .ok (.dup, 1) := by decide +kernel
theorem dX2_passMillisecond_93 : decode cX2_passMillisecond 93 = .ok (.getfield 52, 3) := by decide +kernel
theorem dX2_passMillisecond_96 : decode cX2_passMillisecond 96 = .ok (.iconst 1, 1) := by decide +kernel
theorem dX2_passMillisecond_97 : decode cX2_passMillisecond 97 = .ok (.iadd, 1) := by decide +kernel
theorem dX2_passMillisecond_98 : decode cX2_passMillisecond 98 = .ok (.putfield 52, 3) := by decide +kernel
theorem dX2_passMillisecond_101 : decode cX2_passMillisecond 101 = .ok (.iload_n 3, 1) := by decide +kernel
theorem dX2_passMillisecond_102 : decode cX2_passMillisecond 102 = .ok (.ireturn, 1) := by decide +kernel
theorem dX2_completedLevelOf_0 : decode cX2_completedLevelOf 0 = .ok (.iload_n 1, 1) := by decide +kernel
theorem dX2_completedLevelOf_1 : decode cX2_completedLevelOf 1 = .ok (.ifCond .lt 21, 3) := by decide +kernel
theorem dX2_completedLevelOf_4 : decode cX2_completedLevelOf 4 = .ok (.iload_n 1, 1) := by decide +kernel
theorem dX2_completedLevelOf_5 : decode cX2_completedLevelOf 5 = .ok (.aload_n 0, 1) := by decide +kernel
theorem dX2_completedLevelOf_6 : decode cX2_completedLevelOf 6 = .ok (.getfield 9, 3) := by decide +kernel
theorem dX2_completedLevelOf_9 : decode cX2_completedLevelOf 9 = .ok (.arraylength, 1) := by decide +kernel
theorem dX2_completedLevelOf_10 : decode cX2_completedLevelOf 10 = .ok (.if_icmp .ge 12, 3) := by decide +kernel
theorem dX2_completedLevelOf_13 : decode cX2_completedLevelOf 13 = .ok (.aload_n 0, 1) := by decide +kernel
theorem dX2_completedLevelOf_14 : decode cX2_completedLevelOf 14 = .ok (.getfield 9, 3) := by decide +kernel
theorem dX2_completedLevelOf_17 : decode cX2_completedLevelOf 17 = .ok (.iload_n 1, 1) := by decide +kernel
theorem dX2_completedLevelOf_18 : decode cX2_completedLevelOf 18 = .ok (.iaload, 1) := by decide +kernel
theorem dX2_completedLevelOf_19 : decode cX2_completedLevelOf 19 = .ok (.goto 5, 3) := by decide +kernel
theorem dX2_completedLevelOf_22 : decode cX2_completedLevelOf 22 = .ok (.bipush (-6), 2) := by decide +kernel
theorem dX2_completedLevelOf_24 : decode cX2_completedLevelOf 24 = .ok (.ireturn, 1) := by decide +kernel
theorem dX2_hasNextSegment_0 : decode cX2_hasNextSegment 0 = .ok (.aload_n 0, 1) := by decide +kernel
theorem dX2_hasNextSegment_1 : decode cX2_hasNextSegment 1 = .ok (.getfield 83, 3) := by decide +kernel
theorem dX2_hasNextSegment_4 : decode cX2_hasNextSegment 4 = .ok (.aload_n 0, 1) := by decide +kernel
theorem dX2_hasNextSegment_5 : decode cX2_hasNextSegment 5 = .ok (.getfield 29, 3) := by decide +kernel
theorem dX2_hasNextSegment_8 : decode cX2_hasNextSegment 8 = .ok (.getfield 138, 3) := by decide +kernel
theorem dX2_hasNextSegment_11 : decode cX2_hasNextSegment 11 = .ok (.if_icmp .ge 7, 3) := by decide +kernel
theorem dX2_hasNextSegment_14 : decode cX2_hasNextSegment 14 = .ok (.iconst 1, 1) := by decide +kernel
theorem dX2_hasNextSegment_15 : decode cX2_hasNextSegment 15 = .ok (.goto 4, 3) := by decide +kernel
theorem dX2_hasNextSegment_18 : decode cX2_hasNextSegment 18 = .ok (.iconst 0, 1) := by decide +kernel
theorem dX2_hasNextSegment_19 : decode cX2_hasNextSegment 19 = .ok (.ireturn, 1) := by decide +kernel
theorem dX2_canStartDownload_0 : decode cX2_canStartDownload 0 = .ok (.aload_n 0, 1) := by decide +kernel
theorem dX2_canStartDownload_1 : decode cX2_canStartDownload 1 = .ok (.getfield 25, 3) := by decide +kernel
theorem dX2_canStartDownload_4 : decode cX2_canStartDownload 4 = .ok (.getfield 117, 3) := by decide +kernel
theorem dX2_canStartDownload_7 : decode cX2_canStartDownload 7 = .ok (.ifCond .ne 36, 3) := by decide +kernel
theorem dX2_canStartDownload_10 : decode cX2_canStartDownload 10 = .ok (.aload_n 0, 1) := by decide +kernel
theorem dX2_canStartDownload_11 : decode cX2_canStartDownload 11 = .ok (.invokevirtual 141, 3) := by decide +kernel
theorem dX2_canStartDownload_14 : decode cX2_canStartDownload 14 = .ok (.ifCond .eq 29, 3) := by decide +kernel
theorem dX2_canStartDownload_17 : decode cX2_canStartDownload 17 = .ok (.aload_n 0, 1) := by decide +kernel
theorem dX2_canStartDownload_18 : decode cX2_canStartDownload 18 = .ok (.getfield 80, 3) := by decide +kernel
theorem dX2_canStartDownload_21 : decode cX2_canStartDownload 21 = .ok (.aload_n 0, 1) := by decide +kernel
theorem dX2_canStartDownload_22 : decode cX2_canStartDownload 22 = .ok (.getfield 29, 3) := by decide +kernel
theorem dX2_canStartDownload_25 : decode cX2_canStartDownload 25 = .ok (.getfield 86, 3) := by decide +kernel
theorem dX2_canStartDownload_28 : decode cX2_canStartDownload 28 = .ok (.iadd, 1) := by decide +kernel
theorem dX2_canStartDownload_29 : decode cX2_canStartDownload 29 = .ok (.aload_n 0, 1) := by decide +kernel
theorem dX2_canStartDownload_30 : decode cX2_canStartDownload 30 = .ok (.getfield 37, 3) := by decide +kernel
theorem dX2_canStartDownload_33 : decode cX2_canStartDownload 33 = .ok (.getfield 144, 3) := by decide +kernel
theorem dX2_canStartDownload_36 : decode cX2_canStartDownload 36 = .ok (.if_icmp .gt 7, 3) := by decide +kernel
theorem dX2_canStartDownload_39 : decode cX2_canStartDownload 39 = .ok (.iconst 1, 1) := by decide +kernel
theorem dX2_canStartDownload_40 : decode cX2_canStartDownload 40 = .ok (.goto 4, 3) := by decide +kernel
theorem dX2_canStartDownload_43 : decode cX2_canStartDownload 43 = .ok (.iconst 0, 1) := by decide +kernel
theorem dX2_canStartDownload_44 : decode cX2_canStartDownload 44 = .ok (.ireturn, 1) := by decide +kernel
theorem dX2_completeSegment_0 : decode cX2_completeSegment 0 = .ok (.aload_n 0, 1) := by decide +kernel
theorem dX2_completeSegment_1 : decode cX2_completeSegment 1 = .ok (.getfield 25, 3) := by decide +kernel
theorem dX2_completeSegment_4 : decode cX2_completeSegment 4 = .ok (.getfield 149, 3) := by decide +kernel
theorem dX2_completeSegment_7 : decode cX2_completeSegment 7 = .ok (.istore_n 1, 1) := by decide +kernel
theorem dX2_completeSegment_8 : decode cX2_completeSegment 8 = .ok (.aload_n 0, 1) := by decide +kernel
theorem dX2_completeSegment_9 : decode cX2_completeSegment 9 = .ok (.getfield 25, 3) := by decide +kernel
theorem dX2_completeSegment_12 : decode cX2_completeSegment 12 = .ok (.invokevirtual 74, 3) := by decide +kernel
theorem dX2_completeSegment_15 : decode cX2_completeSegment 15 = .ok (.aload_n 0, 1) := by decide +kernel
theorem dX2_completeSegment_16 : decode cX2_completeSegment 16 = .ok (.getfield 18, 3) := by decide +kernel
theorem dX2_completeSegment_19 : decode cX2_completeSegment 19 = .ok (.aload_n 0, 1) := by decide +kernel
theorem dX2_completeSegment_20 : decode cX2_completeSegment 20 = .ok (.getfield 25, 3) := by decide +kernel
theorem dX2_completeSegment_23 : decode cX2_completeSegment 23 = .ok (.invokevirtual 152, 3) := by decide +kernel
theorem dX2_completeSegment_26 : decode cX2_completeSegment 26 = .ok (.invokevirtual 156, 3) := by decide +kernel
theorem dX2_completeSegment_29 : decode cX2_completeSegment 29 = .ok (.aload_n 0, 1) := by decide +kernel
theorem dX2_completeSegment_30 : decode cX2_completeSegment 30 = .ok (.dup, 1) := by decide +kernel
theorem dX2_completeSegment_31 : decode cX2_completeSegment 31 = .ok (.getfield 80, 3) := by decide +kernel
theorem dX2_completeSegment_34 : decode cX2_completeSegment 34 = .ok (.aload_n 0, 1) := by decide +kernel
theorem dX2_completeSegment_35 : decode cX2_completeSegment 35 = .ok (.getfield 29, 3) := by decide +kernel
theorem dX2_completeSegment_38 : decode cX2_completeSegment 38 = .ok (.getfield 86, 3) := by decide +kernel
theorem dX2_completeSegment_41 : decode cX2_completeSegment 41 = .ok (.iadd, 1) := by decide +kernel
theorem dX2_completeSegment_42 : decode cX2_completeSegment 42 = .ok (.putfield 80, 3) := by decide +kernel
theorem dX2_completeSegment_45 : decode cX2_completeSegment 45 = .ok (.aload_n 0, 1) := by decide +kernel
theorem dX2_completeSegment_46 : decode cX2_completeSegment 46 = .ok (.dup, 1) := by decide +kernel
theorem dX2_completeSegment_47 : decode cX2_completeSegment 47 = .ok (.getfield 68, 3) := by decide +kernel
theorem dX2_completeSegment_50 : decode cX2_completeSegment 50 = .ok (.aload_n 0, 1) := by decide +kernel
theorem dX2_completeSegment_51 : decode cX2_completeSegment 51 = .ok (.getfield 29, 3) := by decide +kernel
theorem dX2_completeSegment_54 : decode cX2_completeSegment 54 = .ok (.iload_n 1, 1) := by decide +kernel
theorem dX2_completeSegment_55 : decode cX2_completeSegment 55 = .ok (.invokevirtual 159, 3) := by decide +kernel
theorem dX2_completeSegment_58 : decode cX2_completeSegment 58 = .ok (.iadd, 1) := by decide +kernel
theorem dX2_completeSegment_59 : decode cX2_completeSegment 59 = .ok (.putfield 68, 3) := by decide +kernel
theorem dX2_completeSegment_62 : decode cX2_completeSegment 62 = .ok (.aload_n 0, 1) := by decide +kernel
theorem dX2_completeSegment_63 : decode cX2_completeSegment 63 = .ok (.getfield 71, 3) := by decide +kernel
theorem dX2_completeSegment_66 : decode cX2_completeSegment 66 = .ok (.bipush (-6), 2) := by decide +kernel
theorem dX2_completeSegment_68 : decode cX2_completeSegment 68 = .ok (.if_icmp .eq 21, 3) := by decide +kernel
theorem dX2_completeSegment_71 : decode cX2_completeSegment 71 = .ok (.aload_n 0, 1) := by decide +kernel
theorem dX2_completeSegment_72 : decode cX2_completeSegment 72 = .ok (.getfield 71, 3) := by decide +kernel
theorem dX2_completeSegment_75 : decode cX2_completeSegment 75 = .ok (.iload_n 1, 1) := by decide +kernel
theorem dX2_completeSegment_76 : decode cX2_completeSegment 76 = .ok (.if_icmp .eq 13, 3) := by decide +kernel
theorem dX2_completeSegment_79 : decode cX2_completeSegment 79 = .ok (.aload_n 0, 1) := by decide +kernel
theorem dX2_completeSegment_80 : decode cX2_completeSegment 80 = .ok (.dup, 1) := by decide +kernel
theorem dX2_completeSegment_81 : decode cX2_completeSegment 81 = .ok (.getfield 56, 3) := by decide +kernel
theorem dX2_completeSegment_84 : decode cX2_completeSegment 84 = .ok (.iconst 1, 1) := by decide +kernel
theorem dX2_completeSegment_85 : decode cX2_completeSegment 85 = .ok (.iadd, 1) := by decide +kernel
theorem dX2_completeSegment_86 : decode cX2_completeSegment 86 = .ok (.putfield 56, 3) := by decide +kernel
theorem dX2_completeSegment_89 : decode cX2_completeSegment 89 = .ok (.aload_n 0, 1) := by decide +kernel
theorem dX2_completeSegment_90 : decode cX2_completeSegment 90 = .ok (.iload_n 1, 1) := by decide +kernel
theorem dX2_completeSegment_91 : decode cX2_completeSegment 91 = .ok (.putfield 71, 3) := by decide +kernel
theorem dX2_completeSegment_94 : decode cX2_completeSegment 94 = .ok (.aload_n 0, 1) := by decide +kernel
theorem dX2_completeSegment_95 : decode cX2_completeSegment 95 = .ok (.getfield 83, 3) := by decide +kernel
theorem dX2_completeSegment_98 : decode cX2_completeSegment 98 = .ok (.ifCond .lt 25, 3) := by decide +kernel
theorem dX2_completeSegment_101 : decode cX2_completeSegment 101 = .ok (.aload_n 0, 1) := by decide +kernel
theorem dX2_completeSegment_102 : decode cX2_completeSegment 102 = .ok (.getfield 83, 3) := by decide +kernel
theorem dX2_completeSegment_105 : decode cX2_completeSegment 105 = .ok (.aload_n 0, 1) := by decide +kernel
theorem dX2_completeSegment_106 : decode cX2_completeSegment 106 = .ok (.getfield 9, 3) := by decide +kernel
theorem dX2_completeSegment_109 : decode cX2_completeSegment 109 = .ok (.arraylength, 1) := by decide +kernel
theorem dX2_completeSegment_110 : decode cX2_completeSegment 110 = .ok (.if_icmp .ge 13, 3) := by decide +kernel
theorem dX2_completeSegment_113 : decode cX2_completeSegment 113 = .ok (.aload_n 0, 1) := by decide +kernel
theorem dX2_completeSegment_114 : decode cX2_completeSegment 114 = .ok (.getfield 9, 3) := by decide +kernel
theorem dX2_completeSegment_117 : decode cX2_completeSegment 117 = .ok (.aload_n 0, 1) := by decide +kernel
theorem dX2_completeSegment_118 : decode cX2_completeSegment 118 = .ok (.getfield 83, 3) := by decide +kernel
theorem dX2_completeSegment_121 : decode cX2_completeSegment 121 = .ok (.iload_n 1, 1) := by decide +kernel
theorem dX2_completeSegment_122 : decode cX2_completeSegment 122 = .ok (.iastore, 1) := by decide +kernel
theorem dX2_completeSegment_123 : decode cX2_completeSegment 123 = .ok (.aload_n 0, 1) := by decide +kernel
theorem dX2_completeSegment_124 : decode cX2_completeSegment 124 = .ok (.dup, 1) := by decide +kernel
theorem dX2_completeSegment_125 : decode cX2_completeSegment 125 = .ok (.getfield 83, 3) := by decide +kernel
theorem dX2_completeSegment_128 : decode cX2_completeSegment 128 = .ok (.iconst 1, 1) := by decide +kernel
theorem dX2_completeSegment_129 : decode cX2_completeSegment 129 = .ok (.iadd, 1) := by decide +kernel
theorem dX2_completeSegment_130 : decode cX2_completeSegment 130 = .ok (.putfield 83, 3) := by decide +kernel
theorem dX2_completeSegment_133 : decode cX2_completeSegment 133 = .ok (.return_, 1) := by decide +kernel
theorem dX2_play_0 : decode cX2_play 0 = .ok (.aload_n 0, 1) := by decide +kernel
theorem dX2_play_1 : decode cX2_play 1 = .ok (.getfield 94, 3) := by decide +kernel
theorem dX2_play_4 : decode cX2_play 4 = .ok (.tableswitch 69 0 2 #[28, 62, 45], 28) := by decide +kernel
theorem dX2_play_32 : decode cX2_play 32 = .ok (.aload_n 0, 1) := by decide +kernel
theorem dX2_play_33 : decode cX2_play 33 = .ok (.dup, 1) := by decide +kernel
theorem dX2_play_34 : decode cX2_play 34 = .ok (.getfield 65, 3) := by decide +kernel
theorem dX2_play_37 : decode cX2_play 37 = .ok (.iconst 1, 1) := by decide +kernel
theorem dX2_play_38 : decode cX2_play 38 = .ok (.iadd, 1) := by decide +kernel
theorem dX2_play_39 : decode cX2_play 39 = .ok (.putfield 65, 3) := by decide +kernel
theorem dX2_play_42 : decode cX2_play 42 = .ok (.aload_n 0, 1) := by decide +kernel
theorem dX2_play_43 : decode cX2_play 43 = .ok (.invokevirtual 162, 3) := by decide +kernel
theorem dX2_play_46 : decode cX2_play 46 = .ok (.goto 27, 3) := by decide +kernel
theorem dX2_play_49 : decode cX2_play 49 = .ok (.aload_n 0, 1) := by decide +kernel
theorem dX2_play_50 : decode cX2_play 50 = .ok (.dup, 1) := by decide +kernel
theorem dX2_play_51 : decode cX2_play 51 = .ok (.getfield 62, 3) := by decide +kernel
theorem dX2_play_54 : decode cX2_play 54 = .ok (.iconst 1, 1) := by decide +kernel
theorem dX2_play_55 : decode cX2_play 55 = .ok (.iadd, 1) := by decide +kernel
theorem dX2_play_56 : decode cX2_play 56 = .ok (.putfield 62, 3) := by decide +kernel
theorem dX2_play_59 : decode cX2_play 59 = .ok (.aload_n 0, 1) := by decide +kernel
theorem dX2_play_60 : decode cX2_play 60 = .ok (.invokevirtual 162, 3) := by decide +kernel
theorem dX2_play_63 : decode cX2_play 63 = .ok (.goto 10, 3) := by decide +kernel
theorem dX2_play_66 : decode cX2_play 66 = .ok (.aload_n 0, 1) := by decide +kernel
theorem dX2_play_67 : decode cX2_play 67 = .ok (.invokevirtual 165, 3) := by decide +kernel
theorem dX2_play_70 : decode cX2_play 70 = .ok (.goto 3, 3) := by decide +kernel
theorem dX2_play_73 : decode cX2_play 73 = .ok (.return_, 1) := by decide +kernel
theorem dX2_playIfReady_0 : decode cX2_playIfReady 0 = .ok (.aload_n 0, 1) := by decide +kernel
theorem dX2_playIfReady_1 : decode cX2_playIfReady 1 = .ok (.getfield 80, 3) := by decide +kernel
theorem dX2_playIfReady_4 : decode cX2_playIfReady 4 = .ok (.aload_n 0, 1) := by decide +kernel
theorem dX2_playIfReady_5 : decode cX2_playIfReady 5 = .ok (.getfield 37, 3) := by decide +kernel
theorem dX2_playIfReady_8 : decode cX2_playIfReady 8 = .ok (.getfield 168, 3) := by decide +kernel
theorem dX2_playIfReady_11 : decode cX2_playIfReady 11 = .ok (.if_icmp .ge 17, 3) := by decide +kernel
theorem dX2_playIfReady_14 : decode cX2_playIfReady 14 = .ok (.aload_n 0, 1) := by decide +kernel
theorem dX2_playIfReady_15 : decode cX2_playIfReady 15 = .ok (.invokevirtual 141, 3) := by decide +kernel
theorem dX2_playIfReady_18 : decode cX2_playIfReady 18 = .ok (.ifCond .ne 15, 3) := by decide +kernel
theorem dX2_playIfReady_21 : decode cX2_playIfReady 21 = .ok (.aload_n 0, 1) := by decide +kernel
theorem dX2_playIfReady_22 : decode cX2_playIfReady 22 = .ok (.getfield 80, 3) := by decide +kernel
theorem dX2_playIfReady_25 : decode cX2_playIfReady 25 = .ok (.ifCond .le 8, 3) := by decide +kernel
theorem dX2_playIfReady_28 : decode cX2_playIfReady 28 = .ok (.aload_n 0, 1) := by decide +kernel
theorem dX2_playIfReady_29 : decode cX2_playIfReady 29 = .ok (.iconst 1, 1) := by decide +kernel
theorem dX2_playIfReady_30 : decode cX2_playIfReady 30 = .ok (.putfield 94, 3) := by decide +kernel
theorem dX2_playIfReady_33 : decode cX2_playIfReady 33 = .ok (.return_, 1) := by decide +kernel
theorem dX2_playMillisecond_0 : decode cX2_playMillisecond 0 = .ok (.aload_n 0, 1) := by decide +kernel
theorem dX2_playMillisecond_1 : decode cX2_playMillisecond 1 = .ok (.dup, 1) := by decide +kernel
theorem dX2_playMillisecond_2 : decode cX2_playMillisecond 2 = .ok (.getfield 80, 3) := by decide +kernel
theorem dX2_playMillisecond_5 : decode cX2_playMillisecond 5 = .ok (.iconst 1, 1) := by decide +kernel
theorem dX2_playMillisecond_6 : decode cX2_playMillisecond 6 = .ok (.isub, 1) := by decide +kernel
theorem dX2_playMillisecond_7 : decode cX2_playMillisecond 7 = .ok (.putfield 80, 3) := by decide +kernel
theorem dX2_playMillisecond_10 : decode cX2_playMillisecond 10 = .ok (.aload_n 0, 1) := by decide +kernel
theorem dX2_playMillisecond_11 : decode cX2_playMillisecond 11 = .ok (.dup, 1) := by decide +kernel
theorem dX2_playMillisecond_12 : decode cX2_playMillisecond 12 = .ok (.getfield 91, 3) := by decide +kernel
theorem dX2_playMillisecond_15 : decode cX2_playMillisecond 15 = .ok (.iconst 1, 1) := by decide +kernel
theorem dX2_playMillisecond_16 : decode cX2_playMillisecond 16 = .ok (.iadd, 1) := by decide +kernel
theorem dX2_playMillisecond_17 : decode cX2_playMillisecond 17 = .ok (.putfield 91, 3) := by decide +kernel
theorem dX2_playMillisecond_20 : decode cX2_playMillisecond 20 = .ok (.aload_n 0, 1) := by decide +kernel
theorem dX2_playMillisecond_21 : decode cX2_playMillisecond 21 = .ok (.getfield 80, 3) := by decide +kernel
theorem dX2_playMillisecond_24 : decode cX2_playMillisecond 24 = .ok (.ifCond .le 4, 3) := by decide +kernel
theorem dX2_playMillisecond_27 : decode cX2_playMillisecond 27 = .ok (.return_, 1) := by decide +kernel
theorem dX2_playMillisecond_28 : decode cX2_playMillisecond 28 = .ok (.aload_n 0, 1) := by decide +kernel
theorem dX2_playMillisecond_29 : decode cX2_playMillisecond 29 = .ok (.invokevirtual 141, 3) := by decide +kernel
theorem dX2_playMillisecond_32 : decode cX2_playMillisecond 32 = .ok (.ifCond .eq 21, 3) := by decide +kernel
theorem dX2_playMillisecond_35 : decode cX2_playMillisecond 35 = .ok (.aload_n 0, 1) := by decide +kernel
theorem dX2_playMillisecond_36 : decode cX2_playMillisecond 36 = .ok (.iconst 2, 1) := by decide +kernel
theorem dX2_playMillisecond_37 : decode cX2_playMillisecond 37 = .ok (.putfield 94, 3) := by decide +kernel
theorem dX2_playMillisecond_40 : decode cX2_playMillisecond 40 = .ok (.aload_n 0, 1) := by decide +kernel
theorem dX2_playMillisecond_41 : decode cX2_playMillisecond 41 = .ok (.dup, 1) := by decide +kernel
theorem dX2_playMillisecond_42 : decode cX2_playMillisecond 42 = .ok (.getfield 59, 3) := by decide +kernel
theorem dX2_playMillisecond_45 : decode cX2_playMillisecond 45 = .ok (.iconst 1, 1) := by decide +kernel
theorem dX2_playMillisecond_46 : decode cX2_playMillisecond 46 = .ok (.iadd, 1) := by decide +kernel
theorem dX2_playMillisecond_47 : decode cX2_playMillisecond 47 = .ok (.putfield 59, 3) := by decide +kernel
theorem dX2_playMillisecond_50 : decode cX2_playMillisecond 50 = .ok (.goto 8, 3) := by decide +kernel
theorem dX2_playMillisecond_53 : decode cX2_playMillisecond 53 = .ok (.aload_n 0, 1) := by decide +kernel
theorem dX2_playMillisecond_54 : decode cX2_playMillisecond 54 = .ok (.iconst 3, 1) := by decide +kernel
theorem dX2_playMillisecond_55 : decode cX2_playMillisecond 55 = .ok (.putfield 94, 3) := by decide +kernel
theorem dX2_playMillisecond_58 : decode cX2_playMillisecond 58 = .ok (.return_, 1) := by decide +kernel
theorem dX2_chooseLevel_0 : decode cX2_chooseLevel 0 = .ok (.iload_n 2, 1) := by decide +kernel
theorem dX2_chooseLevel_1 : decode cX2_chooseLevel 1 = .ok (.aload_n 0, 1) := by decide +kernel
theorem dX2_chooseLevel_2 : decode cX2_chooseLevel 2 = .ok (.getfield 29, 3) := by decide +kernel
theorem dX2_chooseLevel_5 : decode cX2_chooseLevel 5 = .ok (.getfield 171, 3) := by decide +kernel
theorem dX2_chooseLevel_8 : decode cX2_chooseLevel 8 = .ok (.iconst 1, 1) := by decide +kernel
theorem dX2_chooseLevel_9 : decode cX2_chooseLevel 9 = .ok (.isub, 1) := by decide +kernel
theorem dX2_chooseLevel_10 : decode cX2_chooseLevel 10 = .ok (.invokestatic 174, 3) := by decide +kernel
theorem dX2_chooseLevel_13 : decode cX2_chooseLevel 13 = .ok (.istore_n 3, 1) := by decide +kernel
theorem dX2_chooseLevel_14 : decode cX2_chooseLevel 14 = .ok (.iload_n 1, 1) := by decide +kernel
theorem dX2_chooseLevel_15 : decode cX2_chooseLevel 15 = .ok (.tableswitch 43 1 3 #[25, 31, 37], 25) := by decide +kernel
theorem dX2_chooseLevel_40 : decode cX2_chooseLevel 40 = .ok (.aload_n 0, 1) := by decide +kernel
theorem dX2_chooseLevel_41 : decode cX2_chooseLevel 41 = .ok (.iload_n 3, 1) := by decide +kernel
theorem dX2_chooseLevel_42 : decode cX2_chooseLevel 42 = .ok (.invokevirtual 179, 3) := by decide +kernel
theorem dX2_chooseLevel_45 : decode cX2_chooseLevel 45 = .ok (.ireturn, 1) := by decide +kernel
theorem dX2_chooseLevel_46 : decode cX2_chooseLevel 46 = .ok (.aload_n 0, 1) := by decide +kernel
theorem dX2_chooseLevel_47 : decode cX2_chooseLevel 47 = .ok (.iload_n 3, 1) := by decide +kernel
theorem dX2_chooseLevel_48 : decode cX2_chooseLevel 48 = .ok (.invokevirtual 182, 3) := by decide +kernel
theorem dX2_chooseLevel_51 : decode cX2_chooseLevel 51 = .ok (.ireturn, 1) := by decide +kernel
theorem dX2_chooseLevel_52 : decode cX2_chooseLevel 52 = .ok (.aload_n 0, 1) := by decide +kernel
theorem dX2_chooseLevel_53 : decode cX2_chooseLevel 53 = .ok (.iload_n 3, 1) := by decide +kernel
theorem dX2_chooseLevel_54 : decode cX2_chooseLevel 54 = .ok (.invokevirtual 185, 3) := by decide +kernel
theorem dX2_chooseLevel_57 : decode cX2_chooseLevel 57 = .ok (.ireturn, 1) := by decide +kernel
theorem dX2_chooseLevel_58 : decode cX2_chooseLevel 58 = .ok (.iload_n 3, 1) := by decide +kernel
theorem dX2_chooseLevel_59 : decode cX2_chooseLevel 59 = .ok (.ireturn, 1) := by decide +kernel
theorem dX2_levelByRate_0 : decode cX2_levelByRate 0 = .ok (.aload_n 0, 1) := by decide +kernel
theorem dX2_levelByRate_1 : decode cX2_levelByRate 1 = .ok (.getfield 18, 3) := by decide +kernel
theorem dX2_levelByRate_4 : decode cX2_levelByRate 4 = .ok (.invokevirtual 188, 3) := by decide +kernel
theorem dX2_levelByRate_7 : decode cX2_levelByRate 7 = .ok (.istore_n 2, 1) := by decide +kernel
theorem dX2_levelByRate_8 : decode cX2_levelByRate 8 = .ok (.iload_n 2, 1) := by decide +kernel
theorem dX2_levelByRate_9 : decode cX2_levelByRate 9 = .ok (.bipush (-6), 2) := by decide +kernel
theorem dX2_levelByRate_11 : decode cX2_levelByRate 11 = .ok (.if_icmp .ne 5, 3) := by decide +kernel
theorem dX2_levelByRate_14 : decode cX2_levelByRate 14 = .ok (.iconst 0, 1) := by decide +kernel
theorem dX2_levelByRate_15 : decode cX2_levelByRate 15 = .ok (.ireturn, 1) := by decide +kernel
theorem dX2_levelByRate_16 : decode cX2_levelByRate 16 = .ok (.aload_n 0, 1) := by decide +kernel
theorem dX2_levelByRate_17 : decode cX2_levelByRate 17 = .ok (.getfield 29, 3) := by decide +kernel
theorem dX2_levelByRate_20 : decode cX2_levelByRate 20 = .ok (.iload_n 2, 1) := by decide +kernel
theorem dX2_levelByRate_21 : decode cX2_levelByRate 21 = .ok (.aload_n 0, 1) := by decide +kernel
theorem dX2_levelByRate_22 : decode cX2_levelByRate 22 = .ok (.getfield 37, 3) := by decide +kernel
theorem dX2_levelByRate_25 : decode cX2_levelByRate 25 = .ok (.getfield 191, 3) := by decide +kernel
theorem dX2_levelByRate_28 : decode cX2_levelByRate 28 = .ok (.imul, 1) := by decide +kernel
theorem dX2_levelByRate_29 : decode cX2_levelByRate 29 = .ok (.bipush 100, 2) := by decide +kernel
theorem dX2_levelByRate_31 : decode cX2_levelByRate 31 = .ok (.idiv, 1) := by decide +kernel
theorem dX2_levelByRate_32 : decode cX2_levelByRate 32 = .ok (.iload_n 1, 1) := by decide +kernel
theorem dX2_levelByRate_33 : decode cX2_levelByRate 33 = .ok (.invokevirtual 194, 3) := by decide +kernel
theorem dX2_levelByRate_36 : decode cX2_levelByRate 36 = .ok (.ireturn, 1) := by decide +kernel
theorem dX2_levelByBuffer_0 : decode cX2_levelByBuffer 0 = .ok (.aload_n 0, 1) := by decide +kernel
theorem dX2_levelByBuffer_1 : decode cX2_levelByBuffer 1 = .ok (.getfield 80, 3) := by decide +kernel
theorem dX2_levelByBuffer_4 : decode cX2_levelByBuffer 4 = .ok (.aload_n 0, 1) := by decide +kernel
theorem dX2_levelByBuffer_5 : decode cX2_levelByBuffer 5 = .ok (.getfield 37, 3) := by decide +kernel
theorem dX2_levelByBuffer_8 : decode cX2_levelByBuffer 8 = .ok (.getfield 197, 3) := by decide +kernel
theorem dX2_levelByBuffer_11 : decode cX2_levelByBuffer 11 = .ok (.isub, 1) := by decide +kernel
theorem dX2_levelByBuffer_12 : decode cX2_levelByBuffer 12 = .ok (.istore_n 2, 1) := by decide +kernel
theorem dX2_levelByBuffer_13 : decode cX2_levelByBuffer 13 = .ok (.iload_n 2, 1) := by decide +kernel
theorem dX2_levelByBuffer_14 : decode cX2_levelByBuffer 14 = .ok (.ifCond .gt 5, 3) := by decide +kernel
theorem dX2_levelByBuffer_17 : decode cX2_levelByBuffer 17 = .ok (.iconst 0, 1) := by decide +kernel
theorem dX2_levelByBuffer_18 : decode cX2_levelByBuffer 18 = .ok (.ireturn, 1) := by decide +kernel
theorem dX2_levelByBuffer_19 : decode cX2_levelByBuffer 19 = .ok (.iload_n 2, 1) := by decide +kernel
theorem dX2_levelByBuffer_20 : decode cX2_levelByBuffer 20 = .ok (.aload_n 0, 1) := by decide +kernel
theorem dX2_levelByBuffer_21 : decode cX2_levelByBuffer 21 = .ok (.getfield 37, 3) := by decide +kernel
theorem dX2_levelByBuffer_24 : decode cX2_levelByBuffer 24 = .ok (.getfield 200, 3) := by decide +kernel
theorem dX2_levelByBuffer_27 : decode cX2_levelByBuffer 27 = .ok (.if_icmp .lt 5, 3) := by decide +kernel
theorem dX2_levelByBuffer_30 : decode cX2_levelByBuffer 30 = .ok (.iload_n 1, 1) := by decide +kernel
theorem dX2_levelByBuffer_31 : decode cX2_levelByBuffer 31 = .ok (.ireturn, 1) := by decide +kernel
theorem dX2_levelByBuffer_32 : decode cX2_levelByBuffer 32 = .ok (.iload_n 2, 1) := by decide +kernel
theorem dX2_levelByBuffer_33 : decode cX2_levelByBuffer 33 = .ok (.iload_n 1, 1) := by decide +kernel
theorem dX2_levelByBuffer_34 : decode cX2_levelByBuffer 34 = .ok (.imul, 1) := by decide +kernel
theorem dX2_levelByBuffer_35 : decode cX2_levelByBuffer 35 = .ok (.aload_n 0, 1) := by decide +kernel
theorem dX2_levelByBuffer_36 : decode cX2_levelByBuffer 36 = .ok (.getfield 37, 3) := by decide +kernel
theorem dX2_levelByBuffer_39 : decode cX2_levelByBuffer 39 = .ok (.getfield 200, 3) := by decide +kernel
theorem dX2_levelByBuffer_42 : decode cX2_levelByBuffer 42 = .ok (.idiv, 1) := by decide +kernel
theorem dX2_levelByBuffer_43 : decode cX2_levelByBuffer 43 = .ok (.ireturn, 1) := by decide +kernel
theorem dX2_levelByBoth_0 : decode cX2_levelByBoth 0 = .ok (.aload_n 0, 1) := by decide +kernel
theorem dX2_levelByBoth_1 : decode cX2_levelByBoth 1 = .ok (.iload_n 1, 1) := by decide +kernel
theorem dX2_levelByBoth_2 : decode cX2_levelByBoth 2 = .ok (.invokevirtual 179, 3) := by decide +kernel
theorem dX2_levelByBoth_5 : decode cX2_levelByBoth 5 = .ok (.aload_n 0, 1) := by decide +kernel
theorem dX2_levelByBoth_6 : decode cX2_levelByBoth 6 = .ok (.iload_n 1, 1) := by decide +kernel
theorem dX2_levelByBoth_7 : decode cX2_levelByBoth 7 = .ok (.invokevirtual 182, 3) := by decide +kernel
theorem dX2_levelByBoth_10 : decode cX2_levelByBoth 10 = .ok (.invokestatic 174, 3) := by decide +kernel
theorem dX2_levelByBoth_13 : decode cX2_levelByBoth 13 = .ok (.istore_n 2, 1) := by decide +kernel
theorem dX2_levelByBoth_14 : decode cX2_levelByBoth 14 = .ok (.aload_n 0, 1) := by decide +kernel
theorem dX2_levelByBoth_15 : decode cX2_levelByBoth 15 = .ok (.getfield 71, 3) := by decide +kernel
theorem dX2_levelByBoth_18 : decode cX2_levelByBoth 18 = .ok (.bipush (-6), 2) := by decide +kernel
theorem dX2_levelByBoth_20 : decode cX2_levelByBoth 20 = .ok (.if_icmp .ne 7, 3) := by decide +kernel
theorem dX2_levelByBoth_23 : decode cX2_levelByBoth 23 = .ok (.iload_n 2, 1) := by decide +kernel
theorem dX2_levelByBoth_24 : decode cX2_levelByBoth 24 = .ok (.goto 13, 3) := by decide +kernel
theorem dX2_levelByBoth_27 : decode cX2_levelByBoth 27 = .ok (.iload_n 2, 1) := by decide +kernel
theorem dX2_levelByBoth_28 : decode cX2_levelByBoth 28 = .ok (.aload_n 0, 1) := by decide +kernel
theorem dX2_levelByBoth_29 : decode cX2_levelByBoth 29 = .ok (.getfield 71, 3) := by decide +kernel
theorem dX2_levelByBoth_32 : decode cX2_levelByBoth 32 = .ok (.iconst 1, 1) := by decide +kernel
theorem dX2_levelByBoth_33 : decode cX2_levelByBoth 33 = .ok (.iadd, 1) := by decide +kernel
theorem dX2_levelByBoth_34 : decode cX2_levelByBoth 34 = .ok (.invokestatic 174, 3) := by decide +kernel
theorem dX2_levelByBoth_37 : decode cX2_levelByBoth 37 = .ok (.ireturn, 1) := by decide +kernel
theorem dX3_init_0 : decode cX3_init 0 = .ok (.aload_n 0, 1) := by decide +kernel
theorem dX3_init_1 : decode cX3_init 1 = .ok (.invokespecial 1, 3) := by decide +kernel
theorem dX3_init_4 : decode cX3_init 4 = .ok (.aload_n 0, 1) := by decide +kernel
theorem dX3_init_5 : decode cX3_init 5 = .ok (.sipush 20000, 3) := by decide +kernel
theorem dX3_init_8 : decode cX3_init 8 = .ok (.putfield 7, 3) := by decide +kernel
theorem dX3_init_11 : decode cX3_init 11 = .ok (.aload_n 0, 1) := by decide +kernel
theorem dX3_init_12 : decode cX3_init 12 = .ok (.sipush 2000, 3) := by decide +kernel
theorem dX3_init_15 : decode cX3_init 15 = .ok (.putfield 13, 3) := by decide +kernel
theorem dX3_init_18 : decode cX3_init 18 = .ok (.aload_n 0, 1) := by decide +kernel
theorem dX3_init_19 : decode cX3_init 19 = .ok (.bipush 80, 2) := by decide +kernel
theorem dX3_init_21 : decode cX3_init 21 = .ok (.putfield 16, 3) := by decide +kernel
theorem dX3_init_24 : decode cX3_init 24 = .ok (.aload_n 0, 1) := by decide +kernel
theorem dX3_init_25 : decode cX3_init 25 = .ok (.sipush 4000, 3) := by decide +kernel
theorem dX3_init_28 : decode cX3_init 28 = .ok (.putfield 19, 3) := by decide +kernel
theorem dX3_init_31 : decode cX3_init 31 = .ok (.aload_n 0, 1) := by decide +kernel
theorem dX3_init_32 : decode cX3_init 32 = .ok (.sipush 8000, 3) := by decide +kernel
theorem dX3_init_35 : decode cX3_init 35 = .ok (.putfield 22, 3) := by decide +kernel
theorem dX3_init_38 : decode cX3_init 38 = .ok (.return_, 1) := by decide +kernel
theorem dX3_changeBuffer_0 : decode cX3_changeBuffer 0 = .ok (.aload_n 0, 1) := by decide +kernel
theorem dX3_changeBuffer_1 : decode cX3_changeBuffer 1 = .ok (.getfield 7, 3) := by decide +kernel
theorem dX3_changeBuffer_4 : decode cX3_changeBuffer 4 = .ok (.iload_n 1, 1) := by decide +kernel
theorem dX3_changeBuffer_5 : decode cX3_changeBuffer 5 = .ok (.if_icmp .ne 11, 3) := by decide +kernel
theorem dX3_changeBuffer_8 : decode cX3_changeBuffer 8 = .ok (.aload_n 0, 1) := by decide +kernel
theorem dX3_changeBuffer_9 : decode cX3_changeBuffer 9 = .ok (.getfield 13, 3) := by decide +kernel
theorem dX3_changeBuffer_12 : decode cX3_changeBuffer 12 = .ok (.iload_n 2, 1) := by decide +kernel
theorem dX3_changeBuffer_13 : decode cX3_changeBuffer 13 = .ok (.if_icmp .eq 7, 3) := by decide +kernel
theorem dX3_changeBuffer_16 : decode cX3_changeBuffer 16 = .ok (.iconst 1, 1) := by decide +kernel
theorem dX3_changeBuffer_17 : decode cX3_changeBuffer 17 = .ok (.goto 4, 3) := by decide +kernel
theorem dX3_changeBuffer_20 : decode cX3_changeBuffer 20 = .ok (.iconst 0, 1) := by decide +kernel
theorem dX3_changeBuffer_21 : decode cX3_changeBuffer 21 = .ok (.istore_n 3, 1) := by decide +kernel
theorem dX3_changeBuffer_22 : decode cX3_changeBuffer 22 = .ok (.aload_n 0, 1) := by decide +kernel
theorem dX3_changeBuffer_23 : decode cX3_changeBuffer 23 = .ok (.iload_n 1, 1) := by decide +kernel
theorem dX3_changeBuffer_24 : decode cX3_changeBuffer 24 = .ok (.putfield 7, 3) := by decide +kernel
theorem dX3_changeBuffer_27 : decode cX3_changeBuffer 27 = .ok (.aload_n 0, 1) := by decide +kernel
theorem dX3_changeBuffer_28 : decode cX3_changeBuffer 28 = .ok (.iload_n 2, 1) := by decide +kernel
theorem dX3_changeBuffer_29 : decode cX3_changeBuffer 29 = .ok (.putfield 13, 3) := by decide +kernel
theorem dX3_changeBuffer_32 : decode cX3_changeBuffer 32 = .ok (.iload_n 3, 1) := by decide +kernel
theorem dX3_changeBuffer_33 : decode cX3_changeBuffer 33 = .ok (.ireturn, 1) := by decide +kernel
theorem dX3_changePolicyNumbers_0 : decode cX3_changePolicyNumbers 0 = .ok (.aload_n 0, 1) := by decide +kernel
theorem dX3_changePolicyNumbers_1 : decode cX3_changePolicyNumbers 1 = .ok (.getfield 16, 3) := by decide +kernel
theorem dX3_changePolicyNumbers_4 : decode cX3_changePolicyNumbers 4 = .ok (.iload_n 1, 1) := by decide +kernel
theorem dX3_changePolicyNumbers_5 : decode cX3_changePolicyNumbers 5 = .ok (.if_icmp .ne 19, 3) := by decide +kernel
theorem dX3_changePolicyNumbers_8 : decode cX3_changePolicyNumbers 8 = .ok (.aload_n 0, 1) := by decide +kernel
theorem dX3_changePolicyNumbers_9 : decode cX3_changePolicyNumbers 9 = .ok (.getfield 19, 3) := by decide +kernel
theorem dX3_changePolicyNumbers_12 : decode cX3_changePolicyNumbers 12 = .ok (.iload_n 2, 1) := by decide +kernel
theorem dX3_changePolicyNumbers_13 : decode cX3_changePolicyNumbers 13 = .ok (.if_icmp .ne 11, 3) := by decide +kernel
theorem dX3_changePolicyNumbers_16 : decode cX3_changePolicyNumbers 16 = .ok (.aload_n 0, 1) := by decide +kernel
theorem dX3_changePolicyNumbers_17 : decode cX3_changePolicyNumbers 17 = .ok (.getfield 22, 3) := by decide +kernel
theorem dX3_changePolicyNumbers_20 : decode cX3_changePolicyNumbers 20 = .ok (.iload_n 3, 1) := by decide +kernel
theorem dX3_changePolicyNumbers_21 : decode cX3_changePolicyNumbers 21 = .ok (.if_icmp .eq 7, 3) := by decide +kernel
theorem dX3_changePolicyNumbers_24 : decode cX3_changePolicyNumbers 24 = .ok (.iconst 1, 1) := by decide +kernel
theorem dX3_changePolicyNumbers_25 : decode cX3_changePolicyNumbers 25 = .ok (.goto 4, 3) := by decide +kernel
theorem dX3_changePolicyNumbers_28 : decode cX3_changePolicyNumbers 28 = .ok (.iconst 0, 1) := by decide +kernel
theorem dX3_changePolicyNumbers_29 : decode cX3_changePolicyNumbers 29 = .ok (.istore 4, 2) := by decide +kernel
theorem dX3_changePolicyNumbers_31 : decode cX3_changePolicyNumbers 31 = .ok (.aload_n 0, 1) := by decide +kernel
theorem dX3_changePolicyNumbers_32 : decode cX3_changePolicyNumbers 32 = .ok (.iload_n 1, 1) := by decide +kernel
theorem dX3_changePolicyNumbers_33 : decode cX3_changePolicyNumbers 33 = .ok (.putfield 16, 3) := by decide +kernel
theorem dX3_changePolicyNumbers_36 : decode cX3_changePolicyNumbers 36 = .ok (.aload_n 0, 1) := by decide +kernel
theorem dX3_changePolicyNumbers_37 : decode cX3_changePolicyNumbers 37 = .ok (.iload_n 2, 1) := by decide +kernel
theorem dX3_changePolicyNumbers_38 : decode cX3_changePolicyNumbers 38 = .ok (.putfield 19, 3) := by decide +kernel
theorem dX3_changePolicyNumbers_41 : decode cX3_changePolicyNumbers 41 = .ok (.aload_n 0, 1) := by decide +kernel
theorem dX3_changePolicyNumbers_42 : decode cX3_changePolicyNumbers 42 = .ok (.iload_n 3, 1) := by decide +kernel
theorem dX3_changePolicyNumbers_43 : decode cX3_changePolicyNumbers 43 = .ok (.putfield 22, 3) := by decide +kernel
theorem dX3_changePolicyNumbers_46 : decode cX3_changePolicyNumbers 46 = .ok (.iload 4, 2) := by decide +kernel
theorem dX3_changePolicyNumbers_48 : decode cX3_changePolicyNumbers 48 = .ok (.ireturn, 1) := by decide +kernel
theorem dX4_init_0 : decode cX4_init 0 = .ok (.aload_n 0, 1) := by decide +kernel
theorem dX4_init_1 : decode cX4_init 1 = .ok (.invokespecial 3, 3) := by decide +kernel
theorem dX4_init_4 : decode cX4_init 4 = .ok (.aload_n 0, 1) := by decide +kernel
theorem dX4_init_5 : decode cX4_init 5 = .ok (.iconst 3, 1) := by decide +kernel
theorem dX4_init_6 : decode cX4_init 6 = .ok (.newarray .int, 2) := by decide +kernel
theorem dX4_init_8 : decode cX4_init 8 = .ok (.putfield 9, 3) := by decide +kernel
theorem dX4_init_11 : decode cX4_init 11 = .ok (.return_, 1) := by decide +kernel
theorem dX4_forget_0 : decode cX4_forget 0 = .ok (.aload_n 0, 1) := by decide +kernel
theorem dX4_forget_1 : decode cX4_forget 1 = .ok (.iconst 0, 1) := by decide +kernel
theorem dX4_forget_2 : decode cX4_forget 2 = .ok (.putfield 15, 3) := by decide +kernel
theorem dX4_forget_5 : decode cX4_forget 5 = .ok (.return_, 1) := by decide +kernel
theorem dX4_add_0 : decode cX4_add 0 = .ok (.aload_n 0, 1) := by decide +kernel
theorem dX4_add_1 : decode cX4_add 1 = .ok (.getfield 9, 3) := by decide +kernel
theorem dX4_add_4 : decode cX4_add 4 = .ok (.arraylength, 1) := by decide +kernel
theorem dX4_add_5 : decode cX4_add 5 = .ok (.iconst 1, 1) := by decide +kernel
theorem dX4_add_6 : decode cX4_add 6 = .ok (.isub, 1) := by decide +kernel
theorem dX4_add_7 : decode cX4_add 7 = .ok (.istore_n 2, 1) := by decide +kernel
theorem dX4_add_8 : decode cX4_add 8 = .ok (.iload_n 2, 1) := by decide +kernel
theorem dX4_add_9 : decode cX4_add 9 = .ok (.ifCond .le 23, 3) := by decide +kernel
theorem dX4_add_12 : decode cX4_add 12 = .ok (.aload_n 0, 1) := by decide +kernel
theorem dX4_add_13 : decode cX4_add 13 = .ok (.getfield 9, 3) := by decide +kernel
theorem dX4_add_16 : decode cX4_add 16 = .ok (.iload_n 2, 1) := by decide +kernel
theorem dX4_add_17 : decode cX4_add 17 = .ok (.aload_n 0, 1) := by decide +kernel
theorem dX4_add_18 : decode cX4_add 18 = .ok (.getfield 9, 3) := by decide +kernel
theorem dX4_add_21 : decode cX4_add 21 = .ok (.iload_n 2, 1) := by decide +kernel
theorem dX4_add_22 : decode cX4_add 22 = .ok (.iconst 1, 1) := by decide +kernel
theorem dX4_add_23 : decode cX4_add 23 = .ok (.isub, 1) := by decide +kernel
theorem dX4_add_24 : decode cX4_add 24 = .ok (.iaload, 1) := by decide +kernel
theorem dX4_add_25 : decode cX4_add 25 = .ok (.iastore, 1) := by decide +kernel
theorem dX4_add_26 : decode cX4_add 26 = .ok (.iinc 2 (-1), 3) := by decide +kernel
theorem dX4_add_29 : decode cX4_add 29 = .ok (.goto (-21), 3) := by decide +kernel
theorem dX4_add_32 : decode cX4_add 32 = .ok (.aload_n 0, 1) := by decide +kernel
theorem dX4_add_33 : decode cX4_add 33 = .ok (.getfield 9, 3) := by decide +kernel
theorem dX4_add_36 : decode cX4_add 36 = .ok (.iconst 0, 1) := by decide +kernel
theorem dX4_add_37 : decode cX4_add 37 = .ok (.iload_n 1, 1) := by decide +kernel
theorem dX4_add_38 : decode cX4_add 38 = .ok (.iastore, 1) := by decide +kernel
theorem dX4_add_39 : decode cX4_add 39 = .ok (.aload_n 0, 1) := by decide +kernel
theorem dX4_add_40 : decode cX4_add 40 = .ok (.getfield 15, 3) := by decide +kernel
theorem dX4_add_43 : decode cX4_add 43 = .ok (.aload_n 0, 1) := by decide +kernel
theorem dX4_add_44 : decode cX4_add 44 = .ok (.getfield 9, 3) := by decide +kernel
theorem dX4_add_47 : decode cX4_add 47 = .ok (.arraylength, 1) := by decide +kernel
theorem dX4_add_48 : decode cX4_add 48 = .ok (.if_icmp .ge 13, 3) := by decide +kernel
end
section
theorem dX4_add_51 : decode cX4_add 51 = .ok (.aload_n 0, 1) := by decide +kernel
theorem dX4_add_52 : decode cX4_add 52 = .ok (.dup, 1) := by decide +kernel
theorem dX4_add_53 : decode cX4_add 53 = .ok (.getfield 15, 3) := by decide +kernel
theorem dX4_add_56 : decode cX4_add 56 = .ok (.iconst 1, 1) := by decide +kernel
theorem dX4_add_57 : decode cX4_add 57 = .ok (.iadd, 1) := by decide +kernel
theorem dX4_add_58 : decode cX4_add 58 = .ok (.putfield 15, 3) := by decide +kernel
theorem dX4_add_61 : decode cX4_add 61 = .ok (.return_, 1) := by decide +kernel
theorem dX4_estimate_0 : decode cX4_estimate 0 = .ok (.aload_n 0, 1) := by decide +kernel
theorem dX4_estimate_1 : decode cX4_estimate 1 = .ok (.getfield 15, 3) := by decide +kernel
theorem dX4_estimate_4 : decode cX4_estimate 4 = .ok (.ifCond .gt 6, 3) := by decide +kernel
theorem dX4_estimate_7 : decode cX4_estimate 7 = .ok (.bipush (-6), 2) := by decide +kernel
theorem dX4_estimate_9 : decode cX4_estimate 9 = .ok (.ireturn, 1) := by decide +kernel
theorem dX4_estimate_10 : decode cX4_estimate 10 = .ok (.iconst 0, 1) := by decide +kernel
theorem dX4_estimate_11 : decode cX4_estimate 11 = .ok (.istore_n 1, 1) := by decide +kernel
theorem dX4_estimate_12 : decode cX4_estimate 12 = .ok (.iconst 0, 1) := by decide +kernel
theorem dX4_estimate_13 : decode cX4_estimate 13 = .ok (.istore_n 2, 1) := by decide +kernel
theorem dX4_estimate_14 : decode cX4_estimate 14 = .ok (.iload_n 2, 1) := by decide +kernel
theorem dX4_estimate_15 : decode cX4_estimate 15 = .ok (.aload_n 0, 1) := by decide +kernel
theorem dX4_estimate_16 : decode cX4_estimate 16 = .ok (.getfield 15, 3) := by decide +kernel
theorem dX4_estimate_19 : decode cX4_estimate 19 = .ok (.if_icmp .ge 27, 3) := by decide +kernel
theorem dX4_estimate_22 : decode cX4_estimate 22 = .ok (.iload_n 2, 1) := by decide +kernel
theorem dX4_estimate_23 : decode cX4_estimate 23 = .ok (.aload_n 0, 1) := by decide +kernel
theorem dX4_estimate_24 : decode cX4_estimate 24 = .ok (.getfield 9, 3) := by decide +kernel
theorem dX4_estimate_27 : decode cX4_estimate 27 = .ok (.arraylength, 1) := by decide +kernel
theorem dX4_estimate_28 : decode cX4_estimate 28 = .ok (.if_icmp .ge 18, 3) := by decide +kernel
theorem dX4_estimate_31 : decode cX4_estimate 31 = .ok (.iload_n 1, 1) := by decide +kernel
theorem dX4_estimate_32 : decode cX4_estimate 32 = .ok (.aload_n 0, 1) := by decide +kernel
theorem dX4_estimate_33 : decode cX4_estimate 33 = .ok (.getfield 9, 3) := by decide +kernel
theorem dX4_estimate_36 : decode cX4_estimate 36 = .ok (.iload_n 2, 1) := by decide +kernel
theorem dX4_estimate_37 : decode cX4_estimate 37 = .ok (.iaload, 1) := by decide +kernel
theorem dX4_estimate_38 : decode cX4_estimate 38 = .ok (.iadd, 1) := by decide +kernel
theorem dX4_estimate_39 : decode cX4_estimate 39 = .ok (.istore_n 1, 1) := by decide +kernel
theorem dX4_estimate_40 : decode cX4_estimate 40 = .ok (.iinc 2 1, 3) := by decide +kernel
theorem dX4_estimate_43 : decode cX4_estimate 43 = .ok (.goto (-29), 3) := by decide +kernel
theorem dX4_estimate_46 : decode cX4_estimate 46 = .ok (.iload_n 1, 1) := by decide +kernel
theorem dX4_estimate_47 : decode cX4_estimate 47 = .ok (.aload_n 0, 1) := by decide +kernel
theorem dX4_estimate_48 : decode cX4_estimate 48 = .ok (.getfield 15, 3) := by decide +kernel
theorem dX4_estimate_51 : decode cX4_estimate 51 = .ok (.idiv, 1) := by decide +kernel
theorem dX4_estimate_52 : decode cX4_estimate 52 = .ok (.ireturn, 1) := by decide +kernel
theorem dX5_init_0 : decode cX5_init 0 = .ok (.aload_n 0, 1) := by decide +kernel
theorem dX5_init_1 : decode cX5_init 1 = .ok (.invokespecial 3, 3) := by decide +kernel
theorem dX5_init_4 : decode cX5_init 4 = .ok (.aload_n 0, 1) := by decide +kernel
theorem dX5_init_5 : decode cX5_init 5 = .ok (.iconst 5, 1) := by decide +kernel
theorem dX5_init_6 : decode cX5_init 6 = .ok (.newarray .int, 2) := by decide +kernel
theorem dX5_init_8 : decode cX5_init 8 = .ok (.putfield 9, 3) := by decide +kernel
theorem dX5_init_11 : decode cX5_init 11 = .ok (.aload_n 0, 1) := by decide +kernel
theorem dX5_init_12 : decode cX5_init 12 = .ok (.bipush 30, 2) := by decide +kernel
theorem dX5_init_14 : decode cX5_init 14 = .ok (.newarray .int, 2) := by decide +kernel
theorem dX5_init_16 : decode cX5_init 16 = .ok (.putfield 15, 3) := by decide +kernel
theorem dX5_init_19 : decode cX5_init 19 = .ok (.aload_n 0, 1) := by decide +kernel
theorem dX5_init_20 : decode cX5_init 20 = .ok (.bipush 10, 2) := by decide +kernel
theorem dX5_init_22 : decode cX5_init 22 = .ok (.sipush 2000, 3) := by decide +kernel
theorem dX5_init_25 : decode cX5_init 25 = .ok (.invokevirtual 18, 3) := by decide +kernel
theorem dX5_init_28 : decode cX5_init 28 = .ok (.return_, 1) := by decide +kernel
theorem dX5_replace_0 : decode cX5_replace 0 = .ok (.aload_n 0, 1) := by decide +kernel
theorem dX5_replace_1 : decode cX5_replace 1 = .ok (.iload_n 1, 1) := by decide +kernel
theorem dX5_replace_2 : decode cX5_replace 2 = .ok (.putfield 22, 3) := by decide +kernel
theorem dX5_replace_5 : decode cX5_replace 5 = .ok (.aload_n 0, 1) := by decide +kernel
theorem dX5_replace_6 : decode cX5_replace 6 = .ok (.iload_n 2, 1) := by decide +kernel
theorem dX5_replace_7 : decode cX5_replace 7 = .ok (.putfield 26, 3) := by decide +kernel
theorem dX5_replace_10 : decode cX5_replace 10 = .ok (.aload_n 0, 1) := by decide +kernel
theorem dX5_replace_11 : decode cX5_replace 11 = .ok (.iconst 0, 1) := by decide +kernel
theorem dX5_replace_12 : decode cX5_replace 12 = .ok (.putfield 29, 3) := by decide +kernel
theorem dX5_replace_15 : decode cX5_replace 15 = .ok (.iconst 0, 1) := by decide +kernel
theorem dX5_replace_16 : decode cX5_replace 16 = .ok (.istore_n 3, 1) := by decide +kernel
theorem dX5_replace_17 : decode cX5_replace 17 = .ok (.iload_n 3, 1) := by decide +kernel
theorem dX5_replace_18 : decode cX5_replace 18 = .ok (.aload_n 0, 1) := by decide +kernel
theorem dX5_replace_19 : decode cX5_replace 19 = .ok (.getfield 15, 3) := by decide +kernel
theorem dX5_replace_22 : decode cX5_replace 22 = .ok (.arraylength, 1) := by decide +kernel
theorem dX5_replace_23 : decode cX5_replace 23 = .ok (.if_icmp .ge 17, 3) := by decide +kernel
theorem dX5_replace_26 : decode cX5_replace 26 = .ok (.aload_n 0, 1) := by decide +kernel
theorem dX5_replace_27 : decode cX5_replace 27 = .ok (.getfield 15, 3) := by decide +kernel
theorem dX5_replace_30 : decode cX5_replace 30 = .ok (.iload_n 3, 1) := by decide +kernel
theorem dX5_replace_31 : decode cX5_replace 31 = .ok (.bipush 100, 2) := by decide +kernel
theorem dX5_replace_33 : decode cX5_replace 33 = .ok (.iastore, 1) := by decide +kernel
theorem dX5_replace_34 : decode cX5_replace 34 = .ok (.iinc 3 1, 3) := by decide +kernel
theorem dX5_replace_37 : decode cX5_replace 37 = .ok (.goto (-20), 3) := by decide +kernel
theorem dX5_replace_40 : decode cX5_replace 40 = .ok (.return_, 1) := by decide +kernel
theorem dX5_appendLevel_0 : decode cX5_appendLevel 0 = .ok (.aload_n 0, 1) := by decide +kernel
theorem dX5_appendLevel_1 : decode cX5_appendLevel 1 = .ok (.getfield 29, 3) := by decide +kernel
theorem dX5_appendLevel_4 : decode cX5_appendLevel 4 = .ok (.aload_n 0, 1) := by decide +kernel
theorem dX5_appendLevel_5 : decode cX5_appendLevel 5 = .ok (.getfield 9, 3) := by decide +kernel
theorem dX5_appendLevel_8 : decode cX5_appendLevel 8 = .ok (.arraylength, 1) := by decide +kernel
theorem dX5_appendLevel_9 : decode cX5_appendLevel 9 = .ok (.if_icmp .ge 23, 3) := by decide +kernel
theorem dX5_appendLevel_12 : decode cX5_appendLevel 12 = .ok (.aload_n 0, 1) := by decide +kernel
theorem dX5_appendLevel_13 : decode cX5_appendLevel 13 = .ok (.getfield 9, 3) := by decide +kernel
theorem dX5_appendLevel_16 : decode cX5_appendLevel 16 = .ok (.aload_n 0, 1) := by decide +kernel
theorem dX5_appendLevel_17 : decode cX5_appendLevel 17 = .ok (.getfield 29, 3) := by decide +kernel
theorem dX5_appendLevel_20 : decode cX5_appendLevel 20 = .ok (.iload_n 1, 1) := by decide +kernel
theorem dX5_appendLevel_21 : decode cX5_appendLevel 21 = .ok (.iastore, 1) := by decide +kernel
theorem dX5_appendLevel_22 : decode cX5_appendLevel 22 = .ok (.aload_n 0, 1) := by decide +kernel
theorem dX5_appendLevel_23 : decode cX5_appendLevel 23 = .ok (.dup, 1) := by decide +kernel
theorem dX5_appendLevel_24 : decode cX5_appendLevel 24 = .ok (.getfield 29, 3) := by decide +kernel
theorem dX5_appendLevel_27 : decode cX5_appendLevel 27 = .ok (.iconst 1, 1) := by decide +kernel
theorem dX5_appendLevel_28 : decode cX5_appendLevel 28 = .ok (.iadd, 1) := by decide +kernel
theorem dX5_appendLevel_29 : decode cX5_appendLevel 29 = .ok (.putfield 29, 3) := by decide +kernel
theorem dX5_appendLevel_32 : decode cX5_appendLevel 32 = .ok (.return_, 1) := by decide +kernel
theorem dX5_hasSegment_0 : decode cX5_hasSegment 0 = .ok (.iload_n 1, 1) := by decide +kernel
theorem dX5_hasSegment_1 : decode cX5_hasSegment 1 = .ok (.ifCond .lt 24, 3) := by decide +kernel
theorem dX5_hasSegment_4 : decode cX5_hasSegment 4 = .ok (.iload_n 1, 1) := by decide +kernel
theorem dX5_hasSegment_5 : decode cX5_hasSegment 5 = .ok (.aload_n 0, 1) := by decide +kernel
theorem dX5_hasSegment_6 : decode cX5_hasSegment 6 = .ok (.getfield 22, 3) := by decide +kernel
theorem dX5_hasSegment_9 : decode cX5_hasSegment 9 = .ok (.if_icmp .ge 16, 3) := by decide +kernel
theorem dX5_hasSegment_12 : decode cX5_hasSegment 12 = .ok (.iload_n 1, 1) := by decide +kernel
theorem dX5_hasSegment_13 : decode cX5_hasSegment 13 = .ok (.aload_n 0, 1) := by decide +kernel
theorem dX5_hasSegment_14 : decode cX5_hasSegment 14 = .ok (.getfield 15, 3) := by decide +kernel
theorem dX5_hasSegment_17 : decode cX5_hasSegment 17 = .ok (.arraylength, 1) := by decide +kernel
theorem dX5_hasSegment_18 : decode cX5_hasSegment 18 = .ok (.if_icmp .ge 7, 3) := by decide +kernel
theorem dX5_hasSegment_21 : decode cX5_hasSegment 21 = .ok (.iconst 1, 1) := by decide +kernel
theorem dX5_hasSegment_22 : decode cX5_hasSegment 22 = .ok (.goto 4, 3) := by decide +kernel
theorem dX5_hasSegment_25 : decode cX5_hasSegment 25 = .ok (.iconst 0, 1) := by decide +kernel
theorem dX5_hasSegment_26 : decode cX5_hasSegment 26 = .ok (.ireturn, 1) := by decide +kernel
theorem dX5_hasLevel_0 : decode cX5_hasLevel 0 = .ok (.iload_n 1, 1) := by decide +kernel
theorem dX5_hasLevel_1 : decode cX5_hasLevel 1 = .ok (.ifCond .lt 24, 3) := by decide +kernel
theorem dX5_hasLevel_4 : decode cX5_hasLevel 4 = .ok (.iload_n 1, 1) := by decide +kernel
theorem dX5_hasLevel_5 : decode cX5_hasLevel 5 = .ok (.aload_n 0, 1) := by decide +kernel
theorem dX5_hasLevel_6 : decode cX5_hasLevel 6 = .ok (.getfield 29, 3) := by decide +kernel
theorem dX5_hasLevel_9 : decode cX5_hasLevel 9 = .ok (.if_icmp .ge 16, 3) := by decide +kernel
theorem dX5_hasLevel_12 : decode cX5_hasLevel 12 = .ok (.iload_n 1, 1) := by decide +kernel
theorem dX5_hasLevel_13 : decode cX5_hasLevel 13 = .ok (.aload_n 0, 1) := by decide +kernel
theorem dX5_hasLevel_14 : decode cX5_hasLevel 14 = .ok (.getfield 9, 3) := by decide +kernel
theorem dX5_hasLevel_17 : decode cX5_hasLevel 17 = .ok (.arraylength, 1) := by decide +kernel
theorem dX5_hasLevel_18 : decode cX5_hasLevel 18 = .ok (.if_icmp .ge 7, 3) := by decide +kernel
theorem dX5_hasLevel_21 : decode cX5_hasLevel 21 = .ok (.iconst 1, 1) := by decide +kernel
theorem dX5_hasLevel_22 : decode cX5_hasLevel 22 = .ok (.goto 4, 3) := by decide +kernel
theorem dX5_hasLevel_25 : decode cX5_hasLevel 25 = .ok (.iconst 0, 1) := by decide +kernel
theorem dX5_hasLevel_26 : decode cX5_hasLevel 26 = .ok (.ireturn, 1) := by decide +kernel
theorem dX5_bitrateOf_0 : decode cX5_bitrateOf 0 = .ok (.aload_n 0, 1) := by decide +kernel
theorem dX5_bitrateOf_1 : decode cX5_bitrateOf 1 = .ok (.iload_n 1, 1) := by decide +kernel
theorem dX5_bitrateOf_2 : decode cX5_bitrateOf 2 = .ok (.invokevirtual 32, 3) := by decide +kernel
theorem dX5_bitrateOf_5 : decode cX5_bitrateOf 5 = .ok (.ifCond .eq 12, 3) := by decide +kernel
theorem dX5_bitrateOf_8 : decode cX5_bitrateOf 8 = .ok (.aload_n 0, 1) := by decide +kernel
theorem dX5_bitrateOf_9 : decode cX5_bitrateOf 9 = .ok (.getfield 9, 3) := by decide +kernel
theorem dX5_bitrateOf_12 : decode cX5_bitrateOf 12 = .ok (.iload_n 1, 1) := by decide +kernel
theorem dX5_bitrateOf_13 : decode cX5_bitrateOf 13 = .ok (.iaload, 1) := by decide +kernel
theorem dX5_bitrateOf_14 : decode cX5_bitrateOf 14 = .ok (.goto 4, 3) := by decide +kernel
theorem dX5_bitrateOf_17 : decode cX5_bitrateOf 17 = .ok (.iconst 0, 1) := by decide +kernel
theorem dX5_bitrateOf_18 : decode cX5_bitrateOf 18 = .ok (.ireturn, 1) := by decide +kernel
theorem dX5_highestBitrate_0 : decode cX5_highestBitrate 0 = .ok (.aload_n 0, 1) := by decide +kernel
theorem dX5_highestBitrate_1 : decode cX5_highestBitrate 1 = .ok (.aload_n 0, 1) := by decide +kernel
theorem dX5_highestBitrate_2 : decode cX5_highestBitrate 2 = .ok (.getfield 29, 3) := by decide +kernel
theorem dX5_highestBitrate_5 : decode cX5_highestBitrate 5 = .ok (.iconst 1, 1) := by decide +kernel
theorem dX5_highestBitrate_6 : decode cX5_highestBitrate 6 = .ok (.isub, 1) := by decide +kernel
theorem dX5_highestBitrate_7 : decode cX5_highestBitrate 7 = .ok (.invokevirtual 36, 3) := by decide +kernel
theorem dX5_highestBitrate_10 : decode cX5_highestBitrate 10 = .ok (.ireturn, 1) := by decide +kernel
theorem dX5_highestLevelWithin_0 : decode cX5_highestLevelWithin 0 = .ok (.iload_n 2, 1) := by decide +kernel
theorem dX5_highestLevelWithin_1 : decode cX5_highestLevelWithin 1 = .ok (.aload_n 0, 1) := by decide +kernel
theorem dX5_highestLevelWithin_2 : decode cX5_highestLevelWithin 2 = .ok (.getfield 9, 3) := by decide +kernel
theorem dX5_highestLevelWithin_5 : decode cX5_highestLevelWithin 5 = .ok (.arraylength, 1) := by decide +kernel
theorem dX5_highestLevelWithin_6 : decode cX5_highestLevelWithin 6 = .ok (.iconst 1, 1) := by decide +kernel
theorem dX5_highestLevelWithin_7 : decode cX5_highestLevelWithin 7 = .ok (.isub, 1) := by decide +kernel
theorem dX5_highestLevelWithin_8 : decode cX5_highestLevelWithin 8 = .ok (.invokestatic 40, 3) := by decide +kernel
theorem dX5_highestLevelWithin_11 : decode cX5_highestLevelWithin 11 = .ok (.istore_n 3, 1) := by decide +kernel
theorem dX5_highestLevelWithin_12 : decode cX5_highestLevelWithin 12 = .ok (.iload_n 3, 1) := by decide +kernel
theorem dX5_highestLevelWithin_13 : decode cX5_highestLevelWithin 13 = .ok (.ifCond .le 21, 3) := by decide +kernel
theorem dX5_highestLevelWithin_16 : decode cX5_highestLevelWithin 16 = .ok (.aload_n 0, 1) := by decide +kernel
theorem dX5_highestLevelWithin_17 : decode cX5_highestLevelWithin 17 = .ok (.getfield 9, 3) := by decide +kernel
theorem dX5_highestLevelWithin_20 : decode cX5_highestLevelWithin 20 = .ok (.iload_n 3, 1) := by decide +kernel
theorem dX5_highestLevelWithin_21 : decode cX5_highestLevelWithin 21 = .ok (.iaload, 1) := by decide +kernel
theorem dX5_highestLevelWithin_22 : decode cX5_highestLevelWithin 22 = .ok (.iload_n 1, 1) := by decide +kernel
theorem dX5_highestLevelWithin_23 : decode cX5_highestLevelWithin 23 = .ok (.if_icmp .gt 5, 3) := by decide +kernel
theorem dX5_highestLevelWithin_26 : decode cX5_highestLevelWithin 26 = .ok (.iload_n 3, 1) := by decide +kernel
theorem dX5_highestLevelWithin_27 : decode cX5_highestLevelWithin 27 = .ok (.ireturn, 1) := by decide +kernel
theorem dX5_highestLevelWithin_28 : decode cX5_highestLevelWithin 28 = .ok (.iinc 3 (-1), 3) := by decide +kernel
theorem dX5_highestLevelWithin_31 : decode cX5_highestLevelWithin 31 = .ok (.goto (-19), 3) := by decide +kernel
theorem dX5_highestLevelWithin_34 : decode cX5_highestLevelWithin 34 = .ok (.iconst 0, 1) := by decide +kernel
theorem dX5_highestLevelWithin_35 : decode cX5_highestLevelWithin 35 = .ok (.ireturn, 1) := by decide +kernel
theorem dX5_variationOf_0 : decode cX5_variationOf 0 = .ok (.aload_n 0, 1) := by decide +kernel
theorem dX5_variationOf_1 : decode cX5_variationOf 1 = .ok (.iload_n 1, 1) := by decide +kernel
theorem dX5_variationOf_2 : decode cX5_variationOf 2 = .ok (.invokevirtual 46, 3) := by decide +kernel
theorem dX5_variationOf_5 : decode cX5_variationOf 5 = .ok (.ifCond .eq 12, 3) := by decide +kernel
theorem dX5_variationOf_8 : decode cX5_variationOf 8 = .ok (.aload_n 0, 1) := by decide +kernel
theorem dX5_variationOf_9 : decode cX5_variationOf 9 = .ok (.getfield 15, 3) := by decide +kernel
theorem dX5_variationOf_12 : decode cX5_variationOf 12 = .ok (.iload_n 1, 1) := by decide +kernel
theorem dX5_variationOf_13 : decode cX5_variationOf 13 = .ok (.iaload, 1) := by decide +kernel
theorem dX5_variationOf_14 : decode cX5_variationOf 14 = .ok (.goto 4, 3) := by decide +kernel
theorem dX5_variationOf_17 : decode cX5_variationOf 17 = .ok (.iconst 0, 1) := by decide +kernel
theorem dX5_variationOf_18 : decode cX5_variationOf 18 = .ok (.ireturn, 1) := by decide +kernel
theorem dX5_changeVariation_0 : decode cX5_changeVariation 0 = .ok (.aload_n 0, 1) := by decide +kernel
theorem dX5_changeVariation_1 : decode cX5_changeVariation 1 = .ok (.iload_n 1, 1) := by decide +kernel
theorem dX5_changeVariation_2 : decode cX5_changeVariation 2 = .ok (.invokevirtual 46, 3) := by decide +kernel
theorem dX5_changeVariation_5 : decode cX5_changeVariation 5 = .ok (.ifCond .eq 10, 3) := by decide +kernel
theorem dX5_changeVariation_8 : decode cX5_changeVariation 8 = .ok (.aload_n 0, 1) := by decide +kernel
theorem dX5_changeVariation_9 : decode cX5_changeVariation 9 = .ok (.getfield 15, 3) := by decide +kernel
theorem dX5_changeVariation_12 : decode cX5_changeVariation 12 = .ok (.iload_n 1, 1) := by decide +kernel
theorem dX5_changeVariation_13 : decode cX5_changeVariation 13 = .ok (.iload_n 2, 1) := by decide +kernel
theorem dX5_changeVariation_14 : decode cX5_changeVariation 14 = .ok (.iastore, 1) := by decide +kernel
theorem dX5_changeVariation_15 : decode cX5_changeVariation 15 = .ok (.return_, 1) := by decide +kernel
theorem dX5_sizeOf_0 : decode cX5_sizeOf 0 = .ok (.aload_n 0, 1) := by decide +kernel
theorem dX5_sizeOf_1 : decode cX5_sizeOf 1 = .ok (.iload_n 1, 1) := by decide +kernel
theorem dX5_sizeOf_2 : decode cX5_sizeOf 2 = .ok (.invokevirtual 36, 3) := by decide +kernel
theorem dX5_sizeOf_5 : decode cX5_sizeOf 5 = .ok (.i2l, 1) := by decide +kernel
theorem dX5_sizeOf_6 : decode cX5_sizeOf 6 = .ok (.aload_n 0, 1) := by decide +kernel
theorem dX5_sizeOf_7 : decode cX5_sizeOf 7 = .ok (.getfield 26, 3) := by decide +kernel
theorem dX5_sizeOf_10 : decode cX5_sizeOf 10 = .ok (.i2l, 1) := by decide +kernel
theorem dX5_sizeOf_11 : decode cX5_sizeOf 11 = .ok (.lmul, 1) := by decide +kernel
theorem dX5_sizeOf_12 : decode cX5_sizeOf 12 = .ok (.aload_n 0, 1) := by decide +kernel
theorem dX5_sizeOf_13 : decode cX5_sizeOf 13 = .ok (.iload_n 2, 1) := by decide +kernel
theorem dX5_sizeOf_14 : decode cX5_sizeOf 14 = .ok (.invokevirtual 49, 3) := by decide +kernel
theorem dX5_sizeOf_17 : decode cX5_sizeOf 17 = .ok (.i2l, 1) := by decide +kernel
theorem dX5_sizeOf_18 : decode cX5_sizeOf 18 = .ok (.lmul, 1) := by decide +kernel
theorem dX5_sizeOf_19 : decode cX5_sizeOf 19 = .ok (.ldc2_w 52, 3) := by decide +kernel
theorem dX5_sizeOf_22 : decode cX5_sizeOf 22 = .ok (.ldiv, 1) := by decide +kernel
theorem dX5_sizeOf_23 : decode cX5_sizeOf 23 = .ok (.l2i, 1) := by decide +kernel
theorem dX5_sizeOf_24 : decode cX5_sizeOf 24 = .ok (.ireturn, 1) := by decide +kernel
theorem dX6_init_0 : decode cX6_init 0 = .ok (.aload_n 0, 1) := by decide +kernel
theorem dX6_init_1 : decode cX6_init 1 = .ok (.invokespecial 3, 3) := by decide +kernel
theorem dX6_init_4 : decode cX6_init 4 = .ok (.aload_n 0, 1) := by decide +kernel
theorem dX6_init_5 : decode cX6_init 5 = .ok (.new 9, 3) := by decide +kernel
theorem dX6_init_8 : decode cX6_init 8 = .ok (.dup, 1) := by decide +kernel
theorem dX6_init_9 : decode cX6_init 9 = .ok (.invokespecial 11, 3) := by decide +kernel
theorem dX6_init_12 : decode cX6_init 12 = .ok (.putfield 12, 3) := by decide +kernel
theorem dX6_init_15 : decode cX6_init 15 = .ok (.aload_n 0, 1) := by decide +kernel
theorem dX6_init_16 : decode cX6_init 16 = .ok (.new 16, 3) := by decide +kernel
theorem dX6_init_19 : decode cX6_init 19 = .ok (.dup, 1) := by decide +kernel
theorem dX6_init_20 : decode cX6_init 20 = .ok (.invokespecial 18, 3) := by decide +kernel
theorem dX6_init_23 : decode cX6_init 23 = .ok (.putfield 19, 3) := by decide +kernel
theorem dX6_init_26 : decode cX6_init 26 = .ok (.aload_n 0, 1) := by decide +kernel
theorem dX6_init_27 : decode cX6_init 27 = .ok (.new 23, 3) := by decide +kernel
theorem dX6_init_30 : decode cX6_init 30 = .ok (.dup, 1) := by decide +kernel
theorem dX6_init_31 : decode cX6_init 31 = .ok (.invokespecial 25, 3) := by decide +kernel
theorem dX6_init_34 : decode cX6_init 34 = .ok (.putfield 26, 3) := by decide +kernel
theorem dX6_init_37 : decode cX6_init 37 = .ok (.aload_n 0, 1) := by decide +kernel
theorem dX6_init_38 : decode cX6_init 38 = .ok (.new 30, 3) := by decide +kernel
theorem dX6_init_41 : decode cX6_init 41 = .ok (.dup, 1) := by decide +kernel
theorem dX6_init_42 : decode cX6_init 42 = .ok (.aload_n 0, 1) := by decide +kernel
theorem dX6_init_43 : decode cX6_init 43 = .ok (.getfield 12, 3) := by decide +kernel
theorem dX6_init_46 : decode cX6_init 46 = .ok (.aload_n 0, 1) := by decide +kernel
theorem dX6_init_47 : decode cX6_init 47 = .ok (.getfield 19, 3) := by decide +kernel
theorem dX6_init_50 : decode cX6_init 50 = .ok (.aload_n 0, 1) := by decide +kernel
theorem dX6_init_51 : decode cX6_init 51 = .ok (.getfield 26, 3) := by decide +kernel
theorem dX6_init_54 : decode cX6_init 54 = .ok (.invokespecial 32, 3) := by decide +kernel
theorem dX6_init_57 : decode cX6_init 57 = .ok (.putfield 35, 3) := by decide +kernel
theorem dX6_init_60 : decode cX6_init 60 = .ok (.aload_n 0, 1) := by decide +kernel
theorem dX6_init_61 : decode cX6_init 61 = .ok (.new 30, 3) := by decide +kernel
theorem dX6_init_64 : decode cX6_init 64 = .ok (.dup, 1) := by decide +kernel
theorem dX6_init_65 : decode cX6_init 65 = .ok (.aload_n 0, 1) := by decide +kernel
theorem dX6_init_66 : decode cX6_init 66 = .ok (.getfield 12, 3) := by decide +kernel
theorem dX6_init_69 : decode cX6_init 69 = .ok (.aload_n 0, 1) := by decide +kernel
theorem dX6_init_70 : decode cX6_init 70 = .ok (.getfield 19, 3) := by decide +kernel
theorem dX6_init_73 : decode cX6_init 73 = .ok (.aload_n 0, 1) := by decide +kernel
theorem dX6_init_74 : decode cX6_init 74 = .ok (.getfield 26, 3) := by decide +kernel
theorem dX6_init_77 : decode cX6_init 77 = .ok (.invokespecial 32, 3) := by decide +kernel
theorem dX6_init_80 : decode cX6_init 80 = .ok (.putfield 39, 3) := by decide +kernel
theorem dX6_init_83 : decode cX6_init 83 = .ok (.aload_n 0, 1) := by decide +kernel
theorem dX6_init_84 : decode cX6_init 84 = .ok (.new 42, 3) := by decide +kernel
theorem dX6_init_87 : decode cX6_init 87 = .ok (.dup, 1) := by decide +kernel
theorem dX6_init_88 : decode cX6_init 88 = .ok (.invokespecial 44, 3) := by decide +kernel
theorem dX6_init_91 : decode cX6_init 91 = .ok (.putfield 45, 3) := by decide +kernel
theorem dX6_init_94 : decode cX6_init 94 = .ok (.aload_n 0, 1) := by decide +kernel
theorem dX6_init_95 : decode cX6_init 95 = .ok (.iconst 0, 1) := by decide +kernel
theorem dX6_init_96 : decode cX6_init 96 = .ok (.putfield 49, 3) := by decide +kernel
theorem dX6_init_99 : decode cX6_init 99 = .ok (.aload_n 0, 1) := by decide +kernel
theorem dX6_init_100 : decode cX6_init 100 = .ok (.iconst 4, 1) := by decide +kernel
theorem dX6_init_101 : decode cX6_init 101 = .ok (.putfield 53, 3) := by decide +kernel
theorem dX6_init_104 : decode cX6_init 104 = .ok (.return_, 1) := by decide +kernel
theorem dX6_setVideo_0 : decode cX6_setVideo 0 = .ok (.iload_n 1, 1) := by decide +kernel
theorem dX6_setVideo_1 : decode cX6_setVideo 1 = .ok (.iconst 1, 1) := by decide +kernel
theorem dX6_setVideo_2 : decode cX6_setVideo 2 = .ok (.bipush 30, 2) := by decide +kernel
theorem dX6_setVideo_4 : decode cX6_setVideo 4 = .ok (.invokestatic 56, 3) := by decide +kernel
theorem dX6_setVideo_7 : decode cX6_setVideo 7 = .ok (.ifCond .eq 15, 3) := by decide +kernel
theorem dX6_setVideo_10 : decode cX6_setVideo 10 = .ok (.iload_n 2, 1) := by decide +kernel
theorem dX6_setVideo_11 : decode cX6_setVideo 11 = .ok (.bipush 100, 2) := by decide +kernel
theorem dX6_setVideo_13 : decode cX6_setVideo 13 = .ok (.sipush 5000, 3) := by decide +kernel
theorem dX6_setVideo_16 : decode cX6_setVideo 16 = .ok (.invokestatic 56, 3) := by decide +kernel
theorem dX6_setVideo_19 : decode cX6_setVideo 19 = .ok (.ifCond .ne 5, 3) := by decide +kernel
theorem dX6_setVideo_22 : decode cX6_setVideo 22 = .ok (.iconst (-1), 1) := by decide +kernel
theorem dX6_setVideo_23 : decode cX6_setVideo 23 = .ok (.ireturn, 1) := by decide +kernel
theorem dX6_setVideo_24 : decode cX6_setVideo 24 = .ok (.aload_n 0, 1) := by decide +kernel
theorem dX6_setVideo_25 : decode cX6_setVideo 25 = .ok (.getfield 12, 3) := by decide +kernel
theorem dX6_setVideo_28 : decode cX6_setVideo 28 = .ok (.iload_n 1, 1) := by decide +kernel
theorem dX6_setVideo_29 : decode cX6_setVideo 29 = .ok (.iload_n 2, 1) := by decide +kernel
theorem dX6_setVideo_30 : decode cX6_setVideo 30 = .ok (.invokevirtual 60, 3) := by decide +kernel
theorem dX6_setVideo_33 : decode cX6_setVideo 33 = .ok (.aload_n 0, 1) := by decide +kernel
theorem dX6_setVideo_34 : decode cX6_setVideo 34 = .ok (.getfield 35, 3) := by decide +kernel
theorem dX6_setVideo_37 : decode cX6_setVideo 37 = .ok (.invokevirtual 64, 3) := by decide +kernel
theorem dX6_setVideo_40 : decode cX6_setVideo 40 = .ok (.iload_n 1, 1) := by decide +kernel
theorem dX6_setVideo_41 : decode cX6_setVideo 41 = .ok (.iload_n 2, 1) := by decide +kernel
theorem dX6_setVideo_42 : decode cX6_setVideo 42 = .ok (.imul, 1) := by decide +kernel
theorem dX6_setVideo_43 : decode cX6_setVideo 43 = .ok (.ireturn, 1) := by decide +kernel
theorem dX6_addLevel_0 : decode cX6_addLevel 0 = .ok (.iload_n 1, 1) := by decide +kernel
theorem dX6_addLevel_1 : decode cX6_addLevel 1 = .ok (.iconst 1, 1) := by decide +kernel
theorem dX6_addLevel_2 : decode cX6_addLevel 2 = .ok (.sipush 9000, 3) := by decide +kernel
theorem dX6_addLevel_5 : decode cX6_addLevel 5 = .ok (.invokestatic 56, 3) := by decide +kernel
theorem dX6_addLevel_8 : decode cX6_addLevel 8 = .ok (.ifCond .eq 14, 3) := by decide +kernel
theorem dX6_addLevel_11 : decode cX6_addLevel 11 = .ok (.iload_n 1, 1) := by decide +kernel
theorem dX6_addLevel_12 : decode cX6_addLevel 12 = .ok (.aload_n 0, 1) := by decide +kernel
theorem dX6_addLevel_13 : decode cX6_addLevel 13 = .ok (.getfield 12, 3) := by decide +kernel
theorem dX6_addLevel_16 : decode cX6_addLevel 16 = .ok (.invokevirtual 67, 3) := by decide +kernel
theorem dX6_addLevel_19 : decode cX6_addLevel 19 = .ok (.if_icmp .gt 5, 3) := by decide +kernel
theorem dX6_addLevel_22 : decode cX6_addLevel 22 = .ok (.iconst (-1), 1) := by decide +kernel
theorem dX6_addLevel_23 : decode cX6_addLevel 23 = .ok (.ireturn, 1) := by decide +kernel
theorem dX6_addLevel_24 : decode cX6_addLevel 24 = .ok (.aload_n 0, 1) := by decide +kernel
theorem dX6_addLevel_25 : decode cX6_addLevel 25 = .ok (.getfield 12, 3) := by decide +kernel
theorem dX6_addLevel_28 : decode cX6_addLevel 28 = .ok (.getfield 71, 3) := by decide +kernel
theorem dX6_addLevel_31 : decode cX6_addLevel 31 = .ok (.iconst 5, 1) := by decide +kernel
theorem dX6_addLevel_32 : decode cX6_addLevel 32 = .ok (.if_icmp .lt 6, 3) := by decide +kernel
theorem dX6_addLevel_35 : decode cX6_addLevel 35 = .ok (.bipush (-3), 2) := by decide +kernel
theorem dX6_addLevel_37 : decode cX6_addLevel 37 = .ok (.ireturn, 1) := by decide +kernel
theorem dX6_addLevel_38 : decode cX6_addLevel 38 = .ok (.aload_n 0, 1) := by decide +kernel
theorem dX6_addLevel_39 : decode cX6_addLevel 39 = .ok (.getfield 12, 3) := by decide +kernel
theorem dX6_addLevel_42 : decode cX6_addLevel 42 = .ok (.iload_n 1, 1) := by decide +kernel
theorem dX6_addLevel_43 : decode cX6_addLevel 43 = .ok (.invokevirtual 74, 3) := by decide +kernel
theorem dX6_addLevel_46 : decode cX6_addLevel 46 = .ok (.aload_n 0, 1) := by decide +kernel
theorem dX6_addLevel_47 : decode cX6_addLevel 47 = .ok (.getfield 35, 3) := by decide +kernel
theorem dX6_addLevel_50 : decode cX6_addLevel 50 = .ok (.invokevirtual 64, 3) := by decide +kernel
theorem dX6_addLevel_53 : decode cX6_addLevel 53 = .ok (.aload_n 0, 1) := by decide +kernel
theorem dX6_addLevel_54 : decode cX6_addLevel 54 = .ok (.getfield 12, 3) := by decide +kernel
theorem dX6_addLevel_57 : decode cX6_addLevel 57 = .ok (.getfield 71, 3) := by decide +kernel
theorem dX6_addLevel_60 : decode cX6_addLevel 60 = .ok (.iconst 1, 1) := by decide +kernel
theorem dX6_addLevel_61 : decode cX6_addLevel 61 = .ok (.isub, 1) := by decide +kernel
theorem dX6_addLevel_62 : decode cX6_addLevel 62 = .ok (.ireturn, 1) := by decide +kernel
theorem dX6_setVariation_0 : decode cX6_setVariation 0 = .ok (.aload_n 0, 1) := by decide +kernel
theorem dX6_setVariation_1 : decode cX6_setVariation 1 = .ok (.getfield 12, 3) := by decide +kernel
theorem dX6_setVariation_4 : decode cX6_setVariation 4 = .ok (.iload_n 1, 1) := by decide +kernel
theorem dX6_setVariation_5 : decode cX6_setVariation 5 = .ok (.invokevirtual 78, 3) := by decide +kernel
theorem dX6_setVariation_8 : decode cX6_setVariation 8 = .ok (.ifCond .ne 6, 3) := by decide +kernel
theorem dX6_setVariation_11 : decode cX6_setVariation 11 = .ok (.bipush (-2), 2) := by decide +kernel
theorem dX6_setVariation_13 : decode cX6_setVariation 13 = .ok (.ireturn, 1) := by decide +kernel
theorem dX6_setVariation_14 : decode cX6_setVariation 14 = .ok (.iload_n 2, 1) := by decide +kernel
theorem dX6_setVariation_15 : decode cX6_setVariation 15 = .ok (.iconst 0, 1) := by decide +kernel
theorem dX6_setVariation_16 : decode cX6_setVariation 16 = .ok (.sipush 300, 3) := by decide +kernel
theorem dX6_setVariation_19 : decode cX6_setVariation 19 = .ok (.invokestatic 56, 3) := by decide +kernel
theorem dX6_setVariation_22 : decode cX6_setVariation 22 = .ok (.ifCond .ne 5, 3) := by decide +kernel
theorem dX6_setVariation_25 : decode cX6_setVariation 25 = .ok (.iconst (-1), 1) := by decide +kernel
theorem dX6_setVariation_26 : decode cX6_setVariation 26 = .ok (.ireturn, 1) := by decide +kernel
theorem dX6_setVariation_27 : decode cX6_setVariation 27 = .ok (.aload_n 0, 1) := by decide +kernel
theorem dX6_setVariation_28 : decode cX6_setVariation 28 = .ok (.getfield 12, 3) := by decide +kernel
theorem dX6_setVariation_31 : decode cX6_setVariation 31 = .ok (.iload_n 1, 1) := by decide +kernel
theorem dX6_setVariation_32 : decode cX6_setVariation 32 = .ok (.invokevirtual 82, 3) := by decide +kernel
theorem dX6_setVariation_35 : decode cX6_setVariation 35 = .ok (.istore_n 3, 1) := by decide +kernel
theorem dX6_setVariation_36 : decode cX6_setVariation 36 = .ok (.aload_n 0, 1) := by decide +kernel
theorem dX6_setVariation_37 : decode cX6_setVariation 37 = .ok (.getfield 12, 3) := by decide +kernel
theorem dX6_setVariation_40 : decode cX6_setVariation 40 = .ok (.iload_n 1, 1) := by decide +kernel
theorem dX6_setVariation_41 : decode cX6_setVariation 41 = .ok (.iload_n 2, 1) := by decide +kernel
theorem dX6_setVariation_42 : decode cX6_setVariation 42 = .ok (.invokevirtual 86, 3) := by decide +kernel
theorem dX6_setVariation_45 : decode cX6_setVariation 45 = .ok (.iload_n 3, 1) := by decide +kernel
theorem dX6_setVariation_46 : decode cX6_setVariation 46 = .ok (.ireturn, 1) := by decide +kernel
theorem dX6_addPeriod_0 : decode cX6_addPeriod 0 = .ok (.iload_n 1, 1) := by decide +kernel
theorem dX6_addPeriod_1 : decode cX6_addPeriod 1 = .ok (.iconst 1, 1) := by decide +kernel
theorem dX6_addPeriod_2 : decode cX6_addPeriod 2 = .ok (.ldc 89, 2) := by decide +kernel
theorem dX6_addPeriod_4 : decode cX6_addPeriod 4 = .ok (.invokestatic 56, 3) := by decide +kernel
theorem dX6_addPeriod_7 : decode cX6_addPeriod 7 = .ok (.ifCond .eq 14, 3) := by decide +kernel
theorem dX6_addPeriod_10 : decode cX6_addPeriod 10 = .ok (.iload_n 2, 1) := by decide +kernel
theorem dX6_addPeriod_11 : decode cX6_addPeriod 11 = .ok (.iconst 0, 1) := by decide +kernel
theorem dX6_addPeriod_12 : decode cX6_addPeriod 12 = .ok (.sipush 9000, 3) := by decide +kernel
theorem dX6_addPeriod_15 : decode cX6_addPeriod 15 = .ok (.invokestatic 56, 3) := by decide +kernel
theorem dX6_addPeriod_18 : decode cX6_addPeriod 18 = .ok (.ifCond .ne 5, 3) := by decide +kernel
theorem dX6_addPeriod_21 : decode cX6_addPeriod 21 = .ok (.iconst (-1), 1) := by decide +kernel
theorem dX6_addPeriod_22 : decode cX6_addPeriod 22 = .ok (.ireturn, 1) := by decide +kernel
theorem dX6_addPeriod_23 : decode cX6_addPeriod 23 = .ok (.aload_n 0, 1) := by decide +kernel
theorem dX6_addPeriod_24 : decode cX6_addPeriod 24 = .ok (.getfield 19, 3) := by decide +kernel
theorem dX6_addPeriod_27 : decode cX6_addPeriod 27 = .ok (.getfield 90, 3) := by decide +kernel
theorem dX6_addPeriod_30 : decode cX6_addPeriod 30 = .ok (.bipush 12, 2) := by decide +kernel
theorem dX6_addPeriod_32 : decode cX6_addPeriod 32 = .ok (.if_icmp .lt 6, 3) := by decide +kernel
theorem dX6_addPeriod_35 : decode cX6_addPeriod 35 = .ok (.bipush (-3), 2) := by decide +kernel
theorem dX6_addPeriod_37 : decode cX6_addPeriod 37 = .ok (.ireturn, 1) := by decide +kernel
theorem dX6_addPeriod_38 : decode cX6_addPeriod 38 = .ok (.aload_n 0, 1) := by decide +kernel
theorem dX6_addPeriod_39 : decode cX6_addPeriod 39 = .ok (.getfield 19, 3) := by decide +kernel
theorem dX6_addPeriod_42 : decode cX6_addPeriod 42 = .ok (.iload_n 1, 1) := by decide +kernel
theorem dX6_addPeriod_43 : decode cX6_addPeriod 43 = .ok (.iload_n 2, 1) := by decide +kernel
theorem dX6_addPeriod_44 : decode cX6_addPeriod 44 = .ok (.invokevirtual 93, 3) := by decide +kernel
theorem dX6_addPeriod_47 : decode cX6_addPeriod 47 = .ok (.aload_n 0, 1) := by decide +kernel
theorem dX6_addPeriod_48 : decode cX6_addPeriod 48 = .ok (.getfield 19, 3) := by decide +kernel
theorem dX6_addPeriod_51 : decode cX6_addPeriod 51 = .ok (.getfield 90, 3) := by decide +kernel
theorem dX6_addPeriod_54 : decode cX6_addPeriod 54 = .ok (.ireturn, 1) := by decide +kernel
theorem dX6_setBuffer_0 : decode cX6_setBuffer 0 = .ok (.iload_n 1, 1) := by decide +kernel
theorem dX6_setBuffer_1 : decode cX6_setBuffer 1 = .ok (.bipush 100, 2) := by decide +kernel
theorem dX6_setBuffer_3 : decode cX6_setBuffer 3 = .ok (.ldc 89, 2) := by decide +kernel
theorem dX6_setBuffer_5 : decode cX6_setBuffer 5 = .ok (.invokestatic 56, 3) := by decide +kernel
theorem dX6_setBuffer_8 : decode cX6_setBuffer 8 = .ok (.ifCond .eq 12, 3) := by decide +kernel
theorem dX6_setBuffer_11 : decode cX6_setBuffer 11 = .ok (.iload_n 2, 1) := by decide +kernel
theorem dX6_setBuffer_12 : decode cX6_setBuffer 12 = .ok (.iconst 1, 1) := by decide +kernel
theorem dX6_setBuffer_13 : decode cX6_setBuffer 13 = .ok (.iload_n 1, 1) := by decide +kernel
theorem dX6_setBuffer_14 : decode cX6_setBuffer 14 = .ok (.invokestatic 56, 3) := by decide +kernel
theorem dX6_setBuffer_17 : decode cX6_setBuffer 17 = .ok (.ifCond .ne 5, 3) := by decide +kernel
theorem dX6_setBuffer_20 : decode cX6_setBuffer 20 = .ok (.iconst (-1), 1) := by decide +kernel
theorem dX6_setBuffer_21 : decode cX6_setBuffer 21 = .ok (.ireturn, 1) := by decide +kernel
theorem dX6_setBuffer_22 : decode cX6_setBuffer 22 = .ok (.aload_n 0, 1) := by decide +kernel
theorem dX6_setBuffer_23 : decode cX6_setBuffer 23 = .ok (.getfield 26, 3) := by decide +kernel
theorem dX6_setBuffer_26 : decode cX6_setBuffer 26 = .ok (.iload_n 1, 1) := by decide +kernel
theorem dX6_setBuffer_27 : decode cX6_setBuffer 27 = .ok (.iload_n 2, 1) := by decide +kernel
theorem dX6_setBuffer_28 : decode cX6_setBuffer 28 = .ok (.invokevirtual 96, 3) := by decide +kernel
theorem dX6_setBuffer_31 : decode cX6_setBuffer 31 = .ok (.invokestatic 100, 3) := by decide +kernel
theorem dX6_setBuffer_34 : decode cX6_setBuffer 34 = .ok (.ireturn, 1) := by decide +kernel
theorem dX6_setPolicyNumbers_0 : decode cX6_setPolicyNumbers 0 = .ok (.iload_n 1, 1) := by decide +kernel
theorem dX6_setPolicyNumbers_1 : decode cX6_setPolicyNumbers 1 = .ok (.iconst 1, 1) := by decide +kernel
theorem dX6_setPolicyNumbers_2 : decode cX6_setPolicyNumbers 2 = .ok (.sipush 200, 3) := by decide +kernel
theorem dX6_setPolicyNumbers_5 : decode cX6_setPolicyNumbers 5 = .ok (.invokestatic 56, 3) := by decide +kernel
theorem dX6_setPolicyNumbers_8 : decode cX6_setPolicyNumbers 8 = .ok (.ifCond .eq 23, 3) := by decide +kernel
theorem dX6_setPolicyNumbers_11 : decode cX6_setPolicyNumbers 11 = .ok (.iload_n 2, 1) := by decide +kernel
theorem dX6_setPolicyNumbers_12 : decode cX6_setPolicyNumbers 12 = .ok (.iconst 0, 1) := by decide +kernel
theorem dX6_setPolicyNumbers_13 : decode cX6_setPolicyNumbers 13 = .ok (.ldc 89, 2) := by decide +kernel
theorem dX6_setPolicyNumbers_15 : decode cX6_setPolicyNumbers 15 = .ok (.invokestatic 56, 3) := by decide +kernel
theorem dX6_setPolicyNumbers_18 : decode cX6_setPolicyNumbers 18 = .ok (.ifCond .eq 13, 3) := by decide +kernel
theorem dX6_setPolicyNumbers_21 : decode cX6_setPolicyNumbers 21 = .ok (.iload_n 3, 1) := by decide +kernel
theorem dX6_setPolicyNumbers_22 : decode cX6_setPolicyNumbers 22 = .ok (.iconst 1, 1) := by decide +kernel
theorem dX6_setPolicyNumbers_23 : decode cX6_setPolicyNumbers 23 = .ok (.ldc 89, 2) := by decide +kernel
theorem dX6_setPolicyNumbers_25 : decode cX6_setPolicyNumbers 25 = .ok (.invokestatic 56, 3) := by decide +kernel
theorem dX6_setPolicyNumbers_28 : decode cX6_setPolicyNumbers 28 = .ok (.ifCond .ne 5, 3) := by decide +kernel
theorem dX6_setPolicyNumbers_31 : decode cX6_setPolicyNumbers 31 = .ok (.iconst (-1), 1) := by decide +kernel
theorem dX6_setPolicyNumbers_32 : decode cX6_setPolicyNumbers 32 = .ok (.ireturn, 1) := by decide +kernel
theorem dX6_setPolicyNumbers_33 : decode cX6_setPolicyNumbers 33 = .ok (.aload_n 0, 1) := by decide +kernel
theorem dX6_setPolicyNumbers_34 : decode cX6_setPolicyNumbers 34 = .ok (.getfield 26, 3) := by decide +kernel
theorem dX6_setPolicyNumbers_37 : decode cX6_setPolicyNumbers 37 = .ok (.iload_n 1, 1) := by decide +kernel
theorem dX6_setPolicyNumbers_38 : decode cX6_setPolicyNumbers 38 = .ok (.iload_n 2, 1) := by decide +kernel
theorem dX6_setPolicyNumbers_39 : decode cX6_setPolicyNumbers 39 = .ok (.iload_n 3, 1) := by decide +kernel
theorem dX6_setPolicyNumbers_40 : decode cX6_setPolicyNumbers 40 = .ok (.invokevirtual 104, 3) := by decide +kernel
theorem dX6_setPolicyNumbers_43 : decode cX6_setPolicyNumbers 43 = .ok (.invokestatic 100, 3) := by decide +kernel
theorem dX6_setPolicyNumbers_46 : decode cX6_setPolicyNumbers 46 = .ok (.ireturn, 1) := by decide +kernel
theorem dX6_typeKey_0 : decode cX6_typeKey 0 = .ok (.iload_n 1, 1) := by decide +kernel
theorem dX6_typeKey_1 : decode cX6_typeKey 1 = .ok (.bipush 32, 2) := by decide +kernel
theorem dX6_typeKey_3 : decode cX6_typeKey 3 = .ok (.bipush 126, 2) := by decide +kernel
theorem dX6_typeKey_5 : decode cX6_typeKey 5 = .ok (.invokestatic 56, 3) := by decide +kernel
theorem dX6_typeKey_8 : decode cX6_typeKey 8 = .ok (.ifCond .ne 5, 3) := by decide +kernel
theorem dX6_typeKey_11 : decode cX6_typeKey 11 = .ok (.iconst (-1), 1) := by decide +kernel
theorem dX6_typeKey_12 : decode cX6_typeKey 12 = .ok (.ireturn, 1) := by decide +kernel
theorem dX6_typeKey_13 : decode cX6_typeKey 13 = .ok (.aload_n 0, 1) := by decide +kernel
theorem dX6_typeKey_14 : decode cX6_typeKey 14 = .ok (.getfield 45, 3) := by decide +kernel
theorem dX6_typeKey_17 : decode cX6_typeKey 17 = .ok (.invokevirtual 107, 3) := by decide +kernel
theorem dX6_typeKey_20 : decode cX6_typeKey 20 = .ok (.bipush 16, 2) := by decide +kernel
theorem dX6_typeKey_22 : decode cX6_typeKey 22 = .ok (.if_icmp .lt 6, 3) := by decide +kernel
theorem dX6_typeKey_25 : decode cX6_typeKey 25 = .ok (.bipush (-3), 2) := by decide +kernel
theorem dX6_typeKey_27 : decode cX6_typeKey 27 = .ok (.ireturn, 1) := by decide +kernel
theorem dX6_typeKey_28 : decode cX6_typeKey 28 = .ok (.aload_n 0, 1) := by decide +kernel
theorem dX6_typeKey_29 : decode cX6_typeKey 29 = .ok (.getfield 45, 3) := by decide +kernel
theorem dX6_typeKey_32 : decode cX6_typeKey 32 = .ok (.iload_n 1, 1) := by decide +kernel
theorem dX6_typeKey_33 : decode cX6_typeKey 33 = .ok (.i2c, 1) := by decide +kernel
theorem dX6_typeKey_34 : decode cX6_typeKey 34 = .ok (.invokevirtual 110, 3) := by decide +kernel
theorem dX6_typeKey_37 : decode cX6_typeKey 37 = .ok (.pop, 1) := by decide +kernel
theorem dX6_typeKey_38 : decode cX6_typeKey 38 = .ok (.aload_n 0, 1) := by decide +kernel
theorem dX6_typeKey_39 : decode cX6_typeKey 39 = .ok (.getfield 45, 3) := by decide +kernel
theorem dX6_typeKey_42 : decode cX6_typeKey 42 = .ok (.invokevirtual 107, 3) := by decide +kernel
theorem dX6_typeKey_45 : decode cX6_typeKey 45 = .ok (.ireturn, 1) := by decide +kernel
theorem dX6_runCommand_0 : decode cX6_runCommand 0 = .ok (.aload_n 0, 1) := by decide +kernel
theorem dX6_runCommand_1 : decode cX6_runCommand 1 = .ok (.getfield 45, 3) := by decide +kernel
theorem dX6_runCommand_4 : decode cX6_runCommand 4 = .ok (.invokevirtual 114, 3) := by decide +kernel
theorem dX6_runCommand_7 : decode cX6_runCommand 7 = .ok (.astore_n 1, 1) := by decide +kernel
theorem dX6_runCommand_8 : decode cX6_runCommand 8 = .ok (.aload_n 0, 1) := by decide +kernel
theorem dX6_runCommand_9 : decode cX6_runCommand 9 = .ok (.getfield 45, 3) := by decide +kernel
theorem dX6_runCommand_12 : decode cX6_runCommand 12 = .ok (.iconst 0, 1) := by decide +kernel
theorem dX6_runCommand_13 : decode cX6_runCommand 13 = .ok (.invokevirtual 118, 3) := by decide +kernel
theorem dX6_runCommand_16 : decode cX6_runCommand 16 = .ok (.aload_n 1, 1) := by decide +kernel
theorem dX6_runCommand_17 : decode cX6_runCommand 17 = .ok (.bipush 32, 2) := by decide +kernel
theorem dX6_runCommand_19 : decode cX6_runCommand 19 = .ok (.invokevirtual 121, 3) := by decide +kernel
theorem dX6_runCommand_22 : decode cX6_runCommand 22 = .ok (.istore_n 2, 1) := by decide +kernel
theorem dX6_runCommand_23 : decode cX6_runCommand 23 = .ok (.iload_n 2, 1) := by decide +kernel
theorem dX6_runCommand_24 : decode cX6_runCommand 24 = .ok (.ifCond .ge 9, 3) := by decide +kernel
theorem dX6_runCommand_27 : decode cX6_runCommand 27 = .ok (.aload_n 0, 1) := by decide +kernel
theorem dX6_runCommand_28 : decode cX6_runCommand 28 = .ok (.aload_n 1, 1) := by decide +kernel
theorem dX6_runCommand_29 : decode cX6_runCommand 29 = .ok (.invokevirtual 126, 3) := by decide +kernel
theorem dX6_runCommand_32 : decode cX6_runCommand 32 = .ok (.ireturn, 1) := by decide +kernel
theorem dX6_runCommand_33 : decode cX6_runCommand 33 = .ok (.aload_n 0, 1) := by decide +kernel
theorem dX6_runCommand_34 : decode cX6_runCommand 34 = .ok (.aload_n 1, 1) := by decide +kernel
theorem dX6_runCommand_35 : decode cX6_runCommand 35 = .ok (.iconst 0, 1) := by decide +kernel
theorem dX6_runCommand_36 : decode cX6_runCommand 36 = .ok (.iload_n 2, 1) := by decide +kernel
theorem dX6_runCommand_37 : decode cX6_runCommand 37 = .ok (.invokevirtual 130, 3) := by decide +kernel
theorem dX6_runCommand_40 : decode cX6_runCommand 40 = .ok (.aload_n 1, 1) := by decide +kernel
theorem dX6_runCommand_41 : decode cX6_runCommand 41 = .ok (.iload_n 2, 1) := by decide +kernel
theorem dX6_runCommand_42 : decode cX6_runCommand 42 = .ok (.iconst 1, 1) := by decide +kernel
theorem dX6_runCommand_43 : decode cX6_runCommand 43 = .ok (.iadd, 1) := by decide +kernel
theorem dX6_runCommand_44 : decode cX6_runCommand 44 = .ok (.invokevirtual 134, 3) := by decide +kernel
theorem dX6_runCommand_47 : decode cX6_runCommand 47 = .ok (.invokevirtual 137, 3) := by decide +kernel
theorem dX6_runCommand_50 : decode cX6_runCommand 50 = .ok (.ireturn, 1) := by decide +kernel
theorem dX6_restart_0 : decode cX6_restart 0 = .ok (.aload_n 0, 1) := by decide +kernel
theorem dX6_restart_1 : decode cX6_restart 1 = .ok (.getfield 35, 3) := by decide +kernel
theorem dX6_restart_4 : decode cX6_restart 4 = .ok (.getfield 141, 3) := by decide +kernel
theorem dX6_restart_7 : decode cX6_restart 7 = .ok (.istore_n 1, 1) := by decide +kernel
theorem dX6_restart_8 : decode cX6_restart 8 = .ok (.aload_n 0, 1) := by decide +kernel
theorem dX6_restart_9 : decode cX6_restart 9 = .ok (.getfield 35, 3) := by decide +kernel
theorem dX6_restart_12 : decode cX6_restart 12 = .ok (.invokevirtual 64, 3) := by decide +kernel
theorem dX6_restart_15 : decode cX6_restart 15 = .ok (.iload_n 1, 1) := by decide +kernel
theorem dX6_restart_16 : decode cX6_restart 16 = .ok (.ireturn, 1) := by decide +kernel
theorem dX6_advance_0 : decode cX6_advance 0 = .ok (.iload_n 1, 1) := by decide +kernel
theorem dX6_advance_1 : decode cX6_advance 1 = .ok (.iconst 1, 1) := by decide +kernel
theorem dX6_advance_2 : decode cX6_advance 2 = .ok (.ldc 89, 2) := by decide +kernel
theorem dX6_advance_4 : decode cX6_advance 4 = .ok (.invokestatic 56, 3) := by decide +kernel
theorem dX6_advance_7 : decode cX6_advance 7 = .ok (.ifCond .ne 5, 3) := by decide +kernel
theorem dX6_advance_10 : decode cX6_advance 10 = .ok (.iconst (-1), 1) := by decide +kernel
theorem dX6_advance_11 : decode cX6_advance 11 = .ok (.ireturn, 1) := by decide +kernel
theorem dX6_advance_12 : decode cX6_advance 12 = .ok (.aload_n 0, 1) := by decide +kernel
theorem dX6_advance_13 : decode cX6_advance 13 = .ok (.getfield 12, 3) := by decide +kernel
theorem dX6_advance_16 : decode cX6_advance 16 = .ok (.getfield 71, 3) := by decide +kernel
theorem dX6_advance_19 : decode cX6_advance 19 = .ok (.ifCond .ne 6, 3) := by decide +kernel
theorem dX6_advance_22 : decode cX6_advance 22 = .ok (.bipush (-4), 2) := by decide +kernel
theorem dX6_advance_24 : decode cX6_advance 24 = .ok (.ireturn, 1) := by decide +kernel
theorem dX6_advance_25 : decode cX6_advance 25 = .ok (.iconst 0, 1) := by decide +kernel
theorem dX6_advance_26 : decode cX6_advance 26 = .ok (.istore_n 2, 1) := by decide +kernel
theorem dX6_advance_27 : decode cX6_advance 27 = .ok (.iconst 0, 1) := by decide +kernel
theorem dX6_advance_28 : decode cX6_advance 28 = .ok (.istore_n 3, 1) := by decide +kernel
theorem dX6_advance_29 : decode cX6_advance 29 = .ok (.iload_n 3, 1) := by decide +kernel
theorem dX6_advance_30 : decode cX6_advance 30 = .ok (.iload_n 1, 1) := by decide +kernel
theorem dX6_advance_31 : decode cX6_advance 31 = .ok (.if_icmp .ge 30, 3) := by decide +kernel
theorem dX6_advance_34 : decode cX6_advance 34 = .ok (.aload_n 0, 1) := by decide +kernel
theorem dX6_advance_35 : decode cX6_advance 35 = .ok (.getfield 35, 3) := by decide +kernel
theorem dX6_advance_38 : decode cX6_advance 38 = .ok (.aload_n 0, 1) := by decide +kernel
theorem dX6_advance_39 : decode cX6_advance 39 = .ok (.getfield 49, 3) := by decide +kernel
theorem dX6_advance_42 : decode cX6_advance 42 = .ok (.aload_n 0, 1) := by decide +kernel
theorem dX6_advance_43 : decode cX6_advance 43 = .ok (.getfield 53, 3) := by decide +kernel
theorem dX6_advance_46 : decode cX6_advance 46 = .ok (.invokevirtual 144, 3) := by decide +kernel
theorem dX6_advance_49 : decode cX6_advance 49 = .ok (.ifCond .eq 6, 3) := by decide +kernel
theorem dX6_advance_52 : decode cX6_advance 52 = .ok (.iinc 2 1, 3) := by decide +kernel
theorem dX6_advance_55 : decode cX6_advance 55 = .ok (.iinc 3 1, 3) := by decide +kernel
theorem dX6_advance_58 : decode cX6_advance 58 = .ok (.goto (-29), 3) := by decide +kernel
theorem dX6_advance_61 : decode cX6_advance 61 = .ok (.iload_n 2, 1) := by decide +kernel
theorem dX6_advance_62 : decode cX6_advance 62 = .ok (.ireturn, 1) := by decide +kernel
theorem dX6_time_0 : decode cX6_time 0 = .ok (.aload_n 0, 1) := by decide +kernel
theorem dX6_time_1 : decode cX6_time 1 = .ok (.getfield 35, 3) := by decide +kernel
theorem dX6_time_4 : decode cX6_time 4 = .ok (.getfield 141, 3) := by decide +kernel
theorem dX6_time_7 : decode cX6_time 7 = .ok (.ireturn, 1) := by decide +kernel
theorem dX6_position_0 : decode cX6_position 0 = .ok (.aload_n 0, 1) := by decide +kernel
theorem dX6_position_1 : decode cX6_position 1 = .ok (.getfield 35, 3) := by decide +kernel
theorem dX6_position_4 : decode cX6_position 4 = .ok (.getfield 147, 3) := by decide +kernel
theorem dX6_position_7 : decode cX6_position 7 = .ok (.ireturn, 1) := by decide +kernel
theorem dX6_bufferLevel_0 : decode cX6_bufferLevel 0 = .ok (.aload_n 0, 1) := by decide +kernel
theorem dX6_bufferLevel_1 : decode cX6_bufferLevel 1 = .ok (.getfield 35, 3) := by decide +kernel
theorem dX6_bufferLevel_4 : decode cX6_bufferLevel 4 = .ok (.getfield 150, 3) := by decide +kernel
theorem dX6_bufferLevel_7 : decode cX6_bufferLevel 7 = .ok (.ireturn, 1) := by decide +kernel
theorem dX6_state_0 : decode cX6_state 0 = .ok (.aload_n 0, 1) := by decide +kernel
theorem dX6_state_1 : decode cX6_state 1 = .ok (.getfield 35, 3) := by decide +kernel
theorem dX6_state_4 : decode cX6_state 4 = .ok (.getfield 153, 3) := by decide +kernel
theorem dX6_state_7 : decode cX6_state 7 = .ok (.ireturn, 1) := by decide +kernel
theorem dX6_isPaused_0 : decode cX6_isPaused 0 = .ok (.aload_n 0, 1) := by decide +kernel
theorem dX6_isPaused_1 : decode cX6_isPaused 1 = .ok (.getfield 35, 3) := by decide +kernel
theorem dX6_isPaused_4 : decode cX6_isPaused 4 = .ok (.getfield 156, 3) := by decide +kernel
theorem dX6_isPaused_7 : decode cX6_isPaused 7 = .ok (.invokestatic 100, 3) := by decide +kernel
theorem dX6_isPaused_10 : decode cX6_isPaused 10 = .ok (.ireturn, 1) := by decide +kernel
theorem dX6_downloadingSegment_0 : decode cX6_downloadingSegment 0 = .ok (.aload_n 0, 1) := by decide +kernel
theorem dX6_downloadingSegment_1 : decode cX6_downloadingSegment 1 = .ok (.getfield 35, 3) := by decide +kernel
theorem dX6_downloadingSegment_4 : decode cX6_downloadingSegment 4 = .ok (.getfield 160, 3) := by decide +kernel
theorem dX6_downloadingSegment_7 : decode cX6_downloadingSegment 7 = .ok (.getfield 164, 3) := by decide +kernel
theorem dX6_downloadingSegment_10 : decode cX6_downloadingSegment 10 = .ok (.ifCond .eq 13, 3) := by decide +kernel
theorem dX6_downloadingSegment_13 : decode cX6_downloadingSegment 13 = .ok (.aload_n 0, 1) := by decide +kernel
theorem dX6_downloadingSegment_14 : decode cX6_downloadingSegment 14 = .ok (.getfield 35, 3) := by decide +kernel
theorem dX6_downloadingSegment_17 : decode cX6_downloadingSegment 17 = .ok (.getfield 169, 3) := by decide +kernel
theorem dX6_downloadingSegment_20 : decode cX6_downloadingSegment 20 = .ok (.goto 5, 3) := by decide +kernel
theorem dX6_downloadingSegment_23 : decode cX6_downloadingSegment 23 = .ok (.bipush (-6), 2) := by decide +kernel
theorem dX6_downloadingSegment_25 : decode cX6_downloadingSegment 25 = .ok (.ireturn, 1) := by decide +kernel
theorem dX6_segmentLevel_0 : decode cX6_segmentLevel 0 = .ok (.aload_n 0, 1) := by decide +kernel
theorem dX6_segmentLevel_1 : decode cX6_segmentLevel 1 = .ok (.getfield 12, 3) := by decide +kernel
theorem dX6_segmentLevel_4 : decode cX6_segmentLevel 4 = .ok (.iload_n 1, 1) := by decide +kernel
theorem dX6_segmentLevel_5 : decode cX6_segmentLevel 5 = .ok (.invokevirtual 78, 3) := by decide +kernel
theorem dX6_segmentLevel_8 : decode cX6_segmentLevel 8 = .ok (.ifCond .ne 6, 3) := by decide +kernel
theorem dX6_segmentLevel_11 : decode cX6_segmentLevel 11 = .ok (.bipush (-2), 2) := by decide +kernel
theorem dX6_segmentLevel_13 : decode cX6_segmentLevel 13 = .ok (.ireturn, 1) := by decide +kernel
theorem dX6_segmentLevel_14 : decode cX6_segmentLevel 14 = .ok (.aload_n 0, 1) := by decide +kernel
theorem dX6_segmentLevel_15 : decode cX6_segmentLevel 15 = .ok (.getfield 35, 3) := by decide +kernel
theorem dX6_segmentLevel_18 : decode cX6_segmentLevel 18 = .ok (.iload_n 1, 1) := by decide +kernel
theorem dX6_segmentLevel_19 : decode cX6_segmentLevel 19 = .ok (.invokevirtual 172, 3) := by decide +kernel
theorem dX6_segmentLevel_22 : decode cX6_segmentLevel 22 = .ok (.ireturn, 1) := by decide +kernel
theorem dX6_throughputEstimate_0 : decode cX6_throughputEstimate 0 = .ok (.aload_n 0, 1) := by decide +kernel
theorem dX6_throughputEstimate_1 : decode cX6_throughputEstimate 1 = .ok (.getfield 35, 3) := by decide +kernel
theorem dX6_throughputEstimate_4 : decode cX6_throughputEstimate 4 = .ok (.getfield 175, 3) := by decide +kernel
theorem dX6_throughputEstimate_7 : decode cX6_throughputEstimate 7 = .ok (.invokevirtual 179, 3) := by decide +kernel
theorem dX6_throughputEstimate_10 : decode cX6_throughputEstimate 10 = .ok (.ireturn, 1) := by decide +kernel
theorem dX6_switchCount_0 : decode cX6_switchCount 0 = .ok (.aload_n 0, 1) := by decide +kernel
theorem dX6_switchCount_1 : decode cX6_switchCount 1 = .ok (.getfield 35, 3) := by decide +kernel
theorem dX6_switchCount_4 : decode cX6_switchCount 4 = .ok (.getfield 184, 3) := by decide +kernel
theorem dX6_switchCount_7 : decode cX6_switchCount 7 = .ok (.ireturn, 1) := by decide +kernel
theorem dX6_stallCount_0 : decode cX6_stallCount 0 = .ok (.aload_n 0, 1) := by decide +kernel
theorem dX6_stallCount_1 : decode cX6_stallCount 1 = .ok (.getfield 35, 3) := by decide +kernel
theorem dX6_stallCount_4 : decode cX6_stallCount 4 = .ok (.getfield 187, 3) := by decide +kernel
theorem dX6_stallCount_7 : decode cX6_stallCount 7 = .ok (.ireturn, 1) := by decide +kernel
theorem dX6_stallTime_0 : decode cX6_stallTime 0 = .ok (.aload_n 0, 1) := by decide +kernel
theorem dX6_stallTime_1 : decode cX6_stallTime 1 = .ok (.getfield 35, 3) := by decide +kernel
theorem dX6_stallTime_4 : decode cX6_stallTime 4 = .ok (.getfield 190, 3) := by decide +kernel
theorem dX6_stallTime_7 : decode cX6_stallTime 7 = .ok (.ireturn, 1) := by decide +kernel
theorem dX6_startupTime_0 : decode cX6_startupTime 0 = .ok (.aload_n 0, 1) := by decide +kernel
theorem dX6_startupTime_1 : decode cX6_startupTime 1 = .ok (.getfield 35, 3) := by decide +kernel
theorem dX6_startupTime_4 : decode cX6_startupTime 4 = .ok (.getfield 193, 3) := by decide +kernel
theorem dX6_startupTime_7 : decode cX6_startupTime 7 = .ok (.ireturn, 1) := by decide +kernel
theorem dX6_bitrateSum_0 : decode cX6_bitrateSum 0 = .ok (.aload_n 0, 1) := by decide +kernel
theorem dX6_bitrateSum_1 : decode cX6_bitrateSum 1 = .ok (.getfield 35, 3) := by decide +kernel
theorem dX6_bitrateSum_4 : decode cX6_bitrateSum 4 = .ok (.getfield 196, 3) := by decide +kernel
theorem dX6_bitrateSum_7 : decode cX6_bitrateSum 7 = .ok (.ireturn, 1) := by decide +kernel
theorem dX6_segmentSize_0 : decode cX6_segmentSize 0 = .ok (.aload_n 0, 1) := by decide +kernel
theorem dX6_segmentSize_1 : decode cX6_segmentSize 1 = .ok (.getfield 12, 3) := by decide +kernel
theorem dX6_segmentSize_4 : decode cX6_segmentSize 4 = .ok (.iload_n 1, 1) := by decide +kernel
theorem dX6_segmentSize_5 : decode cX6_segmentSize 5 = .ok (.invokevirtual 199, 3) := by decide +kernel
theorem dX6_segmentSize_8 : decode cX6_segmentSize 8 = .ok (.ifCond .eq 14, 3) := by decide +kernel
theorem dX6_segmentSize_11 : decode cX6_segmentSize 11 = .ok (.aload_n 0, 1) := by decide +kernel
theorem dX6_segmentSize_12 : decode cX6_segmentSize 12 = .ok (.getfield 12, 3) := by decide +kernel
theorem dX6_segmentSize_15 : decode cX6_segmentSize 15 = .ok (.iload_n 2, 1) := by decide +kernel
theorem dX6_segmentSize_16 : decode cX6_segmentSize 16 = .ok (.invokevirtual 78, 3) := by decide +kernel
theorem dX6_segmentSize_19 : decode cX6_segmentSize 19 = .ok (.ifCond .ne 6, 3) := by decide +kernel
theorem dX6_segmentSize_22 : decode cX6_segmentSize 22 = .ok (.bipush (-2), 2) := by decide +kernel
theorem dX6_segmentSize_24 : decode cX6_segmentSize 24 = .ok (.ireturn, 1) := by decide +kernel
theorem dX6_segmentSize_25 : decode cX6_segmentSize 25 = .ok (.aload_n 0, 1) := by decide +kernel
theorem dX6_segmentSize_26 : decode cX6_segmentSize 26 = .ok (.getfield 12, 3) := by decide +kernel
theorem dX6_segmentSize_29 : decode cX6_segmentSize 29 = .ok (.iload_n 1, 1) := by decide +kernel
theorem dX6_segmentSize_30 : decode cX6_segmentSize 30 = .ok (.iload_n 2, 1) := by decide +kernel
theorem dX6_segmentSize_31 : decode cX6_segmentSize 31 = .ok (.invokevirtual 202, 3) := by decide +kernel
theorem dX6_segmentSize_34 : decode cX6_segmentSize 34 = .ok (.ireturn, 1) := by decide +kernel
theorem dX6_simulatedStallTime_0 : decode cX6_simulatedStallTime 0 = .ok (.aload_n 0, 1) := by decide +kernel
theorem dX6_simulatedStallTime_1 : decode cX6_simulatedStallTime 1 = .ok (.iload_n 1, 1) := by decide +kernel
theorem dX6_simulatedStallTime_2 : decode cX6_simulatedStallTime 2 = .ok (.invokevirtual 206, 3) := by decide +kernel
theorem dX6_simulatedStallTime_5 : decode cX6_simulatedStallTime 5 = .ok (.istore_n 2, 1) := by decide +kernel
theorem dX6_simulatedStallTime_6 : decode cX6_simulatedStallTime 6 = .ok (.iload_n 2, 1) := by decide +kernel
theorem dX6_simulatedStallTime_7 : decode cX6_simulatedStallTime 7 = .ok (.ifCond .eq 5, 3) := by decide +kernel
theorem dX6_simulatedStallTime_10 : decode cX6_simulatedStallTime 10 = .ok (.iload_n 2, 1) := by decide +kernel
theorem dX6_simulatedStallTime_11 : decode cX6_simulatedStallTime 11 = .ok (.ireturn, 1) := by decide +kernel
theorem dX6_simulatedStallTime_12 : decode cX6_simulatedStallTime 12 = .ok (.aload_n 0, 1) := by decide +kernel
theorem dX6_simulatedStallTime_13 : decode cX6_simulatedStallTime 13 = .ok (.getfield 39, 3) := by decide +kernel
theorem dX6_simulatedStallTime_16 : decode cX6_simulatedStallTime 16 = .ok (.iload_n 1, 1) := by decide +kernel
theorem dX6_simulatedStallTime_17 : decode cX6_simulatedStallTime 17 = .ok (.aload_n 0, 1) := by decide +kernel
theorem dX6_simulatedStallTime_18 : decode cX6_simulatedStallTime 18 = .ok (.getfield 53, 3) := by decide +kernel
theorem dX6_simulatedStallTime_21 : decode cX6_simulatedStallTime 21 = .ok (.invokevirtual 209, 3) := by decide +kernel
theorem dX6_simulatedStallTime_24 : decode cX6_simulatedStallTime 24 = .ok (.aload_n 0, 1) := by decide +kernel
theorem dX6_simulatedStallTime_25 : decode cX6_simulatedStallTime 25 = .ok (.getfield 39, 3) := by decide +kernel
theorem dX6_simulatedStallTime_28 : decode cX6_simulatedStallTime 28 = .ok (.getfield 190, 3) := by decide +kernel
theorem dX6_simulatedStallTime_31 : decode cX6_simulatedStallTime 31 = .ok (.ireturn, 1) := by decide +kernel
theorem dX6_simulatedBitrateSum_0 : decode cX6_simulatedBitrateSum 0 = .ok (.aload_n 0, 1) := by decide +kernel
theorem dX6_simulatedBitrateSum_1 : decode cX6_simulatedBitrateSum 1 = .ok (.iload_n 1, 1) := by decide +kernel
theorem dX6_simulatedBitrateSum_2 : decode cX6_simulatedBitrateSum 2 = .ok (.invokevirtual 206, 3) := by decide +kernel
theorem dX6_simulatedBitrateSum_5 : decode cX6_simulatedBitrateSum 5 = .ok (.istore_n 2, 1) := by decide +kernel
theorem dX6_simulatedBitrateSum_6 : decode cX6_simulatedBitrateSum 6 = .ok (.iload_n 2, 1) := by decide +kernel
theorem dX6_simulatedBitrateSum_7 : decode cX6_simulatedBitrateSum 7 = .ok (.ifCond .eq 5, 3) := by decide +kernel
theorem dX6_simulatedBitrateSum_10 : decode cX6_simulatedBitrateSum 10 = .ok (.iload_n 2, 1) := by decide +kernel
theorem dX6_simulatedBitrateSum_11 : decode cX6_simulatedBitrateSum 11 = .ok (.ireturn, 1) := by decide +kernel
theorem dX6_simulatedBitrateSum_12 : decode cX6_simulatedBitrateSum 12 = .ok (.aload_n 0, 1) := by decide +kernel
theorem dX6_simulatedBitrateSum_13 : decode cX6_simulatedBitrateSum 13 = .ok (.getfield 39, 3) := by decide +kernel
theorem dX6_simulatedBitrateSum_16 : decode cX6_simulatedBitrateSum 16 = .ok (.iload_n 1, 1) := by decide +kernel
theorem dX6_simulatedBitrateSum_17 : decode cX6_simulatedBitrateSum 17 = .ok (.aload_n 0, 1) := by decide +kernel
theorem dX6_simulatedBitrateSum_18 : decode cX6_simulatedBitrateSum 18 = .ok (.getfield 53, 3) := by decide +kernel
theorem dX6_simulatedBitrateSum_21 : decode cX6_simulatedBitrateSum 21 = .ok (.invokevirtual 209, 3) := by decide +kernel
theorem dX6_simulatedBitrateSum_24 : decode cX6_simulatedBitrateSum 24 = .ok (.aload_n 0, 1) := by decide +kernel
theorem dX6_simulatedBitrateSum_25 : decode cX6_simulatedBitrateSum 25 = .ok (.getfield 39, 3) := by decide +kernel
theorem dX6_simulatedBitrateSum_28 : decode cX6_simulatedBitrateSum 28 = .ok (.getfield 196, 3) := by decide +kernel
theorem dX6_simulatedBitrateSum_31 : decode cX6_simulatedBitrateSum 31 = .ok (.ireturn, 1) := by decide +kernel
theorem dX6_bestSmoothLevel_0 : decode cX6_bestSmoothLevel 0 = .ok (.aload_n 0, 1) := by decide +kernel
theorem dX6_bestSmoothLevel_1 : decode cX6_bestSmoothLevel 1 = .ok (.getfield 12, 3) := by decide +kernel
theorem dX6_bestSmoothLevel_4 : decode cX6_bestSmoothLevel 4 = .ok (.getfield 71, 3) := by decide +kernel
theorem dX6_bestSmoothLevel_7 : decode cX6_bestSmoothLevel 7 = .ok (.ifCond .ne 6, 3) := by decide +kernel
theorem dX6_bestSmoothLevel_10 : decode cX6_bestSmoothLevel 10 = .ok (.bipush (-4), 2) := by decide +kernel
theorem dX6_bestSmoothLevel_12 : decode cX6_bestSmoothLevel 12 = .ok (.ireturn, 1) := by decide +kernel
theorem dX6_bestSmoothLevel_13 : decode cX6_bestSmoothLevel 13 = .ok (.aload_n 0, 1) := by decide +kernel
theorem dX6_bestSmoothLevel_14 : decode cX6_bestSmoothLevel 14 = .ok (.getfield 12, 3) := by decide +kernel
theorem dX6_bestSmoothLevel_17 : decode cX6_bestSmoothLevel 17 = .ok (.getfield 71, 3) := by decide +kernel
theorem dX6_bestSmoothLevel_20 : decode cX6_bestSmoothLevel 20 = .ok (.iconst 1, 1) := by decide +kernel
theorem dX6_bestSmoothLevel_21 : decode cX6_bestSmoothLevel 21 = .ok (.isub, 1) := by decide +kernel
theorem dX6_bestSmoothLevel_22 : decode cX6_bestSmoothLevel 22 = .ok (.istore_n 1, 1) := by decide +kernel
theorem dX6_bestSmoothLevel_23 : decode cX6_bestSmoothLevel 23 = .ok (.iload_n 1, 1) := by decide +kernel
theorem dX6_bestSmoothLevel_24 : decode cX6_bestSmoothLevel 24 = .ok (.ifCond .lt 41, 3) := by decide +kernel
theorem dX6_bestSmoothLevel_27 : decode cX6_bestSmoothLevel 27 = .ok (.aload_n 0, 1) := by decide +kernel
theorem dX6_bestSmoothLevel_28 : decode cX6_bestSmoothLevel 28 = .ok (.getfield 39, 3) := by decide +kernel
theorem dX6_bestSmoothLevel_31 : decode cX6_bestSmoothLevel 31 = .ok (.iconst 0, 1) := by decide +kernel
theorem dX6_bestSmoothLevel_32 : decode cX6_bestSmoothLevel 32 = .ok (.iload_n 1, 1) := by decide +kernel
theorem dX6_bestSmoothLevel_33 : decode cX6_bestSmoothLevel 33 = .ok (.invokevirtual 209, 3) := by decide +kernel
theorem dX6_bestSmoothLevel_36 : decode cX6_bestSmoothLevel 36 = .ok (.aload_n 0, 1) := by decide +kernel
theorem dX6_bestSmoothLevel_37 : decode cX6_bestSmoothLevel 37 = .ok (.getfield 39, 3) := by decide +kernel
theorem dX6_bestSmoothLevel_40 : decode cX6_bestSmoothLevel 40 = .ok (.getfield 153, 3) := by decide +kernel
theorem dX6_bestSmoothLevel_43 : decode cX6_bestSmoothLevel 43 = .ok (.iconst 3, 1) := by decide +kernel
theorem dX6_bestSmoothLevel_44 : decode cX6_bestSmoothLevel 44 = .ok (.if_icmp .ne 15, 3) := by decide +kernel
theorem dX6_bestSmoothLevel_47 : decode cX6_bestSmoothLevel 47 = .ok (.aload_n 0, 1) := by decide +kernel
theorem dX6_bestSmoothLevel_48 : decode cX6_bestSmoothLevel 48 = .ok (.getfield 39, 3) := by decide +kernel
theorem dX6_bestSmoothLevel_51 : decode cX6_bestSmoothLevel 51 = .ok (.getfield 187, 3) := by decide +kernel
theorem dX6_bestSmoothLevel_54 : decode cX6_bestSmoothLevel 54 = .ok (.ifCond .ne 5, 3) := by decide +kernel
theorem dX6_bestSmoothLevel_57 : decode cX6_bestSmoothLevel 57 = .ok (.iload_n 1, 1) := by decide +kernel
theorem dX6_bestSmoothLevel_58 : decode cX6_bestSmoothLevel 58 = .ok (.ireturn, 1) := by decide +kernel
theorem dX6_bestSmoothLevel_59 : decode cX6_bestSmoothLevel 59 = .ok (.iinc 1 (-1), 3) := by decide +kernel
theorem dX6_bestSmoothLevel_62 : decode cX6_bestSmoothLevel 62 = .ok (.goto (-39), 3) := by decide +kernel
theorem dX6_bestSmoothLevel_65 : decode cX6_bestSmoothLevel 65 = .ok (.bipush (-6), 2) := by decide +kernel
theorem dX6_bestSmoothLevel_67 : decode cX6_bestSmoothLevel 67 = .ok (.ireturn, 1) := by decide +kernel
theorem dX6_simulationError_0 : decode cX6_simulationError 0 = .ok (.iload_n 1, 1) := by decide +kernel
theorem dX6_simulationError_1 : decode cX6_simulationError 1 = .ok (.iconst 0, 1) := by decide +kernel
theorem dX6_simulationError_2 : decode cX6_simulationError 2 = .ok (.iconst 3, 1) := by decide +kernel
theorem dX6_simulationError_3 : decode cX6_simulationError 3 = .ok (.invokestatic 56, 3) := by decide +kernel
theorem dX6_simulationError_6 : decode cX6_simulationError 6 = .ok (.ifCond .ne 6, 3) := by decide +kernel
theorem dX6_simulationError_9 : decode cX6_simulationError 9 = .ok (.bipush (-2), 2) := by decide +kernel
theorem dX6_simulationError_11 : decode cX6_simulationError 11 = .ok (.ireturn, 1) := by decide +kernel
theorem dX6_simulationError_12 : decode cX6_simulationError 12 = .ok (.aload_n 0, 1) := by decide +kernel
theorem dX6_simulationError_13 : decode cX6_simulationError 13 = .ok (.getfield 12, 3) := by decide +kernel
theorem dX6_simulationError_16 : decode cX6_simulationError 16 = .ok (.getfield 71, 3) := by decide +kernel
theorem dX6_simulationError_19 : decode cX6_simulationError 19 = .ok (.ifCond .ne 8, 3) := by decide +kernel
theorem dX6_simulationError_22 : decode cX6_simulationError 22 = .ok (.bipush (-4), 2) := by decide +kernel
theorem dX6_simulationError_24 : decode cX6_simulationError 24 = .ok (.goto 4, 3) := by decide +kernel
theorem dX6_simulationError_27 : decode cX6_simulationError 27 = .ok (.iconst 0, 1) := by decide +kernel
theorem dX6_simulationError_28 : decode cX6_simulationError 28 = .ok (.ireturn, 1) := by decide +kernel
theorem dX6_runWord_0 : decode cX6_runWord 0 = .ok (.aload_n 1, 1) := by decide +kernel
theorem dX6_runWord_1 : decode cX6_runWord 1 = .ok (.ldc 212, 2) := by decide +kernel
theorem dX6_runWord_3 : decode cX6_runWord 3 = .ok (.invokevirtual 214, 3) := by decide +kernel
theorem dX6_runWord_6 : decode cX6_runWord 6 = .ok (.ifCond .eq 9, 3) := by decide +kernel
theorem dX6_runWord_9 : decode cX6_runWord 9 = .ok (.aload_n 0, 1) := by decide +kernel
theorem dX6_runWord_10 : decode cX6_runWord 10 = .ok (.iconst 1, 1) := by decide +kernel
theorem dX6_runWord_11 : decode cX6_runWord 11 = .ok (.invokevirtual 218, 3) := by decide +kernel
theorem dX6_runWord_14 : decode cX6_runWord 14 = .ok (.ireturn, 1) := by decide +kernel
theorem dX6_runWord_15 : decode cX6_runWord 15 = .ok (.aload_n 1, 1) := by decide +kernel
theorem dX6_runWord_16 : decode cX6_runWord 16 = .ok (.ldc 221, 2) := by decide +kernel
theorem dX6_runWord_18 : decode cX6_runWord 18 = .ok (.invokevirtual 214, 3) := by decide +kernel
theorem dX6_runWord_21 : decode cX6_runWord 21 = .ok (.ifCond .eq 9, 3) := by decide +kernel
theorem dX6_runWord_24 : decode cX6_runWord 24 = .ok (.aload_n 0, 1) := by decide +kernel
theorem dX6_runWord_25 : decode cX6_runWord 25 = .ok (.iconst 0, 1) := by decide +kernel
theorem dX6_runWord_26 : decode cX6_runWord 26 = .ok (.invokevirtual 218, 3) := by decide +kernel
theorem dX6_runWord_29 : decode cX6_runWord 29 = .ok (.ireturn, 1) := by decide +kernel
theorem dX6_runWord_30 : decode cX6_runWord 30 = .ok (.bipush (-5), 2) := by decide +kernel
theorem dX6_runWord_32 : decode cX6_runWord 32 = .ok (.ireturn, 1) := by decide +kernel
theorem dX6_runWordWithArgument_0 : decode cX6_runWordWithArgument 0 = .ok (.aload_n 1, 1) := by decide +kernel
theorem dX6_runWordWithArgument_1 : decode cX6_runWordWithArgument 1 = .ok (.ldc 223, 2) := by decide +kernel
theorem dX6_runWordWithArgument_3 : decode cX6_runWordWithArgument 3 = .ok (.invokevirtual 214, 3) := by decide +kernel
theorem dX6_runWordWithArgument_6 : decode cX6_runWordWithArgument 6 = .ok (.ifCond .eq 12, 3) := by decide +kernel
end
section
theorem dX6_runWordWithArgument_9 : decode cX6_runWordWithArgument 9 = .ok (.aload_n 0, 1) := by decide +kernel
theorem dX6_runWordWithArgument_10 : decode cX6_runWordWithArgument 10 = .ok (.aload_n 2, 1) := by decide +kernel
theorem dX6_runWordWithArgument_11 : decode cX6_runWordWithArgument 11 = .ok (.invokestatic 224, 3) := by decide +kernel
theorem dX6_runWordWithArgument_14 : decode cX6_runWordWithArgument 14 = .ok (.invokevirtual 227, 3) := by decide +kernel
theorem dX6_runWordWithArgument_17 : decode cX6_runWordWithArgument 17 = .ok (.ireturn, 1) := by decide +kernel
theorem dX6_runWordWithArgument_18 : decode cX6_runWordWithArgument 18 = .ok (.aload_n 1, 1) := by decide +kernel
theorem dX6_runWordWithArgument_19 : decode cX6_runWordWithArgument 19 = .ok (.ldc 230, 2) := by decide +kernel
theorem dX6_runWordWithArgument_21 : decode cX6_runWordWithArgument 21 = .ok (.invokevirtual 214, 3) := by decide +kernel
theorem dX6_runWordWithArgument_24 : decode cX6_runWordWithArgument 24 = .ok (.ifCond .eq 12, 3) := by decide +kernel
theorem dX6_runWordWithArgument_27 : decode cX6_runWordWithArgument 27 = .ok (.aload_n 0, 1) := by decide +kernel
theorem dX6_runWordWithArgument_28 : decode cX6_runWordWithArgument 28 = .ok (.aload_n 2, 1) := by decide +kernel
theorem dX6_runWordWithArgument_29 : decode cX6_runWordWithArgument 29 = .ok (.invokestatic 231, 3) := by decide +kernel
theorem dX6_runWordWithArgument_32 : decode cX6_runWordWithArgument 32 = .ok (.invokevirtual 234, 3) := by decide +kernel
theorem dX6_runWordWithArgument_35 : decode cX6_runWordWithArgument 35 = .ok (.ireturn, 1) := by decide +kernel
theorem dX6_runWordWithArgument_36 : decode cX6_runWordWithArgument 36 = .ok (.aload_n 1, 1) := by decide +kernel
theorem dX6_runWordWithArgument_37 : decode cX6_runWordWithArgument 37 = .ok (.ldc 237, 2) := by decide +kernel
theorem dX6_runWordWithArgument_39 : decode cX6_runWordWithArgument 39 = .ok (.invokevirtual 214, 3) := by decide +kernel
theorem dX6_runWordWithArgument_42 : decode cX6_runWordWithArgument 42 = .ok (.ifCond .eq 12, 3) := by decide +kernel
theorem dX6_runWordWithArgument_45 : decode cX6_runWordWithArgument 45 = .ok (.aload_n 0, 1) := by decide +kernel
theorem dX6_runWordWithArgument_46 : decode cX6_runWordWithArgument 46 = .ok (.aload_n 2, 1) := by decide +kernel
theorem dX6_runWordWithArgument_47 : decode cX6_runWordWithArgument 47 = .ok (.invokestatic 231, 3) := by decide +kernel
theorem dX6_runWordWithArgument_50 : decode cX6_runWordWithArgument 50 = .ok (.invokevirtual 239, 3) := by decide +kernel
theorem dX6_runWordWithArgument_53 : decode cX6_runWordWithArgument 53 = .ok (.ireturn, 1) := by decide +kernel
theorem dX6_runWordWithArgument_54 : decode cX6_runWordWithArgument 54 = .ok (.bipush (-5), 2) := by decide +kernel
theorem dX6_runWordWithArgument_56 : decode cX6_runWordWithArgument 56 = .ok (.ireturn, 1) := by decide +kernel
theorem dX6_changePause_0 : decode cX6_changePause 0 = .ok (.aload_n 0, 1) := by decide +kernel
theorem dX6_changePause_1 : decode cX6_changePause 1 = .ok (.getfield 35, 3) := by decide +kernel
theorem dX6_changePause_4 : decode cX6_changePause 4 = .ok (.getfield 156, 3) := by decide +kernel
theorem dX6_changePause_7 : decode cX6_changePause 7 = .ok (.iload_n 1, 1) := by decide +kernel
theorem dX6_changePause_8 : decode cX6_changePause 8 = .ok (.if_icmp .eq 7, 3) := by decide +kernel
theorem dX6_changePause_11 : decode cX6_changePause 11 = .ok (.iconst 1, 1) := by decide +kernel
theorem dX6_changePause_12 : decode cX6_changePause 12 = .ok (.goto 4, 3) := by decide +kernel
theorem dX6_changePause_15 : decode cX6_changePause 15 = .ok (.iconst 0, 1) := by decide +kernel
theorem dX6_changePause_16 : decode cX6_changePause 16 = .ok (.istore_n 2, 1) := by decide +kernel
theorem dX6_changePause_17 : decode cX6_changePause 17 = .ok (.aload_n 0, 1) := by decide +kernel
theorem dX6_changePause_18 : decode cX6_changePause 18 = .ok (.getfield 35, 3) := by decide +kernel
theorem dX6_changePause_21 : decode cX6_changePause 21 = .ok (.iload_n 1, 1) := by decide +kernel
theorem dX6_changePause_22 : decode cX6_changePause 22 = .ok (.putfield 156, 3) := by decide +kernel
theorem dX6_changePause_25 : decode cX6_changePause 25 = .ok (.iload_n 2, 1) := by decide +kernel
theorem dX6_changePause_26 : decode cX6_changePause 26 = .ok (.invokestatic 100, 3) := by decide +kernel
theorem dX6_changePause_29 : decode cX6_changePause 29 = .ok (.ireturn, 1) := by decide +kernel
theorem dX6_changePolicy_0 : decode cX6_changePolicy 0 = .ok (.iload_n 1, 1) := by decide +kernel
theorem dX6_changePolicy_1 : decode cX6_changePolicy 1 = .ok (.bipush (-6), 2) := by decide +kernel
theorem dX6_changePolicy_3 : decode cX6_changePolicy 3 = .ok (.if_icmp .ne 6, 3) := by decide +kernel
theorem dX6_changePolicy_6 : decode cX6_changePolicy 6 = .ok (.bipush (-5), 2) := by decide +kernel
theorem dX6_changePolicy_8 : decode cX6_changePolicy 8 = .ok (.ireturn, 1) := by decide +kernel
theorem dX6_changePolicy_9 : decode cX6_changePolicy 9 = .ok (.aload_n 0, 1) := by decide +kernel
theorem dX6_changePolicy_10 : decode cX6_changePolicy 10 = .ok (.getfield 49, 3) := by decide +kernel
theorem dX6_changePolicy_13 : decode cX6_changePolicy 13 = .ok (.iload_n 1, 1) := by decide +kernel
theorem dX6_changePolicy_14 : decode cX6_changePolicy 14 = .ok (.if_icmp .eq 7, 3) := by decide +kernel
theorem dX6_changePolicy_17 : decode cX6_changePolicy 17 = .ok (.iconst 1, 1) := by decide +kernel
theorem dX6_changePolicy_18 : decode cX6_changePolicy 18 = .ok (.goto 4, 3) := by decide +kernel
theorem dX6_changePolicy_21 : decode cX6_changePolicy 21 = .ok (.iconst 0, 1) := by decide +kernel
theorem dX6_changePolicy_22 : decode cX6_changePolicy 22 = .ok (.istore_n 2, 1) := by decide +kernel
theorem dX6_changePolicy_23 : decode cX6_changePolicy 23 = .ok (.aload_n 0, 1) := by decide +kernel
theorem dX6_changePolicy_24 : decode cX6_changePolicy 24 = .ok (.iload_n 1, 1) := by decide +kernel
theorem dX6_changePolicy_25 : decode cX6_changePolicy 25 = .ok (.putfield 49, 3) := by decide +kernel
theorem dX6_changePolicy_28 : decode cX6_changePolicy 28 = .ok (.iload_n 2, 1) := by decide +kernel
theorem dX6_changePolicy_29 : decode cX6_changePolicy 29 = .ok (.invokestatic 100, 3) := by decide +kernel
theorem dX6_changePolicy_32 : decode cX6_changePolicy 32 = .ok (.ireturn, 1) := by decide +kernel
theorem dX6_changeCap_0 : decode cX6_changeCap 0 = .ok (.iload_n 1, 1) := by decide +kernel
theorem dX6_changeCap_1 : decode cX6_changeCap 1 = .ok (.bipush (-6), 2) := by decide +kernel
theorem dX6_changeCap_3 : decode cX6_changeCap 3 = .ok (.if_icmp .ne 6, 3) := by decide +kernel
theorem dX6_changeCap_6 : decode cX6_changeCap 6 = .ok (.bipush (-5), 2) := by decide +kernel
theorem dX6_changeCap_8 : decode cX6_changeCap 8 = .ok (.ireturn, 1) := by decide +kernel
theorem dX6_changeCap_9 : decode cX6_changeCap 9 = .ok (.iload_n 1, 1) := by decide +kernel
theorem dX6_changeCap_10 : decode cX6_changeCap 10 = .ok (.iconst 4, 1) := by decide +kernel
theorem dX6_changeCap_11 : decode cX6_changeCap 11 = .ok (.if_icmp .le 6, 3) := by decide +kernel
theorem dX6_changeCap_14 : decode cX6_changeCap 14 = .ok (.bipush (-2), 2) := by decide +kernel
theorem dX6_changeCap_16 : decode cX6_changeCap 16 = .ok (.ireturn, 1) := by decide +kernel
theorem dX6_changeCap_17 : decode cX6_changeCap 17 = .ok (.aload_n 0, 1) := by decide +kernel
theorem dX6_changeCap_18 : decode cX6_changeCap 18 = .ok (.getfield 53, 3) := by decide +kernel
theorem dX6_changeCap_21 : decode cX6_changeCap 21 = .ok (.iload_n 1, 1) := by decide +kernel
theorem dX6_changeCap_22 : decode cX6_changeCap 22 = .ok (.if_icmp .eq 7, 3) := by decide +kernel
theorem dX6_changeCap_25 : decode cX6_changeCap 25 = .ok (.iconst 1, 1) := by decide +kernel
theorem dX6_changeCap_26 : decode cX6_changeCap 26 = .ok (.goto 4, 3) := by decide +kernel
theorem dX6_changeCap_29 : decode cX6_changeCap 29 = .ok (.iconst 0, 1) := by decide +kernel
theorem dX6_changeCap_30 : decode cX6_changeCap 30 = .ok (.istore_n 2, 1) := by decide +kernel
theorem dX6_changeCap_31 : decode cX6_changeCap 31 = .ok (.aload_n 0, 1) := by decide +kernel
theorem dX6_changeCap_32 : decode cX6_changeCap 32 = .ok (.iload_n 1, 1) := by decide +kernel
theorem dX6_changeCap_33 : decode cX6_changeCap 33 = .ok (.putfield 53, 3) := by decide +kernel
theorem dX6_changeCap_36 : decode cX6_changeCap 36 = .ok (.iload_n 2, 1) := by decide +kernel
theorem dX6_changeCap_37 : decode cX6_changeCap 37 = .ok (.invokestatic 100, 3) := by decide +kernel
theorem dX6_changeCap_40 : decode cX6_changeCap 40 = .ok (.ireturn, 1) := by decide +kernel
theorem dX6_seek_0 : decode cX6_seek 0 = .ok (.iload_n 1, 1) := by decide +kernel
theorem dX6_seek_1 : decode cX6_seek 1 = .ok (.bipush (-6), 2) := by decide +kernel
theorem dX6_seek_3 : decode cX6_seek 3 = .ok (.if_icmp .ne 6, 3) := by decide +kernel
theorem dX6_seek_6 : decode cX6_seek 6 = .ok (.bipush (-5), 2) := by decide +kernel
theorem dX6_seek_8 : decode cX6_seek 8 = .ok (.ireturn, 1) := by decide +kernel
theorem dX6_seek_9 : decode cX6_seek 9 = .ok (.aload_n 0, 1) := by decide +kernel
theorem dX6_seek_10 : decode cX6_seek 10 = .ok (.getfield 12, 3) := by decide +kernel
theorem dX6_seek_13 : decode cX6_seek 13 = .ok (.iload_n 1, 1) := by decide +kernel
theorem dX6_seek_14 : decode cX6_seek 14 = .ok (.invokevirtual 78, 3) := by decide +kernel
theorem dX6_seek_17 : decode cX6_seek 17 = .ok (.ifCond .ne 6, 3) := by decide +kernel
theorem dX6_seek_20 : decode cX6_seek 20 = .ok (.bipush (-2), 2) := by decide +kernel
theorem dX6_seek_22 : decode cX6_seek 22 = .ok (.ireturn, 1) := by decide +kernel
theorem dX6_seek_23 : decode cX6_seek 23 = .ok (.aload_n 0, 1) := by decide +kernel
theorem dX6_seek_24 : decode cX6_seek 24 = .ok (.getfield 35, 3) := by decide +kernel
theorem dX6_seek_27 : decode cX6_seek 27 = .ok (.iload_n 1, 1) := by decide +kernel
theorem dX6_seek_28 : decode cX6_seek 28 = .ok (.invokevirtual 241, 3) := by decide +kernel
theorem dX6_seek_31 : decode cX6_seek 31 = .ok (.iconst 1, 1) := by decide +kernel
theorem dX6_seek_32 : decode cX6_seek 32 = .ok (.ireturn, 1) := by decide +kernel
theorem dX6_policyNamed_0 : decode cX6_policyNamed 0 = .ok (.aload_n 0, 1) := by decide +kernel
theorem dX6_policyNamed_1 : decode cX6_policyNamed 1 = .ok (.ldc 244, 2) := by decide +kernel
theorem dX6_policyNamed_3 : decode cX6_policyNamed 3 = .ok (.invokevirtual 214, 3) := by decide +kernel
theorem dX6_policyNamed_6 : decode cX6_policyNamed 6 = .ok (.ifCond .eq 5, 3) := by decide +kernel
theorem dX6_policyNamed_9 : decode cX6_policyNamed 9 = .ok (.iconst 0, 1) := by decide +kernel
theorem dX6_policyNamed_10 : decode cX6_policyNamed 10 = .ok (.ireturn, 1) := by decide +kernel
theorem dX6_policyNamed_11 : decode cX6_policyNamed 11 = .ok (.aload_n 0, 1) := by decide +kernel
theorem dX6_policyNamed_12 : decode cX6_policyNamed 12 = .ok (.ldc 246, 2) := by decide +kernel
theorem dX6_policyNamed_14 : decode cX6_policyNamed 14 = .ok (.invokevirtual 214, 3) := by decide +kernel
theorem dX6_policyNamed_17 : decode cX6_policyNamed 17 = .ok (.ifCond .eq 5, 3) := by decide +kernel
theorem dX6_policyNamed_20 : decode cX6_policyNamed 20 = .ok (.iconst 1, 1) := by decide +kernel
theorem dX6_policyNamed_21 : decode cX6_policyNamed 21 = .ok (.ireturn, 1) := by decide +kernel
theorem dX6_policyNamed_22 : decode cX6_policyNamed 22 = .ok (.aload_n 0, 1) := by decide +kernel
theorem dX6_policyNamed_23 : decode cX6_policyNamed 23 = .ok (.ldc 248, 2) := by decide +kernel
theorem dX6_policyNamed_25 : decode cX6_policyNamed 25 = .ok (.invokevirtual 214, 3) := by decide +kernel
theorem dX6_policyNamed_28 : decode cX6_policyNamed 28 = .ok (.ifCond .eq 5, 3) := by decide +kernel
theorem dX6_policyNamed_31 : decode cX6_policyNamed 31 = .ok (.iconst 2, 1) := by decide +kernel
theorem dX6_policyNamed_32 : decode cX6_policyNamed 32 = .ok (.ireturn, 1) := by decide +kernel
theorem dX6_policyNamed_33 : decode cX6_policyNamed 33 = .ok (.aload_n 0, 1) := by decide +kernel
theorem dX6_policyNamed_34 : decode cX6_policyNamed 34 = .ok (.ldc 249, 2) := by decide +kernel
theorem dX6_policyNamed_36 : decode cX6_policyNamed 36 = .ok (.invokevirtual 214, 3) := by decide +kernel
theorem dX6_policyNamed_39 : decode cX6_policyNamed 39 = .ok (.ifCond .eq 7, 3) := by decide +kernel
theorem dX6_policyNamed_42 : decode cX6_policyNamed 42 = .ok (.iconst 3, 1) := by decide +kernel
theorem dX6_policyNamed_43 : decode cX6_policyNamed 43 = .ok (.goto 5, 3) := by decide +kernel
theorem dX6_policyNamed_46 : decode cX6_policyNamed 46 = .ok (.bipush (-6), 2) := by decide +kernel
theorem dX6_policyNamed_48 : decode cX6_policyNamed 48 = .ok (.ireturn, 1) := by decide +kernel
theorem dX6_numberIn_0 : decode cX6_numberIn 0 = .ok (.aload_n 0, 1) := by decide +kernel
theorem dX6_numberIn_1 : decode cX6_numberIn 1 = .ok (.invokevirtual 251, 3) := by decide +kernel
theorem dX6_numberIn_4 : decode cX6_numberIn 4 = .ok (.iconst 1, 1) := by decide +kernel
theorem dX6_numberIn_5 : decode cX6_numberIn 5 = .ok (.iconst 2, 1) := by decide +kernel
theorem dX6_numberIn_6 : decode cX6_numberIn 6 = .ok (.invokestatic 56, 3) := by decide +kernel
theorem dX6_numberIn_9 : decode cX6_numberIn 9 = .ok (.ifCond .ne 6, 3) := by decide +kernel
theorem dX6_numberIn_12 : decode cX6_numberIn 12 = .ok (.bipush (-6), 2) := by decide +kernel
theorem dX6_numberIn_14 : decode cX6_numberIn 14 = .ok (.ireturn, 1) := by decide +kernel
theorem dX6_numberIn_15 : decode cX6_numberIn 15 = .ok (.iconst 0, 1) := by decide +kernel
theorem dX6_numberIn_16 : decode cX6_numberIn 16 = .ok (.istore_n 1, 1) := by decide +kernel
theorem dX6_numberIn_17 : decode cX6_numberIn 17 = .ok (.iconst 0, 1) := by decide +kernel
theorem dX6_numberIn_18 : decode cX6_numberIn 18 = .ok (.istore_n 2, 1) := by decide +kernel
theorem dX6_numberIn_19 : decode cX6_numberIn 19 = .ok (.iload_n 2, 1) := by decide +kernel
theorem dX6_numberIn_20 : decode cX6_numberIn 20 = .ok (.aload_n 0, 1) := by decide +kernel
theorem dX6_numberIn_21 : decode cX6_numberIn 21 = .ok (.invokevirtual 251, 3) := by decide +kernel
theorem dX6_numberIn_24 : decode cX6_numberIn 24 = .ok (.if_icmp .ge 40, 3) := by decide +kernel
theorem dX6_numberIn_27 : decode cX6_numberIn 27 = .ok (.aload_n 0, 1) := by decide +kernel
theorem dX6_numberIn_28 : decode cX6_numberIn 28 = .ok (.iload_n 2, 1) := by decide +kernel
theorem dX6_numberIn_29 : decode cX6_numberIn 29 = .ok (.invokevirtual 252, 3) := by decide +kernel
theorem dX6_numberIn_32 : decode cX6_numberIn 32 = .ok (.istore_n 3, 1) := by decide +kernel
theorem dX6_numberIn_33 : decode cX6_numberIn 33 = .ok (.iload_n 3, 1) := by decide +kernel
theorem dX6_numberIn_34 : decode cX6_numberIn 34 = .ok (.bipush 48, 2) := by decide +kernel
theorem dX6_numberIn_36 : decode cX6_numberIn 36 = .ok (.if_icmp .lt 9, 3) := by decide +kernel
theorem dX6_numberIn_39 : decode cX6_numberIn 39 = .ok (.iload_n 3, 1) := by decide +kernel
theorem dX6_numberIn_40 : decode cX6_numberIn 40 = .ok (.bipush 57, 2) := by decide +kernel
theorem dX6_numberIn_42 : decode cX6_numberIn 42 = .ok (.if_icmp .le 6, 3) := by decide +kernel
theorem dX6_numberIn_45 : decode cX6_numberIn 45 = .ok (.bipush (-6), 2) := by decide +kernel
theorem dX6_numberIn_47 : decode cX6_numberIn 47 = .ok (.ireturn, 1) := by decide +kernel
theorem dX6_numberIn_48 : decode cX6_numberIn 48 = .ok (.iload_n 1, 1) := by decide +kernel
theorem dX6_numberIn_49 : decode cX6_numberIn 49 = .ok (.bipush 10, 2) := by decide +kernel
theorem dX6_numberIn_51 : decode cX6_numberIn 51 = .ok (.imul, 1) := by decide +kernel
theorem dX6_numberIn_52 : decode cX6_numberIn 52 = .ok (.iload_n 3, 1) := by decide +kernel
theorem dX6_numberIn_53 : decode cX6_numberIn 53 = .ok (.bipush 48, 2) := by decide +kernel
theorem dX6_numberIn_55 : decode cX6_numberIn 55 = .ok (.isub, 1) := by decide +kernel
theorem dX6_numberIn_56 : decode cX6_numberIn 56 = .ok (.iadd, 1) := by decide +kernel
theorem dX6_numberIn_57 : decode cX6_numberIn 57 = .ok (.istore_n 1, 1) := by decide +kernel
theorem dX6_numberIn_58 : decode cX6_numberIn 58 = .ok (.iinc 2 1, 3) := by decide +kernel
theorem dX6_numberIn_61 : decode cX6_numberIn 61 = .ok (.goto (-42), 3) := by decide +kernel
theorem dX6_numberIn_64 : decode cX6_numberIn 64 = .ok (.iload_n 1, 1) := by decide +kernel
theorem dX6_numberIn_65 : decode cX6_numberIn 65 = .ok (.ireturn, 1) := by decide +kernel
theorem dX6_isWithin_0 : decode cX6_isWithin 0 = .ok (.iload_n 0, 1) := by decide +kernel
theorem dX6_isWithin_1 : decode cX6_isWithin 1 = .ok (.iload_n 1, 1) := by decide +kernel
theorem dX6_isWithin_2 : decode cX6_isWithin 2 = .ok (.if_icmp .lt 12, 3) := by decide +kernel
theorem dX6_isWithin_5 : decode cX6_isWithin 5 = .ok (.iload_n 0, 1) := by decide +kernel
theorem dX6_isWithin_6 : decode cX6_isWithin 6 = .ok (.iload_n 2, 1) := by decide +kernel
theorem dX6_isWithin_7 : decode cX6_isWithin 7 = .ok (.if_icmp .gt 7, 3) := by decide +kernel
theorem dX6_isWithin_10 : decode cX6_isWithin 10 = .ok (.iconst 1, 1) := by decide +kernel
theorem dX6_isWithin_11 : decode cX6_isWithin 11 = .ok (.goto 4, 3) := by decide +kernel
theorem dX6_isWithin_14 : decode cX6_isWithin 14 = .ok (.iconst 0, 1) := by decide +kernel
theorem dX6_isWithin_15 : decode cX6_isWithin 15 = .ok (.ireturn, 1) := by decide +kernel
theorem dX6_oneIf_0 : decode cX6_oneIf 0 = .ok (.iload_n 0, 1) := by decide +kernel
theorem dX6_oneIf_1 : decode cX6_oneIf 1 = .ok (.ifCond .eq 7, 3) := by decide +kernel
theorem dX6_oneIf_4 : decode cX6_oneIf 4 = .ok (.iconst 1, 1) := by decide +kernel
theorem dX6_oneIf_5 : decode cX6_oneIf 5 = .ok (.goto 4, 3) := by decide +kernel
theorem dX6_oneIf_8 : decode cX6_oneIf 8 = .ok (.iconst 0, 1) := by decide +kernel
theorem dX6_oneIf_9 : decode cX6_oneIf 9 = .ok (.ireturn, 1) := by decide +kernel
theorem dX7_init_0 : decode cX7_init 0 = .ok (.aload_n 0, 1) := by decide +kernel
theorem dX7_init_1 : decode cX7_init 1 = .ok (.invokespecial 1, 3) := by decide +kernel
theorem dX7_init_4 : decode cX7_init 4 = .ok (.aload_n 0, 1) := by decide +kernel
theorem dX7_init_5 : decode cX7_init 5 = .ok (.bipush 10, 2) := by decide +kernel
theorem dX7_init_7 : decode cX7_init 7 = .ok (.putfield 7, 3) := by decide +kernel
theorem dX7_init_10 : decode cX7_init 10 = .ok (.aload_n 0, 1) := by decide +kernel
theorem dX7_init_11 : decode cX7_init 11 = .ok (.sipush 2000, 3) := by decide +kernel
theorem dX7_init_14 : decode cX7_init 14 = .ok (.putfield 13, 3) := by decide +kernel
theorem dX7_init_17 : decode cX7_init 17 = .ok (.aload_n 0, 1) := by decide +kernel
theorem dX7_init_18 : decode cX7_init 18 = .ok (.bipush 30, 2) := by decide +kernel
theorem dX7_init_20 : decode cX7_init 20 = .ok (.newarray .int, 2) := by decide +kernel
theorem dX7_init_22 : decode cX7_init 22 = .ok (.putfield 16, 3) := by decide +kernel
theorem dX7_init_25 : decode cX7_init 25 = .ok (.aload_n 0, 1) := by decide +kernel
theorem dX7_init_26 : decode cX7_init 26 = .ok (.iconst 5, 1) := by decide +kernel
theorem dX7_init_27 : decode cX7_init 27 = .ok (.newarray .int, 2) := by decide +kernel
theorem dX7_init_29 : decode cX7_init 29 = .ok (.putfield 20, 3) := by decide +kernel
theorem dX7_init_32 : decode cX7_init 32 = .ok (.aload_n 0, 1) := by decide +kernel
theorem dX7_init_33 : decode cX7_init 33 = .ok (.bipush 12, 2) := by decide +kernel
theorem dX7_init_35 : decode cX7_init 35 = .ok (.newarray .int, 2) := by decide +kernel
theorem dX7_init_37 : decode cX7_init 37 = .ok (.putfield 23, 3) := by decide +kernel
theorem dX7_init_40 : decode cX7_init 40 = .ok (.aload_n 0, 1) := by decide +kernel
theorem dX7_init_41 : decode cX7_init 41 = .ok (.bipush 12, 2) := by decide +kernel
theorem dX7_init_43 : decode cX7_init 43 = .ok (.newarray .int, 2) := by decide +kernel
theorem dX7_init_45 : decode cX7_init 45 = .ok (.putfield 26, 3) := by decide +kernel
theorem dX7_init_48 : decode cX7_init 48 = .ok (.aload_n 0, 1) := by decide +kernel
theorem dX7_init_49 : decode cX7_init 49 = .ok (.sipush 20000, 3) := by decide +kernel
theorem dX7_init_52 : decode cX7_init 52 = .ok (.putfield 29, 3) := by decide +kernel
theorem dX7_init_55 : decode cX7_init 55 = .ok (.aload_n 0, 1) := by decide +kernel
theorem dX7_init_56 : decode cX7_init 56 = .ok (.sipush 2000, 3) := by decide +kernel
theorem dX7_init_59 : decode cX7_init 59 = .ok (.putfield 32, 3) := by decide +kernel
theorem dX7_init_62 : decode cX7_init 62 = .ok (.aload_n 0, 1) := by decide +kernel
theorem dX7_init_63 : decode cX7_init 63 = .ok (.bipush 80, 2) := by decide +kernel
theorem dX7_init_65 : decode cX7_init 65 = .ok (.putfield 35, 3) := by decide +kernel
theorem dX7_init_68 : decode cX7_init 68 = .ok (.aload_n 0, 1) := by decide +kernel
theorem dX7_init_69 : decode cX7_init 69 = .ok (.sipush 4000, 3) := by decide +kernel
theorem dX7_init_72 : decode cX7_init 72 = .ok (.putfield 38, 3) := by decide +kernel
theorem dX7_init_75 : decode cX7_init 75 = .ok (.aload_n 0, 1) := by decide +kernel
theorem dX7_init_76 : decode cX7_init 76 = .ok (.sipush 8000, 3) := by decide +kernel
theorem dX7_init_79 : decode cX7_init 79 = .ok (.putfield 41, 3) := by decide +kernel
theorem dX7_init_82 : decode cX7_init 82 = .ok (.aload_n 0, 1) := by decide +kernel
theorem dX7_init_83 : decode cX7_init 83 = .ok (.iconst 4, 1) := by decide +kernel
theorem dX7_init_84 : decode cX7_init 84 = .ok (.putfield 44, 3) := by decide +kernel
theorem dX7_init_87 : decode cX7_init 87 = .ok (.aload_n 0, 1) := by decide +kernel
theorem dX7_init_88 : decode cX7_init 88 = .ok (.bipush 52, 2) := by decide +kernel
theorem dX7_init_90 : decode cX7_init 90 = .ok (.newarray .int, 2) := by decide +kernel
theorem dX7_init_92 : decode cX7_init 92 = .ok (.putfield 47, 3) := by decide +kernel
theorem dX7_init_95 : decode cX7_init 95 = .ok (.aload_n 0, 1) := by decide +kernel
theorem dX7_init_96 : decode cX7_init 96 = .ok (.bipush 52, 2) := by decide +kernel
theorem dX7_init_98 : decode cX7_init 98 = .ok (.newarray .int, 2) := by decide +kernel
theorem dX7_init_100 : decode cX7_init 100 = .ok (.putfield 50, 3) := by decide +kernel
theorem dX7_init_103 : decode cX7_init 103 = .ok (.aload_n 0, 1) := by decide +kernel
theorem dX7_init_104 : decode cX7_init 104 = .ok (.bipush 16, 2) := by decide +kernel
theorem dX7_init_106 : decode cX7_init 106 = .ok (.newarray .int, 2) := by decide +kernel
theorem dX7_init_108 : decode cX7_init 108 = .ok (.putfield 53, 3) := by decide +kernel
theorem dX7_init_111 : decode cX7_init 111 = .ok (.iconst 0, 1) := by decide +kernel
theorem dX7_init_112 : decode cX7_init 112 = .ok (.istore_n 1, 1) := by decide +kernel
theorem dX7_init_113 : decode cX7_init 113 = .ok (.iload_n 1, 1) := by decide +kernel
theorem dX7_init_114 : decode cX7_init 114 = .ok (.bipush 30, 2) := by decide +kernel
theorem dX7_init_116 : decode cX7_init 116 = .ok (.if_icmp .ge 17, 3) := by decide +kernel
theorem dX7_init_119 : decode cX7_init 119 = .ok (.aload_n 0, 1) := by decide +kernel
theorem dX7_init_120 : decode cX7_init 120 = .ok (.getfield 16, 3) := by decide +kernel
theorem dX7_init_123 : decode cX7_init 123 = .ok (.iload_n 1, 1) := by decide +kernel
theorem dX7_init_124 : decode cX7_init 124 = .ok (.bipush 100, 2) := by decide +kernel
theorem dX7_init_126 : decode cX7_init 126 = .ok (.iastore, 1) := by decide +kernel
theorem dX7_init_127 : decode cX7_init 127 = .ok (.iinc 1 1, 3) := by decide +kernel
theorem dX7_init_130 : decode cX7_init 130 = .ok (.goto (-17), 3) := by decide +kernel
theorem dX7_init_133 : decode cX7_init 133 = .ok (.aload_n 0, 1) := by decide +kernel
theorem dX7_init_134 : decode cX7_init 134 = .ok (.invokevirtual 56, 3) := by decide +kernel
theorem dX7_init_137 : decode cX7_init 137 = .ok (.return_, 1) := by decide +kernel
theorem dX7_within_0 : decode cX7_within 0 = .ok (.iload_n 0, 1) := by decide +kernel
theorem dX7_within_1 : decode cX7_within 1 = .ok (.iload_n 1, 1) := by decide +kernel
theorem dX7_within_2 : decode cX7_within 2 = .ok (.if_icmp .lt 12, 3) := by decide +kernel
theorem dX7_within_5 : decode cX7_within 5 = .ok (.iload_n 0, 1) := by decide +kernel
theorem dX7_within_6 : decode cX7_within 6 = .ok (.iload_n 2, 1) := by decide +kernel
theorem dX7_within_7 : decode cX7_within 7 = .ok (.if_icmp .gt 7, 3) := by decide +kernel
theorem dX7_within_10 : decode cX7_within 10 = .ok (.iconst 1, 1) := by decide +kernel
theorem dX7_within_11 : decode cX7_within 11 = .ok (.goto 4, 3) := by decide +kernel
theorem dX7_within_14 : decode cX7_within 14 = .ok (.iconst 0, 1) := by decide +kernel
theorem dX7_within_15 : decode cX7_within 15 = .ok (.ireturn, 1) := by decide +kernel
theorem dX7_begins_0 : decode cX7_begins 0 = .ok (.iconst 0, 1) := by decide +kernel
theorem dX7_begins_1 : decode cX7_begins 1 = .ok (.istore_n 1, 1) := by decide +kernel
theorem dX7_begins_2 : decode cX7_begins 2 = .ok (.iload_n 1, 1) := by decide +kernel
theorem dX7_begins_3 : decode cX7_begins 3 = .ok (.bipush 52, 2) := by decide +kernel
theorem dX7_begins_5 : decode cX7_begins 5 = .ok (.if_icmp .ge 16, 3) := by decide +kernel
theorem dX7_begins_8 : decode cX7_begins 8 = .ok (.aload_n 0, 1) := by decide +kernel
theorem dX7_begins_9 : decode cX7_begins 9 = .ok (.getfield 47, 3) := by decide +kernel
theorem dX7_begins_12 : decode cX7_begins 12 = .ok (.iload_n 1, 1) := by decide +kernel
theorem dX7_begins_13 : decode cX7_begins 13 = .ok (.iconst 0, 1) := by decide +kernel
theorem dX7_begins_14 : decode cX7_begins 14 = .ok (.iastore, 1) := by decide +kernel
theorem dX7_begins_15 : decode cX7_begins 15 = .ok (.iinc 1 1, 3) := by decide +kernel
theorem dX7_begins_18 : decode cX7_begins 18 = .ok (.goto (-16), 3) := by decide +kernel
theorem dX7_begins_21 : decode cX7_begins 21 = .ok (.aload_n 0, 1) := by decide +kernel
theorem dX7_begins_22 : decode cX7_begins 22 = .ok (.getfield 47, 3) := by decide +kernel
theorem dX7_begins_25 : decode cX7_begins 25 = .ok (.bipush 15, 2) := by decide +kernel
theorem dX7_begins_27 : decode cX7_begins 27 = .ok (.bipush (-6), 2) := by decide +kernel
theorem dX7_begins_29 : decode cX7_begins 29 = .ok (.iastore, 1) := by decide +kernel
theorem dX7_begins_30 : decode cX7_begins 30 = .ok (.iconst 0, 1) := by decide +kernel
theorem dX7_begins_31 : decode cX7_begins 31 = .ok (.istore_n 1, 1) := by decide +kernel
theorem dX7_begins_32 : decode cX7_begins 32 = .ok (.iload_n 1, 1) := by decide +kernel
theorem dX7_begins_33 : decode cX7_begins 33 = .ok (.bipush 30, 2) := by decide +kernel
theorem dX7_begins_35 : decode cX7_begins 35 = .ok (.if_icmp .ge 20, 3) := by decide +kernel
theorem dX7_begins_38 : decode cX7_begins 38 = .ok (.aload_n 0, 1) := by decide +kernel
theorem dX7_begins_39 : decode cX7_begins 39 = .ok (.getfield 47, 3) := by decide +kernel
theorem dX7_begins_42 : decode cX7_begins 42 = .ok (.bipush 22, 2) := by decide +kernel
theorem dX7_begins_44 : decode cX7_begins 44 = .ok (.iload_n 1, 1) := by decide +kernel
theorem dX7_begins_45 : decode cX7_begins 45 = .ok (.iadd, 1) := by decide +kernel
theorem dX7_begins_46 : decode cX7_begins 46 = .ok (.bipush (-6), 2) := by decide +kernel
theorem dX7_begins_48 : decode cX7_begins 48 = .ok (.iastore, 1) := by decide +kernel
theorem dX7_begins_49 : decode cX7_begins 49 = .ok (.iinc 1 1, 3) := by decide +kernel
theorem dX7_begins_52 : decode cX7_begins 52 = .ok (.goto (-20), 3) := by decide +kernel
theorem dX7_begins_55 : decode cX7_begins 55 = .ok (.return_, 1) := by decide +kernel
theorem dX7_setVideo_0 : decode cX7_setVideo 0 = .ok (.iload_n 1, 1) := by decide +kernel
theorem dX7_setVideo_1 : decode cX7_setVideo 1 = .ok (.iconst 1, 1) := by decide +kernel
theorem dX7_setVideo_2 : decode cX7_setVideo 2 = .ok (.bipush 30, 2) := by decide +kernel
theorem dX7_setVideo_4 : decode cX7_setVideo 4 = .ok (.invokestatic 59, 3) := by decide +kernel
theorem dX7_setVideo_7 : decode cX7_setVideo 7 = .ok (.ifCond .eq 15, 3) := by decide +kernel
theorem dX7_setVideo_10 : decode cX7_setVideo 10 = .ok (.iload_n 2, 1) := by decide +kernel
theorem dX7_setVideo_11 : decode cX7_setVideo 11 = .ok (.bipush 100, 2) := by decide +kernel
theorem dX7_setVideo_13 : decode cX7_setVideo 13 = .ok (.sipush 5000, 3) := by decide +kernel
theorem dX7_setVideo_16 : decode cX7_setVideo 16 = .ok (.invokestatic 59, 3) := by decide +kernel
theorem dX7_setVideo_19 : decode cX7_setVideo 19 = .ok (.ifCond .ne 5, 3) := by decide +kernel
theorem dX7_setVideo_22 : decode cX7_setVideo 22 = .ok (.iconst (-1), 1) := by decide +kernel
theorem dX7_setVideo_23 : decode cX7_setVideo 23 = .ok (.ireturn, 1) := by decide +kernel
theorem dX7_setVideo_24 : decode cX7_setVideo 24 = .ok (.aload_n 0, 1) := by decide +kernel
theorem dX7_setVideo_25 : decode cX7_setVideo 25 = .ok (.iload_n 1, 1) := by decide +kernel
theorem dX7_setVideo_26 : decode cX7_setVideo 26 = .ok (.putfield 7, 3) := by decide +kernel
theorem dX7_setVideo_29 : decode cX7_setVideo 29 = .ok (.aload_n 0, 1) := by decide +kernel
theorem dX7_setVideo_30 : decode cX7_setVideo 30 = .ok (.iload_n 2, 1) := by decide +kernel
theorem dX7_setVideo_31 : decode cX7_setVideo 31 = .ok (.putfield 13, 3) := by decide +kernel
theorem dX7_setVideo_34 : decode cX7_setVideo 34 = .ok (.aload_n 0, 1) := by decide +kernel
theorem dX7_setVideo_35 : decode cX7_setVideo 35 = .ok (.iconst 0, 1) := by decide +kernel
theorem dX7_setVideo_36 : decode cX7_setVideo 36 = .ok (.putfield 63, 3) := by decide +kernel
theorem dX7_setVideo_39 : decode cX7_setVideo 39 = .ok (.iconst 0, 1) := by decide +kernel
theorem dX7_setVideo_40 : decode cX7_setVideo 40 = .ok (.istore_n 3, 1) := by decide +kernel
theorem dX7_setVideo_41 : decode cX7_setVideo 41 = .ok (.iload_n 3, 1) := by decide +kernel
theorem dX7_setVideo_42 : decode cX7_setVideo 42 = .ok (.bipush 30, 2) := by decide +kernel
theorem dX7_setVideo_44 : decode cX7_setVideo 44 = .ok (.if_icmp .ge 17, 3) := by decide +kernel
theorem dX7_setVideo_47 : decode cX7_setVideo 47 = .ok (.aload_n 0, 1) := by decide +kernel
theorem dX7_setVideo_48 : decode cX7_setVideo 48 = .ok (.getfield 16, 3) := by decide +kernel
theorem dX7_setVideo_51 : decode cX7_setVideo 51 = .ok (.iload_n 3, 1) := by decide +kernel
theorem dX7_setVideo_52 : decode cX7_setVideo 52 = .ok (.bipush 100, 2) := by decide +kernel
theorem dX7_setVideo_54 : decode cX7_setVideo 54 = .ok (.iastore, 1) := by decide +kernel
theorem dX7_setVideo_55 : decode cX7_setVideo 55 = .ok (.iinc 3 1, 3) := by decide +kernel
theorem dX7_setVideo_58 : decode cX7_setVideo 58 = .ok (.goto (-17), 3) := by decide +kernel
theorem dX7_setVideo_61 : decode cX7_setVideo 61 = .ok (.aload_n 0, 1) := by decide +kernel
theorem dX7_setVideo_62 : decode cX7_setVideo 62 = .ok (.invokevirtual 56, 3) := by decide +kernel
theorem dX7_setVideo_65 : decode cX7_setVideo 65 = .ok (.aload_n 0, 1) := by decide +kernel
theorem dX7_setVideo_66 : decode cX7_setVideo 66 = .ok (.getfield 7, 3) := by decide +kernel
theorem dX7_setVideo_69 : decode cX7_setVideo 69 = .ok (.aload_n 0, 1) := by decide +kernel
theorem dX7_setVideo_70 : decode cX7_setVideo 70 = .ok (.getfield 13, 3) := by decide +kernel
theorem dX7_setVideo_73 : decode cX7_setVideo 73 = .ok (.imul, 1) := by decide +kernel
theorem dX7_setVideo_74 : decode cX7_setVideo 74 = .ok (.ireturn, 1) := by decide +kernel
theorem dX7_addLevel_0 : decode cX7_addLevel 0 = .ok (.iload_n 1, 1) := by decide +kernel
theorem dX7_addLevel_1 : decode cX7_addLevel 1 = .ok (.aload_n 0, 1) := by decide +kernel
theorem dX7_addLevel_2 : decode cX7_addLevel 2 = .ok (.getfield 63, 3) := by decide +kernel
theorem dX7_addLevel_5 : decode cX7_addLevel 5 = .ok (.ifCond .ne 7, 3) := by decide +kernel
theorem dX7_addLevel_8 : decode cX7_addLevel 8 = .ok (.iconst 1, 1) := by decide +kernel
theorem dX7_addLevel_9 : decode cX7_addLevel 9 = .ok (.goto 16, 3) := by decide +kernel
theorem dX7_addLevel_12 : decode cX7_addLevel 12 = .ok (.aload_n 0, 1) := by decide +kernel
theorem dX7_addLevel_13 : decode cX7_addLevel 13 = .ok (.getfield 20, 3) := by decide +kernel
theorem dX7_addLevel_16 : decode cX7_addLevel 16 = .ok (.aload_n 0, 1) := by decide +kernel
theorem dX7_addLevel_17 : decode cX7_addLevel 17 = .ok (.getfield 63, 3) := by decide +kernel
theorem dX7_addLevel_20 : decode cX7_addLevel 20 = .ok (.iconst 1, 1) := by decide +kernel
theorem dX7_addLevel_21 : decode cX7_addLevel 21 = .ok (.isub, 1) := by decide +kernel
theorem dX7_addLevel_22 : decode cX7_addLevel 22 = .ok (.iaload, 1) := by decide +kernel
theorem dX7_addLevel_23 : decode cX7_addLevel 23 = .ok (.iconst 1, 1) := by decide +kernel
theorem dX7_addLevel_24 : decode cX7_addLevel 24 = .ok (.iadd, 1) := by decide +kernel
theorem dX7_addLevel_25 : decode cX7_addLevel 25 = .ok (.sipush 9000, 3) := by decide +kernel
theorem dX7_addLevel_28 : decode cX7_addLevel 28 = .ok (.invokestatic 59, 3) := by decide +kernel
theorem dX7_addLevel_31 : decode cX7_addLevel 31 = .ok (.ifCond .ne 5, 3) := by decide +kernel
theorem dX7_addLevel_34 : decode cX7_addLevel 34 = .ok (.iconst (-1), 1) := by decide +kernel
theorem dX7_addLevel_35 : decode cX7_addLevel 35 = .ok (.ireturn, 1) := by decide +kernel
theorem dX7_addLevel_36 : decode cX7_addLevel 36 = .ok (.aload_n 0, 1) := by decide +kernel
theorem dX7_addLevel_37 : decode cX7_addLevel 37 = .ok (.getfield 63, 3) := by decide +kernel
theorem dX7_addLevel_40 : decode cX7_addLevel 40 = .ok (.iconst 5, 1) := by decide +kernel
theorem dX7_addLevel_41 : decode cX7_addLevel 41 = .ok (.if_icmp .ne 6, 3) := by decide +kernel
theorem dX7_addLevel_44 : decode cX7_addLevel 44 = .ok (.bipush (-3), 2) := by decide +kernel
theorem dX7_addLevel_46 : decode cX7_addLevel 46 = .ok (.ireturn, 1) := by decide +kernel
theorem dX7_addLevel_47 : decode cX7_addLevel 47 = .ok (.aload_n 0, 1) := by decide +kernel
theorem dX7_addLevel_48 : decode cX7_addLevel 48 = .ok (.getfield 20, 3) := by decide +kernel
theorem dX7_addLevel_51 : decode cX7_addLevel 51 = .ok (.aload_n 0, 1) := by decide +kernel
theorem dX7_addLevel_52 : decode cX7_addLevel 52 = .ok (.getfield 63, 3) := by decide +kernel
theorem dX7_addLevel_55 : decode cX7_addLevel 55 = .ok (.iload_n 1, 1) := by decide +kernel
theorem dX7_addLevel_56 : decode cX7_addLevel 56 = .ok (.iastore, 1) := by decide +kernel
theorem dX7_addLevel_57 : decode cX7_addLevel 57 = .ok (.aload_n 0, 1) := by decide +kernel
theorem dX7_addLevel_58 : decode cX7_addLevel 58 = .ok (.dup, 1) := by decide +kernel
theorem dX7_addLevel_59 : decode cX7_addLevel 59 = .ok (.getfield 63, 3) := by decide +kernel
theorem dX7_addLevel_62 : decode cX7_addLevel 62 = .ok (.iconst 1, 1) := by decide +kernel
theorem dX7_addLevel_63 : decode cX7_addLevel 63 = .ok (.iadd, 1) := by decide +kernel
theorem dX7_addLevel_64 : decode cX7_addLevel 64 = .ok (.putfield 63, 3) := by decide +kernel
theorem dX7_addLevel_67 : decode cX7_addLevel 67 = .ok (.aload_n 0, 1) := by decide +kernel
theorem dX7_addLevel_68 : decode cX7_addLevel 68 = .ok (.invokevirtual 56, 3) := by decide +kernel
theorem dX7_addLevel_71 : decode cX7_addLevel 71 = .ok (.aload_n 0, 1) := by decide +kernel
theorem dX7_addLevel_72 : decode cX7_addLevel 72 = .ok (.getfield 63, 3) := by decide +kernel
theorem dX7_addLevel_75 : decode cX7_addLevel 75 = .ok (.iconst 1, 1) := by decide +kernel
theorem dX7_addLevel_76 : decode cX7_addLevel 76 = .ok (.isub, 1) := by decide +kernel
theorem dX7_addLevel_77 : decode cX7_addLevel 77 = .ok (.ireturn, 1) := by decide +kernel
theorem dX7_setVariation_0 : decode cX7_setVariation 0 = .ok (.iload_n 1, 1) := by decide +kernel
theorem dX7_setVariation_1 : decode cX7_setVariation 1 = .ok (.iconst 0, 1) := by decide +kernel
theorem dX7_setVariation_2 : decode cX7_setVariation 2 = .ok (.aload_n 0, 1) := by decide +kernel
theorem dX7_setVariation_3 : decode cX7_setVariation 3 = .ok (.getfield 7, 3) := by decide +kernel
theorem dX7_setVariation_6 : decode cX7_setVariation 6 = .ok (.iconst 1, 1) := by decide +kernel
theorem dX7_setVariation_7 : decode cX7_setVariation 7 = .ok (.isub, 1) := by decide +kernel
theorem dX7_setVariation_8 : decode cX7_setVariation 8 = .ok (.invokestatic 59, 3) := by decide +kernel
theorem dX7_setVariation_11 : decode cX7_setVariation 11 = .ok (.ifCond .ne 6, 3) := by decide +kernel
theorem dX7_setVariation_14 : decode cX7_setVariation 14 = .ok (.bipush (-2), 2) := by decide +kernel
theorem dX7_setVariation_16 : decode cX7_setVariation 16 = .ok (.ireturn, 1) := by decide +kernel
theorem dX7_setVariation_17 : decode cX7_setVariation 17 = .ok (.iload_n 2, 1) := by decide +kernel
theorem dX7_setVariation_18 : decode cX7_setVariation 18 = .ok (.iconst 0, 1) := by decide +kernel
theorem dX7_setVariation_19 : decode cX7_setVariation 19 = .ok (.sipush 300, 3) := by decide +kernel
theorem dX7_setVariation_22 : decode cX7_setVariation 22 = .ok (.invokestatic 59, 3) := by decide +kernel
theorem dX7_setVariation_25 : decode cX7_setVariation 25 = .ok (.ifCond .ne 5, 3) := by decide +kernel
theorem dX7_setVariation_28 : decode cX7_setVariation 28 = .ok (.iconst (-1), 1) := by decide +kernel
theorem dX7_setVariation_29 : decode cX7_setVariation 29 = .ok (.ireturn, 1) := by decide +kernel
theorem dX7_setVariation_30 : decode cX7_setVariation 30 = .ok (.aload_n 0, 1) := by decide +kernel
theorem dX7_setVariation_31 : decode cX7_setVariation 31 = .ok (.getfield 16, 3) := by decide +kernel
theorem dX7_setVariation_34 : decode cX7_setVariation 34 = .ok (.iload_n 1, 1) := by decide +kernel
theorem dX7_setVariation_35 : decode cX7_setVariation 35 = .ok (.iaload, 1) := by decide +kernel
theorem dX7_setVariation_36 : decode cX7_setVariation 36 = .ok (.istore_n 3, 1) := by decide +kernel
theorem dX7_setVariation_37 : decode cX7_setVariation 37 = .ok (.aload_n 0, 1) := by decide +kernel
theorem dX7_setVariation_38 : decode cX7_setVariation 38 = .ok (.getfield 16, 3) := by decide +kernel
theorem dX7_setVariation_41 : decode cX7_setVariation 41 = .ok (.iload_n 1, 1) := by decide +kernel
theorem dX7_setVariation_42 : decode cX7_setVariation 42 = .ok (.iload_n 2, 1) := by decide +kernel
theorem dX7_setVariation_43 : decode cX7_setVariation 43 = .ok (.iastore, 1) := by decide +kernel
theorem dX7_setVariation_44 : decode cX7_setVariation 44 = .ok (.iload_n 3, 1) := by decide +kernel
theorem dX7_setVariation_45 : decode cX7_setVariation 45 = .ok (.ireturn, 1) := by decide +kernel
theorem dX7_addPeriod_0 : decode cX7_addPeriod 0 = .ok (.iload_n 1, 1) := by decide +kernel
theorem dX7_addPeriod_1 : decode cX7_addPeriod 1 = .ok (.iconst 1, 1) := by decide +kernel
theorem dX7_addPeriod_2 : decode cX7_addPeriod 2 = .ok (.ldc 66, 2) := by decide +kernel
theorem dX7_addPeriod_4 : decode cX7_addPeriod 4 = .ok (.invokestatic 59, 3) := by decide +kernel
theorem dX7_addPeriod_7 : decode cX7_addPeriod 7 = .ok (.ifCond .eq 14, 3) := by decide +kernel
theorem dX7_addPeriod_10 : decode cX7_addPeriod 10 = .ok (.iload_n 2, 1) := by decide +kernel
theorem dX7_addPeriod_11 : decode cX7_addPeriod 11 = .ok (.iconst 0, 1) := by decide +kernel
theorem dX7_addPeriod_12 : decode cX7_addPeriod 12 = .ok (.sipush 9000, 3) := by decide +kernel
theorem dX7_addPeriod_15 : decode cX7_addPeriod 15 = .ok (.invokestatic 59, 3) := by decide +kernel
theorem dX7_addPeriod_18 : decode cX7_addPeriod 18 = .ok (.ifCond .ne 5, 3) := by decide +kernel
theorem dX7_addPeriod_21 : decode cX7_addPeriod 21 = .ok (.iconst (-1), 1) := by decide +kernel
theorem dX7_addPeriod_22 : decode cX7_addPeriod 22 = .ok (.ireturn, 1) := by decide +kernel
theorem dX7_addPeriod_23 : decode cX7_addPeriod 23 = .ok (.aload_n 0, 1) := by decide +kernel
theorem dX7_addPeriod_24 : decode cX7_addPeriod 24 = .ok (.getfield 67, 3) := by decide +kernel
theorem dX7_addPeriod_27 : decode cX7_addPeriod 27 = .ok (.bipush 12, 2) := by decide +kernel
theorem dX7_addPeriod_29 : decode cX7_addPeriod 29 = .ok (.if_icmp .ne 6, 3) := by decide +kernel
theorem dX7_addPeriod_32 : decode cX7_addPeriod 32 = .ok (.bipush (-3), 2) := by decide +kernel
theorem dX7_addPeriod_34 : decode cX7_addPeriod 34 = .ok (.ireturn, 1) := by decide +kernel
theorem dX7_addPeriod_35 : decode cX7_addPeriod 35 = .ok (.aload_n 0, 1) := by decide +kernel
theorem dX7_addPeriod_36 : decode cX7_addPeriod 36 = .ok (.getfield 23, 3) := by decide +kernel
theorem dX7_addPeriod_39 : decode cX7_addPeriod 39 = .ok (.aload_n 0, 1) := by decide +kernel
theorem dX7_addPeriod_40 : decode cX7_addPeriod 40 = .ok (.getfield 67, 3) := by decide +kernel
theorem dX7_addPeriod_43 : decode cX7_addPeriod 43 = .ok (.iload_n 1, 1) := by decide +kernel
theorem dX7_addPeriod_44 : decode cX7_addPeriod 44 = .ok (.aload_n 0, 1) := by decide +kernel
theorem dX7_addPeriod_45 : decode cX7_addPeriod 45 = .ok (.getfield 67, 3) := by decide +kernel
theorem dX7_addPeriod_48 : decode cX7_addPeriod 48 = .ok (.ifCond .ne 7, 3) := by decide +kernel
theorem dX7_addPeriod_51 : decode cX7_addPeriod 51 = .ok (.iconst 0, 1) := by decide +kernel
theorem dX7_addPeriod_52 : decode cX7_addPeriod 52 = .ok (.goto 14, 3) := by decide +kernel
theorem dX7_addPeriod_55 : decode cX7_addPeriod 55 = .ok (.aload_n 0, 1) := by decide +kernel
theorem dX7_addPeriod_56 : decode cX7_addPeriod 56 = .ok (.getfield 23, 3) := by decide +kernel
theorem dX7_addPeriod_59 : decode cX7_addPeriod 59 = .ok (.aload_n 0, 1) := by decide +kernel
theorem dX7_addPeriod_60 : decode cX7_addPeriod 60 = .ok (.getfield 67, 3) := by decide +kernel
theorem dX7_addPeriod_63 : decode cX7_addPeriod 63 = .ok (.iconst 1, 1) := by decide +kernel
theorem dX7_addPeriod_64 : decode cX7_addPeriod 64 = .ok (.isub, 1) := by decide +kernel
theorem dX7_addPeriod_65 : decode cX7_addPeriod 65 = .ok (.iaload, 1) := by decide +kernel
theorem dX7_addPeriod_66 : decode cX7_addPeriod 66 = .ok (.iadd, 1) := by decide +kernel
theorem dX7_addPeriod_67 : decode cX7_addPeriod 67 = .ok (.iastore, 1) := by decide +kernel
theorem dX7_addPeriod_68 : decode cX7_addPeriod 68 = .ok (.aload_n 0, 1) := by decide +kernel
theorem dX7_addPeriod_69 : decode cX7_addPeriod 69 = .ok (.getfield 26, 3) := by decide +kernel
theorem dX7_addPeriod_72 : decode cX7_addPeriod 72 = .ok (.aload_n 0, 1) := by decide +kernel
theorem dX7_addPeriod_73 : decode cX7_addPeriod 73 = .ok (.getfield 67, 3) := by decide +kernel
theorem dX7_addPeriod_76 : decode cX7_addPeriod 76 = .ok (.iload_n 2, 1) := by decide +kernel
theorem dX7_addPeriod_77 : decode cX7_addPeriod 77 = .ok (.iastore, 1) := by decide +kernel
theorem dX7_addPeriod_78 : decode cX7_addPeriod 78 = .ok (.aload_n 0, 1) := by decide +kernel
theorem dX7_addPeriod_79 : decode cX7_addPeriod 79 = .ok (.dup, 1) := by decide +kernel
theorem dX7_addPeriod_80 : decode cX7_addPeriod 80 = .ok (.getfield 67, 3) := by decide +kernel
theorem dX7_addPeriod_83 : decode cX7_addPeriod 83 = .ok (.iconst 1, 1) := by decide +kernel
theorem dX7_addPeriod_84 : decode cX7_addPeriod 84 = .ok (.iadd, 1) := by decide +kernel
theorem dX7_addPeriod_85 : decode cX7_addPeriod 85 = .ok (.putfield 67, 3) := by decide +kernel
theorem dX7_addPeriod_88 : decode cX7_addPeriod 88 = .ok (.aload_n 0, 1) := by decide +kernel
theorem dX7_addPeriod_89 : decode cX7_addPeriod 89 = .ok (.getfield 67, 3) := by decide +kernel
theorem dX7_addPeriod_92 : decode cX7_addPeriod 92 = .ok (.ireturn, 1) := by decide +kernel
theorem dX7_setBuffer_0 : decode cX7_setBuffer 0 = .ok (.iload_n 1, 1) := by decide +kernel
theorem dX7_setBuffer_1 : decode cX7_setBuffer 1 = .ok (.bipush 100, 2) := by decide +kernel
theorem dX7_setBuffer_3 : decode cX7_setBuffer 3 = .ok (.ldc 66, 2) := by decide +kernel
theorem dX7_setBuffer_5 : decode cX7_setBuffer 5 = .ok (.invokestatic 59, 3) := by decide +kernel
theorem dX7_setBuffer_8 : decode cX7_setBuffer 8 = .ok (.ifCond .eq 12, 3) := by decide +kernel
theorem dX7_setBuffer_11 : decode cX7_setBuffer 11 = .ok (.iload_n 2, 1) := by decide +kernel
theorem dX7_setBuffer_12 : decode cX7_setBuffer 12 = .ok (.iconst 1, 1) := by decide +kernel
theorem dX7_setBuffer_13 : decode cX7_setBuffer 13 = .ok (.iload_n 1, 1) := by decide +kernel
theorem dX7_setBuffer_14 : decode cX7_setBuffer 14 = .ok (.invokestatic 59, 3) := by decide +kernel
theorem dX7_setBuffer_17 : decode cX7_setBuffer 17 = .ok (.ifCond .ne 5, 3) := by decide +kernel
theorem dX7_setBuffer_20 : decode cX7_setBuffer 20 = .ok (.iconst (-1), 1) := by decide +kernel
theorem dX7_setBuffer_21 : decode cX7_setBuffer 21 = .ok (.ireturn, 1) := by decide +kernel
theorem dX7_setBuffer_22 : decode cX7_setBuffer 22 = .ok (.aload_n 0, 1) := by decide +kernel
theorem dX7_setBuffer_23 : decode cX7_setBuffer 23 = .ok (.getfield 29, 3) := by decide +kernel
theorem dX7_setBuffer_26 : decode cX7_setBuffer 26 = .ok (.iload_n 1, 1) := by decide +kernel
theorem dX7_setBuffer_27 : decode cX7_setBuffer 27 = .ok (.if_icmp .ne 15, 3) := by decide +kernel
theorem dX7_setBuffer_30 : decode cX7_setBuffer 30 = .ok (.aload_n 0, 1) := by decide +kernel
theorem dX7_setBuffer_31 : decode cX7_setBuffer 31 = .ok (.getfield 32, 3) := by decide +kernel
theorem dX7_setBuffer_34 : decode cX7_setBuffer 34 = .ok (.iload_n 2, 1) := by decide +kernel
theorem dX7_setBuffer_35 : decode cX7_setBuffer 35 = .ok (.if_icmp .ne 7, 3) := by decide +kernel
theorem dX7_setBuffer_38 : decode cX7_setBuffer 38 = .ok (.iconst 1, 1) := by decide +kernel
theorem dX7_setBuffer_39 : decode cX7_setBuffer 39 = .ok (.goto 4, 3) := by decide +kernel
theorem dX7_setBuffer_42 : decode cX7_setBuffer 42 = .ok (.iconst 0, 1) := by decide +kernel
theorem dX7_setBuffer_43 : decode cX7_setBuffer 43 = .ok (.istore_n 3, 1) := by decide +kernel
theorem dX7_setBuffer_44 : decode cX7_setBuffer 44 = .ok (.aload_n 0, 1) := by decide +kernel
theorem dX7_setBuffer_45 : decode cX7_setBuffer 45 = .ok (.iload_n 1, 1) := by decide +kernel
theorem dX7_setBuffer_46 : decode cX7_setBuffer 46 = .ok (.putfield 29, 3) := by decide +kernel
theorem dX7_setBuffer_49 : decode cX7_setBuffer 49 = .ok (.aload_n 0, 1) := by decide +kernel
theorem dX7_setBuffer_50 : decode cX7_setBuffer 50 = .ok (.iload_n 2, 1) := by decide +kernel
theorem dX7_setBuffer_51 : decode cX7_setBuffer 51 = .ok (.putfield 32, 3) := by decide +kernel
theorem dX7_setBuffer_54 : decode cX7_setBuffer 54 = .ok (.iload_n 3, 1) := by decide +kernel
theorem dX7_setBuffer_55 : decode cX7_setBuffer 55 = .ok (.ifCond .eq 7, 3) := by decide +kernel
theorem dX7_setBuffer_58 : decode cX7_setBuffer 58 = .ok (.iconst 0, 1) := by decide +kernel
theorem dX7_setBuffer_59 : decode cX7_setBuffer 59 = .ok (.goto 4, 3) := by decide +kernel
theorem dX7_setBuffer_62 : decode cX7_setBuffer 62 = .ok (.iconst 1, 1) := by decide +kernel
theorem dX7_setBuffer_63 : decode cX7_setBuffer 63 = .ok (.ireturn, 1) := by decide +kernel
theorem dX7_setPolicyNumbers_0 : decode cX7_setPolicyNumbers 0 = .ok (.iload_n 1, 1) := by decide +kernel
theorem dX7_setPolicyNumbers_1 : decode cX7_setPolicyNumbers 1 = .ok (.iconst 1, 1) := by decide +kernel
theorem dX7_setPolicyNumbers_2 : decode cX7_setPolicyNumbers 2 = .ok (.sipush 200, 3) := by decide +kernel
theorem dX7_setPolicyNumbers_5 : decode cX7_setPolicyNumbers 5 = .ok (.invokestatic 59, 3) := by decide +kernel
theorem dX7_setPolicyNumbers_8 : decode cX7_setPolicyNumbers 8 = .ok (.ifCond .eq 23, 3) := by decide +kernel
theorem dX7_setPolicyNumbers_11 : decode cX7_setPolicyNumbers 11 = .ok (.iload_n 2, 1) := by decide +kernel
theorem dX7_setPolicyNumbers_12 : decode cX7_setPolicyNumbers 12 = .ok (.iconst 0, 1) := by decide +kernel
theorem dX7_setPolicyNumbers_13 : decode cX7_setPolicyNumbers 13 = .ok (.ldc 66, 2) := by decide +kernel
theorem dX7_setPolicyNumbers_15 : decode cX7_setPolicyNumbers 15 = .ok (.invokestatic 59, 3) := by decide +kernel
theorem dX7_setPolicyNumbers_18 : decode cX7_setPolicyNumbers 18 = .ok (.ifCond .eq 13, 3) := by decide +kernel
theorem dX7_setPolicyNumbers_21 : decode cX7_setPolicyNumbers 21 = .ok (.iload_n 3, 1) := by decide +kernel
theorem dX7_setPolicyNumbers_22 : decode cX7_setPolicyNumbers 22 = .ok (.iconst 1, 1) := by decide +kernel
theorem dX7_setPolicyNumbers_23 : decode cX7_setPolicyNumbers 23 = .ok (.ldc 66, 2) := by decide +kernel
theorem dX7_setPolicyNumbers_25 : decode cX7_setPolicyNumbers 25 = .ok (.invokestatic 59, 3) := by decide +kernel
theorem dX7_setPolicyNumbers_28 : decode cX7_setPolicyNumbers 28 = .ok (.ifCond .ne 5, 3) := by decide +kernel
theorem dX7_setPolicyNumbers_31 : decode cX7_setPolicyNumbers 31 = .ok (.iconst (-1), 1) := by decide +kernel
theorem dX7_setPolicyNumbers_32 : decode cX7_setPolicyNumbers 32 = .ok (.ireturn, 1) := by decide +kernel
theorem dX7_setPolicyNumbers_33 : decode cX7_setPolicyNumbers 33 = .ok (.aload_n 0, 1) := by decide +kernel
theorem dX7_setPolicyNumbers_34 : decode cX7_setPolicyNumbers 34 = .ok (.getfield 35, 3) := by decide +kernel
theorem dX7_setPolicyNumbers_37 : decode cX7_setPolicyNumbers 37 = .ok (.iload_n 1, 1) := by decide +kernel
theorem dX7_setPolicyNumbers_38 : decode cX7_setPolicyNumbers 38 = .ok (.if_icmp .ne 23, 3) := by decide +kernel
theorem dX7_setPolicyNumbers_41 : decode cX7_setPolicyNumbers 41 = .ok (.aload_n 0, 1) := by decide +kernel
theorem dX7_setPolicyNumbers_42 : decode cX7_setPolicyNumbers 42 = .ok (.getfield 38, 3) := by decide +kernel
theorem dX7_setPolicyNumbers_45 : decode cX7_setPolicyNumbers 45 = .ok (.iload_n 2, 1) := by decide +kernel
theorem dX7_setPolicyNumbers_46 : decode cX7_setPolicyNumbers 46 = .ok (.if_icmp .ne 15, 3) := by decide +kernel
theorem dX7_setPolicyNumbers_49 : decode cX7_setPolicyNumbers 49 = .ok (.aload_n 0, 1) := by decide +kernel
theorem dX7_setPolicyNumbers_50 : decode cX7_setPolicyNumbers 50 = .ok (.getfield 41, 3) := by decide +kernel
theorem dX7_setPolicyNumbers_53 : decode cX7_setPolicyNumbers 53 = .ok (.iload_n 3, 1) := by decide +kernel
theorem dX7_setPolicyNumbers_54 : decode cX7_setPolicyNumbers 54 = .ok (.if_icmp .ne 7, 3) := by decide +kernel
theorem dX7_setPolicyNumbers_57 : decode cX7_setPolicyNumbers 57 = .ok (.iconst 1, 1) := by decide +kernel
theorem dX7_setPolicyNumbers_58 : decode cX7_setPolicyNumbers 58 = .ok (.goto 4, 3) := by decide +kernel
theorem dX7_setPolicyNumbers_61 : decode cX7_setPolicyNumbers 61 = .ok (.iconst 0, 1) := by decide +kernel
theorem dX7_setPolicyNumbers_62 : decode cX7_setPolicyNumbers 62 = .ok (.istore 4, 2) := by decide +kernel
theorem dX7_setPolicyNumbers_64 : decode cX7_setPolicyNumbers 64 = .ok (.aload_n 0, 1) := by decide +kernel
theorem dX7_setPolicyNumbers_65 : decode cX7_setPolicyNumbers 65 = .ok (.iload_n 1, 1) := by decide +kernel
theorem dX7_setPolicyNumbers_66 : decode cX7_setPolicyNumbers 66 = .ok (.putfield 35, 3) := by decide +kernel
theorem dX7_setPolicyNumbers_69 : decode cX7_setPolicyNumbers 69 = .ok (.aload_n 0, 1) := by decide +kernel
theorem dX7_setPolicyNumbers_70 : decode cX7_setPolicyNumbers 70 = .ok (.iload_n 2, 1) := by decide +kernel
theorem dX7_setPolicyNumbers_71 : decode cX7_setPolicyNumbers 71 = .ok (.putfield 38, 3) := by decide +kernel
theorem dX7_setPolicyNumbers_74 : decode cX7_setPolicyNumbers 74 = .ok (.aload_n 0, 1) := by decide +kernel
theorem dX7_setPolicyNumbers_75 : decode cX7_setPolicyNumbers 75 = .ok (.iload_n 3, 1) := by decide +kernel
theorem dX7_setPolicyNumbers_76 : decode cX7_setPolicyNumbers 76 = .ok (.putfield 41, 3) := by decide +kernel
theorem dX7_setPolicyNumbers_79 : decode cX7_setPolicyNumbers 79 = .ok (.iload 4, 2) := by decide +kernel
theorem dX7_setPolicyNumbers_81 : decode cX7_setPolicyNumbers 81 = .ok (.ifCond .eq 7, 3) := by decide +kernel
theorem dX7_setPolicyNumbers_84 : decode cX7_setPolicyNumbers 84 = .ok (.iconst 0, 1) := by decide +kernel
theorem dX7_setPolicyNumbers_85 : decode cX7_setPolicyNumbers 85 = .ok (.goto 4, 3) := by decide +kernel
theorem dX7_setPolicyNumbers_88 : decode cX7_setPolicyNumbers 88 = .ok (.iconst 1, 1) := by decide +kernel
theorem dX7_setPolicyNumbers_89 : decode cX7_setPolicyNumbers 89 = .ok (.ireturn, 1) := by decide +kernel
theorem dX7_typeKey_0 : decode cX7_typeKey 0 = .ok (.iload_n 1, 1) := by decide +kernel
theorem dX7_typeKey_1 : decode cX7_typeKey 1 = .ok (.bipush 32, 2) := by decide +kernel
theorem dX7_typeKey_3 : decode cX7_typeKey 3 = .ok (.bipush 126, 2) := by decide +kernel
theorem dX7_typeKey_5 : decode cX7_typeKey 5 = .ok (.invokestatic 59, 3) := by decide +kernel
theorem dX7_typeKey_8 : decode cX7_typeKey 8 = .ok (.ifCond .ne 5, 3) := by decide +kernel
theorem dX7_typeKey_11 : decode cX7_typeKey 11 = .ok (.iconst (-1), 1) := by decide +kernel
theorem dX7_typeKey_12 : decode cX7_typeKey 12 = .ok (.ireturn, 1) := by decide +kernel
theorem dX7_typeKey_13 : decode cX7_typeKey 13 = .ok (.aload_n 0, 1) := by decide +kernel
theorem dX7_typeKey_14 : decode cX7_typeKey 14 = .ok (.getfield 70, 3) := by decide +kernel
theorem dX7_typeKey_17 : decode cX7_typeKey 17 = .ok (.bipush 16, 2) := by decide +kernel
theorem dX7_typeKey_19 : decode cX7_typeKey 19 = .ok (.if_icmp .ne 6, 3) := by decide +kernel
theorem dX7_typeKey_22 : decode cX7_typeKey 22 = .ok (.bipush (-3), 2) := by decide +kernel
theorem dX7_typeKey_24 : decode cX7_typeKey 24 = .ok (.ireturn, 1) := by decide +kernel
theorem dX7_typeKey_25 : decode cX7_typeKey 25 = .ok (.aload_n 0, 1) := by decide +kernel
theorem dX7_typeKey_26 : decode cX7_typeKey 26 = .ok (.getfield 53, 3) := by decide +kernel
theorem dX7_typeKey_29 : decode cX7_typeKey 29 = .ok (.aload_n 0, 1) := by decide +kernel
theorem dX7_typeKey_30 : decode cX7_typeKey 30 = .ok (.getfield 70, 3) := by decide +kernel
theorem dX7_typeKey_33 : decode cX7_typeKey 33 = .ok (.iload_n 1, 1) := by decide +kernel
theorem dX7_typeKey_34 : decode cX7_typeKey 34 = .ok (.iastore, 1) := by decide +kernel
theorem dX7_typeKey_35 : decode cX7_typeKey 35 = .ok (.aload_n 0, 1) := by decide +kernel
theorem dX7_typeKey_36 : decode cX7_typeKey 36 = .ok (.dup, 1) := by decide +kernel
theorem dX7_typeKey_37 : decode cX7_typeKey 37 = .ok (.getfield 70, 3) := by decide +kernel
theorem dX7_typeKey_40 : decode cX7_typeKey 40 = .ok (.iconst 1, 1) := by decide +kernel
theorem dX7_typeKey_41 : decode cX7_typeKey 41 = .ok (.iadd, 1) := by decide +kernel
theorem dX7_typeKey_42 : decode cX7_typeKey 42 = .ok (.putfield 70, 3) := by decide +kernel
theorem dX7_typeKey_45 : decode cX7_typeKey 45 = .ok (.aload_n 0, 1) := by decide +kernel
theorem dX7_typeKey_46 : decode cX7_typeKey 46 = .ok (.getfield 70, 3) := by decide +kernel
theorem dX7_typeKey_49 : decode cX7_typeKey 49 = .ok (.ireturn, 1) := by decide +kernel
theorem dX7_has_0 : decode cX7_has 0 = .ok (.iload_n 1, 1) := by decide +kernel
theorem dX7_has_1 : decode cX7_has 1 = .ok (.iload 4, 2) := by decide +kernel
theorem dX7_has_3 : decode cX7_has 3 = .ok (.iadd, 1) := by decide +kernel
theorem dX7_has_4 : decode cX7_has 4 = .ok (.aload_n 0, 1) := by decide +kernel
theorem dX7_has_5 : decode cX7_has 5 = .ok (.getfield 73, 3) := by decide +kernel
theorem dX7_has_8 : decode cX7_has 8 = .ok (.if_icmp .le 5, 3) := by decide +kernel
theorem dX7_has_11 : decode cX7_has 11 = .ok (.iconst 0, 1) := by decide +kernel
theorem dX7_has_12 : decode cX7_has 12 = .ok (.ireturn, 1) := by decide +kernel
theorem dX7_has_13 : decode cX7_has 13 = .ok (.lload_n 2, 1) := by decide +kernel
theorem dX7_has_14 : decode cX7_has 14 = .ok (.lstore 5, 2) := by decide +kernel
theorem dX7_has_16 : decode cX7_has 16 = .ok (.iload 4, 2) := by decide +kernel
theorem dX7_has_18 : decode cX7_has 18 = .ok (.iconst 1, 1) := by decide +kernel
theorem dX7_has_19 : decode cX7_has 19 = .ok (.isub, 1) := by decide +kernel
theorem dX7_has_20 : decode cX7_has 20 = .ok (.istore 7, 2) := by decide +kernel
theorem dX7_has_22 : decode cX7_has 22 = .ok (.iload 7, 2) := by decide +kernel
theorem dX7_has_24 : decode cX7_has 24 = .ok (.ifCond .lt 57, 3) := by decide +kernel
theorem dX7_has_27 : decode cX7_has 27 = .ok (.lload 5, 2) := by decide +kernel
theorem dX7_has_29 : decode cX7_has 29 = .ok (.ldc2_w 76, 3) := by decide +kernel
theorem dX7_has_32 : decode cX7_has 32 = .ok (.lrem, 1) := by decide +kernel
theorem dX7_has_33 : decode cX7_has 33 = .ok (.l2i, 1) := by decide +kernel
theorem dX7_has_34 : decode cX7_has 34 = .ok (.istore 8, 2) := by decide +kernel
theorem dX7_has_36 : decode cX7_has 36 = .ok (.aload_n 0, 1) := by decide +kernel
theorem dX7_has_37 : decode cX7_has 37 = .ok (.getfield 53, 3) := by decide +kernel
theorem dX7_has_40 : decode cX7_has 40 = .ok (.iload_n 1, 1) := by decide +kernel
theorem dX7_has_41 : decode cX7_has 41 = .ok (.iload 7, 2) := by decide +kernel
theorem dX7_has_43 : decode cX7_has 43 = .ok (.iadd, 1) := by decide +kernel
theorem dX7_has_44 : decode cX7_has 44 = .ok (.iaload, 1) := by decide +kernel
theorem dX7_has_45 : decode cX7_has 45 = .ok (.iload 8, 2) := by decide +kernel
theorem dX7_has_47 : decode cX7_has 47 = .ok (.bipush 27, 2) := by decide +kernel
theorem dX7_has_49 : decode cX7_has 49 = .ok (.if_icmp .ne 8, 3) := by decide +kernel
theorem dX7_has_52 : decode cX7_has 52 = .ok (.bipush 32, 2) := by decide +kernel
theorem dX7_has_54 : decode cX7_has 54 = .ok (.goto 8, 3) := by decide +kernel
theorem dX7_has_57 : decode cX7_has 57 = .ok (.bipush 96, 2) := by decide +kernel
theorem dX7_has_59 : decode cX7_has 59 = .ok (.iload 8, 2) := by decide +kernel
theorem dX7_has_61 : decode cX7_has 61 = .ok (.iadd, 1) := by decide +kernel
theorem dX7_has_62 : decode cX7_has 62 = .ok (.if_icmp .eq 5, 3) := by decide +kernel
theorem dX7_has_65 : decode cX7_has 65 = .ok (.iconst 0, 1) := by decide +kernel
theorem dX7_has_66 : decode cX7_has 66 = .ok (.ireturn, 1) := by decide +kernel
theorem dX7_has_67 : decode cX7_has 67 = .ok (.lload 5, 2) := by decide +kernel
theorem dX7_has_69 : decode cX7_has 69 = .ok (.ldc2_w 76, 3) := by decide +kernel
theorem dX7_has_72 : decode cX7_has 72 = .ok (.ldiv, 1) := by decide +kernel
theorem dX7_has_73 : decode cX7_has 73 = .ok (.lstore 5, 2) := by decide +kernel
theorem dX7_has_75 : decode cX7_has 75 = .ok (.iinc 7 (-1), 3) := by decide +kernel
theorem dX7_has_78 : decode cX7_has 78 = .ok (.goto (-56), 3) := by decide +kernel
theorem dX7_has_81 : decode cX7_has 81 = .ok (.iconst 1, 1) := by decide +kernel
theorem dX7_has_82 : decode cX7_has 82 = .ok (.ireturn, 1) := by decide +kernel
theorem dX7_isDigit_0 : decode cX7_isDigit 0 = .ok (.aload_n 0, 1) := by decide +kernel
theorem dX7_isDigit_1 : decode cX7_isDigit 1 = .ok (.getfield 53, 3) := by decide +kernel
theorem dX7_isDigit_4 : decode cX7_isDigit 4 = .ok (.iload_n 1, 1) := by decide +kernel
theorem dX7_isDigit_5 : decode cX7_isDigit 5 = .ok (.iaload, 1) := by decide +kernel
theorem dX7_isDigit_6 : decode cX7_isDigit 6 = .ok (.bipush 48, 2) := by decide +kernel
theorem dX7_isDigit_8 : decode cX7_isDigit 8 = .ok (.if_icmp .lt 18, 3) := by decide +kernel
theorem dX7_isDigit_11 : decode cX7_isDigit 11 = .ok (.aload_n 0, 1) := by decide +kernel
theorem dX7_isDigit_12 : decode cX7_isDigit 12 = .ok (.getfield 53, 3) := by decide +kernel
theorem dX7_isDigit_15 : decode cX7_isDigit 15 = .ok (.iload_n 1, 1) := by decide +kernel
theorem dX7_isDigit_16 : decode cX7_isDigit 16 = .ok (.iaload, 1) := by decide +kernel
theorem dX7_isDigit_17 : decode cX7_isDigit 17 = .ok (.bipush 57, 2) := by decide +kernel
theorem dX7_isDigit_19 : decode cX7_isDigit 19 = .ok (.if_icmp .gt 7, 3) := by decide +kernel
theorem dX7_isDigit_22 : decode cX7_isDigit 22 = .ok (.iconst 1, 1) := by decide +kernel
theorem dX7_isDigit_23 : decode cX7_isDigit 23 = .ok (.goto 4, 3) := by decide +kernel
theorem dX7_isDigit_26 : decode cX7_isDigit 26 = .ok (.iconst 0, 1) := by decide +kernel
theorem dX7_isDigit_27 : decode cX7_isDigit 27 = .ok (.ireturn, 1) := by decide +kernel
theorem dX7_numberFrom_0 : decode cX7_numberFrom 0 = .ok (.aload_n 0, 1) := by decide +kernel
theorem dX7_numberFrom_1 : decode cX7_numberFrom 1 = .ok (.getfield 73, 3) := by decide +kernel
theorem dX7_numberFrom_4 : decode cX7_numberFrom 4 = .ok (.iload_n 1, 1) := by decide +kernel
theorem dX7_numberFrom_5 : decode cX7_numberFrom 5 = .ok (.isub, 1) := by decide +kernel
theorem dX7_numberFrom_6 : decode cX7_numberFrom 6 = .ok (.istore_n 2, 1) := by decide +kernel
theorem dX7_numberFrom_7 : decode cX7_numberFrom 7 = .ok (.iload_n 2, 1) := by decide +kernel
theorem dX7_numberFrom_8 : decode cX7_numberFrom 8 = .ok (.iconst 1, 1) := by decide +kernel
theorem dX7_numberFrom_9 : decode cX7_numberFrom 9 = .ok (.if_icmp .lt 29, 3) := by decide +kernel
theorem dX7_numberFrom_12 : decode cX7_numberFrom 12 = .ok (.iload_n 2, 1) := by decide +kernel
theorem dX7_numberFrom_13 : decode cX7_numberFrom 13 = .ok (.iconst 2, 1) := by decide +kernel
theorem dX7_numberFrom_14 : decode cX7_numberFrom 14 = .ok (.if_icmp .gt 24, 3) := by decide +kernel
theorem dX7_numberFrom_17 : decode cX7_numberFrom 17 = .ok (.aload_n 0, 1) := by decide +kernel
theorem dX7_numberFrom_18 : decode cX7_numberFrom 18 = .ok (.iload_n 1, 1) := by decide +kernel
theorem dX7_numberFrom_19 : decode cX7_numberFrom 19 = .ok (.invokevirtual 78, 3) := by decide +kernel
theorem dX7_numberFrom_22 : decode cX7_numberFrom 22 = .ok (.ifCond .eq 16, 3) := by decide +kernel
theorem dX7_numberFrom_25 : decode cX7_numberFrom 25 = .ok (.aload_n 0, 1) := by decide +kernel
theorem dX7_numberFrom_26 : decode cX7_numberFrom 26 = .ok (.aload_n 0, 1) := by decide +kernel
theorem dX7_numberFrom_27 : decode cX7_numberFrom 27 = .ok (.getfield 73, 3) := by decide +kernel
theorem dX7_numberFrom_30 : decode cX7_numberFrom 30 = .ok (.iconst 1, 1) := by decide +kernel
theorem dX7_numberFrom_31 : decode cX7_numberFrom 31 = .ok (.isub, 1) := by decide +kernel
theorem dX7_numberFrom_32 : decode cX7_numberFrom 32 = .ok (.invokevirtual 78, 3) := by decide +kernel
theorem dX7_numberFrom_35 : decode cX7_numberFrom 35 = .ok (.ifCond .ne 6, 3) := by decide +kernel
theorem dX7_numberFrom_38 : decode cX7_numberFrom 38 = .ok (.bipush (-6), 2) := by decide +kernel
theorem dX7_numberFrom_40 : decode cX7_numberFrom 40 = .ok (.ireturn, 1) := by decide +kernel
theorem dX7_numberFrom_41 : decode cX7_numberFrom 41 = .ok (.iload_n 2, 1) := by decide +kernel
theorem dX7_numberFrom_42 : decode cX7_numberFrom 42 = .ok (.iconst 1, 1) := by decide +kernel
theorem dX7_numberFrom_43 : decode cX7_numberFrom 43 = .ok (.if_icmp .ne 15, 3) := by decide +kernel
theorem dX7_numberFrom_46 : decode cX7_numberFrom 46 = .ok (.aload_n 0, 1) := by decide +kernel
theorem dX7_numberFrom_47 : decode cX7_numberFrom 47 = .ok (.getfield 53, 3) := by decide +kernel
theorem dX7_numberFrom_50 : decode cX7_numberFrom 50 = .ok (.iload_n 1, 1) := by decide +kernel
theorem dX7_numberFrom_51 : decode cX7_numberFrom 51 = .ok (.iaload, 1) := by decide +kernel
theorem dX7_numberFrom_52 : decode cX7_numberFrom 52 = .ok (.bipush 48, 2) := by decide +kernel
theorem dX7_numberFrom_54 : decode cX7_numberFrom 54 = .ok (.isub, 1) := by decide +kernel
theorem dX7_numberFrom_55 : decode cX7_numberFrom 55 = .ok (.goto 27, 3) := by decide +kernel
theorem dX7_numberFrom_58 : decode cX7_numberFrom 58 = .ok (.bipush 10, 2) := by decide +kernel
theorem dX7_numberFrom_60 : decode cX7_numberFrom 60 = .ok (.aload_n 0, 1) := by decide +kernel
theorem dX7_numberFrom_61 : decode cX7_numberFrom 61 = .ok (.getfield 53, 3) := by decide +kernel
theorem dX7_numberFrom_64 : decode cX7_numberFrom 64 = .ok (.iload_n 1, 1) := by decide +kernel
theorem dX7_numberFrom_65 : decode cX7_numberFrom 65 = .ok (.iaload, 1) := by decide +kernel
theorem dX7_numberFrom_66 : decode cX7_numberFrom 66 = .ok (.bipush 48, 2) := by decide +kernel
theorem dX7_numberFrom_68 : decode cX7_numberFrom 68 = .ok (.isub, 1) := by decide +kernel
theorem dX7_numberFrom_69 : decode cX7_numberFrom 69 = .ok (.imul, 1) := by decide +kernel
theorem dX7_numberFrom_70 : decode cX7_numberFrom 70 = .ok (.aload_n 0, 1) := by decide +kernel
theorem dX7_numberFrom_71 : decode cX7_numberFrom 71 = .ok (.getfield 53, 3) := by decide +kernel
theorem dX7_numberFrom_74 : decode cX7_numberFrom 74 = .ok (.iload_n 1, 1) := by decide +kernel
theorem dX7_numberFrom_75 : decode cX7_numberFrom 75 = .ok (.iconst 1, 1) := by decide +kernel
theorem dX7_numberFrom_76 : decode cX7_numberFrom 76 = .ok (.iadd, 1) := by decide +kernel
theorem dX7_numberFrom_77 : decode cX7_numberFrom 77 = .ok (.iaload, 1) := by decide +kernel
theorem dX7_numberFrom_78 : decode cX7_numberFrom 78 = .ok (.iadd, 1) := by decide +kernel
theorem dX7_numberFrom_79 : decode cX7_numberFrom 79 = .ok (.bipush 48, 2) := by decide +kernel
theorem dX7_numberFrom_81 : decode cX7_numberFrom 81 = .ok (.isub, 1) := by decide +kernel
theorem dX7_numberFrom_82 : decode cX7_numberFrom 82 = .ok (.ireturn, 1) := by decide +kernel
theorem dX7_setsPolicy_0 : decode cX7_setsPolicy 0 = .ok (.aload_n 0, 1) := by decide +kernel
theorem dX7_setsPolicy_1 : decode cX7_setsPolicy 1 = .ok (.getfield 82, 3) := by decide +kernel
theorem dX7_setsPolicy_4 : decode cX7_setsPolicy 4 = .ok (.iload_n 1, 1) := by decide +kernel
theorem dX7_setsPolicy_5 : decode cX7_setsPolicy 5 = .ok (.if_icmp .ne 7, 3) := by decide +kernel
theorem dX7_setsPolicy_8 : decode cX7_setsPolicy 8 = .ok (.iconst 0, 1) := by decide +kernel
theorem dX7_setsPolicy_9 : decode cX7_setsPolicy 9 = .ok (.goto 4, 3) := by decide +kernel
theorem dX7_setsPolicy_12 : decode cX7_setsPolicy 12 = .ok (.iconst 1, 1) := by decide +kernel
theorem dX7_setsPolicy_13 : decode cX7_setsPolicy 13 = .ok (.istore_n 2, 1) := by decide +kernel
theorem dX7_setsPolicy_14 : decode cX7_setsPolicy 14 = .ok (.aload_n 0, 1) := by decide +kernel
theorem dX7_setsPolicy_15 : decode cX7_setsPolicy 15 = .ok (.iload_n 1, 1) := by decide +kernel
theorem dX7_setsPolicy_16 : decode cX7_setsPolicy 16 = .ok (.putfield 82, 3) := by decide +kernel
theorem dX7_setsPolicy_19 : decode cX7_setsPolicy 19 = .ok (.iload_n 2, 1) := by decide +kernel
end
section
theorem dX7_setsPolicy_20 : decode cX7_setsPolicy 20 = .ok (.ireturn, 1) := by decide +kernel
theorem dX7_policyFrom_0 : decode cX7_policyFrom 0 = .ok (.aload_n 0, 1) := by decide +kernel
theorem dX7_policyFrom_1 : decode cX7_policyFrom 1 = .ok (.getfield 73, 3) := by decide +kernel
theorem dX7_policyFrom_4 : decode cX7_policyFrom 4 = .ok (.iload_n 1, 1) := by decide +kernel
theorem dX7_policyFrom_5 : decode cX7_policyFrom 5 = .ok (.isub, 1) := by decide +kernel
theorem dX7_policyFrom_6 : decode cX7_policyFrom 6 = .ok (.istore_n 2, 1) := by decide +kernel
theorem dX7_policyFrom_7 : decode cX7_policyFrom 7 = .ok (.iload_n 2, 1) := by decide +kernel
theorem dX7_policyFrom_8 : decode cX7_policyFrom 8 = .ok (.iconst 5, 1) := by decide +kernel
theorem dX7_policyFrom_9 : decode cX7_policyFrom 9 = .ok (.if_icmp .ne 21, 3) := by decide +kernel
theorem dX7_policyFrom_12 : decode cX7_policyFrom 12 = .ok (.aload_n 0, 1) := by decide +kernel
theorem dX7_policyFrom_13 : decode cX7_policyFrom 13 = .ok (.iload_n 1, 1) := by decide +kernel
theorem dX7_policyFrom_14 : decode cX7_policyFrom 14 = .ok (.ldc2_w 85, 3) := by decide +kernel
theorem dX7_policyFrom_17 : decode cX7_policyFrom 17 = .ok (.iconst 5, 1) := by decide +kernel
theorem dX7_policyFrom_18 : decode cX7_policyFrom 18 = .ok (.invokevirtual 87, 3) := by decide +kernel
theorem dX7_policyFrom_21 : decode cX7_policyFrom 21 = .ok (.ifCond .eq 9, 3) := by decide +kernel
theorem dX7_policyFrom_24 : decode cX7_policyFrom 24 = .ok (.aload_n 0, 1) := by decide +kernel
theorem dX7_policyFrom_25 : decode cX7_policyFrom 25 = .ok (.iconst 0, 1) := by decide +kernel
theorem dX7_policyFrom_26 : decode cX7_policyFrom 26 = .ok (.invokevirtual 91, 3) := by decide +kernel
theorem dX7_policyFrom_29 : decode cX7_policyFrom 29 = .ok (.ireturn, 1) := by decide +kernel
theorem dX7_policyFrom_30 : decode cX7_policyFrom 30 = .ok (.iload_n 2, 1) := by decide +kernel
theorem dX7_policyFrom_31 : decode cX7_policyFrom 31 = .ok (.iconst 4, 1) := by decide +kernel
theorem dX7_policyFrom_32 : decode cX7_policyFrom 32 = .ok (.if_icmp .ne 21, 3) := by decide +kernel
theorem dX7_policyFrom_35 : decode cX7_policyFrom 35 = .ok (.aload_n 0, 1) := by decide +kernel
theorem dX7_policyFrom_36 : decode cX7_policyFrom 36 = .ok (.iload_n 1, 1) := by decide +kernel
theorem dX7_policyFrom_37 : decode cX7_policyFrom 37 = .ok (.ldc2_w 95, 3) := by decide +kernel
theorem dX7_policyFrom_40 : decode cX7_policyFrom 40 = .ok (.iconst 4, 1) := by decide +kernel
theorem dX7_policyFrom_41 : decode cX7_policyFrom 41 = .ok (.invokevirtual 87, 3) := by decide +kernel
theorem dX7_policyFrom_44 : decode cX7_policyFrom 44 = .ok (.ifCond .eq 9, 3) := by decide +kernel
theorem dX7_policyFrom_47 : decode cX7_policyFrom 47 = .ok (.aload_n 0, 1) := by decide +kernel
theorem dX7_policyFrom_48 : decode cX7_policyFrom 48 = .ok (.iconst 1, 1) := by decide +kernel
theorem dX7_policyFrom_49 : decode cX7_policyFrom 49 = .ok (.invokevirtual 91, 3) := by decide +kernel
theorem dX7_policyFrom_52 : decode cX7_policyFrom 52 = .ok (.ireturn, 1) := by decide +kernel
theorem dX7_policyFrom_53 : decode cX7_policyFrom 53 = .ok (.iload_n 2, 1) := by decide +kernel
theorem dX7_policyFrom_54 : decode cX7_policyFrom 54 = .ok (.bipush 6, 2) := by decide +kernel
theorem dX7_policyFrom_56 : decode cX7_policyFrom 56 = .ok (.if_icmp .ne 22, 3) := by decide +kernel
theorem dX7_policyFrom_59 : decode cX7_policyFrom 59 = .ok (.aload_n 0, 1) := by decide +kernel
theorem dX7_policyFrom_60 : decode cX7_policyFrom 60 = .ok (.iload_n 1, 1) := by decide +kernel
theorem dX7_policyFrom_61 : decode cX7_policyFrom 61 = .ok (.ldc2_w 97, 3) := by decide +kernel
theorem dX7_policyFrom_64 : decode cX7_policyFrom 64 = .ok (.bipush 6, 2) := by decide +kernel
theorem dX7_policyFrom_66 : decode cX7_policyFrom 66 = .ok (.invokevirtual 87, 3) := by decide +kernel
theorem dX7_policyFrom_69 : decode cX7_policyFrom 69 = .ok (.ifCond .eq 9, 3) := by decide +kernel
theorem dX7_policyFrom_72 : decode cX7_policyFrom 72 = .ok (.aload_n 0, 1) := by decide +kernel
theorem dX7_policyFrom_73 : decode cX7_policyFrom 73 = .ok (.iconst 2, 1) := by decide +kernel
theorem dX7_policyFrom_74 : decode cX7_policyFrom 74 = .ok (.invokevirtual 91, 3) := by decide +kernel
theorem dX7_policyFrom_77 : decode cX7_policyFrom 77 = .ok (.ireturn, 1) := by decide +kernel
theorem dX7_policyFrom_78 : decode cX7_policyFrom 78 = .ok (.iload_n 2, 1) := by decide +kernel
theorem dX7_policyFrom_79 : decode cX7_policyFrom 79 = .ok (.bipush 6, 2) := by decide +kernel
theorem dX7_policyFrom_81 : decode cX7_policyFrom 81 = .ok (.if_icmp .ne 24, 3) := by decide +kernel
theorem dX7_policyFrom_84 : decode cX7_policyFrom 84 = .ok (.aload_n 0, 1) := by decide +kernel
theorem dX7_policyFrom_85 : decode cX7_policyFrom 85 = .ok (.iload_n 1, 1) := by decide +kernel
theorem dX7_policyFrom_86 : decode cX7_policyFrom 86 = .ok (.ldc2_w 99, 3) := by decide +kernel
theorem dX7_policyFrom_89 : decode cX7_policyFrom 89 = .ok (.bipush 6, 2) := by decide +kernel
theorem dX7_policyFrom_91 : decode cX7_policyFrom 91 = .ok (.invokevirtual 87, 3) := by decide +kernel
theorem dX7_policyFrom_94 : decode cX7_policyFrom 94 = .ok (.ifCond .eq 11, 3) := by decide +kernel
theorem dX7_policyFrom_97 : decode cX7_policyFrom 97 = .ok (.aload_n 0, 1) := by decide +kernel
theorem dX7_policyFrom_98 : decode cX7_policyFrom 98 = .ok (.iconst 3, 1) := by decide +kernel
theorem dX7_policyFrom_99 : decode cX7_policyFrom 99 = .ok (.invokevirtual 91, 3) := by decide +kernel
theorem dX7_policyFrom_102 : decode cX7_policyFrom 102 = .ok (.goto 5, 3) := by decide +kernel
theorem dX7_policyFrom_105 : decode cX7_policyFrom 105 = .ok (.bipush (-5), 2) := by decide +kernel
theorem dX7_policyFrom_107 : decode cX7_policyFrom 107 = .ok (.ireturn, 1) := by decide +kernel
theorem dX7_capFrom_0 : decode cX7_capFrom 0 = .ok (.aload_n 0, 1) := by decide +kernel
theorem dX7_capFrom_1 : decode cX7_capFrom 1 = .ok (.iload_n 1, 1) := by decide +kernel
theorem dX7_capFrom_2 : decode cX7_capFrom 2 = .ok (.invokevirtual 101, 3) := by decide +kernel
theorem dX7_capFrom_5 : decode cX7_capFrom 5 = .ok (.istore_n 2, 1) := by decide +kernel
theorem dX7_capFrom_6 : decode cX7_capFrom 6 = .ok (.iload_n 2, 1) := by decide +kernel
theorem dX7_capFrom_7 : decode cX7_capFrom 7 = .ok (.bipush (-6), 2) := by decide +kernel
theorem dX7_capFrom_9 : decode cX7_capFrom 9 = .ok (.if_icmp .ne 6, 3) := by decide +kernel
theorem dX7_capFrom_12 : decode cX7_capFrom 12 = .ok (.bipush (-5), 2) := by decide +kernel
theorem dX7_capFrom_14 : decode cX7_capFrom 14 = .ok (.ireturn, 1) := by decide +kernel
theorem dX7_capFrom_15 : decode cX7_capFrom 15 = .ok (.iload_n 2, 1) := by decide +kernel
theorem dX7_capFrom_16 : decode cX7_capFrom 16 = .ok (.iconst 5, 1) := by decide +kernel
theorem dX7_capFrom_17 : decode cX7_capFrom 17 = .ok (.if_icmp .lt 6, 3) := by decide +kernel
theorem dX7_capFrom_20 : decode cX7_capFrom 20 = .ok (.bipush (-2), 2) := by decide +kernel
theorem dX7_capFrom_22 : decode cX7_capFrom 22 = .ok (.ireturn, 1) := by decide +kernel
theorem dX7_capFrom_23 : decode cX7_capFrom 23 = .ok (.aload_n 0, 1) := by decide +kernel
theorem dX7_capFrom_24 : decode cX7_capFrom 24 = .ok (.getfield 44, 3) := by decide +kernel
theorem dX7_capFrom_27 : decode cX7_capFrom 27 = .ok (.iload_n 2, 1) := by decide +kernel
theorem dX7_capFrom_28 : decode cX7_capFrom 28 = .ok (.if_icmp .ne 7, 3) := by decide +kernel
theorem dX7_capFrom_31 : decode cX7_capFrom 31 = .ok (.iconst 0, 1) := by decide +kernel
theorem dX7_capFrom_32 : decode cX7_capFrom 32 = .ok (.goto 4, 3) := by decide +kernel
theorem dX7_capFrom_35 : decode cX7_capFrom 35 = .ok (.iconst 1, 1) := by decide +kernel
theorem dX7_capFrom_36 : decode cX7_capFrom 36 = .ok (.istore_n 3, 1) := by decide +kernel
theorem dX7_capFrom_37 : decode cX7_capFrom 37 = .ok (.aload_n 0, 1) := by decide +kernel
theorem dX7_capFrom_38 : decode cX7_capFrom 38 = .ok (.iload_n 2, 1) := by decide +kernel
theorem dX7_capFrom_39 : decode cX7_capFrom 39 = .ok (.putfield 44, 3) := by decide +kernel
theorem dX7_capFrom_42 : decode cX7_capFrom 42 = .ok (.iload_n 3, 1) := by decide +kernel
theorem dX7_capFrom_43 : decode cX7_capFrom 43 = .ok (.ireturn, 1) := by decide +kernel
theorem dX7_seekFrom_0 : decode cX7_seekFrom 0 = .ok (.aload_n 0, 1) := by decide +kernel
theorem dX7_seekFrom_1 : decode cX7_seekFrom 1 = .ok (.iload_n 1, 1) := by decide +kernel
theorem dX7_seekFrom_2 : decode cX7_seekFrom 2 = .ok (.invokevirtual 101, 3) := by decide +kernel
theorem dX7_seekFrom_5 : decode cX7_seekFrom 5 = .ok (.istore_n 2, 1) := by decide +kernel
theorem dX7_seekFrom_6 : decode cX7_seekFrom 6 = .ok (.iload_n 2, 1) := by decide +kernel
theorem dX7_seekFrom_7 : decode cX7_seekFrom 7 = .ok (.bipush (-6), 2) := by decide +kernel
theorem dX7_seekFrom_9 : decode cX7_seekFrom 9 = .ok (.if_icmp .ne 6, 3) := by decide +kernel
theorem dX7_seekFrom_12 : decode cX7_seekFrom 12 = .ok (.bipush (-5), 2) := by decide +kernel
theorem dX7_seekFrom_14 : decode cX7_seekFrom 14 = .ok (.ireturn, 1) := by decide +kernel
theorem dX7_seekFrom_15 : decode cX7_seekFrom 15 = .ok (.iload_n 2, 1) := by decide +kernel
theorem dX7_seekFrom_16 : decode cX7_seekFrom 16 = .ok (.aload_n 0, 1) := by decide +kernel
theorem dX7_seekFrom_17 : decode cX7_seekFrom 17 = .ok (.getfield 7, 3) := by decide +kernel
theorem dX7_seekFrom_20 : decode cX7_seekFrom 20 = .ok (.if_icmp .lt 6, 3) := by decide +kernel
theorem dX7_seekFrom_23 : decode cX7_seekFrom 23 = .ok (.bipush (-2), 2) := by decide +kernel
theorem dX7_seekFrom_25 : decode cX7_seekFrom 25 = .ok (.ireturn, 1) := by decide +kernel
theorem dX7_seekFrom_26 : decode cX7_seekFrom 26 = .ok (.aload_n 0, 1) := by decide +kernel
theorem dX7_seekFrom_27 : decode cX7_seekFrom 27 = .ok (.getfield 47, 3) := by decide +kernel
theorem dX7_seekFrom_30 : decode cX7_seekFrom 30 = .ok (.bipush 6, 2) := by decide +kernel
theorem dX7_seekFrom_32 : decode cX7_seekFrom 32 = .ok (.iconst 0, 1) := by decide +kernel
theorem dX7_seekFrom_33 : decode cX7_seekFrom 33 = .ok (.iastore, 1) := by decide +kernel
theorem dX7_seekFrom_34 : decode cX7_seekFrom 34 = .ok (.aload_n 0, 1) := by decide +kernel
theorem dX7_seekFrom_35 : decode cX7_seekFrom 35 = .ok (.getfield 47, 3) := by decide +kernel
theorem dX7_seekFrom_38 : decode cX7_seekFrom 38 = .ok (.iconst 1, 1) := by decide +kernel
theorem dX7_seekFrom_39 : decode cX7_seekFrom 39 = .ok (.iconst 0, 1) := by decide +kernel
theorem dX7_seekFrom_40 : decode cX7_seekFrom 40 = .ok (.iastore, 1) := by decide +kernel
theorem dX7_seekFrom_41 : decode cX7_seekFrom 41 = .ok (.aload_n 0, 1) := by decide +kernel
theorem dX7_seekFrom_42 : decode cX7_seekFrom 42 = .ok (.getfield 47, 3) := by decide +kernel
theorem dX7_seekFrom_45 : decode cX7_seekFrom 45 = .ok (.iconst 5, 1) := by decide +kernel
theorem dX7_seekFrom_46 : decode cX7_seekFrom 46 = .ok (.iload_n 2, 1) := by decide +kernel
theorem dX7_seekFrom_47 : decode cX7_seekFrom 47 = .ok (.iastore, 1) := by decide +kernel
theorem dX7_seekFrom_48 : decode cX7_seekFrom 48 = .ok (.aload_n 0, 1) := by decide +kernel
theorem dX7_seekFrom_49 : decode cX7_seekFrom 49 = .ok (.getfield 47, 3) := by decide +kernel
theorem dX7_seekFrom_52 : decode cX7_seekFrom 52 = .ok (.iconst 2, 1) := by decide +kernel
theorem dX7_seekFrom_53 : decode cX7_seekFrom 53 = .ok (.iload_n 2, 1) := by decide +kernel
theorem dX7_seekFrom_54 : decode cX7_seekFrom 54 = .ok (.aload_n 0, 1) := by decide +kernel
theorem dX7_seekFrom_55 : decode cX7_seekFrom 55 = .ok (.getfield 13, 3) := by decide +kernel
theorem dX7_seekFrom_58 : decode cX7_seekFrom 58 = .ok (.imul, 1) := by decide +kernel
theorem dX7_seekFrom_59 : decode cX7_seekFrom 59 = .ok (.iastore, 1) := by decide +kernel
theorem dX7_seekFrom_60 : decode cX7_seekFrom 60 = .ok (.aload_n 0, 1) := by decide +kernel
theorem dX7_seekFrom_61 : decode cX7_seekFrom 61 = .ok (.getfield 47, 3) := by decide +kernel
theorem dX7_seekFrom_64 : decode cX7_seekFrom 64 = .ok (.iconst 3, 1) := by decide +kernel
theorem dX7_seekFrom_65 : decode cX7_seekFrom 65 = .ok (.iconst 0, 1) := by decide +kernel
theorem dX7_seekFrom_66 : decode cX7_seekFrom 66 = .ok (.iastore, 1) := by decide +kernel
theorem dX7_seekFrom_67 : decode cX7_seekFrom 67 = .ok (.aload_n 0, 1) := by decide +kernel
theorem dX7_seekFrom_68 : decode cX7_seekFrom 68 = .ok (.getfield 47, 3) := by decide +kernel
theorem dX7_seekFrom_71 : decode cX7_seekFrom 71 = .ok (.bipush 11, 2) := by decide +kernel
theorem dX7_seekFrom_73 : decode cX7_seekFrom 73 = .ok (.iconst 0, 1) := by decide +kernel
theorem dX7_seekFrom_74 : decode cX7_seekFrom 74 = .ok (.iastore, 1) := by decide +kernel
theorem dX7_seekFrom_75 : decode cX7_seekFrom 75 = .ok (.iconst 1, 1) := by decide +kernel
theorem dX7_seekFrom_76 : decode cX7_seekFrom 76 = .ok (.ireturn, 1) := by decide +kernel
theorem dX7_pauses_0 : decode cX7_pauses 0 = .ok (.aload_n 0, 1) := by decide +kernel
theorem dX7_pauses_1 : decode cX7_pauses 1 = .ok (.getfield 47, 3) := by decide +kernel
theorem dX7_pauses_4 : decode cX7_pauses 4 = .ok (.iconst 4, 1) := by decide +kernel
theorem dX7_pauses_5 : decode cX7_pauses 5 = .ok (.iaload, 1) := by decide +kernel
theorem dX7_pauses_6 : decode cX7_pauses 6 = .ok (.iload_n 1, 1) := by decide +kernel
theorem dX7_pauses_7 : decode cX7_pauses 7 = .ok (.if_icmp .ne 7, 3) := by decide +kernel
theorem dX7_pauses_10 : decode cX7_pauses 10 = .ok (.iconst 0, 1) := by decide +kernel
theorem dX7_pauses_11 : decode cX7_pauses 11 = .ok (.goto 4, 3) := by decide +kernel
theorem dX7_pauses_14 : decode cX7_pauses 14 = .ok (.iconst 1, 1) := by decide +kernel
theorem dX7_pauses_15 : decode cX7_pauses 15 = .ok (.istore_n 2, 1) := by decide +kernel
theorem dX7_pauses_16 : decode cX7_pauses 16 = .ok (.aload_n 0, 1) := by decide +kernel
theorem dX7_pauses_17 : decode cX7_pauses 17 = .ok (.getfield 47, 3) := by decide +kernel
theorem dX7_pauses_20 : decode cX7_pauses 20 = .ok (.iconst 4, 1) := by decide +kernel
theorem dX7_pauses_21 : decode cX7_pauses 21 = .ok (.iload_n 1, 1) := by decide +kernel
theorem dX7_pauses_22 : decode cX7_pauses 22 = .ok (.iastore, 1) := by decide +kernel
theorem dX7_pauses_23 : decode cX7_pauses 23 = .ok (.iload_n 2, 1) := by decide +kernel
theorem dX7_pauses_24 : decode cX7_pauses 24 = .ok (.ireturn, 1) := by decide +kernel
theorem dX7_runCommand_0 : decode cX7_runCommand 0 = .ok (.aload_n 0, 1) := by decide +kernel
theorem dX7_runCommand_1 : decode cX7_runCommand 1 = .ok (.aload_n 0, 1) := by decide +kernel
theorem dX7_runCommand_2 : decode cX7_runCommand 2 = .ok (.getfield 70, 3) := by decide +kernel
theorem dX7_runCommand_5 : decode cX7_runCommand 5 = .ok (.putfield 73, 3) := by decide +kernel
theorem dX7_runCommand_8 : decode cX7_runCommand 8 = .ok (.aload_n 0, 1) := by decide +kernel
theorem dX7_runCommand_9 : decode cX7_runCommand 9 = .ok (.iconst 0, 1) := by decide +kernel
theorem dX7_runCommand_10 : decode cX7_runCommand 10 = .ok (.putfield 70, 3) := by decide +kernel
theorem dX7_runCommand_13 : decode cX7_runCommand 13 = .ok (.aload_n 0, 1) := by decide +kernel
theorem dX7_runCommand_14 : decode cX7_runCommand 14 = .ok (.iconst 0, 1) := by decide +kernel
theorem dX7_runCommand_15 : decode cX7_runCommand 15 = .ok (.ldc2_w 104, 3) := by decide +kernel
theorem dX7_runCommand_18 : decode cX7_runCommand 18 = .ok (.bipush 7, 2) := by decide +kernel
theorem dX7_runCommand_20 : decode cX7_runCommand 20 = .ok (.invokevirtual 87, 3) := by decide +kernel
theorem dX7_runCommand_23 : decode cX7_runCommand 23 = .ok (.ifCond .eq 10, 3) := by decide +kernel
theorem dX7_runCommand_26 : decode cX7_runCommand 26 = .ok (.aload_n 0, 1) := by decide +kernel
theorem dX7_runCommand_27 : decode cX7_runCommand 27 = .ok (.bipush 7, 2) := by decide +kernel
theorem dX7_runCommand_29 : decode cX7_runCommand 29 = .ok (.invokevirtual 106, 3) := by decide +kernel
theorem dX7_runCommand_32 : decode cX7_runCommand 32 = .ok (.ireturn, 1) := by decide +kernel
theorem dX7_runCommand_33 : decode cX7_runCommand 33 = .ok (.aload_n 0, 1) := by decide +kernel
theorem dX7_runCommand_34 : decode cX7_runCommand 34 = .ok (.iconst 0, 1) := by decide +kernel
theorem dX7_runCommand_35 : decode cX7_runCommand 35 = .ok (.ldc2_w 109, 3) := by decide +kernel
theorem dX7_runCommand_38 : decode cX7_runCommand 38 = .ok (.iconst 4, 1) := by decide +kernel
theorem dX7_runCommand_39 : decode cX7_runCommand 39 = .ok (.invokevirtual 87, 3) := by decide +kernel
theorem dX7_runCommand_42 : decode cX7_runCommand 42 = .ok (.ifCond .eq 9, 3) := by decide +kernel
theorem dX7_runCommand_45 : decode cX7_runCommand 45 = .ok (.aload_n 0, 1) := by decide +kernel
theorem dX7_runCommand_46 : decode cX7_runCommand 46 = .ok (.iconst 4, 1) := by decide +kernel
theorem dX7_runCommand_47 : decode cX7_runCommand 47 = .ok (.invokevirtual 111, 3) := by decide +kernel
theorem dX7_runCommand_50 : decode cX7_runCommand 50 = .ok (.ireturn, 1) := by decide +kernel
theorem dX7_runCommand_51 : decode cX7_runCommand 51 = .ok (.aload_n 0, 1) := by decide +kernel
theorem dX7_runCommand_52 : decode cX7_runCommand 52 = .ok (.iconst 0, 1) := by decide +kernel
theorem dX7_runCommand_53 : decode cX7_runCommand 53 = .ok (.ldc2_w 114, 3) := by decide +kernel
theorem dX7_runCommand_56 : decode cX7_runCommand 56 = .ok (.iconst 5, 1) := by decide +kernel
theorem dX7_runCommand_57 : decode cX7_runCommand 57 = .ok (.invokevirtual 87, 3) := by decide +kernel
theorem dX7_runCommand_60 : decode cX7_runCommand 60 = .ok (.ifCond .eq 9, 3) := by decide +kernel
theorem dX7_runCommand_63 : decode cX7_runCommand 63 = .ok (.aload_n 0, 1) := by decide +kernel
theorem dX7_runCommand_64 : decode cX7_runCommand 64 = .ok (.iconst 5, 1) := by decide +kernel
theorem dX7_runCommand_65 : decode cX7_runCommand 65 = .ok (.invokevirtual 116, 3) := by decide +kernel
theorem dX7_runCommand_68 : decode cX7_runCommand 68 = .ok (.ireturn, 1) := by decide +kernel
theorem dX7_runCommand_69 : decode cX7_runCommand 69 = .ok (.aload_n 0, 1) := by decide +kernel
theorem dX7_runCommand_70 : decode cX7_runCommand 70 = .ok (.getfield 73, 3) := by decide +kernel
theorem dX7_runCommand_73 : decode cX7_runCommand 73 = .ok (.iconst 5, 1) := by decide +kernel
theorem dX7_runCommand_74 : decode cX7_runCommand 74 = .ok (.if_icmp .ne 21, 3) := by decide +kernel
theorem dX7_runCommand_77 : decode cX7_runCommand 77 = .ok (.aload_n 0, 1) := by decide +kernel
theorem dX7_runCommand_78 : decode cX7_runCommand 78 = .ok (.iconst 0, 1) := by decide +kernel
theorem dX7_runCommand_79 : decode cX7_runCommand 79 = .ok (.ldc2_w 119, 3) := by decide +kernel
theorem dX7_runCommand_82 : decode cX7_runCommand 82 = .ok (.iconst 5, 1) := by decide +kernel
theorem dX7_runCommand_83 : decode cX7_runCommand 83 = .ok (.invokevirtual 87, 3) := by decide +kernel
theorem dX7_runCommand_86 : decode cX7_runCommand 86 = .ok (.ifCond .eq 9, 3) := by decide +kernel
theorem dX7_runCommand_89 : decode cX7_runCommand 89 = .ok (.aload_n 0, 1) := by decide +kernel
theorem dX7_runCommand_90 : decode cX7_runCommand 90 = .ok (.iconst 1, 1) := by decide +kernel
theorem dX7_runCommand_91 : decode cX7_runCommand 91 = .ok (.invokevirtual 121, 3) := by decide +kernel
theorem dX7_runCommand_94 : decode cX7_runCommand 94 = .ok (.ireturn, 1) := by decide +kernel
theorem dX7_runCommand_95 : decode cX7_runCommand 95 = .ok (.aload_n 0, 1) := by decide +kernel
theorem dX7_runCommand_96 : decode cX7_runCommand 96 = .ok (.getfield 73, 3) := by decide +kernel
theorem dX7_runCommand_99 : decode cX7_runCommand 99 = .ok (.iconst 4, 1) := by decide +kernel
theorem dX7_runCommand_100 : decode cX7_runCommand 100 = .ok (.if_icmp .ne 23, 3) := by decide +kernel
theorem dX7_runCommand_103 : decode cX7_runCommand 103 = .ok (.aload_n 0, 1) := by decide +kernel
theorem dX7_runCommand_104 : decode cX7_runCommand 104 = .ok (.iconst 0, 1) := by decide +kernel
theorem dX7_runCommand_105 : decode cX7_runCommand 105 = .ok (.ldc2_w 124, 3) := by decide +kernel
theorem dX7_runCommand_108 : decode cX7_runCommand 108 = .ok (.iconst 4, 1) := by decide +kernel
theorem dX7_runCommand_109 : decode cX7_runCommand 109 = .ok (.invokevirtual 87, 3) := by decide +kernel
theorem dX7_runCommand_112 : decode cX7_runCommand 112 = .ok (.ifCond .eq 11, 3) := by decide +kernel
theorem dX7_runCommand_115 : decode cX7_runCommand 115 = .ok (.aload_n 0, 1) := by decide +kernel
theorem dX7_runCommand_116 : decode cX7_runCommand 116 = .ok (.iconst 0, 1) := by decide +kernel
theorem dX7_runCommand_117 : decode cX7_runCommand 117 = .ok (.invokevirtual 121, 3) := by decide +kernel
theorem dX7_runCommand_120 : decode cX7_runCommand 120 = .ok (.goto 5, 3) := by decide +kernel
theorem dX7_runCommand_123 : decode cX7_runCommand 123 = .ok (.bipush (-5), 2) := by decide +kernel
theorem dX7_runCommand_125 : decode cX7_runCommand 125 = .ok (.ireturn, 1) := by decide +kernel
theorem dX7_sizeOf_0 : decode cX7_sizeOf 0 = .ok (.aload_n 0, 1) := by decide +kernel
theorem dX7_sizeOf_1 : decode cX7_sizeOf 1 = .ok (.getfield 20, 3) := by decide +kernel
theorem dX7_sizeOf_4 : decode cX7_sizeOf 4 = .ok (.iload_n 1, 1) := by decide +kernel
theorem dX7_sizeOf_5 : decode cX7_sizeOf 5 = .ok (.iaload, 1) := by decide +kernel
theorem dX7_sizeOf_6 : decode cX7_sizeOf 6 = .ok (.i2l, 1) := by decide +kernel
theorem dX7_sizeOf_7 : decode cX7_sizeOf 7 = .ok (.aload_n 0, 1) := by decide +kernel
theorem dX7_sizeOf_8 : decode cX7_sizeOf 8 = .ok (.getfield 13, 3) := by decide +kernel
theorem dX7_sizeOf_11 : decode cX7_sizeOf 11 = .ok (.i2l, 1) := by decide +kernel
theorem dX7_sizeOf_12 : decode cX7_sizeOf 12 = .ok (.lmul, 1) := by decide +kernel
theorem dX7_sizeOf_13 : decode cX7_sizeOf 13 = .ok (.aload_n 0, 1) := by decide +kernel
theorem dX7_sizeOf_14 : decode cX7_sizeOf 14 = .ok (.getfield 16, 3) := by decide +kernel
theorem dX7_sizeOf_17 : decode cX7_sizeOf 17 = .ok (.iload_n 2, 1) := by decide +kernel
theorem dX7_sizeOf_18 : decode cX7_sizeOf 18 = .ok (.iaload, 1) := by decide +kernel
theorem dX7_sizeOf_19 : decode cX7_sizeOf 19 = .ok (.i2l, 1) := by decide +kernel
theorem dX7_sizeOf_20 : decode cX7_sizeOf 20 = .ok (.lmul, 1) := by decide +kernel
theorem dX7_sizeOf_21 : decode cX7_sizeOf 21 = .ok (.ldc2_w 76, 3) := by decide +kernel
theorem dX7_sizeOf_24 : decode cX7_sizeOf 24 = .ok (.ldiv, 1) := by decide +kernel
theorem dX7_sizeOf_25 : decode cX7_sizeOf 25 = .ok (.l2i, 1) := by decide +kernel
theorem dX7_sizeOf_26 : decode cX7_sizeOf 26 = .ok (.ireturn, 1) := by decide +kernel
theorem dX7_rateAt_0 : decode cX7_rateAt 0 = .ok (.aload_n 0, 1) := by decide +kernel
theorem dX7_rateAt_1 : decode cX7_rateAt 1 = .ok (.getfield 67, 3) := by decide +kernel
theorem dX7_rateAt_4 : decode cX7_rateAt 4 = .ok (.ifCond .ne 7, 3) := by decide +kernel
theorem dX7_rateAt_7 : decode cX7_rateAt 7 = .ok (.sipush 1000, 3) := by decide +kernel
theorem dX7_rateAt_10 : decode cX7_rateAt 10 = .ok (.ireturn, 1) := by decide +kernel
theorem dX7_rateAt_11 : decode cX7_rateAt 11 = .ok (.iconst 0, 1) := by decide +kernel
theorem dX7_rateAt_12 : decode cX7_rateAt 12 = .ok (.istore_n 2, 1) := by decide +kernel
theorem dX7_rateAt_13 : decode cX7_rateAt 13 = .ok (.iload_n 2, 1) := by decide +kernel
theorem dX7_rateAt_14 : decode cX7_rateAt 14 = .ok (.aload_n 0, 1) := by decide +kernel
theorem dX7_rateAt_15 : decode cX7_rateAt 15 = .ok (.getfield 67, 3) := by decide +kernel
theorem dX7_rateAt_18 : decode cX7_rateAt 18 = .ok (.iconst 1, 1) := by decide +kernel
theorem dX7_rateAt_19 : decode cX7_rateAt 19 = .ok (.isub, 1) := by decide +kernel
theorem dX7_rateAt_20 : decode cX7_rateAt 20 = .ok (.if_icmp .ge 19, 3) := by decide +kernel
theorem dX7_rateAt_23 : decode cX7_rateAt 23 = .ok (.iload_n 1, 1) := by decide +kernel
theorem dX7_rateAt_24 : decode cX7_rateAt 24 = .ok (.aload_n 0, 1) := by decide +kernel
theorem dX7_rateAt_25 : decode cX7_rateAt 25 = .ok (.getfield 23, 3) := by decide +kernel
theorem dX7_rateAt_28 : decode cX7_rateAt 28 = .ok (.iload_n 2, 1) := by decide +kernel
theorem dX7_rateAt_29 : decode cX7_rateAt 29 = .ok (.iaload, 1) := by decide +kernel
theorem dX7_rateAt_30 : decode cX7_rateAt 30 = .ok (.if_icmp .lt 9, 3) := by decide +kernel
theorem dX7_rateAt_33 : decode cX7_rateAt 33 = .ok (.iinc 2 1, 3) := by decide +kernel
theorem dX7_rateAt_36 : decode cX7_rateAt 36 = .ok (.goto (-23), 3) := by decide +kernel
theorem dX7_rateAt_39 : decode cX7_rateAt 39 = .ok (.aload_n 0, 1) := by decide +kernel
theorem dX7_rateAt_40 : decode cX7_rateAt 40 = .ok (.getfield 26, 3) := by decide +kernel
theorem dX7_rateAt_43 : decode cX7_rateAt 43 = .ok (.iload_n 2, 1) := by decide +kernel
theorem dX7_rateAt_44 : decode cX7_rateAt 44 = .ok (.iaload, 1) := by decide +kernel
theorem dX7_rateAt_45 : decode cX7_rateAt 45 = .ok (.ireturn, 1) := by decide +kernel
theorem dX7_highest_0 : decode cX7_highest 0 = .ok (.aload_n 0, 1) := by decide +kernel
theorem dX7_highest_1 : decode cX7_highest 1 = .ok (.getfield 44, 3) := by decide +kernel
theorem dX7_highest_4 : decode cX7_highest 4 = .ok (.aload_n 0, 1) := by decide +kernel
theorem dX7_highest_5 : decode cX7_highest 5 = .ok (.getfield 63, 3) := by decide +kernel
theorem dX7_highest_8 : decode cX7_highest 8 = .ok (.iconst 1, 1) := by decide +kernel
theorem dX7_highest_9 : decode cX7_highest 9 = .ok (.isub, 1) := by decide +kernel
theorem dX7_highest_10 : decode cX7_highest 10 = .ok (.if_icmp .ge 10, 3) := by decide +kernel
theorem dX7_highest_13 : decode cX7_highest 13 = .ok (.aload_n 0, 1) := by decide +kernel
theorem dX7_highest_14 : decode cX7_highest 14 = .ok (.getfield 44, 3) := by decide +kernel
theorem dX7_highest_17 : decode cX7_highest 17 = .ok (.goto 9, 3) := by decide +kernel
theorem dX7_highest_20 : decode cX7_highest 20 = .ok (.aload_n 0, 1) := by decide +kernel
theorem dX7_highest_21 : decode cX7_highest 21 = .ok (.getfield 63, 3) := by decide +kernel
theorem dX7_highest_24 : decode cX7_highest 24 = .ok (.iconst 1, 1) := by decide +kernel
theorem dX7_highest_25 : decode cX7_highest 25 = .ok (.isub, 1) := by decide +kernel
theorem dX7_highest_26 : decode cX7_highest 26 = .ok (.ireturn, 1) := by decide +kernel
theorem dX7_estimate_0 : decode cX7_estimate 0 = .ok (.aload_n 0, 1) := by decide +kernel
theorem dX7_estimate_1 : decode cX7_estimate 1 = .ok (.getfield 47, 3) := by decide +kernel
theorem dX7_estimate_4 : decode cX7_estimate 4 = .ok (.bipush 11, 2) := by decide +kernel
theorem dX7_estimate_6 : decode cX7_estimate 6 = .ok (.iaload, 1) := by decide +kernel
theorem dX7_estimate_7 : decode cX7_estimate 7 = .ok (.ifCond .ne 6, 3) := by decide +kernel
theorem dX7_estimate_10 : decode cX7_estimate 10 = .ok (.bipush (-6), 2) := by decide +kernel
theorem dX7_estimate_12 : decode cX7_estimate 12 = .ok (.ireturn, 1) := by decide +kernel
theorem dX7_estimate_13 : decode cX7_estimate 13 = .ok (.aload_n 0, 1) := by decide +kernel
theorem dX7_estimate_14 : decode cX7_estimate 14 = .ok (.getfield 47, 3) := by decide +kernel
theorem dX7_estimate_17 : decode cX7_estimate 17 = .ok (.bipush 11, 2) := by decide +kernel
theorem dX7_estimate_19 : decode cX7_estimate 19 = .ok (.iaload, 1) := by decide +kernel
theorem dX7_estimate_20 : decode cX7_estimate 20 = .ok (.iconst 3, 1) := by decide +kernel
theorem dX7_estimate_21 : decode cX7_estimate 21 = .ok (.if_icmp .ge 13, 3) := by decide +kernel
theorem dX7_estimate_24 : decode cX7_estimate 24 = .ok (.aload_n 0, 1) := by decide +kernel
theorem dX7_estimate_25 : decode cX7_estimate 25 = .ok (.getfield 47, 3) := by decide +kernel
theorem dX7_estimate_28 : decode cX7_estimate 28 = .ok (.bipush 11, 2) := by decide +kernel
theorem dX7_estimate_30 : decode cX7_estimate 30 = .ok (.iaload, 1) := by decide +kernel
theorem dX7_estimate_31 : decode cX7_estimate 31 = .ok (.goto 4, 3) := by decide +kernel
theorem dX7_estimate_34 : decode cX7_estimate 34 = .ok (.iconst 3, 1) := by decide +kernel
theorem dX7_estimate_35 : decode cX7_estimate 35 = .ok (.istore_n 1, 1) := by decide +kernel
theorem dX7_estimate_36 : decode cX7_estimate 36 = .ok (.iconst 0, 1) := by decide +kernel
theorem dX7_estimate_37 : decode cX7_estimate 37 = .ok (.istore_n 2, 1) := by decide +kernel
theorem dX7_estimate_38 : decode cX7_estimate 38 = .ok (.iconst 0, 1) := by decide +kernel
theorem dX7_estimate_39 : decode cX7_estimate 39 = .ok (.istore_n 3, 1) := by decide +kernel
theorem dX7_estimate_40 : decode cX7_estimate 40 = .ok (.iload_n 3, 1) := by decide +kernel
theorem dX7_estimate_41 : decode cX7_estimate 41 = .ok (.iload_n 1, 1) := by decide +kernel
theorem dX7_estimate_42 : decode cX7_estimate 42 = .ok (.if_icmp .ge 21, 3) := by decide +kernel
theorem dX7_estimate_45 : decode cX7_estimate 45 = .ok (.iload_n 2, 1) := by decide +kernel
theorem dX7_estimate_46 : decode cX7_estimate 46 = .ok (.aload_n 0, 1) := by decide +kernel
theorem dX7_estimate_47 : decode cX7_estimate 47 = .ok (.getfield 47, 3) := by decide +kernel
theorem dX7_estimate_50 : decode cX7_estimate 50 = .ok (.bipush 12, 2) := by decide +kernel
theorem dX7_estimate_52 : decode cX7_estimate 52 = .ok (.iload_n 3, 1) := by decide +kernel
theorem dX7_estimate_53 : decode cX7_estimate 53 = .ok (.iadd, 1) := by decide +kernel
theorem dX7_estimate_54 : decode cX7_estimate 54 = .ok (.iaload, 1) := by decide +kernel
theorem dX7_estimate_55 : decode cX7_estimate 55 = .ok (.iadd, 1) := by decide +kernel
theorem dX7_estimate_56 : decode cX7_estimate 56 = .ok (.istore_n 2, 1) := by decide +kernel
theorem dX7_estimate_57 : decode cX7_estimate 57 = .ok (.iinc 3 1, 3) := by decide +kernel
theorem dX7_estimate_60 : decode cX7_estimate 60 = .ok (.goto (-20), 3) := by decide +kernel
theorem dX7_estimate_63 : decode cX7_estimate 63 = .ok (.iload_n 2, 1) := by decide +kernel
theorem dX7_estimate_64 : decode cX7_estimate 64 = .ok (.iload_n 1, 1) := by decide +kernel
theorem dX7_estimate_65 : decode cX7_estimate 65 = .ok (.idiv, 1) := by decide +kernel
theorem dX7_estimate_66 : decode cX7_estimate 66 = .ok (.ireturn, 1) := by decide +kernel
theorem dX7_levelByRate_0 : decode cX7_levelByRate 0 = .ok (.aload_n 0, 1) := by decide +kernel
theorem dX7_levelByRate_1 : decode cX7_levelByRate 1 = .ok (.invokevirtual 126, 3) := by decide +kernel
theorem dX7_levelByRate_4 : decode cX7_levelByRate 4 = .ok (.istore_n 1, 1) := by decide +kernel
theorem dX7_levelByRate_5 : decode cX7_levelByRate 5 = .ok (.iconst 0, 1) := by decide +kernel
theorem dX7_levelByRate_6 : decode cX7_levelByRate 6 = .ok (.istore_n 2, 1) := by decide +kernel
theorem dX7_levelByRate_7 : decode cX7_levelByRate 7 = .ok (.iconst 1, 1) := by decide +kernel
theorem dX7_levelByRate_8 : decode cX7_levelByRate 8 = .ok (.istore_n 3, 1) := by decide +kernel
theorem dX7_levelByRate_9 : decode cX7_levelByRate 9 = .ok (.iload_n 3, 1) := by decide +kernel
theorem dX7_levelByRate_10 : decode cX7_levelByRate 10 = .ok (.aload_n 0, 1) := by decide +kernel
theorem dX7_levelByRate_11 : decode cX7_levelByRate 11 = .ok (.invokevirtual 130, 3) := by decide +kernel
theorem dX7_levelByRate_14 : decode cX7_levelByRate 14 = .ok (.if_icmp .gt 44, 3) := by decide +kernel
theorem dX7_levelByRate_17 : decode cX7_levelByRate 17 = .ok (.iload_n 1, 1) := by decide +kernel
theorem dX7_levelByRate_18 : decode cX7_levelByRate 18 = .ok (.bipush (-6), 2) := by decide +kernel
theorem dX7_levelByRate_20 : decode cX7_levelByRate 20 = .ok (.if_icmp .eq 38, 3) := by decide +kernel
theorem dX7_levelByRate_23 : decode cX7_levelByRate 23 = .ok (.aload_n 0, 1) := by decide +kernel
theorem dX7_levelByRate_24 : decode cX7_levelByRate 24 = .ok (.getfield 20, 3) := by decide +kernel
theorem dX7_levelByRate_27 : decode cX7_levelByRate 27 = .ok (.iload_n 3, 1) := by decide +kernel
theorem dX7_levelByRate_28 : decode cX7_levelByRate 28 = .ok (.iaload, 1) := by decide +kernel
theorem dX7_levelByRate_29 : decode cX7_levelByRate 29 = .ok (.i2l, 1) := by decide +kernel
theorem dX7_levelByRate_30 : decode cX7_levelByRate 30 = .ok (.iload_n 1, 1) := by decide +kernel
theorem dX7_levelByRate_31 : decode cX7_levelByRate 31 = .ok (.i2l, 1) := by decide +kernel
theorem dX7_levelByRate_32 : decode cX7_levelByRate 32 = .ok (.aload_n 0, 1) := by decide +kernel
theorem dX7_levelByRate_33 : decode cX7_levelByRate 33 = .ok (.getfield 35, 3) := by decide +kernel
theorem dX7_levelByRate_36 : decode cX7_levelByRate 36 = .ok (.i2l, 1) := by decide +kernel
theorem dX7_levelByRate_37 : decode cX7_levelByRate 37 = .ok (.lmul, 1) := by decide +kernel
theorem dX7_levelByRate_38 : decode cX7_levelByRate 38 = .ok (.ldc2_w 76, 3) := by decide +kernel
theorem dX7_levelByRate_41 : decode cX7_levelByRate 41 = .ok (.ldiv, 1) := by decide +kernel
theorem dX7_levelByRate_42 : decode cX7_levelByRate 42 = .ok (.lcmp, 1) := by decide +kernel
theorem dX7_levelByRate_43 : decode cX7_levelByRate 43 = .ok (.ifCond .gt 7, 3) := by decide +kernel
theorem dX7_levelByRate_46 : decode cX7_levelByRate 46 = .ok (.iload_n 3, 1) := by decide +kernel
theorem dX7_levelByRate_47 : decode cX7_levelByRate 47 = .ok (.goto 4, 3) := by decide +kernel
theorem dX7_levelByRate_50 : decode cX7_levelByRate 50 = .ok (.iload_n 2, 1) := by decide +kernel
theorem dX7_levelByRate_51 : decode cX7_levelByRate 51 = .ok (.istore_n 2, 1) := by decide +kernel
theorem dX7_levelByRate_52 : decode cX7_levelByRate 52 = .ok (.iinc 3 1, 3) := by decide +kernel
theorem dX7_levelByRate_55 : decode cX7_levelByRate 55 = .ok (.goto (-46), 3) := by decide +kernel
theorem dX7_levelByRate_58 : decode cX7_levelByRate 58 = .ok (.iload_n 2, 1) := by decide +kernel
theorem dX7_levelByRate_59 : decode cX7_levelByRate 59 = .ok (.ireturn, 1) := by decide +kernel
theorem dX7_levelByBuffer_0 : decode cX7_levelByBuffer 0 = .ok (.aload_n 0, 1) := by decide +kernel
theorem dX7_levelByBuffer_1 : decode cX7_levelByBuffer 1 = .ok (.getfield 47, 3) := by decide +kernel
theorem dX7_levelByBuffer_4 : decode cX7_levelByBuffer 4 = .ok (.iconst 1, 1) := by decide +kernel
theorem dX7_levelByBuffer_5 : decode cX7_levelByBuffer 5 = .ok (.iaload, 1) := by decide +kernel
theorem dX7_levelByBuffer_6 : decode cX7_levelByBuffer 6 = .ok (.istore_n 1, 1) := by decide +kernel
theorem dX7_levelByBuffer_7 : decode cX7_levelByBuffer 7 = .ok (.iload_n 1, 1) := by decide +kernel
theorem dX7_levelByBuffer_8 : decode cX7_levelByBuffer 8 = .ok (.aload_n 0, 1) := by decide +kernel
theorem dX7_levelByBuffer_9 : decode cX7_levelByBuffer 9 = .ok (.getfield 38, 3) := by decide +kernel
theorem dX7_levelByBuffer_12 : decode cX7_levelByBuffer 12 = .ok (.if_icmp .gt 5, 3) := by decide +kernel
theorem dX7_levelByBuffer_15 : decode cX7_levelByBuffer 15 = .ok (.iconst 0, 1) := by decide +kernel
theorem dX7_levelByBuffer_16 : decode cX7_levelByBuffer 16 = .ok (.ireturn, 1) := by decide +kernel
theorem dX7_levelByBuffer_17 : decode cX7_levelByBuffer 17 = .ok (.iload_n 1, 1) := by decide +kernel
theorem dX7_levelByBuffer_18 : decode cX7_levelByBuffer 18 = .ok (.aload_n 0, 1) := by decide +kernel
theorem dX7_levelByBuffer_19 : decode cX7_levelByBuffer 19 = .ok (.getfield 38, 3) := by decide +kernel
theorem dX7_levelByBuffer_22 : decode cX7_levelByBuffer 22 = .ok (.aload_n 0, 1) := by decide +kernel
theorem dX7_levelByBuffer_23 : decode cX7_levelByBuffer 23 = .ok (.getfield 41, 3) := by decide +kernel
theorem dX7_levelByBuffer_26 : decode cX7_levelByBuffer 26 = .ok (.iadd, 1) := by decide +kernel
theorem dX7_levelByBuffer_27 : decode cX7_levelByBuffer 27 = .ok (.if_icmp .lt 10, 3) := by decide +kernel
theorem dX7_levelByBuffer_30 : decode cX7_levelByBuffer 30 = .ok (.aload_n 0, 1) := by decide +kernel
theorem dX7_levelByBuffer_31 : decode cX7_levelByBuffer 31 = .ok (.invokevirtual 130, 3) := by decide +kernel
theorem dX7_levelByBuffer_34 : decode cX7_levelByBuffer 34 = .ok (.goto 19, 3) := by decide +kernel
theorem dX7_levelByBuffer_37 : decode cX7_levelByBuffer 37 = .ok (.iload_n 1, 1) := by decide +kernel
theorem dX7_levelByBuffer_38 : decode cX7_levelByBuffer 38 = .ok (.aload_n 0, 1) := by decide +kernel
theorem dX7_levelByBuffer_39 : decode cX7_levelByBuffer 39 = .ok (.getfield 38, 3) := by decide +kernel
theorem dX7_levelByBuffer_42 : decode cX7_levelByBuffer 42 = .ok (.isub, 1) := by decide +kernel
theorem dX7_levelByBuffer_43 : decode cX7_levelByBuffer 43 = .ok (.aload_n 0, 1) := by decide +kernel
theorem dX7_levelByBuffer_44 : decode cX7_levelByBuffer 44 = .ok (.invokevirtual 130, 3) := by decide +kernel
theorem dX7_levelByBuffer_47 : decode cX7_levelByBuffer 47 = .ok (.imul, 1) := by decide +kernel
theorem dX7_levelByBuffer_48 : decode cX7_levelByBuffer 48 = .ok (.aload_n 0, 1) := by decide +kernel
theorem dX7_levelByBuffer_49 : decode cX7_levelByBuffer 49 = .ok (.getfield 41, 3) := by decide +kernel
theorem dX7_levelByBuffer_52 : decode cX7_levelByBuffer 52 = .ok (.idiv, 1) := by decide +kernel
theorem dX7_levelByBuffer_53 : decode cX7_levelByBuffer 53 = .ok (.ireturn, 1) := by decide +kernel
theorem dX7_levelOfBoth_0 : decode cX7_levelOfBoth 0 = .ok (.aload_n 0, 1) := by decide +kernel
theorem dX7_levelOfBoth_1 : decode cX7_levelOfBoth 1 = .ok (.invokevirtual 133, 3) := by decide +kernel
theorem dX7_levelOfBoth_4 : decode cX7_levelOfBoth 4 = .ok (.aload_n 0, 1) := by decide +kernel
theorem dX7_levelOfBoth_5 : decode cX7_levelOfBoth 5 = .ok (.invokevirtual 136, 3) := by decide +kernel
theorem dX7_levelOfBoth_8 : decode cX7_levelOfBoth 8 = .ok (.if_icmp .ge 10, 3) := by decide +kernel
theorem dX7_levelOfBoth_11 : decode cX7_levelOfBoth 11 = .ok (.aload_n 0, 1) := by decide +kernel
theorem dX7_levelOfBoth_12 : decode cX7_levelOfBoth 12 = .ok (.invokevirtual 133, 3) := by decide +kernel
theorem dX7_levelOfBoth_15 : decode cX7_levelOfBoth 15 = .ok (.goto 7, 3) := by decide +kernel
theorem dX7_levelOfBoth_18 : decode cX7_levelOfBoth 18 = .ok (.aload_n 0, 1) := by decide +kernel
theorem dX7_levelOfBoth_19 : decode cX7_levelOfBoth 19 = .ok (.invokevirtual 136, 3) := by decide +kernel
theorem dX7_levelOfBoth_22 : decode cX7_levelOfBoth 22 = .ok (.istore_n 1, 1) := by decide +kernel
theorem dX7_levelOfBoth_23 : decode cX7_levelOfBoth 23 = .ok (.aload_n 0, 1) := by decide +kernel
theorem dX7_levelOfBoth_24 : decode cX7_levelOfBoth 24 = .ok (.getfield 47, 3) := by decide +kernel
theorem dX7_levelOfBoth_27 : decode cX7_levelOfBoth 27 = .ok (.bipush 15, 2) := by decide +kernel
theorem dX7_levelOfBoth_29 : decode cX7_levelOfBoth 29 = .ok (.iaload, 1) := by decide +kernel
theorem dX7_levelOfBoth_30 : decode cX7_levelOfBoth 30 = .ok (.bipush (-6), 2) := by decide +kernel
theorem dX7_levelOfBoth_32 : decode cX7_levelOfBoth 32 = .ok (.if_icmp .eq 28, 3) := by decide +kernel
theorem dX7_levelOfBoth_35 : decode cX7_levelOfBoth 35 = .ok (.iload_n 1, 1) := by decide +kernel
theorem dX7_levelOfBoth_36 : decode cX7_levelOfBoth 36 = .ok (.aload_n 0, 1) := by decide +kernel
theorem dX7_levelOfBoth_37 : decode cX7_levelOfBoth 37 = .ok (.getfield 47, 3) := by decide +kernel
theorem dX7_levelOfBoth_40 : decode cX7_levelOfBoth 40 = .ok (.bipush 15, 2) := by decide +kernel
theorem dX7_levelOfBoth_42 : decode cX7_levelOfBoth 42 = .ok (.iaload, 1) := by decide +kernel
theorem dX7_levelOfBoth_43 : decode cX7_levelOfBoth 43 = .ok (.iconst 1, 1) := by decide +kernel
theorem dX7_levelOfBoth_44 : decode cX7_levelOfBoth 44 = .ok (.iadd, 1) := by decide +kernel
theorem dX7_levelOfBoth_45 : decode cX7_levelOfBoth 45 = .ok (.if_icmp .le 15, 3) := by decide +kernel
theorem dX7_levelOfBoth_48 : decode cX7_levelOfBoth 48 = .ok (.aload_n 0, 1) := by decide +kernel
theorem dX7_levelOfBoth_49 : decode cX7_levelOfBoth 49 = .ok (.getfield 47, 3) := by decide +kernel
theorem dX7_levelOfBoth_52 : decode cX7_levelOfBoth 52 = .ok (.bipush 15, 2) := by decide +kernel
theorem dX7_levelOfBoth_54 : decode cX7_levelOfBoth 54 = .ok (.iaload, 1) := by decide +kernel
theorem dX7_levelOfBoth_55 : decode cX7_levelOfBoth 55 = .ok (.iconst 1, 1) := by decide +kernel
theorem dX7_levelOfBoth_56 : decode cX7_levelOfBoth 56 = .ok (.iadd, 1) := by decide +kernel
theorem dX7_levelOfBoth_57 : decode cX7_levelOfBoth 57 = .ok (.goto 4, 3) := by decide +kernel
theorem dX7_levelOfBoth_60 : decode cX7_levelOfBoth 60 = .ok (.iload_n 1, 1) := by decide +kernel
theorem dX7_levelOfBoth_61 : decode cX7_levelOfBoth 61 = .ok (.ireturn, 1) := by decide +kernel
theorem dX7_chosen_0 : decode cX7_chosen 0 = .ok (.iload_n 1, 1) := by decide +kernel
theorem dX7_chosen_1 : decode cX7_chosen 1 = .ok (.ifCond .ne 10, 3) := by decide +kernel
theorem dX7_chosen_4 : decode cX7_chosen 4 = .ok (.aload_n 0, 1) := by decide +kernel
theorem dX7_chosen_5 : decode cX7_chosen 5 = .ok (.invokevirtual 130, 3) := by decide +kernel
theorem dX7_chosen_8 : decode cX7_chosen 8 = .ok (.goto 31, 3) := by decide +kernel
theorem dX7_chosen_11 : decode cX7_chosen 11 = .ok (.iload_n 1, 1) := by decide +kernel
theorem dX7_chosen_12 : decode cX7_chosen 12 = .ok (.iconst 1, 1) := by decide +kernel
theorem dX7_chosen_13 : decode cX7_chosen 13 = .ok (.if_icmp .ne 10, 3) := by decide +kernel
theorem dX7_chosen_16 : decode cX7_chosen 16 = .ok (.aload_n 0, 1) := by decide +kernel
theorem dX7_chosen_17 : decode cX7_chosen 17 = .ok (.invokevirtual 133, 3) := by decide +kernel
theorem dX7_chosen_20 : decode cX7_chosen 20 = .ok (.goto 19, 3) := by decide +kernel
theorem dX7_chosen_23 : decode cX7_chosen 23 = .ok (.iload_n 1, 1) := by decide +kernel
theorem dX7_chosen_24 : decode cX7_chosen 24 = .ok (.iconst 2, 1) := by decide +kernel
theorem dX7_chosen_25 : decode cX7_chosen 25 = .ok (.if_icmp .ne 10, 3) := by decide +kernel
theorem dX7_chosen_28 : decode cX7_chosen 28 = .ok (.aload_n 0, 1) := by decide +kernel
theorem dX7_chosen_29 : decode cX7_chosen 29 = .ok (.invokevirtual 136, 3) := by decide +kernel
theorem dX7_chosen_32 : decode cX7_chosen 32 = .ok (.goto 7, 3) := by decide +kernel
theorem dX7_chosen_35 : decode cX7_chosen 35 = .ok (.aload_n 0, 1) := by decide +kernel
theorem dX7_chosen_36 : decode cX7_chosen 36 = .ok (.invokevirtual 139, 3) := by decide +kernel
theorem dX7_chosen_39 : decode cX7_chosen 39 = .ok (.ireturn, 1) := by decide +kernel
theorem dX7_startsDownload_0 : decode cX7_startsDownload 0 = .ok (.aload_n 0, 1) := by decide +kernel
theorem dX7_startsDownload_1 : decode cX7_startsDownload 1 = .ok (.getfield 47, 3) := by decide +kernel
theorem dX7_startsDownload_4 : decode cX7_startsDownload 4 = .ok (.bipush 6, 2) := by decide +kernel
theorem dX7_startsDownload_6 : decode cX7_startsDownload 6 = .ok (.iaload, 1) := by decide +kernel
theorem dX7_startsDownload_7 : decode cX7_startsDownload 7 = .ok (.ifCond .ne 94, 3) := by decide +kernel
theorem dX7_startsDownload_10 : decode cX7_startsDownload 10 = .ok (.aload_n 0, 1) := by decide +kernel
theorem dX7_startsDownload_11 : decode cX7_startsDownload 11 = .ok (.getfield 47, 3) := by decide +kernel
theorem dX7_startsDownload_14 : decode cX7_startsDownload 14 = .ok (.iconst 5, 1) := by decide +kernel
theorem dX7_startsDownload_15 : decode cX7_startsDownload 15 = .ok (.iaload, 1) := by decide +kernel
theorem dX7_startsDownload_16 : decode cX7_startsDownload 16 = .ok (.aload_n 0, 1) := by decide +kernel
theorem dX7_startsDownload_17 : decode cX7_startsDownload 17 = .ok (.getfield 7, 3) := by decide +kernel
theorem dX7_startsDownload_20 : decode cX7_startsDownload 20 = .ok (.if_icmp .ge 81, 3) := by decide +kernel
theorem dX7_startsDownload_23 : decode cX7_startsDownload 23 = .ok (.aload_n 0, 1) := by decide +kernel
theorem dX7_startsDownload_24 : decode cX7_startsDownload 24 = .ok (.getfield 47, 3) := by decide +kernel
theorem dX7_startsDownload_27 : decode cX7_startsDownload 27 = .ok (.iconst 1, 1) := by decide +kernel
theorem dX7_startsDownload_28 : decode cX7_startsDownload 28 = .ok (.iaload, 1) := by decide +kernel
theorem dX7_startsDownload_29 : decode cX7_startsDownload 29 = .ok (.aload_n 0, 1) := by decide +kernel
theorem dX7_startsDownload_30 : decode cX7_startsDownload 30 = .ok (.getfield 13, 3) := by decide +kernel
theorem dX7_startsDownload_33 : decode cX7_startsDownload 33 = .ok (.iadd, 1) := by decide +kernel
theorem dX7_startsDownload_34 : decode cX7_startsDownload 34 = .ok (.aload_n 0, 1) := by decide +kernel
theorem dX7_startsDownload_35 : decode cX7_startsDownload 35 = .ok (.getfield 29, 3) := by decide +kernel
theorem dX7_startsDownload_38 : decode cX7_startsDownload 38 = .ok (.if_icmp .gt 63, 3) := by decide +kernel
theorem dX7_startsDownload_41 : decode cX7_startsDownload 41 = .ok (.aload_n 0, 1) := by decide +kernel
theorem dX7_startsDownload_42 : decode cX7_startsDownload 42 = .ok (.getfield 47, 3) := by decide +kernel
theorem dX7_startsDownload_45 : decode cX7_startsDownload 45 = .ok (.bipush 6, 2) := by decide +kernel
theorem dX7_startsDownload_47 : decode cX7_startsDownload 47 = .ok (.iconst 1, 1) := by decide +kernel
theorem dX7_startsDownload_48 : decode cX7_startsDownload 48 = .ok (.iastore, 1) := by decide +kernel
theorem dX7_startsDownload_49 : decode cX7_startsDownload 49 = .ok (.aload_n 0, 1) := by decide +kernel
theorem dX7_startsDownload_50 : decode cX7_startsDownload 50 = .ok (.getfield 47, 3) := by decide +kernel
theorem dX7_startsDownload_53 : decode cX7_startsDownload 53 = .ok (.bipush 7, 2) := by decide +kernel
theorem dX7_startsDownload_55 : decode cX7_startsDownload 55 = .ok (.aload_n 0, 1) := by decide +kernel
theorem dX7_startsDownload_56 : decode cX7_startsDownload 56 = .ok (.iload_n 1, 1) := by decide +kernel
theorem dX7_startsDownload_57 : decode cX7_startsDownload 57 = .ok (.invokevirtual 142, 3) := by decide +kernel
theorem dX7_startsDownload_60 : decode cX7_startsDownload 60 = .ok (.iastore, 1) := by decide +kernel
theorem dX7_startsDownload_61 : decode cX7_startsDownload 61 = .ok (.aload_n 0, 1) := by decide +kernel
theorem dX7_startsDownload_62 : decode cX7_startsDownload 62 = .ok (.getfield 47, 3) := by decide +kernel
theorem dX7_startsDownload_65 : decode cX7_startsDownload 65 = .ok (.bipush 8, 2) := by decide +kernel
theorem dX7_startsDownload_67 : decode cX7_startsDownload 67 = .ok (.aload_n 0, 1) := by decide +kernel
theorem dX7_startsDownload_68 : decode cX7_startsDownload 68 = .ok (.aload_n 0, 1) := by decide +kernel
theorem dX7_startsDownload_69 : decode cX7_startsDownload 69 = .ok (.getfield 47, 3) := by decide +kernel
theorem dX7_startsDownload_72 : decode cX7_startsDownload 72 = .ok (.bipush 7, 2) := by decide +kernel
theorem dX7_startsDownload_74 : decode cX7_startsDownload 74 = .ok (.iaload, 1) := by decide +kernel
theorem dX7_startsDownload_75 : decode cX7_startsDownload 75 = .ok (.aload_n 0, 1) := by decide +kernel
theorem dX7_startsDownload_76 : decode cX7_startsDownload 76 = .ok (.getfield 47, 3) := by decide +kernel
theorem dX7_startsDownload_79 : decode cX7_startsDownload 79 = .ok (.iconst 5, 1) := by decide +kernel
theorem dX7_startsDownload_80 : decode cX7_startsDownload 80 = .ok (.iaload, 1) := by decide +kernel
theorem dX7_startsDownload_81 : decode cX7_startsDownload 81 = .ok (.invokevirtual 145, 3) := by decide +kernel
theorem dX7_startsDownload_84 : decode cX7_startsDownload 84 = .ok (.iastore, 1) := by decide +kernel
theorem dX7_startsDownload_85 : decode cX7_startsDownload 85 = .ok (.aload_n 0, 1) := by decide +kernel
theorem dX7_startsDownload_86 : decode cX7_startsDownload 86 = .ok (.getfield 47, 3) := by decide +kernel
theorem dX7_startsDownload_89 : decode cX7_startsDownload 89 = .ok (.bipush 9, 2) := by decide +kernel
theorem dX7_startsDownload_91 : decode cX7_startsDownload 91 = .ok (.iconst 0, 1) := by decide +kernel
theorem dX7_startsDownload_92 : decode cX7_startsDownload 92 = .ok (.iastore, 1) := by decide +kernel
theorem dX7_startsDownload_93 : decode cX7_startsDownload 93 = .ok (.aload_n 0, 1) := by decide +kernel
theorem dX7_startsDownload_94 : decode cX7_startsDownload 94 = .ok (.getfield 47, 3) := by decide +kernel
theorem dX7_startsDownload_97 : decode cX7_startsDownload 97 = .ok (.bipush 10, 2) := by decide +kernel
theorem dX7_startsDownload_99 : decode cX7_startsDownload 99 = .ok (.iconst 0, 1) := by decide +kernel
theorem dX7_startsDownload_100 : decode cX7_startsDownload 100 = .ok (.iastore, 1) := by decide +kernel
theorem dX7_startsDownload_101 : decode cX7_startsDownload 101 = .ok (.return_, 1) := by decide +kernel
theorem dX7_completes_0 : decode cX7_completes 0 = .ok (.aload_n 0, 1) := by decide +kernel
theorem dX7_completes_1 : decode cX7_completes 1 = .ok (.getfield 47, 3) := by decide +kernel
theorem dX7_completes_4 : decode cX7_completes 4 = .ok (.bipush 14, 2) := by decide +kernel
theorem dX7_completes_6 : decode cX7_completes 6 = .ok (.aload_n 0, 1) := by decide +kernel
theorem dX7_completes_7 : decode cX7_completes 7 = .ok (.getfield 47, 3) := by decide +kernel
theorem dX7_completes_10 : decode cX7_completes 10 = .ok (.bipush 13, 2) := by decide +kernel
theorem dX7_completes_12 : decode cX7_completes 12 = .ok (.iaload, 1) := by decide +kernel
theorem dX7_completes_13 : decode cX7_completes 13 = .ok (.iastore, 1) := by decide +kernel
theorem dX7_completes_14 : decode cX7_completes 14 = .ok (.aload_n 0, 1) := by decide +kernel
theorem dX7_completes_15 : decode cX7_completes 15 = .ok (.getfield 47, 3) := by decide +kernel
theorem dX7_completes_18 : decode cX7_completes 18 = .ok (.bipush 13, 2) := by decide +kernel
theorem dX7_completes_20 : decode cX7_completes 20 = .ok (.aload_n 0, 1) := by decide +kernel
theorem dX7_completes_21 : decode cX7_completes 21 = .ok (.getfield 47, 3) := by decide +kernel
theorem dX7_completes_24 : decode cX7_completes 24 = .ok (.bipush 12, 2) := by decide +kernel
theorem dX7_completes_26 : decode cX7_completes 26 = .ok (.iaload, 1) := by decide +kernel
theorem dX7_completes_27 : decode cX7_completes 27 = .ok (.iastore, 1) := by decide +kernel
theorem dX7_completes_28 : decode cX7_completes 28 = .ok (.aload_n 0, 1) := by decide +kernel
theorem dX7_completes_29 : decode cX7_completes 29 = .ok (.getfield 47, 3) := by decide +kernel
theorem dX7_completes_32 : decode cX7_completes 32 = .ok (.bipush 12, 2) := by decide +kernel
theorem dX7_completes_34 : decode cX7_completes 34 = .ok (.aload_n 0, 1) := by decide +kernel
theorem dX7_completes_35 : decode cX7_completes 35 = .ok (.getfield 47, 3) := by decide +kernel
theorem dX7_completes_38 : decode cX7_completes 38 = .ok (.bipush 8, 2) := by decide +kernel
theorem dX7_completes_40 : decode cX7_completes 40 = .ok (.iaload, 1) := by decide +kernel
theorem dX7_completes_41 : decode cX7_completes 41 = .ok (.aload_n 0, 1) := by decide +kernel
theorem dX7_completes_42 : decode cX7_completes 42 = .ok (.getfield 47, 3) := by decide +kernel
theorem dX7_completes_45 : decode cX7_completes 45 = .ok (.bipush 10, 2) := by decide +kernel
theorem dX7_completes_47 : decode cX7_completes 47 = .ok (.iaload, 1) := by decide +kernel
theorem dX7_completes_48 : decode cX7_completes 48 = .ok (.idiv, 1) := by decide +kernel
theorem dX7_completes_49 : decode cX7_completes 49 = .ok (.iastore, 1) := by decide +kernel
theorem dX7_completes_50 : decode cX7_completes 50 = .ok (.aload_n 0, 1) := by decide +kernel
theorem dX7_completes_51 : decode cX7_completes 51 = .ok (.getfield 47, 3) := by decide +kernel
theorem dX7_completes_54 : decode cX7_completes 54 = .ok (.bipush 11, 2) := by decide +kernel
theorem dX7_completes_56 : decode cX7_completes 56 = .ok (.dup2, 1) := by decide +kernel
theorem dX7_completes_57 : decode cX7_completes 57 = .ok (.iaload, 1) := by decide +kernel
theorem dX7_completes_58 : decode cX7_completes 58 = .ok (.iconst 1, 1) := by decide +kernel
theorem dX7_completes_59 : decode cX7_completes 59 = .ok (.iadd, 1) := by decide +kernel
theorem dX7_completes_60 : decode cX7_completes 60 = .ok (.iastore, 1) := by decide +kernel
theorem dX7_completes_61 : decode cX7_completes 61 = .ok (.aload_n 0, 1) := by decide +kernel
theorem dX7_completes_62 : decode cX7_completes 62 = .ok (.getfield 47, 3) := by decide +kernel
theorem dX7_completes_65 : decode cX7_completes 65 = .ok (.bipush 16, 2) := by decide +kernel
theorem dX7_completes_67 : decode cX7_completes 67 = .ok (.dup2, 1) := by decide +kernel
theorem dX7_completes_68 : decode cX7_completes 68 = .ok (.iaload, 1) := by decide +kernel
theorem dX7_completes_69 : decode cX7_completes 69 = .ok (.aload_n 0, 1) := by decide +kernel
theorem dX7_completes_70 : decode cX7_completes 70 = .ok (.getfield 47, 3) := by decide +kernel
theorem dX7_completes_73 : decode cX7_completes 73 = .ok (.bipush 15, 2) := by decide +kernel
theorem dX7_completes_75 : decode cX7_completes 75 = .ok (.iaload, 1) := by decide +kernel
theorem dX7_completes_76 : decode cX7_completes 76 = .ok (.bipush (-6), 2) := by decide +kernel
theorem dX7_completes_78 : decode cX7_completes 78 = .ok (.if_icmp .eq 24, 3) := by decide +kernel
theorem dX7_completes_81 : decode cX7_completes 81 = .ok (.aload_n 0, 1) := by decide +kernel
theorem dX7_completes_82 : decode cX7_completes 82 = .ok (.getfield 47, 3) := by decide +kernel
theorem dX7_completes_85 : decode cX7_completes 85 = .ok (.bipush 15, 2) := by decide +kernel
theorem dX7_completes_87 : decode cX7_completes 87 = .ok (.iaload, 1) := by decide +kernel
theorem dX7_completes_88 : decode cX7_completes 88 = .ok (.aload_n 0, 1) := by decide +kernel
theorem dX7_completes_89 : decode cX7_completes 89 = .ok (.getfield 47, 3) := by decide +kernel
theorem dX7_completes_92 : decode cX7_completes 92 = .ok (.bipush 7, 2) := by decide +kernel
theorem dX7_completes_94 : decode cX7_completes 94 = .ok (.iaload, 1) := by decide +kernel
theorem dX7_completes_95 : decode cX7_completes 95 = .ok (.if_icmp .eq 7, 3) := by decide +kernel
theorem dX7_completes_98 : decode cX7_completes 98 = .ok (.iconst 1, 1) := by decide +kernel
theorem dX7_completes_99 : decode cX7_completes 99 = .ok (.goto 4, 3) := by decide +kernel
theorem dX7_completes_102 : decode cX7_completes 102 = .ok (.iconst 0, 1) := by decide +kernel
theorem dX7_completes_103 : decode cX7_completes 103 = .ok (.iadd, 1) := by decide +kernel
theorem dX7_completes_104 : decode cX7_completes 104 = .ok (.iastore, 1) := by decide +kernel
theorem dX7_completes_105 : decode cX7_completes 105 = .ok (.aload_n 0, 1) := by decide +kernel
theorem dX7_completes_106 : decode cX7_completes 106 = .ok (.getfield 47, 3) := by decide +kernel
theorem dX7_completes_109 : decode cX7_completes 109 = .ok (.bipush 15, 2) := by decide +kernel
theorem dX7_completes_111 : decode cX7_completes 111 = .ok (.aload_n 0, 1) := by decide +kernel
theorem dX7_completes_112 : decode cX7_completes 112 = .ok (.getfield 47, 3) := by decide +kernel
theorem dX7_completes_115 : decode cX7_completes 115 = .ok (.bipush 7, 2) := by decide +kernel
theorem dX7_completes_117 : decode cX7_completes 117 = .ok (.iaload, 1) := by decide +kernel
theorem dX7_completes_118 : decode cX7_completes 118 = .ok (.iastore, 1) := by decide +kernel
theorem dX7_completes_119 : decode cX7_completes 119 = .ok (.aload_n 0, 1) := by decide +kernel
theorem dX7_completes_120 : decode cX7_completes 120 = .ok (.getfield 47, 3) := by decide +kernel
theorem dX7_completes_123 : decode cX7_completes 123 = .ok (.bipush 22, 2) := by decide +kernel
theorem dX7_completes_125 : decode cX7_completes 125 = .ok (.aload_n 0, 1) := by decide +kernel
theorem dX7_completes_126 : decode cX7_completes 126 = .ok (.getfield 47, 3) := by decide +kernel
theorem dX7_completes_129 : decode cX7_completes 129 = .ok (.iconst 5, 1) := by decide +kernel
theorem dX7_completes_130 : decode cX7_completes 130 = .ok (.iaload, 1) := by decide +kernel
theorem dX7_completes_131 : decode cX7_completes 131 = .ok (.iadd, 1) := by decide +kernel
theorem dX7_completes_132 : decode cX7_completes 132 = .ok (.aload_n 0, 1) := by decide +kernel
theorem dX7_completes_133 : decode cX7_completes 133 = .ok (.getfield 47, 3) := by decide +kernel
theorem dX7_completes_136 : decode cX7_completes 136 = .ok (.bipush 7, 2) := by decide +kernel
theorem dX7_completes_138 : decode cX7_completes 138 = .ok (.iaload, 1) := by decide +kernel
theorem dX7_completes_139 : decode cX7_completes 139 = .ok (.iastore, 1) := by decide +kernel
theorem dX7_completes_140 : decode cX7_completes 140 = .ok (.aload_n 0, 1) := by decide +kernel
theorem dX7_completes_141 : decode cX7_completes 141 = .ok (.getfield 47, 3) := by decide +kernel
theorem dX7_completes_144 : decode cX7_completes 144 = .ok (.bipush 20, 2) := by decide +kernel
theorem dX7_completes_146 : decode cX7_completes 146 = .ok (.dup2, 1) := by decide +kernel
theorem dX7_completes_147 : decode cX7_completes 147 = .ok (.iaload, 1) := by decide +kernel
theorem dX7_completes_148 : decode cX7_completes 148 = .ok (.aload_n 0, 1) := by decide +kernel
theorem dX7_completes_149 : decode cX7_completes 149 = .ok (.getfield 20, 3) := by decide +kernel
theorem dX7_completes_152 : decode cX7_completes 152 = .ok (.aload_n 0, 1) := by decide +kernel
theorem dX7_completes_153 : decode cX7_completes 153 = .ok (.getfield 47, 3) := by decide +kernel
theorem dX7_completes_156 : decode cX7_completes 156 = .ok (.bipush 7, 2) := by decide +kernel
theorem dX7_completes_158 : decode cX7_completes 158 = .ok (.iaload, 1) := by decide +kernel
theorem dX7_completes_159 : decode cX7_completes 159 = .ok (.iaload, 1) := by decide +kernel
theorem dX7_completes_160 : decode cX7_completes 160 = .ok (.iadd, 1) := by decide +kernel
theorem dX7_completes_161 : decode cX7_completes 161 = .ok (.iastore, 1) := by decide +kernel
theorem dX7_completes_162 : decode cX7_completes 162 = .ok (.aload_n 0, 1) := by decide +kernel
theorem dX7_completes_163 : decode cX7_completes 163 = .ok (.getfield 47, 3) := by decide +kernel
theorem dX7_completes_166 : decode cX7_completes 166 = .ok (.bipush 21, 2) := by decide +kernel
theorem dX7_completes_168 : decode cX7_completes 168 = .ok (.dup2, 1) := by decide +kernel
theorem dX7_completes_169 : decode cX7_completes 169 = .ok (.iaload, 1) := by decide +kernel
theorem dX7_completes_170 : decode cX7_completes 170 = .ok (.iconst 1, 1) := by decide +kernel
theorem dX7_completes_171 : decode cX7_completes 171 = .ok (.iadd, 1) := by decide +kernel
theorem dX7_completes_172 : decode cX7_completes 172 = .ok (.iastore, 1) := by decide +kernel
theorem dX7_completes_173 : decode cX7_completes 173 = .ok (.aload_n 0, 1) := by decide +kernel
theorem dX7_completes_174 : decode cX7_completes 174 = .ok (.getfield 47, 3) := by decide +kernel
theorem dX7_completes_177 : decode cX7_completes 177 = .ok (.iconst 1, 1) := by decide +kernel
theorem dX7_completes_178 : decode cX7_completes 178 = .ok (.dup2, 1) := by decide +kernel
theorem dX7_completes_179 : decode cX7_completes 179 = .ok (.iaload, 1) := by decide +kernel
theorem dX7_completes_180 : decode cX7_completes 180 = .ok (.aload_n 0, 1) := by decide +kernel
theorem dX7_completes_181 : decode cX7_completes 181 = .ok (.getfield 13, 3) := by decide +kernel
theorem dX7_completes_184 : decode cX7_completes 184 = .ok (.iadd, 1) := by decide +kernel
theorem dX7_completes_185 : decode cX7_completes 185 = .ok (.iastore, 1) := by decide +kernel
theorem dX7_completes_186 : decode cX7_completes 186 = .ok (.aload_n 0, 1) := by decide +kernel
theorem dX7_completes_187 : decode cX7_completes 187 = .ok (.getfield 47, 3) := by decide +kernel
theorem dX7_completes_190 : decode cX7_completes 190 = .ok (.iconst 5, 1) := by decide +kernel
theorem dX7_completes_191 : decode cX7_completes 191 = .ok (.dup2, 1) := by decide +kernel
theorem dX7_completes_192 : decode cX7_completes 192 = .ok (.iaload, 1) := by decide +kernel
theorem dX7_completes_193 : decode cX7_completes 193 = .ok (.iconst 1, 1) := by decide +kernel
theorem dX7_completes_194 : decode cX7_completes 194 = .ok (.iadd, 1) := by decide +kernel
theorem dX7_completes_195 : decode cX7_completes 195 = .ok (.iastore, 1) := by decide +kernel
theorem dX7_completes_196 : decode cX7_completes 196 = .ok (.aload_n 0, 1) := by decide +kernel
theorem dX7_completes_197 : decode cX7_completes 197 = .ok (.getfield 47, 3) := by decide +kernel
theorem dX7_completes_200 : decode cX7_completes 200 = .ok (.bipush 6, 2) := by decide +kernel
theorem dX7_completes_202 : decode cX7_completes 202 = .ok (.iconst 0, 1) := by decide +kernel
theorem dX7_completes_203 : decode cX7_completes 203 = .ok (.iastore, 1) := by decide +kernel
theorem dX7_completes_204 : decode cX7_completes 204 = .ok (.return_, 1) := by decide +kernel
theorem dX7_receives_0 : decode cX7_receives 0 = .ok (.aload_n 0, 1) := by decide +kernel
theorem dX7_receives_1 : decode cX7_receives 1 = .ok (.getfield 47, 3) := by decide +kernel
theorem dX7_receives_4 : decode cX7_receives 4 = .ok (.bipush 6, 2) := by decide +kernel
theorem dX7_receives_6 : decode cX7_receives 6 = .ok (.iaload, 1) := by decide +kernel
theorem dX7_receives_7 : decode cX7_receives 7 = .ok (.iconst 1, 1) := by decide +kernel
theorem dX7_receives_8 : decode cX7_receives 8 = .ok (.if_icmp .ne 55, 3) := by decide +kernel
theorem dX7_receives_11 : decode cX7_receives 11 = .ok (.aload_n 0, 1) := by decide +kernel
theorem dX7_receives_12 : decode cX7_receives 12 = .ok (.getfield 47, 3) := by decide +kernel
theorem dX7_receives_15 : decode cX7_receives 15 = .ok (.bipush 9, 2) := by decide +kernel
theorem dX7_receives_17 : decode cX7_receives 17 = .ok (.dup2, 1) := by decide +kernel
theorem dX7_receives_18 : decode cX7_receives 18 = .ok (.iaload, 1) := by decide +kernel
theorem dX7_receives_19 : decode cX7_receives 19 = .ok (.aload_n 0, 1) := by decide +kernel
theorem dX7_receives_20 : decode cX7_receives 20 = .ok (.aload_n 0, 1) := by decide +kernel
theorem dX7_receives_21 : decode cX7_receives 21 = .ok (.getfield 47, 3) := by decide +kernel
theorem dX7_receives_24 : decode cX7_receives 24 = .ok (.iconst 0, 1) := by decide +kernel
theorem dX7_receives_25 : decode cX7_receives 25 = .ok (.iaload, 1) := by decide +kernel
theorem dX7_receives_26 : decode cX7_receives 26 = .ok (.invokevirtual 149, 3) := by decide +kernel
theorem dX7_receives_29 : decode cX7_receives 29 = .ok (.iadd, 1) := by decide +kernel
theorem dX7_receives_30 : decode cX7_receives 30 = .ok (.iastore, 1) := by decide +kernel
theorem dX7_receives_31 : decode cX7_receives 31 = .ok (.aload_n 0, 1) := by decide +kernel
theorem dX7_receives_32 : decode cX7_receives 32 = .ok (.getfield 47, 3) := by decide +kernel
theorem dX7_receives_35 : decode cX7_receives 35 = .ok (.bipush 10, 2) := by decide +kernel
theorem dX7_receives_37 : decode cX7_receives 37 = .ok (.dup2, 1) := by decide +kernel
theorem dX7_receives_38 : decode cX7_receives 38 = .ok (.iaload, 1) := by decide +kernel
theorem dX7_receives_39 : decode cX7_receives 39 = .ok (.iconst 1, 1) := by decide +kernel
theorem dX7_receives_40 : decode cX7_receives 40 = .ok (.iadd, 1) := by decide +kernel
theorem dX7_receives_41 : decode cX7_receives 41 = .ok (.iastore, 1) := by decide +kernel
theorem dX7_receives_42 : decode cX7_receives 42 = .ok (.aload_n 0, 1) := by decide +kernel
theorem dX7_receives_43 : decode cX7_receives 43 = .ok (.getfield 47, 3) := by decide +kernel
theorem dX7_receives_46 : decode cX7_receives 46 = .ok (.bipush 9, 2) := by decide +kernel
theorem dX7_receives_48 : decode cX7_receives 48 = .ok (.iaload, 1) := by decide +kernel
theorem dX7_receives_49 : decode cX7_receives 49 = .ok (.aload_n 0, 1) := by decide +kernel
theorem dX7_receives_50 : decode cX7_receives 50 = .ok (.getfield 47, 3) := by decide +kernel
theorem dX7_receives_53 : decode cX7_receives 53 = .ok (.bipush 8, 2) := by decide +kernel
theorem dX7_receives_55 : decode cX7_receives 55 = .ok (.iaload, 1) := by decide +kernel
theorem dX7_receives_56 : decode cX7_receives 56 = .ok (.if_icmp .lt 7, 3) := by decide +kernel
theorem dX7_receives_59 : decode cX7_receives 59 = .ok (.aload_n 0, 1) := by decide +kernel
theorem dX7_receives_60 : decode cX7_receives 60 = .ok (.invokevirtual 152, 3) := by decide +kernel
theorem dX7_receives_63 : decode cX7_receives 63 = .ok (.return_, 1) := by decide +kernel
theorem dX7_plays_0 : decode cX7_plays 0 = .ok (.aload_n 0, 1) := by decide +kernel
theorem dX7_plays_1 : decode cX7_plays 1 = .ok (.getfield 47, 3) := by decide +kernel
theorem dX7_plays_4 : decode cX7_plays 4 = .ok (.iconst 1, 1) := by decide +kernel
theorem dX7_plays_5 : decode cX7_plays 5 = .ok (.dup2, 1) := by decide +kernel
theorem dX7_plays_6 : decode cX7_plays 6 = .ok (.iaload, 1) := by decide +kernel
theorem dX7_plays_7 : decode cX7_plays 7 = .ok (.iconst 1, 1) := by decide +kernel
theorem dX7_plays_8 : decode cX7_plays 8 = .ok (.isub, 1) := by decide +kernel
theorem dX7_plays_9 : decode cX7_plays 9 = .ok (.iastore, 1) := by decide +kernel
theorem dX7_plays_10 : decode cX7_plays 10 = .ok (.aload_n 0, 1) := by decide +kernel
theorem dX7_plays_11 : decode cX7_plays 11 = .ok (.getfield 47, 3) := by decide +kernel
theorem dX7_plays_14 : decode cX7_plays 14 = .ok (.iconst 2, 1) := by decide +kernel
theorem dX7_plays_15 : decode cX7_plays 15 = .ok (.dup2, 1) := by decide +kernel
theorem dX7_plays_16 : decode cX7_plays 16 = .ok (.iaload, 1) := by decide +kernel
theorem dX7_plays_17 : decode cX7_plays 17 = .ok (.iconst 1, 1) := by decide +kernel
theorem dX7_plays_18 : decode cX7_plays 18 = .ok (.iadd, 1) := by decide +kernel
theorem dX7_plays_19 : decode cX7_plays 19 = .ok (.iastore, 1) := by decide +kernel
theorem dX7_plays_20 : decode cX7_plays 20 = .ok (.aload_n 0, 1) := by decide +kernel
theorem dX7_plays_21 : decode cX7_plays 21 = .ok (.getfield 47, 3) := by decide +kernel
theorem dX7_plays_24 : decode cX7_plays 24 = .ok (.iconst 1, 1) := by decide +kernel
theorem dX7_plays_25 : decode cX7_plays 25 = .ok (.iaload, 1) := by decide +kernel
theorem dX7_plays_26 : decode cX7_plays 26 = .ok (.ifCond .ne 56, 3) := by decide +kernel
theorem dX7_plays_29 : decode cX7_plays 29 = .ok (.aload_n 0, 1) := by decide +kernel
theorem dX7_plays_30 : decode cX7_plays 30 = .ok (.getfield 47, 3) := by decide +kernel
theorem dX7_plays_33 : decode cX7_plays 33 = .ok (.iconst 5, 1) := by decide +kernel
theorem dX7_plays_34 : decode cX7_plays 34 = .ok (.iaload, 1) := by decide +kernel
theorem dX7_plays_35 : decode cX7_plays 35 = .ok (.aload_n 0, 1) := by decide +kernel
theorem dX7_plays_36 : decode cX7_plays 36 = .ok (.getfield 7, 3) := by decide +kernel
theorem dX7_plays_39 : decode cX7_plays 39 = .ok (.if_icmp .lt 7, 3) := by decide +kernel
end
section
theorem dX7_plays_42 : decode cX7_plays 42 = .ok (.iconst 1, 1) := by decide +kernel
theorem dX7_plays_43 : decode cX7_plays 43 = .ok (.goto 4, 3) := by decide +kernel
theorem dX7_plays_46 : decode cX7_plays 46 = .ok (.iconst 0, 1) := by decide +kernel
theorem dX7_plays_47 : decode cX7_plays 47 = .ok (.istore_n 1, 1) := by decide +kernel
theorem dX7_plays_48 : decode cX7_plays 48 = .ok (.aload_n 0, 1) := by decide +kernel
theorem dX7_plays_49 : decode cX7_plays 49 = .ok (.getfield 47, 3) := by decide +kernel
theorem dX7_plays_52 : decode cX7_plays 52 = .ok (.iconst 3, 1) := by decide +kernel
theorem dX7_plays_53 : decode cX7_plays 53 = .ok (.iload_n 1, 1) := by decide +kernel
theorem dX7_plays_54 : decode cX7_plays 54 = .ok (.ifCond .eq 7, 3) := by decide +kernel
theorem dX7_plays_57 : decode cX7_plays 57 = .ok (.iconst 3, 1) := by decide +kernel
theorem dX7_plays_58 : decode cX7_plays 58 = .ok (.goto 4, 3) := by decide +kernel
theorem dX7_plays_61 : decode cX7_plays 61 = .ok (.iconst 2, 1) := by decide +kernel
theorem dX7_plays_62 : decode cX7_plays 62 = .ok (.iastore, 1) := by decide +kernel
theorem dX7_plays_63 : decode cX7_plays 63 = .ok (.aload_n 0, 1) := by decide +kernel
theorem dX7_plays_64 : decode cX7_plays 64 = .ok (.getfield 47, 3) := by decide +kernel
theorem dX7_plays_67 : decode cX7_plays 67 = .ok (.bipush 17, 2) := by decide +kernel
theorem dX7_plays_69 : decode cX7_plays 69 = .ok (.dup2, 1) := by decide +kernel
theorem dX7_plays_70 : decode cX7_plays 70 = .ok (.iaload, 1) := by decide +kernel
theorem dX7_plays_71 : decode cX7_plays 71 = .ok (.iload_n 1, 1) := by decide +kernel
theorem dX7_plays_72 : decode cX7_plays 72 = .ok (.ifCond .eq 7, 3) := by decide +kernel
theorem dX7_plays_75 : decode cX7_plays 75 = .ok (.iconst 0, 1) := by decide +kernel
theorem dX7_plays_76 : decode cX7_plays 76 = .ok (.goto 4, 3) := by decide +kernel
theorem dX7_plays_79 : decode cX7_plays 79 = .ok (.iconst 1, 1) := by decide +kernel
theorem dX7_plays_80 : decode cX7_plays 80 = .ok (.iadd, 1) := by decide +kernel
theorem dX7_plays_81 : decode cX7_plays 81 = .ok (.iastore, 1) := by decide +kernel
theorem dX7_plays_82 : decode cX7_plays 82 = .ok (.return_, 1) := by decide +kernel
theorem dX7_waits_0 : decode cX7_waits 0 = .ok (.aload_n 0, 1) := by decide +kernel
theorem dX7_waits_1 : decode cX7_waits 1 = .ok (.getfield 47, 3) := by decide +kernel
theorem dX7_waits_4 : decode cX7_waits 4 = .ok (.bipush 19, 2) := by decide +kernel
theorem dX7_waits_6 : decode cX7_waits 6 = .ok (.dup2, 1) := by decide +kernel
theorem dX7_waits_7 : decode cX7_waits 7 = .ok (.iaload, 1) := by decide +kernel
theorem dX7_waits_8 : decode cX7_waits 8 = .ok (.aload_n 0, 1) := by decide +kernel
theorem dX7_waits_9 : decode cX7_waits 9 = .ok (.getfield 47, 3) := by decide +kernel
theorem dX7_waits_12 : decode cX7_waits 12 = .ok (.iconst 3, 1) := by decide +kernel
theorem dX7_waits_13 : decode cX7_waits 13 = .ok (.iaload, 1) := by decide +kernel
theorem dX7_waits_14 : decode cX7_waits 14 = .ok (.ifCond .ne 7, 3) := by decide +kernel
theorem dX7_waits_17 : decode cX7_waits 17 = .ok (.iconst 1, 1) := by decide +kernel
theorem dX7_waits_18 : decode cX7_waits 18 = .ok (.goto 4, 3) := by decide +kernel
theorem dX7_waits_21 : decode cX7_waits 21 = .ok (.iconst 0, 1) := by decide +kernel
theorem dX7_waits_22 : decode cX7_waits 22 = .ok (.iadd, 1) := by decide +kernel
theorem dX7_waits_23 : decode cX7_waits 23 = .ok (.iastore, 1) := by decide +kernel
theorem dX7_waits_24 : decode cX7_waits 24 = .ok (.aload_n 0, 1) := by decide +kernel
theorem dX7_waits_25 : decode cX7_waits 25 = .ok (.getfield 47, 3) := by decide +kernel
theorem dX7_waits_28 : decode cX7_waits 28 = .ok (.bipush 18, 2) := by decide +kernel
theorem dX7_waits_30 : decode cX7_waits 30 = .ok (.dup2, 1) := by decide +kernel
theorem dX7_waits_31 : decode cX7_waits 31 = .ok (.iaload, 1) := by decide +kernel
theorem dX7_waits_32 : decode cX7_waits 32 = .ok (.aload_n 0, 1) := by decide +kernel
theorem dX7_waits_33 : decode cX7_waits 33 = .ok (.getfield 47, 3) := by decide +kernel
theorem dX7_waits_36 : decode cX7_waits 36 = .ok (.iconst 3, 1) := by decide +kernel
theorem dX7_waits_37 : decode cX7_waits 37 = .ok (.iaload, 1) := by decide +kernel
theorem dX7_waits_38 : decode cX7_waits 38 = .ok (.iconst 2, 1) := by decide +kernel
theorem dX7_waits_39 : decode cX7_waits 39 = .ok (.if_icmp .ne 7, 3) := by decide +kernel
theorem dX7_waits_42 : decode cX7_waits 42 = .ok (.iconst 1, 1) := by decide +kernel
theorem dX7_waits_43 : decode cX7_waits 43 = .ok (.goto 4, 3) := by decide +kernel
theorem dX7_waits_46 : decode cX7_waits 46 = .ok (.iconst 0, 1) := by decide +kernel
theorem dX7_waits_47 : decode cX7_waits 47 = .ok (.iadd, 1) := by decide +kernel
theorem dX7_waits_48 : decode cX7_waits 48 = .ok (.iastore, 1) := by decide +kernel
theorem dX7_waits_49 : decode cX7_waits 49 = .ok (.aload_n 0, 1) := by decide +kernel
theorem dX7_waits_50 : decode cX7_waits 50 = .ok (.getfield 47, 3) := by decide +kernel
theorem dX7_waits_53 : decode cX7_waits 53 = .ok (.iconst 1, 1) := by decide +kernel
theorem dX7_waits_54 : decode cX7_waits 54 = .ok (.iaload, 1) := by decide +kernel
theorem dX7_waits_55 : decode cX7_waits 55 = .ok (.aload_n 0, 1) := by decide +kernel
theorem dX7_waits_56 : decode cX7_waits 56 = .ok (.getfield 32, 3) := by decide +kernel
theorem dX7_waits_59 : decode cX7_waits 59 = .ok (.if_icmp .ge 25, 3) := by decide +kernel
theorem dX7_waits_62 : decode cX7_waits 62 = .ok (.aload_n 0, 1) := by decide +kernel
theorem dX7_waits_63 : decode cX7_waits 63 = .ok (.getfield 47, 3) := by decide +kernel
theorem dX7_waits_66 : decode cX7_waits 66 = .ok (.iconst 5, 1) := by decide +kernel
theorem dX7_waits_67 : decode cX7_waits 67 = .ok (.iaload, 1) := by decide +kernel
theorem dX7_waits_68 : decode cX7_waits 68 = .ok (.aload_n 0, 1) := by decide +kernel
theorem dX7_waits_69 : decode cX7_waits 69 = .ok (.getfield 7, 3) := by decide +kernel
theorem dX7_waits_72 : decode cX7_waits 72 = .ok (.if_icmp .lt 19, 3) := by decide +kernel
theorem dX7_waits_75 : decode cX7_waits 75 = .ok (.aload_n 0, 1) := by decide +kernel
theorem dX7_waits_76 : decode cX7_waits 76 = .ok (.getfield 47, 3) := by decide +kernel
theorem dX7_waits_79 : decode cX7_waits 79 = .ok (.iconst 1, 1) := by decide +kernel
theorem dX7_waits_80 : decode cX7_waits 80 = .ok (.iaload, 1) := by decide +kernel
theorem dX7_waits_81 : decode cX7_waits 81 = .ok (.ifCond .le 10, 3) := by decide +kernel
theorem dX7_waits_84 : decode cX7_waits 84 = .ok (.aload_n 0, 1) := by decide +kernel
theorem dX7_waits_85 : decode cX7_waits 85 = .ok (.getfield 47, 3) := by decide +kernel
theorem dX7_waits_88 : decode cX7_waits 88 = .ok (.iconst 3, 1) := by decide +kernel
theorem dX7_waits_89 : decode cX7_waits 89 = .ok (.iconst 1, 1) := by decide +kernel
theorem dX7_waits_90 : decode cX7_waits 90 = .ok (.iastore, 1) := by decide +kernel
theorem dX7_waits_91 : decode cX7_waits 91 = .ok (.return_, 1) := by decide +kernel
theorem dX7_passes_0 : decode cX7_passes 0 = .ok (.aload_n 0, 1) := by decide +kernel
theorem dX7_passes_1 : decode cX7_passes 1 = .ok (.iload_n 1, 1) := by decide +kernel
theorem dX7_passes_2 : decode cX7_passes 2 = .ok (.invokevirtual 155, 3) := by decide +kernel
theorem dX7_passes_5 : decode cX7_passes 5 = .ok (.aload_n 0, 1) := by decide +kernel
theorem dX7_passes_6 : decode cX7_passes 6 = .ok (.invokevirtual 159, 3) := by decide +kernel
theorem dX7_passes_9 : decode cX7_passes 9 = .ok (.aload_n 0, 1) := by decide +kernel
theorem dX7_passes_10 : decode cX7_passes 10 = .ok (.getfield 47, 3) := by decide +kernel
theorem dX7_passes_13 : decode cX7_passes 13 = .ok (.iconst 4, 1) := by decide +kernel
theorem dX7_passes_14 : decode cX7_passes 14 = .ok (.iaload, 1) := by decide +kernel
theorem dX7_passes_15 : decode cX7_passes 15 = .ok (.ifCond .ne 34, 3) := by decide +kernel
theorem dX7_passes_18 : decode cX7_passes 18 = .ok (.aload_n 0, 1) := by decide +kernel
theorem dX7_passes_19 : decode cX7_passes 19 = .ok (.getfield 47, 3) := by decide +kernel
theorem dX7_passes_22 : decode cX7_passes 22 = .ok (.iconst 3, 1) := by decide +kernel
theorem dX7_passes_23 : decode cX7_passes 23 = .ok (.iaload, 1) := by decide +kernel
theorem dX7_passes_24 : decode cX7_passes 24 = .ok (.iconst 1, 1) := by decide +kernel
theorem dX7_passes_25 : decode cX7_passes 25 = .ok (.if_icmp .ne 10, 3) := by decide +kernel
theorem dX7_passes_28 : decode cX7_passes 28 = .ok (.aload_n 0, 1) := by decide +kernel
theorem dX7_passes_29 : decode cX7_passes 29 = .ok (.invokevirtual 162, 3) := by decide +kernel
theorem dX7_passes_32 : decode cX7_passes 32 = .ok (.goto 17, 3) := by decide +kernel
theorem dX7_passes_35 : decode cX7_passes 35 = .ok (.aload_n 0, 1) := by decide +kernel
theorem dX7_passes_36 : decode cX7_passes 36 = .ok (.getfield 47, 3) := by decide +kernel
theorem dX7_passes_39 : decode cX7_passes 39 = .ok (.iconst 3, 1) := by decide +kernel
theorem dX7_passes_40 : decode cX7_passes 40 = .ok (.iaload, 1) := by decide +kernel
theorem dX7_passes_41 : decode cX7_passes 41 = .ok (.iconst 3, 1) := by decide +kernel
theorem dX7_passes_42 : decode cX7_passes 42 = .ok (.if_icmp .eq 7, 3) := by decide +kernel
theorem dX7_passes_45 : decode cX7_passes 45 = .ok (.aload_n 0, 1) := by decide +kernel
theorem dX7_passes_46 : decode cX7_passes 46 = .ok (.invokevirtual 165, 3) := by decide +kernel
theorem dX7_passes_49 : decode cX7_passes 49 = .ok (.aload_n 0, 1) := by decide +kernel
theorem dX7_passes_50 : decode cX7_passes 50 = .ok (.getfield 47, 3) := by decide +kernel
theorem dX7_passes_53 : decode cX7_passes 53 = .ok (.iconst 0, 1) := by decide +kernel
theorem dX7_passes_54 : decode cX7_passes 54 = .ok (.dup2, 1) := by decide +kernel
theorem dX7_passes_55 : decode cX7_passes 55 = .ok (.iaload, 1) := by decide +kernel
theorem dX7_passes_56 : decode cX7_passes 56 = .ok (.iconst 1, 1) := by decide +kernel
theorem dX7_passes_57 : decode cX7_passes 57 = .ok (.iadd, 1) := by decide +kernel
theorem dX7_passes_58 : decode cX7_passes 58 = .ok (.iastore, 1) := by decide +kernel
theorem dX7_passes_59 : decode cX7_passes 59 = .ok (.return_, 1) := by decide +kernel
theorem dX7_restart_0 : decode cX7_restart 0 = .ok (.aload_n 0, 1) := by decide +kernel
theorem dX7_restart_1 : decode cX7_restart 1 = .ok (.getfield 47, 3) := by decide +kernel
theorem dX7_restart_4 : decode cX7_restart 4 = .ok (.iconst 0, 1) := by decide +kernel
theorem dX7_restart_5 : decode cX7_restart 5 = .ok (.iaload, 1) := by decide +kernel
theorem dX7_restart_6 : decode cX7_restart 6 = .ok (.istore_n 1, 1) := by decide +kernel
theorem dX7_restart_7 : decode cX7_restart 7 = .ok (.aload_n 0, 1) := by decide +kernel
theorem dX7_restart_8 : decode cX7_restart 8 = .ok (.invokevirtual 56, 3) := by decide +kernel
theorem dX7_restart_11 : decode cX7_restart 11 = .ok (.iload_n 1, 1) := by decide +kernel
theorem dX7_restart_12 : decode cX7_restart 12 = .ok (.ireturn, 1) := by decide +kernel
theorem dX7_advance_0 : decode cX7_advance 0 = .ok (.iload_n 1, 1) := by decide +kernel
theorem dX7_advance_1 : decode cX7_advance 1 = .ok (.iconst 1, 1) := by decide +kernel
theorem dX7_advance_2 : decode cX7_advance 2 = .ok (.ldc 66, 2) := by decide +kernel
theorem dX7_advance_4 : decode cX7_advance 4 = .ok (.invokestatic 59, 3) := by decide +kernel
theorem dX7_advance_7 : decode cX7_advance 7 = .ok (.ifCond .ne 5, 3) := by decide +kernel
theorem dX7_advance_10 : decode cX7_advance 10 = .ok (.iconst (-1), 1) := by decide +kernel
theorem dX7_advance_11 : decode cX7_advance 11 = .ok (.ireturn, 1) := by decide +kernel
theorem dX7_advance_12 : decode cX7_advance 12 = .ok (.aload_n 0, 1) := by decide +kernel
theorem dX7_advance_13 : decode cX7_advance 13 = .ok (.getfield 63, 3) := by decide +kernel
theorem dX7_advance_16 : decode cX7_advance 16 = .ok (.ifCond .ne 6, 3) := by decide +kernel
theorem dX7_advance_19 : decode cX7_advance 19 = .ok (.bipush (-4), 2) := by decide +kernel
theorem dX7_advance_21 : decode cX7_advance 21 = .ok (.ireturn, 1) := by decide +kernel
theorem dX7_advance_22 : decode cX7_advance 22 = .ok (.aload_n 0, 1) := by decide +kernel
theorem dX7_advance_23 : decode cX7_advance 23 = .ok (.getfield 47, 3) := by decide +kernel
theorem dX7_advance_26 : decode cX7_advance 26 = .ok (.bipush 21, 2) := by decide +kernel
theorem dX7_advance_28 : decode cX7_advance 28 = .ok (.iaload, 1) := by decide +kernel
theorem dX7_advance_29 : decode cX7_advance 29 = .ok (.istore_n 2, 1) := by decide +kernel
theorem dX7_advance_30 : decode cX7_advance 30 = .ok (.iconst 0, 1) := by decide +kernel
theorem dX7_advance_31 : decode cX7_advance 31 = .ok (.istore_n 3, 1) := by decide +kernel
theorem dX7_advance_32 : decode cX7_advance 32 = .ok (.iload_n 3, 1) := by decide +kernel
theorem dX7_advance_33 : decode cX7_advance 33 = .ok (.iload_n 1, 1) := by decide +kernel
theorem dX7_advance_34 : decode cX7_advance 34 = .ok (.if_icmp .ge 17, 3) := by decide +kernel
theorem dX7_advance_37 : decode cX7_advance 37 = .ok (.aload_n 0, 1) := by decide +kernel
theorem dX7_advance_38 : decode cX7_advance 38 = .ok (.aload_n 0, 1) := by decide +kernel
theorem dX7_advance_39 : decode cX7_advance 39 = .ok (.getfield 82, 3) := by decide +kernel
theorem dX7_advance_42 : decode cX7_advance 42 = .ok (.invokevirtual 168, 3) := by decide +kernel
theorem dX7_advance_45 : decode cX7_advance 45 = .ok (.iinc 3 1, 3) := by decide +kernel
theorem dX7_advance_48 : decode cX7_advance 48 = .ok (.goto (-16), 3) := by decide +kernel
theorem dX7_advance_51 : decode cX7_advance 51 = .ok (.aload_n 0, 1) := by decide +kernel
theorem dX7_advance_52 : decode cX7_advance 52 = .ok (.getfield 47, 3) := by decide +kernel
theorem dX7_advance_55 : decode cX7_advance 55 = .ok (.bipush 21, 2) := by decide +kernel
theorem dX7_advance_57 : decode cX7_advance 57 = .ok (.iaload, 1) := by decide +kernel
theorem dX7_advance_58 : decode cX7_advance 58 = .ok (.iload_n 2, 1) := by decide +kernel
theorem dX7_advance_59 : decode cX7_advance 59 = .ok (.isub, 1) := by decide +kernel
theorem dX7_advance_60 : decode cX7_advance 60 = .ok (.ireturn, 1) := by decide +kernel
theorem dX7_time_0 : decode cX7_time 0 = .ok (.aload_n 0, 1) := by decide +kernel
theorem dX7_time_1 : decode cX7_time 1 = .ok (.getfield 47, 3) := by decide +kernel
theorem dX7_time_4 : decode cX7_time 4 = .ok (.iconst 0, 1) := by decide +kernel
theorem dX7_time_5 : decode cX7_time 5 = .ok (.iaload, 1) := by decide +kernel
theorem dX7_time_6 : decode cX7_time 6 = .ok (.ireturn, 1) := by decide +kernel
theorem dX7_position_0 : decode cX7_position 0 = .ok (.aload_n 0, 1) := by decide +kernel
theorem dX7_position_1 : decode cX7_position 1 = .ok (.getfield 47, 3) := by decide +kernel
theorem dX7_position_4 : decode cX7_position 4 = .ok (.iconst 2, 1) := by decide +kernel
theorem dX7_position_5 : decode cX7_position 5 = .ok (.iaload, 1) := by decide +kernel
theorem dX7_position_6 : decode cX7_position 6 = .ok (.ireturn, 1) := by decide +kernel
theorem dX7_bufferLevel_0 : decode cX7_bufferLevel 0 = .ok (.aload_n 0, 1) := by decide +kernel
theorem dX7_bufferLevel_1 : decode cX7_bufferLevel 1 = .ok (.getfield 47, 3) := by decide +kernel
theorem dX7_bufferLevel_4 : decode cX7_bufferLevel 4 = .ok (.iconst 1, 1) := by decide +kernel
theorem dX7_bufferLevel_5 : decode cX7_bufferLevel 5 = .ok (.iaload, 1) := by decide +kernel
theorem dX7_bufferLevel_6 : decode cX7_bufferLevel 6 = .ok (.ireturn, 1) := by decide +kernel
theorem dX7_state_0 : decode cX7_state 0 = .ok (.aload_n 0, 1) := by decide +kernel
theorem dX7_state_1 : decode cX7_state 1 = .ok (.getfield 47, 3) := by decide +kernel
theorem dX7_state_4 : decode cX7_state 4 = .ok (.iconst 3, 1) := by decide +kernel
theorem dX7_state_5 : decode cX7_state 5 = .ok (.iaload, 1) := by decide +kernel
theorem dX7_state_6 : decode cX7_state 6 = .ok (.ireturn, 1) := by decide +kernel
theorem dX7_isPaused_0 : decode cX7_isPaused 0 = .ok (.aload_n 0, 1) := by decide +kernel
theorem dX7_isPaused_1 : decode cX7_isPaused 1 = .ok (.getfield 47, 3) := by decide +kernel
theorem dX7_isPaused_4 : decode cX7_isPaused 4 = .ok (.iconst 4, 1) := by decide +kernel
theorem dX7_isPaused_5 : decode cX7_isPaused 5 = .ok (.iaload, 1) := by decide +kernel
theorem dX7_isPaused_6 : decode cX7_isPaused 6 = .ok (.ireturn, 1) := by decide +kernel
theorem dX7_downloadingSegment_0 : decode cX7_downloadingSegment 0 = .ok (.aload_n 0, 1) := by decide +kernel
theorem dX7_downloadingSegment_1 : decode cX7_downloadingSegment 1 = .ok (.getfield 47, 3) := by decide +kernel
theorem dX7_downloadingSegment_4 : decode cX7_downloadingSegment 4 = .ok (.bipush 6, 2) := by decide +kernel
theorem dX7_downloadingSegment_6 : decode cX7_downloadingSegment 6 = .ok (.iaload, 1) := by decide +kernel
theorem dX7_downloadingSegment_7 : decode cX7_downloadingSegment 7 = .ok (.iconst 1, 1) := by decide +kernel
theorem dX7_downloadingSegment_8 : decode cX7_downloadingSegment 8 = .ok (.if_icmp .ne 12, 3) := by decide +kernel
theorem dX7_downloadingSegment_11 : decode cX7_downloadingSegment 11 = .ok (.aload_n 0, 1) := by decide +kernel
theorem dX7_downloadingSegment_12 : decode cX7_downloadingSegment 12 = .ok (.getfield 47, 3) := by decide +kernel
theorem dX7_downloadingSegment_15 : decode cX7_downloadingSegment 15 = .ok (.iconst 5, 1) := by decide +kernel
theorem dX7_downloadingSegment_16 : decode cX7_downloadingSegment 16 = .ok (.iaload, 1) := by decide +kernel
theorem dX7_downloadingSegment_17 : decode cX7_downloadingSegment 17 = .ok (.goto 5, 3) := by decide +kernel
theorem dX7_downloadingSegment_20 : decode cX7_downloadingSegment 20 = .ok (.bipush (-6), 2) := by decide +kernel
theorem dX7_downloadingSegment_22 : decode cX7_downloadingSegment 22 = .ok (.ireturn, 1) := by decide +kernel
theorem dX7_segmentLevel_0 : decode cX7_segmentLevel 0 = .ok (.iload_n 1, 1) := by decide +kernel
theorem dX7_segmentLevel_1 : decode cX7_segmentLevel 1 = .ok (.iconst 0, 1) := by decide +kernel
theorem dX7_segmentLevel_2 : decode cX7_segmentLevel 2 = .ok (.aload_n 0, 1) := by decide +kernel
theorem dX7_segmentLevel_3 : decode cX7_segmentLevel 3 = .ok (.getfield 7, 3) := by decide +kernel
theorem dX7_segmentLevel_6 : decode cX7_segmentLevel 6 = .ok (.iconst 1, 1) := by decide +kernel
theorem dX7_segmentLevel_7 : decode cX7_segmentLevel 7 = .ok (.isub, 1) := by decide +kernel
theorem dX7_segmentLevel_8 : decode cX7_segmentLevel 8 = .ok (.invokestatic 59, 3) := by decide +kernel
theorem dX7_segmentLevel_11 : decode cX7_segmentLevel 11 = .ok (.ifCond .eq 15, 3) := by decide +kernel
theorem dX7_segmentLevel_14 : decode cX7_segmentLevel 14 = .ok (.aload_n 0, 1) := by decide +kernel
theorem dX7_segmentLevel_15 : decode cX7_segmentLevel 15 = .ok (.getfield 47, 3) := by decide +kernel
theorem dX7_segmentLevel_18 : decode cX7_segmentLevel 18 = .ok (.bipush 22, 2) := by decide +kernel
theorem dX7_segmentLevel_20 : decode cX7_segmentLevel 20 = .ok (.iload_n 1, 1) := by decide +kernel
theorem dX7_segmentLevel_21 : decode cX7_segmentLevel 21 = .ok (.iadd, 1) := by decide +kernel
theorem dX7_segmentLevel_22 : decode cX7_segmentLevel 22 = .ok (.iaload, 1) := by decide +kernel
theorem dX7_segmentLevel_23 : decode cX7_segmentLevel 23 = .ok (.goto 5, 3) := by decide +kernel
theorem dX7_segmentLevel_26 : decode cX7_segmentLevel 26 = .ok (.bipush (-2), 2) := by decide +kernel
theorem dX7_segmentLevel_28 : decode cX7_segmentLevel 28 = .ok (.ireturn, 1) := by decide +kernel
theorem dX7_throughputEstimate_0 : decode cX7_throughputEstimate 0 = .ok (.aload_n 0, 1) := by decide +kernel
theorem dX7_throughputEstimate_1 : decode cX7_throughputEstimate 1 = .ok (.invokevirtual 126, 3) := by decide +kernel
theorem dX7_throughputEstimate_4 : decode cX7_throughputEstimate 4 = .ok (.ireturn, 1) := by decide +kernel
theorem dX7_switchCount_0 : decode cX7_switchCount 0 = .ok (.aload_n 0, 1) := by decide +kernel
theorem dX7_switchCount_1 : decode cX7_switchCount 1 = .ok (.getfield 47, 3) := by decide +kernel
theorem dX7_switchCount_4 : decode cX7_switchCount 4 = .ok (.bipush 16, 2) := by decide +kernel
theorem dX7_switchCount_6 : decode cX7_switchCount 6 = .ok (.iaload, 1) := by decide +kernel
theorem dX7_switchCount_7 : decode cX7_switchCount 7 = .ok (.ireturn, 1) := by decide +kernel
theorem dX7_stallCount_0 : decode cX7_stallCount 0 = .ok (.aload_n 0, 1) := by decide +kernel
theorem dX7_stallCount_1 : decode cX7_stallCount 1 = .ok (.getfield 47, 3) := by decide +kernel
theorem dX7_stallCount_4 : decode cX7_stallCount 4 = .ok (.bipush 17, 2) := by decide +kernel
theorem dX7_stallCount_6 : decode cX7_stallCount 6 = .ok (.iaload, 1) := by decide +kernel
theorem dX7_stallCount_7 : decode cX7_stallCount 7 = .ok (.ireturn, 1) := by decide +kernel
theorem dX7_stallTime_0 : decode cX7_stallTime 0 = .ok (.aload_n 0, 1) := by decide +kernel
theorem dX7_stallTime_1 : decode cX7_stallTime 1 = .ok (.getfield 47, 3) := by decide +kernel
theorem dX7_stallTime_4 : decode cX7_stallTime 4 = .ok (.bipush 18, 2) := by decide +kernel
theorem dX7_stallTime_6 : decode cX7_stallTime 6 = .ok (.iaload, 1) := by decide +kernel
theorem dX7_stallTime_7 : decode cX7_stallTime 7 = .ok (.ireturn, 1) := by decide +kernel
theorem dX7_startupTime_0 : decode cX7_startupTime 0 = .ok (.aload_n 0, 1) := by decide +kernel
theorem dX7_startupTime_1 : decode cX7_startupTime 1 = .ok (.getfield 47, 3) := by decide +kernel
theorem dX7_startupTime_4 : decode cX7_startupTime 4 = .ok (.bipush 19, 2) := by decide +kernel
theorem dX7_startupTime_6 : decode cX7_startupTime 6 = .ok (.iaload, 1) := by decide +kernel
theorem dX7_startupTime_7 : decode cX7_startupTime 7 = .ok (.ireturn, 1) := by decide +kernel
theorem dX7_bitrateSum_0 : decode cX7_bitrateSum 0 = .ok (.aload_n 0, 1) := by decide +kernel
theorem dX7_bitrateSum_1 : decode cX7_bitrateSum 1 = .ok (.getfield 47, 3) := by decide +kernel
theorem dX7_bitrateSum_4 : decode cX7_bitrateSum 4 = .ok (.bipush 20, 2) := by decide +kernel
theorem dX7_bitrateSum_6 : decode cX7_bitrateSum 6 = .ok (.iaload, 1) := by decide +kernel
theorem dX7_bitrateSum_7 : decode cX7_bitrateSum 7 = .ok (.ireturn, 1) := by decide +kernel
theorem dX7_segmentSize_0 : decode cX7_segmentSize 0 = .ok (.iload_n 1, 1) := by decide +kernel
theorem dX7_segmentSize_1 : decode cX7_segmentSize 1 = .ok (.iconst 0, 1) := by decide +kernel
theorem dX7_segmentSize_2 : decode cX7_segmentSize 2 = .ok (.aload_n 0, 1) := by decide +kernel
theorem dX7_segmentSize_3 : decode cX7_segmentSize 3 = .ok (.getfield 63, 3) := by decide +kernel
theorem dX7_segmentSize_6 : decode cX7_segmentSize 6 = .ok (.iconst 1, 1) := by decide +kernel
theorem dX7_segmentSize_7 : decode cX7_segmentSize 7 = .ok (.isub, 1) := by decide +kernel
theorem dX7_segmentSize_8 : decode cX7_segmentSize 8 = .ok (.invokestatic 59, 3) := by decide +kernel
theorem dX7_segmentSize_11 : decode cX7_segmentSize 11 = .ok (.ifCond .eq 26, 3) := by decide +kernel
theorem dX7_segmentSize_14 : decode cX7_segmentSize 14 = .ok (.iload_n 2, 1) := by decide +kernel
theorem dX7_segmentSize_15 : decode cX7_segmentSize 15 = .ok (.iconst 0, 1) := by decide +kernel
theorem dX7_segmentSize_16 : decode cX7_segmentSize 16 = .ok (.aload_n 0, 1) := by decide +kernel
theorem dX7_segmentSize_17 : decode cX7_segmentSize 17 = .ok (.getfield 7, 3) := by decide +kernel
theorem dX7_segmentSize_20 : decode cX7_segmentSize 20 = .ok (.iconst 1, 1) := by decide +kernel
theorem dX7_segmentSize_21 : decode cX7_segmentSize 21 = .ok (.isub, 1) := by decide +kernel
theorem dX7_segmentSize_22 : decode cX7_segmentSize 22 = .ok (.invokestatic 59, 3) := by decide +kernel
theorem dX7_segmentSize_25 : decode cX7_segmentSize 25 = .ok (.ifCond .eq 12, 3) := by decide +kernel
theorem dX7_segmentSize_28 : decode cX7_segmentSize 28 = .ok (.aload_n 0, 1) := by decide +kernel
theorem dX7_segmentSize_29 : decode cX7_segmentSize 29 = .ok (.iload_n 1, 1) := by decide +kernel
theorem dX7_segmentSize_30 : decode cX7_segmentSize 30 = .ok (.iload_n 2, 1) := by decide +kernel
theorem dX7_segmentSize_31 : decode cX7_segmentSize 31 = .ok (.invokevirtual 145, 3) := by decide +kernel
theorem dX7_segmentSize_34 : decode cX7_segmentSize 34 = .ok (.goto 5, 3) := by decide +kernel
theorem dX7_segmentSize_37 : decode cX7_segmentSize 37 = .ok (.bipush (-2), 2) := by decide +kernel
theorem dX7_segmentSize_39 : decode cX7_segmentSize 39 = .ok (.ireturn, 1) := by decide +kernel
theorem dX7_setsAside_0 : decode cX7_setsAside 0 = .ok (.iconst 0, 1) := by decide +kernel
theorem dX7_setsAside_1 : decode cX7_setsAside 1 = .ok (.istore_n 1, 1) := by decide +kernel
theorem dX7_setsAside_2 : decode cX7_setsAside 2 = .ok (.iload_n 1, 1) := by decide +kernel
theorem dX7_setsAside_3 : decode cX7_setsAside 3 = .ok (.bipush 52, 2) := by decide +kernel
theorem dX7_setsAside_5 : decode cX7_setsAside 5 = .ok (.if_icmp .ge 21, 3) := by decide +kernel
theorem dX7_setsAside_8 : decode cX7_setsAside 8 = .ok (.aload_n 0, 1) := by decide +kernel
theorem dX7_setsAside_9 : decode cX7_setsAside 9 = .ok (.getfield 50, 3) := by decide +kernel
theorem dX7_setsAside_12 : decode cX7_setsAside 12 = .ok (.iload_n 1, 1) := by decide +kernel
theorem dX7_setsAside_13 : decode cX7_setsAside 13 = .ok (.aload_n 0, 1) := by decide +kernel
theorem dX7_setsAside_14 : decode cX7_setsAside 14 = .ok (.getfield 47, 3) := by decide +kernel
theorem dX7_setsAside_17 : decode cX7_setsAside 17 = .ok (.iload_n 1, 1) := by decide +kernel
theorem dX7_setsAside_18 : decode cX7_setsAside 18 = .ok (.iaload, 1) := by decide +kernel
theorem dX7_setsAside_19 : decode cX7_setsAside 19 = .ok (.iastore, 1) := by decide +kernel
theorem dX7_setsAside_20 : decode cX7_setsAside 20 = .ok (.iinc 1 1, 3) := by decide +kernel
theorem dX7_setsAside_23 : decode cX7_setsAside 23 = .ok (.goto (-21), 3) := by decide +kernel
theorem dX7_setsAside_26 : decode cX7_setsAside 26 = .ok (.return_, 1) := by decide +kernel
theorem dX7_takesBack_0 : decode cX7_takesBack 0 = .ok (.iconst 0, 1) := by decide +kernel
theorem dX7_takesBack_1 : decode cX7_takesBack 1 = .ok (.istore_n 1, 1) := by decide +kernel
theorem dX7_takesBack_2 : decode cX7_takesBack 2 = .ok (.iload_n 1, 1) := by decide +kernel
theorem dX7_takesBack_3 : decode cX7_takesBack 3 = .ok (.bipush 52, 2) := by decide +kernel
theorem dX7_takesBack_5 : decode cX7_takesBack 5 = .ok (.if_icmp .ge 21, 3) := by decide +kernel
theorem dX7_takesBack_8 : decode cX7_takesBack 8 = .ok (.aload_n 0, 1) := by decide +kernel
theorem dX7_takesBack_9 : decode cX7_takesBack 9 = .ok (.getfield 47, 3) := by decide +kernel
theorem dX7_takesBack_12 : decode cX7_takesBack 12 = .ok (.iload_n 1, 1) := by decide +kernel
theorem dX7_takesBack_13 : decode cX7_takesBack 13 = .ok (.aload_n 0, 1) := by decide +kernel
theorem dX7_takesBack_14 : decode cX7_takesBack 14 = .ok (.getfield 50, 3) := by decide +kernel
theorem dX7_takesBack_17 : decode cX7_takesBack 17 = .ok (.iload_n 1, 1) := by decide +kernel
theorem dX7_takesBack_18 : decode cX7_takesBack 18 = .ok (.iaload, 1) := by decide +kernel
theorem dX7_takesBack_19 : decode cX7_takesBack 19 = .ok (.iastore, 1) := by decide +kernel
theorem dX7_takesBack_20 : decode cX7_takesBack 20 = .ok (.iinc 1 1, 3) := by decide +kernel
theorem dX7_takesBack_23 : decode cX7_takesBack 23 = .ok (.goto (-21), 3) := by decide +kernel
theorem dX7_takesBack_26 : decode cX7_takesBack 26 = .ok (.return_, 1) := by decide +kernel
theorem dX7_simulates_0 : decode cX7_simulates 0 = .ok (.aload_n 0, 1) := by decide +kernel
theorem dX7_simulates_1 : decode cX7_simulates 1 = .ok (.invokevirtual 56, 3) := by decide +kernel
theorem dX7_simulates_4 : decode cX7_simulates 4 = .ok (.aload_n 0, 1) := by decide +kernel
theorem dX7_simulates_5 : decode cX7_simulates 5 = .ok (.getfield 47, 3) := by decide +kernel
theorem dX7_simulates_8 : decode cX7_simulates 8 = .ok (.iconst 3, 1) := by decide +kernel
theorem dX7_simulates_9 : decode cX7_simulates 9 = .ok (.iaload, 1) := by decide +kernel
theorem dX7_simulates_10 : decode cX7_simulates 10 = .ok (.iconst 3, 1) := by decide +kernel
theorem dX7_simulates_11 : decode cX7_simulates 11 = .ok (.if_icmp .eq 22, 3) := by decide +kernel
theorem dX7_simulates_14 : decode cX7_simulates 14 = .ok (.aload_n 0, 1) := by decide +kernel
theorem dX7_simulates_15 : decode cX7_simulates 15 = .ok (.getfield 47, 3) := by decide +kernel
theorem dX7_simulates_18 : decode cX7_simulates 18 = .ok (.iconst 0, 1) := by decide +kernel
theorem dX7_simulates_19 : decode cX7_simulates 19 = .ok (.iaload, 1) := by decide +kernel
theorem dX7_simulates_20 : decode cX7_simulates 20 = .ok (.ldc 171, 2) := by decide +kernel
theorem dX7_simulates_22 : decode cX7_simulates 22 = .ok (.if_icmp .ge 11, 3) := by decide +kernel
theorem dX7_simulates_25 : decode cX7_simulates 25 = .ok (.aload_n 0, 1) := by decide +kernel
theorem dX7_simulates_26 : decode cX7_simulates 26 = .ok (.iload_n 1, 1) := by decide +kernel
theorem dX7_simulates_27 : decode cX7_simulates 27 = .ok (.invokevirtual 168, 3) := by decide +kernel
theorem dX7_simulates_30 : decode cX7_simulates 30 = .ok (.goto (-26), 3) := by decide +kernel
theorem dX7_simulates_33 : decode cX7_simulates 33 = .ok (.return_, 1) := by decide +kernel
theorem dX7_simulated_0 : decode cX7_simulated 0 = .ok (.iload_n 1, 1) := by decide +kernel
theorem dX7_simulated_1 : decode cX7_simulated 1 = .ok (.iconst 0, 1) := by decide +kernel
theorem dX7_simulated_2 : decode cX7_simulated 2 = .ok (.iconst 3, 1) := by decide +kernel
theorem dX7_simulated_3 : decode cX7_simulated 3 = .ok (.invokestatic 59, 3) := by decide +kernel
theorem dX7_simulated_6 : decode cX7_simulated 6 = .ok (.ifCond .ne 6, 3) := by decide +kernel
theorem dX7_simulated_9 : decode cX7_simulated 9 = .ok (.bipush (-2), 2) := by decide +kernel
theorem dX7_simulated_11 : decode cX7_simulated 11 = .ok (.ireturn, 1) := by decide +kernel
theorem dX7_simulated_12 : decode cX7_simulated 12 = .ok (.aload_n 0, 1) := by decide +kernel
theorem dX7_simulated_13 : decode cX7_simulated 13 = .ok (.getfield 63, 3) := by decide +kernel
theorem dX7_simulated_16 : decode cX7_simulated 16 = .ok (.ifCond .ne 6, 3) := by decide +kernel
theorem dX7_simulated_19 : decode cX7_simulated 19 = .ok (.bipush (-4), 2) := by decide +kernel
theorem dX7_simulated_21 : decode cX7_simulated 21 = .ok (.ireturn, 1) := by decide +kernel
theorem dX7_simulated_22 : decode cX7_simulated 22 = .ok (.aload_n 0, 1) := by decide +kernel
theorem dX7_simulated_23 : decode cX7_simulated 23 = .ok (.invokevirtual 172, 3) := by decide +kernel
theorem dX7_simulated_26 : decode cX7_simulated 26 = .ok (.aload_n 0, 1) := by decide +kernel
theorem dX7_simulated_27 : decode cX7_simulated 27 = .ok (.iload_n 1, 1) := by decide +kernel
theorem dX7_simulated_28 : decode cX7_simulated 28 = .ok (.invokevirtual 175, 3) := by decide +kernel
theorem dX7_simulated_31 : decode cX7_simulated 31 = .ok (.aload_n 0, 1) := by decide +kernel
theorem dX7_simulated_32 : decode cX7_simulated 32 = .ok (.getfield 47, 3) := by decide +kernel
theorem dX7_simulated_35 : decode cX7_simulated 35 = .ok (.iload_n 2, 1) := by decide +kernel
theorem dX7_simulated_36 : decode cX7_simulated 36 = .ok (.iaload, 1) := by decide +kernel
theorem dX7_simulated_37 : decode cX7_simulated 37 = .ok (.istore_n 3, 1) := by decide +kernel
theorem dX7_simulated_38 : decode cX7_simulated 38 = .ok (.aload_n 0, 1) := by decide +kernel
theorem dX7_simulated_39 : decode cX7_simulated 39 = .ok (.invokevirtual 178, 3) := by decide +kernel
theorem dX7_simulated_42 : decode cX7_simulated 42 = .ok (.iload_n 3, 1) := by decide +kernel
theorem dX7_simulated_43 : decode cX7_simulated 43 = .ok (.ireturn, 1) := by decide +kernel
theorem dX7_simulatedStallTime_0 : decode cX7_simulatedStallTime 0 = .ok (.aload_n 0, 1) := by decide +kernel
theorem dX7_simulatedStallTime_1 : decode cX7_simulatedStallTime 1 = .ok (.iload_n 1, 1) := by decide +kernel
theorem dX7_simulatedStallTime_2 : decode cX7_simulatedStallTime 2 = .ok (.bipush 18, 2) := by decide +kernel
theorem dX7_simulatedStallTime_4 : decode cX7_simulatedStallTime 4 = .ok (.invokevirtual 181, 3) := by decide +kernel
theorem dX7_simulatedStallTime_7 : decode cX7_simulatedStallTime 7 = .ok (.ireturn, 1) := by decide +kernel
theorem dX7_simulatedBitrateSum_0 : decode cX7_simulatedBitrateSum 0 = .ok (.aload_n 0, 1) := by decide +kernel
theorem dX7_simulatedBitrateSum_1 : decode cX7_simulatedBitrateSum 1 = .ok (.iload_n 1, 1) := by decide +kernel
theorem dX7_simulatedBitrateSum_2 : decode cX7_simulatedBitrateSum 2 = .ok (.bipush 20, 2) := by decide +kernel
theorem dX7_simulatedBitrateSum_4 : decode cX7_simulatedBitrateSum 4 = .ok (.invokevirtual 181, 3) := by decide +kernel
theorem dX7_simulatedBitrateSum_7 : decode cX7_simulatedBitrateSum 7 = .ok (.ireturn, 1) := by decide +kernel
theorem dX7_bestSmoothLevel_0 : decode cX7_bestSmoothLevel 0 = .ok (.aload_n 0, 1) := by decide +kernel
theorem dX7_bestSmoothLevel_1 : decode cX7_bestSmoothLevel 1 = .ok (.getfield 63, 3) := by decide +kernel
theorem dX7_bestSmoothLevel_4 : decode cX7_bestSmoothLevel 4 = .ok (.ifCond .ne 6, 3) := by decide +kernel
theorem dX7_bestSmoothLevel_7 : decode cX7_bestSmoothLevel 7 = .ok (.bipush (-4), 2) := by decide +kernel
theorem dX7_bestSmoothLevel_9 : decode cX7_bestSmoothLevel 9 = .ok (.ireturn, 1) := by decide +kernel
theorem dX7_bestSmoothLevel_10 : decode cX7_bestSmoothLevel 10 = .ok (.aload_n 0, 1) := by decide +kernel
theorem dX7_bestSmoothLevel_11 : decode cX7_bestSmoothLevel 11 = .ok (.getfield 44, 3) := by decide +kernel
theorem dX7_bestSmoothLevel_14 : decode cX7_bestSmoothLevel 14 = .ok (.istore_n 1, 1) := by decide +kernel
theorem dX7_bestSmoothLevel_15 : decode cX7_bestSmoothLevel 15 = .ok (.bipush (-6), 2) := by decide +kernel
theorem dX7_bestSmoothLevel_17 : decode cX7_bestSmoothLevel 17 = .ok (.istore_n 2, 1) := by decide +kernel
theorem dX7_bestSmoothLevel_18 : decode cX7_bestSmoothLevel 18 = .ok (.aload_n 0, 1) := by decide +kernel
theorem dX7_bestSmoothLevel_19 : decode cX7_bestSmoothLevel 19 = .ok (.invokevirtual 172, 3) := by decide +kernel
theorem dX7_bestSmoothLevel_22 : decode cX7_bestSmoothLevel 22 = .ok (.iconst 0, 1) := by decide +kernel
theorem dX7_bestSmoothLevel_23 : decode cX7_bestSmoothLevel 23 = .ok (.istore_n 3, 1) := by decide +kernel
theorem dX7_bestSmoothLevel_24 : decode cX7_bestSmoothLevel 24 = .ok (.iload_n 3, 1) := by decide +kernel
theorem dX7_bestSmoothLevel_25 : decode cX7_bestSmoothLevel 25 = .ok (.aload_n 0, 1) := by decide +kernel
theorem dX7_bestSmoothLevel_26 : decode cX7_bestSmoothLevel 26 = .ok (.getfield 63, 3) := by decide +kernel
theorem dX7_bestSmoothLevel_29 : decode cX7_bestSmoothLevel 29 = .ok (.if_icmp .ge 45, 3) := by decide +kernel
theorem dX7_bestSmoothLevel_32 : decode cX7_bestSmoothLevel 32 = .ok (.aload_n 0, 1) := by decide +kernel
theorem dX7_bestSmoothLevel_33 : decode cX7_bestSmoothLevel 33 = .ok (.iload_n 3, 1) := by decide +kernel
theorem dX7_bestSmoothLevel_34 : decode cX7_bestSmoothLevel 34 = .ok (.putfield 44, 3) := by decide +kernel
theorem dX7_bestSmoothLevel_37 : decode cX7_bestSmoothLevel 37 = .ok (.aload_n 0, 1) := by decide +kernel
theorem dX7_bestSmoothLevel_38 : decode cX7_bestSmoothLevel 38 = .ok (.iconst 0, 1) := by decide +kernel
theorem dX7_bestSmoothLevel_39 : decode cX7_bestSmoothLevel 39 = .ok (.invokevirtual 175, 3) := by decide +kernel
theorem dX7_bestSmoothLevel_42 : decode cX7_bestSmoothLevel 42 = .ok (.aload_n 0, 1) := by decide +kernel
theorem dX7_bestSmoothLevel_43 : decode cX7_bestSmoothLevel 43 = .ok (.getfield 47, 3) := by decide +kernel
theorem dX7_bestSmoothLevel_46 : decode cX7_bestSmoothLevel 46 = .ok (.iconst 3, 1) := by decide +kernel
theorem dX7_bestSmoothLevel_47 : decode cX7_bestSmoothLevel 47 = .ok (.iaload, 1) := by decide +kernel
theorem dX7_bestSmoothLevel_48 : decode cX7_bestSmoothLevel 48 = .ok (.iconst 3, 1) := by decide +kernel
theorem dX7_bestSmoothLevel_49 : decode cX7_bestSmoothLevel 49 = .ok (.if_icmp .ne 17, 3) := by decide +kernel
theorem dX7_bestSmoothLevel_52 : decode cX7_bestSmoothLevel 52 = .ok (.aload_n 0, 1) := by decide +kernel
theorem dX7_bestSmoothLevel_53 : decode cX7_bestSmoothLevel 53 = .ok (.getfield 47, 3) := by decide +kernel
theorem dX7_bestSmoothLevel_56 : decode cX7_bestSmoothLevel 56 = .ok (.bipush 17, 2) := by decide +kernel
theorem dX7_bestSmoothLevel_58 : decode cX7_bestSmoothLevel 58 = .ok (.iaload, 1) := by decide +kernel
theorem dX7_bestSmoothLevel_59 : decode cX7_bestSmoothLevel 59 = .ok (.ifCond .ne 7, 3) := by decide +kernel
theorem dX7_bestSmoothLevel_62 : decode cX7_bestSmoothLevel 62 = .ok (.iload_n 3, 1) := by decide +kernel
theorem dX7_bestSmoothLevel_63 : decode cX7_bestSmoothLevel 63 = .ok (.goto 4, 3) := by decide +kernel
theorem dX7_bestSmoothLevel_66 : decode cX7_bestSmoothLevel 66 = .ok (.iload_n 2, 1) := by decide +kernel
theorem dX7_bestSmoothLevel_67 : decode cX7_bestSmoothLevel 67 = .ok (.istore_n 2, 1) := by decide +kernel
theorem dX7_bestSmoothLevel_68 : decode cX7_bestSmoothLevel 68 = .ok (.iinc 3 1, 3) := by decide +kernel
theorem dX7_bestSmoothLevel_71 : decode cX7_bestSmoothLevel 71 = .ok (.goto (-47), 3) := by decide +kernel
theorem dX7_bestSmoothLevel_74 : decode cX7_bestSmoothLevel 74 = .ok (.aload_n 0, 1) := by decide +kernel
theorem dX7_bestSmoothLevel_75 : decode cX7_bestSmoothLevel 75 = .ok (.iload_n 1, 1) := by decide +kernel
theorem dX7_bestSmoothLevel_76 : decode cX7_bestSmoothLevel 76 = .ok (.putfield 44, 3) := by decide +kernel
theorem dX7_bestSmoothLevel_79 : decode cX7_bestSmoothLevel 79 = .ok (.aload_n 0, 1) := by decide +kernel
theorem dX7_bestSmoothLevel_80 : decode cX7_bestSmoothLevel 80 = .ok (.invokevirtual 178, 3) := by decide +kernel
theorem dX7_bestSmoothLevel_83 : decode cX7_bestSmoothLevel 83 = .ok (.iload_n 2, 1) := by decide +kernel
theorem dX7_bestSmoothLevel_84 : decode cX7_bestSmoothLevel 84 = .ok (.ireturn, 1) := by decide +kernel
theorem dJ5_init_d00df_0 : decode cJ5_init_d00df 0 = .ok (.aload_n 0, 1) := by decide +kernel
theorem dJ5_init_d00df_1 : decode cJ5_init_d00df 1 = .ok (.invokespecial 3, 3) := by decide +kernel
theorem dJ5_init_d00df_4 : decode cJ5_init_d00df 4 = .ok (.getstatic 18, 3) := by decide +kernel
theorem dJ5_init_d00df_7 : decode cJ5_init_d00df 7 = .ok (.ifCond .eq 18, 3) := by decide +kernel
theorem dJ5_init_d00df_10 : decode cJ5_init_d00df 10 = .ok (.aload_n 0, 1) := by decide +kernel
theorem dJ5_init_d00df_11 : decode cJ5_init_d00df 11 = .ok (.iload_n 1, 1) := by decide +kernel
theorem dJ5_init_d00df_12 : decode cJ5_init_d00df 12 = .ok (.newarray .byte, 2) := by decide +kernel
theorem dJ5_init_d00df_14 : decode cJ5_init_d00df 14 = .ok (.putfield 15, 3) := by decide +kernel
theorem dJ5_init_d00df_17 : decode cJ5_init_d00df 17 = .ok (.aload_n 0, 1) := by decide +kernel
theorem dJ5_init_d00df_18 : decode cJ5_init_d00df 18 = .ok (.iconst 0, 1) := by decide +kernel
theorem dJ5_init_d00df_19 : decode cJ5_init_d00df 19 = .ok (.putfield 22, 3) := by decide +kernel
theorem dJ5_init_d00df_22 : decode cJ5_init_d00df 22 = .ok (.goto 16, 3) := by decide +kernel
theorem dJ5_init_d00df_25 : decode cJ5_init_d00df 25 = .ok (.aload_n 0, 1) := by decide +kernel
theorem dJ5_init_d00df_26 : decode cJ5_init_d00df 26 = .ok (.iload_n 1, 1) := by decide +kernel
theorem dJ5_init_d00df_27 : decode cJ5_init_d00df 27 = .ok (.invokestatic 26, 3) := by decide +kernel
theorem dJ5_init_d00df_30 : decode cJ5_init_d00df 30 = .ok (.putfield 15, 3) := by decide +kernel
theorem dJ5_init_d00df_33 : decode cJ5_init_d00df 33 = .ok (.aload_n 0, 1) := by decide +kernel
theorem dJ5_init_d00df_34 : decode cJ5_init_d00df 34 = .ok (.iconst 1, 1) := by decide +kernel
theorem dJ5_init_d00df_35 : decode cJ5_init_d00df 35 = .ok (.putfield 22, 3) := by decide +kernel
theorem dJ5_init_d00df_38 : decode cJ5_init_d00df 38 = .ok (.return_, 1) := by decide +kernel
theorem dJ5_length_8abf5_0 : decode cJ5_length_8abf5 0 = .ok (.aload_n 0, 1) := by decide +kernel
theorem dJ5_length_8abf5_1 : decode cJ5_length_8abf5 1 = .ok (.getfield 79, 3) := by decide +kernel
theorem dJ5_length_8abf5_4 : decode cJ5_length_8abf5 4 = .ok (.ireturn, 1) := by decide +kernel
theorem dJ5_ensureCapacityInternal_d00df_0 : decode cJ5_ensureCapacityInternal_d00df 0 = .ok (.aload_n 0, 1) := by decide +kernel
theorem dJ5_ensureCapacityInternal_d00df_1 : decode cJ5_ensureCapacityInternal_d00df 1 = .ok (.getfield 15, 3) := by decide +kernel
theorem dJ5_ensureCapacityInternal_d00df_4 : decode cJ5_ensureCapacityInternal_d00df 4 = .ok (.arraylength, 1) := by decide +kernel
theorem dJ5_ensureCapacityInternal_d00df_5 : decode cJ5_ensureCapacityInternal_d00df 5 = .ok (.aload_n 0, 1) := by decide +kernel
theorem dJ5_ensureCapacityInternal_d00df_6 : decode cJ5_ensureCapacityInternal_d00df 6 = .ok (.getfield 22, 3) := by decide +kernel
theorem dJ5_ensureCapacityInternal_d00df_9 : decode cJ5_ensureCapacityInternal_d00df 9 = .ok (.ishr, 1) := by decide +kernel
theorem dJ5_ensureCapacityInternal_d00df_10 : decode cJ5_ensureCapacityInternal_d00df 10 = .ok (.istore_n 2, 1) := by decide +kernel
theorem dJ5_ensureCapacityInternal_d00df_11 : decode cJ5_ensureCapacityInternal_d00df 11 = .ok (.iload_n 1, 1) := by decide +kernel
theorem dJ5_ensureCapacityInternal_d00df_12 : decode cJ5_ensureCapacityInternal_d00df 12 = .ok (.iload_n 2, 1) := by decide +kernel
theorem dJ5_ensureCapacityInternal_d00df_13 : decode cJ5_ensureCapacityInternal_d00df 13 = .ok (.isub, 1) := by decide +kernel
theorem dJ5_ensureCapacityInternal_d00df_14 : decode cJ5_ensureCapacityInternal_d00df 14 = .ok (.ifCond .le 24, 3) := by decide +kernel
theorem dJ5_ensureCapacityInternal_d00df_17 : decode cJ5_ensureCapacityInternal_d00df 17 = .ok (.aload_n 0, 1) := by decide +kernel
theorem dJ5_ensureCapacityInternal_d00df_18 : decode cJ5_ensureCapacityInternal_d00df 18 = .ok (.aload_n 0, 1) := by decide +kernel
theorem dJ5_ensureCapacityInternal_d00df_19 : decode cJ5_ensureCapacityInternal_d00df 19 = .ok (.getfield 15, 3) := by decide +kernel
theorem dJ5_ensureCapacityInternal_d00df_22 : decode cJ5_ensureCapacityInternal_d00df 22 = .ok (.aload_n 0, 1) := by decide +kernel
theorem dJ5_ensureCapacityInternal_d00df_23 : decode cJ5_ensureCapacityInternal_d00df 23 = .ok (.iload_n 1, 1) := by decide +kernel
theorem dJ5_ensureCapacityInternal_d00df_24 : decode cJ5_ensureCapacityInternal_d00df 24 = .ok (.invokevirtual 104, 3) := by decide +kernel
theorem dJ5_ensureCapacityInternal_d00df_27 : decode cJ5_ensureCapacityInternal_d00df 27 = .ok (.aload_n 0, 1) := by decide +kernel
theorem dJ5_ensureCapacityInternal_d00df_28 : decode cJ5_ensureCapacityInternal_d00df 28 = .ok (.getfield 22, 3) := by decide +kernel
theorem dJ5_ensureCapacityInternal_d00df_31 : decode cJ5_ensureCapacityInternal_d00df 31 = .ok (.ishl, 1) := by decide +kernel
theorem dJ5_ensureCapacityInternal_d00df_32 : decode cJ5_ensureCapacityInternal_d00df 32 = .ok (.invokestatic 108, 3) := by decide +kernel
theorem dJ5_ensureCapacityInternal_d00df_35 : decode cJ5_ensureCapacityInternal_d00df 35 = .ok (.putfield 15, 3) := by decide +kernel
theorem dJ5_ensureCapacityInternal_d00df_38 : decode cJ5_ensureCapacityInternal_d00df 38 = .ok (.return_, 1) := by decide +kernel
theorem dJ5_setLength_d00df_0 : decode cJ5_setLength_d00df 0 = .ok (.iload_n 1, 1) := by decide +kernel
theorem dJ5_setLength_d00df_1 : decode cJ5_setLength_d00df 1 = .ok (.ifCond .ge 12, 3) := by decide +kernel
theorem dJ5_setLength_d00df_4 : decode cJ5_setLength_d00df 4 = .ok (.new 129, 3) := by decide +kernel
theorem dJ5_setLength_d00df_7 : decode cJ5_setLength_d00df 7 = .ok (.dup, 1) := by decide +kernel
theorem dJ5_setLength_d00df_8 : decode cJ5_setLength_d00df 8 = .ok (.iload_n 1, 1) := by decide +kernel
theorem dJ5_setLength_d00df_9 : decode cJ5_setLength_d00df 9 = .ok (.invokespecial 131, 3) := by decide +kernel
theorem dJ5_setLength_d00df_12 : decode cJ5_setLength_d00df 12 = .ok (.athrow, 1) := by decide +kernel
theorem dJ5_setLength_d00df_13 : decode cJ5_setLength_d00df 13 = .ok (.aload_n 0, 1) := by decide +kernel
theorem dJ5_setLength_d00df_14 : decode cJ5_setLength_d00df 14 = .ok (.iload_n 1, 1) := by decide +kernel
theorem dJ5_setLength_d00df_15 : decode cJ5_setLength_d00df 15 = .ok (.invokevirtual 100, 3) := by decide +kernel
theorem dJ5_setLength_d00df_18 : decode cJ5_setLength_d00df 18 = .ok (.aload_n 0, 1) := by decide +kernel
theorem dJ5_setLength_d00df_19 : decode cJ5_setLength_d00df 19 = .ok (.getfield 79, 3) := by decide +kernel
theorem dJ5_setLength_d00df_22 : decode cJ5_setLength_d00df 22 = .ok (.iload_n 1, 1) := by decide +kernel
theorem dJ5_setLength_d00df_23 : decode cJ5_setLength_d00df 23 = .ok (.if_icmp .ge 40, 3) := by decide +kernel
theorem dJ5_setLength_d00df_26 : decode cJ5_setLength_d00df 26 = .ok (.aload_n 0, 1) := by decide +kernel
theorem dJ5_setLength_d00df_27 : decode cJ5_setLength_d00df 27 = .ok (.invokevirtual 83, 3) := by decide +kernel
theorem dJ5_setLength_d00df_30 : decode cJ5_setLength_d00df 30 = .ok (.ifCond .eq 18, 3) := by decide +kernel
theorem dJ5_setLength_d00df_33 : decode cJ5_setLength_d00df 33 = .ok (.aload_n 0, 1) := by decide +kernel
theorem dJ5_setLength_d00df_34 : decode cJ5_setLength_d00df 34 = .ok (.getfield 15, 3) := by decide +kernel
theorem dJ5_setLength_d00df_37 : decode cJ5_setLength_d00df 37 = .ok (.aload_n 0, 1) := by decide +kernel
theorem dJ5_setLength_d00df_38 : decode cJ5_setLength_d00df 38 = .ok (.getfield 79, 3) := by decide +kernel
theorem dJ5_setLength_d00df_41 : decode cJ5_setLength_d00df 41 = .ok (.iload_n 1, 1) := by decide +kernel
theorem dJ5_setLength_d00df_42 : decode cJ5_setLength_d00df 42 = .ok (.invokestatic 133, 3) := by decide +kernel
theorem dJ5_setLength_d00df_45 : decode cJ5_setLength_d00df 45 = .ok (.goto 31, 3) := by decide +kernel
theorem dJ5_setLength_d00df_48 : decode cJ5_setLength_d00df 48 = .ok (.aload_n 0, 1) := by decide +kernel
theorem dJ5_setLength_d00df_49 : decode cJ5_setLength_d00df 49 = .ok (.getfield 15, 3) := by decide +kernel
theorem dJ5_setLength_d00df_52 : decode cJ5_setLength_d00df 52 = .ok (.aload_n 0, 1) := by decide +kernel
theorem dJ5_setLength_d00df_53 : decode cJ5_setLength_d00df 53 = .ok (.getfield 79, 3) := by decide +kernel
theorem dJ5_setLength_d00df_56 : decode cJ5_setLength_d00df 56 = .ok (.iload_n 1, 1) := by decide +kernel
theorem dJ5_setLength_d00df_57 : decode cJ5_setLength_d00df 57 = .ok (.invokestatic 137, 3) := by decide +kernel
theorem dJ5_setLength_d00df_60 : decode cJ5_setLength_d00df 60 = .ok (.goto 16, 3) := by decide +kernel
theorem dJ5_setLength_d00df_63 : decode cJ5_setLength_d00df 63 = .ok (.aload_n 0, 1) := by decide +kernel
theorem dJ5_setLength_d00df_64 : decode cJ5_setLength_d00df 64 = .ok (.getfield 79, 3) := by decide +kernel
theorem dJ5_setLength_d00df_67 : decode cJ5_setLength_d00df 67 = .ok (.iload_n 1, 1) := by decide +kernel
theorem dJ5_setLength_d00df_68 : decode cJ5_setLength_d00df 68 = .ok (.if_icmp .le 8, 3) := by decide +kernel
theorem dJ5_setLength_d00df_71 : decode cJ5_setLength_d00df 71 = .ok (.aload_n 0, 1) := by decide +kernel
theorem dJ5_setLength_d00df_72 : decode cJ5_setLength_d00df 72 = .ok (.iconst 1, 1) := by decide +kernel
theorem dJ5_setLength_d00df_73 : decode cJ5_setLength_d00df 73 = .ok (.putfield 73, 3) := by decide +kernel
theorem dJ5_setLength_d00df_76 : decode cJ5_setLength_d00df 76 = .ok (.aload_n 0, 1) := by decide +kernel
theorem dJ5_setLength_d00df_77 : decode cJ5_setLength_d00df 77 = .ok (.iload_n 1, 1) := by decide +kernel
theorem dJ5_setLength_d00df_78 : decode cJ5_setLength_d00df 78 = .ok (.putfield 79, 3) := by decide +kernel
theorem dJ5_setLength_d00df_81 : decode cJ5_setLength_d00df 81 = .ok (.return_, 1) := by decide +kernel
theorem dJ5_append_3fe6f_0 : decode cJ5_append_3fe6f 0 = .ok (.aload_n 0, 1) := by decide +kernel
theorem dJ5_append_3fe6f_1 : decode cJ5_append_3fe6f 1 = .ok (.aload_n 0, 1) := by decide +kernel
theorem dJ5_append_3fe6f_2 : decode cJ5_append_3fe6f 2 = .ok (.getfield 79, 3) := by decide +kernel
theorem dJ5_append_3fe6f_5 : decode cJ5_append_3fe6f 5 = .ok (.iconst 1, 1) := by decide +kernel
theorem dJ5_append_3fe6f_6 : decode cJ5_append_3fe6f 6 = .ok (.iadd, 1) := by decide +kernel
theorem dJ5_append_3fe6f_7 : decode cJ5_append_3fe6f 7 = .ok (.invokevirtual 100, 3) := by decide +kernel
theorem dJ5_append_3fe6f_10 : decode cJ5_append_3fe6f 10 = .ok (.aload_n 0, 1) := by decide +kernel
theorem dJ5_append_3fe6f_11 : decode cJ5_append_3fe6f 11 = .ok (.invokevirtual 83, 3) := by decide +kernel
theorem dJ5_append_3fe6f_14 : decode cJ5_append_3fe6f 14 = .ok (.ifCond .eq 31, 3) := by decide +kernel
theorem dJ5_append_3fe6f_17 : decode cJ5_append_3fe6f 17 = .ok (.iload_n 1, 1) := by decide +kernel
theorem dJ5_append_3fe6f_18 : decode cJ5_append_3fe6f 18 = .ok (.invokestatic 191, 3) := by decide +kernel
theorem dJ5_append_3fe6f_21 : decode cJ5_append_3fe6f 21 = .ok (.ifCond .eq 24, 3) := by decide +kernel
theorem dJ5_append_3fe6f_24 : decode cJ5_append_3fe6f 24 = .ok (.aload_n 0, 1) := by decide +kernel
theorem dJ5_append_3fe6f_25 : decode cJ5_append_3fe6f 25 = .ok (.getfield 15, 3) := by decide +kernel
theorem dJ5_append_3fe6f_28 : decode cJ5_append_3fe6f 28 = .ok (.aload_n 0, 1) := by decide +kernel
theorem dJ5_append_3fe6f_29 : decode cJ5_append_3fe6f 29 = .ok (.dup, 1) := by decide +kernel
theorem dJ5_append_3fe6f_30 : decode cJ5_append_3fe6f 30 = .ok (.getfield 79, 3) := by decide +kernel
theorem dJ5_append_3fe6f_33 : decode cJ5_append_3fe6f 33 = .ok (.dup_x1, 1) := by decide +kernel
theorem dJ5_append_3fe6f_34 : decode cJ5_append_3fe6f 34 = .ok (.iconst 1, 1) := by decide +kernel
theorem dJ5_append_3fe6f_35 : decode cJ5_append_3fe6f 35 = .ok (.iadd, 1) := by decide +kernel
theorem dJ5_append_3fe6f_36 : decode cJ5_append_3fe6f 36 = .ok (.putfield 79, 3) := by decide +kernel
theorem dJ5_append_3fe6f_39 : decode cJ5_append_3fe6f 39 = .ok (.iload_n 1, 1) := by decide +kernel
theorem dJ5_append_3fe6f_40 : decode cJ5_append_3fe6f 40 = .ok (.i2b, 1) := by decide +kernel
theorem dJ5_append_3fe6f_41 : decode cJ5_append_3fe6f 41 = .ok (.bastore, 1) := by decide +kernel
theorem dJ5_append_3fe6f_42 : decode cJ5_append_3fe6f 42 = .ok (.goto 33, 3) := by decide +kernel
theorem dJ5_append_3fe6f_45 : decode cJ5_append_3fe6f 45 = .ok (.aload_n 0, 1) := by decide +kernel
theorem dJ5_append_3fe6f_46 : decode cJ5_append_3fe6f 46 = .ok (.invokevirtual 83, 3) := by decide +kernel
theorem dJ5_append_3fe6f_49 : decode cJ5_append_3fe6f 49 = .ok (.ifCond .eq 7, 3) := by decide +kernel
theorem dJ5_append_3fe6f_52 : decode cJ5_append_3fe6f 52 = .ok (.aload_n 0, 1) := by decide +kernel
theorem dJ5_append_3fe6f_53 : decode cJ5_append_3fe6f 53 = .ok (.invokevirtual 195, 3) := by decide +kernel
theorem dJ5_append_3fe6f_56 : decode cJ5_append_3fe6f 56 = .ok (.aload_n 0, 1) := by decide +kernel
theorem dJ5_append_3fe6f_57 : decode cJ5_append_3fe6f 57 = .ok (.getfield 15, 3) := by decide +kernel
theorem dJ5_append_3fe6f_60 : decode cJ5_append_3fe6f 60 = .ok (.aload_n 0, 1) := by decide +kernel
theorem dJ5_append_3fe6f_61 : decode cJ5_append_3fe6f 61 = .ok (.dup, 1) := by decide +kernel
theorem dJ5_append_3fe6f_62 : decode cJ5_append_3fe6f 62 = .ok (.getfield 79, 3) := by decide +kernel
theorem dJ5_append_3fe6f_65 : decode cJ5_append_3fe6f 65 = .ok (.dup_x1, 1) := by decide +kernel
theorem dJ5_append_3fe6f_66 : decode cJ5_append_3fe6f 66 = .ok (.iconst 1, 1) := by decide +kernel
theorem dJ5_append_3fe6f_67 : decode cJ5_append_3fe6f 67 = .ok (.iadd, 1) := by decide +kernel
theorem dJ5_append_3fe6f_68 : decode cJ5_append_3fe6f 68 = .ok (.putfield 79, 3) := by decide +kernel
theorem dJ5_append_3fe6f_71 : decode cJ5_append_3fe6f 71 = .ok (.iload_n 1, 1) := by decide +kernel
theorem dJ5_append_3fe6f_72 : decode cJ5_append_3fe6f 72 = .ok (.invokestatic 197, 3) := by decide +kernel
theorem dJ5_append_3fe6f_75 : decode cJ5_append_3fe6f 75 = .ok (.aload_n 0, 1) := by decide +kernel
theorem dJ5_append_3fe6f_76 : decode cJ5_append_3fe6f 76 = .ok (.areturn, 1) := by decide +kernel
theorem dJ5_getValue_6d5f1_0 : decode cJ5_getValue_6d5f1 0 = .ok (.aload_n 0, 1) := by decide +kernel
theorem dJ5_getValue_6d5f1_1 : decode cJ5_getValue_6d5f1 1 = .ok (.getfield 15, 3) := by decide +kernel
theorem dJ5_getValue_6d5f1_4 : decode cJ5_getValue_6d5f1 4 = .ok (.areturn, 1) := by decide +kernel
theorem dJ5_isLatin1_aae02_0 : decode cJ5_isLatin1_aae02 0 = .ok (.getstatic 18, 3) := by decide +kernel
theorem dJ5_isLatin1_aae02_3 : decode cJ5_isLatin1_aae02 3 = .ok (.ifCond .eq 14, 3) := by decide +kernel
theorem dJ5_isLatin1_aae02_6 : decode cJ5_isLatin1_aae02 6 = .ok (.aload_n 0, 1) := by decide +kernel
theorem dJ5_isLatin1_aae02_7 : decode cJ5_isLatin1_aae02 7 = .ok (.getfield 22, 3) := by decide +kernel
theorem dJ5_isLatin1_aae02_10 : decode cJ5_isLatin1_aae02 10 = .ok (.ifCond .ne 7, 3) := by decide +kernel
theorem dJ5_isLatin1_aae02_13 : decode cJ5_isLatin1_aae02 13 = .ok (.iconst 1, 1) := by decide +kernel
theorem dJ5_isLatin1_aae02_14 : decode cJ5_isLatin1_aae02 14 = .ok (.goto 4, 3) := by decide +kernel
theorem dJ5_isLatin1_aae02_17 : decode cJ5_isLatin1_aae02 17 = .ok (.iconst 0, 1) := by decide +kernel
theorem dJ5_isLatin1_aae02_18 : decode cJ5_isLatin1_aae02 18 = .ok (.ireturn, 1) := by decide +kernel
theorem dJ0_init_81219_0 : decode cJ0_init_81219 0 = .ok (.aload_n 0, 1) := by decide +kernel
theorem dJ0_init_81219_1 : decode cJ0_init_81219 1 = .ok (.aload_n 1, 1) := by decide +kernel
theorem dJ0_init_81219_2 : decode cJ0_init_81219 2 = .ok (.aconst_null, 1) := by decide +kernel
theorem dJ0_init_81219_3 : decode cJ0_init_81219 3 = .ok (.invokespecial 489, 3) := by decide +kernel
theorem dJ0_init_81219_6 : decode cJ0_init_81219 6 = .ok (.return_, 1) := by decide +kernel
theorem dJ0_length_8abf5_0 : decode cJ0_length_8abf5 0 = .ok (.aload_n 0, 1) := by decide +kernel
theorem dJ0_length_8abf5_1 : decode cJ0_length_8abf5 1 = .ok (.getfield 9, 3) := by decide +kernel
theorem dJ0_length_8abf5_4 : decode cJ0_length_8abf5 4 = .ok (.arraylength, 1) := by decide +kernel
theorem dJ0_length_8abf5_5 : decode cJ0_length_8abf5 5 = .ok (.aload_n 0, 1) := by decide +kernel
theorem dJ0_length_8abf5_6 : decode cJ0_length_8abf5 6 = .ok (.invokevirtual 335, 3) := by decide +kernel
theorem dJ0_length_8abf5_9 : decode cJ0_length_8abf5 9 = .ok (.ishr, 1) := by decide +kernel
theorem dJ0_length_8abf5_10 : decode cJ0_length_8abf5 10 = .ok (.ireturn, 1) := by decide +kernel
theorem dJ0_charAt_5068e_0 : decode cJ0_charAt_5068e 0 = .ok (.aload_n 0, 1) := by decide +kernel
theorem dJ0_charAt_5068e_1 : decode cJ0_charAt_5068e 1 = .ok (.invokevirtual 492, 3) := by decide +kernel
theorem dJ0_charAt_5068e_4 : decode cJ0_charAt_5068e 4 = .ok (.ifCond .eq 12, 3) := by decide +kernel
theorem dJ0_charAt_5068e_7 : decode cJ0_charAt_5068e 7 = .ok (.aload_n 0, 1) := by decide +kernel
theorem dJ0_charAt_5068e_8 : decode cJ0_charAt_5068e 8 = .ok (.getfield 9, 3) := by decide +kernel
theorem dJ0_charAt_5068e_11 : decode cJ0_charAt_5068e 11 = .ok (.iload_n 1, 1) := by decide +kernel
theorem dJ0_charAt_5068e_12 : decode cJ0_charAt_5068e 12 = .ok (.invokestatic 495, 3) := by decide +kernel
theorem dJ0_charAt_5068e_15 : decode cJ0_charAt_5068e 15 = .ok (.ireturn, 1) := by decide +kernel
theorem dJ0_charAt_5068e_16 : decode cJ0_charAt_5068e 16 = .ok (.aload_n 0, 1) := by decide +kernel
theorem dJ0_charAt_5068e_17 : decode cJ0_charAt_5068e 17 = .ok (.getfield 9, 3) := by decide +kernel
theorem dJ0_charAt_5068e_20 : decode cJ0_charAt_5068e 20 = .ok (.iload_n 1, 1) := by decide +kernel
theorem dJ0_charAt_5068e_21 : decode cJ0_charAt_5068e 21 = .ok (.invokestatic 498, 3) := by decide +kernel
theorem dJ0_charAt_5068e_24 : decode cJ0_charAt_5068e 24 = .ok (.ireturn, 1) := by decide +kernel
theorem dJ0_equals_9ea2d_0 : decode cJ0_equals_9ea2d 0 = .ok (.aload_n 0, 1) := by decide +kernel
theorem dJ0_equals_9ea2d_1 : decode cJ0_equals_9ea2d 1 = .ok (.aload_n 1, 1) := by decide +kernel
theorem dJ0_equals_9ea2d_2 : decode cJ0_equals_9ea2d 2 = .ok (.if_acmp .ne 5, 3) := by decide +kernel
theorem dJ0_equals_9ea2d_5 : decode cJ0_equals_9ea2d 5 = .ok (.iconst 1, 1) := by decide +kernel
theorem dJ0_equals_9ea2d_6 : decode cJ0_equals_9ea2d 6 = .ok (.ireturn, 1) := by decide +kernel
theorem dJ0_equals_9ea2d_7 : decode cJ0_equals_9ea2d 7 = .ok (.aload_n 1, 1) := by decide +kernel
theorem dJ0_equals_9ea2d_8 : decode cJ0_equals_9ea2d 8 = .ok (.instanceof 10, 3) := by decide +kernel
theorem dJ0_equals_9ea2d_11 : decode cJ0_equals_9ea2d 11 = .ok (.ifCond .eq 43, 3) := by decide +kernel
theorem dJ0_equals_9ea2d_14 : decode cJ0_equals_9ea2d 14 = .ok (.aload_n 1, 1) := by decide +kernel
theorem dJ0_equals_9ea2d_15 : decode cJ0_equals_9ea2d 15 = .ok (.checkcast 10, 3) := by decide +kernel
theorem dJ0_equals_9ea2d_18 : decode cJ0_equals_9ea2d 18 = .ok (.astore_n 2, 1) := by decide +kernel
theorem dJ0_equals_9ea2d_19 : decode cJ0_equals_9ea2d 19 = .ok (.getstatic 38, 3) := by decide +kernel
theorem dJ0_equals_9ea2d_22 : decode cJ0_equals_9ea2d 22 = .ok (.ifCond .eq 14, 3) := by decide +kernel
theorem dJ0_equals_9ea2d_25 : decode cJ0_equals_9ea2d 25 = .ok (.aload_n 0, 1) := by decide +kernel
theorem dJ0_equals_9ea2d_26 : decode cJ0_equals_9ea2d 26 = .ok (.getfield 15, 3) := by decide +kernel
theorem dJ0_equals_9ea2d_29 : decode cJ0_equals_9ea2d 29 = .ok (.aload_n 2, 1) := by decide +kernel
theorem dJ0_equals_9ea2d_30 : decode cJ0_equals_9ea2d 30 = .ok (.getfield 15, 3) := by decide +kernel
theorem dJ0_equals_9ea2d_33 : decode cJ0_equals_9ea2d 33 = .ok (.if_icmp .ne 21, 3) := by decide +kernel
theorem dJ0_equals_9ea2d_36 : decode cJ0_equals_9ea2d 36 = .ok (.aload_n 0, 1) := by decide +kernel
theorem dJ0_equals_9ea2d_37 : decode cJ0_equals_9ea2d 37 = .ok (.getfield 9, 3) := by decide +kernel
theorem dJ0_equals_9ea2d_40 : decode cJ0_equals_9ea2d 40 = .ok (.aload_n 2, 1) := by decide +kernel
theorem dJ0_equals_9ea2d_41 : decode cJ0_equals_9ea2d 41 = .ok (.getfield 9, 3) := by decide +kernel
theorem dJ0_equals_9ea2d_44 : decode cJ0_equals_9ea2d 44 = .ok (.invokestatic 541, 3) := by decide +kernel
theorem dJ0_equals_9ea2d_47 : decode cJ0_equals_9ea2d 47 = .ok (.ifCond .eq 7, 3) := by decide +kernel
theorem dJ0_equals_9ea2d_50 : decode cJ0_equals_9ea2d 50 = .ok (.iconst 1, 1) := by decide +kernel
theorem dJ0_equals_9ea2d_51 : decode cJ0_equals_9ea2d 51 = .ok (.goto 4, 3) := by decide +kernel
theorem dJ0_equals_9ea2d_54 : decode cJ0_equals_9ea2d 54 = .ok (.iconst 0, 1) := by decide +kernel
theorem dJ0_equals_9ea2d_55 : decode cJ0_equals_9ea2d 55 = .ok (.ireturn, 1) := by decide +kernel
theorem dJ0_indexOf_0f7a4_0 : decode cJ0_indexOf_0f7a4 0 = .ok (.aload_n 0, 1) := by decide +kernel
theorem dJ0_indexOf_0f7a4_1 : decode cJ0_indexOf_0f7a4 1 = .ok (.iload_n 1, 1) := by decide +kernel
theorem dJ0_indexOf_0f7a4_2 : decode cJ0_indexOf_0f7a4 2 = .ok (.iconst 0, 1) := by decide +kernel
theorem dJ0_indexOf_0f7a4_3 : decode cJ0_indexOf_0f7a4 3 = .ok (.invokevirtual 633, 3) := by decide +kernel
theorem dJ0_indexOf_0f7a4_6 : decode cJ0_indexOf_0f7a4 6 = .ok (.ireturn, 1) := by decide +kernel
theorem dJ0_indexOf_7cf53_0 : decode cJ0_indexOf_7cf53 0 = .ok (.aload_n 0, 1) := by decide +kernel
theorem dJ0_indexOf_7cf53_1 : decode cJ0_indexOf_7cf53 1 = .ok (.invokevirtual 492, 3) := by decide +kernel
theorem dJ0_indexOf_7cf53_4 : decode cJ0_indexOf_7cf53 4 = .ok (.ifCond .eq 19, 3) := by decide +kernel
theorem dJ0_indexOf_7cf53_7 : decode cJ0_indexOf_7cf53 7 = .ok (.aload_n 0, 1) := by decide +kernel
theorem dJ0_indexOf_7cf53_8 : decode cJ0_indexOf_7cf53 8 = .ok (.getfield 9, 3) := by decide +kernel
theorem dJ0_indexOf_7cf53_11 : decode cJ0_indexOf_7cf53 11 = .ok (.iload_n 1, 1) := by decide +kernel
theorem dJ0_indexOf_7cf53_12 : decode cJ0_indexOf_7cf53 12 = .ok (.iload_n 2, 1) := by decide +kernel
theorem dJ0_indexOf_7cf53_13 : decode cJ0_indexOf_7cf53 13 = .ok (.aload_n 0, 1) := by decide +kernel
theorem dJ0_indexOf_7cf53_14 : decode cJ0_indexOf_7cf53 14 = .ok (.invokevirtual 505, 3) := by decide +kernel
theorem dJ0_indexOf_7cf53_17 : decode cJ0_indexOf_7cf53 17 = .ok (.invokestatic 637, 3) := by decide +kernel
theorem dJ0_indexOf_7cf53_20 : decode cJ0_indexOf_7cf53 20 = .ok (.goto 16, 3) := by decide +kernel
theorem dJ0_indexOf_7cf53_23 : decode cJ0_indexOf_7cf53 23 = .ok (.aload_n 0, 1) := by decide +kernel
theorem dJ0_indexOf_7cf53_24 : decode cJ0_indexOf_7cf53 24 = .ok (.getfield 9, 3) := by decide +kernel
theorem dJ0_indexOf_7cf53_27 : decode cJ0_indexOf_7cf53 27 = .ok (.iload_n 1, 1) := by decide +kernel
theorem dJ0_indexOf_7cf53_28 : decode cJ0_indexOf_7cf53 28 = .ok (.iload_n 2, 1) := by decide +kernel
theorem dJ0_indexOf_7cf53_29 : decode cJ0_indexOf_7cf53 29 = .ok (.aload_n 0, 1) := by decide +kernel
theorem dJ0_indexOf_7cf53_30 : decode cJ0_indexOf_7cf53 30 = .ok (.invokevirtual 505, 3) := by decide +kernel
theorem dJ0_indexOf_7cf53_33 : decode cJ0_indexOf_7cf53 33 = .ok (.invokestatic 640, 3) := by decide +kernel
theorem dJ0_indexOf_7cf53_36 : decode cJ0_indexOf_7cf53 36 = .ok (.ireturn, 1) := by decide +kernel
theorem dJ0_substring_b52d3_0 : decode cJ0_substring_b52d3 0 = .ok (.aload_n 0, 1) := by decide +kernel
theorem dJ0_substring_b52d3_1 : decode cJ0_substring_b52d3 1 = .ok (.iload_n 1, 1) := by decide +kernel
theorem dJ0_substring_b52d3_2 : decode cJ0_substring_b52d3 2 = .ok (.aload_n 0, 1) := by decide +kernel
theorem dJ0_substring_b52d3_3 : decode cJ0_substring_b52d3 3 = .ok (.invokevirtual 505, 3) := by decide +kernel
theorem dJ0_substring_b52d3_6 : decode cJ0_substring_b52d3 6 = .ok (.invokevirtual 681, 3) := by decide +kernel
theorem dJ0_substring_b52d3_9 : decode cJ0_substring_b52d3 9 = .ok (.areturn, 1) := by decide +kernel
theorem dJ0_substring_37a41_0 : decode cJ0_substring_37a41 0 = .ok (.aload_n 0, 1) := by decide +kernel
theorem dJ0_substring_37a41_1 : decode cJ0_substring_37a41 1 = .ok (.invokevirtual 505, 3) := by decide +kernel
theorem dJ0_substring_37a41_4 : decode cJ0_substring_37a41 4 = .ok (.istore_n 3, 1) := by decide +kernel
theorem dJ0_substring_37a41_5 : decode cJ0_substring_37a41 5 = .ok (.iload_n 1, 1) := by decide +kernel
theorem dJ0_substring_37a41_6 : decode cJ0_substring_37a41 6 = .ok (.iload_n 2, 1) := by decide +kernel
theorem dJ0_substring_37a41_7 : decode cJ0_substring_37a41 7 = .ok (.iload_n 3, 1) := by decide +kernel
theorem dJ0_substring_37a41_8 : decode cJ0_substring_37a41 8 = .ok (.invokestatic 521, 3) := by decide +kernel
theorem dJ0_substring_37a41_11 : decode cJ0_substring_37a41 11 = .ok (.iload_n 1, 1) := by decide +kernel
theorem dJ0_substring_37a41_12 : decode cJ0_substring_37a41 12 = .ok (.ifCond .ne 10, 3) := by decide +kernel
theorem dJ0_substring_37a41_15 : decode cJ0_substring_37a41 15 = .ok (.iload_n 2, 1) := by decide +kernel
theorem dJ0_substring_37a41_16 : decode cJ0_substring_37a41 16 = .ok (.iload_n 3, 1) := by decide +kernel
theorem dJ0_substring_37a41_17 : decode cJ0_substring_37a41 17 = .ok (.if_icmp .ne 5, 3) := by decide +kernel
theorem dJ0_substring_37a41_20 : decode cJ0_substring_37a41 20 = .ok (.aload_n 0, 1) := by decide +kernel
theorem dJ0_substring_37a41_21 : decode cJ0_substring_37a41 21 = .ok (.areturn, 1) := by decide +kernel
theorem dJ0_substring_37a41_22 : decode cJ0_substring_37a41 22 = .ok (.iload_n 2, 1) := by decide +kernel
theorem dJ0_substring_37a41_23 : decode cJ0_substring_37a41 23 = .ok (.iload_n 1, 1) := by decide +kernel
theorem dJ0_substring_37a41_24 : decode cJ0_substring_37a41 24 = .ok (.isub, 1) := by decide +kernel
theorem dJ0_substring_37a41_25 : decode cJ0_substring_37a41 25 = .ok (.istore 4, 2) := by decide +kernel
theorem dJ0_substring_37a41_27 : decode cJ0_substring_37a41 27 = .ok (.aload_n 0, 1) := by decide +kernel
theorem dJ0_substring_37a41_28 : decode cJ0_substring_37a41 28 = .ok (.invokevirtual 492, 3) := by decide +kernel
theorem dJ0_substring_37a41_31 : decode cJ0_substring_37a41 31 = .ok (.ifCond .eq 16, 3) := by decide +kernel
theorem dJ0_substring_37a41_34 : decode cJ0_substring_37a41 34 = .ok (.aload_n 0, 1) := by decide +kernel
theorem dJ0_substring_37a41_35 : decode cJ0_substring_37a41 35 = .ok (.getfield 9, 3) := by decide +kernel
theorem dJ0_substring_37a41_38 : decode cJ0_substring_37a41 38 = .ok (.iload_n 1, 1) := by decide +kernel
theorem dJ0_substring_37a41_39 : decode cJ0_substring_37a41 39 = .ok (.iload 4, 2) := by decide +kernel
theorem dJ0_substring_37a41_41 : decode cJ0_substring_37a41 41 = .ok (.invokestatic 685, 3) := by decide +kernel
theorem dJ0_substring_37a41_44 : decode cJ0_substring_37a41 44 = .ok (.goto 13, 3) := by decide +kernel
theorem dJ0_substring_37a41_47 : decode cJ0_substring_37a41 47 = .ok (.aload_n 0, 1) := by decide +kernel
theorem dJ0_substring_37a41_48 : decode cJ0_substring_37a41 48 = .ok (.getfield 9, 3) := by decide +kernel
theorem dJ0_substring_37a41_51 : decode cJ0_substring_37a41 51 = .ok (.iload_n 1, 1) := by decide +kernel
theorem dJ0_substring_37a41_52 : decode cJ0_substring_37a41 52 = .ok (.iload 4, 2) := by decide +kernel
theorem dJ0_substring_37a41_54 : decode cJ0_substring_37a41 54 = .ok (.invokestatic 689, 3) := by decide +kernel
theorem dJ0_substring_37a41_57 : decode cJ0_substring_37a41 57 = .ok (.areturn, 1) := by decide +kernel
theorem dJ0_init_db425_0 : decode cJ0_init_db425 0 = .ok (.aload_n 0, 1) := by decide +kernel
theorem dJ0_init_db425_1 : decode cJ0_init_db425 1 = .ok (.invokespecial 1, 3) := by decide +kernel
theorem dJ0_init_db425_4 : decode cJ0_init_db425 4 = .ok (.aload_n 1, 1) := by decide +kernel
theorem dJ0_init_db425_5 : decode cJ0_init_db425 5 = .ok (.invokevirtual 552, 3) := by decide +kernel
theorem dJ0_init_db425_8 : decode cJ0_init_db425 8 = .ok (.astore_n 3, 1) := by decide +kernel
theorem dJ0_init_db425_9 : decode cJ0_init_db425 9 = .ok (.aload_n 1, 1) := by decide +kernel
theorem dJ0_init_db425_10 : decode cJ0_init_db425 10 = .ok (.invokevirtual 549, 3) := by decide +kernel
theorem dJ0_init_db425_13 : decode cJ0_init_db425 13 = .ok (.istore 4, 2) := by decide +kernel
theorem dJ0_init_db425_15 : decode cJ0_init_db425 15 = .ok (.aload_n 1, 1) := by decide +kernel
theorem dJ0_init_db425_16 : decode cJ0_init_db425 16 = .ok (.invokevirtual 1047, 3) := by decide +kernel
theorem dJ0_init_db425_19 : decode cJ0_init_db425 19 = .ok (.ifCond .eq 22, 3) := by decide +kernel
theorem dJ0_init_db425_22 : decode cJ0_init_db425 22 = .ok (.aload_n 0, 1) := by decide +kernel
theorem dJ0_init_db425_23 : decode cJ0_init_db425 23 = .ok (.iconst 0, 1) := by decide +kernel
theorem dJ0_init_db425_24 : decode cJ0_init_db425 24 = .ok (.putfield 15, 3) := by decide +kernel
theorem dJ0_init_db425_27 : decode cJ0_init_db425 27 = .ok (.aload_n 0, 1) := by decide +kernel
theorem dJ0_init_db425_28 : decode cJ0_init_db425 28 = .ok (.aload_n 3, 1) := by decide +kernel
theorem dJ0_init_db425_29 : decode cJ0_init_db425 29 = .ok (.iconst 0, 1) := by decide +kernel
theorem dJ0_init_db425_30 : decode cJ0_init_db425 30 = .ok (.iload 4, 2) := by decide +kernel
theorem dJ0_init_db425_32 : decode cJ0_init_db425 32 = .ok (.invokestatic 54, 3) := by decide +kernel
theorem dJ0_init_db425_35 : decode cJ0_init_db425 35 = .ok (.putfield 9, 3) := by decide +kernel
theorem dJ0_init_db425_38 : decode cJ0_init_db425 38 = .ok (.goto 59, 3) := by decide +kernel
theorem dJ0_init_db425_41 : decode cJ0_init_db425 41 = .ok (.getstatic 38, 3) := by decide +kernel
theorem dJ0_init_db425_44 : decode cJ0_init_db425 44 = .ok (.ifCond .eq 35, 3) := by decide +kernel
theorem dJ0_init_db425_47 : decode cJ0_init_db425 47 = .ok (.aload_n 1, 1) := by decide +kernel
theorem dJ0_init_db425_48 : decode cJ0_init_db425 48 = .ok (.getfield 1048, 3) := by decide +kernel
theorem dJ0_init_db425_51 : decode cJ0_init_db425 51 = .ok (.ifCond .eq 28, 3) := by decide +kernel
theorem dJ0_init_db425_54 : decode cJ0_init_db425 54 = .ok (.aload_n 0, 1) := by decide +kernel
theorem dJ0_init_db425_55 : decode cJ0_init_db425 55 = .ok (.aload_n 3, 1) := by decide +kernel
theorem dJ0_init_db425_56 : decode cJ0_init_db425 56 = .ok (.iconst 0, 1) := by decide +kernel
theorem dJ0_init_db425_57 : decode cJ0_init_db425 57 = .ok (.iload 4, 2) := by decide +kernel
theorem dJ0_init_db425_59 : decode cJ0_init_db425 59 = .ok (.invokestatic 1051, 3) := by decide +kernel
theorem dJ0_init_db425_62 : decode cJ0_init_db425 62 = .ok (.putfield 9, 3) := by decide +kernel
theorem dJ0_init_db425_65 : decode cJ0_init_db425 65 = .ok (.aload_n 0, 1) := by decide +kernel
theorem dJ0_init_db425_66 : decode cJ0_init_db425 66 = .ok (.aload_n 0, 1) := by decide +kernel
theorem dJ0_init_db425_67 : decode cJ0_init_db425 67 = .ok (.getfield 9, 3) := by decide +kernel
theorem dJ0_init_db425_70 : decode cJ0_init_db425 70 = .ok (.iload 4, 2) := by decide +kernel
theorem dJ0_init_db425_72 : decode cJ0_init_db425 72 = .ok (.invokestatic 47, 3) := by decide +kernel
theorem dJ0_init_db425_75 : decode cJ0_init_db425 75 = .ok (.putfield 15, 3) := by decide +kernel
end
section
theorem dJ0_init_db425_78 : decode cJ0_init_db425 78 = .ok (.return_, 1) := by decide +kernel
theorem dJ0_init_db425_79 : decode cJ0_init_db425 79 = .ok (.aload_n 0, 1) := by decide +kernel
theorem dJ0_init_db425_80 : decode cJ0_init_db425 80 = .ok (.iconst 1, 1) := by decide +kernel
theorem dJ0_init_db425_81 : decode cJ0_init_db425 81 = .ok (.putfield 15, 3) := by decide +kernel
theorem dJ0_init_db425_84 : decode cJ0_init_db425 84 = .ok (.aload_n 0, 1) := by decide +kernel
theorem dJ0_init_db425_85 : decode cJ0_init_db425 85 = .ok (.aload_n 3, 1) := by decide +kernel
theorem dJ0_init_db425_86 : decode cJ0_init_db425 86 = .ok (.iconst 0, 1) := by decide +kernel
theorem dJ0_init_db425_87 : decode cJ0_init_db425 87 = .ok (.iload 4, 2) := by decide +kernel
theorem dJ0_init_db425_89 : decode cJ0_init_db425 89 = .ok (.iconst 1, 1) := by decide +kernel
theorem dJ0_init_db425_90 : decode cJ0_init_db425 90 = .ok (.ishl, 1) := by decide +kernel
theorem dJ0_init_db425_91 : decode cJ0_init_db425 91 = .ok (.invokestatic 54, 3) := by decide +kernel
theorem dJ0_init_db425_94 : decode cJ0_init_db425 94 = .ok (.putfield 9, 3) := by decide +kernel
theorem dJ0_init_db425_97 : decode cJ0_init_db425 97 = .ok (.return_, 1) := by decide +kernel
theorem dJ0_init_031fb_0 : decode cJ0_init_031fb 0 = .ok (.aload_n 0, 1) := by decide +kernel
theorem dJ0_init_031fb_1 : decode cJ0_init_031fb 1 = .ok (.invokespecial 1, 3) := by decide +kernel
theorem dJ0_init_031fb_4 : decode cJ0_init_031fb 4 = .ok (.aload_n 0, 1) := by decide +kernel
theorem dJ0_init_031fb_5 : decode cJ0_init_031fb 5 = .ok (.aload_n 1, 1) := by decide +kernel
theorem dJ0_init_031fb_6 : decode cJ0_init_031fb 6 = .ok (.putfield 9, 3) := by decide +kernel
theorem dJ0_init_031fb_9 : decode cJ0_init_031fb 9 = .ok (.aload_n 0, 1) := by decide +kernel
theorem dJ0_init_031fb_10 : decode cJ0_init_031fb 10 = .ok (.iload_n 2, 1) := by decide +kernel
theorem dJ0_init_031fb_11 : decode cJ0_init_031fb 11 = .ok (.putfield 15, 3) := by decide +kernel
theorem dJ0_init_031fb_14 : decode cJ0_init_031fb 14 = .ok (.return_, 1) := by decide +kernel
theorem dJ0_coder_7d493_0 : decode cJ0_coder_7d493 0 = .ok (.getstatic 38, 3) := by decide +kernel
theorem dJ0_coder_7d493_3 : decode cJ0_coder_7d493 3 = .ok (.ifCond .eq 10, 3) := by decide +kernel
theorem dJ0_coder_7d493_6 : decode cJ0_coder_7d493 6 = .ok (.aload_n 0, 1) := by decide +kernel
theorem dJ0_coder_7d493_7 : decode cJ0_coder_7d493 7 = .ok (.getfield 15, 3) := by decide +kernel
theorem dJ0_coder_7d493_10 : decode cJ0_coder_7d493 10 = .ok (.goto 4, 3) := by decide +kernel
theorem dJ0_coder_7d493_13 : decode cJ0_coder_7d493 13 = .ok (.iconst 1, 1) := by decide +kernel
theorem dJ0_coder_7d493_14 : decode cJ0_coder_7d493 14 = .ok (.ireturn, 1) := by decide +kernel
theorem dJ0_isLatin1_aae02_0 : decode cJ0_isLatin1_aae02 0 = .ok (.getstatic 38, 3) := by decide +kernel
theorem dJ0_isLatin1_aae02_3 : decode cJ0_isLatin1_aae02 3 = .ok (.ifCond .eq 14, 3) := by decide +kernel
theorem dJ0_isLatin1_aae02_6 : decode cJ0_isLatin1_aae02 6 = .ok (.aload_n 0, 1) := by decide +kernel
theorem dJ0_isLatin1_aae02_7 : decode cJ0_isLatin1_aae02 7 = .ok (.getfield 15, 3) := by decide +kernel
theorem dJ0_isLatin1_aae02_10 : decode cJ0_isLatin1_aae02 10 = .ok (.ifCond .ne 7, 3) := by decide +kernel
theorem dJ0_isLatin1_aae02_13 : decode cJ0_isLatin1_aae02 13 = .ok (.iconst 1, 1) := by decide +kernel
theorem dJ0_isLatin1_aae02_14 : decode cJ0_isLatin1_aae02 14 = .ok (.goto 4, 3) := by decide +kernel
theorem dJ0_isLatin1_aae02_17 : decode cJ0_isLatin1_aae02 17 = .ok (.iconst 0, 1) := by decide +kernel
theorem dJ0_isLatin1_aae02_18 : decode cJ0_isLatin1_aae02 18 = .ok (.ireturn, 1) := by decide +kernel
theorem dJ0_checkIndex_df160_0 : decode cJ0_checkIndex_df160 0 = .ok (.iload_n 0, 1) := by decide +kernel
theorem dJ0_checkIndex_df160_1 : decode cJ0_checkIndex_df160 1 = .ok (.iload_n 1, 1) := by decide +kernel
theorem dJ0_checkIndex_df160_2 : decode cJ0_checkIndex_df160 2 = .ok (.getstatic 1053, 3) := by decide +kernel
theorem dJ0_checkIndex_df160_5 : decode cJ0_checkIndex_df160 5 = .ok (.invokestatic 1059, 3) := by decide +kernel
theorem dJ0_checkIndex_df160_8 : decode cJ0_checkIndex_df160 8 = .ok (.pop, 1) := by decide +kernel
theorem dJ0_checkIndex_df160_9 : decode cJ0_checkIndex_df160 9 = .ok (.return_, 1) := by decide +kernel
theorem dJ0_checkBoundsBeginEnd_23922_0 : decode cJ0_checkBoundsBeginEnd_23922 0 = .ok (.iload_n 0, 1) := by decide +kernel
theorem dJ0_checkBoundsBeginEnd_23922_1 : decode cJ0_checkBoundsBeginEnd_23922 1 = .ok (.iload_n 1, 1) := by decide +kernel
theorem dJ0_checkBoundsBeginEnd_23922_2 : decode cJ0_checkBoundsBeginEnd_23922 2 = .ok (.iload_n 2, 1) := by decide +kernel
theorem dJ0_checkBoundsBeginEnd_23922_3 : decode cJ0_checkBoundsBeginEnd_23922 3 = .ok (.getstatic 1053, 3) := by decide +kernel
theorem dJ0_checkBoundsBeginEnd_23922_6 : decode cJ0_checkBoundsBeginEnd_23922 6 = .ok (.invokestatic 1062, 3) := by decide +kernel
theorem dJ0_checkBoundsBeginEnd_23922_9 : decode cJ0_checkBoundsBeginEnd_23922 9 = .ok (.pop, 1) := by decide +kernel
theorem dJ0_checkBoundsBeginEnd_23922_10 : decode cJ0_checkBoundsBeginEnd_23922 10 = .ok (.return_, 1) := by decide +kernel
theorem dJ4_init_da8c8_0 : decode cJ4_init_da8c8 0 = .ok (.aload_n 0, 1) := by decide +kernel
theorem dJ4_init_da8c8_1 : decode cJ4_init_da8c8 1 = .ok (.bipush 16, 2) := by decide +kernel
theorem dJ4_init_da8c8_3 : decode cJ4_init_da8c8 3 = .ok (.invokespecial 1, 3) := by decide +kernel
theorem dJ4_init_da8c8_6 : decode cJ4_init_da8c8 6 = .ok (.return_, 1) := by decide +kernel
theorem dJ4_append_cf468_0 : decode cJ4_append_cf468 0 = .ok (.aload_n 0, 1) := by decide +kernel
theorem dJ4_append_cf468_1 : decode cJ4_append_cf468 1 = .ok (.iload_n 1, 1) := by decide +kernel
theorem dJ4_append_cf468_2 : decode cJ4_append_cf468 2 = .ok (.invokespecial 50, 3) := by decide +kernel
theorem dJ4_append_cf468_5 : decode cJ4_append_cf468 5 = .ok (.pop, 1) := by decide +kernel
theorem dJ4_append_cf468_6 : decode cJ4_append_cf468 6 = .ok (.aload_n 0, 1) := by decide +kernel
theorem dJ4_append_cf468_7 : decode cJ4_append_cf468 7 = .ok (.areturn, 1) := by decide +kernel
theorem dJ4_toString_0e30d_0 : decode cJ4_toString_0e30d 0 = .ok (.new 18, 3) := by decide +kernel
theorem dJ4_toString_0e30d_3 : decode cJ4_toString_0e30d 3 = .ok (.dup, 1) := by decide +kernel
theorem dJ4_toString_0e30d_4 : decode cJ4_toString_0e30d 4 = .ok (.aload_n 0, 1) := by decide +kernel
theorem dJ4_toString_0e30d_5 : decode cJ4_toString_0e30d 5 = .ok (.invokespecial 137, 3) := by decide +kernel
theorem dJ4_toString_0e30d_8 : decode cJ4_toString_0e30d 8 = .ok (.areturn, 1) := by decide +kernel
theorem dJ4_setLength_d00df_0 : decode cJ4_setLength_d00df 0 = .ok (.aload_n 0, 1) := by decide +kernel
theorem dJ4_setLength_d00df_1 : decode cJ4_setLength_d00df 1 = .ok (.iload_n 1, 1) := by decide +kernel
theorem dJ4_setLength_d00df_2 : decode cJ4_setLength_d00df 2 = .ok (.invokespecial 333, 3) := by decide +kernel
theorem dJ4_setLength_d00df_5 : decode cJ4_setLength_d00df 5 = .ok (.return_, 1) := by decide +kernel
theorem dJ4_length_8abf5_0 : decode cJ4_length_8abf5 0 = .ok (.aload_n 0, 1) := by decide +kernel
theorem dJ4_length_8abf5_1 : decode cJ4_length_8abf5 1 = .ok (.invokespecial 343, 3) := by decide +kernel
theorem dJ4_length_8abf5_4 : decode cJ4_length_8abf5 4 = .ok (.ireturn, 1) := by decide +kernel
theorem dJ1_charAt_3b067_0 : decode cJ1_charAt_3b067 0 = .ok (.iload_n 1, 1) := by decide +kernel
theorem dJ1_charAt_3b067_1 : decode cJ1_charAt_3b067 1 = .ok (.aload_n 0, 1) := by decide +kernel
theorem dJ1_charAt_3b067_2 : decode cJ1_charAt_3b067 2 = .ok (.arraylength, 1) := by decide +kernel
theorem dJ1_charAt_3b067_3 : decode cJ1_charAt_3b067 3 = .ok (.invokestatic 9, 3) := by decide +kernel
theorem dJ1_charAt_3b067_6 : decode cJ1_charAt_3b067 6 = .ok (.aload_n 0, 1) := by decide +kernel
theorem dJ1_charAt_3b067_7 : decode cJ1_charAt_3b067 7 = .ok (.iload_n 1, 1) := by decide +kernel
theorem dJ1_charAt_3b067_8 : decode cJ1_charAt_3b067 8 = .ok (.baload, 1) := by decide +kernel
theorem dJ1_charAt_3b067_9 : decode cJ1_charAt_3b067 9 = .ok (.sipush 255, 3) := by decide +kernel
theorem dJ1_charAt_3b067_12 : decode cJ1_charAt_3b067 12 = .ok (.iand, 1) := by decide +kernel
theorem dJ1_charAt_3b067_13 : decode cJ1_charAt_3b067 13 = .ok (.i2c, 1) := by decide +kernel
theorem dJ1_charAt_3b067_14 : decode cJ1_charAt_3b067 14 = .ok (.ireturn, 1) := by decide +kernel
theorem dJ1_canEncode_fc78d_0 : decode cJ1_canEncode_fc78d 0 = .ok (.iload_n 0, 1) := by decide +kernel
theorem dJ1_canEncode_fc78d_1 : decode cJ1_canEncode_fc78d 1 = .ok (.sipush 255, 3) := by decide +kernel
theorem dJ1_canEncode_fc78d_4 : decode cJ1_canEncode_fc78d 4 = .ok (.if_icmp .gt 7, 3) := by decide +kernel
theorem dJ1_canEncode_fc78d_7 : decode cJ1_canEncode_fc78d 7 = .ok (.iconst 1, 1) := by decide +kernel
theorem dJ1_canEncode_fc78d_8 : decode cJ1_canEncode_fc78d 8 = .ok (.goto 4, 3) := by decide +kernel
theorem dJ1_canEncode_fc78d_11 : decode cJ1_canEncode_fc78d 11 = .ok (.iconst 0, 1) := by decide +kernel
theorem dJ1_canEncode_fc78d_12 : decode cJ1_canEncode_fc78d 12 = .ok (.ireturn, 1) := by decide +kernel
theorem dJ1_canEncode_9a6ad_0 : decode cJ1_canEncode_9a6ad 0 = .ok (.iload_n 0, 1) := by decide +kernel
theorem dJ1_canEncode_9a6ad_1 : decode cJ1_canEncode_9a6ad 1 = .ok (.ifCond .lt 14, 3) := by decide +kernel
theorem dJ1_canEncode_9a6ad_4 : decode cJ1_canEncode_9a6ad 4 = .ok (.iload_n 0, 1) := by decide +kernel
theorem dJ1_canEncode_9a6ad_5 : decode cJ1_canEncode_9a6ad 5 = .ok (.sipush 255, 3) := by decide +kernel
theorem dJ1_canEncode_9a6ad_8 : decode cJ1_canEncode_9a6ad 8 = .ok (.if_icmp .gt 7, 3) := by decide +kernel
theorem dJ1_canEncode_9a6ad_11 : decode cJ1_canEncode_9a6ad 11 = .ok (.iconst 1, 1) := by decide +kernel
theorem dJ1_canEncode_9a6ad_12 : decode cJ1_canEncode_9a6ad 12 = .ok (.goto 4, 3) := by decide +kernel
theorem dJ1_canEncode_9a6ad_15 : decode cJ1_canEncode_9a6ad 15 = .ok (.iconst 0, 1) := by decide +kernel
theorem dJ1_canEncode_9a6ad_16 : decode cJ1_canEncode_9a6ad 16 = .ok (.ireturn, 1) := by decide +kernel
theorem dJ1_equals_b5fdf_0 : decode cJ1_equals_b5fdf 0 = .ok (.aload_n 0, 1) := by decide +kernel
theorem dJ1_equals_b5fdf_1 : decode cJ1_equals_b5fdf 1 = .ok (.arraylength, 1) := by decide +kernel
theorem dJ1_equals_b5fdf_2 : decode cJ1_equals_b5fdf 2 = .ok (.aload_n 1, 1) := by decide +kernel
theorem dJ1_equals_b5fdf_3 : decode cJ1_equals_b5fdf 3 = .ok (.arraylength, 1) := by decide +kernel
theorem dJ1_equals_b5fdf_4 : decode cJ1_equals_b5fdf 4 = .ok (.if_icmp .ne 30, 3) := by decide +kernel
theorem dJ1_equals_b5fdf_7 : decode cJ1_equals_b5fdf 7 = .ok (.iconst 0, 1) := by decide +kernel
theorem dJ1_equals_b5fdf_8 : decode cJ1_equals_b5fdf 8 = .ok (.istore_n 2, 1) := by decide +kernel
theorem dJ1_equals_b5fdf_9 : decode cJ1_equals_b5fdf 9 = .ok (.iload_n 2, 1) := by decide +kernel
theorem dJ1_equals_b5fdf_10 : decode cJ1_equals_b5fdf 10 = .ok (.aload_n 0, 1) := by decide +kernel
theorem dJ1_equals_b5fdf_11 : decode cJ1_equals_b5fdf 11 = .ok (.arraylength, 1) := by decide +kernel
theorem dJ1_equals_b5fdf_12 : decode cJ1_equals_b5fdf 12 = .ok (.if_icmp .ge 20, 3) := by decide +kernel
theorem dJ1_equals_b5fdf_15 : decode cJ1_equals_b5fdf 15 = .ok (.aload_n 0, 1) := by decide +kernel
theorem dJ1_equals_b5fdf_16 : decode cJ1_equals_b5fdf 16 = .ok (.iload_n 2, 1) := by decide +kernel
theorem dJ1_equals_b5fdf_17 : decode cJ1_equals_b5fdf 17 = .ok (.baload, 1) := by decide +kernel
theorem dJ1_equals_b5fdf_18 : decode cJ1_equals_b5fdf 18 = .ok (.aload_n 1, 1) := by decide +kernel
theorem dJ1_equals_b5fdf_19 : decode cJ1_equals_b5fdf 19 = .ok (.iload_n 2, 1) := by decide +kernel
theorem dJ1_equals_b5fdf_20 : decode cJ1_equals_b5fdf 20 = .ok (.baload, 1) := by decide +kernel
theorem dJ1_equals_b5fdf_21 : decode cJ1_equals_b5fdf 21 = .ok (.if_icmp .eq 5, 3) := by decide +kernel
theorem dJ1_equals_b5fdf_24 : decode cJ1_equals_b5fdf 24 = .ok (.iconst 0, 1) := by decide +kernel
theorem dJ1_equals_b5fdf_25 : decode cJ1_equals_b5fdf 25 = .ok (.ireturn, 1) := by decide +kernel
theorem dJ1_equals_b5fdf_26 : decode cJ1_equals_b5fdf 26 = .ok (.iinc 2 1, 3) := by decide +kernel
theorem dJ1_equals_b5fdf_29 : decode cJ1_equals_b5fdf 29 = .ok (.goto (-20), 3) := by decide +kernel
theorem dJ1_equals_b5fdf_32 : decode cJ1_equals_b5fdf 32 = .ok (.iconst 1, 1) := by decide +kernel
theorem dJ1_equals_b5fdf_33 : decode cJ1_equals_b5fdf 33 = .ok (.ireturn, 1) := by decide +kernel
theorem dJ1_equals_b5fdf_34 : decode cJ1_equals_b5fdf 34 = .ok (.iconst 0, 1) := by decide +kernel
theorem dJ1_equals_b5fdf_35 : decode cJ1_equals_b5fdf 35 = .ok (.ireturn, 1) := by decide +kernel
theorem dJ1_indexOf_4cfef_0 : decode cJ1_indexOf_4cfef 0 = .ok (.iload_n 1, 1) := by decide +kernel
theorem dJ1_indexOf_4cfef_1 : decode cJ1_indexOf_4cfef 1 = .ok (.invokestatic 88, 3) := by decide +kernel
theorem dJ1_indexOf_4cfef_4 : decode cJ1_indexOf_4cfef 4 = .ok (.ifCond .ne 5, 3) := by decide +kernel
theorem dJ1_indexOf_4cfef_7 : decode cJ1_indexOf_4cfef 7 = .ok (.iconst (-1), 1) := by decide +kernel
theorem dJ1_indexOf_4cfef_8 : decode cJ1_indexOf_4cfef 8 = .ok (.ireturn, 1) := by decide +kernel
theorem dJ1_indexOf_4cfef_9 : decode cJ1_indexOf_4cfef 9 = .ok (.iload_n 2, 1) := by decide +kernel
theorem dJ1_indexOf_4cfef_10 : decode cJ1_indexOf_4cfef 10 = .ok (.iconst 0, 1) := by decide +kernel
theorem dJ1_indexOf_4cfef_11 : decode cJ1_indexOf_4cfef 11 = .ok (.invokestatic 92, 3) := by decide +kernel
theorem dJ1_indexOf_4cfef_14 : decode cJ1_indexOf_4cfef 14 = .ok (.istore_n 2, 1) := by decide +kernel
theorem dJ1_indexOf_4cfef_15 : decode cJ1_indexOf_4cfef 15 = .ok (.iload_n 3, 1) := by decide +kernel
theorem dJ1_indexOf_4cfef_16 : decode cJ1_indexOf_4cfef 16 = .ok (.aload_n 0, 1) := by decide +kernel
theorem dJ1_indexOf_4cfef_17 : decode cJ1_indexOf_4cfef 17 = .ok (.arraylength, 1) := by decide +kernel
theorem dJ1_indexOf_4cfef_18 : decode cJ1_indexOf_4cfef 18 = .ok (.invokestatic 38, 3) := by decide +kernel
theorem dJ1_indexOf_4cfef_21 : decode cJ1_indexOf_4cfef 21 = .ok (.istore_n 3, 1) := by decide +kernel
theorem dJ1_indexOf_4cfef_22 : decode cJ1_indexOf_4cfef 22 = .ok (.iload_n 2, 1) := by decide +kernel
theorem dJ1_indexOf_4cfef_23 : decode cJ1_indexOf_4cfef 23 = .ok (.iload_n 3, 1) := by decide +kernel
theorem dJ1_indexOf_4cfef_24 : decode cJ1_indexOf_4cfef 24 = .ok (.if_icmp .lt 5, 3) := by decide +kernel
theorem dJ1_indexOf_4cfef_27 : decode cJ1_indexOf_4cfef 27 = .ok (.iconst (-1), 1) := by decide +kernel
theorem dJ1_indexOf_4cfef_28 : decode cJ1_indexOf_4cfef 28 = .ok (.ireturn, 1) := by decide +kernel
theorem dJ1_indexOf_4cfef_29 : decode cJ1_indexOf_4cfef 29 = .ok (.aload_n 0, 1) := by decide +kernel
theorem dJ1_indexOf_4cfef_30 : decode cJ1_indexOf_4cfef 30 = .ok (.iload_n 1, 1) := by decide +kernel
theorem dJ1_indexOf_4cfef_31 : decode cJ1_indexOf_4cfef 31 = .ok (.iload_n 2, 1) := by decide +kernel
theorem dJ1_indexOf_4cfef_32 : decode cJ1_indexOf_4cfef 32 = .ok (.iload_n 3, 1) := by decide +kernel
theorem dJ1_indexOf_4cfef_33 : decode cJ1_indexOf_4cfef 33 = .ok (.invokestatic 95, 3) := by decide +kernel
theorem dJ1_indexOf_4cfef_36 : decode cJ1_indexOf_4cfef 36 = .ok (.ireturn, 1) := by decide +kernel
theorem dJ1_indexOfChar_4cfef_0 : decode cJ1_indexOfChar_4cfef 0 = .ok (.iload_n 1, 1) := by decide +kernel
theorem dJ1_indexOfChar_4cfef_1 : decode cJ1_indexOfChar_4cfef 1 = .ok (.i2b, 1) := by decide +kernel
theorem dJ1_indexOfChar_4cfef_2 : decode cJ1_indexOfChar_4cfef 2 = .ok (.istore 4, 2) := by decide +kernel
theorem dJ1_indexOfChar_4cfef_4 : decode cJ1_indexOfChar_4cfef 4 = .ok (.iload_n 2, 1) := by decide +kernel
theorem dJ1_indexOfChar_4cfef_5 : decode cJ1_indexOfChar_4cfef 5 = .ok (.istore 5, 2) := by decide +kernel
theorem dJ1_indexOfChar_4cfef_7 : decode cJ1_indexOfChar_4cfef 7 = .ok (.iload 5, 2) := by decide +kernel
theorem dJ1_indexOfChar_4cfef_9 : decode cJ1_indexOfChar_4cfef 9 = .ok (.iload_n 3, 1) := by decide +kernel
theorem dJ1_indexOfChar_4cfef_10 : decode cJ1_indexOfChar_4cfef 10 = .ok (.if_icmp .ge 21, 3) := by decide +kernel
theorem dJ1_indexOfChar_4cfef_13 : decode cJ1_indexOfChar_4cfef 13 = .ok (.aload_n 0, 1) := by decide +kernel
theorem dJ1_indexOfChar_4cfef_14 : decode cJ1_indexOfChar_4cfef 14 = .ok (.iload 5, 2) := by decide +kernel
theorem dJ1_indexOfChar_4cfef_16 : decode cJ1_indexOfChar_4cfef 16 = .ok (.baload, 1) := by decide +kernel
theorem dJ1_indexOfChar_4cfef_17 : decode cJ1_indexOfChar_4cfef 17 = .ok (.iload 4, 2) := by decide +kernel
theorem dJ1_indexOfChar_4cfef_19 : decode cJ1_indexOfChar_4cfef 19 = .ok (.if_icmp .ne 6, 3) := by decide +kernel
theorem dJ1_indexOfChar_4cfef_22 : decode cJ1_indexOfChar_4cfef 22 = .ok (.iload 5, 2) := by decide +kernel
theorem dJ1_indexOfChar_4cfef_24 : decode cJ1_indexOfChar_4cfef 24 = .ok (.ireturn, 1) := by decide +kernel
theorem dJ1_indexOfChar_4cfef_25 : decode cJ1_indexOfChar_4cfef 25 = .ok (.iinc 5 1, 3) := by decide +kernel
theorem dJ1_indexOfChar_4cfef_28 : decode cJ1_indexOfChar_4cfef 28 = .ok (.goto (-21), 3) := by decide +kernel
theorem dJ1_indexOfChar_4cfef_31 : decode cJ1_indexOfChar_4cfef 31 = .ok (.iconst (-1), 1) := by decide +kernel
theorem dJ1_indexOfChar_4cfef_32 : decode cJ1_indexOfChar_4cfef 32 = .ok (.ireturn, 1) := by decide +kernel
theorem dJ1_newString_b4f7a_0 : decode cJ1_newString_b4f7a 0 = .ok (.iload_n 2, 1) := by decide +kernel
theorem dJ1_newString_b4f7a_1 : decode cJ1_newString_b4f7a 1 = .ok (.ifCond .ne 6, 3) := by decide +kernel
theorem dJ1_newString_b4f7a_4 : decode cJ1_newString_b4f7a 4 = .ok (.ldc 151, 2) := by decide +kernel
theorem dJ1_newString_b4f7a_6 : decode cJ1_newString_b4f7a 6 = .ok (.areturn, 1) := by decide +kernel
theorem dJ1_newString_b4f7a_7 : decode cJ1_newString_b4f7a 7 = .ok (.new 1, 3) := by decide +kernel
theorem dJ1_newString_b4f7a_10 : decode cJ1_newString_b4f7a 10 = .ok (.dup, 1) := by decide +kernel
theorem dJ1_newString_b4f7a_11 : decode cJ1_newString_b4f7a 11 = .ok (.aload_n 0, 1) := by decide +kernel
theorem dJ1_newString_b4f7a_12 : decode cJ1_newString_b4f7a 12 = .ok (.iload_n 1, 1) := by decide +kernel
theorem dJ1_newString_b4f7a_13 : decode cJ1_newString_b4f7a 13 = .ok (.iload_n 1, 1) := by decide +kernel
theorem dJ1_newString_b4f7a_14 : decode cJ1_newString_b4f7a 14 = .ok (.iload_n 2, 1) := by decide +kernel
theorem dJ1_newString_b4f7a_15 : decode cJ1_newString_b4f7a 15 = .ok (.iadd, 1) := by decide +kernel
theorem dJ1_newString_b4f7a_16 : decode cJ1_newString_b4f7a 16 = .ok (.invokestatic 232, 3) := by decide +kernel
theorem dJ1_newString_b4f7a_19 : decode cJ1_newString_b4f7a 19 = .ok (.iconst 0, 1) := by decide +kernel
theorem dJ1_newString_b4f7a_20 : decode cJ1_newString_b4f7a 20 = .ok (.invokespecial 112, 3) := by decide +kernel
theorem dJ1_newString_b4f7a_23 : decode cJ1_newString_b4f7a 23 = .ok (.areturn, 1) := by decide +kernel
theorem dJ7_checkLength_df160_0 : decode cJ7_checkLength_df160 0 = .ok (.iload_n 1, 1) := by decide +kernel
theorem dJ7_checkLength_df160_1 : decode cJ7_checkLength_df160 1 = .ok (.iload_n 0, 1) := by decide +kernel
theorem dJ7_checkLength_df160_2 : decode cJ7_checkLength_df160 2 = .ok (.if_icmp .ge 35, 3) := by decide +kernel
theorem dJ7_checkLength_df160_5 : decode cJ7_checkLength_df160 5 = .ok (.new 43, 3) := by decide +kernel
theorem dJ7_checkLength_df160_8 : decode cJ7_checkLength_df160 8 = .ok (.dup, 1) := by decide +kernel
theorem dJ7_checkLength_df160_9 : decode cJ7_checkLength_df160 9 = .ok (.new 45, 3) := by decide +kernel
theorem dJ7_checkLength_df160_12 : decode cJ7_checkLength_df160 12 = .ok (.dup, 1) := by decide +kernel
theorem dJ7_checkLength_df160_13 : decode cJ7_checkLength_df160 13 = .ok (.invokespecial 47, 3) := by decide +kernel
theorem dJ7_checkLength_df160_16 : decode cJ7_checkLength_df160 16 = .ok (.iload_n 0, 1) := by decide +kernel
theorem dJ7_checkLength_df160_17 : decode cJ7_checkLength_df160 17 = .ok (.invokevirtual 54, 3) := by decide +kernel
theorem dJ7_checkLength_df160_20 : decode cJ7_checkLength_df160 20 = .ok (.ldc_w 337, 3) := by decide +kernel
theorem dJ7_checkLength_df160_23 : decode cJ7_checkLength_df160 23 = .ok (.invokevirtual 50, 3) := by decide +kernel
theorem dJ7_checkLength_df160_26 : decode cJ7_checkLength_df160 26 = .ok (.iload_n 1, 1) := by decide +kernel
theorem dJ7_checkLength_df160_27 : decode cJ7_checkLength_df160 27 = .ok (.invokevirtual 54, 3) := by decide +kernel
theorem dJ7_checkLength_df160_30 : decode cJ7_checkLength_df160 30 = .ok (.invokevirtual 61, 3) := by decide +kernel
theorem dJ7_checkLength_df160_33 : decode cJ7_checkLength_df160 33 = .ok (.invokespecial 65, 3) := by decide +kernel
theorem dJ7_checkLength_df160_36 : decode cJ7_checkLength_df160 36 = .ok (.athrow, 1) := by decide +kernel
theorem dJ7_checkLength_df160_37 : decode cJ7_checkLength_df160 37 = .ok (.return_, 1) := by decide +kernel
theorem dJ7_copyOfRange_39247_0 : decode cJ7_copyOfRange_39247 0 = .ok (.iload_n 1, 1) := by decide +kernel
theorem dJ7_copyOfRange_39247_1 : decode cJ7_copyOfRange_39247 1 = .ok (.ifCond .ne 9, 3) := by decide +kernel
theorem dJ7_copyOfRange_39247_4 : decode cJ7_copyOfRange_39247 4 = .ok (.iload_n 2, 1) := by decide +kernel
theorem dJ7_copyOfRange_39247_5 : decode cJ7_copyOfRange_39247 5 = .ok (.aload_n 0, 1) := by decide +kernel
theorem dJ7_copyOfRange_39247_6 : decode cJ7_copyOfRange_39247 6 = .ok (.arraylength, 1) := by decide +kernel
theorem dJ7_copyOfRange_39247_7 : decode cJ7_copyOfRange_39247 7 = .ok (.if_icmp .eq 10, 3) := by decide +kernel
theorem dJ7_copyOfRange_39247_10 : decode cJ7_copyOfRange_39247 10 = .ok (.aload_n 0, 1) := by decide +kernel
theorem dJ7_copyOfRange_39247_11 : decode cJ7_copyOfRange_39247 11 = .ok (.iload_n 1, 1) := by decide +kernel
theorem dJ7_copyOfRange_39247_12 : decode cJ7_copyOfRange_39247 12 = .ok (.iload_n 2, 1) := by decide +kernel
theorem dJ7_copyOfRange_39247_13 : decode cJ7_copyOfRange_39247 13 = .ok (.invokestatic 339, 3) := by decide +kernel
theorem dJ7_copyOfRange_39247_16 : decode cJ7_copyOfRange_39247 16 = .ok (.areturn, 1) := by decide +kernel
theorem dJ7_copyOfRange_39247_17 : decode cJ7_copyOfRange_39247 17 = .ok (.aload_n 0, 1) := by decide +kernel
theorem dJ7_copyOfRange_39247_18 : decode cJ7_copyOfRange_39247 18 = .ok (.invokevirtual 310, 3) := by decide +kernel
theorem dJ7_copyOfRange_39247_21 : decode cJ7_copyOfRange_39247 21 = .ok (.checkcast 311, 3) := by decide +kernel
theorem dJ7_copyOfRange_39247_24 : decode cJ7_copyOfRange_39247 24 = .ok (.areturn, 1) := by decide +kernel
theorem dJ7_copyOfRangeByte_39247_0 : decode cJ7_copyOfRangeByte_39247 0 = .ok (.iload_n 1, 1) := by decide +kernel
theorem dJ7_copyOfRangeByte_39247_1 : decode cJ7_copyOfRangeByte_39247 1 = .ok (.iload_n 2, 1) := by decide +kernel
theorem dJ7_copyOfRangeByte_39247_2 : decode cJ7_copyOfRangeByte_39247 2 = .ok (.invokestatic 343, 3) := by decide +kernel
theorem dJ7_copyOfRangeByte_39247_5 : decode cJ7_copyOfRangeByte_39247 5 = .ok (.iload_n 2, 1) := by decide +kernel
theorem dJ7_copyOfRangeByte_39247_6 : decode cJ7_copyOfRangeByte_39247 6 = .ok (.iload_n 1, 1) := by decide +kernel
theorem dJ7_copyOfRangeByte_39247_7 : decode cJ7_copyOfRangeByte_39247 7 = .ok (.isub, 1) := by decide +kernel
theorem dJ7_copyOfRangeByte_39247_8 : decode cJ7_copyOfRangeByte_39247 8 = .ok (.istore_n 3, 1) := by decide +kernel
theorem dJ7_copyOfRangeByte_39247_9 : decode cJ7_copyOfRangeByte_39247 9 = .ok (.iload_n 3, 1) := by decide +kernel
theorem dJ7_copyOfRangeByte_39247_10 : decode cJ7_copyOfRangeByte_39247 10 = .ok (.newarray .byte, 2) := by decide +kernel
theorem dJ7_copyOfRangeByte_39247_12 : decode cJ7_copyOfRangeByte_39247 12 = .ok (.astore 4, 2) := by decide +kernel
theorem dJ7_copyOfRangeByte_39247_14 : decode cJ7_copyOfRangeByte_39247 14 = .ok (.aload_n 0, 1) := by decide +kernel
theorem dJ7_copyOfRangeByte_39247_15 : decode cJ7_copyOfRangeByte_39247 15 = .ok (.iload_n 1, 1) := by decide +kernel
theorem dJ7_copyOfRangeByte_39247_16 : decode cJ7_copyOfRangeByte_39247 16 = .ok (.aload 4, 2) := by decide +kernel
theorem dJ7_copyOfRangeByte_39247_18 : decode cJ7_copyOfRangeByte_39247 18 = .ok (.iconst 0, 1) := by decide +kernel
theorem dJ7_copyOfRangeByte_39247_19 : decode cJ7_copyOfRangeByte_39247 19 = .ok (.aload_n 0, 1) := by decide +kernel
theorem dJ7_copyOfRangeByte_39247_20 : decode cJ7_copyOfRangeByte_39247 20 = .ok (.arraylength, 1) := by decide +kernel
theorem dJ7_copyOfRangeByte_39247_21 : decode cJ7_copyOfRangeByte_39247 21 = .ok (.iload_n 1, 1) := by decide +kernel
theorem dJ7_copyOfRangeByte_39247_22 : decode cJ7_copyOfRangeByte_39247 22 = .ok (.isub, 1) := by decide +kernel
theorem dJ7_copyOfRangeByte_39247_23 : decode cJ7_copyOfRangeByte_39247 23 = .ok (.iload_n 3, 1) := by decide +kernel
theorem dJ7_copyOfRangeByte_39247_24 : decode cJ7_copyOfRangeByte_39247 24 = .ok (.invokestatic 304, 3) := by decide +kernel
theorem dJ7_copyOfRangeByte_39247_27 : decode cJ7_copyOfRangeByte_39247 27 = .ok (.invokestatic 150, 3) := by decide +kernel
theorem dJ7_copyOfRangeByte_39247_30 : decode cJ7_copyOfRangeByte_39247 30 = .ok (.aload 4, 2) := by decide +kernel
theorem dJ7_copyOfRangeByte_39247_32 : decode cJ7_copyOfRangeByte_39247 32 = .ok (.areturn, 1) := by decide +kernel
theorem dJ3_checkIndex_8e157_0 : decode cJ3_checkIndex_8e157 0 = .ok (.iload_n 0, 1) := by decide +kernel
theorem dJ3_checkIndex_8e157_1 : decode cJ3_checkIndex_8e157 1 = .ok (.ifCond .lt 8, 3) := by decide +kernel
theorem dJ3_checkIndex_8e157_4 : decode cJ3_checkIndex_8e157 4 = .ok (.iload_n 0, 1) := by decide +kernel
theorem dJ3_checkIndex_8e157_5 : decode cJ3_checkIndex_8e157 5 = .ok (.iload_n 1, 1) := by decide +kernel
theorem dJ3_checkIndex_8e157_6 : decode cJ3_checkIndex_8e157 6 = .ok (.if_icmp .lt 10, 3) := by decide +kernel
theorem dJ3_checkIndex_8e157_9 : decode cJ3_checkIndex_8e157 9 = .ok (.aload_n 2, 1) := by decide +kernel
theorem dJ3_checkIndex_8e157_10 : decode cJ3_checkIndex_8e157 10 = .ok (.iload_n 0, 1) := by decide +kernel
theorem dJ3_checkIndex_8e157_11 : decode cJ3_checkIndex_8e157 11 = .ok (.iload_n 1, 1) := by decide +kernel
theorem dJ3_checkIndex_8e157_12 : decode cJ3_checkIndex_8e157 12 = .ok (.invokestatic 95, 3) := by decide +kernel
theorem dJ3_checkIndex_8e157_15 : decode cJ3_checkIndex_8e157 15 = .ok (.athrow, 1) := by decide +kernel
theorem dJ3_checkIndex_8e157_16 : decode cJ3_checkIndex_8e157 16 = .ok (.iload_n 0, 1) := by decide +kernel
theorem dJ3_checkIndex_8e157_17 : decode cJ3_checkIndex_8e157 17 = .ok (.ireturn, 1) := by decide +kernel
theorem dJ3_checkFromToIndex_8c36e_0 : decode cJ3_checkFromToIndex_8c36e 0 = .ok (.iload_n 0, 1) := by decide +kernel
theorem dJ3_checkFromToIndex_8c36e_1 : decode cJ3_checkFromToIndex_8c36e 1 = .ok (.ifCond .lt 13, 3) := by decide +kernel
theorem dJ3_checkFromToIndex_8c36e_4 : decode cJ3_checkFromToIndex_8c36e 4 = .ok (.iload_n 0, 1) := by decide +kernel
theorem dJ3_checkFromToIndex_8c36e_5 : decode cJ3_checkFromToIndex_8c36e 5 = .ok (.iload_n 1, 1) := by decide +kernel
theorem dJ3_checkFromToIndex_8c36e_6 : decode cJ3_checkFromToIndex_8c36e 6 = .ok (.if_icmp .gt 8, 3) := by decide +kernel
theorem dJ3_checkFromToIndex_8c36e_9 : decode cJ3_checkFromToIndex_8c36e 9 = .ok (.iload_n 1, 1) := by decide +kernel
theorem dJ3_checkFromToIndex_8c36e_10 : decode cJ3_checkFromToIndex_8c36e 10 = .ok (.iload_n 2, 1) := by decide +kernel
theorem dJ3_checkFromToIndex_8c36e_11 : decode cJ3_checkFromToIndex_8c36e 11 = .ok (.if_icmp .le 11, 3) := by decide +kernel
theorem dJ3_checkFromToIndex_8c36e_14 : decode cJ3_checkFromToIndex_8c36e 14 = .ok (.aload_n 3, 1) := by decide +kernel
theorem dJ3_checkFromToIndex_8c36e_15 : decode cJ3_checkFromToIndex_8c36e 15 = .ok (.iload_n 0, 1) := by decide +kernel
theorem dJ3_checkFromToIndex_8c36e_16 : decode cJ3_checkFromToIndex_8c36e 16 = .ok (.iload_n 1, 1) := by decide +kernel
theorem dJ3_checkFromToIndex_8c36e_17 : decode cJ3_checkFromToIndex_8c36e 17 = .ok (.iload_n 2, 1) := by decide +kernel
theorem dJ3_checkFromToIndex_8c36e_18 : decode cJ3_checkFromToIndex_8c36e 18 = .ok (.invokestatic 99, 3) := by decide +kernel
theorem dJ3_checkFromToIndex_8c36e_21 : decode cJ3_checkFromToIndex_8c36e 21 = .ok (.athrow, 1) := by decide +kernel
theorem dJ3_checkFromToIndex_8c36e_22 : decode cJ3_checkFromToIndex_8c36e 22 = .ok (.iload_n 0, 1) := by decide +kernel
theorem dJ3_checkFromToIndex_8c36e_23 : decode cJ3_checkFromToIndex_8c36e 23 = .ok (.ireturn, 1) := by decide +kernel
theorem dL_law_0 : decode cL_law 0 = .ok (.new 7, 3) := by decide +kernel
theorem dL_law_3 : decode cL_law 3 = .ok (.dup, 1) := by decide +kernel
theorem dL_law_4 : decode cL_law 4 = .ok (.invokespecial 9, 3) := by decide +kernel
theorem dL_law_7 : decode cL_law 7 = .ok (.astore_n 1, 1) := by decide +kernel
theorem dL_law_8 : decode cL_law 8 = .ok (.new 10, 3) := by decide +kernel
theorem dL_law_11 : decode cL_law 11 = .ok (.dup, 1) := by decide +kernel
theorem dL_law_12 : decode cL_law 12 = .ok (.invokespecial 12, 3) := by decide +kernel
theorem dL_law_15 : decode cL_law 15 = .ok (.astore_n 2, 1) := by decide +kernel
theorem dL_law_16 : decode cL_law 16 = .ok (.iconst 0, 1) := by decide +kernel
theorem dL_law_17 : decode cL_law 17 = .ok (.istore_n 3, 1) := by decide +kernel
theorem dL_law_18 : decode cL_law 18 = .ok (.iload_n 3, 1) := by decide +kernel
theorem dL_law_19 : decode cL_law 19 = .ok (.aload_n 0, 1) := by decide +kernel
theorem dL_law_20 : decode cL_law 20 = .ok (.arraylength, 1) := by decide +kernel
theorem dL_law_21 : decode cL_law 21 = .ok (.iconst 4, 1) := by decide +kernel
theorem dL_law_22 : decode cL_law 22 = .ok (.isub, 1) := by decide +kernel
theorem dL_law_23 : decode cL_law 23 = .ok (.if_icmp .gt 680, 3) := by decide +kernel
theorem dL_law_26 : decode cL_law 26 = .ok (.aload_n 0, 1) := by decide +kernel
theorem dL_law_27 : decode cL_law 27 = .ok (.iload_n 3, 1) := by decide +kernel
theorem dL_law_28 : decode cL_law 28 = .ok (.iaload, 1) := by decide +kernel
theorem dL_law_29 : decode cL_law 29 = .ok (.bipush 31, 2) := by decide +kernel
theorem dL_law_31 : decode cL_law 31 = .ok (.iand, 1) := by decide +kernel
theorem dL_law_32 : decode cL_law 32 = .ok (.tableswitch 665 0 26 #[124, 157, 180, 213, 246, 279, 322, 345, 358, 371, 394, 407, 420, 433, 446, 459, 472, 495, 508, 521, 534, 547, 560, 573, 606, 629, 652], 124) := by decide +kernel
theorem dL_law_156 : decode cL_law 156 = .ok (.aload_n 1, 1) := by decide +kernel
theorem dL_law_157 : decode cL_law 157 = .ok (.aload_n 0, 1) := by decide +kernel
theorem dL_law_158 : decode cL_law 158 = .ok (.iload_n 3, 1) := by decide +kernel
theorem dL_law_159 : decode cL_law 159 = .ok (.iconst 1, 1) := by decide +kernel
theorem dL_law_160 : decode cL_law 160 = .ok (.iadd, 1) := by decide +kernel
theorem dL_law_161 : decode cL_law 161 = .ok (.iaload, 1) := by decide +kernel
theorem dL_law_162 : decode cL_law 162 = .ok (.aload_n 0, 1) := by decide +kernel
theorem dL_law_163 : decode cL_law 163 = .ok (.iload_n 3, 1) := by decide +kernel
theorem dL_law_164 : decode cL_law 164 = .ok (.iconst 2, 1) := by decide +kernel
theorem dL_law_165 : decode cL_law 165 = .ok (.iadd, 1) := by decide +kernel
theorem dL_law_166 : decode cL_law 166 = .ok (.iaload, 1) := by decide +kernel
theorem dL_law_167 : decode cL_law 167 = .ok (.invokevirtual 13, 3) := by decide +kernel
theorem dL_law_170 : decode cL_law 170 = .ok (.aload_n 2, 1) := by decide +kernel
theorem dL_law_171 : decode cL_law 171 = .ok (.aload_n 0, 1) := by decide +kernel
theorem dL_law_172 : decode cL_law 172 = .ok (.iload_n 3, 1) := by decide +kernel
theorem dL_law_173 : decode cL_law 173 = .ok (.iconst 1, 1) := by decide +kernel
theorem dL_law_174 : decode cL_law 174 = .ok (.iadd, 1) := by decide +kernel
theorem dL_law_175 : decode cL_law 175 = .ok (.iaload, 1) := by decide +kernel
theorem dL_law_176 : decode cL_law 176 = .ok (.aload_n 0, 1) := by decide +kernel
theorem dL_law_177 : decode cL_law 177 = .ok (.iload_n 3, 1) := by decide +kernel
theorem dL_law_178 : decode cL_law 178 = .ok (.iconst 2, 1) := by decide +kernel
theorem dL_law_179 : decode cL_law 179 = .ok (.iadd, 1) := by decide +kernel
theorem dL_law_180 : decode cL_law 180 = .ok (.iaload, 1) := by decide +kernel
theorem dL_law_181 : decode cL_law 181 = .ok (.invokevirtual 17, 3) := by decide +kernel
theorem dL_law_184 : decode cL_law 184 = .ok (.if_icmp .eq 513, 3) := by decide +kernel
theorem dL_law_187 : decode cL_law 187 = .ok (.iconst 0, 1) := by decide +kernel
theorem dL_law_188 : decode cL_law 188 = .ok (.ireturn, 1) := by decide +kernel
theorem dL_law_189 : decode cL_law 189 = .ok (.aload_n 1, 1) := by decide +kernel
theorem dL_law_190 : decode cL_law 190 = .ok (.aload_n 0, 1) := by decide +kernel
theorem dL_law_191 : decode cL_law 191 = .ok (.iload_n 3, 1) := by decide +kernel
theorem dL_law_192 : decode cL_law 192 = .ok (.iconst 1, 1) := by decide +kernel
theorem dL_law_193 : decode cL_law 193 = .ok (.iadd, 1) := by decide +kernel
theorem dL_law_194 : decode cL_law 194 = .ok (.iaload, 1) := by decide +kernel
theorem dL_law_195 : decode cL_law 195 = .ok (.invokevirtual 18, 3) := by decide +kernel
theorem dL_law_198 : decode cL_law 198 = .ok (.aload_n 2, 1) := by decide +kernel
theorem dL_law_199 : decode cL_law 199 = .ok (.aload_n 0, 1) := by decide +kernel
theorem dL_law_200 : decode cL_law 200 = .ok (.iload_n 3, 1) := by decide +kernel
theorem dL_law_201 : decode cL_law 201 = .ok (.iconst 1, 1) := by decide +kernel
theorem dL_law_202 : decode cL_law 202 = .ok (.iadd, 1) := by decide +kernel
theorem dL_law_203 : decode cL_law 203 = .ok (.iaload, 1) := by decide +kernel
theorem dL_law_204 : decode cL_law 204 = .ok (.invokevirtual 22, 3) := by decide +kernel
theorem dL_law_207 : decode cL_law 207 = .ok (.if_icmp .eq 490, 3) := by decide +kernel
theorem dL_law_210 : decode cL_law 210 = .ok (.iconst 0, 1) := by decide +kernel
theorem dL_law_211 : decode cL_law 211 = .ok (.ireturn, 1) := by decide +kernel
theorem dL_law_212 : decode cL_law 212 = .ok (.aload_n 1, 1) := by decide +kernel
theorem dL_law_213 : decode cL_law 213 = .ok (.aload_n 0, 1) := by decide +kernel
theorem dL_law_214 : decode cL_law 214 = .ok (.iload_n 3, 1) := by decide +kernel
theorem dL_law_215 : decode cL_law 215 = .ok (.iconst 1, 1) := by decide +kernel
theorem dL_law_216 : decode cL_law 216 = .ok (.iadd, 1) := by decide +kernel
theorem dL_law_217 : decode cL_law 217 = .ok (.iaload, 1) := by decide +kernel
theorem dL_law_218 : decode cL_law 218 = .ok (.aload_n 0, 1) := by decide +kernel
theorem dL_law_219 : decode cL_law 219 = .ok (.iload_n 3, 1) := by decide +kernel
theorem dL_law_220 : decode cL_law 220 = .ok (.iconst 2, 1) := by decide +kernel
theorem dL_law_221 : decode cL_law 221 = .ok (.iadd, 1) := by decide +kernel
theorem dL_law_222 : decode cL_law 222 = .ok (.iaload, 1) := by decide +kernel
theorem dL_law_223 : decode cL_law 223 = .ok (.invokevirtual 23, 3) := by decide +kernel
theorem dL_law_226 : decode cL_law 226 = .ok (.aload_n 2, 1) := by decide +kernel
theorem dL_law_227 : decode cL_law 227 = .ok (.aload_n 0, 1) := by decide +kernel
theorem dL_law_228 : decode cL_law 228 = .ok (.iload_n 3, 1) := by decide +kernel
theorem dL_law_229 : decode cL_law 229 = .ok (.iconst 1, 1) := by decide +kernel
theorem dL_law_230 : decode cL_law 230 = .ok (.iadd, 1) := by decide +kernel
theorem dL_law_231 : decode cL_law 231 = .ok (.iaload, 1) := by decide +kernel
theorem dL_law_232 : decode cL_law 232 = .ok (.aload_n 0, 1) := by decide +kernel
theorem dL_law_233 : decode cL_law 233 = .ok (.iload_n 3, 1) := by decide +kernel
theorem dL_law_234 : decode cL_law 234 = .ok (.iconst 2, 1) := by decide +kernel
theorem dL_law_235 : decode cL_law 235 = .ok (.iadd, 1) := by decide +kernel
theorem dL_law_236 : decode cL_law 236 = .ok (.iaload, 1) := by decide +kernel
theorem dL_law_237 : decode cL_law 237 = .ok (.invokevirtual 26, 3) := by decide +kernel
theorem dL_law_240 : decode cL_law 240 = .ok (.if_icmp .eq 457, 3) := by decide +kernel
theorem dL_law_243 : decode cL_law 243 = .ok (.iconst 0, 1) := by decide +kernel
theorem dL_law_244 : decode cL_law 244 = .ok (.ireturn, 1) := by decide +kernel
theorem dL_law_245 : decode cL_law 245 = .ok (.aload_n 1, 1) := by decide +kernel
theorem dL_law_246 : decode cL_law 246 = .ok (.aload_n 0, 1) := by decide +kernel
theorem dL_law_247 : decode cL_law 247 = .ok (.iload_n 3, 1) := by decide +kernel
theorem dL_law_248 : decode cL_law 248 = .ok (.iconst 1, 1) := by decide +kernel
theorem dL_law_249 : decode cL_law 249 = .ok (.iadd, 1) := by decide +kernel
theorem dL_law_250 : decode cL_law 250 = .ok (.iaload, 1) := by decide +kernel
theorem dL_law_251 : decode cL_law 251 = .ok (.aload_n 0, 1) := by decide +kernel
theorem dL_law_252 : decode cL_law 252 = .ok (.iload_n 3, 1) := by decide +kernel
theorem dL_law_253 : decode cL_law 253 = .ok (.iconst 2, 1) := by decide +kernel
theorem dL_law_254 : decode cL_law 254 = .ok (.iadd, 1) := by decide +kernel
theorem dL_law_255 : decode cL_law 255 = .ok (.iaload, 1) := by decide +kernel
theorem dL_law_256 : decode cL_law 256 = .ok (.invokevirtual 27, 3) := by decide +kernel
theorem dL_law_259 : decode cL_law 259 = .ok (.aload_n 2, 1) := by decide +kernel
theorem dL_law_260 : decode cL_law 260 = .ok (.aload_n 0, 1) := by decide +kernel
theorem dL_law_261 : decode cL_law 261 = .ok (.iload_n 3, 1) := by decide +kernel
theorem dL_law_262 : decode cL_law 262 = .ok (.iconst 1, 1) := by decide +kernel
theorem dL_law_263 : decode cL_law 263 = .ok (.iadd, 1) := by decide +kernel
theorem dL_law_264 : decode cL_law 264 = .ok (.iaload, 1) := by decide +kernel
theorem dL_law_265 : decode cL_law 265 = .ok (.aload_n 0, 1) := by decide +kernel
theorem dL_law_266 : decode cL_law 266 = .ok (.iload_n 3, 1) := by decide +kernel
theorem dL_law_267 : decode cL_law 267 = .ok (.iconst 2, 1) := by decide +kernel
theorem dL_law_268 : decode cL_law 268 = .ok (.iadd, 1) := by decide +kernel
theorem dL_law_269 : decode cL_law 269 = .ok (.iaload, 1) := by decide +kernel
theorem dL_law_270 : decode cL_law 270 = .ok (.invokevirtual 30, 3) := by decide +kernel
theorem dL_law_273 : decode cL_law 273 = .ok (.if_icmp .eq 424, 3) := by decide +kernel
theorem dL_law_276 : decode cL_law 276 = .ok (.iconst 0, 1) := by decide +kernel
theorem dL_law_277 : decode cL_law 277 = .ok (.ireturn, 1) := by decide +kernel
theorem dL_law_278 : decode cL_law 278 = .ok (.aload_n 1, 1) := by decide +kernel
theorem dL_law_279 : decode cL_law 279 = .ok (.aload_n 0, 1) := by decide +kernel
theorem dL_law_280 : decode cL_law 280 = .ok (.iload_n 3, 1) := by decide +kernel
theorem dL_law_281 : decode cL_law 281 = .ok (.iconst 1, 1) := by decide +kernel
theorem dL_law_282 : decode cL_law 282 = .ok (.iadd, 1) := by decide +kernel
theorem dL_law_283 : decode cL_law 283 = .ok (.iaload, 1) := by decide +kernel
theorem dL_law_284 : decode cL_law 284 = .ok (.aload_n 0, 1) := by decide +kernel
theorem dL_law_285 : decode cL_law 285 = .ok (.iload_n 3, 1) := by decide +kernel
theorem dL_law_286 : decode cL_law 286 = .ok (.iconst 2, 1) := by decide +kernel
theorem dL_law_287 : decode cL_law 287 = .ok (.iadd, 1) := by decide +kernel
theorem dL_law_288 : decode cL_law 288 = .ok (.iaload, 1) := by decide +kernel
theorem dL_law_289 : decode cL_law 289 = .ok (.invokevirtual 31, 3) := by decide +kernel
theorem dL_law_292 : decode cL_law 292 = .ok (.aload_n 2, 1) := by decide +kernel
theorem dL_law_293 : decode cL_law 293 = .ok (.aload_n 0, 1) := by decide +kernel
theorem dL_law_294 : decode cL_law 294 = .ok (.iload_n 3, 1) := by decide +kernel
theorem dL_law_295 : decode cL_law 295 = .ok (.iconst 1, 1) := by decide +kernel
theorem dL_law_296 : decode cL_law 296 = .ok (.iadd, 1) := by decide +kernel
theorem dL_law_297 : decode cL_law 297 = .ok (.iaload, 1) := by decide +kernel
theorem dL_law_298 : decode cL_law 298 = .ok (.aload_n 0, 1) := by decide +kernel
theorem dL_law_299 : decode cL_law 299 = .ok (.iload_n 3, 1) := by decide +kernel
theorem dL_law_300 : decode cL_law 300 = .ok (.iconst 2, 1) := by decide +kernel
theorem dL_law_301 : decode cL_law 301 = .ok (.iadd, 1) := by decide +kernel
theorem dL_law_302 : decode cL_law 302 = .ok (.iaload, 1) := by decide +kernel
theorem dL_law_303 : decode cL_law 303 = .ok (.invokevirtual 34, 3) := by decide +kernel
theorem dL_law_306 : decode cL_law 306 = .ok (.if_icmp .eq 391, 3) := by decide +kernel
theorem dL_law_309 : decode cL_law 309 = .ok (.iconst 0, 1) := by decide +kernel
theorem dL_law_310 : decode cL_law 310 = .ok (.ireturn, 1) := by decide +kernel
theorem dL_law_311 : decode cL_law 311 = .ok (.aload_n 1, 1) := by decide +kernel
theorem dL_law_312 : decode cL_law 312 = .ok (.aload_n 0, 1) := by decide +kernel
theorem dL_law_313 : decode cL_law 313 = .ok (.iload_n 3, 1) := by decide +kernel
theorem dL_law_314 : decode cL_law 314 = .ok (.iconst 1, 1) := by decide +kernel
theorem dL_law_315 : decode cL_law 315 = .ok (.iadd, 1) := by decide +kernel
theorem dL_law_316 : decode cL_law 316 = .ok (.iaload, 1) := by decide +kernel
theorem dL_law_317 : decode cL_law 317 = .ok (.aload_n 0, 1) := by decide +kernel
theorem dL_law_318 : decode cL_law 318 = .ok (.iload_n 3, 1) := by decide +kernel
theorem dL_law_319 : decode cL_law 319 = .ok (.iconst 2, 1) := by decide +kernel
theorem dL_law_320 : decode cL_law 320 = .ok (.iadd, 1) := by decide +kernel
theorem dL_law_321 : decode cL_law 321 = .ok (.iaload, 1) := by decide +kernel
theorem dL_law_322 : decode cL_law 322 = .ok (.aload_n 0, 1) := by decide +kernel
theorem dL_law_323 : decode cL_law 323 = .ok (.iload_n 3, 1) := by decide +kernel
theorem dL_law_324 : decode cL_law 324 = .ok (.iconst 3, 1) := by decide +kernel
theorem dL_law_325 : decode cL_law 325 = .ok (.iadd, 1) := by decide +kernel
theorem dL_law_326 : decode cL_law 326 = .ok (.iaload, 1) := by decide +kernel
theorem dL_law_327 : decode cL_law 327 = .ok (.invokevirtual 35, 3) := by decide +kernel
theorem dL_law_330 : decode cL_law 330 = .ok (.aload_n 2, 1) := by decide +kernel
theorem dL_law_331 : decode cL_law 331 = .ok (.aload_n 0, 1) := by decide +kernel
theorem dL_law_332 : decode cL_law 332 = .ok (.iload_n 3, 1) := by decide +kernel
theorem dL_law_333 : decode cL_law 333 = .ok (.iconst 1, 1) := by decide +kernel
theorem dL_law_334 : decode cL_law 334 = .ok (.iadd, 1) := by decide +kernel
theorem dL_law_335 : decode cL_law 335 = .ok (.iaload, 1) := by decide +kernel
theorem dL_law_336 : decode cL_law 336 = .ok (.aload_n 0, 1) := by decide +kernel
theorem dL_law_337 : decode cL_law 337 = .ok (.iload_n 3, 1) := by decide +kernel
theorem dL_law_338 : decode cL_law 338 = .ok (.iconst 2, 1) := by decide +kernel
theorem dL_law_339 : decode cL_law 339 = .ok (.iadd, 1) := by decide +kernel
theorem dL_law_340 : decode cL_law 340 = .ok (.iaload, 1) := by decide +kernel
theorem dL_law_341 : decode cL_law 341 = .ok (.aload_n 0, 1) := by decide +kernel
theorem dL_law_342 : decode cL_law 342 = .ok (.iload_n 3, 1) := by decide +kernel
theorem dL_law_343 : decode cL_law 343 = .ok (.iconst 3, 1) := by decide +kernel
theorem dL_law_344 : decode cL_law 344 = .ok (.iadd, 1) := by decide +kernel
theorem dL_law_345 : decode cL_law 345 = .ok (.iaload, 1) := by decide +kernel
theorem dL_law_346 : decode cL_law 346 = .ok (.invokevirtual 39, 3) := by decide +kernel
theorem dL_law_349 : decode cL_law 349 = .ok (.if_icmp .eq 348, 3) := by decide +kernel
theorem dL_law_352 : decode cL_law 352 = .ok (.iconst 0, 1) := by decide +kernel
theorem dL_law_353 : decode cL_law 353 = .ok (.ireturn, 1) := by decide +kernel
theorem dL_law_354 : decode cL_law 354 = .ok (.aload_n 1, 1) := by decide +kernel
theorem dL_law_355 : decode cL_law 355 = .ok (.aload_n 0, 1) := by decide +kernel
theorem dL_law_356 : decode cL_law 356 = .ok (.iload_n 3, 1) := by decide +kernel
theorem dL_law_357 : decode cL_law 357 = .ok (.iconst 1, 1) := by decide +kernel
theorem dL_law_358 : decode cL_law 358 = .ok (.iadd, 1) := by decide +kernel
theorem dL_law_359 : decode cL_law 359 = .ok (.iaload, 1) := by decide +kernel
theorem dL_law_360 : decode cL_law 360 = .ok (.invokevirtual 40, 3) := by decide +kernel
theorem dL_law_363 : decode cL_law 363 = .ok (.aload_n 2, 1) := by decide +kernel
theorem dL_law_364 : decode cL_law 364 = .ok (.aload_n 0, 1) := by decide +kernel
theorem dL_law_365 : decode cL_law 365 = .ok (.iload_n 3, 1) := by decide +kernel
theorem dL_law_366 : decode cL_law 366 = .ok (.iconst 1, 1) := by decide +kernel
theorem dL_law_367 : decode cL_law 367 = .ok (.iadd, 1) := by decide +kernel
theorem dL_law_368 : decode cL_law 368 = .ok (.iaload, 1) := by decide +kernel
theorem dL_law_369 : decode cL_law 369 = .ok (.invokevirtual 43, 3) := by decide +kernel
theorem dL_law_372 : decode cL_law 372 = .ok (.if_icmp .eq 325, 3) := by decide +kernel
theorem dL_law_375 : decode cL_law 375 = .ok (.iconst 0, 1) := by decide +kernel
theorem dL_law_376 : decode cL_law 376 = .ok (.ireturn, 1) := by decide +kernel
theorem dL_law_377 : decode cL_law 377 = .ok (.aload_n 1, 1) := by decide +kernel
theorem dL_law_378 : decode cL_law 378 = .ok (.invokevirtual 44, 3) := by decide +kernel
theorem dL_law_381 : decode cL_law 381 = .ok (.aload_n 2, 1) := by decide +kernel
theorem dL_law_382 : decode cL_law 382 = .ok (.invokevirtual 48, 3) := by decide +kernel
theorem dL_law_385 : decode cL_law 385 = .ok (.if_icmp .eq 312, 3) := by decide +kernel
theorem dL_law_388 : decode cL_law 388 = .ok (.iconst 0, 1) := by decide +kernel
theorem dL_law_389 : decode cL_law 389 = .ok (.ireturn, 1) := by decide +kernel
theorem dL_law_390 : decode cL_law 390 = .ok (.aload_n 1, 1) := by decide +kernel
theorem dL_law_391 : decode cL_law 391 = .ok (.invokevirtual 49, 3) := by decide +kernel
theorem dL_law_394 : decode cL_law 394 = .ok (.aload_n 2, 1) := by decide +kernel
theorem dL_law_395 : decode cL_law 395 = .ok (.invokevirtual 52, 3) := by decide +kernel
theorem dL_law_398 : decode cL_law 398 = .ok (.if_icmp .eq 299, 3) := by decide +kernel
theorem dL_law_401 : decode cL_law 401 = .ok (.iconst 0, 1) := by decide +kernel
theorem dL_law_402 : decode cL_law 402 = .ok (.ireturn, 1) := by decide +kernel
theorem dL_law_403 : decode cL_law 403 = .ok (.aload_n 1, 1) := by decide +kernel
theorem dL_law_404 : decode cL_law 404 = .ok (.aload_n 0, 1) := by decide +kernel
theorem dL_law_405 : decode cL_law 405 = .ok (.iload_n 3, 1) := by decide +kernel
theorem dL_law_406 : decode cL_law 406 = .ok (.iconst 1, 1) := by decide +kernel
theorem dL_law_407 : decode cL_law 407 = .ok (.iadd, 1) := by decide +kernel
theorem dL_law_408 : decode cL_law 408 = .ok (.iaload, 1) := by decide +kernel
theorem dL_law_409 : decode cL_law 409 = .ok (.invokevirtual 53, 3) := by decide +kernel
theorem dL_law_412 : decode cL_law 412 = .ok (.aload_n 2, 1) := by decide +kernel
theorem dL_law_413 : decode cL_law 413 = .ok (.aload_n 0, 1) := by decide +kernel
theorem dL_law_414 : decode cL_law 414 = .ok (.iload_n 3, 1) := by decide +kernel
theorem dL_law_415 : decode cL_law 415 = .ok (.iconst 1, 1) := by decide +kernel
theorem dL_law_416 : decode cL_law 416 = .ok (.iadd, 1) := by decide +kernel
theorem dL_law_417 : decode cL_law 417 = .ok (.iaload, 1) := by decide +kernel
theorem dL_law_418 : decode cL_law 418 = .ok (.invokevirtual 56, 3) := by decide +kernel
theorem dL_law_421 : decode cL_law 421 = .ok (.if_icmp .eq 276, 3) := by decide +kernel
theorem dL_law_424 : decode cL_law 424 = .ok (.iconst 0, 1) := by decide +kernel
theorem dL_law_425 : decode cL_law 425 = .ok (.ireturn, 1) := by decide +kernel
theorem dL_law_426 : decode cL_law 426 = .ok (.aload_n 1, 1) := by decide +kernel
theorem dL_law_427 : decode cL_law 427 = .ok (.invokevirtual 57, 3) := by decide +kernel
theorem dL_law_430 : decode cL_law 430 = .ok (.aload_n 2, 1) := by decide +kernel
theorem dL_law_431 : decode cL_law 431 = .ok (.invokevirtual 60, 3) := by decide +kernel
theorem dL_law_434 : decode cL_law 434 = .ok (.if_icmp .eq 263, 3) := by decide +kernel
theorem dL_law_437 : decode cL_law 437 = .ok (.iconst 0, 1) := by decide +kernel
theorem dL_law_438 : decode cL_law 438 = .ok (.ireturn, 1) := by decide +kernel
theorem dL_law_439 : decode cL_law 439 = .ok (.aload_n 1, 1) := by decide +kernel
theorem dL_law_440 : decode cL_law 440 = .ok (.invokevirtual 61, 3) := by decide +kernel
theorem dL_law_443 : decode cL_law 443 = .ok (.aload_n 2, 1) := by decide +kernel
theorem dL_law_444 : decode cL_law 444 = .ok (.invokevirtual 64, 3) := by decide +kernel
theorem dL_law_447 : decode cL_law 447 = .ok (.if_icmp .eq 250, 3) := by decide +kernel
theorem dL_law_450 : decode cL_law 450 = .ok (.iconst 0, 1) := by decide +kernel
theorem dL_law_451 : decode cL_law 451 = .ok (.ireturn, 1) := by decide +kernel
theorem dL_law_452 : decode cL_law 452 = .ok (.aload_n 1, 1) := by decide +kernel
theorem dL_law_453 : decode cL_law 453 = .ok (.invokevirtual 65, 3) := by decide +kernel
theorem dL_law_456 : decode cL_law 456 = .ok (.aload_n 2, 1) := by decide +kernel
theorem dL_law_457 : decode cL_law 457 = .ok (.invokevirtual 68, 3) := by decide +kernel
theorem dL_law_460 : decode cL_law 460 = .ok (.if_icmp .eq 237, 3) := by decide +kernel
theorem dL_law_463 : decode cL_law 463 = .ok (.iconst 0, 1) := by decide +kernel
theorem dL_law_464 : decode cL_law 464 = .ok (.ireturn, 1) := by decide +kernel
theorem dL_law_465 : decode cL_law 465 = .ok (.aload_n 1, 1) := by decide +kernel
theorem dL_law_466 : decode cL_law 466 = .ok (.invokevirtual 69, 3) := by decide +kernel
theorem dL_law_469 : decode cL_law 469 = .ok (.aload_n 2, 1) := by decide +kernel
theorem dL_law_470 : decode cL_law 470 = .ok (.invokevirtual 72, 3) := by decide +kernel
theorem dL_law_473 : decode cL_law 473 = .ok (.if_icmp .eq 224, 3) := by decide +kernel
theorem dL_law_476 : decode cL_law 476 = .ok (.iconst 0, 1) := by decide +kernel
theorem dL_law_477 : decode cL_law 477 = .ok (.ireturn, 1) := by decide +kernel
theorem dL_law_478 : decode cL_law 478 = .ok (.aload_n 1, 1) := by decide +kernel
theorem dL_law_479 : decode cL_law 479 = .ok (.invokevirtual 73, 3) := by decide +kernel
theorem dL_law_482 : decode cL_law 482 = .ok (.aload_n 2, 1) := by decide +kernel
theorem dL_law_483 : decode cL_law 483 = .ok (.invokevirtual 76, 3) := by decide +kernel
theorem dL_law_486 : decode cL_law 486 = .ok (.if_icmp .eq 211, 3) := by decide +kernel
theorem dL_law_489 : decode cL_law 489 = .ok (.iconst 0, 1) := by decide +kernel
theorem dL_law_490 : decode cL_law 490 = .ok (.ireturn, 1) := by decide +kernel
theorem dL_law_491 : decode cL_law 491 = .ok (.aload_n 1, 1) := by decide +kernel
theorem dL_law_492 : decode cL_law 492 = .ok (.invokevirtual 77, 3) := by decide +kernel
theorem dL_law_495 : decode cL_law 495 = .ok (.aload_n 2, 1) := by decide +kernel
theorem dL_law_496 : decode cL_law 496 = .ok (.invokevirtual 80, 3) := by decide +kernel
theorem dL_law_499 : decode cL_law 499 = .ok (.if_icmp .eq 198, 3) := by decide +kernel
theorem dL_law_502 : decode cL_law 502 = .ok (.iconst 0, 1) := by decide +kernel
theorem dL_law_503 : decode cL_law 503 = .ok (.ireturn, 1) := by decide +kernel
theorem dL_law_504 : decode cL_law 504 = .ok (.aload_n 1, 1) := by decide +kernel
theorem dL_law_505 : decode cL_law 505 = .ok (.aload_n 0, 1) := by decide +kernel
theorem dL_law_506 : decode cL_law 506 = .ok (.iload_n 3, 1) := by decide +kernel
theorem dL_law_507 : decode cL_law 507 = .ok (.iconst 1, 1) := by decide +kernel
theorem dL_law_508 : decode cL_law 508 = .ok (.iadd, 1) := by decide +kernel
theorem dL_law_509 : decode cL_law 509 = .ok (.iaload, 1) := by decide +kernel
theorem dL_law_510 : decode cL_law 510 = .ok (.invokevirtual 81, 3) := by decide +kernel
theorem dL_law_513 : decode cL_law 513 = .ok (.aload_n 2, 1) := by decide +kernel
theorem dL_law_514 : decode cL_law 514 = .ok (.aload_n 0, 1) := by decide +kernel
theorem dL_law_515 : decode cL_law 515 = .ok (.iload_n 3, 1) := by decide +kernel
theorem dL_law_516 : decode cL_law 516 = .ok (.iconst 1, 1) := by decide +kernel
theorem dL_law_517 : decode cL_law 517 = .ok (.iadd, 1) := by decide +kernel
theorem dL_law_518 : decode cL_law 518 = .ok (.iaload, 1) := by decide +kernel
theorem dL_law_519 : decode cL_law 519 = .ok (.invokevirtual 84, 3) := by decide +kernel
theorem dL_law_522 : decode cL_law 522 = .ok (.if_icmp .eq 175, 3) := by decide +kernel
theorem dL_law_525 : decode cL_law 525 = .ok (.iconst 0, 1) := by decide +kernel
theorem dL_law_526 : decode cL_law 526 = .ok (.ireturn, 1) := by decide +kernel
theorem dL_law_527 : decode cL_law 527 = .ok (.aload_n 1, 1) := by decide +kernel
theorem dL_law_528 : decode cL_law 528 = .ok (.invokevirtual 85, 3) := by decide +kernel
theorem dL_law_531 : decode cL_law 531 = .ok (.aload_n 2, 1) := by decide +kernel
theorem dL_law_532 : decode cL_law 532 = .ok (.invokevirtual 88, 3) := by decide +kernel
theorem dL_law_535 : decode cL_law 535 = .ok (.if_icmp .eq 162, 3) := by decide +kernel
theorem dL_law_538 : decode cL_law 538 = .ok (.iconst 0, 1) := by decide +kernel
theorem dL_law_539 : decode cL_law 539 = .ok (.ireturn, 1) := by decide +kernel
theorem dL_law_540 : decode cL_law 540 = .ok (.aload_n 1, 1) := by decide +kernel
theorem dL_law_541 : decode cL_law 541 = .ok (.invokevirtual 89, 3) := by decide +kernel
theorem dL_law_544 : decode cL_law 544 = .ok (.aload_n 2, 1) := by decide +kernel
theorem dL_law_545 : decode cL_law 545 = .ok (.invokevirtual 92, 3) := by decide +kernel
theorem dL_law_548 : decode cL_law 548 = .ok (.if_icmp .eq 149, 3) := by decide +kernel
theorem dL_law_551 : decode cL_law 551 = .ok (.iconst 0, 1) := by decide +kernel
theorem dL_law_552 : decode cL_law 552 = .ok (.ireturn, 1) := by decide +kernel
theorem dL_law_553 : decode cL_law 553 = .ok (.aload_n 1, 1) := by decide +kernel
theorem dL_law_554 : decode cL_law 554 = .ok (.invokevirtual 93, 3) := by decide +kernel
theorem dL_law_557 : decode cL_law 557 = .ok (.aload_n 2, 1) := by decide +kernel
theorem dL_law_558 : decode cL_law 558 = .ok (.invokevirtual 96, 3) := by decide +kernel
theorem dL_law_561 : decode cL_law 561 = .ok (.if_icmp .eq 136, 3) := by decide +kernel
theorem dL_law_564 : decode cL_law 564 = .ok (.iconst 0, 1) := by decide +kernel
theorem dL_law_565 : decode cL_law 565 = .ok (.ireturn, 1) := by decide +kernel
theorem dL_law_566 : decode cL_law 566 = .ok (.aload_n 1, 1) := by decide +kernel
theorem dL_law_567 : decode cL_law 567 = .ok (.invokevirtual 97, 3) := by decide +kernel
theorem dL_law_570 : decode cL_law 570 = .ok (.aload_n 2, 1) := by decide +kernel
theorem dL_law_571 : decode cL_law 571 = .ok (.invokevirtual 100, 3) := by decide +kernel
theorem dL_law_574 : decode cL_law 574 = .ok (.if_icmp .eq 123, 3) := by decide +kernel
theorem dL_law_577 : decode cL_law 577 = .ok (.iconst 0, 1) := by decide +kernel
theorem dL_law_578 : decode cL_law 578 = .ok (.ireturn, 1) := by decide +kernel
theorem dL_law_579 : decode cL_law 579 = .ok (.aload_n 1, 1) := by decide +kernel
theorem dL_law_580 : decode cL_law 580 = .ok (.invokevirtual 101, 3) := by decide +kernel
theorem dL_law_583 : decode cL_law 583 = .ok (.aload_n 2, 1) := by decide +kernel
theorem dL_law_584 : decode cL_law 584 = .ok (.invokevirtual 104, 3) := by decide +kernel
theorem dL_law_587 : decode cL_law 587 = .ok (.if_icmp .eq 110, 3) := by decide +kernel
theorem dL_law_590 : decode cL_law 590 = .ok (.iconst 0, 1) := by decide +kernel
theorem dL_law_591 : decode cL_law 591 = .ok (.ireturn, 1) := by decide +kernel
theorem dL_law_592 : decode cL_law 592 = .ok (.aload_n 1, 1) := by decide +kernel
theorem dL_law_593 : decode cL_law 593 = .ok (.invokevirtual 105, 3) := by decide +kernel
theorem dL_law_596 : decode cL_law 596 = .ok (.aload_n 2, 1) := by decide +kernel
theorem dL_law_597 : decode cL_law 597 = .ok (.invokevirtual 108, 3) := by decide +kernel
theorem dL_law_600 : decode cL_law 600 = .ok (.if_icmp .eq 97, 3) := by decide +kernel
theorem dL_law_603 : decode cL_law 603 = .ok (.iconst 0, 1) := by decide +kernel
theorem dL_law_604 : decode cL_law 604 = .ok (.ireturn, 1) := by decide +kernel
theorem dL_law_605 : decode cL_law 605 = .ok (.aload_n 1, 1) := by decide +kernel
theorem dL_law_606 : decode cL_law 606 = .ok (.aload_n 0, 1) := by decide +kernel
theorem dL_law_607 : decode cL_law 607 = .ok (.iload_n 3, 1) := by decide +kernel
theorem dL_law_608 : decode cL_law 608 = .ok (.iconst 1, 1) := by decide +kernel
theorem dL_law_609 : decode cL_law 609 = .ok (.iadd, 1) := by decide +kernel
theorem dL_law_610 : decode cL_law 610 = .ok (.iaload, 1) := by decide +kernel
theorem dL_law_611 : decode cL_law 611 = .ok (.aload_n 0, 1) := by decide +kernel
theorem dL_law_612 : decode cL_law 612 = .ok (.iload_n 3, 1) := by decide +kernel
theorem dL_law_613 : decode cL_law 613 = .ok (.iconst 2, 1) := by decide +kernel
theorem dL_law_614 : decode cL_law 614 = .ok (.iadd, 1) := by decide +kernel
theorem dL_law_615 : decode cL_law 615 = .ok (.iaload, 1) := by decide +kernel
theorem dL_law_616 : decode cL_law 616 = .ok (.invokevirtual 109, 3) := by decide +kernel
theorem dL_law_619 : decode cL_law 619 = .ok (.aload_n 2, 1) := by decide +kernel
theorem dL_law_620 : decode cL_law 620 = .ok (.aload_n 0, 1) := by decide +kernel
theorem dL_law_621 : decode cL_law 621 = .ok (.iload_n 3, 1) := by decide +kernel
theorem dL_law_622 : decode cL_law 622 = .ok (.iconst 1, 1) := by decide +kernel
theorem dL_law_623 : decode cL_law 623 = .ok (.iadd, 1) := by decide +kernel
theorem dL_law_624 : decode cL_law 624 = .ok (.iaload, 1) := by decide +kernel
theorem dL_law_625 : decode cL_law 625 = .ok (.aload_n 0, 1) := by decide +kernel
theorem dL_law_626 : decode cL_law 626 = .ok (.iload_n 3, 1) := by decide +kernel
theorem dL_law_627 : decode cL_law 627 = .ok (.iconst 2, 1) := by decide +kernel
theorem dL_law_628 : decode cL_law 628 = .ok (.iadd, 1) := by decide +kernel
theorem dL_law_629 : decode cL_law 629 = .ok (.iaload, 1) := by decide +kernel
theorem dL_law_630 : decode cL_law 630 = .ok (.invokevirtual 112, 3) := by decide +kernel
theorem dL_law_633 : decode cL_law 633 = .ok (.if_icmp .eq 64, 3) := by decide +kernel
theorem dL_law_636 : decode cL_law 636 = .ok (.iconst 0, 1) := by decide +kernel
theorem dL_law_637 : decode cL_law 637 = .ok (.ireturn, 1) := by decide +kernel
theorem dL_law_638 : decode cL_law 638 = .ok (.aload_n 1, 1) := by decide +kernel
theorem dL_law_639 : decode cL_law 639 = .ok (.aload_n 0, 1) := by decide +kernel
theorem dL_law_640 : decode cL_law 640 = .ok (.iload_n 3, 1) := by decide +kernel
theorem dL_law_641 : decode cL_law 641 = .ok (.iconst 1, 1) := by decide +kernel
theorem dL_law_642 : decode cL_law 642 = .ok (.iadd, 1) := by decide +kernel
theorem dL_law_643 : decode cL_law 643 = .ok (.iaload, 1) := by decide +kernel
theorem dL_law_644 : decode cL_law 644 = .ok (.invokevirtual 113, 3) := by decide +kernel
theorem dL_law_647 : decode cL_law 647 = .ok (.aload_n 2, 1) := by decide +kernel
theorem dL_law_648 : decode cL_law 648 = .ok (.aload_n 0, 1) := by decide +kernel
theorem dL_law_649 : decode cL_law 649 = .ok (.iload_n 3, 1) := by decide +kernel
theorem dL_law_650 : decode cL_law 650 = .ok (.iconst 1, 1) := by decide +kernel
theorem dL_law_651 : decode cL_law 651 = .ok (.iadd, 1) := by decide +kernel
theorem dL_law_652 : decode cL_law 652 = .ok (.iaload, 1) := by decide +kernel
theorem dL_law_653 : decode cL_law 653 = .ok (.invokevirtual 116, 3) := by decide +kernel
theorem dL_law_656 : decode cL_law 656 = .ok (.if_icmp .eq 41, 3) := by decide +kernel
theorem dL_law_659 : decode cL_law 659 = .ok (.iconst 0, 1) := by decide +kernel
theorem dL_law_660 : decode cL_law 660 = .ok (.ireturn, 1) := by decide +kernel
theorem dL_law_661 : decode cL_law 661 = .ok (.aload_n 1, 1) := by decide +kernel
theorem dL_law_662 : decode cL_law 662 = .ok (.aload_n 0, 1) := by decide +kernel
theorem dL_law_663 : decode cL_law 663 = .ok (.iload_n 3, 1) := by decide +kernel
theorem dL_law_664 : decode cL_law 664 = .ok (.iconst 1, 1) := by decide +kernel
theorem dL_law_665 : decode cL_law 665 = .ok (.iadd, 1) := by decide +kernel
theorem dL_law_666 : decode cL_law 666 = .ok (.iaload, 1) := by decide +kernel
theorem dL_law_667 : decode cL_law 667 = .ok (.invokevirtual 117, 3) := by decide +kernel
theorem dL_law_670 : decode cL_law 670 = .ok (.aload_n 2, 1) := by decide +kernel
theorem dL_law_671 : decode cL_law 671 = .ok (.aload_n 0, 1) := by decide +kernel
theorem dL_law_672 : decode cL_law 672 = .ok (.iload_n 3, 1) := by decide +kernel
theorem dL_law_673 : decode cL_law 673 = .ok (.iconst 1, 1) := by decide +kernel
theorem dL_law_674 : decode cL_law 674 = .ok (.iadd, 1) := by decide +kernel
theorem dL_law_675 : decode cL_law 675 = .ok (.iaload, 1) := by decide +kernel
theorem dL_law_676 : decode cL_law 676 = .ok (.invokevirtual 120, 3) := by decide +kernel
theorem dL_law_679 : decode cL_law 679 = .ok (.if_icmp .eq 18, 3) := by decide +kernel
theorem dL_law_682 : decode cL_law 682 = .ok (.iconst 0, 1) := by decide +kernel
theorem dL_law_683 : decode cL_law 683 = .ok (.ireturn, 1) := by decide +kernel
theorem dL_law_684 : decode cL_law 684 = .ok (.aload_n 1, 1) := by decide +kernel
theorem dL_law_685 : decode cL_law 685 = .ok (.invokevirtual 121, 3) := by decide +kernel
theorem dL_law_688 : decode cL_law 688 = .ok (.aload_n 2, 1) := by decide +kernel
theorem dL_law_689 : decode cL_law 689 = .ok (.invokevirtual 124, 3) := by decide +kernel
theorem dL_law_692 : decode cL_law 692 = .ok (.if_icmp .eq 5, 3) := by decide +kernel
theorem dL_law_695 : decode cL_law 695 = .ok (.iconst 0, 1) := by decide +kernel
theorem dL_law_696 : decode cL_law 696 = .ok (.ireturn, 1) := by decide +kernel
theorem dL_law_697 : decode cL_law 697 = .ok (.iinc 3 4, 3) := by decide +kernel
theorem dL_law_700 : decode cL_law 700 = .ok (.goto (-682), 3) := by decide +kernel
theorem dL_law_703 : decode cL_law 703 = .ok (.iconst 1, 1) := by decide +kernel
theorem dL_law_704 : decode cL_law 704 = .ok (.ireturn, 1) := by decide +kernel
end
section
section FIELDS
variable {p : Program} {l : Launch} {e : Env} {R : Room} {s : State} {m : MethodId} {args : Array Value} {below : List Frame} {meth : Method} {c : Code} {H : Heap} {locs : List Loc} {cells slots : Nat} {Q : State → Prop}
variable {cc : ByteArray} {pc nL : Nat} {ls : Array Slot} {rest : List Value} {D : va_G} {A : Nat → Prop} {a : Nat} {cI cB : ClassId} {w : va_W} {H0 : Heap} {own : String}
theorem r_min (E : EE p c cc nL s args m own D cI cB) (hl : ls.size = nL) {index : Nat} (h1 : Cond.methodLink own index yJ9_min_7cf53 ∈ gT) (hR : 1 ≤ R.frames ∧ (rest.map fun v => v.category).sum + 13 ≤ R.locals) (hc : cells ≤ R.cells ∧ slots ≤ R.slots) {x y : Int32} (hd : decode cc pc = .ok (.invokestatic index, 3))
    (kk : W p l e R s m args below meth c H locs cells slots Q (F0 m (pc + 3) ls (.int (if y < x then y else x) :: rest))) : W p l e R s m args below meth c H locs cells slots Q (F0 m pc ls (.int y :: .int x :: rest)) :=
  va_mmin E.1.1 E.1.2.1 (E.1.2.2.1.trans hl.symm) E.1.2.2.2.1 (E.1.2.2.2.2 _ (show Cond.methodLink own index Lib.Math.min.name ∈ gT from h1)) (E.1.2.2.2.2 _ (show Cond.static Lib.Math.min.name ∈ gT from mt_J9_min_7cf53)) (E.1.2.2.2.2 _ mn_J9) (E.1.2.2.2.2 _ (show Cond.code Lib.Math.min.name Lib.Math.min.code 2 (some .int) ∈ gT from mc_J9_min_7cf53)) hR.1 hR.2 hc.1 hc.2 hd kk
theorem r_max (E : EE p c cc nL s args m own D cI cB) (hl : ls.size = nL) {index : Nat} (h1 : Cond.methodLink own index yJ9_max_7cf53 ∈ gT) (hR : 1 ≤ R.frames ∧ (rest.map fun v => v.category).sum + 13 ≤ R.locals) (hc : cells ≤ R.cells ∧ slots ≤ R.slots) {x y : Int32} (hd : decode cc pc = .ok (.invokestatic index, 3))
    (kk : W p l e R s m args below meth c H locs cells slots Q (F0 m (pc + 3) ls (.int (if x < y then y else x) :: rest))) : W p l e R s m args below meth c H locs cells slots Q (F0 m pc ls (.int y :: .int x :: rest)) :=
  va_mmax E.1.1 E.1.2.1 (E.1.2.2.1.trans hl.symm) E.1.2.2.2.1 (E.1.2.2.2.2 _ (show Cond.methodLink own index Lib.Math.max.name ∈ gT from h1)) (E.1.2.2.2.2 _ (show Cond.static Lib.Math.max.name ∈ gT from mt_J9_max_7cf53)) (E.1.2.2.2.2 _ mn_J9) (E.1.2.2.2.2 _ (show Cond.code Lib.Math.max.name Lib.Math.max.code 2 (some .int) ∈ gT from mc_J9_max_7cf53)) hR.1 hR.2 hc.1 hc.2 hd kk
theorem r_ial (E : EE p c cc nL s args m own D cI cB) (X : WD D A H0 H locs w) (q0 : Nat) {n : Nat} {f : Nat → Int32} (he : w[q0]? = some (a, .inl (cI, n, .inl f))) {i : Int32} (j : Nat) (hj : i.toNatClampNeg = j) (hin : vp_in i n) (hd : decode cc pc = .ok (.iaload, 1))
    (kk : W p l e R s m args below meth c H locs cells slots Q (F0 m (pc + 1) ls (.int (f j) :: rest))) : W p l e R s m args below meth c H locs cells slots Q (F0 m pc ls (.int i :: .ref a :: rest)) := by
  subst hj
  exact r_iald E X q0 he hin hd kk
theorem r_ias (E : EE p c cc nL s args m own D cI cB) (X : WD D A H0 H locs w) (q0 : Nat) {n : Nat} {f : Nat → Int32} {w' : va_W} (he : w[q0]? = some (a, .inl (cI, n, .inl f))) {i x : Int32} (j : Nat) (hj : i.toNatClampNeg = j) (hin : vp_in i n) (hw : w.set q0 (a, .inl (cI, n, .inl (upd f j x))) = w') (hd : decode cc pc = .ok (.iastore, 1))
    (kk : ∀ (H1 : Heap) (locs1 : List Loc), WD D A H0 H1 locs1 w' → W p l e R s m args below meth c H1 locs1 cells slots Q (F0 m (pc + 1) ls rest)) : W p l e R s m args below meth c H locs cells slots Q (F0 m pc ls (.int x :: .int i :: .ref a :: rest)) := by
  subst hj
  exact r_iast E X q0 he hin hw hd kk
theorem r_ocast {α : Type} {P : α → Prop} {x y : α} (e : x = y) (h : P x) : P y := e ▸ h
theorem r_objI (E : EE p c cc nL s args m own D cI cB) (hl : ls.size = nL) {index : Nat} (h1 : Cond.methodLink own index Lib.objectInit ∈ gT) (hR : 1 ≤ R.frames ∧ (rest.map fun v => v.category).sum + 12 ≤ R.locals) (hd : decode cc pc = .ok (.invokespecial index, 3))
    (kk : W p l e R s m args below meth c H locs cells slots Q (F0 m (pc + 3) ls rest)) : W p l e R s m args below meth c H locs cells slots Q (F0 m pc ls (.ref a :: rest)) :=
  W.objInit E.1.1 E.1.2.1 E.1.2.2.2.1 (E.1.2.2.2.2 _ h1) (E.1.2.2.2.2 _ mi_objectInit) (E.1.2.2.2.2 _ (show Cond.code Lib.objectInit ⟨#[0xb1]⟩ 1 none ∈ gT from mc_objectInit)) rfl (hl.trans E.1.2.2.1.symm) rfl hd hR.1 (by have := hR.2; show 2 * 0 + (rest.map fun v => v.category).sum + 12 ≤ R.locals; omega) kk
theorem r_newI (E : EE p c cc nL s args m own D cI cB) (X : WD D A H0 H locs w) (hA : ∀ q, H0.size ≤ q → A q) {n : Int32} (N : Nat) {f : Nat → Int32} (hf : f = fun _ => 0) (hn : ¬ n < 0) (hN : n.toNatClampNeg = N) (hby : N * 4 ≤ 536870912) (hc : cells + 1 ≤ R.cells ∧ slots + N ≤ R.slots) (hd : decode cc pc = .ok (.newarray .int, 2))
    (kk : ∀ (q : Nat) (H1 : Heap), WD D A H0 H1 locs (w ++ [(q, .inl (cI, N, .inl f))]) → W p l e R s m args below meth c H1 locs (cells + 1) (slots + N) Q (F0 m (pc + 2) ls (.ref q :: rest))) : W p l e R s m args below meth c H locs cells slots Q (F0 m pc ls (.int n :: rest)) := by
  subst hf
  refine va_newa (atype := .int) (ty := .int) (a0 := (N, .inl (fun _ => 0))) E.1.1 E.1.2.1 (E.1.2.2.2.2 _ ma_int) rfl E.2 X.1 X.2.1 X.2.2 hA (fun cA => rfl) hn hN hby hc.1 hc.2 hd (fun q cA H1 hK hP hD hS => ?_)
  have e : cA = cI := by
    have h1 := (hK.2 2 (cA, .int) rfl).2
    have h2 := (E.2.2 0 (cI, .int) rfl).2
    exact Option.some.inj (h1.symm.trans h2)
  subst e
  exact kk q H1 ⟨hP, hD, hS⟩
theorem r_newB (E : EE p c cc nL s args m own D cI cB) (X : WD D A H0 H locs w) (hA : ∀ q, H0.size ≤ q → A q) {n : Int32} (N : Nat) {f : Nat → Int32} (hf : f = fun _ => 0) (hn : ¬ n < 0) (hN : n.toNatClampNeg = N) (hby : N * 1 ≤ 536870912) (hc : cells + 1 ≤ R.cells ∧ slots + N ≤ R.slots) (hd : decode cc pc = .ok (.newarray .byte, 2))
    (kk : ∀ (q : Nat) (H1 : Heap), WD D A H0 H1 locs (w ++ [(q, .inl (cB, N, .inl f))]) → W p l e R s m args below meth c H1 locs (cells + 1) (slots + N) Q (F0 m (pc + 2) ls (.ref q :: rest))) : W p l e R s m args below meth c H locs cells slots Q (F0 m pc ls (.int n :: rest)) := by
  subst hf
  refine va_newa (atype := .byte) (ty := .byte) (a0 := (N, .inl (fun _ => 0))) E.1.1 E.1.2.1 (E.1.2.2.2.2 _ ma_byte) rfl E.2 X.1 X.2.1 X.2.2 hA (fun cA => rfl) hn hN hby hc.1 hc.2 hd (fun q cA H1 hK hP hD hS => ?_)
  have e : cA = cB := by
    have h1 := (hK.2 2 (cA, .byte) rfl).2
    have h2 := (E.2.2 1 (cB, .byte) rfl).2
    exact Option.some.inj (h1.symm.trans h2)
  subst e
  exact kk q H1 ⟨hP, hD, hS⟩
theorem r_new (E : EE p c cc nL s args m own D cI cB) (X : WD D A H0 H locs w) (hA : ∀ q, H0.size ≤ q → A q) {C : String} {T : u_T} {ty : Nat → FieldType} {N ci index : Nat} (hin : ∀ w ∈ u_ws C T N, w ∈ gT) (hty : ∀ k, k < N → parseFieldDescriptor (T k).2.2.1 = some (ty k)) (hcl : Cond.classLink own index C ∈ gT) (hins : Cond.instantiable C N ∈ gT) (hini : Cond.initialized C ∈ gT) (hc : vwCl[ci]? = some (C, T, N)) {fs : List Value} (hfs : ∀ j, j < N → defaultValue (ty j) = vp_V fs j) (hR : cells + 1 ≤ R.cells ∧ slots + N ≤ R.slots) (hd : decode cc pc = .ok (.new index, 3))
    (kk : ∀ (q : Nat) (H1 : Heap), WD D A H0 H1 locs (w ++ [(q, .inr (ci, fs))]) → W p l e R s m args below meth c H1 locs (cells + 1) (slots + N) Q (F0 m (pc + 3) ls (.ref q :: rest))) : W p l e R s m args below meth c H locs cells slots Q (F0 m pc ls rest) :=
  va_new E.1.1 E.1.2.1 E.1.2.2.2.2 hin ty hty E.1.2.2.2.1 (E.1.2.2.2.2 _ hcl) (E.1.2.2.2.2 _ hins) (E.1.2.2.2.2 _ hini) E.2 X.1 X.2.1 X.2.2 hA hc hfs hR.1 hR.2 hd (fun q H1 hP hD hS => kk q H1 ⟨hP, hD, hS⟩)

theorem gf_J0_9 (E : EE p c cc nL s args m RJ0 D cI cB) (X : WD D A H0 H locs w) (q0 : Nat) {fs : List Value} {v : Value} (he : w[q0]? = some (a, .inr (0, fs))) (hv : fs[0]? = some v) (hd : decode cc pc = .ok (.getfield 9, 3)) (kk : W p l e R s m args below meth c H locs cells slots Q (F0 m (pc + 3) ls (v :: rest))) : W p l e R s m args below meth c H locs cells slots Q (F0 m pc ls (.ref a :: rest)) := r_get E X 0 inJ0 rfl (by decide) mf_J0_9 rfl q0 he hv hd kk
theorem pf_J0_9 (E : EE p c cc nL s args m RJ0 D cI cB) (X : WD D A H0 H locs w) (hin2 : meth.name = "<init>") (q0 : Nat) {fs : List Value} {x : Nat} {w' : va_W} (he : w[q0]? = some (a, .inr (0, fs))) (hlen : 0 < fs.length) (hw : w.set q0 (a, .inr (0, fs.set 0 (.ref x))) = w') (hd : decode cc pc = .ok (.putfield 9, 3)) (kk : ∀ (H1 : Heap) (locs1 : List Loc), WD D A H0 H1 locs1 w' → W p l e R s m args below meth c H1 locs1 cells slots Q (F0 m (pc + 3) ls rest)) : W p l e R s m args below meth c H locs cells slots Q (F0 m pc ls ((.ref x) :: .ref a :: rest)) := r_putF E X 0 inJ0 tyJ0_ok nmJ0 rfl (by decide) mf_J0_9 rfl rfl hin2 rfl q0 he rfl rfl hlen hw hd kk
theorem gf_J0_15 (E : EE p c cc nL s args m RJ0 D cI cB) (X : WD D A H0 H locs w) (q0 : Nat) {fs : List Value} {v : Value} (he : w[q0]? = some (a, .inr (0, fs))) (hv : fs[1]? = some v) (hd : decode cc pc = .ok (.getfield 15, 3)) (kk : W p l e R s m args below meth c H locs cells slots Q (F0 m (pc + 3) ls (v :: rest))) : W p l e R s m args below meth c H locs cells slots Q (F0 m pc ls (.ref a :: rest)) := r_get E X 1 inJ0 rfl (by decide) mf_J0_15 rfl q0 he hv hd kk
theorem pf_J0_15 (E : EE p c cc nL s args m RJ0 D cI cB) (X : WD D A H0 H locs w) (hin2 : meth.name = "<init>") (q0 : Nat) {fs : List Value} {x : Int32} {w' : va_W} (he : w[q0]? = some (a, .inr (0, fs))) (hb : narrow .byte (.int x) = .int x) (hb2 : fits .byte (.int x) = true) (hlen : 1 < fs.length) (hw : w.set q0 (a, .inr (0, fs.set 1 (.int x))) = w') (hd : decode cc pc = .ok (.putfield 15, 3)) (kk : ∀ (H1 : Heap) (locs1 : List Loc), WD D A H0 H1 locs1 w' → W p l e R s m args below meth c H1 locs1 cells slots Q (F0 m (pc + 3) ls rest)) : W p l e R s m args below meth c H locs cells slots Q (F0 m pc ls ((.int x) :: .ref a :: rest)) := r_putF E X 1 inJ0 tyJ0_ok nmJ0 rfl (by decide) mf_J0_15 rfl rfl hin2 rfl q0 he hb hb2 hlen hw hd kk
theorem gf_J0_1048 (E : EE p c cc nL s args m RJ0 D cI cB) (X : WD D A H0 H locs w) (q0 : Nat) {fs : List Value} {v : Value} (he : w[q0]? = some (a, .inr (1, fs))) (hv : fs[2]? = some v) (hd : decode cc pc = .ok (.getfield 1048, 3)) (kk : W p l e R s m args below meth c H locs cells slots Q (F0 m (pc + 3) ls (v :: rest))) : W p l e R s m args below meth c H locs cells slots Q (F0 m pc ls (.ref a :: rest)) := r_get E X 2 inJ4 rfl (by decide) mf_J0_1048 rfl q0 he hv hd kk
theorem gf_J5_15 (E : EE p c cc nL s args m RJ5 D cI cB) (X : WD D A H0 H locs w) (q0 : Nat) {fs : List Value} {v : Value} (he : w[q0]? = some (a, .inr (1, fs))) (hv : fs[0]? = some v) (hd : decode cc pc = .ok (.getfield 15, 3)) (kk : W p l e R s m args below meth c H locs cells slots Q (F0 m (pc + 3) ls (v :: rest))) : W p l e R s m args below meth c H locs cells slots Q (F0 m pc ls (.ref a :: rest)) := r_get E X 0 inJ4 rfl (by decide) mf_J5_15 rfl q0 he hv hd kk
theorem pf_J5_15 (E : EE p c cc nL s args m RJ5 D cI cB) (X : WD D A H0 H locs w) (q0 : Nat) {fs : List Value} {x : Nat} {w' : va_W} (he : w[q0]? = some (a, .inr (1, fs))) (hlen : 0 < fs.length) (hw : w.set q0 (a, .inr (1, fs.set 0 (.ref x))) = w') (hd : decode cc pc = .ok (.putfield 15, 3)) (kk : ∀ (H1 : Heap) (locs1 : List Loc), WD D A H0 H1 locs1 w' → W p l e R s m args below meth c H1 locs1 cells slots Q (F0 m (pc + 3) ls rest)) : W p l e R s m args below meth c H locs cells slots Q (F0 m pc ls ((.ref x) :: .ref a :: rest)) := r_put E X 0 inJ4 tyJ4_ok nmJ4 rfl (by decide) mf_J5_15 rfl rfl q0 he rfl rfl hlen hw hd kk
theorem gf_J5_22 (E : EE p c cc nL s args m RJ5 D cI cB) (X : WD D A H0 H locs w) (q0 : Nat) {fs : List Value} {v : Value} (he : w[q0]? = some (a, .inr (1, fs))) (hv : fs[1]? = some v) (hd : decode cc pc = .ok (.getfield 22, 3)) (kk : W p l e R s m args below meth c H locs cells slots Q (F0 m (pc + 3) ls (v :: rest))) : W p l e R s m args below meth c H locs cells slots Q (F0 m pc ls (.ref a :: rest)) := r_get E X 1 inJ4 rfl (by decide) mf_J5_22 rfl q0 he hv hd kk
theorem pf_J5_22 (E : EE p c cc nL s args m RJ5 D cI cB) (X : WD D A H0 H locs w) (q0 : Nat) {fs : List Value} {x : Int32} {w' : va_W} (he : w[q0]? = some (a, .inr (1, fs))) (hb : narrow .byte (.int x) = .int x) (hb2 : fits .byte (.int x) = true) (hlen : 1 < fs.length) (hw : w.set q0 (a, .inr (1, fs.set 1 (.int x))) = w') (hd : decode cc pc = .ok (.putfield 22, 3)) (kk : ∀ (H1 : Heap) (locs1 : List Loc), WD D A H0 H1 locs1 w' → W p l e R s m args below meth c H1 locs1 cells slots Q (F0 m (pc + 3) ls rest)) : W p l e R s m args below meth c H locs cells slots Q (F0 m pc ls ((.int x) :: .ref a :: rest)) := r_put E X 1 inJ4 tyJ4_ok nmJ4 rfl (by decide) mf_J5_22 rfl rfl q0 he hb hb2 hlen hw hd kk
theorem pf_J5_73 (E : EE p c cc nL s args m RJ5 D cI cB) (X : WD D A H0 H locs w) (q0 : Nat) {fs : List Value} {x : Int32} {w' : va_W} (he : w[q0]? = some (a, .inr (1, fs))) (hb : narrow .boolean (.int x) = .int x) (hb2 : fits .boolean (.int x) = true) (hlen : 2 < fs.length) (hw : w.set q0 (a, .inr (1, fs.set 2 (.int x))) = w') (hd : decode cc pc = .ok (.putfield 73, 3)) (kk : ∀ (H1 : Heap) (locs1 : List Loc), WD D A H0 H1 locs1 w' → W p l e R s m args below meth c H1 locs1 cells slots Q (F0 m (pc + 3) ls rest)) : W p l e R s m args below meth c H locs cells slots Q (F0 m pc ls ((.int x) :: .ref a :: rest)) := r_put E X 2 inJ4 tyJ4_ok nmJ4 rfl (by decide) mf_J5_73 rfl rfl q0 he hb hb2 hlen hw hd kk
theorem gf_J5_79 (E : EE p c cc nL s args m RJ5 D cI cB) (X : WD D A H0 H locs w) (q0 : Nat) {fs : List Value} {v : Value} (he : w[q0]? = some (a, .inr (1, fs))) (hv : fs[3]? = some v) (hd : decode cc pc = .ok (.getfield 79, 3)) (kk : W p l e R s m args below meth c H locs cells slots Q (F0 m (pc + 3) ls (v :: rest))) : W p l e R s m args below meth c H locs cells slots Q (F0 m pc ls (.ref a :: rest)) := r_get E X 3 inJ4 rfl (by decide) mf_J5_79 rfl q0 he hv hd kk
theorem pf_J5_79 (E : EE p c cc nL s args m RJ5 D cI cB) (X : WD D A H0 H locs w) (q0 : Nat) {fs : List Value} {x : Int32} {w' : va_W} (he : w[q0]? = some (a, .inr (1, fs))) (hlen : 3 < fs.length) (hw : w.set q0 (a, .inr (1, fs.set 3 (.int x))) = w') (hd : decode cc pc = .ok (.putfield 79, 3)) (kk : ∀ (H1 : Heap) (locs1 : List Loc), WD D A H0 H1 locs1 w' → W p l e R s m args below meth c H1 locs1 cells slots Q (F0 m (pc + 3) ls rest)) : W p l e R s m args below meth c H locs cells slots Q (F0 m pc ls ((.int x) :: .ref a :: rest)) := r_put E X 3 inJ4 tyJ4_ok nmJ4 rfl (by decide) mf_J5_79 rfl rfl q0 he (vp_nar_int x) rfl hlen hw hd kk
theorem gf_X0_9 (E : EE p c cc nL s args m RX0 D cI cB) (X : WD D A H0 H locs w) (q0 : Nat) {fs : List Value} {v : Value} (he : w[q0]? = some (a, .inr (2, fs))) (hv : fs[0]? = some v) (hd : decode cc pc = .ok (.getfield 9, 3)) (kk : W p l e R s m args below meth c H locs cells slots Q (F0 m (pc + 3) ls (v :: rest))) : W p l e R s m args below meth c H locs cells slots Q (F0 m pc ls (.ref a :: rest)) := r_get E X 0 inX0 rfl (by decide) mf_X0_9 rfl q0 he hv hd kk
theorem pf_X0_9 (E : EE p c cc nL s args m RX0 D cI cB) (X : WD D A H0 H locs w) (hin2 : meth.name = "<init>") (q0 : Nat) {fs : List Value} {x : Nat} {w' : va_W} (he : w[q0]? = some (a, .inr (2, fs))) (hlen : 0 < fs.length) (hw : w.set q0 (a, .inr (2, fs.set 0 (.ref x))) = w') (hd : decode cc pc = .ok (.putfield 9, 3)) (kk : ∀ (H1 : Heap) (locs1 : List Loc), WD D A H0 H1 locs1 w' → W p l e R s m args below meth c H1 locs1 cells slots Q (F0 m (pc + 3) ls rest)) : W p l e R s m args below meth c H locs cells slots Q (F0 m pc ls ((.ref x) :: .ref a :: rest)) := r_putF E X 0 inX0 tyX0_ok nmX0 rfl (by decide) mf_X0_9 rfl rfl hin2 rfl q0 he rfl rfl hlen hw hd kk
theorem gf_X0_15 (E : EE p c cc nL s args m RX0 D cI cB) (X : WD D A H0 H locs w) (q0 : Nat) {fs : List Value} {v : Value} (he : w[q0]? = some (a, .inr (2, fs))) (hv : fs[1]? = some v) (hd : decode cc pc = .ok (.getfield 15, 3)) (kk : W p l e R s m args below meth c H locs cells slots Q (F0 m (pc + 3) ls (v :: rest))) : W p l e R s m args below meth c H locs cells slots Q (F0 m pc ls (.ref a :: rest)) := r_get E X 1 inX0 rfl (by decide) mf_X0_15 rfl q0 he hv hd kk
theorem pf_X0_15 (E : EE p c cc nL s args m RX0 D cI cB) (X : WD D A H0 H locs w) (hin2 : meth.name = "<init>") (q0 : Nat) {fs : List Value} {x : Nat} {w' : va_W} (he : w[q0]? = some (a, .inr (2, fs))) (hlen : 1 < fs.length) (hw : w.set q0 (a, .inr (2, fs.set 1 (.ref x))) = w') (hd : decode cc pc = .ok (.putfield 15, 3)) (kk : ∀ (H1 : Heap) (locs1 : List Loc), WD D A H0 H1 locs1 w' → W p l e R s m args below meth c H1 locs1 cells slots Q (F0 m (pc + 3) ls rest)) : W p l e R s m args below meth c H locs cells slots Q (F0 m pc ls ((.ref x) :: .ref a :: rest)) := r_putF E X 1 inX0 tyX0_ok nmX0 rfl (by decide) mf_X0_15 rfl rfl hin2 rfl q0 he rfl rfl hlen hw hd kk
theorem gf_X0_18 (E : EE p c cc nL s args m RX0 D cI cB) (X : WD D A H0 H locs w) (q0 : Nat) {fs : List Value} {v : Value} (he : w[q0]? = some (a, .inr (2, fs))) (hv : fs[2]? = some v) (hd : decode cc pc = .ok (.getfield 18, 3)) (kk : W p l e R s m args below meth c H locs cells slots Q (F0 m (pc + 3) ls (v :: rest))) : W p l e R s m args below meth c H locs cells slots Q (F0 m pc ls (.ref a :: rest)) := r_get E X 2 inX0 rfl (by decide) mf_X0_18 rfl q0 he hv hd kk
theorem pf_X0_18 (E : EE p c cc nL s args m RX0 D cI cB) (X : WD D A H0 H locs w) (q0 : Nat) {fs : List Value} {x : Int32} {w' : va_W} (he : w[q0]? = some (a, .inr (2, fs))) (hlen : 2 < fs.length) (hw : w.set q0 (a, .inr (2, fs.set 2 (.int x))) = w') (hd : decode cc pc = .ok (.putfield 18, 3)) (kk : ∀ (H1 : Heap) (locs1 : List Loc), WD D A H0 H1 locs1 w' → W p l e R s m args below meth c H1 locs1 cells slots Q (F0 m (pc + 3) ls rest)) : W p l e R s m args below meth c H locs cells slots Q (F0 m pc ls ((.int x) :: .ref a :: rest)) := r_put E X 2 inX0 tyX0_ok nmX0 rfl (by decide) mf_X0_18 rfl rfl q0 he (vp_nar_int x) rfl hlen hw hd kk
theorem pf_X1_7 (E : EE p c cc nL s args m RX1 D cI cB) (X : WD D A H0 H locs w) (q0 : Nat) {fs : List Value} {x : Int32} {w' : va_W} (he : w[q0]? = some (a, .inr (3, fs))) (hb : narrow .boolean (.int x) = .int x) (hb2 : fits .boolean (.int x) = true) (hlen : 0 < fs.length) (hw : w.set q0 (a, .inr (3, fs.set 0 (.int x))) = w') (hd : decode cc pc = .ok (.putfield 7, 3)) (kk : ∀ (H1 : Heap) (locs1 : List Loc), WD D A H0 H1 locs1 w' → W p l e R s m args below meth c H1 locs1 cells slots Q (F0 m (pc + 3) ls rest)) : W p l e R s m args below meth c H locs cells slots Q (F0 m pc ls ((.int x) :: .ref a :: rest)) := r_put E X 0 inX1 tyX1_ok nmX1 rfl (by decide) mf_X1_7 rfl rfl q0 he hb hb2 hlen hw hd kk
theorem pf_X1_13 (E : EE p c cc nL s args m RX1 D cI cB) (X : WD D A H0 H locs w) (q0 : Nat) {fs : List Value} {x : Int32} {w' : va_W} (he : w[q0]? = some (a, .inr (3, fs))) (hlen : 1 < fs.length) (hw : w.set q0 (a, .inr (3, fs.set 1 (.int x))) = w') (hd : decode cc pc = .ok (.putfield 13, 3)) (kk : ∀ (H1 : Heap) (locs1 : List Loc), WD D A H0 H1 locs1 w' → W p l e R s m args below meth c H1 locs1 cells slots Q (F0 m (pc + 3) ls rest)) : W p l e R s m args below meth c H locs cells slots Q (F0 m pc ls ((.int x) :: .ref a :: rest)) := r_put E X 1 inX1 tyX1_ok nmX1 rfl (by decide) mf_X1_13 rfl rfl q0 he (vp_nar_int x) rfl hlen hw hd kk
theorem gf_X1_17 (E : EE p c cc nL s args m RX1 D cI cB) (X : WD D A H0 H locs w) (q0 : Nat) {fs : List Value} {v : Value} (he : w[q0]? = some (a, .inr (3, fs))) (hv : fs[2]? = some v) (hd : decode cc pc = .ok (.getfield 17, 3)) (kk : W p l e R s m args below meth c H locs cells slots Q (F0 m (pc + 3) ls (v :: rest))) : W p l e R s m args below meth c H locs cells slots Q (F0 m pc ls (.ref a :: rest)) := r_get E X 2 inX1 rfl (by decide) mf_X1_17 rfl q0 he hv hd kk
theorem pf_X1_17 (E : EE p c cc nL s args m RX1 D cI cB) (X : WD D A H0 H locs w) (q0 : Nat) {fs : List Value} {x : Int32} {w' : va_W} (he : w[q0]? = some (a, .inr (3, fs))) (hlen : 2 < fs.length) (hw : w.set q0 (a, .inr (3, fs.set 2 (.int x))) = w') (hd : decode cc pc = .ok (.putfield 17, 3)) (kk : ∀ (H1 : Heap) (locs1 : List Loc), WD D A H0 H1 locs1 w' → W p l e R s m args below meth c H1 locs1 cells slots Q (F0 m (pc + 3) ls rest)) : W p l e R s m args below meth c H locs cells slots Q (F0 m pc ls ((.int x) :: .ref a :: rest)) := r_put E X 2 inX1 tyX1_ok nmX1 rfl (by decide) mf_X1_17 rfl rfl q0 he (vp_nar_int x) rfl hlen hw hd kk
theorem gf_X1_20 (E : EE p c cc nL s args m RX1 D cI cB) (X : WD D A H0 H locs w) (q0 : Nat) {fs : List Value} {v : Value} (he : w[q0]? = some (a, .inr (3, fs))) (hv : fs[3]? = some v) (hd : decode cc pc = .ok (.getfield 20, 3)) (kk : W p l e R s m args below meth c H locs cells slots Q (F0 m (pc + 3) ls (v :: rest))) : W p l e R s m args below meth c H locs cells slots Q (F0 m pc ls (.ref a :: rest)) := r_get E X 3 inX1 rfl (by decide) mf_X1_20 rfl q0 he hv hd kk
theorem pf_X1_20 (E : EE p c cc nL s args m RX1 D cI cB) (X : WD D A H0 H locs w) (q0 : Nat) {fs : List Value} {x : Int32} {w' : va_W} (he : w[q0]? = some (a, .inr (3, fs))) (hlen : 3 < fs.length) (hw : w.set q0 (a, .inr (3, fs.set 3 (.int x))) = w') (hd : decode cc pc = .ok (.putfield 20, 3)) (kk : ∀ (H1 : Heap) (locs1 : List Loc), WD D A H0 H1 locs1 w' → W p l e R s m args below meth c H1 locs1 cells slots Q (F0 m (pc + 3) ls rest)) : W p l e R s m args below meth c H locs cells slots Q (F0 m pc ls ((.int x) :: .ref a :: rest)) := r_put E X 3 inX1 tyX1_ok nmX1 rfl (by decide) mf_X1_20 rfl rfl q0 he (vp_nar_int x) rfl hlen hw hd kk
theorem gf_X1_23 (E : EE p c cc nL s args m RX1 D cI cB) (X : WD D A H0 H locs w) (q0 : Nat) {fs : List Value} {v : Value} (he : w[q0]? = some (a, .inr (3, fs))) (hv : fs[4]? = some v) (hd : decode cc pc = .ok (.getfield 23, 3)) (kk : W p l e R s m args below meth c H locs cells slots Q (F0 m (pc + 3) ls (v :: rest))) : W p l e R s m args below meth c H locs cells slots Q (F0 m pc ls (.ref a :: rest)) := r_get E X 4 inX1 rfl (by decide) mf_X1_23 rfl q0 he hv hd kk
theorem pf_X1_23 (E : EE p c cc nL s args m RX1 D cI cB) (X : WD D A H0 H locs w) (q0 : Nat) {fs : List Value} {x : Int32} {w' : va_W} (he : w[q0]? = some (a, .inr (3, fs))) (hlen : 4 < fs.length) (hw : w.set q0 (a, .inr (3, fs.set 4 (.int x))) = w') (hd : decode cc pc = .ok (.putfield 23, 3)) (kk : ∀ (H1 : Heap) (locs1 : List Loc), WD D A H0 H1 locs1 w' → W p l e R s m args below meth c H1 locs1 cells slots Q (F0 m (pc + 3) ls rest)) : W p l e R s m args below meth c H locs cells slots Q (F0 m pc ls ((.int x) :: .ref a :: rest)) := r_put E X 4 inX1 tyX1_ok nmX1 rfl (by decide) mf_X1_23 rfl rfl q0 he (vp_nar_int x) rfl hlen hw hd kk
theorem gf_X2_9 (E : EE p c cc nL s args m RX2 D cI cB) (X : WD D A H0 H locs w) (q0 : Nat) {fs : List Value} {v : Value} (he : w[q0]? = some (a, .inr (4, fs))) (hv : fs[3]? = some v) (hd : decode cc pc = .ok (.getfield 9, 3)) (kk : W p l e R s m args below meth c H locs cells slots Q (F0 m (pc + 3) ls (v :: rest))) : W p l e R s m args below meth c H locs cells slots Q (F0 m pc ls (.ref a :: rest)) := r_get E X 3 inX2 rfl (by decide) mf_X2_9 rfl q0 he hv hd kk
theorem pf_X2_9 (E : EE p c cc nL s args m RX2 D cI cB) (X : WD D A H0 H locs w) (hin2 : meth.name = "<init>") (q0 : Nat) {fs : List Value} {x : Nat} {w' : va_W} (he : w[q0]? = some (a, .inr (4, fs))) (hlen : 3 < fs.length) (hw : w.set q0 (a, .inr (4, fs.set 3 (.ref x))) = w') (hd : decode cc pc = .ok (.putfield 9, 3)) (kk : ∀ (H1 : Heap) (locs1 : List Loc), WD D A H0 H1 locs1 w' → W p l e R s m args below meth c H1 locs1 cells slots Q (F0 m (pc + 3) ls rest)) : W p l e R s m args below meth c H locs cells slots Q (F0 m pc ls ((.ref x) :: .ref a :: rest)) := r_putF E X 3 inX2 tyX2_ok nmX2 rfl (by decide) mf_X2_9 rfl rfl hin2 rfl q0 he rfl rfl hlen hw hd kk
theorem gf_X2_18 (E : EE p c cc nL s args m RX2 D cI cB) (X : WD D A H0 H locs w) (q0 : Nat) {fs : List Value} {v : Value} (he : w[q0]? = some (a, .inr (4, fs))) (hv : fs[4]? = some v) (hd : decode cc pc = .ok (.getfield 18, 3)) (kk : W p l e R s m args below meth c H locs cells slots Q (F0 m (pc + 3) ls (v :: rest))) : W p l e R s m args below meth c H locs cells slots Q (F0 m pc ls (.ref a :: rest)) := r_get E X 4 inX2 rfl (by decide) mf_X2_18 rfl q0 he hv hd kk
theorem pf_X2_18 (E : EE p c cc nL s args m RX2 D cI cB) (X : WD D A H0 H locs w) (hin2 : meth.name = "<init>") (q0 : Nat) {fs : List Value} {x : Nat} {w' : va_W} (he : w[q0]? = some (a, .inr (4, fs))) (hlen : 4 < fs.length) (hw : w.set q0 (a, .inr (4, fs.set 4 (.ref x))) = w') (hd : decode cc pc = .ok (.putfield 18, 3)) (kk : ∀ (H1 : Heap) (locs1 : List Loc), WD D A H0 H1 locs1 w' → W p l e R s m args below meth c H1 locs1 cells slots Q (F0 m (pc + 3) ls rest)) : W p l e R s m args below meth c H locs cells slots Q (F0 m pc ls ((.ref x) :: .ref a :: rest)) := r_putF E X 4 inX2 tyX2_ok nmX2 rfl (by decide) mf_X2_18 rfl rfl hin2 rfl q0 he rfl rfl hlen hw hd kk
theorem gf_X2_25 (E : EE p c cc nL s args m RX2 D cI cB) (X : WD D A H0 H locs w) (q0 : Nat) {fs : List Value} {v : Value} (he : w[q0]? = some (a, .inr (4, fs))) (hv : fs[5]? = some v) (hd : decode cc pc = .ok (.getfield 25, 3)) (kk : W p l e R s m args below meth c H locs cells slots Q (F0 m (pc + 3) ls (v :: rest))) : W p l e R s m args below meth c H locs cells slots Q (F0 m pc ls (.ref a :: rest)) := r_get E X 5 inX2 rfl (by decide) mf_X2_25 rfl q0 he hv hd kk
theorem pf_X2_25 (E : EE p c cc nL s args m RX2 D cI cB) (X : WD D A H0 H locs w) (hin2 : meth.name = "<init>") (q0 : Nat) {fs : List Value} {x : Nat} {w' : va_W} (he : w[q0]? = some (a, .inr (4, fs))) (hlen : 5 < fs.length) (hw : w.set q0 (a, .inr (4, fs.set 5 (.ref x))) = w') (hd : decode cc pc = .ok (.putfield 25, 3)) (kk : ∀ (H1 : Heap) (locs1 : List Loc), WD D A H0 H1 locs1 w' → W p l e R s m args below meth c H1 locs1 cells slots Q (F0 m (pc + 3) ls rest)) : W p l e R s m args below meth c H locs cells slots Q (F0 m pc ls ((.ref x) :: .ref a :: rest)) := r_putF E X 5 inX2 tyX2_ok nmX2 rfl (by decide) mf_X2_25 rfl rfl hin2 rfl q0 he rfl rfl hlen hw hd kk
theorem gf_X2_29 (E : EE p c cc nL s args m RX2 D cI cB) (X : WD D A H0 H locs w) (q0 : Nat) {fs : List Value} {v : Value} (he : w[q0]? = some (a, .inr (4, fs))) (hv : fs[0]? = some v) (hd : decode cc pc = .ok (.getfield 29, 3)) (kk : W p l e R s m args below meth c H locs cells slots Q (F0 m (pc + 3) ls (v :: rest))) : W p l e R s m args below meth c H locs cells slots Q (F0 m pc ls (.ref a :: rest)) := r_get E X 0 inX2 rfl (by decide) mf_X2_29 rfl q0 he hv hd kk
theorem pf_X2_29 (E : EE p c cc nL s args m RX2 D cI cB) (X : WD D A H0 H locs w) (hin2 : meth.name = "<init>") (q0 : Nat) {fs : List Value} {x : Nat} {w' : va_W} (he : w[q0]? = some (a, .inr (4, fs))) (hlen : 0 < fs.length) (hw : w.set q0 (a, .inr (4, fs.set 0 (.ref x))) = w') (hd : decode cc pc = .ok (.putfield 29, 3)) (kk : ∀ (H1 : Heap) (locs1 : List Loc), WD D A H0 H1 locs1 w' → W p l e R s m args below meth c H1 locs1 cells slots Q (F0 m (pc + 3) ls rest)) : W p l e R s m args below meth c H locs cells slots Q (F0 m pc ls ((.ref x) :: .ref a :: rest)) := r_putF E X 0 inX2 tyX2_ok nmX2 rfl (by decide) mf_X2_29 rfl rfl hin2 rfl q0 he rfl rfl hlen hw hd kk
theorem gf_X2_33 (E : EE p c cc nL s args m RX2 D cI cB) (X : WD D A H0 H locs w) (q0 : Nat) {fs : List Value} {v : Value} (he : w[q0]? = some (a, .inr (4, fs))) (hv : fs[1]? = some v) (hd : decode cc pc = .ok (.getfield 33, 3)) (kk : W p l e R s m args below meth c H locs cells slots Q (F0 m (pc + 3) ls (v :: rest))) : W p l e R s m args below meth c H locs cells slots Q (F0 m pc ls (.ref a :: rest)) := r_get E X 1 inX2 rfl (by decide) mf_X2_33 rfl q0 he hv hd kk
theorem pf_X2_33 (E : EE p c cc nL s args m RX2 D cI cB) (X : WD D A H0 H locs w) (hin2 : meth.name = "<init>") (q0 : Nat) {fs : List Value} {x : Nat} {w' : va_W} (he : w[q0]? = some (a, .inr (4, fs))) (hlen : 1 < fs.length) (hw : w.set q0 (a, .inr (4, fs.set 1 (.ref x))) = w') (hd : decode cc pc = .ok (.putfield 33, 3)) (kk : ∀ (H1 : Heap) (locs1 : List Loc), WD D A H0 H1 locs1 w' → W p l e R s m args below meth c H1 locs1 cells slots Q (F0 m (pc + 3) ls rest)) : W p l e R s m args below meth c H locs cells slots Q (F0 m pc ls ((.ref x) :: .ref a :: rest)) := r_putF E X 1 inX2 tyX2_ok nmX2 rfl (by decide) mf_X2_33 rfl rfl hin2 rfl q0 he rfl rfl hlen hw hd kk
theorem gf_X2_37 (E : EE p c cc nL s args m RX2 D cI cB) (X : WD D A H0 H locs w) (q0 : Nat) {fs : List Value} {v : Value} (he : w[q0]? = some (a, .inr (4, fs))) (hv : fs[2]? = some v) (hd : decode cc pc = .ok (.getfield 37, 3)) (kk : W p l e R s m args below meth c H locs cells slots Q (F0 m (pc + 3) ls (v :: rest))) : W p l e R s m args below meth c H locs cells slots Q (F0 m pc ls (.ref a :: rest)) := r_get E X 2 inX2 rfl (by decide) mf_X2_37 rfl q0 he hv hd kk
theorem pf_X2_37 (E : EE p c cc nL s args m RX2 D cI cB) (X : WD D A H0 H locs w) (hin2 : meth.name = "<init>") (q0 : Nat) {fs : List Value} {x : Nat} {w' : va_W} (he : w[q0]? = some (a, .inr (4, fs))) (hlen : 2 < fs.length) (hw : w.set q0 (a, .inr (4, fs.set 2 (.ref x))) = w') (hd : decode cc pc = .ok (.putfield 37, 3)) (kk : ∀ (H1 : Heap) (locs1 : List Loc), WD D A H0 H1 locs1 w' → W p l e R s m args below meth c H1 locs1 cells slots Q (F0 m (pc + 3) ls rest)) : W p l e R s m args below meth c H locs cells slots Q (F0 m pc ls ((.ref x) :: .ref a :: rest)) := r_putF E X 2 inX2 tyX2_ok nmX2 rfl (by decide) mf_X2_37 rfl rfl hin2 rfl q0 he rfl rfl hlen hw hd kk
theorem gf_X2_48 (E : EE p c cc nL s args m RX2 D cI cB) (X : WD D A H0 H locs w) (q0 : Nat) {fs : List Value} {v : Value} (he : w[q0]? = some (a, .inr (4, fs))) (hv : fs[6]? = some v) (hd : decode cc pc = .ok (.getfield 48, 3)) (kk : W p l e R s m args below meth c H locs cells slots Q (F0 m (pc + 3) ls (v :: rest))) : W p l e R s m args below meth c H locs cells slots Q (F0 m pc ls (.ref a :: rest)) := r_get E X 6 inX2 rfl (by decide) mf_X2_48 rfl q0 he hv hd kk
theorem pf_X2_48 (E : EE p c cc nL s args m RX2 D cI cB) (X : WD D A H0 H locs w) (q0 : Nat) {fs : List Value} {x : Int32} {w' : va_W} (he : w[q0]? = some (a, .inr (4, fs))) (hb : narrow .boolean (.int x) = .int x) (hb2 : fits .boolean (.int x) = true) (hlen : 6 < fs.length) (hw : w.set q0 (a, .inr (4, fs.set 6 (.int x))) = w') (hd : decode cc pc = .ok (.putfield 48, 3)) (kk : ∀ (H1 : Heap) (locs1 : List Loc), WD D A H0 H1 locs1 w' → W p l e R s m args below meth c H1 locs1 cells slots Q (F0 m (pc + 3) ls rest)) : W p l e R s m args below meth c H locs cells slots Q (F0 m pc ls ((.int x) :: .ref a :: rest)) := r_put E X 6 inX2 tyX2_ok nmX2 rfl (by decide) mf_X2_48 rfl rfl q0 he hb hb2 hlen hw hd kk
theorem gf_X2_52 (E : EE p c cc nL s args m RX2 D cI cB) (X : WD D A H0 H locs w) (q0 : Nat) {fs : List Value} {v : Value} (he : w[q0]? = some (a, .inr (4, fs))) (hv : fs[7]? = some v) (hd : decode cc pc = .ok (.getfield 52, 3)) (kk : W p l e R s m args below meth c H locs cells slots Q (F0 m (pc + 3) ls (v :: rest))) : W p l e R s m args below meth c H locs cells slots Q (F0 m pc ls (.ref a :: rest)) := r_get E X 7 inX2 rfl (by decide) mf_X2_52 rfl q0 he hv hd kk
theorem pf_X2_52 (E : EE p c cc nL s args m RX2 D cI cB) (X : WD D A H0 H locs w) (q0 : Nat) {fs : List Value} {x : Int32} {w' : va_W} (he : w[q0]? = some (a, .inr (4, fs))) (hlen : 7 < fs.length) (hw : w.set q0 (a, .inr (4, fs.set 7 (.int x))) = w') (hd : decode cc pc = .ok (.putfield 52, 3)) (kk : ∀ (H1 : Heap) (locs1 : List Loc), WD D A H0 H1 locs1 w' → W p l e R s m args below meth c H1 locs1 cells slots Q (F0 m (pc + 3) ls rest)) : W p l e R s m args below meth c H locs cells slots Q (F0 m pc ls ((.int x) :: .ref a :: rest)) := r_put E X 7 inX2 tyX2_ok nmX2 rfl (by decide) mf_X2_52 rfl rfl q0 he (vp_nar_int x) rfl hlen hw hd kk
theorem gf_X2_56 (E : EE p c cc nL s args m RX2 D cI cB) (X : WD D A H0 H locs w) (q0 : Nat) {fs : List Value} {v : Value} (he : w[q0]? = some (a, .inr (4, fs))) (hv : fs[12]? = some v) (hd : decode cc pc = .ok (.getfield 56, 3)) (kk : W p l e R s m args below meth c H locs cells slots Q (F0 m (pc + 3) ls (v :: rest))) : W p l e R s m args below meth c H locs cells slots Q (F0 m pc ls (.ref a :: rest)) := r_get E X 12 inX2 rfl (by decide) mf_X2_56 rfl q0 he hv hd kk
theorem pf_X2_56 (E : EE p c cc nL s args m RX2 D cI cB) (X : WD D A H0 H locs w) (q0 : Nat) {fs : List Value} {x : Int32} {w' : va_W} (he : w[q0]? = some (a, .inr (4, fs))) (hlen : 12 < fs.length) (hw : w.set q0 (a, .inr (4, fs.set 12 (.int x))) = w') (hd : decode cc pc = .ok (.putfield 56, 3)) (kk : ∀ (H1 : Heap) (locs1 : List Loc), WD D A H0 H1 locs1 w' → W p l e R s m args below meth c H1 locs1 cells slots Q (F0 m (pc + 3) ls rest)) : W p l e R s m args below meth c H locs cells slots Q (F0 m pc ls ((.int x) :: .ref a :: rest)) := r_put E X 12 inX2 tyX2_ok nmX2 rfl (by decide) mf_X2_56 rfl rfl q0 he (vp_nar_int x) rfl hlen hw hd kk
theorem gf_X2_59 (E : EE p c cc nL s args m RX2 D cI cB) (X : WD D A H0 H locs w) (q0 : Nat) {fs : List Value} {v : Value} (he : w[q0]? = some (a, .inr (4, fs))) (hv : fs[13]? = some v) (hd : decode cc pc = .ok (.getfield 59, 3)) (kk : W p l e R s m args below meth c H locs cells slots Q (F0 m (pc + 3) ls (v :: rest))) : W p l e R s m args below meth c H locs cells slots Q (F0 m pc ls (.ref a :: rest)) := r_get E X 13 inX2 rfl (by decide) mf_X2_59 rfl q0 he hv hd kk
theorem pf_X2_59 (E : EE p c cc nL s args m RX2 D cI cB) (X : WD D A H0 H locs w) (q0 : Nat) {fs : List Value} {x : Int32} {w' : va_W} (he : w[q0]? = some (a, .inr (4, fs))) (hlen : 13 < fs.length) (hw : w.set q0 (a, .inr (4, fs.set 13 (.int x))) = w') (hd : decode cc pc = .ok (.putfield 59, 3)) (kk : ∀ (H1 : Heap) (locs1 : List Loc), WD D A H0 H1 locs1 w' → W p l e R s m args below meth c H1 locs1 cells slots Q (F0 m (pc + 3) ls rest)) : W p l e R s m args below meth c H locs cells slots Q (F0 m pc ls ((.int x) :: .ref a :: rest)) := r_put E X 13 inX2 tyX2_ok nmX2 rfl (by decide) mf_X2_59 rfl rfl q0 he (vp_nar_int x) rfl hlen hw hd kk
theorem gf_X2_62 (E : EE p c cc nL s args m RX2 D cI cB) (X : WD D A H0 H locs w) (q0 : Nat) {fs : List Value} {v : Value} (he : w[q0]? = some (a, .inr (4, fs))) (hv : fs[14]? = some v) (hd : decode cc pc = .ok (.getfield 62, 3)) (kk : W p l e R s m args below meth c H locs cells slots Q (F0 m (pc + 3) ls (v :: rest))) : W p l e R s m args below meth c H locs cells slots Q (F0 m pc ls (.ref a :: rest)) := r_get E X 14 inX2 rfl (by decide) mf_X2_62 rfl q0 he hv hd kk
theorem pf_X2_62 (E : EE p c cc nL s args m RX2 D cI cB) (X : WD D A H0 H locs w) (q0 : Nat) {fs : List Value} {x : Int32} {w' : va_W} (he : w[q0]? = some (a, .inr (4, fs))) (hlen : 14 < fs.length) (hw : w.set q0 (a, .inr (4, fs.set 14 (.int x))) = w') (hd : decode cc pc = .ok (.putfield 62, 3)) (kk : ∀ (H1 : Heap) (locs1 : List Loc), WD D A H0 H1 locs1 w' → W p l e R s m args below meth c H1 locs1 cells slots Q (F0 m (pc + 3) ls rest)) : W p l e R s m args below meth c H locs cells slots Q (F0 m pc ls ((.int x) :: .ref a :: rest)) := r_put E X 14 inX2 tyX2_ok nmX2 rfl (by decide) mf_X2_62 rfl rfl q0 he (vp_nar_int x) rfl hlen hw hd kk
theorem gf_X2_65 (E : EE p c cc nL s args m RX2 D cI cB) (X : WD D A H0 H locs w) (q0 : Nat) {fs : List Value} {v : Value} (he : w[q0]? = some (a, .inr (4, fs))) (hv : fs[15]? = some v) (hd : decode cc pc = .ok (.getfield 65, 3)) (kk : W p l e R s m args below meth c H locs cells slots Q (F0 m (pc + 3) ls (v :: rest))) : W p l e R s m args below meth c H locs cells slots Q (F0 m pc ls (.ref a :: rest)) := r_get E X 15 inX2 rfl (by decide) mf_X2_65 rfl q0 he hv hd kk
theorem pf_X2_65 (E : EE p c cc nL s args m RX2 D cI cB) (X : WD D A H0 H locs w) (q0 : Nat) {fs : List Value} {x : Int32} {w' : va_W} (he : w[q0]? = some (a, .inr (4, fs))) (hlen : 15 < fs.length) (hw : w.set q0 (a, .inr (4, fs.set 15 (.int x))) = w') (hd : decode cc pc = .ok (.putfield 65, 3)) (kk : ∀ (H1 : Heap) (locs1 : List Loc), WD D A H0 H1 locs1 w' → W p l e R s m args below meth c H1 locs1 cells slots Q (F0 m (pc + 3) ls rest)) : W p l e R s m args below meth c H locs cells slots Q (F0 m pc ls ((.int x) :: .ref a :: rest)) := r_put E X 15 inX2 tyX2_ok nmX2 rfl (by decide) mf_X2_65 rfl rfl q0 he (vp_nar_int x) rfl hlen hw hd kk
theorem gf_X2_68 (E : EE p c cc nL s args m RX2 D cI cB) (X : WD D A H0 H locs w) (q0 : Nat) {fs : List Value} {v : Value} (he : w[q0]? = some (a, .inr (4, fs))) (hv : fs[16]? = some v) (hd : decode cc pc = .ok (.getfield 68, 3)) (kk : W p l e R s m args below meth c H locs cells slots Q (F0 m (pc + 3) ls (v :: rest))) : W p l e R s m args below meth c H locs cells slots Q (F0 m pc ls (.ref a :: rest)) := r_get E X 16 inX2 rfl (by decide) mf_X2_68 rfl q0 he hv hd kk
theorem pf_X2_68 (E : EE p c cc nL s args m RX2 D cI cB) (X : WD D A H0 H locs w) (q0 : Nat) {fs : List Value} {x : Int32} {w' : va_W} (he : w[q0]? = some (a, .inr (4, fs))) (hlen : 16 < fs.length) (hw : w.set q0 (a, .inr (4, fs.set 16 (.int x))) = w') (hd : decode cc pc = .ok (.putfield 68, 3)) (kk : ∀ (H1 : Heap) (locs1 : List Loc), WD D A H0 H1 locs1 w' → W p l e R s m args below meth c H1 locs1 cells slots Q (F0 m (pc + 3) ls rest)) : W p l e R s m args below meth c H locs cells slots Q (F0 m pc ls ((.int x) :: .ref a :: rest)) := r_put E X 16 inX2 tyX2_ok nmX2 rfl (by decide) mf_X2_68 rfl rfl q0 he (vp_nar_int x) rfl hlen hw hd kk
theorem gf_X2_71 (E : EE p c cc nL s args m RX2 D cI cB) (X : WD D A H0 H locs w) (q0 : Nat) {fs : List Value} {v : Value} (he : w[q0]? = some (a, .inr (4, fs))) (hv : fs[17]? = some v) (hd : decode cc pc = .ok (.getfield 71, 3)) (kk : W p l e R s m args below meth c H locs cells slots Q (F0 m (pc + 3) ls (v :: rest))) : W p l e R s m args below meth c H locs cells slots Q (F0 m pc ls (.ref a :: rest)) := r_get E X 17 inX2 rfl (by decide) mf_X2_71 rfl q0 he hv hd kk
theorem pf_X2_71 (E : EE p c cc nL s args m RX2 D cI cB) (X : WD D A H0 H locs w) (q0 : Nat) {fs : List Value} {x : Int32} {w' : va_W} (he : w[q0]? = some (a, .inr (4, fs))) (hlen : 17 < fs.length) (hw : w.set q0 (a, .inr (4, fs.set 17 (.int x))) = w') (hd : decode cc pc = .ok (.putfield 71, 3)) (kk : ∀ (H1 : Heap) (locs1 : List Loc), WD D A H0 H1 locs1 w' → W p l e R s m args below meth c H1 locs1 cells slots Q (F0 m (pc + 3) ls rest)) : W p l e R s m args below meth c H locs cells slots Q (F0 m pc ls ((.int x) :: .ref a :: rest)) := r_put E X 17 inX2 tyX2_ok nmX2 rfl (by decide) mf_X2_71 rfl rfl q0 he (vp_nar_int x) rfl hlen hw hd kk
theorem gf_X2_80 (E : EE p c cc nL s args m RX2 D cI cB) (X : WD D A H0 H locs w) (q0 : Nat) {fs : List Value} {v : Value} (he : w[q0]? = some (a, .inr (4, fs))) (hv : fs[9]? = some v) (hd : decode cc pc = .ok (.getfield 80, 3)) (kk : W p l e R s m args below meth c H locs cells slots Q (F0 m (pc + 3) ls (v :: rest))) : W p l e R s m args below meth c H locs cells slots Q (F0 m pc ls (.ref a :: rest)) := r_get E X 9 inX2 rfl (by decide) mf_X2_80 rfl q0 he hv hd kk
theorem pf_X2_80 (E : EE p c cc nL s args m RX2 D cI cB) (X : WD D A H0 H locs w) (q0 : Nat) {fs : List Value} {x : Int32} {w' : va_W} (he : w[q0]? = some (a, .inr (4, fs))) (hlen : 9 < fs.length) (hw : w.set q0 (a, .inr (4, fs.set 9 (.int x))) = w') (hd : decode cc pc = .ok (.putfield 80, 3)) (kk : ∀ (H1 : Heap) (locs1 : List Loc), WD D A H0 H1 locs1 w' → W p l e R s m args below meth c H1 locs1 cells slots Q (F0 m (pc + 3) ls rest)) : W p l e R s m args below meth c H locs cells slots Q (F0 m pc ls ((.int x) :: .ref a :: rest)) := r_put E X 9 inX2 tyX2_ok nmX2 rfl (by decide) mf_X2_80 rfl rfl q0 he (vp_nar_int x) rfl hlen hw hd kk
theorem gf_X2_83 (E : EE p c cc nL s args m RX2 D cI cB) (X : WD D A H0 H locs w) (q0 : Nat) {fs : List Value} {v : Value} (he : w[q0]? = some (a, .inr (4, fs))) (hv : fs[11]? = some v) (hd : decode cc pc = .ok (.getfield 83, 3)) (kk : W p l e R s m args below meth c H locs cells slots Q (F0 m (pc + 3) ls (v :: rest))) : W p l e R s m args below meth c H locs cells slots Q (F0 m pc ls (.ref a :: rest)) := r_get E X 11 inX2 rfl (by decide) mf_X2_83 rfl q0 he hv hd kk
theorem pf_X2_83 (E : EE p c cc nL s args m RX2 D cI cB) (X : WD D A H0 H locs w) (q0 : Nat) {fs : List Value} {x : Int32} {w' : va_W} (he : w[q0]? = some (a, .inr (4, fs))) (hlen : 11 < fs.length) (hw : w.set q0 (a, .inr (4, fs.set 11 (.int x))) = w') (hd : decode cc pc = .ok (.putfield 83, 3)) (kk : ∀ (H1 : Heap) (locs1 : List Loc), WD D A H0 H1 locs1 w' → W p l e R s m args below meth c H1 locs1 cells slots Q (F0 m (pc + 3) ls rest)) : W p l e R s m args below meth c H locs cells slots Q (F0 m pc ls ((.int x) :: .ref a :: rest)) := r_put E X 11 inX2 tyX2_ok nmX2 rfl (by decide) mf_X2_83 rfl rfl q0 he (vp_nar_int x) rfl hlen hw hd kk
theorem gf_X2_86 (E : EE p c cc nL s args m RX2 D cI cB) (X : WD D A H0 H locs w) (q0 : Nat) {fs : List Value} {v : Value} (he : w[q0]? = some (a, .inr (7, fs))) (hv : fs[3]? = some v) (hd : decode cc pc = .ok (.getfield 86, 3)) (kk : W p l e R s m args below meth c H locs cells slots Q (F0 m (pc + 3) ls (v :: rest))) : W p l e R s m args below meth c H locs cells slots Q (F0 m pc ls (.ref a :: rest)) := r_get E X 3 inX5 rfl (by decide) mf_X2_86 rfl q0 he hv hd kk
theorem gf_X2_91 (E : EE p c cc nL s args m RX2 D cI cB) (X : WD D A H0 H locs w) (q0 : Nat) {fs : List Value} {v : Value} (he : w[q0]? = some (a, .inr (4, fs))) (hv : fs[8]? = some v) (hd : decode cc pc = .ok (.getfield 91, 3)) (kk : W p l e R s m args below meth c H locs cells slots Q (F0 m (pc + 3) ls (v :: rest))) : W p l e R s m args below meth c H locs cells slots Q (F0 m pc ls (.ref a :: rest)) := r_get E X 8 inX2 rfl (by decide) mf_X2_91 rfl q0 he hv hd kk
theorem pf_X2_91 (E : EE p c cc nL s args m RX2 D cI cB) (X : WD D A H0 H locs w) (q0 : Nat) {fs : List Value} {x : Int32} {w' : va_W} (he : w[q0]? = some (a, .inr (4, fs))) (hlen : 8 < fs.length) (hw : w.set q0 (a, .inr (4, fs.set 8 (.int x))) = w') (hd : decode cc pc = .ok (.putfield 91, 3)) (kk : ∀ (H1 : Heap) (locs1 : List Loc), WD D A H0 H1 locs1 w' → W p l e R s m args below meth c H1 locs1 cells slots Q (F0 m (pc + 3) ls rest)) : W p l e R s m args below meth c H locs cells slots Q (F0 m pc ls ((.int x) :: .ref a :: rest)) := r_put E X 8 inX2 tyX2_ok nmX2 rfl (by decide) mf_X2_91 rfl rfl q0 he (vp_nar_int x) rfl hlen hw hd kk
theorem gf_X2_94 (E : EE p c cc nL s args m RX2 D cI cB) (X : WD D A H0 H locs w) (q0 : Nat) {fs : List Value} {v : Value} (he : w[q0]? = some (a, .inr (4, fs))) (hv : fs[10]? = some v) (hd : decode cc pc = .ok (.getfield 94, 3)) (kk : W p l e R s m args below meth c H locs cells slots Q (F0 m (pc + 3) ls (v :: rest))) : W p l e R s m args below meth c H locs cells slots Q (F0 m pc ls (.ref a :: rest)) := r_get E X 10 inX2 rfl (by decide) mf_X2_94 rfl q0 he hv hd kk
theorem pf_X2_94 (E : EE p c cc nL s args m RX2 D cI cB) (X : WD D A H0 H locs w) (q0 : Nat) {fs : List Value} {x : Int32} {w' : va_W} (he : w[q0]? = some (a, .inr (4, fs))) (hlen : 10 < fs.length) (hw : w.set q0 (a, .inr (4, fs.set 10 (.int x))) = w') (hd : decode cc pc = .ok (.putfield 94, 3)) (kk : ∀ (H1 : Heap) (locs1 : List Loc), WD D A H0 H1 locs1 w' → W p l e R s m args below meth c H1 locs1 cells slots Q (F0 m (pc + 3) ls rest)) : W p l e R s m args below meth c H locs cells slots Q (F0 m pc ls ((.int x) :: .ref a :: rest)) := r_put E X 10 inX2 tyX2_ok nmX2 rfl (by decide) mf_X2_94 rfl rfl q0 he (vp_nar_int x) rfl hlen hw hd kk
theorem gf_X2_117 (E : EE p c cc nL s args m RX2 D cI cB) (X : WD D A H0 H locs w) (q0 : Nat) {fs : List Value} {v : Value} (he : w[q0]? = some (a, .inr (3, fs))) (hv : fs[0]? = some v) (hd : decode cc pc = .ok (.getfield 117, 3)) (kk : W p l e R s m args below meth c H locs cells slots Q (F0 m (pc + 3) ls (v :: rest))) : W p l e R s m args below meth c H locs cells slots Q (F0 m pc ls (.ref a :: rest)) := r_get E X 0 inX1 rfl (by decide) mf_X2_117 rfl q0 he hv hd kk
theorem gf_X2_138 (E : EE p c cc nL s args m RX2 D cI cB) (X : WD D A H0 H locs w) (q0 : Nat) {fs : List Value} {v : Value} (he : w[q0]? = some (a, .inr (7, fs))) (hv : fs[2]? = some v) (hd : decode cc pc = .ok (.getfield 138, 3)) (kk : W p l e R s m args below meth c H locs cells slots Q (F0 m (pc + 3) ls (v :: rest))) : W p l e R s m args below meth c H locs cells slots Q (F0 m pc ls (.ref a :: rest)) := r_get E X 2 inX5 rfl (by decide) mf_X2_138 rfl q0 he hv hd kk
theorem gf_X2_144 (E : EE p c cc nL s args m RX2 D cI cB) (X : WD D A H0 H locs w) (q0 : Nat) {fs : List Value} {v : Value} (he : w[q0]? = some (a, .inr (5, fs))) (hv : fs[0]? = some v) (hd : decode cc pc = .ok (.getfield 144, 3)) (kk : W p l e R s m args below meth c H locs cells slots Q (F0 m (pc + 3) ls (v :: rest))) : W p l e R s m args below meth c H locs cells slots Q (F0 m pc ls (.ref a :: rest)) := r_get E X 0 inX3 rfl (by decide) mf_X2_144 rfl q0 he hv hd kk
theorem gf_X2_149 (E : EE p c cc nL s args m RX2 D cI cB) (X : WD D A H0 H locs w) (q0 : Nat) {fs : List Value} {v : Value} (he : w[q0]? = some (a, .inr (3, fs))) (hv : fs[1]? = some v) (hd : decode cc pc = .ok (.getfield 149, 3)) (kk : W p l e R s m args below meth c H locs cells slots Q (F0 m (pc + 3) ls (v :: rest))) : W p l e R s m args below meth c H locs cells slots Q (F0 m pc ls (.ref a :: rest)) := r_get E X 1 inX1 rfl (by decide) mf_X2_149 rfl q0 he hv hd kk
theorem gf_X2_168 (E : EE p c cc nL s args m RX2 D cI cB) (X : WD D A H0 H locs w) (q0 : Nat) {fs : List Value} {v : Value} (he : w[q0]? = some (a, .inr (5, fs))) (hv : fs[1]? = some v) (hd : decode cc pc = .ok (.getfield 168, 3)) (kk : W p l e R s m args below meth c H locs cells slots Q (F0 m (pc + 3) ls (v :: rest))) : W p l e R s m args below meth c H locs cells slots Q (F0 m pc ls (.ref a :: rest)) := r_get E X 1 inX3 rfl (by decide) mf_X2_168 rfl q0 he hv hd kk
theorem gf_X2_171 (E : EE p c cc nL s args m RX2 D cI cB) (X : WD D A H0 H locs w) (q0 : Nat) {fs : List Value} {v : Value} (he : w[q0]? = some (a, .inr (7, fs))) (hv : fs[4]? = some v) (hd : decode cc pc = .ok (.getfield 171, 3)) (kk : W p l e R s m args below meth c H locs cells slots Q (F0 m (pc + 3) ls (v :: rest))) : W p l e R s m args below meth c H locs cells slots Q (F0 m pc ls (.ref a :: rest)) := r_get E X 4 inX5 rfl (by decide) mf_X2_171 rfl q0 he hv hd kk
theorem gf_X2_191 (E : EE p c cc nL s args m RX2 D cI cB) (X : WD D A H0 H locs w) (q0 : Nat) {fs : List Value} {v : Value} (he : w[q0]? = some (a, .inr (5, fs))) (hv : fs[2]? = some v) (hd : decode cc pc = .ok (.getfield 191, 3)) (kk : W p l e R s m args below meth c H locs cells slots Q (F0 m (pc + 3) ls (v :: rest))) : W p l e R s m args below meth c H locs cells slots Q (F0 m pc ls (.ref a :: rest)) := r_get E X 2 inX3 rfl (by decide) mf_X2_191 rfl q0 he hv hd kk
theorem gf_X2_197 (E : EE p c cc nL s args m RX2 D cI cB) (X : WD D A H0 H locs w) (q0 : Nat) {fs : List Value} {v : Value} (he : w[q0]? = some (a, .inr (5, fs))) (hv : fs[3]? = some v) (hd : decode cc pc = .ok (.getfield 197, 3)) (kk : W p l e R s m args below meth c H locs cells slots Q (F0 m (pc + 3) ls (v :: rest))) : W p l e R s m args below meth c H locs cells slots Q (F0 m pc ls (.ref a :: rest)) := r_get E X 3 inX3 rfl (by decide) mf_X2_197 rfl q0 he hv hd kk
theorem gf_X2_200 (E : EE p c cc nL s args m RX2 D cI cB) (X : WD D A H0 H locs w) (q0 : Nat) {fs : List Value} {v : Value} (he : w[q0]? = some (a, .inr (5, fs))) (hv : fs[4]? = some v) (hd : decode cc pc = .ok (.getfield 200, 3)) (kk : W p l e R s m args below meth c H locs cells slots Q (F0 m (pc + 3) ls (v :: rest))) : W p l e R s m args below meth c H locs cells slots Q (F0 m pc ls (.ref a :: rest)) := r_get E X 4 inX3 rfl (by decide) mf_X2_200 rfl q0 he hv hd kk
theorem gf_X3_7 (E : EE p c cc nL s args m RX3 D cI cB) (X : WD D A H0 H locs w) (q0 : Nat) {fs : List Value} {v : Value} (he : w[q0]? = some (a, .inr (5, fs))) (hv : fs[0]? = some v) (hd : decode cc pc = .ok (.getfield 7, 3)) (kk : W p l e R s m args below meth c H locs cells slots Q (F0 m (pc + 3) ls (v :: rest))) : W p l e R s m args below meth c H locs cells slots Q (F0 m pc ls (.ref a :: rest)) := r_get E X 0 inX3 rfl (by decide) mf_X3_7 rfl q0 he hv hd kk
theorem pf_X3_7 (E : EE p c cc nL s args m RX3 D cI cB) (X : WD D A H0 H locs w) (q0 : Nat) {fs : List Value} {x : Int32} {w' : va_W} (he : w[q0]? = some (a, .inr (5, fs))) (hlen : 0 < fs.length) (hw : w.set q0 (a, .inr (5, fs.set 0 (.int x))) = w') (hd : decode cc pc = .ok (.putfield 7, 3)) (kk : ∀ (H1 : Heap) (locs1 : List Loc), WD D A H0 H1 locs1 w' → W p l e R s m args below meth c H1 locs1 cells slots Q (F0 m (pc + 3) ls rest)) : W p l e R s m args below meth c H locs cells slots Q (F0 m pc ls ((.int x) :: .ref a :: rest)) := r_put E X 0 inX3 tyX3_ok nmX3 rfl (by decide) mf_X3_7 rfl rfl q0 he (vp_nar_int x) rfl hlen hw hd kk
theorem gf_X3_13 (E : EE p c cc nL s args m RX3 D cI cB) (X : WD D A H0 H locs w) (q0 : Nat) {fs : List Value} {v : Value} (he : w[q0]? = some (a, .inr (5, fs))) (hv : fs[1]? = some v) (hd : decode cc pc = .ok (.getfield 13, 3)) (kk : W p l e R s m args below meth c H locs cells slots Q (F0 m (pc + 3) ls (v :: rest))) : W p l e R s m args below meth c H locs cells slots Q (F0 m pc ls (.ref a :: rest)) := r_get E X 1 inX3 rfl (by decide) mf_X3_13 rfl q0 he hv hd kk
theorem pf_X3_13 (E : EE p c cc nL s args m RX3 D cI cB) (X : WD D A H0 H locs w) (q0 : Nat) {fs : List Value} {x : Int32} {w' : va_W} (he : w[q0]? = some (a, .inr (5, fs))) (hlen : 1 < fs.length) (hw : w.set q0 (a, .inr (5, fs.set 1 (.int x))) = w') (hd : decode cc pc = .ok (.putfield 13, 3)) (kk : ∀ (H1 : Heap) (locs1 : List Loc), WD D A H0 H1 locs1 w' → W p l e R s m args below meth c H1 locs1 cells slots Q (F0 m (pc + 3) ls rest)) : W p l e R s m args below meth c H locs cells slots Q (F0 m pc ls ((.int x) :: .ref a :: rest)) := r_put E X 1 inX3 tyX3_ok nmX3 rfl (by decide) mf_X3_13 rfl rfl q0 he (vp_nar_int x) rfl hlen hw hd kk
theorem gf_X3_16 (E : EE p c cc nL s args m RX3 D cI cB) (X : WD D A H0 H locs w) (q0 : Nat) {fs : List Value} {v : Value} (he : w[q0]? = some (a, .inr (5, fs))) (hv : fs[2]? = some v) (hd : decode cc pc = .ok (.getfield 16, 3)) (kk : W p l e R s m args below meth c H locs cells slots Q (F0 m (pc + 3) ls (v :: rest))) : W p l e R s m args below meth c H locs cells slots Q (F0 m pc ls (.ref a :: rest)) := r_get E X 2 inX3 rfl (by decide) mf_X3_16 rfl q0 he hv hd kk
theorem pf_X3_16 (E : EE p c cc nL s args m RX3 D cI cB) (X : WD D A H0 H locs w) (q0 : Nat) {fs : List Value} {x : Int32} {w' : va_W} (he : w[q0]? = some (a, .inr (5, fs))) (hlen : 2 < fs.length) (hw : w.set q0 (a, .inr (5, fs.set 2 (.int x))) = w') (hd : decode cc pc = .ok (.putfield 16, 3)) (kk : ∀ (H1 : Heap) (locs1 : List Loc), WD D A H0 H1 locs1 w' → W p l e R s m args below meth c H1 locs1 cells slots Q (F0 m (pc + 3) ls rest)) : W p l e R s m args below meth c H locs cells slots Q (F0 m pc ls ((.int x) :: .ref a :: rest)) := r_put E X 2 inX3 tyX3_ok nmX3 rfl (by decide) mf_X3_16 rfl rfl q0 he (vp_nar_int x) rfl hlen hw hd kk
theorem gf_X3_19 (E : EE p c cc nL s args m RX3 D cI cB) (X : WD D A H0 H locs w) (q0 : Nat) {fs : List Value} {v : Value} (he : w[q0]? = some (a, .inr (5, fs))) (hv : fs[3]? = some v) (hd : decode cc pc = .ok (.getfield 19, 3)) (kk : W p l e R s m args below meth c H locs cells slots Q (F0 m (pc + 3) ls (v :: rest))) : W p l e R s m args below meth c H locs cells slots Q (F0 m pc ls (.ref a :: rest)) := r_get E X 3 inX3 rfl (by decide) mf_X3_19 rfl q0 he hv hd kk
theorem pf_X3_19 (E : EE p c cc nL s args m RX3 D cI cB) (X : WD D A H0 H locs w) (q0 : Nat) {fs : List Value} {x : Int32} {w' : va_W} (he : w[q0]? = some (a, .inr (5, fs))) (hlen : 3 < fs.length) (hw : w.set q0 (a, .inr (5, fs.set 3 (.int x))) = w') (hd : decode cc pc = .ok (.putfield 19, 3)) (kk : ∀ (H1 : Heap) (locs1 : List Loc), WD D A H0 H1 locs1 w' → W p l e R s m args below meth c H1 locs1 cells slots Q (F0 m (pc + 3) ls rest)) : W p l e R s m args below meth c H locs cells slots Q (F0 m pc ls ((.int x) :: .ref a :: rest)) := r_put E X 3 inX3 tyX3_ok nmX3 rfl (by decide) mf_X3_19 rfl rfl q0 he (vp_nar_int x) rfl hlen hw hd kk
theorem gf_X3_22 (E : EE p c cc nL s args m RX3 D cI cB) (X : WD D A H0 H locs w) (q0 : Nat) {fs : List Value} {v : Value} (he : w[q0]? = some (a, .inr (5, fs))) (hv : fs[4]? = some v) (hd : decode cc pc = .ok (.getfield 22, 3)) (kk : W p l e R s m args below meth c H locs cells slots Q (F0 m (pc + 3) ls (v :: rest))) : W p l e R s m args below meth c H locs cells slots Q (F0 m pc ls (.ref a :: rest)) := r_get E X 4 inX3 rfl (by decide) mf_X3_22 rfl q0 he hv hd kk
theorem pf_X3_22 (E : EE p c cc nL s args m RX3 D cI cB) (X : WD D A H0 H locs w) (q0 : Nat) {fs : List Value} {x : Int32} {w' : va_W} (he : w[q0]? = some (a, .inr (5, fs))) (hlen : 4 < fs.length) (hw : w.set q0 (a, .inr (5, fs.set 4 (.int x))) = w') (hd : decode cc pc = .ok (.putfield 22, 3)) (kk : ∀ (H1 : Heap) (locs1 : List Loc), WD D A H0 H1 locs1 w' → W p l e R s m args below meth c H1 locs1 cells slots Q (F0 m (pc + 3) ls rest)) : W p l e R s m args below meth c H locs cells slots Q (F0 m pc ls ((.int x) :: .ref a :: rest)) := r_put E X 4 inX3 tyX3_ok nmX3 rfl (by decide) mf_X3_22 rfl rfl q0 he (vp_nar_int x) rfl hlen hw hd kk
theorem gf_X4_9 (E : EE p c cc nL s args m RX4 D cI cB) (X : WD D A H0 H locs w) (q0 : Nat) {fs : List Value} {v : Value} (he : w[q0]? = some (a, .inr (6, fs))) (hv : fs[0]? = some v) (hd : decode cc pc = .ok (.getfield 9, 3)) (kk : W p l e R s m args below meth c H locs cells slots Q (F0 m (pc + 3) ls (v :: rest))) : W p l e R s m args below meth c H locs cells slots Q (F0 m pc ls (.ref a :: rest)) := r_get E X 0 inX4 rfl (by decide) mf_X4_9 rfl q0 he hv hd kk
theorem pf_X4_9 (E : EE p c cc nL s args m RX4 D cI cB) (X : WD D A H0 H locs w) (hin2 : meth.name = "<init>") (q0 : Nat) {fs : List Value} {x : Nat} {w' : va_W} (he : w[q0]? = some (a, .inr (6, fs))) (hlen : 0 < fs.length) (hw : w.set q0 (a, .inr (6, fs.set 0 (.ref x))) = w') (hd : decode cc pc = .ok (.putfield 9, 3)) (kk : ∀ (H1 : Heap) (locs1 : List Loc), WD D A H0 H1 locs1 w' → W p l e R s m args below meth c H1 locs1 cells slots Q (F0 m (pc + 3) ls rest)) : W p l e R s m args below meth c H locs cells slots Q (F0 m pc ls ((.ref x) :: .ref a :: rest)) := r_putF E X 0 inX4 tyX4_ok nmX4 rfl (by decide) mf_X4_9 rfl rfl hin2 rfl q0 he rfl rfl hlen hw hd kk
theorem gf_X4_15 (E : EE p c cc nL s args m RX4 D cI cB) (X : WD D A H0 H locs w) (q0 : Nat) {fs : List Value} {v : Value} (he : w[q0]? = some (a, .inr (6, fs))) (hv : fs[1]? = some v) (hd : decode cc pc = .ok (.getfield 15, 3)) (kk : W p l e R s m args below meth c H locs cells slots Q (F0 m (pc + 3) ls (v :: rest))) : W p l e R s m args below meth c H locs cells slots Q (F0 m pc ls (.ref a :: rest)) := r_get E X 1 inX4 rfl (by decide) mf_X4_15 rfl q0 he hv hd kk
theorem pf_X4_15 (E : EE p c cc nL s args m RX4 D cI cB) (X : WD D A H0 H locs w) (q0 : Nat) {fs : List Value} {x : Int32} {w' : va_W} (he : w[q0]? = some (a, .inr (6, fs))) (hlen : 1 < fs.length) (hw : w.set q0 (a, .inr (6, fs.set 1 (.int x))) = w') (hd : decode cc pc = .ok (.putfield 15, 3)) (kk : ∀ (H1 : Heap) (locs1 : List Loc), WD D A H0 H1 locs1 w' → W p l e R s m args below meth c H1 locs1 cells slots Q (F0 m (pc + 3) ls rest)) : W p l e R s m args below meth c H locs cells slots Q (F0 m pc ls ((.int x) :: .ref a :: rest)) := r_put E X 1 inX4 tyX4_ok nmX4 rfl (by decide) mf_X4_15 rfl rfl q0 he (vp_nar_int x) rfl hlen hw hd kk
theorem gf_X5_9 (E : EE p c cc nL s args m RX5 D cI cB) (X : WD D A H0 H locs w) (q0 : Nat) {fs : List Value} {v : Value} (he : w[q0]? = some (a, .inr (7, fs))) (hv : fs[0]? = some v) (hd : decode cc pc = .ok (.getfield 9, 3)) (kk : W p l e R s m args below meth c H locs cells slots Q (F0 m (pc + 3) ls (v :: rest))) : W p l e R s m args below meth c H locs cells slots Q (F0 m pc ls (.ref a :: rest)) := r_get E X 0 inX5 rfl (by decide) mf_X5_9 rfl q0 he hv hd kk
theorem pf_X5_9 (E : EE p c cc nL s args m RX5 D cI cB) (X : WD D A H0 H locs w) (hin2 : meth.name = "<init>") (q0 : Nat) {fs : List Value} {x : Nat} {w' : va_W} (he : w[q0]? = some (a, .inr (7, fs))) (hlen : 0 < fs.length) (hw : w.set q0 (a, .inr (7, fs.set 0 (.ref x))) = w') (hd : decode cc pc = .ok (.putfield 9, 3)) (kk : ∀ (H1 : Heap) (locs1 : List Loc), WD D A H0 H1 locs1 w' → W p l e R s m args below meth c H1 locs1 cells slots Q (F0 m (pc + 3) ls rest)) : W p l e R s m args below meth c H locs cells slots Q (F0 m pc ls ((.ref x) :: .ref a :: rest)) := r_putF E X 0 inX5 tyX5_ok nmX5 rfl (by decide) mf_X5_9 rfl rfl hin2 rfl q0 he rfl rfl hlen hw hd kk
theorem gf_X5_15 (E : EE p c cc nL s args m RX5 D cI cB) (X : WD D A H0 H locs w) (q0 : Nat) {fs : List Value} {v : Value} (he : w[q0]? = some (a, .inr (7, fs))) (hv : fs[1]? = some v) (hd : decode cc pc = .ok (.getfield 15, 3)) (kk : W p l e R s m args below meth c H locs cells slots Q (F0 m (pc + 3) ls (v :: rest))) : W p l e R s m args below meth c H locs cells slots Q (F0 m pc ls (.ref a :: rest)) := r_get E X 1 inX5 rfl (by decide) mf_X5_15 rfl q0 he hv hd kk
theorem pf_X5_15 (E : EE p c cc nL s args m RX5 D cI cB) (X : WD D A H0 H locs w) (hin2 : meth.name = "<init>") (q0 : Nat) {fs : List Value} {x : Nat} {w' : va_W} (he : w[q0]? = some (a, .inr (7, fs))) (hlen : 1 < fs.length) (hw : w.set q0 (a, .inr (7, fs.set 1 (.ref x))) = w') (hd : decode cc pc = .ok (.putfield 15, 3)) (kk : ∀ (H1 : Heap) (locs1 : List Loc), WD D A H0 H1 locs1 w' → W p l e R s m args below meth c H1 locs1 cells slots Q (F0 m (pc + 3) ls rest)) : W p l e R s m args below meth c H locs cells slots Q (F0 m pc ls ((.ref x) :: .ref a :: rest)) := r_putF E X 1 inX5 tyX5_ok nmX5 rfl (by decide) mf_X5_15 rfl rfl hin2 rfl q0 he rfl rfl hlen hw hd kk
theorem gf_X5_22 (E : EE p c cc nL s args m RX5 D cI cB) (X : WD D A H0 H locs w) (q0 : Nat) {fs : List Value} {v : Value} (he : w[q0]? = some (a, .inr (7, fs))) (hv : fs[2]? = some v) (hd : decode cc pc = .ok (.getfield 22, 3)) (kk : W p l e R s m args below meth c H locs cells slots Q (F0 m (pc + 3) ls (v :: rest))) : W p l e R s m args below meth c H locs cells slots Q (F0 m pc ls (.ref a :: rest)) := r_get E X 2 inX5 rfl (by decide) mf_X5_22 rfl q0 he hv hd kk
theorem pf_X5_22 (E : EE p c cc nL s args m RX5 D cI cB) (X : WD D A H0 H locs w) (q0 : Nat) {fs : List Value} {x : Int32} {w' : va_W} (he : w[q0]? = some (a, .inr (7, fs))) (hlen : 2 < fs.length) (hw : w.set q0 (a, .inr (7, fs.set 2 (.int x))) = w') (hd : decode cc pc = .ok (.putfield 22, 3)) (kk : ∀ (H1 : Heap) (locs1 : List Loc), WD D A H0 H1 locs1 w' → W p l e R s m args below meth c H1 locs1 cells slots Q (F0 m (pc + 3) ls rest)) : W p l e R s m args below meth c H locs cells slots Q (F0 m pc ls ((.int x) :: .ref a :: rest)) := r_put E X 2 inX5 tyX5_ok nmX5 rfl (by decide) mf_X5_22 rfl rfl q0 he (vp_nar_int x) rfl hlen hw hd kk
theorem gf_X5_26 (E : EE p c cc nL s args m RX5 D cI cB) (X : WD D A H0 H locs w) (q0 : Nat) {fs : List Value} {v : Value} (he : w[q0]? = some (a, .inr (7, fs))) (hv : fs[3]? = some v) (hd : decode cc pc = .ok (.getfield 26, 3)) (kk : W p l e R s m args below meth c H locs cells slots Q (F0 m (pc + 3) ls (v :: rest))) : W p l e R s m args below meth c H locs cells slots Q (F0 m pc ls (.ref a :: rest)) := r_get E X 3 inX5 rfl (by decide) mf_X5_26 rfl q0 he hv hd kk
theorem pf_X5_26 (E : EE p c cc nL s args m RX5 D cI cB) (X : WD D A H0 H locs w) (q0 : Nat) {fs : List Value} {x : Int32} {w' : va_W} (he : w[q0]? = some (a, .inr (7, fs))) (hlen : 3 < fs.length) (hw : w.set q0 (a, .inr (7, fs.set 3 (.int x))) = w') (hd : decode cc pc = .ok (.putfield 26, 3)) (kk : ∀ (H1 : Heap) (locs1 : List Loc), WD D A H0 H1 locs1 w' → W p l e R s m args below meth c H1 locs1 cells slots Q (F0 m (pc + 3) ls rest)) : W p l e R s m args below meth c H locs cells slots Q (F0 m pc ls ((.int x) :: .ref a :: rest)) := r_put E X 3 inX5 tyX5_ok nmX5 rfl (by decide) mf_X5_26 rfl rfl q0 he (vp_nar_int x) rfl hlen hw hd kk
theorem gf_X5_29 (E : EE p c cc nL s args m RX5 D cI cB) (X : WD D A H0 H locs w) (q0 : Nat) {fs : List Value} {v : Value} (he : w[q0]? = some (a, .inr (7, fs))) (hv : fs[4]? = some v) (hd : decode cc pc = .ok (.getfield 29, 3)) (kk : W p l e R s m args below meth c H locs cells slots Q (F0 m (pc + 3) ls (v :: rest))) : W p l e R s m args below meth c H locs cells slots Q (F0 m pc ls (.ref a :: rest)) := r_get E X 4 inX5 rfl (by decide) mf_X5_29 rfl q0 he hv hd kk
theorem pf_X5_29 (E : EE p c cc nL s args m RX5 D cI cB) (X : WD D A H0 H locs w) (q0 : Nat) {fs : List Value} {x : Int32} {w' : va_W} (he : w[q0]? = some (a, .inr (7, fs))) (hlen : 4 < fs.length) (hw : w.set q0 (a, .inr (7, fs.set 4 (.int x))) = w') (hd : decode cc pc = .ok (.putfield 29, 3)) (kk : ∀ (H1 : Heap) (locs1 : List Loc), WD D A H0 H1 locs1 w' → W p l e R s m args below meth c H1 locs1 cells slots Q (F0 m (pc + 3) ls rest)) : W p l e R s m args below meth c H locs cells slots Q (F0 m pc ls ((.int x) :: .ref a :: rest)) := r_put E X 4 inX5 tyX5_ok nmX5 rfl (by decide) mf_X5_29 rfl rfl q0 he (vp_nar_int x) rfl hlen hw hd kk
theorem gf_X6_12 (E : EE p c cc nL s args m RX6 D cI cB) (X : WD D A H0 H locs w) (q0 : Nat) {fs : List Value} {v : Value} (he : w[q0]? = some (a, .inr (8, fs))) (hv : fs[0]? = some v) (hd : decode cc pc = .ok (.getfield 12, 3)) (kk : W p l e R s m args below meth c H locs cells slots Q (F0 m (pc + 3) ls (v :: rest))) : W p l e R s m args below meth c H locs cells slots Q (F0 m pc ls (.ref a :: rest)) := r_get E X 0 inX6 rfl (by decide) mf_X6_12 rfl q0 he hv hd kk
theorem pf_X6_12 (E : EE p c cc nL s args m RX6 D cI cB) (X : WD D A H0 H locs w) (hin2 : meth.name = "<init>") (q0 : Nat) {fs : List Value} {x : Nat} {w' : va_W} (he : w[q0]? = some (a, .inr (8, fs))) (hlen : 0 < fs.length) (hw : w.set q0 (a, .inr (8, fs.set 0 (.ref x))) = w') (hd : decode cc pc = .ok (.putfield 12, 3)) (kk : ∀ (H1 : Heap) (locs1 : List Loc), WD D A H0 H1 locs1 w' → W p l e R s m args below meth c H1 locs1 cells slots Q (F0 m (pc + 3) ls rest)) : W p l e R s m args below meth c H locs cells slots Q (F0 m pc ls ((.ref x) :: .ref a :: rest)) := r_putF E X 0 inX6 tyX6_ok nmX6 rfl (by decide) mf_X6_12 rfl rfl hin2 rfl q0 he rfl rfl hlen hw hd kk
theorem gf_X6_19 (E : EE p c cc nL s args m RX6 D cI cB) (X : WD D A H0 H locs w) (q0 : Nat) {fs : List Value} {v : Value} (he : w[q0]? = some (a, .inr (8, fs))) (hv : fs[1]? = some v) (hd : decode cc pc = .ok (.getfield 19, 3)) (kk : W p l e R s m args below meth c H locs cells slots Q (F0 m (pc + 3) ls (v :: rest))) : W p l e R s m args below meth c H locs cells slots Q (F0 m pc ls (.ref a :: rest)) := r_get E X 1 inX6 rfl (by decide) mf_X6_19 rfl q0 he hv hd kk
theorem pf_X6_19 (E : EE p c cc nL s args m RX6 D cI cB) (X : WD D A H0 H locs w) (hin2 : meth.name = "<init>") (q0 : Nat) {fs : List Value} {x : Nat} {w' : va_W} (he : w[q0]? = some (a, .inr (8, fs))) (hlen : 1 < fs.length) (hw : w.set q0 (a, .inr (8, fs.set 1 (.ref x))) = w') (hd : decode cc pc = .ok (.putfield 19, 3)) (kk : ∀ (H1 : Heap) (locs1 : List Loc), WD D A H0 H1 locs1 w' → W p l e R s m args below meth c H1 locs1 cells slots Q (F0 m (pc + 3) ls rest)) : W p l e R s m args below meth c H locs cells slots Q (F0 m pc ls ((.ref x) :: .ref a :: rest)) := r_putF E X 1 inX6 tyX6_ok nmX6 rfl (by decide) mf_X6_19 rfl rfl hin2 rfl q0 he rfl rfl hlen hw hd kk
theorem gf_X6_26 (E : EE p c cc nL s args m RX6 D cI cB) (X : WD D A H0 H locs w) (q0 : Nat) {fs : List Value} {v : Value} (he : w[q0]? = some (a, .inr (8, fs))) (hv : fs[2]? = some v) (hd : decode cc pc = .ok (.getfield 26, 3)) (kk : W p l e R s m args below meth c H locs cells slots Q (F0 m (pc + 3) ls (v :: rest))) : W p l e R s m args below meth c H locs cells slots Q (F0 m pc ls (.ref a :: rest)) := r_get E X 2 inX6 rfl (by decide) mf_X6_26 rfl q0 he hv hd kk
theorem pf_X6_26 (E : EE p c cc nL s args m RX6 D cI cB) (X : WD D A H0 H locs w) (hin2 : meth.name = "<init>") (q0 : Nat) {fs : List Value} {x : Nat} {w' : va_W} (he : w[q0]? = some (a, .inr (8, fs))) (hlen : 2 < fs.length) (hw : w.set q0 (a, .inr (8, fs.set 2 (.ref x))) = w') (hd : decode cc pc = .ok (.putfield 26, 3)) (kk : ∀ (H1 : Heap) (locs1 : List Loc), WD D A H0 H1 locs1 w' → W p l e R s m args below meth c H1 locs1 cells slots Q (F0 m (pc + 3) ls rest)) : W p l e R s m args below meth c H locs cells slots Q (F0 m pc ls ((.ref x) :: .ref a :: rest)) := r_putF E X 2 inX6 tyX6_ok nmX6 rfl (by decide) mf_X6_26 rfl rfl hin2 rfl q0 he rfl rfl hlen hw hd kk
theorem gf_X6_35 (E : EE p c cc nL s args m RX6 D cI cB) (X : WD D A H0 H locs w) (q0 : Nat) {fs : List Value} {v : Value} (he : w[q0]? = some (a, .inr (8, fs))) (hv : fs[3]? = some v) (hd : decode cc pc = .ok (.getfield 35, 3)) (kk : W p l e R s m args below meth c H locs cells slots Q (F0 m (pc + 3) ls (v :: rest))) : W p l e R s m args below meth c H locs cells slots Q (F0 m pc ls (.ref a :: rest)) := r_get E X 3 inX6 rfl (by decide) mf_X6_35 rfl q0 he hv hd kk
theorem pf_X6_35 (E : EE p c cc nL s args m RX6 D cI cB) (X : WD D A H0 H locs w) (hin2 : meth.name = "<init>") (q0 : Nat) {fs : List Value} {x : Nat} {w' : va_W} (he : w[q0]? = some (a, .inr (8, fs))) (hlen : 3 < fs.length) (hw : w.set q0 (a, .inr (8, fs.set 3 (.ref x))) = w') (hd : decode cc pc = .ok (.putfield 35, 3)) (kk : ∀ (H1 : Heap) (locs1 : List Loc), WD D A H0 H1 locs1 w' → W p l e R s m args below meth c H1 locs1 cells slots Q (F0 m (pc + 3) ls rest)) : W p l e R s m args below meth c H locs cells slots Q (F0 m pc ls ((.ref x) :: .ref a :: rest)) := r_putF E X 3 inX6 tyX6_ok nmX6 rfl (by decide) mf_X6_35 rfl rfl hin2 rfl q0 he rfl rfl hlen hw hd kk
theorem gf_X6_39 (E : EE p c cc nL s args m RX6 D cI cB) (X : WD D A H0 H locs w) (q0 : Nat) {fs : List Value} {v : Value} (he : w[q0]? = some (a, .inr (8, fs))) (hv : fs[4]? = some v) (hd : decode cc pc = .ok (.getfield 39, 3)) (kk : W p l e R s m args below meth c H locs cells slots Q (F0 m (pc + 3) ls (v :: rest))) : W p l e R s m args below meth c H locs cells slots Q (F0 m pc ls (.ref a :: rest)) := r_get E X 4 inX6 rfl (by decide) mf_X6_39 rfl q0 he hv hd kk
theorem pf_X6_39 (E : EE p c cc nL s args m RX6 D cI cB) (X : WD D A H0 H locs w) (hin2 : meth.name = "<init>") (q0 : Nat) {fs : List Value} {x : Nat} {w' : va_W} (he : w[q0]? = some (a, .inr (8, fs))) (hlen : 4 < fs.length) (hw : w.set q0 (a, .inr (8, fs.set 4 (.ref x))) = w') (hd : decode cc pc = .ok (.putfield 39, 3)) (kk : ∀ (H1 : Heap) (locs1 : List Loc), WD D A H0 H1 locs1 w' → W p l e R s m args below meth c H1 locs1 cells slots Q (F0 m (pc + 3) ls rest)) : W p l e R s m args below meth c H locs cells slots Q (F0 m pc ls ((.ref x) :: .ref a :: rest)) := r_putF E X 4 inX6 tyX6_ok nmX6 rfl (by decide) mf_X6_39 rfl rfl hin2 rfl q0 he rfl rfl hlen hw hd kk
theorem gf_X6_45 (E : EE p c cc nL s args m RX6 D cI cB) (X : WD D A H0 H locs w) (q0 : Nat) {fs : List Value} {v : Value} (he : w[q0]? = some (a, .inr (8, fs))) (hv : fs[5]? = some v) (hd : decode cc pc = .ok (.getfield 45, 3)) (kk : W p l e R s m args below meth c H locs cells slots Q (F0 m (pc + 3) ls (v :: rest))) : W p l e R s m args below meth c H locs cells slots Q (F0 m pc ls (.ref a :: rest)) := r_get E X 5 inX6 rfl (by decide) mf_X6_45 rfl q0 he hv hd kk
theorem pf_X6_45 (E : EE p c cc nL s args m RX6 D cI cB) (X : WD D A H0 H locs w) (hin2 : meth.name = "<init>") (q0 : Nat) {fs : List Value} {x : Nat} {w' : va_W} (he : w[q0]? = some (a, .inr (8, fs))) (hlen : 5 < fs.length) (hw : w.set q0 (a, .inr (8, fs.set 5 (.ref x))) = w') (hd : decode cc pc = .ok (.putfield 45, 3)) (kk : ∀ (H1 : Heap) (locs1 : List Loc), WD D A H0 H1 locs1 w' → W p l e R s m args below meth c H1 locs1 cells slots Q (F0 m (pc + 3) ls rest)) : W p l e R s m args below meth c H locs cells slots Q (F0 m pc ls ((.ref x) :: .ref a :: rest)) := r_putF E X 5 inX6 tyX6_ok nmX6 rfl (by decide) mf_X6_45 rfl rfl hin2 rfl q0 he rfl rfl hlen hw hd kk
theorem gf_X6_49 (E : EE p c cc nL s args m RX6 D cI cB) (X : WD D A H0 H locs w) (q0 : Nat) {fs : List Value} {v : Value} (he : w[q0]? = some (a, .inr (8, fs))) (hv : fs[6]? = some v) (hd : decode cc pc = .ok (.getfield 49, 3)) (kk : W p l e R s m args below meth c H locs cells slots Q (F0 m (pc + 3) ls (v :: rest))) : W p l e R s m args below meth c H locs cells slots Q (F0 m pc ls (.ref a :: rest)) := r_get E X 6 inX6 rfl (by decide) mf_X6_49 rfl q0 he hv hd kk
theorem pf_X6_49 (E : EE p c cc nL s args m RX6 D cI cB) (X : WD D A H0 H locs w) (q0 : Nat) {fs : List Value} {x : Int32} {w' : va_W} (he : w[q0]? = some (a, .inr (8, fs))) (hlen : 6 < fs.length) (hw : w.set q0 (a, .inr (8, fs.set 6 (.int x))) = w') (hd : decode cc pc = .ok (.putfield 49, 3)) (kk : ∀ (H1 : Heap) (locs1 : List Loc), WD D A H0 H1 locs1 w' → W p l e R s m args below meth c H1 locs1 cells slots Q (F0 m (pc + 3) ls rest)) : W p l e R s m args below meth c H locs cells slots Q (F0 m pc ls ((.int x) :: .ref a :: rest)) := r_put E X 6 inX6 tyX6_ok nmX6 rfl (by decide) mf_X6_49 rfl rfl q0 he (vp_nar_int x) rfl hlen hw hd kk
theorem gf_X6_53 (E : EE p c cc nL s args m RX6 D cI cB) (X : WD D A H0 H locs w) (q0 : Nat) {fs : List Value} {v : Value} (he : w[q0]? = some (a, .inr (8, fs))) (hv : fs[7]? = some v) (hd : decode cc pc = .ok (.getfield 53, 3)) (kk : W p l e R s m args below meth c H locs cells slots Q (F0 m (pc + 3) ls (v :: rest))) : W p l e R s m args below meth c H locs cells slots Q (F0 m pc ls (.ref a :: rest)) := r_get E X 7 inX6 rfl (by decide) mf_X6_53 rfl q0 he hv hd kk
theorem pf_X6_53 (E : EE p c cc nL s args m RX6 D cI cB) (X : WD D A H0 H locs w) (q0 : Nat) {fs : List Value} {x : Int32} {w' : va_W} (he : w[q0]? = some (a, .inr (8, fs))) (hlen : 7 < fs.length) (hw : w.set q0 (a, .inr (8, fs.set 7 (.int x))) = w') (hd : decode cc pc = .ok (.putfield 53, 3)) (kk : ∀ (H1 : Heap) (locs1 : List Loc), WD D A H0 H1 locs1 w' → W p l e R s m args below meth c H1 locs1 cells slots Q (F0 m (pc + 3) ls rest)) : W p l e R s m args below meth c H locs cells slots Q (F0 m pc ls ((.int x) :: .ref a :: rest)) := r_put E X 7 inX6 tyX6_ok nmX6 rfl (by decide) mf_X6_53 rfl rfl q0 he (vp_nar_int x) rfl hlen hw hd kk
theorem gf_X6_71 (E : EE p c cc nL s args m RX6 D cI cB) (X : WD D A H0 H locs w) (q0 : Nat) {fs : List Value} {v : Value} (he : w[q0]? = some (a, .inr (7, fs))) (hv : fs[4]? = some v) (hd : decode cc pc = .ok (.getfield 71, 3)) (kk : W p l e R s m args below meth c H locs cells slots Q (F0 m (pc + 3) ls (v :: rest))) : W p l e R s m args below meth c H locs cells slots Q (F0 m pc ls (.ref a :: rest)) := r_get E X 4 inX5 rfl (by decide) mf_X6_71 rfl q0 he hv hd kk
theorem gf_X6_90 (E : EE p c cc nL s args m RX6 D cI cB) (X : WD D A H0 H locs w) (q0 : Nat) {fs : List Value} {v : Value} (he : w[q0]? = some (a, .inr (2, fs))) (hv : fs[2]? = some v) (hd : decode cc pc = .ok (.getfield 90, 3)) (kk : W p l e R s m args below meth c H locs cells slots Q (F0 m (pc + 3) ls (v :: rest))) : W p l e R s m args below meth c H locs cells slots Q (F0 m pc ls (.ref a :: rest)) := r_get E X 2 inX0 rfl (by decide) mf_X6_90 rfl q0 he hv hd kk
theorem gf_X6_141 (E : EE p c cc nL s args m RX6 D cI cB) (X : WD D A H0 H locs w) (q0 : Nat) {fs : List Value} {v : Value} (he : w[q0]? = some (a, .inr (4, fs))) (hv : fs[7]? = some v) (hd : decode cc pc = .ok (.getfield 141, 3)) (kk : W p l e R s m args below meth c H locs cells slots Q (F0 m (pc + 3) ls (v :: rest))) : W p l e R s m args below meth c H locs cells slots Q (F0 m pc ls (.ref a :: rest)) := r_get E X 7 inX2 rfl (by decide) mf_X6_141 rfl q0 he hv hd kk
theorem gf_X6_147 (E : EE p c cc nL s args m RX6 D cI cB) (X : WD D A H0 H locs w) (q0 : Nat) {fs : List Value} {v : Value} (he : w[q0]? = some (a, .inr (4, fs))) (hv : fs[8]? = some v) (hd : decode cc pc = .ok (.getfield 147, 3)) (kk : W p l e R s m args below meth c H locs cells slots Q (F0 m (pc + 3) ls (v :: rest))) : W p l e R s m args below meth c H locs cells slots Q (F0 m pc ls (.ref a :: rest)) := r_get E X 8 inX2 rfl (by decide) mf_X6_147 rfl q0 he hv hd kk
theorem gf_X6_150 (E : EE p c cc nL s args m RX6 D cI cB) (X : WD D A H0 H locs w) (q0 : Nat) {fs : List Value} {v : Value} (he : w[q0]? = some (a, .inr (4, fs))) (hv : fs[9]? = some v) (hd : decode cc pc = .ok (.getfield 150, 3)) (kk : W p l e R s m args below meth c H locs cells slots Q (F0 m (pc + 3) ls (v :: rest))) : W p l e R s m args below meth c H locs cells slots Q (F0 m pc ls (.ref a :: rest)) := r_get E X 9 inX2 rfl (by decide) mf_X6_150 rfl q0 he hv hd kk
theorem gf_X6_153 (E : EE p c cc nL s args m RX6 D cI cB) (X : WD D A H0 H locs w) (q0 : Nat) {fs : List Value} {v : Value} (he : w[q0]? = some (a, .inr (4, fs))) (hv : fs[10]? = some v) (hd : decode cc pc = .ok (.getfield 153, 3)) (kk : W p l e R s m args below meth c H locs cells slots Q (F0 m (pc + 3) ls (v :: rest))) : W p l e R s m args below meth c H locs cells slots Q (F0 m pc ls (.ref a :: rest)) := r_get E X 10 inX2 rfl (by decide) mf_X6_153 rfl q0 he hv hd kk
theorem gf_X6_156 (E : EE p c cc nL s args m RX6 D cI cB) (X : WD D A H0 H locs w) (q0 : Nat) {fs : List Value} {v : Value} (he : w[q0]? = some (a, .inr (4, fs))) (hv : fs[6]? = some v) (hd : decode cc pc = .ok (.getfield 156, 3)) (kk : W p l e R s m args below meth c H locs cells slots Q (F0 m (pc + 3) ls (v :: rest))) : W p l e R s m args below meth c H locs cells slots Q (F0 m pc ls (.ref a :: rest)) := r_get E X 6 inX2 rfl (by decide) mf_X6_156 rfl q0 he hv hd kk
theorem pf_X6_156 (E : EE p c cc nL s args m RX6 D cI cB) (X : WD D A H0 H locs w) (q0 : Nat) {fs : List Value} {x : Int32} {w' : va_W} (he : w[q0]? = some (a, .inr (4, fs))) (hb : narrow .boolean (.int x) = .int x) (hb2 : fits .boolean (.int x) = true) (hlen : 6 < fs.length) (hw : w.set q0 (a, .inr (4, fs.set 6 (.int x))) = w') (hd : decode cc pc = .ok (.putfield 156, 3)) (kk : ∀ (H1 : Heap) (locs1 : List Loc), WD D A H0 H1 locs1 w' → W p l e R s m args below meth c H1 locs1 cells slots Q (F0 m (pc + 3) ls rest)) : W p l e R s m args below meth c H locs cells slots Q (F0 m pc ls ((.int x) :: .ref a :: rest)) := r_put E X 6 inX2 tyX2_ok nmX2 rfl (by decide) mf_X6_156 rfl rfl q0 he hb hb2 hlen hw hd kk
theorem gf_X6_160 (E : EE p c cc nL s args m RX6 D cI cB) (X : WD D A H0 H locs w) (q0 : Nat) {fs : List Value} {v : Value} (he : w[q0]? = some (a, .inr (4, fs))) (hv : fs[5]? = some v) (hd : decode cc pc = .ok (.getfield 160, 3)) (kk : W p l e R s m args below meth c H locs cells slots Q (F0 m (pc + 3) ls (v :: rest))) : W p l e R s m args below meth c H locs cells slots Q (F0 m pc ls (.ref a :: rest)) := r_get E X 5 inX2 rfl (by decide) mf_X6_160 rfl q0 he hv hd kk
theorem gf_X6_164 (E : EE p c cc nL s args m RX6 D cI cB) (X : WD D A H0 H locs w) (q0 : Nat) {fs : List Value} {v : Value} (he : w[q0]? = some (a, .inr (3, fs))) (hv : fs[0]? = some v) (hd : decode cc pc = .ok (.getfield 164, 3)) (kk : W p l e R s m args below meth c H locs cells slots Q (F0 m (pc + 3) ls (v :: rest))) : W p l e R s m args below meth c H locs cells slots Q (F0 m pc ls (.ref a :: rest)) := r_get E X 0 inX1 rfl (by decide) mf_X6_164 rfl q0 he hv hd kk
theorem gf_X6_169 (E : EE p c cc nL s args m RX6 D cI cB) (X : WD D A H0 H locs w) (q0 : Nat) {fs : List Value} {v : Value} (he : w[q0]? = some (a, .inr (4, fs))) (hv : fs[11]? = some v) (hd : decode cc pc = .ok (.getfield 169, 3)) (kk : W p l e R s m args below meth c H locs cells slots Q (F0 m (pc + 3) ls (v :: rest))) : W p l e R s m args below meth c H locs cells slots Q (F0 m pc ls (.ref a :: rest)) := r_get E X 11 inX2 rfl (by decide) mf_X6_169 rfl q0 he hv hd kk
theorem gf_X6_175 (E : EE p c cc nL s args m RX6 D cI cB) (X : WD D A H0 H locs w) (q0 : Nat) {fs : List Value} {v : Value} (he : w[q0]? = some (a, .inr (4, fs))) (hv : fs[4]? = some v) (hd : decode cc pc = .ok (.getfield 175, 3)) (kk : W p l e R s m args below meth c H locs cells slots Q (F0 m (pc + 3) ls (v :: rest))) : W p l e R s m args below meth c H locs cells slots Q (F0 m pc ls (.ref a :: rest)) := r_get E X 4 inX2 rfl (by decide) mf_X6_175 rfl q0 he hv hd kk
theorem gf_X6_184 (E : EE p c cc nL s args m RX6 D cI cB) (X : WD D A H0 H locs w) (q0 : Nat) {fs : List Value} {v : Value} (he : w[q0]? = some (a, .inr (4, fs))) (hv : fs[12]? = some v) (hd : decode cc pc = .ok (.getfield 184, 3)) (kk : W p l e R s m args below meth c H locs cells slots Q (F0 m (pc + 3) ls (v :: rest))) : W p l e R s m args below meth c H locs cells slots Q (F0 m pc ls (.ref a :: rest)) := r_get E X 12 inX2 rfl (by decide) mf_X6_184 rfl q0 he hv hd kk
theorem gf_X6_187 (E : EE p c cc nL s args m RX6 D cI cB) (X : WD D A H0 H locs w) (q0 : Nat) {fs : List Value} {v : Value} (he : w[q0]? = some (a, .inr (4, fs))) (hv : fs[13]? = some v) (hd : decode cc pc = .ok (.getfield 187, 3)) (kk : W p l e R s m args below meth c H locs cells slots Q (F0 m (pc + 3) ls (v :: rest))) : W p l e R s m args below meth c H locs cells slots Q (F0 m pc ls (.ref a :: rest)) := r_get E X 13 inX2 rfl (by decide) mf_X6_187 rfl q0 he hv hd kk
theorem gf_X6_190 (E : EE p c cc nL s args m RX6 D cI cB) (X : WD D A H0 H locs w) (q0 : Nat) {fs : List Value} {v : Value} (he : w[q0]? = some (a, .inr (4, fs))) (hv : fs[14]? = some v) (hd : decode cc pc = .ok (.getfield 190, 3)) (kk : W p l e R s m args below meth c H locs cells slots Q (F0 m (pc + 3) ls (v :: rest))) : W p l e R s m args below meth c H locs cells slots Q (F0 m pc ls (.ref a :: rest)) := r_get E X 14 inX2 rfl (by decide) mf_X6_190 rfl q0 he hv hd kk
theorem gf_X6_193 (E : EE p c cc nL s args m RX6 D cI cB) (X : WD D A H0 H locs w) (q0 : Nat) {fs : List Value} {v : Value} (he : w[q0]? = some (a, .inr (4, fs))) (hv : fs[15]? = some v) (hd : decode cc pc = .ok (.getfield 193, 3)) (kk : W p l e R s m args below meth c H locs cells slots Q (F0 m (pc + 3) ls (v :: rest))) : W p l e R s m args below meth c H locs cells slots Q (F0 m pc ls (.ref a :: rest)) := r_get E X 15 inX2 rfl (by decide) mf_X6_193 rfl q0 he hv hd kk
theorem gf_X6_196 (E : EE p c cc nL s args m RX6 D cI cB) (X : WD D A H0 H locs w) (q0 : Nat) {fs : List Value} {v : Value} (he : w[q0]? = some (a, .inr (4, fs))) (hv : fs[16]? = some v) (hd : decode cc pc = .ok (.getfield 196, 3)) (kk : W p l e R s m args below meth c H locs cells slots Q (F0 m (pc + 3) ls (v :: rest))) : W p l e R s m args below meth c H locs cells slots Q (F0 m pc ls (.ref a :: rest)) := r_get E X 16 inX2 rfl (by decide) mf_X6_196 rfl q0 he hv hd kk
theorem gf_X7_7 (E : EE p c cc nL s args m RX7 D cI cB) (X : WD D A H0 H locs w) (q0 : Nat) {fs : List Value} {v : Value} (he : w[q0]? = some (a, .inr (9, fs))) (hv : fs[0]? = some v) (hd : decode cc pc = .ok (.getfield 7, 3)) (kk : W p l e R s m args below meth c H locs cells slots Q (F0 m (pc + 3) ls (v :: rest))) : W p l e R s m args below meth c H locs cells slots Q (F0 m pc ls (.ref a :: rest)) := r_get E X 0 inX7 rfl (by decide) mf_X7_7 rfl q0 he hv hd kk
theorem pf_X7_7 (E : EE p c cc nL s args m RX7 D cI cB) (X : WD D A H0 H locs w) (q0 : Nat) {fs : List Value} {x : Int32} {w' : va_W} (he : w[q0]? = some (a, .inr (9, fs))) (hlen : 0 < fs.length) (hw : w.set q0 (a, .inr (9, fs.set 0 (.int x))) = w') (hd : decode cc pc = .ok (.putfield 7, 3)) (kk : ∀ (H1 : Heap) (locs1 : List Loc), WD D A H0 H1 locs1 w' → W p l e R s m args below meth c H1 locs1 cells slots Q (F0 m (pc + 3) ls rest)) : W p l e R s m args below meth c H locs cells slots Q (F0 m pc ls ((.int x) :: .ref a :: rest)) := r_put E X 0 inX7 tyX7_ok nmX7 rfl (by decide) mf_X7_7 rfl rfl q0 he (vp_nar_int x) rfl hlen hw hd kk
theorem gf_X7_13 (E : EE p c cc nL s args m RX7 D cI cB) (X : WD D A H0 H locs w) (q0 : Nat) {fs : List Value} {v : Value} (he : w[q0]? = some (a, .inr (9, fs))) (hv : fs[1]? = some v) (hd : decode cc pc = .ok (.getfield 13, 3)) (kk : W p l e R s m args below meth c H locs cells slots Q (F0 m (pc + 3) ls (v :: rest))) : W p l e R s m args below meth c H locs cells slots Q (F0 m pc ls (.ref a :: rest)) := r_get E X 1 inX7 rfl (by decide) mf_X7_13 rfl q0 he hv hd kk
theorem pf_X7_13 (E : EE p c cc nL s args m RX7 D cI cB) (X : WD D A H0 H locs w) (q0 : Nat) {fs : List Value} {x : Int32} {w' : va_W} (he : w[q0]? = some (a, .inr (9, fs))) (hlen : 1 < fs.length) (hw : w.set q0 (a, .inr (9, fs.set 1 (.int x))) = w') (hd : decode cc pc = .ok (.putfield 13, 3)) (kk : ∀ (H1 : Heap) (locs1 : List Loc), WD D A H0 H1 locs1 w' → W p l e R s m args below meth c H1 locs1 cells slots Q (F0 m (pc + 3) ls rest)) : W p l e R s m args below meth c H locs cells slots Q (F0 m pc ls ((.int x) :: .ref a :: rest)) := r_put E X 1 inX7 tyX7_ok nmX7 rfl (by decide) mf_X7_13 rfl rfl q0 he (vp_nar_int x) rfl hlen hw hd kk
theorem gf_X7_16 (E : EE p c cc nL s args m RX7 D cI cB) (X : WD D A H0 H locs w) (q0 : Nat) {fs : List Value} {v : Value} (he : w[q0]? = some (a, .inr (9, fs))) (hv : fs[2]? = some v) (hd : decode cc pc = .ok (.getfield 16, 3)) (kk : W p l e R s m args below meth c H locs cells slots Q (F0 m (pc + 3) ls (v :: rest))) : W p l e R s m args below meth c H locs cells slots Q (F0 m pc ls (.ref a :: rest)) := r_get E X 2 inX7 rfl (by decide) mf_X7_16 rfl q0 he hv hd kk
theorem pf_X7_16 (E : EE p c cc nL s args m RX7 D cI cB) (X : WD D A H0 H locs w) (hin2 : meth.name = "<init>") (q0 : Nat) {fs : List Value} {x : Nat} {w' : va_W} (he : w[q0]? = some (a, .inr (9, fs))) (hlen : 2 < fs.length) (hw : w.set q0 (a, .inr (9, fs.set 2 (.ref x))) = w') (hd : decode cc pc = .ok (.putfield 16, 3)) (kk : ∀ (H1 : Heap) (locs1 : List Loc), WD D A H0 H1 locs1 w' → W p l e R s m args below meth c H1 locs1 cells slots Q (F0 m (pc + 3) ls rest)) : W p l e R s m args below meth c H locs cells slots Q (F0 m pc ls ((.ref x) :: .ref a :: rest)) := r_putF E X 2 inX7 tyX7_ok nmX7 rfl (by decide) mf_X7_16 rfl rfl hin2 rfl q0 he rfl rfl hlen hw hd kk
theorem gf_X7_20 (E : EE p c cc nL s args m RX7 D cI cB) (X : WD D A H0 H locs w) (q0 : Nat) {fs : List Value} {v : Value} (he : w[q0]? = some (a, .inr (9, fs))) (hv : fs[4]? = some v) (hd : decode cc pc = .ok (.getfield 20, 3)) (kk : W p l e R s m args below meth c H locs cells slots Q (F0 m (pc + 3) ls (v :: rest))) : W p l e R s m args below meth c H locs cells slots Q (F0 m pc ls (.ref a :: rest)) := r_get E X 4 inX7 rfl (by decide) mf_X7_20 rfl q0 he hv hd kk
theorem pf_X7_20 (E : EE p c cc nL s args m RX7 D cI cB) (X : WD D A H0 H locs w) (hin2 : meth.name = "<init>") (q0 : Nat) {fs : List Value} {x : Nat} {w' : va_W} (he : w[q0]? = some (a, .inr (9, fs))) (hlen : 4 < fs.length) (hw : w.set q0 (a, .inr (9, fs.set 4 (.ref x))) = w') (hd : decode cc pc = .ok (.putfield 20, 3)) (kk : ∀ (H1 : Heap) (locs1 : List Loc), WD D A H0 H1 locs1 w' → W p l e R s m args below meth c H1 locs1 cells slots Q (F0 m (pc + 3) ls rest)) : W p l e R s m args below meth c H locs cells slots Q (F0 m pc ls ((.ref x) :: .ref a :: rest)) := r_putF E X 4 inX7 tyX7_ok nmX7 rfl (by decide) mf_X7_20 rfl rfl hin2 rfl q0 he rfl rfl hlen hw hd kk
theorem gf_X7_23 (E : EE p c cc nL s args m RX7 D cI cB) (X : WD D A H0 H locs w) (q0 : Nat) {fs : List Value} {v : Value} (he : w[q0]? = some (a, .inr (9, fs))) (hv : fs[6]? = some v) (hd : decode cc pc = .ok (.getfield 23, 3)) (kk : W p l e R s m args below meth c H locs cells slots Q (F0 m (pc + 3) ls (v :: rest))) : W p l e R s m args below meth c H locs cells slots Q (F0 m pc ls (.ref a :: rest)) := r_get E X 6 inX7 rfl (by decide) mf_X7_23 rfl q0 he hv hd kk
theorem pf_X7_23 (E : EE p c cc nL s args m RX7 D cI cB) (X : WD D A H0 H locs w) (hin2 : meth.name = "<init>") (q0 : Nat) {fs : List Value} {x : Nat} {w' : va_W} (he : w[q0]? = some (a, .inr (9, fs))) (hlen : 6 < fs.length) (hw : w.set q0 (a, .inr (9, fs.set 6 (.ref x))) = w') (hd : decode cc pc = .ok (.putfield 23, 3)) (kk : ∀ (H1 : Heap) (locs1 : List Loc), WD D A H0 H1 locs1 w' → W p l e R s m args below meth c H1 locs1 cells slots Q (F0 m (pc + 3) ls rest)) : W p l e R s m args below meth c H locs cells slots Q (F0 m pc ls ((.ref x) :: .ref a :: rest)) := r_putF E X 6 inX7 tyX7_ok nmX7 rfl (by decide) mf_X7_23 rfl rfl hin2 rfl q0 he rfl rfl hlen hw hd kk
theorem gf_X7_26 (E : EE p c cc nL s args m RX7 D cI cB) (X : WD D A H0 H locs w) (q0 : Nat) {fs : List Value} {v : Value} (he : w[q0]? = some (a, .inr (9, fs))) (hv : fs[7]? = some v) (hd : decode cc pc = .ok (.getfield 26, 3)) (kk : W p l e R s m args below meth c H locs cells slots Q (F0 m (pc + 3) ls (v :: rest))) : W p l e R s m args below meth c H locs cells slots Q (F0 m pc ls (.ref a :: rest)) := r_get E X 7 inX7 rfl (by decide) mf_X7_26 rfl q0 he hv hd kk
theorem pf_X7_26 (E : EE p c cc nL s args m RX7 D cI cB) (X : WD D A H0 H locs w) (hin2 : meth.name = "<init>") (q0 : Nat) {fs : List Value} {x : Nat} {w' : va_W} (he : w[q0]? = some (a, .inr (9, fs))) (hlen : 7 < fs.length) (hw : w.set q0 (a, .inr (9, fs.set 7 (.ref x))) = w') (hd : decode cc pc = .ok (.putfield 26, 3)) (kk : ∀ (H1 : Heap) (locs1 : List Loc), WD D A H0 H1 locs1 w' → W p l e R s m args below meth c H1 locs1 cells slots Q (F0 m (pc + 3) ls rest)) : W p l e R s m args below meth c H locs cells slots Q (F0 m pc ls ((.ref x) :: .ref a :: rest)) := r_putF E X 7 inX7 tyX7_ok nmX7 rfl (by decide) mf_X7_26 rfl rfl hin2 rfl q0 he rfl rfl hlen hw hd kk
theorem gf_X7_29 (E : EE p c cc nL s args m RX7 D cI cB) (X : WD D A H0 H locs w) (q0 : Nat) {fs : List Value} {v : Value} (he : w[q0]? = some (a, .inr (9, fs))) (hv : fs[8]? = some v) (hd : decode cc pc = .ok (.getfield 29, 3)) (kk : W p l e R s m args below meth c H locs cells slots Q (F0 m (pc + 3) ls (v :: rest))) : W p l e R s m args below meth c H locs cells slots Q (F0 m pc ls (.ref a :: rest)) := r_get E X 8 inX7 rfl (by decide) mf_X7_29 rfl q0 he hv hd kk
theorem pf_X7_29 (E : EE p c cc nL s args m RX7 D cI cB) (X : WD D A H0 H locs w) (q0 : Nat) {fs : List Value} {x : Int32} {w' : va_W} (he : w[q0]? = some (a, .inr (9, fs))) (hlen : 8 < fs.length) (hw : w.set q0 (a, .inr (9, fs.set 8 (.int x))) = w') (hd : decode cc pc = .ok (.putfield 29, 3)) (kk : ∀ (H1 : Heap) (locs1 : List Loc), WD D A H0 H1 locs1 w' → W p l e R s m args below meth c H1 locs1 cells slots Q (F0 m (pc + 3) ls rest)) : W p l e R s m args below meth c H locs cells slots Q (F0 m pc ls ((.int x) :: .ref a :: rest)) := r_put E X 8 inX7 tyX7_ok nmX7 rfl (by decide) mf_X7_29 rfl rfl q0 he (vp_nar_int x) rfl hlen hw hd kk
theorem gf_X7_32 (E : EE p c cc nL s args m RX7 D cI cB) (X : WD D A H0 H locs w) (q0 : Nat) {fs : List Value} {v : Value} (he : w[q0]? = some (a, .inr (9, fs))) (hv : fs[9]? = some v) (hd : decode cc pc = .ok (.getfield 32, 3)) (kk : W p l e R s m args below meth c H locs cells slots Q (F0 m (pc + 3) ls (v :: rest))) : W p l e R s m args below meth c H locs cells slots Q (F0 m pc ls (.ref a :: rest)) := r_get E X 9 inX7 rfl (by decide) mf_X7_32 rfl q0 he hv hd kk
theorem pf_X7_32 (E : EE p c cc nL s args m RX7 D cI cB) (X : WD D A H0 H locs w) (q0 : Nat) {fs : List Value} {x : Int32} {w' : va_W} (he : w[q0]? = some (a, .inr (9, fs))) (hlen : 9 < fs.length) (hw : w.set q0 (a, .inr (9, fs.set 9 (.int x))) = w') (hd : decode cc pc = .ok (.putfield 32, 3)) (kk : ∀ (H1 : Heap) (locs1 : List Loc), WD D A H0 H1 locs1 w' → W p l e R s m args below meth c H1 locs1 cells slots Q (F0 m (pc + 3) ls rest)) : W p l e R s m args below meth c H locs cells slots Q (F0 m pc ls ((.int x) :: .ref a :: rest)) := r_put E X 9 inX7 tyX7_ok nmX7 rfl (by decide) mf_X7_32 rfl rfl q0 he (vp_nar_int x) rfl hlen hw hd kk
theorem gf_X7_35 (E : EE p c cc nL s args m RX7 D cI cB) (X : WD D A H0 H locs w) (q0 : Nat) {fs : List Value} {v : Value} (he : w[q0]? = some (a, .inr (9, fs))) (hv : fs[10]? = some v) (hd : decode cc pc = .ok (.getfield 35, 3)) (kk : W p l e R s m args below meth c H locs cells slots Q (F0 m (pc + 3) ls (v :: rest))) : W p l e R s m args below meth c H locs cells slots Q (F0 m pc ls (.ref a :: rest)) := r_get E X 10 inX7 rfl (by decide) mf_X7_35 rfl q0 he hv hd kk
theorem pf_X7_35 (E : EE p c cc nL s args m RX7 D cI cB) (X : WD D A H0 H locs w) (q0 : Nat) {fs : List Value} {x : Int32} {w' : va_W} (he : w[q0]? = some (a, .inr (9, fs))) (hlen : 10 < fs.length) (hw : w.set q0 (a, .inr (9, fs.set 10 (.int x))) = w') (hd : decode cc pc = .ok (.putfield 35, 3)) (kk : ∀ (H1 : Heap) (locs1 : List Loc), WD D A H0 H1 locs1 w' → W p l e R s m args below meth c H1 locs1 cells slots Q (F0 m (pc + 3) ls rest)) : W p l e R s m args below meth c H locs cells slots Q (F0 m pc ls ((.int x) :: .ref a :: rest)) := r_put E X 10 inX7 tyX7_ok nmX7 rfl (by decide) mf_X7_35 rfl rfl q0 he (vp_nar_int x) rfl hlen hw hd kk
theorem gf_X7_38 (E : EE p c cc nL s args m RX7 D cI cB) (X : WD D A H0 H locs w) (q0 : Nat) {fs : List Value} {v : Value} (he : w[q0]? = some (a, .inr (9, fs))) (hv : fs[11]? = some v) (hd : decode cc pc = .ok (.getfield 38, 3)) (kk : W p l e R s m args below meth c H locs cells slots Q (F0 m (pc + 3) ls (v :: rest))) : W p l e R s m args below meth c H locs cells slots Q (F0 m pc ls (.ref a :: rest)) := r_get E X 11 inX7 rfl (by decide) mf_X7_38 rfl q0 he hv hd kk
theorem pf_X7_38 (E : EE p c cc nL s args m RX7 D cI cB) (X : WD D A H0 H locs w) (q0 : Nat) {fs : List Value} {x : Int32} {w' : va_W} (he : w[q0]? = some (a, .inr (9, fs))) (hlen : 11 < fs.length) (hw : w.set q0 (a, .inr (9, fs.set 11 (.int x))) = w') (hd : decode cc pc = .ok (.putfield 38, 3)) (kk : ∀ (H1 : Heap) (locs1 : List Loc), WD D A H0 H1 locs1 w' → W p l e R s m args below meth c H1 locs1 cells slots Q (F0 m (pc + 3) ls rest)) : W p l e R s m args below meth c H locs cells slots Q (F0 m pc ls ((.int x) :: .ref a :: rest)) := r_put E X 11 inX7 tyX7_ok nmX7 rfl (by decide) mf_X7_38 rfl rfl q0 he (vp_nar_int x) rfl hlen hw hd kk
theorem gf_X7_41 (E : EE p c cc nL s args m RX7 D cI cB) (X : WD D A H0 H locs w) (q0 : Nat) {fs : List Value} {v : Value} (he : w[q0]? = some (a, .inr (9, fs))) (hv : fs[12]? = some v) (hd : decode cc pc = .ok (.getfield 41, 3)) (kk : W p l e R s m args below meth c H locs cells slots Q (F0 m (pc + 3) ls (v :: rest))) : W p l e R s m args below meth c H locs cells slots Q (F0 m pc ls (.ref a :: rest)) := r_get E X 12 inX7 rfl (by decide) mf_X7_41 rfl q0 he hv hd kk
theorem pf_X7_41 (E : EE p c cc nL s args m RX7 D cI cB) (X : WD D A H0 H locs w) (q0 : Nat) {fs : List Value} {x : Int32} {w' : va_W} (he : w[q0]? = some (a, .inr (9, fs))) (hlen : 12 < fs.length) (hw : w.set q0 (a, .inr (9, fs.set 12 (.int x))) = w') (hd : decode cc pc = .ok (.putfield 41, 3)) (kk : ∀ (H1 : Heap) (locs1 : List Loc), WD D A H0 H1 locs1 w' → W p l e R s m args below meth c H1 locs1 cells slots Q (F0 m (pc + 3) ls rest)) : W p l e R s m args below meth c H locs cells slots Q (F0 m pc ls ((.int x) :: .ref a :: rest)) := r_put E X 12 inX7 tyX7_ok nmX7 rfl (by decide) mf_X7_41 rfl rfl q0 he (vp_nar_int x) rfl hlen hw hd kk
theorem gf_X7_44 (E : EE p c cc nL s args m RX7 D cI cB) (X : WD D A H0 H locs w) (q0 : Nat) {fs : List Value} {v : Value} (he : w[q0]? = some (a, .inr (9, fs))) (hv : fs[14]? = some v) (hd : decode cc pc = .ok (.getfield 44, 3)) (kk : W p l e R s m args below meth c H locs cells slots Q (F0 m (pc + 3) ls (v :: rest))) : W p l e R s m args below meth c H locs cells slots Q (F0 m pc ls (.ref a :: rest)) := r_get E X 14 inX7 rfl (by decide) mf_X7_44 rfl q0 he hv hd kk
theorem pf_X7_44 (E : EE p c cc nL s args m RX7 D cI cB) (X : WD D A H0 H locs w) (q0 : Nat) {fs : List Value} {x : Int32} {w' : va_W} (he : w[q0]? = some (a, .inr (9, fs))) (hlen : 14 < fs.length) (hw : w.set q0 (a, .inr (9, fs.set 14 (.int x))) = w') (hd : decode cc pc = .ok (.putfield 44, 3)) (kk : ∀ (H1 : Heap) (locs1 : List Loc), WD D A H0 H1 locs1 w' → W p l e R s m args below meth c H1 locs1 cells slots Q (F0 m (pc + 3) ls rest)) : W p l e R s m args below meth c H locs cells slots Q (F0 m pc ls ((.int x) :: .ref a :: rest)) := r_put E X 14 inX7 tyX7_ok nmX7 rfl (by decide) mf_X7_44 rfl rfl q0 he (vp_nar_int x) rfl hlen hw hd kk
theorem gf_X7_47 (E : EE p c cc nL s args m RX7 D cI cB) (X : WD D A H0 H locs w) (q0 : Nat) {fs : List Value} {v : Value} (he : w[q0]? = some (a, .inr (9, fs))) (hv : fs[15]? = some v) (hd : decode cc pc = .ok (.getfield 47, 3)) (kk : W p l e R s m args below meth c H locs cells slots Q (F0 m (pc + 3) ls (v :: rest))) : W p l e R s m args below meth c H locs cells slots Q (F0 m pc ls (.ref a :: rest)) := r_get E X 15 inX7 rfl (by decide) mf_X7_47 rfl q0 he hv hd kk
theorem pf_X7_47 (E : EE p c cc nL s args m RX7 D cI cB) (X : WD D A H0 H locs w) (hin2 : meth.name = "<init>") (q0 : Nat) {fs : List Value} {x : Nat} {w' : va_W} (he : w[q0]? = some (a, .inr (9, fs))) (hlen : 15 < fs.length) (hw : w.set q0 (a, .inr (9, fs.set 15 (.ref x))) = w') (hd : decode cc pc = .ok (.putfield 47, 3)) (kk : ∀ (H1 : Heap) (locs1 : List Loc), WD D A H0 H1 locs1 w' → W p l e R s m args below meth c H1 locs1 cells slots Q (F0 m (pc + 3) ls rest)) : W p l e R s m args below meth c H locs cells slots Q (F0 m pc ls ((.ref x) :: .ref a :: rest)) := r_putF E X 15 inX7 tyX7_ok nmX7 rfl (by decide) mf_X7_47 rfl rfl hin2 rfl q0 he rfl rfl hlen hw hd kk
theorem gf_X7_50 (E : EE p c cc nL s args m RX7 D cI cB) (X : WD D A H0 H locs w) (q0 : Nat) {fs : List Value} {v : Value} (he : w[q0]? = some (a, .inr (9, fs))) (hv : fs[16]? = some v) (hd : decode cc pc = .ok (.getfield 50, 3)) (kk : W p l e R s m args below meth c H locs cells slots Q (F0 m (pc + 3) ls (v :: rest))) : W p l e R s m args below meth c H locs cells slots Q (F0 m pc ls (.ref a :: rest)) := r_get E X 16 inX7 rfl (by decide) mf_X7_50 rfl q0 he hv hd kk
theorem pf_X7_50 (E : EE p c cc nL s args m RX7 D cI cB) (X : WD D A H0 H locs w) (hin2 : meth.name = "<init>") (q0 : Nat) {fs : List Value} {x : Nat} {w' : va_W} (he : w[q0]? = some (a, .inr (9, fs))) (hlen : 16 < fs.length) (hw : w.set q0 (a, .inr (9, fs.set 16 (.ref x))) = w') (hd : decode cc pc = .ok (.putfield 50, 3)) (kk : ∀ (H1 : Heap) (locs1 : List Loc), WD D A H0 H1 locs1 w' → W p l e R s m args below meth c H1 locs1 cells slots Q (F0 m (pc + 3) ls rest)) : W p l e R s m args below meth c H locs cells slots Q (F0 m pc ls ((.ref x) :: .ref a :: rest)) := r_putF E X 16 inX7 tyX7_ok nmX7 rfl (by decide) mf_X7_50 rfl rfl hin2 rfl q0 he rfl rfl hlen hw hd kk
theorem gf_X7_53 (E : EE p c cc nL s args m RX7 D cI cB) (X : WD D A H0 H locs w) (q0 : Nat) {fs : List Value} {v : Value} (he : w[q0]? = some (a, .inr (9, fs))) (hv : fs[18]? = some v) (hd : decode cc pc = .ok (.getfield 53, 3)) (kk : W p l e R s m args below meth c H locs cells slots Q (F0 m (pc + 3) ls (v :: rest))) : W p l e R s m args below meth c H locs cells slots Q (F0 m pc ls (.ref a :: rest)) := r_get E X 18 inX7 rfl (by decide) mf_X7_53 rfl q0 he hv hd kk
theorem pf_X7_53 (E : EE p c cc nL s args m RX7 D cI cB) (X : WD D A H0 H locs w) (hin2 : meth.name = "<init>") (q0 : Nat) {fs : List Value} {x : Nat} {w' : va_W} (he : w[q0]? = some (a, .inr (9, fs))) (hlen : 18 < fs.length) (hw : w.set q0 (a, .inr (9, fs.set 18 (.ref x))) = w') (hd : decode cc pc = .ok (.putfield 53, 3)) (kk : ∀ (H1 : Heap) (locs1 : List Loc), WD D A H0 H1 locs1 w' → W p l e R s m args below meth c H1 locs1 cells slots Q (F0 m (pc + 3) ls rest)) : W p l e R s m args below meth c H locs cells slots Q (F0 m pc ls ((.ref x) :: .ref a :: rest)) := r_putF E X 18 inX7 tyX7_ok nmX7 rfl (by decide) mf_X7_53 rfl rfl hin2 rfl q0 he rfl rfl hlen hw hd kk
theorem gf_X7_63 (E : EE p c cc nL s args m RX7 D cI cB) (X : WD D A H0 H locs w) (q0 : Nat) {fs : List Value} {v : Value} (he : w[q0]? = some (a, .inr (9, fs))) (hv : fs[3]? = some v) (hd : decode cc pc = .ok (.getfield 63, 3)) (kk : W p l e R s m args below meth c H locs cells slots Q (F0 m (pc + 3) ls (v :: rest))) : W p l e R s m args below meth c H locs cells slots Q (F0 m pc ls (.ref a :: rest)) := r_get E X 3 inX7 rfl (by decide) mf_X7_63 rfl q0 he hv hd kk
theorem pf_X7_63 (E : EE p c cc nL s args m RX7 D cI cB) (X : WD D A H0 H locs w) (q0 : Nat) {fs : List Value} {x : Int32} {w' : va_W} (he : w[q0]? = some (a, .inr (9, fs))) (hlen : 3 < fs.length) (hw : w.set q0 (a, .inr (9, fs.set 3 (.int x))) = w') (hd : decode cc pc = .ok (.putfield 63, 3)) (kk : ∀ (H1 : Heap) (locs1 : List Loc), WD D A H0 H1 locs1 w' → W p l e R s m args below meth c H1 locs1 cells slots Q (F0 m (pc + 3) ls rest)) : W p l e R s m args below meth c H locs cells slots Q (F0 m pc ls ((.int x) :: .ref a :: rest)) := r_put E X 3 inX7 tyX7_ok nmX7 rfl (by decide) mf_X7_63 rfl rfl q0 he (vp_nar_int x) rfl hlen hw hd kk
theorem gf_X7_67 (E : EE p c cc nL s args m RX7 D cI cB) (X : WD D A H0 H locs w) (q0 : Nat) {fs : List Value} {v : Value} (he : w[q0]? = some (a, .inr (9, fs))) (hv : fs[5]? = some v) (hd : decode cc pc = .ok (.getfield 67, 3)) (kk : W p l e R s m args below meth c H locs cells slots Q (F0 m (pc + 3) ls (v :: rest))) : W p l e R s m args below meth c H locs cells slots Q (F0 m pc ls (.ref a :: rest)) := r_get E X 5 inX7 rfl (by decide) mf_X7_67 rfl q0 he hv hd kk
theorem pf_X7_67 (E : EE p c cc nL s args m RX7 D cI cB) (X : WD D A H0 H locs w) (q0 : Nat) {fs : List Value} {x : Int32} {w' : va_W} (he : w[q0]? = some (a, .inr (9, fs))) (hlen : 5 < fs.length) (hw : w.set q0 (a, .inr (9, fs.set 5 (.int x))) = w') (hd : decode cc pc = .ok (.putfield 67, 3)) (kk : ∀ (H1 : Heap) (locs1 : List Loc), WD D A H0 H1 locs1 w' → W p l e R s m args below meth c H1 locs1 cells slots Q (F0 m (pc + 3) ls rest)) : W p l e R s m args below meth c H locs cells slots Q (F0 m pc ls ((.int x) :: .ref a :: rest)) := r_put E X 5 inX7 tyX7_ok nmX7 rfl (by decide) mf_X7_67 rfl rfl q0 he (vp_nar_int x) rfl hlen hw hd kk
theorem gf_X7_70 (E : EE p c cc nL s args m RX7 D cI cB) (X : WD D A H0 H locs w) (q0 : Nat) {fs : List Value} {v : Value} (he : w[q0]? = some (a, .inr (9, fs))) (hv : fs[17]? = some v) (hd : decode cc pc = .ok (.getfield 70, 3)) (kk : W p l e R s m args below meth c H locs cells slots Q (F0 m (pc + 3) ls (v :: rest))) : W p l e R s m args below meth c H locs cells slots Q (F0 m pc ls (.ref a :: rest)) := r_get E X 17 inX7 rfl (by decide) mf_X7_70 rfl q0 he hv hd kk
theorem pf_X7_70 (E : EE p c cc nL s args m RX7 D cI cB) (X : WD D A H0 H locs w) (q0 : Nat) {fs : List Value} {x : Int32} {w' : va_W} (he : w[q0]? = some (a, .inr (9, fs))) (hlen : 17 < fs.length) (hw : w.set q0 (a, .inr (9, fs.set 17 (.int x))) = w') (hd : decode cc pc = .ok (.putfield 70, 3)) (kk : ∀ (H1 : Heap) (locs1 : List Loc), WD D A H0 H1 locs1 w' → W p l e R s m args below meth c H1 locs1 cells slots Q (F0 m (pc + 3) ls rest)) : W p l e R s m args below meth c H locs cells slots Q (F0 m pc ls ((.int x) :: .ref a :: rest)) := r_put E X 17 inX7 tyX7_ok nmX7 rfl (by decide) mf_X7_70 rfl rfl q0 he (vp_nar_int x) rfl hlen hw hd kk
theorem gf_X7_73 (E : EE p c cc nL s args m RX7 D cI cB) (X : WD D A H0 H locs w) (q0 : Nat) {fs : List Value} {v : Value} (he : w[q0]? = some (a, .inr (9, fs))) (hv : fs[19]? = some v) (hd : decode cc pc = .ok (.getfield 73, 3)) (kk : W p l e R s m args below meth c H locs cells slots Q (F0 m (pc + 3) ls (v :: rest))) : W p l e R s m args below meth c H locs cells slots Q (F0 m pc ls (.ref a :: rest)) := r_get E X 19 inX7 rfl (by decide) mf_X7_73 rfl q0 he hv hd kk
theorem pf_X7_73 (E : EE p c cc nL s args m RX7 D cI cB) (X : WD D A H0 H locs w) (q0 : Nat) {fs : List Value} {x : Int32} {w' : va_W} (he : w[q0]? = some (a, .inr (9, fs))) (hlen : 19 < fs.length) (hw : w.set q0 (a, .inr (9, fs.set 19 (.int x))) = w') (hd : decode cc pc = .ok (.putfield 73, 3)) (kk : ∀ (H1 : Heap) (locs1 : List Loc), WD D A H0 H1 locs1 w' → W p l e R s m args below meth c H1 locs1 cells slots Q (F0 m (pc + 3) ls rest)) : W p l e R s m args below meth c H locs cells slots Q (F0 m pc ls ((.int x) :: .ref a :: rest)) := r_put E X 19 inX7 tyX7_ok nmX7 rfl (by decide) mf_X7_73 rfl rfl q0 he (vp_nar_int x) rfl hlen hw hd kk
theorem gf_X7_82 (E : EE p c cc nL s args m RX7 D cI cB) (X : WD D A H0 H locs w) (q0 : Nat) {fs : List Value} {v : Value} (he : w[q0]? = some (a, .inr (9, fs))) (hv : fs[13]? = some v) (hd : decode cc pc = .ok (.getfield 82, 3)) (kk : W p l e R s m args below meth c H locs cells slots Q (F0 m (pc + 3) ls (v :: rest))) : W p l e R s m args below meth c H locs cells slots Q (F0 m pc ls (.ref a :: rest)) := r_get E X 13 inX7 rfl (by decide) mf_X7_82 rfl q0 he hv hd kk
theorem pf_X7_82 (E : EE p c cc nL s args m RX7 D cI cB) (X : WD D A H0 H locs w) (q0 : Nat) {fs : List Value} {x : Int32} {w' : va_W} (he : w[q0]? = some (a, .inr (9, fs))) (hlen : 13 < fs.length) (hw : w.set q0 (a, .inr (9, fs.set 13 (.int x))) = w') (hd : decode cc pc = .ok (.putfield 82, 3)) (kk : ∀ (H1 : Heap) (locs1 : List Loc), WD D A H0 H1 locs1 w' → W p l e R s m args below meth c H1 locs1 cells slots Q (F0 m (pc + 3) ls rest)) : W p l e R s m args below meth c H locs cells slots Q (F0 m pc ls ((.int x) :: .ref a :: rest)) := r_put E X 13 inX7 tyX7_ok nmX7 rfl (by decide) mf_X7_82 rfl rfl q0 he (vp_nar_int x) rfl hlen hw hd kk
end FIELDS
end
section
theorem lk_J0_47 : LSt RJ0 47 yJ2_coderFromArrayLen_85cad cJ2_coderFromArrayLen_85cad 2 (some .byte) 2 := ⟨mm_J0_47, mt_J2_coderFromArrayLen_85cad, mn_J2, mc_J2_coderFromArrayLen_85cad, ⟨by decide +kernel, by decide +kernel, by decide +kernel⟩⟩
theorem lk_J0_54 : LSt RJ0 54 yJ7_copyOfRange_39247 cJ7_copyOfRange_39247 3 (some (.array .byte)) 3 := ⟨mm_J0_54, mt_J7_copyOfRange_39247, mn_J7, mc_J7_copyOfRange_39247, ⟨by decide +kernel, by decide +kernel, by decide +kernel⟩⟩
theorem lk_J0_335 : LV RJ0 335 RJ0 yJ0_coder_7d493 cJ0_coder_7d493 1 (some .byte) 0 := ⟨mm_J0_335, mi_J0_coder_7d493, ms_J0_coder_7d493, mn_J0, mc_J0_coder_7d493, ⟨rfl, by decide +kernel, by decide +kernel, by decide +kernel⟩⟩
theorem lk_J0_489 : LI RJ0 489 yJ0_init_db425 cJ0_init_db425 5 2 := ⟨mm_J0_489, mi_J0_init_db425, mn_J0, mc_J0_init_db425, rfl, ⟨by decide +kernel, by decide +kernel, by decide +kernel⟩⟩
theorem lk_J0_492 : LV RJ0 492 RJ0 yJ0_isLatin1_aae02 cJ0_isLatin1_aae02 1 (some .boolean) 0 := ⟨mm_J0_492, mi_J0_isLatin1_aae02, ms_J0_isLatin1_aae02, mn_J0, mc_J0_isLatin1_aae02, ⟨rfl, by decide +kernel, by decide +kernel, by decide +kernel⟩⟩
theorem lk_J0_495 : LSt RJ0 495 yJ1_charAt_3b067 cJ1_charAt_3b067 2 (some .char) 2 := ⟨mm_J0_495, mt_J1_charAt_3b067, mn_J1, mc_J1_charAt_3b067, ⟨by decide +kernel, by decide +kernel, by decide +kernel⟩⟩
theorem lk_J0_498 : LSt RJ0 498 yJ2_charAt_3b067 cJ2_charAt_3b067 2 (some .char) 2 := ⟨mm_J0_498, mt_J2_charAt_3b067, mn_J2, mc_J2_charAt_3b067, ⟨by decide +kernel, by decide +kernel, by decide +kernel⟩⟩
theorem lk_J0_505 : LV RJ0 505 RJ0 yJ0_length_8abf5 cJ0_length_8abf5 1 (some .int) 0 := ⟨mm_J0_505, mi_J0_length_8abf5, ms_J0_length_8abf5, mn_J0, mc_J0_length_8abf5, ⟨rfl, by decide +kernel, by decide +kernel, by decide +kernel⟩⟩
theorem lk_J0_521 : LSt RJ0 521 yJ0_checkBoundsBeginEnd_23922 cJ0_checkBoundsBeginEnd_23922 3 none 3 := ⟨mm_J0_521, mt_J0_checkBoundsBeginEnd_23922, mn_J0, mc_J0_checkBoundsBeginEnd_23922, ⟨by decide +kernel, by decide +kernel, by decide +kernel⟩⟩
theorem lk_J0_541 : LSt RJ0 541 yJ1_equals_b5fdf cJ1_equals_b5fdf 3 (some .boolean) 2 := ⟨mm_J0_541, mt_J1_equals_b5fdf, mn_J1, mc_J1_equals_b5fdf, ⟨by decide +kernel, by decide +kernel, by decide +kernel⟩⟩
theorem lk_J0_633 : LV RJ0 633 RJ0 yJ0_indexOf_7cf53 cJ0_indexOf_7cf53 3 (some .int) 2 := ⟨mm_J0_633, mi_J0_indexOf_7cf53, ms_J0_indexOf_7cf53, mn_J0, mc_J0_indexOf_7cf53, ⟨rfl, by decide +kernel, by decide +kernel, by decide +kernel⟩⟩
theorem lk_J0_637 : LSt RJ0 637 yJ1_indexOf_4cfef cJ1_indexOf_4cfef 4 (some .int) 4 := ⟨mm_J0_637, mt_J1_indexOf_4cfef, mn_J1, mc_J1_indexOf_4cfef, ⟨by decide +kernel, by decide +kernel, by decide +kernel⟩⟩
theorem lk_J0_640 : LSt RJ0 640 yJ2_indexOf_4cfef cJ2_indexOf_4cfef 4 (some .int) 4 := ⟨mm_J0_640, mt_J2_indexOf_4cfef, mn_J2, mc_J2_indexOf_4cfef, ⟨by decide +kernel, by decide +kernel, by decide +kernel⟩⟩
theorem lk_J0_681 : LV RJ0 681 RJ0 yJ0_substring_37a41 cJ0_substring_37a41 5 (some (.object "java/lang/String")) 2 := ⟨mm_J0_681, mi_J0_substring_37a41, ms_J0_substring_37a41, mn_J0, mc_J0_substring_37a41, ⟨rfl, by decide +kernel, by decide +kernel, by decide +kernel⟩⟩
theorem lk_J0_685 : LSt RJ0 685 yJ1_newString_b4f7a cJ1_newString_b4f7a 3 (some (.object "java/lang/String")) 3 := ⟨mm_J0_685, mt_J1_newString_b4f7a, mn_J1, mc_J1_newString_b4f7a, ⟨by decide +kernel, by decide +kernel, by decide +kernel⟩⟩
theorem lk_J0_689 : LSt RJ0 689 yJ2_newString_b4f7a cJ2_newString_b4f7a 5 (some (.object "java/lang/String")) 3 := ⟨mm_J0_689, mt_J2_newString_b4f7a, mn_J2, mc_J2_newString_b4f7a, ⟨by decide +kernel, by decide +kernel, by decide +kernel⟩⟩
theorem lk_J0_1051 : LSt RJ0 1051 yJ2_compress_39247 cJ2_compress_39247 6 (some (.array .byte)) 3 := ⟨mm_J0_1051, mt_J2_compress_39247, mn_J2, mc_J2_compress_39247, ⟨by decide +kernel, by decide +kernel, by decide +kernel⟩⟩
theorem lk_J0_1059 : LSt RJ0 1059 yJ3_checkIndex_8e157 cJ3_checkIndex_8e157 3 (some .int) 3 := ⟨mm_J0_1059, mt_J3_checkIndex_8e157, mn_J3, mc_J3_checkIndex_8e157, ⟨by decide +kernel, by decide +kernel, by decide +kernel⟩⟩
theorem lk_J0_1062 : LSt RJ0 1062 yJ3_checkFromToIndex_8c36e cJ3_checkFromToIndex_8c36e 4 (some .int) 4 := ⟨mm_J0_1062, mt_J3_checkFromToIndex_8c36e, mn_J3, mc_J3_checkFromToIndex_8c36e, ⟨by decide +kernel, by decide +kernel, by decide +kernel⟩⟩
theorem lk_J0_1065 : LSt RJ0 1065 yJ3_checkFromIndexSize_8c36e cJ3_checkFromIndexSize_8c36e 4 (some .int) 4 := ⟨mm_J0_1065, mt_J3_checkFromIndexSize_8c36e, mn_J3, mc_J3_checkFromIndexSize_8c36e, ⟨by decide +kernel, by decide +kernel, by decide +kernel⟩⟩
theorem lk_J1_9 : LSt RJ1 9 yJ0_checkIndex_df160 cJ0_checkIndex_df160 2 none 2 := ⟨mm_J1_9, mt_J0_checkIndex_df160, mn_J0, mc_J0_checkIndex_df160, ⟨by decide +kernel, by decide +kernel, by decide +kernel⟩⟩
theorem lk_J1_38 : LSt RJ1 38 yJ9_min_7cf53 cJ9_min_7cf53 2 (some .int) 2 := ⟨mm_J1_38, mt_J9_min_7cf53, mn_J9, mc_J9_min_7cf53, ⟨by decide +kernel, by decide +kernel, by decide +kernel⟩⟩
theorem lk_J1_88 : LSt RJ1 88 yJ1_canEncode_9a6ad cJ1_canEncode_9a6ad 1 (some .boolean) 1 := ⟨mm_J1_88, mt_J1_canEncode_9a6ad, mn_J1, mc_J1_canEncode_9a6ad, ⟨by decide +kernel, by decide +kernel, by decide +kernel⟩⟩
theorem lk_J1_92 : LSt RJ1 92 yJ9_max_7cf53 cJ9_max_7cf53 2 (some .int) 2 := ⟨mm_J1_92, mt_J9_max_7cf53, mn_J9, mc_J9_max_7cf53, ⟨by decide +kernel, by decide +kernel, by decide +kernel⟩⟩
theorem lk_J1_95 : LSt RJ1 95 yJ1_indexOfChar_4cfef cJ1_indexOfChar_4cfef 6 (some .int) 4 := ⟨mm_J1_95, mt_J1_indexOfChar_4cfef, mn_J1, mc_J1_indexOfChar_4cfef, ⟨by decide +kernel, by decide +kernel, by decide +kernel⟩⟩
theorem lk_J1_112 : LI RJ1 112 yJ0_init_031fb cJ0_init_031fb 3 2 := ⟨mm_J1_112, mi_J0_init_031fb, mn_J0, mc_J0_init_031fb, rfl, ⟨by decide +kernel, by decide +kernel, by decide +kernel⟩⟩
theorem lk_J1_232 : LSt RJ1 232 yJ7_copyOfRange_39247 cJ7_copyOfRange_39247 3 (some (.array .byte)) 3 := ⟨mm_J1_232, mt_J7_copyOfRange_39247, mn_J7, mc_J7_copyOfRange_39247, ⟨by decide +kernel, by decide +kernel, by decide +kernel⟩⟩
theorem lk_J1_236 : LSt RJ1 236 yJ7_fill_eb02e cJ7_fill_eb02e 5 none 4 := ⟨mm_J1_236, mt_J7_fill_eb02e, mn_J7, mc_J7_fill_eb02e, ⟨by decide +kernel, by decide +kernel, by decide +kernel⟩⟩
theorem lk_J1_240 : LSt RJ1 240 yJ2_inflate_0e8fd cJ2_inflate_0e8fd 6 none 5 := ⟨mm_J1_240, mt_J2_inflate_0e8fd, mn_J2, mc_J2_inflate_0e8fd, ⟨by decide +kernel, by decide +kernel, by decide +kernel⟩⟩
theorem lk_J2_11 : LSt RJ2 11 yJ2_newBytesLength_0f7a4 cJ2_newBytesLength_0f7a4 1 (some .int) 1 := ⟨mm_J2_11, mt_J2_newBytesLength_0f7a4, mn_J2, mc_J2_newBytesLength_0f7a4, ⟨by decide +kernel, by decide +kernel, by decide +kernel⟩⟩
theorem lk_J2_48 : LSt RJ2 48 yJ2_length_9d52b cJ2_length_9d52b 1 (some .int) 1 := ⟨mm_J2_48, mt_J2_length_9d52b, mn_J2, mc_J2_length_9d52b, ⟨by decide +kernel, by decide +kernel, by decide +kernel⟩⟩
theorem lk_J2_67 : LSt RJ2 67 yJ2_checkIndex_2214a cJ2_checkIndex_2214a 2 none 2 := ⟨mm_J2_67, mt_J2_checkIndex_2214a, mn_J2, mc_J2_checkIndex_2214a, ⟨by decide +kernel, by decide +kernel, by decide +kernel⟩⟩
theorem lk_J2_71 : LSt RJ2 71 yJ2_getChar_3b067 cJ2_getChar_3b067 2 (some .char) 2 := ⟨mm_J2_71, mt_J2_getChar_3b067, mn_J2, mc_J2_getChar_3b067, ⟨by decide +kernel, by decide +kernel, by decide +kernel⟩⟩
theorem lk_J2_96 : LSt RJ2 96 yJ2_checkBoundsBeginEnd_d044e cJ2_checkBoundsBeginEnd_d044e 3 none 3 := ⟨mm_J2_96, mt_J2_checkBoundsBeginEnd_d044e, mn_J2, mc_J2_checkBoundsBeginEnd_d044e, ⟨by decide +kernel, by decide +kernel, by decide +kernel⟩⟩
theorem lk_J2_111 : LSt RJ2 111 yJ2_putChar_b72d1 cJ2_putChar_b72d1 3 none 3 := ⟨mm_J2_111, mt_J2_putChar_b72d1, mn_J2, mc_J2_putChar_b72d1, ⟨by decide +kernel, by decide +kernel, by decide +kernel⟩⟩
theorem lk_J2_123 : LSt RJ2 123 yJ2_compress_5af95 cJ2_compress_5af95 7 (some .int) 5 := ⟨mm_J2_123, mt_J2_compress_5af95, mn_J2, mc_J2_compress_5af95, ⟨by decide +kernel, by decide +kernel, by decide +kernel⟩⟩
theorem lk_J2_126 : LSt RJ2 126 yJ7_copyOfRange_39247 cJ7_copyOfRange_39247 3 (some (.array .byte)) 3 := ⟨mm_J2_126, mt_J7_copyOfRange_39247, mn_J7, mc_J7_copyOfRange_39247, ⟨by decide +kernel, by decide +kernel, by decide +kernel⟩⟩
theorem lk_J2_157 : LSt RJ2 157 yJ11_highSurrogate_5068e cJ11_highSurrogate_5068e 1 (some .char) 1 := ⟨mm_J2_157, mt_J11_highSurrogate_5068e, mn_J11, mc_J11_highSurrogate_5068e, ⟨by decide +kernel, by decide +kernel, by decide +kernel⟩⟩
theorem lk_J2_161 : LSt RJ2 161 yJ11_lowSurrogate_5068e cJ11_lowSurrogate_5068e 1 (some .char) 1 := ⟨mm_J2_161, mt_J11_lowSurrogate_5068e, mn_J11, mc_J11_lowSurrogate_5068e, ⟨by decide +kernel, by decide +kernel, by decide +kernel⟩⟩
theorem lk_J2_164 : LSt RJ2 164 yJ11_isValidCodePoint_9a6ad cJ11_isValidCodePoint_9a6ad 2 (some .boolean) 1 := ⟨mm_J2_164, mt_J11_isValidCodePoint_9a6ad, mn_J11, mc_J11_isValidCodePoint_9a6ad, ⟨by decide +kernel, by decide +kernel, by decide +kernel⟩⟩
theorem lk_J2_173 : LSt RJ2 173 yJ2_checkBoundsOffCount_d044e cJ2_checkBoundsOffCount_d044e 3 none 3 := ⟨mm_J2_173, mt_J2_checkBoundsOffCount_d044e, mn_J2, mc_J2_checkBoundsOffCount_d044e, ⟨by decide +kernel, by decide +kernel, by decide +kernel⟩⟩
theorem lk_J2_183 : LSt RJ2 183 yJ9_min_7cf53 cJ9_min_7cf53 2 (some .int) 2 := ⟨mm_J2_183, mt_J9_min_7cf53, mn_J9, mc_J9_min_7cf53, ⟨by decide +kernel, by decide +kernel, by decide +kernel⟩⟩
theorem lk_J2_224 : LSt RJ2 224 yJ9_max_7cf53 cJ9_max_7cf53 2 (some .int) 2 := ⟨mm_J2_224, mt_J9_max_7cf53, mn_J9, mc_J9_max_7cf53, ⟨by decide +kernel, by decide +kernel, by decide +kernel⟩⟩
theorem lk_J2_228 : LSt RJ2 228 yJ2_indexOfChar_4cfef cJ2_indexOfChar_4cfef 4 (some .int) 4 := ⟨mm_J2_228, mt_J2_indexOfChar_4cfef, mn_J2, mc_J2_indexOfChar_4cfef, ⟨by decide +kernel, by decide +kernel, by decide +kernel⟩⟩
theorem lk_J2_232 : LSt RJ2 232 yJ2_indexOfSupplementary_4cfef cJ2_indexOfSupplementary_4cfef 7 (some .int) 4 := ⟨mm_J2_232, mt_J2_indexOfSupplementary_4cfef, mn_J2, mc_J2_indexOfSupplementary_4cfef, ⟨by decide +kernel, by decide +kernel, by decide +kernel⟩⟩
theorem lk_J2_241 : LSt RJ2 241 yJ0_checkBoundsBeginEnd_23922 cJ0_checkBoundsBeginEnd_23922 3 none 3 := ⟨mm_J2_241, mt_J0_checkBoundsBeginEnd_23922, mn_J0, mc_J0_checkBoundsBeginEnd_23922, ⟨by decide +kernel, by decide +kernel, by decide +kernel⟩⟩
theorem lk_J2_244 : LSt RJ2 244 yJ2_indexOfCharUnsafe_4cfef cJ2_indexOfCharUnsafe_4cfef 5 (some .int) 4 := ⟨mm_J2_244, mt_J2_indexOfCharUnsafe_4cfef, mn_J2, mc_J2_indexOfCharUnsafe_4cfef, ⟨by decide +kernel, by decide +kernel, by decide +kernel⟩⟩
theorem lk_J2_257 : LSt RJ2 257 yJ2_compress_39247 cJ2_compress_39247 6 (some (.array .byte)) 3 := ⟨mm_J2_257, mt_J2_compress_39247, mn_J2, mc_J2_compress_39247, ⟨by decide +kernel, by decide +kernel, by decide +kernel⟩⟩
theorem lk_J2_259 : LSt RJ2 259 yJ2_coderFromArrayLen_85cad cJ2_coderFromArrayLen_85cad 2 (some .byte) 2 := ⟨mm_J2_259, mt_J2_coderFromArrayLen_85cad, mn_J2, mc_J2_coderFromArrayLen_85cad, ⟨by decide +kernel, by decide +kernel, by decide +kernel⟩⟩
theorem lk_J2_263 : LI RJ2 263 yJ0_init_031fb cJ0_init_031fb 3 2 := ⟨mm_J2_263, mi_J0_init_031fb, mn_J0, mc_J0_init_031fb, rfl, ⟨by decide +kernel, by decide +kernel, by decide +kernel⟩⟩
theorem lk_J2_380 : LSt RJ2 380 yJ7_fill_eb02e cJ7_fill_eb02e 5 none 4 := ⟨mm_J2_380, mt_J7_fill_eb02e, mn_J7, mc_J7_fill_eb02e, ⟨by decide +kernel, by decide +kernel, by decide +kernel⟩⟩
theorem lk_J2_414 : LSt RJ2 414 yJ0_checkIndex_df160 cJ0_checkIndex_df160 2 none 2 := ⟨mm_J2_414, mt_J0_checkIndex_df160, mn_J0, mc_J0_checkIndex_df160, ⟨by decide +kernel, by decide +kernel, by decide +kernel⟩⟩
theorem lk_J2_419 : LSt RJ2 419 yJ0_checkBoundsOffCount_cabcc cJ0_checkBoundsOffCount_cabcc 3 (some .int) 3 := ⟨mm_J2_419, mt_J0_checkBoundsOffCount_cabcc, mn_J0, mc_J0_checkBoundsOffCount_cabcc, ⟨by decide +kernel, by decide +kernel, by decide +kernel⟩⟩
theorem lk_J4_1 : LI RJ4 1 yJ5_init_d00df cJ5_init_d00df 2 1 := ⟨mm_J4_1, mi_J5_init_d00df, mn_J5, mc_J5_init_d00df, rfl, ⟨by decide +kernel, by decide +kernel, by decide +kernel⟩⟩
theorem lk_J4_137 : LI RJ4 137 yJ0_init_81219 cJ0_init_81219 2 1 := ⟨mm_J4_137, mi_J0_init_81219, mn_J0, mc_J0_init_81219, rfl, ⟨by decide +kernel, by decide +kernel, by decide +kernel⟩⟩
theorem lk_J5_26 : LSt RJ5 26 yJ2_newBytesFor_77867 cJ2_newBytesFor_77867 1 (some (.array .byte)) 1 := ⟨mm_J5_26, mt_J2_newBytesFor_77867, mn_J2, mc_J2_newBytesFor_77867, ⟨by decide +kernel, by decide +kernel, by decide +kernel⟩⟩
theorem lk_J5_108 : LSt RJ5 108 yJ7_copyOf_9075b cJ7_copyOf_9075b 3 (some (.array .byte)) 2 := ⟨mm_J5_108, mt_J7_copyOf_9075b, mn_J7, mc_J7_copyOf_9075b, ⟨by decide +kernel, by decide +kernel, by decide +kernel⟩⟩
theorem lk_J5_114 : LSt RJ5 114 yJ8_newLength_cabcc cJ8_newLength_cabcc 4 (some .int) 3 := ⟨mm_J5_114, mt_J8_newLength_cabcc, mn_J8, mc_J8_newLength_cabcc, ⟨by decide +kernel, by decide +kernel, by decide +kernel⟩⟩
theorem lk_J5_125 : LSt RJ5 125 yJ1_inflate_0e8fd cJ1_inflate_0e8fd 5 none 5 := ⟨mm_J5_125, mt_J1_inflate_0e8fd, mn_J1, mc_J1_inflate_0e8fd, ⟨by decide +kernel, by decide +kernel, by decide +kernel⟩⟩
theorem lk_J5_133 : LSt RJ5 133 yJ1_fillNull_b72d1 cJ1_fillNull_b72d1 3 none 3 := ⟨mm_J5_133, mt_J1_fillNull_b72d1, mn_J1, mc_J1_fillNull_b72d1, ⟨by decide +kernel, by decide +kernel, by decide +kernel⟩⟩
theorem lk_J5_137 : LSt RJ5 137 yJ2_fillNull_b72d1 cJ2_fillNull_b72d1 3 none 3 := ⟨mm_J5_137, mt_J2_fillNull_b72d1, mn_J2, mc_J2_fillNull_b72d1, ⟨by decide +kernel, by decide +kernel, by decide +kernel⟩⟩
theorem lk_J5_191 : LSt RJ5 191 yJ1_canEncode_fc78d cJ1_canEncode_fc78d 1 (some .boolean) 1 := ⟨mm_J5_191, mt_J1_canEncode_fc78d, mn_J1, mc_J1_canEncode_fc78d, ⟨by decide +kernel, by decide +kernel, by decide +kernel⟩⟩
theorem lk_J5_197 : LSt RJ5 197 yJ2_putCharSB_b72d1 cJ2_putCharSB_b72d1 3 none 3 := ⟨mm_J5_197, mt_J2_putCharSB_b72d1, mn_J2, mc_J2_putCharSB_b72d1, ⟨by decide +kernel, by decide +kernel, by decide +kernel⟩⟩
theorem lk_J7_13 : LSt RJ7 13 yJ7_rangeCheck_23922 cJ7_rangeCheck_23922 3 none 3 := ⟨mm_J7_13, mt_J7_rangeCheck_23922, mn_J7, mc_J7_rangeCheck_23922, ⟨by decide +kernel, by decide +kernel, by decide +kernel⟩⟩
theorem lk_J7_304 : LSt RJ7 304 yJ9_min_7cf53 cJ9_min_7cf53 2 (some .int) 2 := ⟨mm_J7_304, mt_J9_min_7cf53, mn_J9, mc_J9_min_7cf53, ⟨by decide +kernel, by decide +kernel, by decide +kernel⟩⟩
theorem lk_J7_339 : LSt RJ7 339 yJ7_copyOfRangeByte_39247 cJ7_copyOfRangeByte_39247 5 (some (.array .byte)) 3 := ⟨mm_J7_339, mt_J7_copyOfRangeByte_39247, mn_J7, mc_J7_copyOfRangeByte_39247, ⟨by decide +kernel, by decide +kernel, by decide +kernel⟩⟩
theorem lk_J7_343 : LSt RJ7 343 yJ7_checkLength_df160 cJ7_checkLength_df160 2 none 2 := ⟨mm_J7_343, mt_J7_checkLength_df160, mn_J7, mc_J7_checkLength_df160, ⟨by decide +kernel, by decide +kernel, by decide +kernel⟩⟩
theorem lk_J8_194 : LSt RJ8 194 yJ9_max_7cf53 cJ9_max_7cf53 2 (some .int) 2 := ⟨mm_J8_194, mt_J9_max_7cf53, mn_J9, mc_J9_max_7cf53, ⟨by decide +kernel, by decide +kernel, by decide +kernel⟩⟩
theorem lk_J8_201 : LSt RJ8 201 yJ8_hugeLength_7cf53 cJ8_hugeLength_7cf53 3 (some .int) 2 := ⟨mm_J8_201, mt_J8_hugeLength_7cf53, mn_J8, mc_J8_hugeLength_7cf53, ⟨by decide +kernel, by decide +kernel, by decide +kernel⟩⟩
theorem lk_L_9 : LI RL 9 yX6_init cX6_init 1 0 := ⟨mm_L_9, mi_X6_init, mn_X6, mc_X6_init, rfl, ⟨by decide +kernel, by decide +kernel, by decide +kernel⟩⟩
theorem lk_L_12 : LI RL 12 yX7_init cX7_init 2 0 := ⟨mm_L_12, mi_X7_init, mn_X7, mc_X7_init, rfl, ⟨by decide +kernel, by decide +kernel, by decide +kernel⟩⟩
theorem lk_L_13 : LV RL 13 RX6 yX6_setVideo cX6_setVideo 3 (some .int) 2 := ⟨mm_L_13, mi_X6_setVideo, ms_X6_setVideo, mn_X6, mc_X6_setVideo, ⟨rfl, by decide +kernel, by decide +kernel, by decide +kernel⟩⟩
theorem lk_L_17 : LV RL 17 RX7 yX7_setVideo cX7_setVideo 4 (some .int) 2 := ⟨mm_L_17, mi_X7_setVideo, ms_X7_setVideo, mn_X7, mc_X7_setVideo, ⟨rfl, by decide +kernel, by decide +kernel, by decide +kernel⟩⟩
theorem lk_L_18 : LV RL 18 RX6 yX6_addLevel cX6_addLevel 2 (some .int) 1 := ⟨mm_L_18, mi_X6_addLevel, ms_X6_addLevel, mn_X6, mc_X6_addLevel, ⟨rfl, by decide +kernel, by decide +kernel, by decide +kernel⟩⟩
theorem lk_L_22 : LV RL 22 RX7 yX7_addLevel cX7_addLevel 2 (some .int) 1 := ⟨mm_L_22, mi_X7_addLevel, ms_X7_addLevel, mn_X7, mc_X7_addLevel, ⟨rfl, by decide +kernel, by decide +kernel, by decide +kernel⟩⟩
theorem lk_L_23 : LV RL 23 RX6 yX6_setVariation cX6_setVariation 4 (some .int) 2 := ⟨mm_L_23, mi_X6_setVariation, ms_X6_setVariation, mn_X6, mc_X6_setVariation, ⟨rfl, by decide +kernel, by decide +kernel, by decide +kernel⟩⟩
theorem lk_L_26 : LV RL 26 RX7 yX7_setVariation cX7_setVariation 4 (some .int) 2 := ⟨mm_L_26, mi_X7_setVariation, ms_X7_setVariation, mn_X7, mc_X7_setVariation, ⟨rfl, by decide +kernel, by decide +kernel, by decide +kernel⟩⟩
theorem lk_L_27 : LV RL 27 RX6 yX6_addPeriod cX6_addPeriod 3 (some .int) 2 := ⟨mm_L_27, mi_X6_addPeriod, ms_X6_addPeriod, mn_X6, mc_X6_addPeriod, ⟨rfl, by decide +kernel, by decide +kernel, by decide +kernel⟩⟩
theorem lk_L_30 : LV RL 30 RX7 yX7_addPeriod cX7_addPeriod 3 (some .int) 2 := ⟨mm_L_30, mi_X7_addPeriod, ms_X7_addPeriod, mn_X7, mc_X7_addPeriod, ⟨rfl, by decide +kernel, by decide +kernel, by decide +kernel⟩⟩
theorem lk_L_31 : LV RL 31 RX6 yX6_setBuffer cX6_setBuffer 3 (some .int) 2 := ⟨mm_L_31, mi_X6_setBuffer, ms_X6_setBuffer, mn_X6, mc_X6_setBuffer, ⟨rfl, by decide +kernel, by decide +kernel, by decide +kernel⟩⟩
theorem lk_L_34 : LV RL 34 RX7 yX7_setBuffer cX7_setBuffer 4 (some .int) 2 := ⟨mm_L_34, mi_X7_setBuffer, ms_X7_setBuffer, mn_X7, mc_X7_setBuffer, ⟨rfl, by decide +kernel, by decide +kernel, by decide +kernel⟩⟩
theorem lk_L_35 : LV RL 35 RX6 yX6_setPolicyNumbers cX6_setPolicyNumbers 4 (some .int) 3 := ⟨mm_L_35, mi_X6_setPolicyNumbers, ms_X6_setPolicyNumbers, mn_X6, mc_X6_setPolicyNumbers, ⟨rfl, by decide +kernel, by decide +kernel, by decide +kernel⟩⟩
theorem lk_L_39 : LV RL 39 RX7 yX7_setPolicyNumbers cX7_setPolicyNumbers 5 (some .int) 3 := ⟨mm_L_39, mi_X7_setPolicyNumbers, ms_X7_setPolicyNumbers, mn_X7, mc_X7_setPolicyNumbers, ⟨rfl, by decide +kernel, by decide +kernel, by decide +kernel⟩⟩
theorem lk_L_40 : LV RL 40 RX6 yX6_typeKey cX6_typeKey 2 (some .int) 1 := ⟨mm_L_40, mi_X6_typeKey, ms_X6_typeKey, mn_X6, mc_X6_typeKey, ⟨rfl, by decide +kernel, by decide +kernel, by decide +kernel⟩⟩
theorem lk_L_43 : LV RL 43 RX7 yX7_typeKey cX7_typeKey 2 (some .int) 1 := ⟨mm_L_43, mi_X7_typeKey, ms_X7_typeKey, mn_X7, mc_X7_typeKey, ⟨rfl, by decide +kernel, by decide +kernel, by decide +kernel⟩⟩
theorem lk_L_44 : LV RL 44 RX6 yX6_runCommand cX6_runCommand 3 (some .int) 0 := ⟨mm_L_44, mi_X6_runCommand, ms_X6_runCommand, mn_X6, mc_X6_runCommand, ⟨rfl, by decide +kernel, by decide +kernel, by decide +kernel⟩⟩
theorem lk_L_48 : LV RL 48 RX7 yX7_runCommand cX7_runCommand 1 (some .int) 0 := ⟨mm_L_48, mi_X7_runCommand, ms_X7_runCommand, mn_X7, mc_X7_runCommand, ⟨rfl, by decide +kernel, by decide +kernel, by decide +kernel⟩⟩
theorem lk_L_49 : LV RL 49 RX6 yX6_restart cX6_restart 2 (some .int) 0 := ⟨mm_L_49, mi_X6_restart, ms_X6_restart, mn_X6, mc_X6_restart, ⟨rfl, by decide +kernel, by decide +kernel, by decide +kernel⟩⟩
theorem lk_L_52 : LV RL 52 RX7 yX7_restart cX7_restart 2 (some .int) 0 := ⟨mm_L_52, mi_X7_restart, ms_X7_restart, mn_X7, mc_X7_restart, ⟨rfl, by decide +kernel, by decide +kernel, by decide +kernel⟩⟩
theorem lk_L_53 : LV RL 53 RX6 yX6_advance cX6_advance 4 (some .int) 1 := ⟨mm_L_53, mi_X6_advance, ms_X6_advance, mn_X6, mc_X6_advance, ⟨rfl, by decide +kernel, by decide +kernel, by decide +kernel⟩⟩
theorem lk_L_56 : LV RL 56 RX7 yX7_advance cX7_advance 4 (some .int) 1 := ⟨mm_L_56, mi_X7_advance, ms_X7_advance, mn_X7, mc_X7_advance, ⟨rfl, by decide +kernel, by decide +kernel, by decide +kernel⟩⟩
theorem lk_L_57 : LV RL 57 RX6 yX6_time cX6_time 1 (some .int) 0 := ⟨mm_L_57, mi_X6_time, ms_X6_time, mn_X6, mc_X6_time, ⟨rfl, by decide +kernel, by decide +kernel, by decide +kernel⟩⟩
theorem lk_L_60 : LV RL 60 RX7 yX7_time cX7_time 1 (some .int) 0 := ⟨mm_L_60, mi_X7_time, ms_X7_time, mn_X7, mc_X7_time, ⟨rfl, by decide +kernel, by decide +kernel, by decide +kernel⟩⟩
theorem lk_L_61 : LV RL 61 RX6 yX6_position cX6_position 1 (some .int) 0 := ⟨mm_L_61, mi_X6_position, ms_X6_position, mn_X6, mc_X6_position, ⟨rfl, by decide +kernel, by decide +kernel, by decide +kernel⟩⟩
theorem lk_L_64 : LV RL 64 RX7 yX7_position cX7_position 1 (some .int) 0 := ⟨mm_L_64, mi_X7_position, ms_X7_position, mn_X7, mc_X7_position, ⟨rfl, by decide +kernel, by decide +kernel, by decide +kernel⟩⟩
theorem lk_L_65 : LV RL 65 RX6 yX6_bufferLevel cX6_bufferLevel 1 (some .int) 0 := ⟨mm_L_65, mi_X6_bufferLevel, ms_X6_bufferLevel, mn_X6, mc_X6_bufferLevel, ⟨rfl, by decide +kernel, by decide +kernel, by decide +kernel⟩⟩
theorem lk_L_68 : LV RL 68 RX7 yX7_bufferLevel cX7_bufferLevel 1 (some .int) 0 := ⟨mm_L_68, mi_X7_bufferLevel, ms_X7_bufferLevel, mn_X7, mc_X7_bufferLevel, ⟨rfl, by decide +kernel, by decide +kernel, by decide +kernel⟩⟩
theorem lk_L_69 : LV RL 69 RX6 yX6_state cX6_state 1 (some .int) 0 := ⟨mm_L_69, mi_X6_state, ms_X6_state, mn_X6, mc_X6_state, ⟨rfl, by decide +kernel, by decide +kernel, by decide +kernel⟩⟩
theorem lk_L_72 : LV RL 72 RX7 yX7_state cX7_state 1 (some .int) 0 := ⟨mm_L_72, mi_X7_state, ms_X7_state, mn_X7, mc_X7_state, ⟨rfl, by decide +kernel, by decide +kernel, by decide +kernel⟩⟩
theorem lk_L_73 : LV RL 73 RX6 yX6_isPaused cX6_isPaused 1 (some .int) 0 := ⟨mm_L_73, mi_X6_isPaused, ms_X6_isPaused, mn_X6, mc_X6_isPaused, ⟨rfl, by decide +kernel, by decide +kernel, by decide +kernel⟩⟩
theorem lk_L_76 : LV RL 76 RX7 yX7_isPaused cX7_isPaused 1 (some .int) 0 := ⟨mm_L_76, mi_X7_isPaused, ms_X7_isPaused, mn_X7, mc_X7_isPaused, ⟨rfl, by decide +kernel, by decide +kernel, by decide +kernel⟩⟩
theorem lk_L_77 : LV RL 77 RX6 yX6_downloadingSegment cX6_downloadingSegment 1 (some .int) 0 := ⟨mm_L_77, mi_X6_downloadingSegment, ms_X6_downloadingSegment, mn_X6, mc_X6_downloadingSegment, ⟨rfl, by decide +kernel, by decide +kernel, by decide +kernel⟩⟩
theorem lk_L_80 : LV RL 80 RX7 yX7_downloadingSegment cX7_downloadingSegment 1 (some .int) 0 := ⟨mm_L_80, mi_X7_downloadingSegment, ms_X7_downloadingSegment, mn_X7, mc_X7_downloadingSegment, ⟨rfl, by decide +kernel, by decide +kernel, by decide +kernel⟩⟩
theorem lk_L_81 : LV RL 81 RX6 yX6_segmentLevel cX6_segmentLevel 2 (some .int) 1 := ⟨mm_L_81, mi_X6_segmentLevel, ms_X6_segmentLevel, mn_X6, mc_X6_segmentLevel, ⟨rfl, by decide +kernel, by decide +kernel, by decide +kernel⟩⟩
theorem lk_L_84 : LV RL 84 RX7 yX7_segmentLevel cX7_segmentLevel 2 (some .int) 1 := ⟨mm_L_84, mi_X7_segmentLevel, ms_X7_segmentLevel, mn_X7, mc_X7_segmentLevel, ⟨rfl, by decide +kernel, by decide +kernel, by decide +kernel⟩⟩
theorem lk_L_85 : LV RL 85 RX6 yX6_throughputEstimate cX6_throughputEstimate 1 (some .int) 0 := ⟨mm_L_85, mi_X6_throughputEstimate, ms_X6_throughputEstimate, mn_X6, mc_X6_throughputEstimate, ⟨rfl, by decide +kernel, by decide +kernel, by decide +kernel⟩⟩
theorem lk_L_88 : LV RL 88 RX7 yX7_throughputEstimate cX7_throughputEstimate 1 (some .int) 0 := ⟨mm_L_88, mi_X7_throughputEstimate, ms_X7_throughputEstimate, mn_X7, mc_X7_throughputEstimate, ⟨rfl, by decide +kernel, by decide +kernel, by decide +kernel⟩⟩
theorem lk_L_89 : LV RL 89 RX6 yX6_switchCount cX6_switchCount 1 (some .int) 0 := ⟨mm_L_89, mi_X6_switchCount, ms_X6_switchCount, mn_X6, mc_X6_switchCount, ⟨rfl, by decide +kernel, by decide +kernel, by decide +kernel⟩⟩
theorem lk_L_92 : LV RL 92 RX7 yX7_switchCount cX7_switchCount 1 (some .int) 0 := ⟨mm_L_92, mi_X7_switchCount, ms_X7_switchCount, mn_X7, mc_X7_switchCount, ⟨rfl, by decide +kernel, by decide +kernel, by decide +kernel⟩⟩
theorem lk_L_93 : LV RL 93 RX6 yX6_stallCount cX6_stallCount 1 (some .int) 0 := ⟨mm_L_93, mi_X6_stallCount, ms_X6_stallCount, mn_X6, mc_X6_stallCount, ⟨rfl, by decide +kernel, by decide +kernel, by decide +kernel⟩⟩
theorem lk_L_96 : LV RL 96 RX7 yX7_stallCount cX7_stallCount 1 (some .int) 0 := ⟨mm_L_96, mi_X7_stallCount, ms_X7_stallCount, mn_X7, mc_X7_stallCount, ⟨rfl, by decide +kernel, by decide +kernel, by decide +kernel⟩⟩
theorem lk_L_97 : LV RL 97 RX6 yX6_stallTime cX6_stallTime 1 (some .int) 0 := ⟨mm_L_97, mi_X6_stallTime, ms_X6_stallTime, mn_X6, mc_X6_stallTime, ⟨rfl, by decide +kernel, by decide +kernel, by decide +kernel⟩⟩
theorem lk_L_100 : LV RL 100 RX7 yX7_stallTime cX7_stallTime 1 (some .int) 0 := ⟨mm_L_100, mi_X7_stallTime, ms_X7_stallTime, mn_X7, mc_X7_stallTime, ⟨rfl, by decide +kernel, by decide +kernel, by decide +kernel⟩⟩
theorem lk_L_101 : LV RL 101 RX6 yX6_startupTime cX6_startupTime 1 (some .int) 0 := ⟨mm_L_101, mi_X6_startupTime, ms_X6_startupTime, mn_X6, mc_X6_startupTime, ⟨rfl, by decide +kernel, by decide +kernel, by decide +kernel⟩⟩
theorem lk_L_104 : LV RL 104 RX7 yX7_startupTime cX7_startupTime 1 (some .int) 0 := ⟨mm_L_104, mi_X7_startupTime, ms_X7_startupTime, mn_X7, mc_X7_startupTime, ⟨rfl, by decide +kernel, by decide +kernel, by decide +kernel⟩⟩
theorem lk_L_105 : LV RL 105 RX6 yX6_bitrateSum cX6_bitrateSum 1 (some .int) 0 := ⟨mm_L_105, mi_X6_bitrateSum, ms_X6_bitrateSum, mn_X6, mc_X6_bitrateSum, ⟨rfl, by decide +kernel, by decide +kernel, by decide +kernel⟩⟩
theorem lk_L_108 : LV RL 108 RX7 yX7_bitrateSum cX7_bitrateSum 1 (some .int) 0 := ⟨mm_L_108, mi_X7_bitrateSum, ms_X7_bitrateSum, mn_X7, mc_X7_bitrateSum, ⟨rfl, by decide +kernel, by decide +kernel, by decide +kernel⟩⟩
theorem lk_L_109 : LV RL 109 RX6 yX6_segmentSize cX6_segmentSize 3 (some .int) 2 := ⟨mm_L_109, mi_X6_segmentSize, ms_X6_segmentSize, mn_X6, mc_X6_segmentSize, ⟨rfl, by decide +kernel, by decide +kernel, by decide +kernel⟩⟩
theorem lk_L_112 : LV RL 112 RX7 yX7_segmentSize cX7_segmentSize 3 (some .int) 2 := ⟨mm_L_112, mi_X7_segmentSize, ms_X7_segmentSize, mn_X7, mc_X7_segmentSize, ⟨rfl, by decide +kernel, by decide +kernel, by decide +kernel⟩⟩
theorem lk_L_113 : LV RL 113 RX6 yX6_simulatedStallTime cX6_simulatedStallTime 3 (some .int) 1 := ⟨mm_L_113, mi_X6_simulatedStallTime, ms_X6_simulatedStallTime, mn_X6, mc_X6_simulatedStallTime, ⟨rfl, by decide +kernel, by decide +kernel, by decide +kernel⟩⟩
theorem lk_L_116 : LV RL 116 RX7 yX7_simulatedStallTime cX7_simulatedStallTime 2 (some .int) 1 := ⟨mm_L_116, mi_X7_simulatedStallTime, ms_X7_simulatedStallTime, mn_X7, mc_X7_simulatedStallTime, ⟨rfl, by decide +kernel, by decide +kernel, by decide +kernel⟩⟩
theorem lk_L_117 : LV RL 117 RX6 yX6_simulatedBitrateSum cX6_simulatedBitrateSum 3 (some .int) 1 := ⟨mm_L_117, mi_X6_simulatedBitrateSum, ms_X6_simulatedBitrateSum, mn_X6, mc_X6_simulatedBitrateSum, ⟨rfl, by decide +kernel, by decide +kernel, by decide +kernel⟩⟩
theorem lk_L_120 : LV RL 120 RX7 yX7_simulatedBitrateSum cX7_simulatedBitrateSum 2 (some .int) 1 := ⟨mm_L_120, mi_X7_simulatedBitrateSum, ms_X7_simulatedBitrateSum, mn_X7, mc_X7_simulatedBitrateSum, ⟨rfl, by decide +kernel, by decide +kernel, by decide +kernel⟩⟩
theorem lk_L_121 : LV RL 121 RX6 yX6_bestSmoothLevel cX6_bestSmoothLevel 2 (some .int) 0 := ⟨mm_L_121, mi_X6_bestSmoothLevel, ms_X6_bestSmoothLevel, mn_X6, mc_X6_bestSmoothLevel, ⟨rfl, by decide +kernel, by decide +kernel, by decide +kernel⟩⟩
theorem lk_L_124 : LV RL 124 RX7 yX7_bestSmoothLevel cX7_bestSmoothLevel 4 (some .int) 0 := ⟨mm_L_124, mi_X7_bestSmoothLevel, ms_X7_bestSmoothLevel, mn_X7, mc_X7_bestSmoothLevel, ⟨rfl, by decide +kernel, by decide +kernel, by decide +kernel⟩⟩
theorem lk_X0_22 : LSt RX0 22 yJ9_min_7cf53 cJ9_min_7cf53 2 (some .int) 2 := ⟨mm_X0_22, mt_J9_min_7cf53, mn_J9, mc_J9_min_7cf53, ⟨by decide +kernel, by decide +kernel, by decide +kernel⟩⟩
theorem lk_X2_41 : LV RX2 41 RX2 yX2_begin cX2_begin 2 none 0 := ⟨mm_X2_41, mi_X2_begin, ms_X2_begin, mn_X2, mc_X2_begin, ⟨rfl, by decide +kernel, by decide +kernel, by decide +kernel⟩⟩
theorem lk_X2_44 : LV RX2 44 RX2 yX2_moveTo cX2_moveTo 2 none 1 := ⟨mm_X2_44, mi_X2_moveTo, ms_X2_moveTo, mn_X2, mc_X2_moveTo, ⟨rfl, by decide +kernel, by decide +kernel, by decide +kernel⟩⟩
theorem lk_X2_74 : LV RX2 74 RX1 yX1_stop cX1_stop 1 none 0 := ⟨mm_X2_74, mi_X1_stop, ms_X1_stop, mn_X1, mc_X1_stop, ⟨rfl, by decide +kernel, by decide +kernel, by decide +kernel⟩⟩
theorem lk_X2_77 : LV RX2 77 RX4 yX4_forget cX4_forget 1 none 0 := ⟨mm_X2_77, mi_X4_forget, ms_X4_forget, mn_X4, mc_X4_forget, ⟨rfl, by decide +kernel, by decide +kernel, by decide +kernel⟩⟩
theorem lk_X2_98 : LV RX2 98 RX2 yX2_passMillisecond cX2_passMillisecond 4 (some .boolean) 2 := ⟨mm_X2_98, mi_X2_passMillisecond, ms_X2_passMillisecond, mn_X2, mc_X2_passMillisecond, ⟨rfl, by decide +kernel, by decide +kernel, by decide +kernel⟩⟩
theorem lk_X2_102 : LV RX2 102 RX2 yX2_canStartDownload cX2_canStartDownload 1 (some .boolean) 0 := ⟨mm_X2_102, mi_X2_canStartDownload, ms_X2_canStartDownload, mn_X2, mc_X2_canStartDownload, ⟨rfl, by decide +kernel, by decide +kernel, by decide +kernel⟩⟩
theorem lk_X2_106 : LV RX2 106 RX2 yX2_chooseLevel cX2_chooseLevel 4 (some .int) 2 := ⟨mm_X2_106, mi_X2_chooseLevel, ms_X2_chooseLevel, mn_X2, mc_X2_chooseLevel, ⟨rfl, by decide +kernel, by decide +kernel, by decide +kernel⟩⟩
theorem lk_X2_110 : LV RX2 110 RX5 yX5_sizeOf cX5_sizeOf 3 (some .int) 2 := ⟨mm_X2_110, mi_X5_sizeOf, ms_X5_sizeOf, mn_X5, mc_X5_sizeOf, ⟨rfl, by decide +kernel, by decide +kernel, by decide +kernel⟩⟩
theorem lk_X2_113 : LV RX2 113 RX1 yX1_start cX1_start 3 none 2 := ⟨mm_X2_113, mi_X1_start, ms_X1_start, mn_X1, mc_X1_start, ⟨rfl, by decide +kernel, by decide +kernel, by decide +kernel⟩⟩
theorem lk_X2_120 : LV RX2 120 RX0 yX0_rateAt cX0_rateAt 5 (some .int) 1 := ⟨mm_X2_120, mi_X0_rateAt, ms_X0_rateAt, mn_X0, mc_X0_rateAt, ⟨rfl, by decide +kernel, by decide +kernel, by decide +kernel⟩⟩
theorem lk_X2_126 : LV RX2 126 RX1 yX1_receive cX1_receive 2 none 1 := ⟨mm_X2_126, mi_X1_receive, ms_X1_receive, mn_X1, mc_X1_receive, ⟨rfl, by decide +kernel, by decide +kernel, by decide +kernel⟩⟩
theorem lk_X2_129 : LV RX2 129 RX1 yX1_isComplete cX1_isComplete 1 (some .boolean) 0 := ⟨mm_X2_129, mi_X1_isComplete, ms_X1_isComplete, mn_X1, mc_X1_isComplete, ⟨rfl, by decide +kernel, by decide +kernel, by decide +kernel⟩⟩
theorem lk_X2_132 : LV RX2 132 RX2 yX2_completeSegment cX2_completeSegment 2 none 0 := ⟨mm_X2_132, mi_X2_completeSegment, ms_X2_completeSegment, mn_X2, mc_X2_completeSegment, ⟨rfl, by decide +kernel, by decide +kernel, by decide +kernel⟩⟩
theorem lk_X2_135 : LV RX2 135 RX2 yX2_play cX2_play 1 none 0 := ⟨mm_X2_135, mi_X2_play, ms_X2_play, mn_X2, mc_X2_play, ⟨rfl, by decide +kernel, by decide +kernel, by decide +kernel⟩⟩
theorem lk_X2_141 : LV RX2 141 RX2 yX2_hasNextSegment cX2_hasNextSegment 1 (some .boolean) 0 := ⟨mm_X2_141, mi_X2_hasNextSegment, ms_X2_hasNextSegment, mn_X2, mc_X2_hasNextSegment, ⟨rfl, by decide +kernel, by decide +kernel, by decide +kernel⟩⟩
theorem lk_X2_152 : LV RX2 152 RX1 yX1_throughput cX1_throughput 1 (some .int) 0 := ⟨mm_X2_152, mi_X1_throughput, ms_X1_throughput, mn_X1, mc_X1_throughput, ⟨rfl, by decide +kernel, by decide +kernel, by decide +kernel⟩⟩
theorem lk_X2_156 : LV RX2 156 RX4 yX4_add cX4_add 3 none 1 := ⟨mm_X2_156, mi_X4_add, ms_X4_add, mn_X4, mc_X4_add, ⟨rfl, by decide +kernel, by decide +kernel, by decide +kernel⟩⟩
theorem lk_X2_159 : LV RX2 159 RX5 yX5_bitrateOf cX5_bitrateOf 2 (some .int) 1 := ⟨mm_X2_159, mi_X5_bitrateOf, ms_X5_bitrateOf, mn_X5, mc_X5_bitrateOf, ⟨rfl, by decide +kernel, by decide +kernel, by decide +kernel⟩⟩
theorem lk_X2_162 : LV RX2 162 RX2 yX2_playIfReady cX2_playIfReady 1 none 0 := ⟨mm_X2_162, mi_X2_playIfReady, ms_X2_playIfReady, mn_X2, mc_X2_playIfReady, ⟨rfl, by decide +kernel, by decide +kernel, by decide +kernel⟩⟩
theorem lk_X2_165 : LV RX2 165 RX2 yX2_playMillisecond cX2_playMillisecond 1 none 0 := ⟨mm_X2_165, mi_X2_playMillisecond, ms_X2_playMillisecond, mn_X2, mc_X2_playMillisecond, ⟨rfl, by decide +kernel, by decide +kernel, by decide +kernel⟩⟩
theorem lk_X2_174 : LSt RX2 174 yJ9_min_7cf53 cJ9_min_7cf53 2 (some .int) 2 := ⟨mm_X2_174, mt_J9_min_7cf53, mn_J9, mc_J9_min_7cf53, ⟨by decide +kernel, by decide +kernel, by decide +kernel⟩⟩
theorem lk_X2_179 : LV RX2 179 RX2 yX2_levelByRate cX2_levelByRate 3 (some .int) 1 := ⟨mm_X2_179, mi_X2_levelByRate, ms_X2_levelByRate, mn_X2, mc_X2_levelByRate, ⟨rfl, by decide +kernel, by decide +kernel, by decide +kernel⟩⟩
theorem lk_X2_182 : LV RX2 182 RX2 yX2_levelByBuffer cX2_levelByBuffer 3 (some .int) 1 := ⟨mm_X2_182, mi_X2_levelByBuffer, ms_X2_levelByBuffer, mn_X2, mc_X2_levelByBuffer, ⟨rfl, by decide +kernel, by decide +kernel, by decide +kernel⟩⟩
theorem lk_X2_185 : LV RX2 185 RX2 yX2_levelByBoth cX2_levelByBoth 3 (some .int) 1 := ⟨mm_X2_185, mi_X2_levelByBoth, ms_X2_levelByBoth, mn_X2, mc_X2_levelByBoth, ⟨rfl, by decide +kernel, by decide +kernel, by decide +kernel⟩⟩
theorem lk_X2_188 : LV RX2 188 RX4 yX4_estimate cX4_estimate 3 (some .int) 0 := ⟨mm_X2_188, mi_X4_estimate, ms_X4_estimate, mn_X4, mc_X4_estimate, ⟨rfl, by decide +kernel, by decide +kernel, by decide +kernel⟩⟩
theorem lk_X2_194 : LV RX2 194 RX5 yX5_highestLevelWithin cX5_highestLevelWithin 4 (some .int) 2 := ⟨mm_X2_194, mi_X5_highestLevelWithin, ms_X5_highestLevelWithin, mn_X5, mc_X5_highestLevelWithin, ⟨rfl, by decide +kernel, by decide +kernel, by decide +kernel⟩⟩
theorem lk_X5_18 : LV RX5 18 RX5 yX5_replace cX5_replace 4 none 2 := ⟨mm_X5_18, mi_X5_replace, ms_X5_replace, mn_X5, mc_X5_replace, ⟨rfl, by decide +kernel, by decide +kernel, by decide +kernel⟩⟩
theorem lk_X5_32 : LV RX5 32 RX5 yX5_hasLevel cX5_hasLevel 2 (some .boolean) 1 := ⟨mm_X5_32, mi_X5_hasLevel, ms_X5_hasLevel, mn_X5, mc_X5_hasLevel, ⟨rfl, by decide +kernel, by decide +kernel, by decide +kernel⟩⟩
theorem lk_X5_36 : LV RX5 36 RX5 yX5_bitrateOf cX5_bitrateOf 2 (some .int) 1 := ⟨mm_X5_36, mi_X5_bitrateOf, ms_X5_bitrateOf, mn_X5, mc_X5_bitrateOf, ⟨rfl, by decide +kernel, by decide +kernel, by decide +kernel⟩⟩
theorem lk_X5_40 : LSt RX5 40 yJ9_min_7cf53 cJ9_min_7cf53 2 (some .int) 2 := ⟨mm_X5_40, mt_J9_min_7cf53, mn_J9, mc_J9_min_7cf53, ⟨by decide +kernel, by decide +kernel, by decide +kernel⟩⟩
theorem lk_X5_46 : LV RX5 46 RX5 yX5_hasSegment cX5_hasSegment 2 (some .boolean) 1 := ⟨mm_X5_46, mi_X5_hasSegment, ms_X5_hasSegment, mn_X5, mc_X5_hasSegment, ⟨rfl, by decide +kernel, by decide +kernel, by decide +kernel⟩⟩
theorem lk_X5_49 : LV RX5 49 RX5 yX5_variationOf cX5_variationOf 2 (some .int) 1 := ⟨mm_X5_49, mi_X5_variationOf, ms_X5_variationOf, mn_X5, mc_X5_variationOf, ⟨rfl, by decide +kernel, by decide +kernel, by decide +kernel⟩⟩
theorem lk_X6_11 : LI RX6 11 yX5_init cX5_init 1 0 := ⟨mm_X6_11, mi_X5_init, mn_X5, mc_X5_init, rfl, ⟨by decide +kernel, by decide +kernel, by decide +kernel⟩⟩
theorem lk_X6_32 : LI RX6 32 yX2_init cX2_init 4 3 := ⟨mm_X6_32, mi_X2_init, mn_X2, mc_X2_init, rfl, ⟨by decide +kernel, by decide +kernel, by decide +kernel⟩⟩
theorem lk_X6_44 : LI RX6 44 yJ4_init_da8c8 cJ4_init_da8c8 1 0 := ⟨mm_X6_44, mi_J4_init_da8c8, mn_J4, mc_J4_init_da8c8, rfl, ⟨by decide +kernel, by decide +kernel, by decide +kernel⟩⟩
theorem lk_X6_56 : LSt RX6 56 yX6_isWithin cX6_isWithin 3 (some .boolean) 3 := ⟨mm_X6_56, mt_X6_isWithin, mn_X6, mc_X6_isWithin, ⟨by decide +kernel, by decide +kernel, by decide +kernel⟩⟩
theorem lk_X6_60 : LV RX6 60 RX5 yX5_replace cX5_replace 4 none 2 := ⟨mm_X6_60, mi_X5_replace, ms_X5_replace, mn_X5, mc_X5_replace, ⟨rfl, by decide +kernel, by decide +kernel, by decide +kernel⟩⟩
theorem lk_X6_64 : LV RX6 64 RX2 yX2_begin cX2_begin 2 none 0 := ⟨mm_X6_64, mi_X2_begin, ms_X2_begin, mn_X2, mc_X2_begin, ⟨rfl, by decide +kernel, by decide +kernel, by decide +kernel⟩⟩
theorem lk_X6_67 : LV RX6 67 RX5 yX5_highestBitrate cX5_highestBitrate 1 (some .int) 0 := ⟨mm_X6_67, mi_X5_highestBitrate, ms_X5_highestBitrate, mn_X5, mc_X5_highestBitrate, ⟨rfl, by decide +kernel, by decide +kernel, by decide +kernel⟩⟩
theorem lk_X6_74 : LV RX6 74 RX5 yX5_appendLevel cX5_appendLevel 2 none 1 := ⟨mm_X6_74, mi_X5_appendLevel, ms_X5_appendLevel, mn_X5, mc_X5_appendLevel, ⟨rfl, by decide +kernel, by decide +kernel, by decide +kernel⟩⟩
theorem lk_X6_78 : LV RX6 78 RX5 yX5_hasSegment cX5_hasSegment 2 (some .boolean) 1 := ⟨mm_X6_78, mi_X5_hasSegment, ms_X5_hasSegment, mn_X5, mc_X5_hasSegment, ⟨rfl, by decide +kernel, by decide +kernel, by decide +kernel⟩⟩
theorem lk_X6_82 : LV RX6 82 RX5 yX5_variationOf cX5_variationOf 2 (some .int) 1 := ⟨mm_X6_82, mi_X5_variationOf, ms_X5_variationOf, mn_X5, mc_X5_variationOf, ⟨rfl, by decide +kernel, by decide +kernel, by decide +kernel⟩⟩
theorem lk_X6_86 : LV RX6 86 RX5 yX5_changeVariation cX5_changeVariation 3 none 2 := ⟨mm_X6_86, mi_X5_changeVariation, ms_X5_changeVariation, mn_X5, mc_X5_changeVariation, ⟨rfl, by decide +kernel, by decide +kernel, by decide +kernel⟩⟩
theorem lk_X6_93 : LV RX6 93 RX0 yX0_appendPeriod cX0_appendPeriod 4 none 2 := ⟨mm_X6_93, mi_X0_appendPeriod, ms_X0_appendPeriod, mn_X0, mc_X0_appendPeriod, ⟨rfl, by decide +kernel, by decide +kernel, by decide +kernel⟩⟩
theorem lk_X6_96 : LV RX6 96 RX3 yX3_changeBuffer cX3_changeBuffer 4 (some .boolean) 2 := ⟨mm_X6_96, mi_X3_changeBuffer, ms_X3_changeBuffer, mn_X3, mc_X3_changeBuffer, ⟨rfl, by decide +kernel, by decide +kernel, by decide +kernel⟩⟩
theorem lk_X6_100 : LSt RX6 100 yX6_oneIf cX6_oneIf 1 (some .int) 1 := ⟨mm_X6_100, mt_X6_oneIf, mn_X6, mc_X6_oneIf, ⟨by decide +kernel, by decide +kernel, by decide +kernel⟩⟩
theorem lk_X6_104 : LV RX6 104 RX3 yX3_changePolicyNumbers cX3_changePolicyNumbers 5 (some .boolean) 3 := ⟨mm_X6_104, mi_X3_changePolicyNumbers, ms_X3_changePolicyNumbers, mn_X3, mc_X3_changePolicyNumbers, ⟨rfl, by decide +kernel, by decide +kernel, by decide +kernel⟩⟩
theorem lk_X6_107 : LV RX6 107 RJ4 yJ4_length_8abf5 cJ4_length_8abf5 1 (some .int) 0 := ⟨mm_X6_107, mi_J4_length_8abf5, ms_J4_length_8abf5, mn_J4, mc_J4_length_8abf5, ⟨rfl, by decide +kernel, by decide +kernel, by decide +kernel⟩⟩
theorem lk_X6_110 : LV RX6 110 RJ4 yJ4_append_cf468 cJ4_append_cf468 2 (some (.object "java/lang/StringBuilder")) 1 := ⟨mm_X6_110, mi_J4_append_cf468, ms_J4_append_cf468, mn_J4, mc_J4_append_cf468, ⟨rfl, by decide +kernel, by decide +kernel, by decide +kernel⟩⟩
theorem lk_X6_114 : LV RX6 114 RJ4 yJ4_toString_0e30d cJ4_toString_0e30d 1 (some (.object "java/lang/String")) 0 := ⟨mm_X6_114, mi_J4_toString_0e30d, ms_J4_toString_0e30d, mn_J4, mc_J4_toString_0e30d, ⟨rfl, by decide +kernel, by decide +kernel, by decide +kernel⟩⟩
theorem lk_X6_118 : LV RX6 118 RJ4 yJ4_setLength_d00df cJ4_setLength_d00df 2 none 1 := ⟨mm_X6_118, mi_J4_setLength_d00df, ms_J4_setLength_d00df, mn_J4, mc_J4_setLength_d00df, ⟨rfl, by decide +kernel, by decide +kernel, by decide +kernel⟩⟩
theorem lk_X6_121 : LV RX6 121 RJ0 yJ0_indexOf_0f7a4 cJ0_indexOf_0f7a4 2 (some .int) 1 := ⟨mm_X6_121, mi_J0_indexOf_0f7a4, ms_J0_indexOf_0f7a4, mn_J0, mc_J0_indexOf_0f7a4, ⟨rfl, by decide +kernel, by decide +kernel, by decide +kernel⟩⟩
theorem lk_X6_126 : LV RX6 126 RX6 yX6_runWord cX6_runWord 2 (some .int) 1 := ⟨mm_X6_126, mi_X6_runWord, ms_X6_runWord, mn_X6, mc_X6_runWord, ⟨rfl, by decide +kernel, by decide +kernel, by decide +kernel⟩⟩
theorem lk_X6_130 : LV RX6 130 RJ0 yJ0_substring_37a41 cJ0_substring_37a41 5 (some (.object "java/lang/String")) 2 := ⟨mm_X6_130, mi_J0_substring_37a41, ms_J0_substring_37a41, mn_J0, mc_J0_substring_37a41, ⟨rfl, by decide +kernel, by decide +kernel, by decide +kernel⟩⟩
theorem lk_X6_134 : LV RX6 134 RJ0 yJ0_substring_b52d3 cJ0_substring_b52d3 2 (some (.object "java/lang/String")) 1 := ⟨mm_X6_134, mi_J0_substring_b52d3, ms_J0_substring_b52d3, mn_J0, mc_J0_substring_b52d3, ⟨rfl, by decide +kernel, by decide +kernel, by decide +kernel⟩⟩
theorem lk_X6_137 : LV RX6 137 RX6 yX6_runWordWithArgument cX6_runWordWithArgument 3 (some .int) 2 := ⟨mm_X6_137, mi_X6_runWordWithArgument, ms_X6_runWordWithArgument, mn_X6, mc_X6_runWordWithArgument, ⟨rfl, by decide +kernel, by decide +kernel, by decide +kernel⟩⟩
theorem lk_X6_144 : LV RX6 144 RX2 yX2_passMillisecond cX2_passMillisecond 4 (some .boolean) 2 := ⟨mm_X6_144, mi_X2_passMillisecond, ms_X2_passMillisecond, mn_X2, mc_X2_passMillisecond, ⟨rfl, by decide +kernel, by decide +kernel, by decide +kernel⟩⟩
theorem lk_X6_172 : LV RX6 172 RX2 yX2_completedLevelOf cX2_completedLevelOf 2 (some .int) 1 := ⟨mm_X6_172, mi_X2_completedLevelOf, ms_X2_completedLevelOf, mn_X2, mc_X2_completedLevelOf, ⟨rfl, by decide +kernel, by decide +kernel, by decide +kernel⟩⟩
theorem lk_X6_179 : LV RX6 179 RX4 yX4_estimate cX4_estimate 3 (some .int) 0 := ⟨mm_X6_179, mi_X4_estimate, ms_X4_estimate, mn_X4, mc_X4_estimate, ⟨rfl, by decide +kernel, by decide +kernel, by decide +kernel⟩⟩
theorem lk_X6_199 : LV RX6 199 RX5 yX5_hasLevel cX5_hasLevel 2 (some .boolean) 1 := ⟨mm_X6_199, mi_X5_hasLevel, ms_X5_hasLevel, mn_X5, mc_X5_hasLevel, ⟨rfl, by decide +kernel, by decide +kernel, by decide +kernel⟩⟩
theorem lk_X6_202 : LV RX6 202 RX5 yX5_sizeOf cX5_sizeOf 3 (some .int) 2 := ⟨mm_X6_202, mi_X5_sizeOf, ms_X5_sizeOf, mn_X5, mc_X5_sizeOf, ⟨rfl, by decide +kernel, by decide +kernel, by decide +kernel⟩⟩
theorem lk_X6_206 : LV RX6 206 RX6 yX6_simulationError cX6_simulationError 2 (some .int) 1 := ⟨mm_X6_206, mi_X6_simulationError, ms_X6_simulationError, mn_X6, mc_X6_simulationError, ⟨rfl, by decide +kernel, by decide +kernel, by decide +kernel⟩⟩
theorem lk_X6_209 : LV RX6 209 RX2 yX2_playWhole cX2_playWhole 4 none 2 := ⟨mm_X6_209, mi_X2_playWhole, ms_X2_playWhole, mn_X2, mc_X2_playWhole, ⟨rfl, by decide +kernel, by decide +kernel, by decide +kernel⟩⟩
theorem lk_X6_214 : LV RX6 214 RJ0 yJ0_equals_9ea2d cJ0_equals_9ea2d 3 (some .boolean) 1 := ⟨mm_X6_214, mi_J0_equals_9ea2d, ms_J0_equals_9ea2d, mn_J0, mc_J0_equals_9ea2d, ⟨rfl, by decide +kernel, by decide +kernel, by decide +kernel⟩⟩
theorem lk_X6_218 : LV RX6 218 RX6 yX6_changePause cX6_changePause 3 (some .int) 1 := ⟨mm_X6_218, mi_X6_changePause, ms_X6_changePause, mn_X6, mc_X6_changePause, ⟨rfl, by decide +kernel, by decide +kernel, by decide +kernel⟩⟩
theorem lk_X6_224 : LSt RX6 224 yX6_policyNamed cX6_policyNamed 1 (some .int) 1 := ⟨mm_X6_224, mt_X6_policyNamed, mn_X6, mc_X6_policyNamed, ⟨by decide +kernel, by decide +kernel, by decide +kernel⟩⟩
theorem lk_X6_227 : LV RX6 227 RX6 yX6_changePolicy cX6_changePolicy 3 (some .int) 1 := ⟨mm_X6_227, mi_X6_changePolicy, ms_X6_changePolicy, mn_X6, mc_X6_changePolicy, ⟨rfl, by decide +kernel, by decide +kernel, by decide +kernel⟩⟩
theorem lk_X6_231 : LSt RX6 231 yX6_numberIn cX6_numberIn 4 (some .int) 1 := ⟨mm_X6_231, mt_X6_numberIn, mn_X6, mc_X6_numberIn, ⟨by decide +kernel, by decide +kernel, by decide +kernel⟩⟩
theorem lk_X6_234 : LV RX6 234 RX6 yX6_changeCap cX6_changeCap 3 (some .int) 1 := ⟨mm_X6_234, mi_X6_changeCap, ms_X6_changeCap, mn_X6, mc_X6_changeCap, ⟨rfl, by decide +kernel, by decide +kernel, by decide +kernel⟩⟩
theorem lk_X6_239 : LV RX6 239 RX6 yX6_seek cX6_seek 2 (some .int) 1 := ⟨mm_X6_239, mi_X6_seek, ms_X6_seek, mn_X6, mc_X6_seek, ⟨rfl, by decide +kernel, by decide +kernel, by decide +kernel⟩⟩
theorem lk_X6_241 : LV RX6 241 RX2 yX2_moveTo cX2_moveTo 2 none 1 := ⟨mm_X6_241, mi_X2_moveTo, ms_X2_moveTo, mn_X2, mc_X2_moveTo, ⟨rfl, by decide +kernel, by decide +kernel, by decide +kernel⟩⟩
theorem lk_X6_251 : LV RX6 251 RJ0 yJ0_length_8abf5 cJ0_length_8abf5 1 (some .int) 0 := ⟨mm_X6_251, mi_J0_length_8abf5, ms_J0_length_8abf5, mn_J0, mc_J0_length_8abf5, ⟨rfl, by decide +kernel, by decide +kernel, by decide +kernel⟩⟩
theorem lk_X6_252 : LV RX6 252 RJ0 yJ0_charAt_5068e cJ0_charAt_5068e 2 (some .char) 1 := ⟨mm_X6_252, mi_J0_charAt_5068e, ms_J0_charAt_5068e, mn_J0, mc_J0_charAt_5068e, ⟨rfl, by decide +kernel, by decide +kernel, by decide +kernel⟩⟩
theorem lk_X7_56 : LV RX7 56 RX7 yX7_begins cX7_begins 2 none 0 := ⟨mm_X7_56, mi_X7_begins, ms_X7_begins, mn_X7, mc_X7_begins, ⟨rfl, by decide +kernel, by decide +kernel, by decide +kernel⟩⟩
theorem lk_X7_59 : LSt RX7 59 yX7_within cX7_within 3 (some .boolean) 3 := ⟨mm_X7_59, mt_X7_within, mn_X7, mc_X7_within, ⟨by decide +kernel, by decide +kernel, by decide +kernel⟩⟩
theorem lk_X7_78 : LV RX7 78 RX7 yX7_isDigit cX7_isDigit 2 (some .boolean) 1 := ⟨mm_X7_78, mi_X7_isDigit, ms_X7_isDigit, mn_X7, mc_X7_isDigit, ⟨rfl, by decide +kernel, by decide +kernel, by decide +kernel⟩⟩
theorem lk_X7_87 : LV RX7 87 RX7 yX7_has cX7_has 9 (some .boolean) 3 := ⟨mm_X7_87, mi_X7_has, ms_X7_has, mn_X7, mc_X7_has, ⟨rfl, by decide +kernel, by decide +kernel, by decide +kernel⟩⟩
theorem lk_X7_91 : LV RX7 91 RX7 yX7_setsPolicy cX7_setsPolicy 3 (some .int) 1 := ⟨mm_X7_91, mi_X7_setsPolicy, ms_X7_setsPolicy, mn_X7, mc_X7_setsPolicy, ⟨rfl, by decide +kernel, by decide +kernel, by decide +kernel⟩⟩
theorem lk_X7_101 : LV RX7 101 RX7 yX7_numberFrom cX7_numberFrom 3 (some .int) 1 := ⟨mm_X7_101, mi_X7_numberFrom, ms_X7_numberFrom, mn_X7, mc_X7_numberFrom, ⟨rfl, by decide +kernel, by decide +kernel, by decide +kernel⟩⟩
theorem lk_X7_106 : LV RX7 106 RX7 yX7_policyFrom cX7_policyFrom 3 (some .int) 1 := ⟨mm_X7_106, mi_X7_policyFrom, ms_X7_policyFrom, mn_X7, mc_X7_policyFrom, ⟨rfl, by decide +kernel, by decide +kernel, by decide +kernel⟩⟩
theorem lk_X7_111 : LV RX7 111 RX7 yX7_capFrom cX7_capFrom 4 (some .int) 1 := ⟨mm_X7_111, mi_X7_capFrom, ms_X7_capFrom, mn_X7, mc_X7_capFrom, ⟨rfl, by decide +kernel, by decide +kernel, by decide +kernel⟩⟩
theorem lk_X7_116 : LV RX7 116 RX7 yX7_seekFrom cX7_seekFrom 3 (some .int) 1 := ⟨mm_X7_116, mi_X7_seekFrom, ms_X7_seekFrom, mn_X7, mc_X7_seekFrom, ⟨rfl, by decide +kernel, by decide +kernel, by decide +kernel⟩⟩
theorem lk_X7_121 : LV RX7 121 RX7 yX7_pauses cX7_pauses 3 (some .int) 1 := ⟨mm_X7_121, mi_X7_pauses, ms_X7_pauses, mn_X7, mc_X7_pauses, ⟨rfl, by decide +kernel, by decide +kernel, by decide +kernel⟩⟩
theorem lk_X7_126 : LV RX7 126 RX7 yX7_estimate cX7_estimate 4 (some .int) 0 := ⟨mm_X7_126, mi_X7_estimate, ms_X7_estimate, mn_X7, mc_X7_estimate, ⟨rfl, by decide +kernel, by decide +kernel, by decide +kernel⟩⟩
theorem lk_X7_130 : LV RX7 130 RX7 yX7_highest cX7_highest 1 (some .int) 0 := ⟨mm_X7_130, mi_X7_highest, ms_X7_highest, mn_X7, mc_X7_highest, ⟨rfl, by decide +kernel, by decide +kernel, by decide +kernel⟩⟩
theorem lk_X7_133 : LV RX7 133 RX7 yX7_levelByRate cX7_levelByRate 4 (some .int) 0 := ⟨mm_X7_133, mi_X7_levelByRate, ms_X7_levelByRate, mn_X7, mc_X7_levelByRate, ⟨rfl, by decide +kernel, by decide +kernel, by decide +kernel⟩⟩
theorem lk_X7_136 : LV RX7 136 RX7 yX7_levelByBuffer cX7_levelByBuffer 2 (some .int) 0 := ⟨mm_X7_136, mi_X7_levelByBuffer, ms_X7_levelByBuffer, mn_X7, mc_X7_levelByBuffer, ⟨rfl, by decide +kernel, by decide +kernel, by decide +kernel⟩⟩
theorem lk_X7_139 : LV RX7 139 RX7 yX7_levelOfBoth cX7_levelOfBoth 2 (some .int) 0 := ⟨mm_X7_139, mi_X7_levelOfBoth, ms_X7_levelOfBoth, mn_X7, mc_X7_levelOfBoth, ⟨rfl, by decide +kernel, by decide +kernel, by decide +kernel⟩⟩
theorem lk_X7_142 : LV RX7 142 RX7 yX7_chosen cX7_chosen 2 (some .int) 1 := ⟨mm_X7_142, mi_X7_chosen, ms_X7_chosen, mn_X7, mc_X7_chosen, ⟨rfl, by decide +kernel, by decide +kernel, by decide +kernel⟩⟩
theorem lk_X7_145 : LV RX7 145 RX7 yX7_sizeOf cX7_sizeOf 3 (some .int) 2 := ⟨mm_X7_145, mi_X7_sizeOf, ms_X7_sizeOf, mn_X7, mc_X7_sizeOf, ⟨rfl, by decide +kernel, by decide +kernel, by decide +kernel⟩⟩
theorem lk_X7_149 : LV RX7 149 RX7 yX7_rateAt cX7_rateAt 3 (some .int) 1 := ⟨mm_X7_149, mi_X7_rateAt, ms_X7_rateAt, mn_X7, mc_X7_rateAt, ⟨rfl, by decide +kernel, by decide +kernel, by decide +kernel⟩⟩
theorem lk_X7_152 : LV RX7 152 RX7 yX7_completes cX7_completes 1 none 0 := ⟨mm_X7_152, mi_X7_completes, ms_X7_completes, mn_X7, mc_X7_completes, ⟨rfl, by decide +kernel, by decide +kernel, by decide +kernel⟩⟩
theorem lk_X7_155 : LV RX7 155 RX7 yX7_startsDownload cX7_startsDownload 2 none 1 := ⟨mm_X7_155, mi_X7_startsDownload, ms_X7_startsDownload, mn_X7, mc_X7_startsDownload, ⟨rfl, by decide +kernel, by decide +kernel, by decide +kernel⟩⟩
theorem lk_X7_159 : LV RX7 159 RX7 yX7_receives cX7_receives 1 none 0 := ⟨mm_X7_159, mi_X7_receives, ms_X7_receives, mn_X7, mc_X7_receives, ⟨rfl, by decide +kernel, by decide +kernel, by decide +kernel⟩⟩
theorem lk_X7_162 : LV RX7 162 RX7 yX7_plays cX7_plays 2 none 0 := ⟨mm_X7_162, mi_X7_plays, ms_X7_plays, mn_X7, mc_X7_plays, ⟨rfl, by decide +kernel, by decide +kernel, by decide +kernel⟩⟩
theorem lk_X7_165 : LV RX7 165 RX7 yX7_waits cX7_waits 1 none 0 := ⟨mm_X7_165, mi_X7_waits, ms_X7_waits, mn_X7, mc_X7_waits, ⟨rfl, by decide +kernel, by decide +kernel, by decide +kernel⟩⟩
theorem lk_X7_168 : LV RX7 168 RX7 yX7_passes cX7_passes 2 none 1 := ⟨mm_X7_168, mi_X7_passes, ms_X7_passes, mn_X7, mc_X7_passes, ⟨rfl, by decide +kernel, by decide +kernel, by decide +kernel⟩⟩
theorem lk_X7_172 : LV RX7 172 RX7 yX7_setsAside cX7_setsAside 2 none 0 := ⟨mm_X7_172, mi_X7_setsAside, ms_X7_setsAside, mn_X7, mc_X7_setsAside, ⟨rfl, by decide +kernel, by decide +kernel, by decide +kernel⟩⟩
theorem lk_X7_175 : LV RX7 175 RX7 yX7_simulates cX7_simulates 2 none 1 := ⟨mm_X7_175, mi_X7_simulates, ms_X7_simulates, mn_X7, mc_X7_simulates, ⟨rfl, by decide +kernel, by decide +kernel, by decide +kernel⟩⟩
theorem lk_X7_178 : LV RX7 178 RX7 yX7_takesBack cX7_takesBack 2 none 0 := ⟨mm_X7_178, mi_X7_takesBack, ms_X7_takesBack, mn_X7, mc_X7_takesBack, ⟨rfl, by decide +kernel, by decide +kernel, by decide +kernel⟩⟩
theorem lk_X7_181 : LV RX7 181 RX7 yX7_simulated cX7_simulated 4 (some .int) 2 := ⟨mm_X7_181, mi_X7_simulated, ms_X7_simulated, mn_X7, mc_X7_simulated, ⟨rfl, by decide +kernel, by decide +kernel, by decide +kernel⟩⟩
end
section
/-! plain facts on numbers and arrays, to paste: each family by itself; over the kit's rows on nI and upd -/
/-! ===== order of ints, in all its forms, and through longs ===== -/
theorem fa_lt (a b : Int32) : a < b ↔ a.toInt < b.toInt := Int32.lt_iff_toInt_lt
theorem fa_le (a b : Int32) : a ≤ b ↔ a.toInt ≤ b.toInt := Int32.le_iff_toInt_le
theorem fa_eq (a b : Int32) : a = b ↔ a.toInt = b.toInt := Int32.toInt_inj.symm
theorem fa_lt64 (a b : Int64) : a < b ↔ a.toInt < b.toInt := Int64.lt_iff_toInt_lt
theorem fa_le64 (a b : Int64) : a ≤ b ↔ a.toInt ≤ b.toInt := Int64.le_iff_toInt_le
theorem fa_eq64 (a b : Int64) : a = b ↔ a.toInt = b.toInt := Int64.toInt_inj.symm
/-- a comparison of two ints taken as longs -/
theorem fa_wide_lt (a b : Int32) : a.toInt64 < b.toInt64 ↔ a < b := by rw [fa_lt64, fa_lt, Int32.toInt_toInt64, Int32.toInt_toInt64]
theorem fa_wide_le (a b : Int32) : a.toInt64 ≤ b.toInt64 ↔ a ≤ b := by rw [fa_le64, fa_le, Int32.toInt_toInt64, Int32.toInt_toInt64]
theorem fa_wide_eq (a b : Int32) : a.toInt64 = b.toInt64 ↔ a = b := by rw [fa_eq64, fa_eq, Int32.toInt_toInt64, Int32.toInt_toInt64]
/-- one strict comparison gives all the others -/
theorem fa_of_lt {a b : Int32} (h : a < b) : a ≤ b ∧ ¬ b ≤ a ∧ ¬ b < a ∧ a ≠ b ∧ b ≠ a := by
  rw [fa_lt] at h
  refine ⟨?_, ?_, ?_, ?_, ?_⟩
  · rw [fa_le]; omega
  · rw [fa_le]; omega
  · rw [fa_lt]; omega
  · intro e; rw [fa_eq] at e; omega
  · intro e; rw [fa_eq] at e; omega
theorem fa_of_nlt {a b : Int32} (h : ¬ a < b) : b ≤ a := by
  rw [fa_lt] at h
  rw [fa_le]
  omega
theorem fa_of_nle {a b : Int32} (h : ¬ a ≤ b) : b < a := by
  rw [fa_le] at h
  rw [fa_lt]
  omega
theorem fa_le_ne {a b : Int32} (h : a ≤ b) (h2 : a ≠ b) : a < b := by
  rw [fa_le] at h
  rw [fa_lt]
  have h3 : a.toInt ≠ b.toInt := fun e => h2 ((fa_eq a b).mpr e)
  omega
theorem fa_three (a b : Int32) : a < b ∨ a = b ∨ b < a := by
  rw [fa_lt, fa_lt, fa_eq]
  omega
theorem fa_trans {a b c : Int32} (h : a < b) (h2 : b ≤ c) : a < c := by
  rw [fa_lt] at *
  rw [fa_le] at h2
  omega
/-! ===== small literals as numbers ===== -/
theorem fa_lit (n : Nat) : (OfNat.ofNat n : Int32) = nI n := rfl
theorem fa_litL (n : Nat) : (OfNat.ofNat n : Int64) = lN n := rfl
/-! ===== bits of a number: 'or', masks, one bit ===== -/
theorem fa_and (a b : Nat) : nI a &&& nI b = nI (a &&& b) := by
  apply Int32.toBitVec_inj.1
  show BitVec.ofNat 32 a &&& BitVec.ofNat 32 b = BitVec.ofNat 32 (a &&& b)
  apply BitVec.eq_of_getLsbD_eq
  intro i hi
  simp [hi]
theorem fa_or (a b : Nat) : nI a ||| nI b = nI (a ||| b) := by
  apply Int32.toBitVec_inj.1
  show BitVec.ofNat 32 a ||| BitVec.ofNat 32 b = BitVec.ofNat 32 (a ||| b)
  apply BitVec.eq_of_getLsbD_eq
  intro i hi
  simp [hi]
/-- a remainder by a power of two, as a mask -/
theorem fa_mask (n k : Nat) : nI n &&& nI (2 ^ k - 1) = nI (n % 2 ^ k) := by rw [fa_and, Nat.and_two_pow_sub_one_eq_mod]
/-- 'or' of a high part and a low one that don't meet is their sum -/
theorem fa_or_sum {a k : Nat} (b : Nat) (h : a < 2 ^ k) : nI (2 ^ k * b) ||| nI a = nI (2 ^ k * b + a) := by rw [fa_or, Nat.two_pow_add_eq_or_of_lt h]
/-- one bit, by 'and' with a power of two -/
theorem fa_bit {n j : Nat} (hj : j < 31) : nI n &&& nI (2 ^ j) = 0 ↔ n.testBit j = false := by
  have h2 : (2 : Nat) ^ j < 2 ^ 31 := Nat.pow_lt_pow_right (by decide) hj
  have hle : n &&& 2 ^ j ≤ 2 ^ j := Nat.and_le_right
  have e : n &&& 2 ^ j = 0 ↔ n.testBit j = false := by
    constructor
    · intro h
      have h1 : (n &&& 2 ^ j).testBit j = false := by rw [h]; simp
      rw [Nat.testBit_and] at h1
      first | simpa using h1 | simpa [Nat.testBit_two_pow_self] using h1 | simpa [Nat.testBit_two_pow] using h1
    · intro h
      apply Nat.eq_of_testBit_eq
      intro i
      rw [Nat.testBit_and]
      by_cases hi : j = i
      · subst hi; simp [h]
      · first | (simp [Nat.testBit_two_pow, hi]; done) | (simp [Nat.testBit_two_pow_of_ne hi]; done)
  rw [fa_and]
  constructor
  · intro h
    apply e.mp
    rcases Nat.eq_zero_or_pos (n &&& 2 ^ j) with z | z
    · exact z
    · exact absurd h (nI_ne0 z (Nat.lt_of_le_of_lt hle h2))
  · intro h
    rw [e.mpr h]; exact nI_0
/-- a remainder by a power of two of a number that isn't negative, as Java divides -/
theorem fa_rem {a k : Nat} (ha : a < 2 ^ 31) (hk : k < 31) : nI a - nI a / nI (2 ^ k) * nI (2 ^ k) = nI (a % 2 ^ k) := pk_rem ha (Nat.two_pow_pos k) (Nat.pow_lt_pow_right (by decide) hk)
/-! ===== cuts to a byte, a short ===== -/
theorem fa_byte_xor (x y : Int32) : (x ^^^ y).toInt8 = x.toInt8 ^^^ y.toInt8 := by
  apply Int8.toBitVec_inj.1
  apply BitVec.eq_of_getLsbD_eq
  intro i hi
  first | (simp [hi]; done) | (simp [hi, BitVec.getLsbD_setWidth, BitVec.getLsbD_signExtend]; done)
theorem fa_short_xor (x y : Int32) : (x ^^^ y).toInt16 = x.toInt16 ^^^ y.toInt16 := by
  apply Int16.toBitVec_inj.1
  apply BitVec.eq_of_getLsbD_eq
  intro i hi
  first | (simp [hi]; done) | (simp [hi, BitVec.getLsbD_setWidth, BitVec.getLsbD_signExtend]; done)
/-- the cut to a byte sees the low byte alone -/
theorem fa_byte_low (x : Int32) : (x &&& 255).toInt8 = x.toInt8 := by
  apply Int8.toBitVec_inj.1
  apply BitVec.eq_of_getLsbD_eq
  intro i hi
  have h2 : (255 : Int32).toBitVec.getLsbD i = true := by
    have : ∀ j : Fin 8, (255 : Int32).toBitVec.getLsbD j.val = true := by decide +kernel
    exact this ⟨i, hi⟩
  have h4 : (x &&& 255).toBitVec.getLsbD i = x.toBitVec.getLsbD i := by
    show (x.toBitVec &&& (255 : Int32).toBitVec).getLsbD i = _
    rw [BitVec.getLsbD_and, h2, Bool.and_true]
  have h3 : i < 32 := by omega
  first
    | (show (((x &&& 255).toBitVec).signExtend 8).getLsbD i = (x.toBitVec.signExtend 8).getLsbD i; rw [BitVec.getLsbD_signExtend, BitVec.getLsbD_signExtend, if_pos h3, if_pos h3, h4])
    | (show (((x &&& 255).toBitVec).setWidth 8).getLsbD i = (x.toBitVec.setWidth 8).getLsbD i; rw [BitVec.getLsbD_setWidth, BitVec.getLsbD_setWidth, h4])
    | (simp [hi, h3, h4]; done)
theorem fa_short_low (x : Int32) : (x &&& 65535).toInt16 = x.toInt16 := by
  apply Int16.toBitVec_inj.1
  apply BitVec.eq_of_getLsbD_eq
  intro i hi
  have h2 : (65535 : Int32).toBitVec.getLsbD i = true := by
    have : ∀ j : Fin 16, (65535 : Int32).toBitVec.getLsbD j.val = true := by decide +kernel
    exact this ⟨i, hi⟩
  have h4 : (x &&& 65535).toBitVec.getLsbD i = x.toBitVec.getLsbD i := by
    show (x.toBitVec &&& (65535 : Int32).toBitVec).getLsbD i = _
    rw [BitVec.getLsbD_and, h2, Bool.and_true]
  have h3 : i < 32 := by omega
  first
    | (show (((x &&& 65535).toBitVec).signExtend 16).getLsbD i = (x.toBitVec.signExtend 16).getLsbD i; rw [BitVec.getLsbD_signExtend, BitVec.getLsbD_signExtend, if_pos h3, if_pos h3, h4])
    | (show (((x &&& 65535).toBitVec).setWidth 16).getLsbD i = (x.toBitVec.setWidth 16).getLsbD i; rw [BitVec.getLsbD_setWidth, BitVec.getLsbD_setWidth, h4])
    | (simp [hi, h3, h4]; done)
/-- a small number is its own byte, its own short -/
theorem fa_byte_small {n : Nat} (h : n < 128) : (nI n).toInt8.toInt32 = nI n := by
  have : ∀ j : Fin 128, (nI j.val).toInt8.toInt32 = nI j.val := by decide +kernel
  exact this ⟨n, h⟩
/-! ===== absolute difference ===== -/
theorem fa_absdiff {a b : Nat} (ha : a < 2 ^ 31) (hb : b < 2 ^ 31) : (if nI a < nI b then nI b - nI a else nI a - nI b) = nI (if a < b then b - a else a - b) := by
  by_cases h : a < b
  · rw [if_pos (nI_lt h hb), if_pos h]
    exact pk_sub (Nat.le_of_lt h)
  · rw [if_neg (nI_nlt (Nat.le_of_not_lt h) ha), if_neg h]
    exact pk_sub (Nat.le_of_not_lt h)
/-! ===== an array behind i stores, a conditional store, a row copied ===== -/
/-- f where k < i, what stood there else -/
def fa_fill {α : Type} (f g : Nat → α) (i : Nat) : Nat → α := fun k => if k < i then f k else g k
theorem fa_fill_0 {α : Type} (f g : Nat → α) : fa_fill f g 0 = g := funext fun k => if_neg (Nat.not_lt_zero k)
theorem fa_fill_in {α : Type} {f g : Nat → α} {i k : Nat} (h : k < i) : fa_fill f g i k = f k := if_pos h
theorem fa_fill_out {α : Type} {f g : Nat → α} {i k : Nat} (h : i ≤ k) : fa_fill f g i k = g k := if_neg (Nat.not_lt.mpr h)
theorem fa_fill_succ (f g : Nat → Int32) (i : Nat) : upd (fa_fill f g i) i (f i) = fa_fill f g (i + 1) := by
  funext k
  by_cases e : k = i
  · subst e
    rw [pk_us]
    exact (if_pos (Nat.lt_succ_self k)).symm
  · rw [pk_un e]
    by_cases h : k < i
    · rw [fa_fill_in h, fa_fill_in (Nat.lt_succ_of_lt h)]
    · rw [fa_fill_out (Nat.le_of_not_lt h), fa_fill_out (by omega)]
/-- a store that changes nothing -/
theorem fa_upd_same {f : Nat → Int32} {i : Nat} {x : Int32} (h : f i = x) : upd f i x = f := by
  funext k
  by_cases e : k = i
  · subst e
    rw [pk_us, h]
  · rw [pk_un e]
/-- a store under a condition, told as one -/
theorem fa_upd_if (c : Prop) [Decidable c] (f : Nat → Int32) (i : Nat) (x : Int32) : (if c then upd f i x else f) = upd f i (if c then x else f i) := by
  by_cases h : c
  · rw [if_pos h, if_pos h]
  · rw [if_neg h, if_neg h, fa_upd_same rfl]
/-- two stores at one place, at two -/
theorem fa_upd_twice (f : Nat → Int32) (i : Nat) (x y : Int32) : upd (upd f i x) i y = upd f i y := by
  funext k
  by_cases e : k = i
  · subst e
    rw [pk_us, pk_us]
  · rw [pk_un e, pk_un e, pk_un e]
theorem fa_upd_swap (f : Nat → Int32) {i j : Nat} (h : i ≠ j) (x y : Int32) : upd (upd f i x) j y = upd (upd f j y) i x := by
  funext k
  by_cases e : k = i
  · subst e
    rw [pk_un h, pk_us, pk_us]
  · by_cases e2 : k = j
    · subst e2
      rw [pk_us, pk_un e, pk_us]
    · rw [pk_un e2, pk_un e, pk_un e, pk_un e2]
/-! ===== the first index with a property; a count ===== -/
/-- the first k < n with p k, n if there is none -/
def fa_first (p : Nat → Bool) : Nat → Nat
  | 0 => 0
  | n + 1 => if fa_first p n < n then fa_first p n else if p n then n else n + 1
theorem fa_first_le (p : Nat → Bool) : ∀ n, fa_first p n ≤ n
  | 0 => Nat.le_refl 0
  | n + 1 => by
    have ih := fa_first_le p n
    unfold fa_first
    split
    · omega
    · split
      · omega
      · omega
theorem fa_first_no (p : Nat → Bool) : ∀ n k, k < fa_first p n → p k = false
  | 0, k, h => absurd h (Nat.not_lt_zero k)
  | n + 1, k, h => by
    have ih := fa_first_no p n
    have hl := fa_first_le p n
    unfold fa_first at h
    split at h
    · exact ih k h
    · rename_i h1
      split at h
      · exact ih k (by omega)
      · rename_i h2
        by_cases e : k = n
        · subst e
          exact Bool.eq_false_iff.mpr h2
        · exact ih k (by omega)
theorem fa_first_yes (p : Nat → Bool) : ∀ n, fa_first p n < n → p (fa_first p n) = true
  | 0, h => absurd h (Nat.not_lt_zero _)
  | n + 1, h => by
    have ih := fa_first_yes p n
    have hl := fa_first_le p n
    unfold fa_first at h ⊢
    split at h
    · rename_i h1
      rw [if_pos h1]
      exact ih h1
    · rename_i h1
      rw [if_neg h1]
      split at h
      · rename_i h2
        rw [if_pos h2]
        exact h2
      · omega
/-- how many k < n have p k -/
def fa_cnt (p : Nat → Bool) : Nat → Nat
  | 0 => 0
  | n + 1 => fa_cnt p n + if p n then 1 else 0
theorem fa_cnt_le (p : Nat → Bool) : ∀ n, fa_cnt p n ≤ n
  | 0 => Nat.le_refl 0
  | n + 1 => by
    have ih := fa_cnt_le p n
    unfold fa_cnt
    split
    · omega
    · omega
theorem fa_cnt_yes {p : Nat → Bool} {n : Nat} (h : p n = true) : fa_cnt p (n + 1) = fa_cnt p n + 1 := by rw [fa_cnt, if_pos h]
theorem fa_cnt_no {p : Nat → Bool} {n : Nat} (h : p n = false) : fa_cnt p (n + 1) = fa_cnt p n := by rw [fa_cnt, if_neg (by rw [h]; decide)]; rfl
theorem fa_cnt_cong {p q : Nat → Bool} : ∀ {n : Nat}, (∀ k, k < n → p k = q k) → fa_cnt p n = fa_cnt q n
  | 0, _ => rfl
  | n + 1, h => by rw [fa_cnt, fa_cnt, fa_cnt_cong (fun k hk => h k (Nat.lt_succ_of_lt hk)), h n (Nat.lt_succ_self n)]
/-! ===== an answer carried into a post; a branch on a boolean answer ===== -/
theorem fa_post {α : Type} {P : α → Prop} {x y : α} (h : x = y) (hp : P y) : P x := h ▸ hp
theorem fa_post2 {α β : Type} {P : α → β → Prop} {x y : α} {u v : β} (h : x = y) (h2 : u = v) (hp : P y v) : P x u := h ▸ h2 ▸ hp
theorem fa_bool {r : Int32} {b : Bool} (h : r = if b then 1 else 0) : (r = 0 ↔ b = false) ∧ (¬ r = 0 ↔ b = true) := by
  subst h
  cases b
  · exact ⟨⟨fun _ => rfl, fun _ => rfl⟩, ⟨fun h => absurd rfl h, fun h => absurd h (by decide)⟩⟩
  · exact ⟨⟨fun h => absurd h (by decide), fun h => absurd h (by decide)⟩, ⟨fun _ => rfl, fun _ => by decide⟩⟩
/-- a boolean's narrowing changes nothing -/
theorem fa_bool_and {r : Int32} (h : r = 0 ∨ r = 1) : r &&& 1 = r := by
  rcases h with rfl | rfl
  · decide
  · decide
theorem fa_bool_prop {c : Prop} [Decidable c] {r : Int32} (h : r = if c then 1 else 0) : (r = 0 ↔ ¬ c) ∧ (¬ r = 0 ↔ c) := by
  subst h
  by_cases hc : c
  · rw [if_pos hc]
    exact ⟨⟨fun h => absurd h (by decide), fun h => absurd hc h⟩, ⟨fun _ => hc, fun _ => by decide⟩⟩
  · rw [if_neg hc]
    exact ⟨⟨fun _ => hc, fun _ => rfl⟩, ⟨fun h => absurd rfl h, fun h => absurd h hc⟩⟩
end
section
/-! plain facts to paste, each family by itself; over the kit's nI, lN and upd -/
/-! ===== drawers: more things than places ===== -/
theorem fb_holes : ∀ (m n : Nat) (f : Nat → Nat), (∀ i, i < n → f i < m) → (∀ i j, i < j → j < n → f i ≠ f j) → n ≤ m := by
  intro m
  induction m with
  | zero =>
    intro n f h1 _
    rcases Nat.eq_zero_or_pos n with h | h
    · omega
    · exact absurd (h1 0 h) (Nat.not_lt_zero _)
  | succ m ih =>
    intro n f h1 h2
    by_cases hx : ∃ i, i < n ∧ f i = m
    · obtain ⟨a, ha, hfa⟩ := hx
      have hg := ih (n - 1) (fun i => if i < a then f i else f (i + 1)) (by
        intro i hi
        by_cases q : i < a
        · simp only [if_pos q]
          have b1 := h1 i (by omega)
          have b2 := h2 i a q ha
          omega
        · simp only [if_neg q]
          have b1 := h1 (i + 1) (by omega)
          have b2 := h2 a (i + 1) (by omega) (by omega)
          omega) (by
        intro i j hij hj
        by_cases q : i < a
        · by_cases r : j < a
          · simp only [if_pos q, if_pos r]
            exact h2 i j hij (by omega)
          · simp only [if_pos q, if_neg r]
            exact h2 i (j + 1) (by omega) (by omega)
        · have r : ¬ j < a := by omega
          simp only [if_neg q, if_neg r]
          exact h2 (i + 1) (j + 1) (by omega) (by omega))
      omega
    · have hg := ih n f (fun i hi => by
        have b1 := h1 i hi
        have b2 : f i ≠ m := fun e => hx ⟨i, hi, e⟩
        omega) h2
      omega
/-- two of them in one place -/
theorem fb_twice {m n : Nat} {f : Nat → Nat} (h : ∀ i, i < n → f i < m) (hm : m < n) : ∃ i j, i < j ∧ j < n ∧ f i = f j := by
  refine Classical.byContradiction fun hx => ?_
  have := fb_holes m n f h (fun i j hij hj e => hx ⟨i, j, hij, hj, e⟩)
  omega
/-- as many as places, none twice: each place is taken -/
theorem fb_onto {n : Nat} {f : Nat → Nat} (h : ∀ i, i < n → f i < n) (h2 : ∀ i j, i < j → j < n → f i ≠ f j) {y : Nat} (hy : y < n) : ∃ i, i < n ∧ f i = y := by
  refine Classical.byContradiction fun hx => ?_
  have hne : ∀ i, i < n → f i ≠ y := fun i hi e => hx ⟨i, hi, e⟩
  have := fb_holes (n - 1) n (fun i => if f i < y then f i else f i - 1) (by
    intro i hi
    have b1 := h i hi
    have b2 := hne i hi
    by_cases q : f i < y
    · simp only [if_pos q]; omega
    · simp only [if_neg q]; omega) (by
    intro i j hij hj
    have b1 := hne i (by omega)
    have b2 := hne j hj
    have b3 := h2 i j hij hj
    by_cases q : f i < y
    · by_cases r : f j < y
      · simp only [if_pos q, if_pos r]; exact b3
      · simp only [if_pos q, if_neg r]; omega
    · by_cases r : f j < y
      · simp only [if_neg q, if_pos r]; omega
      · simp only [if_neg q, if_neg r]; omega)
  omega
/-! ===== how many places have a property ===== -/
def fb_ct (p : Nat → Bool) : Nat → Nat
  | 0 => 0
  | n + 1 => fb_ct p n + (if p n then 1 else 0)
theorem fb_ct_succ (p : Nat → Bool) (n : Nat) : fb_ct p (n + 1) = fb_ct p n + (if p n then 1 else 0) := rfl
theorem fb_ct_le (p : Nat → Bool) : ∀ n, fb_ct p n ≤ n
  | 0 => Nat.le_refl _
  | n + 1 => by
    have h := fb_ct_le p n
    rw [fb_ct_succ]
    split <;> omega
theorem fb_ct_step (p : Nat → Bool) (m : Nat) : ∀ n, fb_ct p m ≤ fb_ct p (m + n)
  | 0 => Nat.le_refl _
  | n + 1 => by
    have h := fb_ct_step p m n
    show fb_ct p m ≤ fb_ct p (m + n + 1)
    rw [fb_ct_succ]
    omega
theorem fb_ct_mono (p : Nat → Bool) {m n : Nat} (h : m ≤ n) : fb_ct p m ≤ fb_ct p n := by
  have := fb_ct_step p m (n - m)
  rwa [Nat.add_sub_cancel' h] at this
theorem fb_ct_cong {p q : Nat → Bool} : ∀ {n : Nat}, (∀ k, k < n → p k = q k) → fb_ct p n = fb_ct q n
  | 0, _ => rfl
  | n + 1, h => by
    rw [fb_ct_succ, fb_ct_succ, fb_ct_cong (fun k hk => h k (by omega)), h n (by omega)]
/-- one place changed -/
theorem fb_ct_out (p : Nat → Bool) (b : Bool) {i n : Nat} (h : n ≤ i) : fb_ct (fun k => if k = i then b else p k) n = fb_ct p n :=
  fb_ct_cong fun k hk => if_neg (by omega)
theorem fb_ct_upd (p : Nat → Bool) (b : Bool) {i : Nat} : ∀ {n : Nat}, i < n → fb_ct (fun k => if k = i then b else p k) n + (if p i then 1 else 0) = fb_ct p n + (if b then 1 else 0)
  | 0, h => absurd h (Nat.not_lt_zero i)
  | n + 1, h => by
    rw [fb_ct_succ, fb_ct_succ]
    rcases Nat.lt_or_ge i n with q | q
    · have := fb_ct_upd p b q
      have e : (if n = i then b else p n) = p n := if_neg (by omega)
      rw [e]
      omega
    · have e : i = n := by omega
      subst e
      rw [fb_ct_out p b (Nat.le_refl _)]
      simp only [if_true]
      omega
theorem fb_ct_sub {p q : Nat → Bool} : ∀ {n : Nat}, (∀ k, k < n → p k = true → q k = true) → fb_ct p n ≤ fb_ct q n
  | 0, _ => Nat.le_refl _
  | n + 1, h => by
    have h1 := fb_ct_sub (n := n) (p := p) (q := q) (fun k hk => h k (by omega))
    have h2 := h n (by omega)
    rw [fb_ct_succ, fb_ct_succ]
    cases hp : p n <;> cases hq : q n <;> simp_all <;> omega
theorem fb_ct_or {p q : Nat → Bool} : ∀ {n : Nat}, (∀ k, k < n → ¬ (p k = true ∧ q k = true)) → fb_ct (fun k => p k || q k) n = fb_ct p n + fb_ct q n
  | 0, _ => rfl
  | n + 1, h => by
    have h1 := fb_ct_or (n := n) (p := p) (q := q) (fun k hk => h k (by omega))
    have h2 := h n (by omega)
    rw [fb_ct_succ, fb_ct_succ, fb_ct_succ, h1]
    cases hp : p n <;> cases hq : q n <;> simp_all <;> omega
theorem fb_ct_not (p : Nat → Bool) : ∀ n, fb_ct p n + fb_ct (fun k => !p k) n = n
  | 0 => rfl
  | n + 1 => by
    have h := fb_ct_not p n
    rw [fb_ct_succ, fb_ct_succ]
    cases p n <;> simp <;> omega
theorem fb_ct_split (p : Nat → Bool) (m : Nat) : ∀ n, fb_ct p (m + n) = fb_ct p m + fb_ct (fun k => p (m + k)) n
  | 0 => rfl
  | n + 1 => by
    have h := fb_ct_split p m n
    show fb_ct p (m + n + 1) = _
    rw [fb_ct_succ, fb_ct_succ, h, Nat.add_assoc]
theorem fb_ct_zero {p : Nat → Bool} : ∀ {n : Nat}, fb_ct p n = 0 ↔ ∀ k, k < n → p k = false
  | 0 => ⟨fun _ k hk => absurd hk (Nat.not_lt_zero k), fun _ => rfl⟩
  | n + 1 => by
    have h := fb_ct_zero (p := p) (n := n)
    rw [fb_ct_succ]
    constructor
    · intro e k hk
      have e1 : fb_ct p n = 0 := by omega
      rcases Nat.lt_or_ge k n with q | q
      · exact h.mp e1 k q
      · have ek : k = n := by omega
        subst ek
        cases hp : p k
        · rfl
        · simp [hp] at e
    · intro a
      rw [h.mpr (fun k hk => a k (by omega)), a n (by omega)]
      rfl
theorem fb_ct_pos {p : Nat → Bool} {n : Nat} : 0 < fb_ct p n ↔ ∃ k, k < n ∧ p k = true := by
  constructor
  · intro h
    refine Classical.byContradiction fun hx => ?_
    have := fb_ct_zero.mpr (fun k hk => by
      cases hp : p k
      · rfl
      · exact absurd ⟨k, hk, hp⟩ hx : ∀ k, k < n → p k = false)
    omega
  · rintro ⟨k, hk, hp⟩
    rcases Nat.eq_zero_or_pos (fb_ct p n) with e | e
    · have := fb_ct_zero.mp e k hk
      rw [this] at hp
      cases hp
    · exact e
theorem fb_ct_all {p : Nat → Bool} {n : Nat} : fb_ct p n = n ↔ ∀ k, k < n → p k = true := by
  have h := fb_ct_not p n
  constructor
  · intro e k hk
    have z : fb_ct (fun k => !p k) n = 0 := by omega
    have := fb_ct_zero.mp z k hk
    cases hp : p k
    · simp [hp] at this
    · rfl
  · intro a
    have z : fb_ct (fun k => !p k) n = 0 := fb_ct_zero.mpr (fun k hk => by simp [a k hk])
    omega
/-- the k-th place with the property -/
theorem fb_ct_kth {p : Nat → Bool} {k : Nat} : ∀ {n : Nat}, k < fb_ct p n → ∃ i, i < n ∧ p i = true ∧ fb_ct p i = k
  | 0, h => absurd h (Nat.not_lt_zero k)
  | n + 1, h => by
    rcases Nat.lt_or_ge k (fb_ct p n) with q | q
    · obtain ⟨i, h1, h2⟩ := fb_ct_kth q
      exact ⟨i, by omega, h2⟩
    · rw [fb_ct_succ] at h
      cases hp : p n
      · simp [hp] at h; omega
      · simp [hp] at h
        exact ⟨n, by omega, hp, by omega⟩
theorem fb_ct_kth_one {p : Nat → Bool} {i j : Nat} (hi : p i = true) (hj : p j = true) (e : fb_ct p i = fb_ct p j) : i = j := by
  have key : ∀ a b : Nat, a < b → p a = true → fb_ct p a < fb_ct p b := by
    intro a b hab ha
    have h := fb_ct_mono p (show a + 1 ≤ b from hab)
    rw [fb_ct_succ, ha] at h
    simp at h
    omega
  rcases Nat.lt_trichotomy i j with q | q | q
  · have := key i j q hi; omega
  · exact q
  · have := key j i q hj; omega
/-! ===== sums over a range: one place changed, parts, bounds ===== -/
def fb_sm (f : Nat → Nat) : Nat → Nat
  | 0 => 0
  | n + 1 => fb_sm f n + f n
theorem fb_sm_succ (f : Nat → Nat) (n : Nat) : fb_sm f (n + 1) = fb_sm f n + f n := rfl
theorem fb_sm_cong {f g : Nat → Nat} : ∀ {n : Nat}, (∀ k, k < n → f k = g k) → fb_sm f n = fb_sm g n
  | 0, _ => rfl
  | n + 1, h => by rw [fb_sm_succ, fb_sm_succ, fb_sm_cong (fun k hk => h k (by omega)), h n (by omega)]
theorem fb_sm_out (f : Nat → Nat) (v : Nat) {i n : Nat} (h : n ≤ i) : fb_sm (fun k => if k = i then v else f k) n = fb_sm f n :=
  fb_sm_cong fun k hk => if_neg (by omega)
theorem fb_sm_upd (f : Nat → Nat) (v : Nat) {i : Nat} : ∀ {n : Nat}, i < n → fb_sm (fun k => if k = i then v else f k) n + f i = fb_sm f n + v
  | 0, h => absurd h (Nat.not_lt_zero i)
  | n + 1, h => by
    rw [fb_sm_succ, fb_sm_succ]
    rcases Nat.lt_or_ge i n with q | q
    · have := fb_sm_upd f v q
      have e : (if n = i then v else f n) = f n := if_neg (by omega)
      rw [e]
      omega
    · have e : i = n := by omega
      subst e
      rw [fb_sm_out f v (Nat.le_refl _)]
      simp only [if_true]
      omega
theorem fb_sm_add (f g : Nat → Nat) : ∀ n, fb_sm (fun k => f k + g k) n = fb_sm f n + fb_sm g n
  | 0 => rfl
  | n + 1 => by
    have h := fb_sm_add f g n
    rw [fb_sm_succ, fb_sm_succ, fb_sm_succ, h]
    omega
theorem fb_sm_le {f g : Nat → Nat} : ∀ {n : Nat}, (∀ k, k < n → f k ≤ g k) → fb_sm f n ≤ fb_sm g n
  | 0, _ => Nat.le_refl _
  | n + 1, h => by
    have h1 := fb_sm_le (n := n) (f := f) (g := g) (fun k hk => h k (by omega))
    have h2 := h n (by omega)
    rw [fb_sm_succ, fb_sm_succ]
    omega
theorem fb_sm_const (c : Nat) : ∀ n, fb_sm (fun _ => c) n = n * c
  | 0 => by rw [Nat.zero_mul]; rfl
  | n + 1 => by rw [fb_sm_succ, fb_sm_const c n, Nat.succ_mul]
theorem fb_sm_bound {f : Nat → Nat} {c n : Nat} (h : ∀ k, k < n → f k ≤ c) : fb_sm f n ≤ n * c := by
  rw [← fb_sm_const c n]
  exact fb_sm_le h
theorem fb_sm_mono (f : Nat → Nat) (m : Nat) : ∀ n, fb_sm f m ≤ fb_sm f (m + n)
  | 0 => Nat.le_refl _
  | n + 1 => by
    have h := fb_sm_mono f m n
    show fb_sm f m ≤ fb_sm f (m + n + 1)
    rw [fb_sm_succ]
    omega
theorem fb_sm_part (f : Nat → Nat) {i n : Nat} (h : i < n) : fb_sm f i + f i ≤ fb_sm f n := by
  have := fb_sm_mono f (i + 1) (n - (i + 1))
  rw [fb_sm_succ, show i + 1 + (n - (i + 1)) = n by omega] at this
  exact this
theorem fb_sm_split (f : Nat → Nat) (m : Nat) : ∀ n, fb_sm f (m + n) = fb_sm f m + fb_sm (fun k => f (m + k)) n
  | 0 => rfl
  | n + 1 => by
    have h := fb_sm_split f m n
    show fb_sm f (m + n + 1) = _
    rw [fb_sm_succ, fb_sm_succ, h, Nat.add_assoc]
theorem fb_sm_zero {f : Nat → Nat} {n : Nat} (h : fb_sm f n = 0) : ∀ k, k < n → f k = 0 := fun k hk => by
  have := fb_sm_part f hk
  omega
/-- the same over whole numbers -/
def fb_si (f : Nat → Int) : Nat → Int
  | 0 => 0
  | n + 1 => fb_si f n + f n
theorem fb_si_succ (f : Nat → Int) (n : Nat) : fb_si f (n + 1) = fb_si f n + f n := rfl
theorem fb_si_cong {f g : Nat → Int} : ∀ {n : Nat}, (∀ k, k < n → f k = g k) → fb_si f n = fb_si g n
  | 0, _ => rfl
  | n + 1, h => by rw [fb_si_succ, fb_si_succ, fb_si_cong (fun k hk => h k (by omega)), h n (by omega)]
theorem fb_si_out (f : Nat → Int) (v : Int) {i n : Nat} (h : n ≤ i) : fb_si (fun k => if k = i then v else f k) n = fb_si f n :=
  fb_si_cong fun k hk => if_neg (by omega)
theorem fb_si_upd (f : Nat → Int) (v : Int) {i : Nat} : ∀ {n : Nat}, i < n → fb_si (fun k => if k = i then v else f k) n = fb_si f n - f i + v
  | 0, h => absurd h (Nat.not_lt_zero i)
  | n + 1, h => by
    rw [fb_si_succ, fb_si_succ]
    rcases Nat.lt_or_ge i n with q | q
    · have := fb_si_upd f v q
      have e : (if n = i then v else f n) = f n := if_neg (by omega)
      rw [e]
      omega
    · have e : i = n := by omega
      subst e
      rw [fb_si_out f v (Nat.le_refl _)]
      simp only [if_true]
      omega
theorem fb_si_add (f g : Nat → Int) : ∀ n, fb_si (fun k => f k + g k) n = fb_si f n + fb_si g n
  | 0 => rfl
  | n + 1 => by
    have h := fb_si_add f g n
    rw [fb_si_succ, fb_si_succ, fb_si_succ, h]
    omega
theorem fb_si_sub (f g : Nat → Int) : ∀ n, fb_si (fun k => f k - g k) n = fb_si f n - fb_si g n
  | 0 => rfl
  | n + 1 => by
    have h := fb_si_sub f g n
    rw [fb_si_succ, fb_si_succ, fb_si_succ, h]
    omega
theorem fb_si_mul (c : Int) (f : Nat → Int) : ∀ n, fb_si (fun k => c * f k) n = c * fb_si f n
  | 0 => (Int.mul_zero c).symm
  | n + 1 => by
    have h := fb_si_mul c f n
    rw [fb_si_succ, fb_si_succ, h, Int.mul_add]
theorem fb_si_split (f : Nat → Int) (m : Nat) : ∀ n, fb_si f (m + n) = fb_si f m + fb_si (fun k => f (m + k)) n
  | 0 => (Int.add_zero _).symm
  | n + 1 => by
    have h := fb_si_split f m n
    show fb_si f (m + n + 1) = _
    rw [fb_si_succ, fb_si_succ, h, Int.add_assoc]
theorem fb_si_nat (f : Nat → Nat) : ∀ n, fb_si (fun k => (f k : Int)) n = (fb_sm f n : Int)
  | 0 => rfl
  | n + 1 => by
    have h := fb_si_nat f n
    rw [fb_si_succ, fb_sm_succ, h]
    omega
theorem fb_si_bound {f : Nat → Int} {c : Int} (hc : 0 ≤ c) : ∀ {n : Nat}, (∀ k, k < n → -c ≤ f k ∧ f k ≤ c) → -(n * c) ≤ fb_si f n ∧ fb_si f n ≤ n * c
  | 0, _ => by simp [fb_si]
  | n + 1, h => by
    have h1 := fb_si_bound (n := n) (f := f) hc (fun k hk => h k (by omega))
    have h2 := h n (by omega)
    have e : ((n + 1 : Nat) : Int) * c = n * c + c := by rw [Int.natCast_add, Int.add_mul]; simp
    rw [fb_si_succ, e]
    omega
/-! ===== bits of a long that isn't negative ===== -/
theorem fb_andL (a b : Nat) : lN a &&& lN b = lN (a &&& b) := by
  apply Int64.toBitVec_inj.1
  show BitVec.ofNat 64 a &&& BitVec.ofNat 64 b = BitVec.ofNat 64 (a &&& b)
  apply BitVec.eq_of_getLsbD_eq
  intro i hi
  simp [hi]
theorem fb_orL (a b : Nat) : lN a ||| lN b = lN (a ||| b) := by
  apply Int64.toBitVec_inj.1
  show BitVec.ofNat 64 a ||| BitVec.ofNat 64 b = BitVec.ofNat 64 (a ||| b)
  apply BitVec.eq_of_getLsbD_eq
  intro i hi
  simp [hi]
theorem fb_xorL (a b : Nat) : lN a ^^^ lN b = lN (a ^^^ b) := by
  apply Int64.toBitVec_inj.1
  show BitVec.ofNat 64 a ^^^ BitVec.ofNat 64 b = BitVec.ofNat 64 (a ^^^ b)
  apply BitVec.eq_of_getLsbD_eq
  intro i hi
  simp [hi]
theorem fb_xorI (a b : Nat) : nI a ^^^ nI b = nI (a ^^^ b) := by
  apply Int32.toBitVec_inj.1
  show BitVec.ofNat 32 a ^^^ BitVec.ofNat 32 b = BitVec.ofNat 32 (a ^^^ b)
  apply BitVec.eq_of_getLsbD_eq
  intro i hi
  simp [hi]
theorem fb_maskL (n k : Nat) : lN n &&& lN (2 ^ k - 1) = lN (n % 2 ^ k) := by rw [fb_andL, Nat.and_two_pow_sub_one_eq_mod]
theorem fb_or_sumL {a k : Nat} (b : Nat) (h : a < 2 ^ k) : lN (2 ^ k * b) ||| lN a = lN (2 ^ k * b + a) := by rw [fb_orL, Nat.two_pow_add_eq_or_of_lt h]
theorem fb_lN_inj {a b : Nat} (ha : a < 2 ^ 63) (hb : b < 2 ^ 63) : lN a = lN b ↔ a = b := by
  constructor
  · intro h
    have h1 : (BitVec.ofNat 64 a).toNat = (BitVec.ofNat 64 b).toNat := congrArg (fun x : Int64 => x.toBitVec.toNat) h
    rw [BitVec.toNat_ofNat, BitVec.toNat_ofNat, Nat.mod_eq_of_lt (by omega), Nat.mod_eq_of_lt (by omega)] at h1
    exact h1
  · rintro rfl; rfl
theorem fb_bit_nat (n j : Nat) : n &&& 2 ^ j = 0 ↔ n.testBit j = false := by
  constructor
  · intro h
    have h1 : (n &&& 2 ^ j).testBit j = false := by rw [h]; simp
    rw [Nat.testBit_and] at h1
    simpa using h1
  · intro h
    apply Nat.eq_of_testBit_eq
    intro i
    rw [Nat.testBit_and]
    by_cases hi : j = i
    · subst hi; simp [h]
    · first | (simp [Nat.testBit_two_pow, hi]; done) | (simp [Nat.testBit_two_pow_of_ne hi]; done)
/-- one bit of a long -/
theorem fb_bitL {n j : Nat} (hj : j < 63) : lN n &&& lN (2 ^ j) = 0 ↔ n.testBit j = false := by
  have h2 : (2 : Nat) ^ j < 2 ^ 63 := Nat.pow_lt_pow_right (by decide) hj
  have hle : n &&& 2 ^ j ≤ 2 ^ j := Nat.and_le_right
  rw [fb_andL, ← fb_bit_nat, show (0 : Int64) = lN 0 from rfl]
  exact fb_lN_inj (by omega) (by decide)
/-- a bit set, a bit taken off -/
theorem fb_bit_set (n j i : Nat) : (n ||| 2 ^ j).testBit i = (n.testBit i || decide (i = j)) := by
  rw [Nat.testBit_or]
  by_cases h : j = i
  · subst h; simp
  · have h2 : ¬ i = j := fun e => h e.symm
    first | (simp [Nat.testBit_two_pow, h, h2]; done) | (simp [Nat.testBit_two_pow_of_ne h, h2]; done)
theorem fb_bit_flip (n j i : Nat) : (n ^^^ 2 ^ j).testBit i = (n.testBit i ^^ decide (i = j)) := by
  rw [Nat.testBit_xor]
  by_cases h : j = i
  · subst h; simp
  · have h2 : ¬ i = j := fun e => h e.symm
    first | (simp [Nat.testBit_two_pow, h, h2]; done) | (simp [Nat.testBit_two_pow_of_ne h, h2]; done)
/-! ===== a stretch of an array written over by a function ===== -/
def fb_put {α : Type} (f g : Nat → α) (a n : Nat) : Nat → α := fun k => if a ≤ k ∧ k < a + n then g (k - a) else f k
theorem fb_put_0 {α : Type} (f g : Nat → α) (a : Nat) : fb_put f g a 0 = f := funext fun k => if_neg (by omega)
theorem fb_put_in {α : Type} {f g : Nat → α} {a n k : Nat} (h1 : a ≤ k) (h2 : k < a + n) : fb_put f g a n k = g (k - a) := if_pos ⟨h1, h2⟩
theorem fb_put_out {α : Type} {f g : Nat → α} {a n k : Nat} (h : k < a ∨ a + n ≤ k) : fb_put f g a n k = f k := if_neg (by omega)
theorem fb_put_succ (f g : Nat → Int32) (a n : Nat) : upd (fb_put f g a n) (a + n) (g n) = fb_put f g a (n + 1) := by
  funext k
  by_cases h : k = a + n
  · subst h
    simp [upd, fb_put]
  · by_cases h1 : a ≤ k ∧ k < a + n
    · have h2 : a ≤ k ∧ k < a + (n + 1) := by omega
      simp only [upd, fb_put, if_neg h, if_pos h1, if_pos h2]
    · have h2 : ¬ (a ≤ k ∧ k < a + (n + 1)) := by omega
      simp only [upd, fb_put, if_neg h, if_neg h1, if_neg h2]
/-- .. from the far end down -/
theorem fb_put_down (f g : Nat → Int32) {a n m : Nat} (h : m < n) : upd (fb_put f (fun k => g (k + (m + 1))) (a + (m + 1)) (n - (m + 1))) (a + m) (g m) = fb_put f (fun k => g (k + m)) (a + m) (n - m) := by
  funext k
  by_cases h0 : k = a + m
  · subst h0
    simp only [upd, if_true]
    rw [fb_put_in (by omega) (by omega)]
    exact congrArg g (by omega)
  · simp only [upd, if_neg h0]
    by_cases h1 : a + (m + 1) ≤ k ∧ k < a + (m + 1) + (n - (m + 1))
    · rw [fb_put_in h1.1 h1.2, fb_put_in (by omega) (by omega)]
      exact congrArg g (by omega)
    · rw [fb_put_out (by omega), fb_put_out (by omega)]
theorem fb_put_cong {α : Type} {f f2 g g2 : Nat → α} {a n : Nat} (hf : ∀ k, (k < a ∨ a + n ≤ k) → f k = f2 k) (hg : ∀ k, k < n → g k = g2 k) : fb_put f g a n = fb_put f2 g2 a n := by
  funext k
  by_cases h : a ≤ k ∧ k < a + n
  · rw [fb_put_in h.1 h.2, fb_put_in h.1 h.2, hg _ (by omega)]
  · rw [fb_put_out (by omega), fb_put_out (by omega), hf _ (by omega)]
/-! ===== the least, the first, the best so far; that there is one alone ===== -/
theorem fb_first {p : Nat → Prop} [DecidablePred p] : ∀ {n : Nat}, (∃ i, i < n ∧ p i) → ∃ i, i < n ∧ p i ∧ ∀ j, j < i → ¬ p j
  | 0, h => by obtain ⟨i, hi, -⟩ := h; exact absurd hi (Nat.not_lt_zero i)
  | n + 1, h => by
    by_cases q : ∃ i, i < n ∧ p i
    · obtain ⟨i, h1, h2⟩ := fb_first q
      exact ⟨i, by omega, h2⟩
    · obtain ⟨i, h1, h2⟩ := h
      have e : i = n := by
        rcases Nat.lt_or_ge i n with r | r
        · exact absurd ⟨i, r, h2⟩ q
        · omega
      subst e
      exact ⟨i, by omega, h2, fun j hj hp => q ⟨j, hj, hp⟩⟩
theorem fb_first_one {p : Nat → Prop} {i j : Nat} (hi : p i) (hi2 : ∀ k, k < i → ¬ p k) (hj : p j) (hj2 : ∀ k, k < j → ¬ p k) : i = j := by
  rcases Nat.lt_trichotomy i j with q | q | q
  · exact absurd hi (hj2 i q)
  · exact q
  · exact absurd hj (hi2 j q)
theorem fb_last {p : Nat → Prop} [DecidablePred p] : ∀ {n : Nat}, (∃ i, i < n ∧ p i) → ∃ i, i < n ∧ p i ∧ ∀ j, i < j → j < n → ¬ p j
  | 0, h => by obtain ⟨i, hi, -⟩ := h; exact absurd hi (Nat.not_lt_zero i)
  | n + 1, h => by
    by_cases q : p n
    · exact ⟨n, by omega, q, fun j h1 h2 => by omega⟩
    · obtain ⟨i, h1, h2⟩ := h
      have hi : i < n := by
        rcases Nat.lt_or_ge i n with r | r
        · exact r
        · have e : i = n := by omega
          subst e
          exact absurd h2 q
      obtain ⟨i2, a1, a2, a3⟩ := fb_last (n := n) ⟨i, hi, h2⟩
      refine ⟨i2, by omega, a2, fun j b1 b2 => ?_⟩
      rcases Nat.lt_or_ge j n with r | r
      · exact a3 j b1 r
      · have e : j = n := by omega
        subst e
        exact q
/-- the first greatest -/
theorem fb_best (f : Nat → Int) : ∀ {n : Nat}, 0 < n → ∃ i, i < n ∧ (∀ j, j < n → f j ≤ f i) ∧ ∀ j, j < i → f j < f i
  | 0, h => absurd h (Nat.lt_irrefl 0)
  | 1, _ => ⟨0, by omega, fun j hj => by have e : j = 0 := by omega
                                         subst e; exact Int.le_refl _, fun j hj => absurd hj (Nat.not_lt_zero j)⟩
  | n + 2, _ => by
    obtain ⟨i, h1, h2, h3⟩ := fb_best f (n := n + 1) (by omega)
    by_cases q : f i < f (n + 1)
    · refine ⟨n + 1, by omega, fun j hj => ?_, fun j hj => ?_⟩
      · rcases Nat.lt_or_ge j (n + 1) with r | r
        · have := h2 j r; omega
        · have e : j = n + 1 := by omega
          subst e; exact Int.le_refl _
      · have := h2 j hj; omega
    · refine ⟨i, by omega, fun j hj => ?_, h3⟩
      rcases Nat.lt_or_ge j (n + 1) with r | r
      · exact h2 j r
      · have e : j = n + 1 := by omega
        subst e; omega
theorem fb_best_one {f : Nat → Int} {n i j : Nat} (hi : i < n) (hi2 : ∀ k, k < n → f k ≤ f i) (hi3 : ∀ k, k < i → f k < f i) (hj : j < n) (hj2 : ∀ k, k < n → f k ≤ f j) (hj3 : ∀ k, k < j → f k < f j) : i = j := by
  rcases Nat.lt_trichotomy i j with q | q | q
  · have a := hj3 i q
    have b := hi2 j hj
    omega
  · exact q
  · have a := hi3 j q
    have b := hj2 i hi
    omega
/-- the first least -/
theorem fb_low (f : Nat → Int) {n : Nat} (h : 0 < n) : ∃ i, i < n ∧ (∀ j, j < n → f i ≤ f j) ∧ ∀ j, j < i → f i < f j := by
  obtain ⟨i, h1, h2, h3⟩ := fb_best (fun k => -f k) h
  exact ⟨i, h1, fun j hj => by have := h2 j hj; omega, fun j hj => by have := h3 j hj; omega⟩
/-! ===== signed ints as whole numbers, within bounds ===== -/
theorem fb_rng (x : Int32) : -2147483648 ≤ x.toInt ∧ x.toInt < 2147483648 := by
  have h1 := Int32.le_toInt x
  have h2 := Int32.toInt_lt x
  omega
theorem fb_bmod {z : Int} (h1 : -2147483648 ≤ z) (h2 : z < 2147483648) : z.bmod (2 ^ 32) = z := by
  rw [Int.bmod_eq_of_le (by omega) (by omega)]
theorem fb_addI {x y : Int32} (h1 : -2147483648 ≤ x.toInt + y.toInt) (h2 : x.toInt + y.toInt < 2147483648) : (x + y).toInt = x.toInt + y.toInt := by
  rw [Int32.toInt_add, fb_bmod h1 h2]
theorem fb_subI {x y : Int32} (h1 : -2147483648 ≤ x.toInt - y.toInt) (h2 : x.toInt - y.toInt < 2147483648) : (x - y).toInt = x.toInt - y.toInt := by
  rw [Int32.toInt_sub, fb_bmod h1 h2]
theorem fb_mulI {x y : Int32} (h1 : -2147483648 ≤ x.toInt * y.toInt) (h2 : x.toInt * y.toInt < 2147483648) : (x * y).toInt = x.toInt * y.toInt := by
  rw [Int32.toInt_mul, fb_bmod h1 h2]
theorem fb_negI {x : Int32} (h : x.toInt ≠ -2147483648) : (-x).toInt = -x.toInt := by
  have := fb_rng x
  rw [Int32.toInt_neg, fb_bmod (by omega) (by omega)]
theorem fb_ofI {z : Int} (h1 : -2147483648 ≤ z) (h2 : z < 2147483648) : (Int32.ofInt z).toInt = z := by
  rw [Int32.toInt_ofInt, fb_bmod h1 h2]
theorem fb_asI (x : Int32) : Int32.ofInt x.toInt = x := Int32.ofInt_toInt x
theorem fb_rngL (x : Int64) : -9223372036854775808 ≤ x.toInt ∧ x.toInt < 9223372036854775808 := by
  have h1 := Int64.le_toInt x
  have h2 := Int64.toInt_lt x
  omega
theorem fb_bmodL {z : Int} (h1 : -9223372036854775808 ≤ z) (h2 : z < 9223372036854775808) : z.bmod (2 ^ 64) = z := by
  rw [Int.bmod_eq_of_le (by omega) (by omega)]
theorem fb_addL {x y : Int64} (h1 : -9223372036854775808 ≤ x.toInt + y.toInt) (h2 : x.toInt + y.toInt < 9223372036854775808) : (x + y).toInt = x.toInt + y.toInt := by
  rw [Int64.toInt_add, fb_bmodL h1 h2]
theorem fb_subL {x y : Int64} (h1 : -9223372036854775808 ≤ x.toInt - y.toInt) (h2 : x.toInt - y.toInt < 9223372036854775808) : (x - y).toInt = x.toInt - y.toInt := by
  rw [Int64.toInt_sub, fb_bmodL h1 h2]
theorem fb_mulL {x y : Int64} (h1 : -9223372036854775808 ≤ x.toInt * y.toInt) (h2 : x.toInt * y.toInt < 9223372036854775808) : (x * y).toInt = x.toInt * y.toInt := by
  rw [Int64.toInt_mul, fb_bmodL h1 h2]
/-! ===== cuts of what is narrow already ===== -/
theorem fb_byte {x : Int32} (h1 : -128 ≤ x.toInt) (h2 : x.toInt < 128) : x.toInt8.toInt32 = x := by
  apply Int32.toInt_inj.1
  rw [Int8.toInt_toInt32, Int32.toInt_toInt8, Int.bmod_eq_of_le (by omega) (by omega)]
theorem fb_short {x : Int32} (h1 : -32768 ≤ x.toInt) (h2 : x.toInt < 32768) : x.toInt16.toInt32 = x := by
  apply Int32.toInt_inj.1
  rw [Int16.toInt_toInt32, Int32.toInt_toInt16, Int.bmod_eq_of_le (by omega) (by omega)]
theorem fb_byte_rng (x : Int32) : -128 ≤ x.toInt8.toInt32.toInt ∧ x.toInt8.toInt32.toInt < 128 := by
  rw [Int8.toInt_toInt32]
  have h1 := Int8.le_toInt x.toInt8
  have h2 := Int8.toInt_lt x.toInt8
  omega
theorem fb_short_rng (x : Int32) : -32768 ≤ x.toInt16.toInt32.toInt ∧ x.toInt16.toInt32.toInt < 32768 := by
  rw [Int16.toInt_toInt32]
  have h1 := Int16.le_toInt x.toInt16
  have h2 := Int16.toInt_lt x.toInt16
  omega
theorem fb_byte_twice (x : Int32) : x.toInt8.toInt32.toInt8.toInt32 = x.toInt8.toInt32 := fb_byte (fb_byte_rng x).1 (fb_byte_rng x).2
theorem fb_short_twice (x : Int32) : x.toInt16.toInt32.toInt16.toInt32 = x.toInt16.toInt32 := fb_short (fb_short_rng x).1 (fb_short_rng x).2
theorem fb_char {n : Nat} (h : n < 65536) : (nI n).toUInt32.toUInt16.toUInt32.toInt32 = nI n := by
  apply Int32.toBitVec_inj.1
  apply BitVec.eq_of_toNat_eq
  have e1 : (nI n).toBitVec.toNat = n := by
    show (BitVec.ofNat 32 n).toNat = n
    rw [BitVec.toNat_ofNat, Nat.mod_eq_of_lt (by omega)]
  have e2 : ((nI n).toUInt32.toUInt16.toUInt32).toNat = n := by
    rw [UInt16.toNat_toUInt32, UInt32.toNat_toUInt16]
    show (nI n).toBitVec.toNat % 2 ^ 16 = n
    rw [e1, Nat.mod_eq_of_lt (by omega)]
  rw [e1]
  exact e2
end
section
abbrev Cf : Type := (Nat → Int32) × (Nat → Int32) × (Nat → Int32) × (Nat → Int32) × (Nat → Int32)
abbrev Ss : Type := (Nat → Int32) × (Nat → Int32) × (Nat → Int32)
abbrev Fn : Type := Nat → Int32
abbrev Ky : Type := (Nat → Int32) × (Nat → Int32)
abbrev Tx : Type := (Nat → Int32) × (Nat → Int32)
abbrev wV (cI : ClassId) (qv qb qa : Nat) (k : Cf) : va_W := [(qv, .inr (7, [.ref qb, .ref qa, .int (k.1 0), .int (k.1 1), .int (k.1 2)])), (qb, .inl (cI, 5, .inl k.2.1)), (qa, .inl (cI, 30, .inl k.2.2.1))]
abbrev wC (cI : ClassId) (qc qe qr : Nat) (k : Cf) : va_W := [(qc, .inr (2, [.ref qe, .ref qr, .int (k.1 3)])), (qe, .inl (cI, 12, .inl k.2.2.2.1)), (qr, .inl (cI, 12, .inl k.2.2.2.2))]
abbrev wT (cI : ClassId) (qt : Nat) (k : Cf) : va_W := [(qt, .inr (5, [.int (k.1 4), .int (k.1 5), .int (k.1 6), .int (k.1 7), .int (k.1 8)]))]
abbrev wH (cI : ClassId) (qh ql : Nat) (g : Ss) : va_W := [(qh, .inr (6, [.ref ql, .int (g.1 11)])), (ql, .inl (cI, 3, .inl g.2.1))]
abbrev wD (cI : ClassId) (qd : Nat) (g : Ss) : va_W := [(qd, .inr (3, [.int (g.1 6), .int (g.1 7), .int (g.1 8), .int (g.1 9), .int (g.1 10)]))]
abbrev wS (cI : ClassId) (qs qo qh ql qd qv qb qa qc qe qr qt : Nat) (k : Cf) (g : Ss) : va_W := [(qs, .inr (4, [.ref qv, .ref qc, .ref qt, .ref qo, .ref qh, .ref qd, .int (g.1 4), .int (g.1 0), .int (g.1 2), .int (g.1 1), .int (g.1 3), .int (g.1 5), .int (g.1 16), .int (g.1 17), .int (g.1 18), .int (g.1 19), .int (g.1 20), .int (g.1 15)])), (qo, .inl (cI, 30, .inl g.2.2)), (qh, .inr (6, [.ref ql, .int (g.1 11)])), (ql, .inl (cI, 3, .inl g.2.1)), (qd, .inr (3, [.int (g.1 6), .int (g.1 7), .int (g.1 8), .int (g.1 9), .int (g.1 10)])), (qv, .inr (7, [.ref qb, .ref qa, .int (k.1 0), .int (k.1 1), .int (k.1 2)])), (qb, .inl (cI, 5, .inl k.2.1)), (qa, .inl (cI, 30, .inl k.2.2.1)), (qc, .inr (2, [.ref qe, .ref qr, .int (k.1 3)])), (qe, .inl (cI, 12, .inl k.2.2.2.1)), (qr, .inl (cI, 12, .inl k.2.2.2.2)), (qt, .inr (5, [.int (k.1 4), .int (k.1 5), .int (k.1 6), .int (k.1 7), .int (k.1 8)]))]
abbrev wP (cI : ClassId) (cB : ClassId) (qp qs qo qh ql qd qv qb qa qc qe qr qt ws wo wh wl wd qx qy : Nat) (k : Cf) (g : Ss) (h : Ss) (x : Tx) : va_W := [(qp, .inr (8, [.ref qv, .ref qc, .ref qt, .ref qs, .ref ws, .ref qx, .int (k.1 9), .int (k.1 10)])), (qs, .inr (4, [.ref qv, .ref qc, .ref qt, .ref qo, .ref qh, .ref qd, .int (g.1 4), .int (g.1 0), .int (g.1 2), .int (g.1 1), .int (g.1 3), .int (g.1 5), .int (g.1 16), .int (g.1 17), .int (g.1 18), .int (g.1 19), .int (g.1 20), .int (g.1 15)])), (qo, .inl (cI, 30, .inl g.2.2)), (qh, .inr (6, [.ref ql, .int (g.1 11)])), (ql, .inl (cI, 3, .inl g.2.1)), (qd, .inr (3, [.int (g.1 6), .int (g.1 7), .int (g.1 8), .int (g.1 9), .int (g.1 10)])), (qv, .inr (7, [.ref qb, .ref qa, .int (k.1 0), .int (k.1 1), .int (k.1 2)])), (qb, .inl (cI, 5, .inl k.2.1)), (qa, .inl (cI, 30, .inl k.2.2.1)), (qc, .inr (2, [.ref qe, .ref qr, .int (k.1 3)])), (qe, .inl (cI, 12, .inl k.2.2.2.1)), (qr, .inl (cI, 12, .inl k.2.2.2.2)), (qt, .inr (5, [.int (k.1 4), .int (k.1 5), .int (k.1 6), .int (k.1 7), .int (k.1 8)])), (ws, .inr (4, [.ref qv, .ref qc, .ref qt, .ref wo, .ref wh, .ref wd, .int (h.1 4), .int (h.1 0), .int (h.1 2), .int (h.1 1), .int (h.1 3), .int (h.1 5), .int (h.1 16), .int (h.1 17), .int (h.1 18), .int (h.1 19), .int (h.1 20), .int (h.1 15)])), (wo, .inl (cI, 30, .inl h.2.2)), (wh, .inr (6, [.ref wl, .int (h.1 11)])), (wl, .inl (cI, 3, .inl h.2.1)), (wd, .inr (3, [.int (h.1 6), .int (h.1 7), .int (h.1 8), .int (h.1 9), .int (h.1 10)])), (qx, .inr (1, [.ref qy, .int 0, .int (x.1 1), .int (x.1 0)])), (qy, .inl (cB, 16, .inl x.2))]
abbrev wM (cI : ClassId) (qm mb ma me mr mn ms mk : Nat) (k : Cf) (n : Fn) (a : Fn) (y : Ky) : va_W := [(qm, .inr (9, [.int (k.1 0), .int (k.1 1), .ref ma, .int (k.1 2), .ref mb, .int (k.1 3), .ref me, .ref mr, .int (k.1 4), .int (k.1 5), .int (k.1 6), .int (k.1 7), .int (k.1 8), .int (k.1 9), .int (k.1 10), .ref mn, .ref ms, .int (y.1 0), .ref mk, .int (y.1 1)])), (mb, .inl (cI, 5, .inl k.2.1)), (ma, .inl (cI, 30, .inl k.2.2.1)), (me, .inl (cI, 12, .inl k.2.2.2.1)), (mr, .inl (cI, 12, .inl k.2.2.2.2)), (mn, .inl (cI, 52, .inl n)), (ms, .inl (cI, 52, .inl a)), (mk, .inl (cI, 16, .inl y.2))]
end
section
def f_X6_isWithin (p0 : Int32) (p1 : Int32) (p2 : Int32) : Int32 := if p0 < p1 then (0 : Int32) else (if p2 < p0 then (0 : Int32) else (1 : Int32))
set_option maxRecDepth 100000 in
set_option maxHeartbeats 4000000 in
theorem c_X6_isWithin {l : Launch} {D : va_G} {cI cB : ClassId}  (p0 : Int32) (p1 : Int32) (p2 : Int32) : CI l X0 D cI cB yX6_isWithin cX6_isWithin 3 (some .boolean) 0 0 0 0 [.int p0, .int p1, .int p2] [] (fun (r : Int32) (_ : Unit) => r = (f_X6_isWithin p0 p1 p2)) (fun _ => []) := by
  refine CI.of (by decide) (Nat.le_of_ble_eq_true rfl) ?_
  intro p e s m below meth c A ls E hr hk hin hA hAA hX Y hl
  have E : EE p c cX6_isWithin 3 s _ m RX6 D cI cB := E
  have hl : lv_has ls 3 [(0, .int p0), (1, .int p1), (2, .int p2)] := hl
  refine lv_iload_n E.1.1 E.1.2.1 dX6_isWithin_0 rfl (lv_at hl 0 rfl) ?_
  refine lv_iload_n E.1.1 E.1.2.1 dX6_isWithin_1 rfl (lv_at hl 1 rfl) ?_
  refine lv_icmp_lt (tgt := 14) E.1.1 E.1.2.1 dX6_isWithin_2 (by decide) (fun c_2 => ?_) (fun c_2 => ?_)
  · skip
    refine lv_iconst (v := 0) E.1.1 E.1.2.1 dX6_isWithin_14 (by decide) ?_
    have e9 : (f_X6_isWithin p0 p1 p2) = (0 : Int32) := (if_pos c_2).trans (rfl)
    exact r_zret E Y hr hk (0 : Int32) rfl () (e9.symm) rfl ⟨Nat.le_of_ble_eq_true rfl, Nat.le_of_ble_eq_true rfl⟩ dX6_isWithin_15
  · skip
    refine lv_iload_n E.1.1 E.1.2.1 dX6_isWithin_5 rfl (lv_at hl 0 rfl) ?_
    refine lv_iload_n E.1.1 E.1.2.1 dX6_isWithin_6 rfl (lv_at hl 2 rfl) ?_
    refine lv_icmp_gt (tgt := 14) E.1.1 E.1.2.1 dX6_isWithin_7 (by decide) (fun c_7 => ?_) (fun c_7 => ?_)
    · skip
      refine lv_iconst (v := 0) E.1.1 E.1.2.1 dX6_isWithin_14 (by decide) ?_
      have e9 : (f_X6_isWithin p0 p1 p2) = (0 : Int32) := (if_neg c_2).trans ((if_pos c_7).trans (rfl))
      exact r_zret E Y hr hk (0 : Int32) rfl () (e9.symm) rfl ⟨Nat.le_of_ble_eq_true rfl, Nat.le_of_ble_eq_true rfl⟩ dX6_isWithin_15
    · skip
      refine lv_iconst (v := 1) E.1.1 E.1.2.1 dX6_isWithin_10 (by decide) ?_
      refine lv_goto (tgt := 15) E.1.1 E.1.2.1 dX6_isWithin_11 (by decide) ?_
      have e9 : (f_X6_isWithin p0 p1 p2) = (1 : Int32) := (if_neg c_2).trans ((if_neg c_7).trans (rfl))
      exact r_zret E Y hr hk (1 : Int32) rfl () (e9.symm) rfl ⟨Nat.le_of_ble_eq_true rfl, Nat.le_of_ble_eq_true rfl⟩ dX6_isWithin_15

def f_X6_oneIf (p0 : Int32) : Int32 := if p0 = 0 then (0 : Int32) else (1 : Int32)
set_option maxRecDepth 100000 in
set_option maxHeartbeats 4000000 in
theorem c_X6_oneIf {l : Launch} {D : va_G} {cI cB : ClassId}  (p0 : Int32) : CI l X0 D cI cB yX6_oneIf cX6_oneIf 1 (some .int) 0 0 0 0 [.int p0] [] (fun (r : Int32) (_ : Unit) => r = (f_X6_oneIf p0)) (fun _ => []) := by
  refine CI.of (by decide) (Nat.le_of_ble_eq_true rfl) ?_
  intro p e s m below meth c A ls E hr hk hin hA hAA hX Y hl
  have E : EE p c cX6_oneIf 1 s _ m RX6 D cI cB := E
  have hl : lv_has ls 1 [(0, .int p0)] := hl
  refine lv_iload_n E.1.1 E.1.2.1 dX6_oneIf_0 rfl (lv_at hl 0 rfl) ?_
  refine lv_if_eq (tgt := 8) E.1.1 E.1.2.1 dX6_oneIf_1 (by decide) (fun c_1 => ?_) (fun c_1 => ?_)
  · skip
    refine lv_iconst (v := 0) E.1.1 E.1.2.1 dX6_oneIf_8 (by decide) ?_
    have e9 : (f_X6_oneIf p0) = (0 : Int32) := (if_pos c_1).trans (rfl)
    exact r_iret E Y hr hk (0 : Int32) () (e9.symm) rfl ⟨Nat.le_of_ble_eq_true rfl, Nat.le_of_ble_eq_true rfl⟩ dX6_oneIf_9
  · skip
    refine lv_iconst (v := 1) E.1.1 E.1.2.1 dX6_oneIf_4 (by decide) ?_
    refine lv_goto (tgt := 9) E.1.1 E.1.2.1 dX6_oneIf_5 (by decide) ?_
    have e9 : (f_X6_oneIf p0) = (1 : Int32) := (if_neg c_1).trans (rfl)
    exact r_iret E Y hr hk (1 : Int32) () (e9.symm) rfl ⟨Nat.le_of_ble_eq_true rfl, Nat.le_of_ble_eq_true rfl⟩ dX6_oneIf_9

def f_X5_hasSegment (k : Cf) (p0 : Int32) : Int32 := if p0 < 0 then (0 : Int32) else (if (k.1 0) ≤ p0 then (0 : Int32) else (if (30 : Int32) ≤ p0 then (0 : Int32) else (1 : Int32)))
set_option maxRecDepth 100000 in
set_option maxHeartbeats 4000000 in
theorem c_X5_hasSegment {l : Launch} {D : va_G} {cI cB : ClassId} (qv qb qa : Nat) (k : Cf) (p0 : Int32) : CI l X0 D cI cB yX5_hasSegment cX5_hasSegment 2 (some .boolean) 0 0 0 0 [.ref qv, .int p0] (wV cI qv qb qa k) (fun (r : Int32) (_ : Unit) => r = (f_X5_hasSegment k p0)) (fun _ => (wV cI qv qb qa k)) := by
  refine CI.of (by decide) (Nat.le_of_ble_eq_true rfl) ?_
  intro p e s m below meth c A ls E hr hk hin hA hAA hX Y hl
  have E : EE p c cX5_hasSegment 2 s _ m RX5 D cI cB := E
  have hl : lv_has ls 2 [(0, .ref qv), (1, .int p0)] := hl
  refine lv_iload_n E.1.1 E.1.2.1 dX5_hasSegment_0 rfl (lv_at hl 1 rfl) ?_
  refine lv_if_lt (tgt := 25) E.1.1 E.1.2.1 dX5_hasSegment_1 (by decide) (fun c_1 => ?_) (fun c_1 => ?_)
  · skip
    refine lv_iconst (v := 0) E.1.1 E.1.2.1 dX5_hasSegment_25 (by decide) ?_
    have e9 : (f_X5_hasSegment k p0) = (0 : Int32) := (if_pos c_1).trans (rfl)
    exact r_zret E Y hr hk (0 : Int32) rfl () (e9.symm) rfl ⟨Nat.le_of_ble_eq_true rfl, Nat.le_of_ble_eq_true rfl⟩ dX5_hasSegment_26
  · skip
    refine lv_iload_n E.1.1 E.1.2.1 dX5_hasSegment_4 rfl (lv_at hl 1 rfl) ?_
    refine lv_aload_n E.1.1 E.1.2.1 dX5_hasSegment_5 rfl (lv_at hl 0 rfl) ?_
    refine gf_X5_22 E Y 0 rfl rfl dX5_hasSegment_6 ?_
    refine lv_icmp_ge (tgt := 25) E.1.1 E.1.2.1 dX5_hasSegment_9 (by decide) (fun c_9 => ?_) (fun c_9 => ?_)
    · skip
      refine lv_iconst (v := 0) E.1.1 E.1.2.1 dX5_hasSegment_25 (by decide) ?_
      have e9 : (f_X5_hasSegment k p0) = (0 : Int32) := (if_neg c_1).trans ((if_pos c_9).trans (rfl))
      exact r_zret E Y hr hk (0 : Int32) rfl () (e9.symm) rfl ⟨Nat.le_of_ble_eq_true rfl, Nat.le_of_ble_eq_true rfl⟩ dX5_hasSegment_26
    · skip
      refine lv_iload_n E.1.1 E.1.2.1 dX5_hasSegment_12 rfl (lv_at hl 1 rfl) ?_
      refine lv_aload_n E.1.1 E.1.2.1 dX5_hasSegment_13 rfl (lv_at hl 0 rfl) ?_
      refine gf_X5_15 E Y 0 rfl rfl dX5_hasSegment_14 ?_
      refine r_alenI (v := 30) E Y 2 rfl (by decide) dX5_hasSegment_17 ?_
      refine lv_icmp_ge (tgt := 25) E.1.1 E.1.2.1 dX5_hasSegment_18 (by decide) (fun c_18 => ?_) (fun c_18 => ?_)
      · skip
        refine lv_iconst (v := 0) E.1.1 E.1.2.1 dX5_hasSegment_25 (by decide) ?_
        have e9 : (f_X5_hasSegment k p0) = (0 : Int32) := (if_neg c_1).trans ((if_neg c_9).trans ((if_pos c_18).trans (rfl)))
        exact r_zret E Y hr hk (0 : Int32) rfl () (e9.symm) rfl ⟨Nat.le_of_ble_eq_true rfl, Nat.le_of_ble_eq_true rfl⟩ dX5_hasSegment_26
      · skip
        refine lv_iconst (v := 1) E.1.1 E.1.2.1 dX5_hasSegment_21 (by decide) ?_
        refine lv_goto (tgt := 26) E.1.1 E.1.2.1 dX5_hasSegment_22 (by decide) ?_
        have e9 : (f_X5_hasSegment k p0) = (1 : Int32) := (if_neg c_1).trans ((if_neg c_9).trans ((if_neg c_18).trans (rfl)))
        exact r_zret E Y hr hk (1 : Int32) rfl () (e9.symm) rfl ⟨Nat.le_of_ble_eq_true rfl, Nat.le_of_ble_eq_true rfl⟩ dX5_hasSegment_26

def f_X5_hasLevel (k : Cf) (p0 : Int32) : Int32 := if p0 < 0 then (0 : Int32) else (if (k.1 2) ≤ p0 then (0 : Int32) else (if (5 : Int32) ≤ p0 then (0 : Int32) else (1 : Int32)))
set_option maxRecDepth 100000 in
set_option maxHeartbeats 4000000 in
theorem c_X5_hasLevel {l : Launch} {D : va_G} {cI cB : ClassId} (qv qb qa : Nat) (k : Cf) (p0 : Int32) : CI l X0 D cI cB yX5_hasLevel cX5_hasLevel 2 (some .boolean) 0 0 0 0 [.ref qv, .int p0] (wV cI qv qb qa k) (fun (r : Int32) (_ : Unit) => r = (f_X5_hasLevel k p0)) (fun _ => (wV cI qv qb qa k)) := by
  refine CI.of (by decide) (Nat.le_of_ble_eq_true rfl) ?_
  intro p e s m below meth c A ls E hr hk hin hA hAA hX Y hl
  have E : EE p c cX5_hasLevel 2 s _ m RX5 D cI cB := E
  have hl : lv_has ls 2 [(0, .ref qv), (1, .int p0)] := hl
  refine lv_iload_n E.1.1 E.1.2.1 dX5_hasLevel_0 rfl (lv_at hl 1 rfl) ?_
  refine lv_if_lt (tgt := 25) E.1.1 E.1.2.1 dX5_hasLevel_1 (by decide) (fun c_1 => ?_) (fun c_1 => ?_)
  · skip
    refine lv_iconst (v := 0) E.1.1 E.1.2.1 dX5_hasLevel_25 (by decide) ?_
    have e9 : (f_X5_hasLevel k p0) = (0 : Int32) := (if_pos c_1).trans (rfl)
    exact r_zret E Y hr hk (0 : Int32) rfl () (e9.symm) rfl ⟨Nat.le_of_ble_eq_true rfl, Nat.le_of_ble_eq_true rfl⟩ dX5_hasLevel_26
  · skip
    refine lv_iload_n E.1.1 E.1.2.1 dX5_hasLevel_4 rfl (lv_at hl 1 rfl) ?_
    refine lv_aload_n E.1.1 E.1.2.1 dX5_hasLevel_5 rfl (lv_at hl 0 rfl) ?_
    refine gf_X5_29 E Y 0 rfl rfl dX5_hasLevel_6 ?_
    refine lv_icmp_ge (tgt := 25) E.1.1 E.1.2.1 dX5_hasLevel_9 (by decide) (fun c_9 => ?_) (fun c_9 => ?_)
    · skip
      refine lv_iconst (v := 0) E.1.1 E.1.2.1 dX5_hasLevel_25 (by decide) ?_
      have e9 : (f_X5_hasLevel k p0) = (0 : Int32) := (if_neg c_1).trans ((if_pos c_9).trans (rfl))
      exact r_zret E Y hr hk (0 : Int32) rfl () (e9.symm) rfl ⟨Nat.le_of_ble_eq_true rfl, Nat.le_of_ble_eq_true rfl⟩ dX5_hasLevel_26
    · skip
      refine lv_iload_n E.1.1 E.1.2.1 dX5_hasLevel_12 rfl (lv_at hl 1 rfl) ?_
      refine lv_aload_n E.1.1 E.1.2.1 dX5_hasLevel_13 rfl (lv_at hl 0 rfl) ?_
      refine gf_X5_9 E Y 0 rfl rfl dX5_hasLevel_14 ?_
      refine r_alenI (v := 5) E Y 1 rfl (by decide) dX5_hasLevel_17 ?_
      refine lv_icmp_ge (tgt := 25) E.1.1 E.1.2.1 dX5_hasLevel_18 (by decide) (fun c_18 => ?_) (fun c_18 => ?_)
      · skip
        refine lv_iconst (v := 0) E.1.1 E.1.2.1 dX5_hasLevel_25 (by decide) ?_
        have e9 : (f_X5_hasLevel k p0) = (0 : Int32) := (if_neg c_1).trans ((if_neg c_9).trans ((if_pos c_18).trans (rfl)))
        exact r_zret E Y hr hk (0 : Int32) rfl () (e9.symm) rfl ⟨Nat.le_of_ble_eq_true rfl, Nat.le_of_ble_eq_true rfl⟩ dX5_hasLevel_26
      · skip
        refine lv_iconst (v := 1) E.1.1 E.1.2.1 dX5_hasLevel_21 (by decide) ?_
        refine lv_goto (tgt := 26) E.1.1 E.1.2.1 dX5_hasLevel_22 (by decide) ?_
        have e9 : (f_X5_hasLevel k p0) = (1 : Int32) := (if_neg c_1).trans ((if_neg c_9).trans ((if_neg c_18).trans (rfl)))
        exact r_zret E Y hr hk (1 : Int32) rfl () (e9.symm) rfl ⟨Nat.le_of_ble_eq_true rfl, Nat.le_of_ble_eq_true rfl⟩ dX5_hasLevel_26

theorem vp0 {x : Int32} (n : Nat) (hn : n < 2 ^ 31) (h0 : ¬ x < 0) (h1 : ¬ nI n ≤ x) : vp_in x n := by
  intro h
  rcases h with h | h
  · exact h0 h
  · obtain ⟨j, hj, rfl⟩ := nI_of h0
    rw [nI_clamp hj] at h
    exact h1 (nI_le h hj)
theorem hasSegment_in {k : Cf} {x : Int32} (h : ¬ f_X5_hasSegment k x = 0) : vp_in x 30 := by
  unfold f_X5_hasSegment at h
  split at h
  · exact absurd rfl h
  · split at h
    · exact absurd rfl h
    · split at h
      · exact absurd rfl h
      · exact vp0 30 (by decide) (by assumption) (by assumption)
theorem hasLevel_in {k : Cf} {x : Int32} (h : ¬ f_X5_hasLevel k x = 0) : vp_in x 5 := by
  unfold f_X5_hasLevel at h
  split at h
  · exact absurd rfl h
  · split at h
    · exact absurd rfl h
    · split at h
      · exact absurd rfl h
      · exact vp0 5 (by decide) (by assumption) (by assumption)

theorem nI_nge {a b : Nat} (h : ¬ nI a ≤ nI b) (hb : b < 2 ^ 31) : b < a := Nat.lt_of_not_le (fun z => h (nI_le z hb))
theorem nI_yge {a b : Nat} (h : nI a ≤ nI b) (ha : a < 2 ^ 31) (hb : b < 2 ^ 31) : a ≤ b := (nI_leI ha hb).mp h

theorem hlw_i (p : Int32) : (if ((5 : Int32) - (1 : Int32)) < p then ((5 : Int32) - (1 : Int32)) else p) ≤ 4 := by
  rw [show ((5 : Int32) - (1 : Int32)) = 4 by decide]
  split
  · decide
  · next h => exact fa_of_nlt h
theorem hlw_n {x : Int32} (h : x ≤ 4) : x.toInt.toNat < 5 := by
  have h1 := (fa_le _ _).mp h
  have h2 : (4 : Int32).toInt = 4 := by decide
  omega
theorem hlw_in {x : Int32} (h : x ≤ 4) (h0 : ¬ x ≤ 0) : vp_in x 5 := by
  have h1 := (fa_le _ _).mp h
  have h2 : (4 : Int32).toInt = 4 := by decide
  have h3 : (0 : Int32).toInt = 0 := by decide
  rw [fa_le, h3] at h0
  exact vp_in_iff.mpr ⟨by omega, by omega⟩
theorem hlw_m {x : Int32} (h0 : ¬ x ≤ 0) : (x + (-1)).toInt = x.toInt - 1 := by
  have h3 : (0 : Int32).toInt = 0 := by decide
  have h4 : (-1 : Int32).toInt = -1 := by decide
  rw [fa_le, h3] at h0
  have h5 := fb_rng x
  rw [fb_addI (by omega) (by omega), h4]
  omega
theorem hlw_b {x : Int32} (h : x ≤ 4) (h0 : ¬ x ≤ 0) : x + (-1) ≤ 4 := by
  have h1 := (fa_le _ _).mp h
  rw [fa_le, hlw_m h0]
  omega
theorem hlw_c {x : Int32} {n : Nat} (h : x.toInt.toNat < n + 1) (h0 : ¬ x ≤ 0) : (x + (-1)).toInt.toNat < n := by
  have h3 : (0 : Int32).toInt = 0 := by decide
  rw [hlw_m h0]
  rw [fa_le, h3] at h0
  omega

def f_X5_bitrateOf (k : Cf) (p0 : Int32) : Int32 := if (f_X5_hasLevel k p0) = 0 then (0 : Int32) else (k.2.1 (p0.toNatClampNeg))
set_option maxRecDepth 100000 in
set_option maxHeartbeats 4000000 in
theorem c_X5_bitrateOf {l : Launch} {D : va_G} {cI cB : ClassId} (qv qb qa : Nat) (k : Cf) (p0 : Int32) : CI l X0 D cI cB yX5_bitrateOf cX5_bitrateOf 2 (some .int) 1 21 0 0 [.ref qv, .int p0] (wV cI qv qb qa k) (fun (r : Int32) (_ : Unit) => r = (f_X5_bitrateOf k p0)) (fun _ => (wV cI qv qb qa k)) := by
  refine CI.of (by decide) (Nat.le_of_ble_eq_true rfl) ?_
  intro p e s m below meth c A ls E hr hk hin hA hAA hX Y hl
  have E : EE p c cX5_bitrateOf 2 s _ m RX5 D cI cB := E
  have hl : lv_has ls 2 [(0, .ref qv), (1, .int p0)] := hl
  refine lv_aload_n E.1.1 E.1.2.1 dX5_bitrateOf_0 rfl (lv_at hl 0 rfl) ?_
  refine lv_iload_n E.1.1 E.1.2.1 dX5_bitrateOf_1 rfl (lv_at hl 1 rfl) ?_
  refine r_Vi (wr := []) (w2 := fun _ => [(qv, .inr (7, [.ref qb, .ref qa, .int (k.1 0), .int (k.1 1), .int (k.1 2)])), (qb, .inl (cI, 5, .inl k.2.1)), (qa, .inl (cI, 30, .inl k.2.2.1))]) E Y hA hl.1 (c_X5_hasLevel qv qb qa k p0) lk_X5_32 X0b (fun _ _ _ => trivial) [0, 1, 2] [] [0, 1, 2] rfl rfl (by decide) (fun _ => rfl) 0 rfl rfl ⟨Nat.le_of_ble_eq_true rfl, Nat.le_of_ble_eq_true rfl⟩ ⟨Nat.le_of_ble_eq_true rfl, Nat.le_of_ble_eq_true rfl⟩ rfl rfl (Nat.le_of_ble_eq_true rfl) dX5_bitrateOf_2 (fun r u H locs hp Y => ?_)
  subst hp
  refine lv_if_eq (tgt := 17) E.1.1 E.1.2.1 dX5_bitrateOf_5 (by decide) (fun c_5 => ?_) (fun c_5 => ?_)
  · skip
    refine lv_iconst (v := 0) E.1.1 E.1.2.1 dX5_bitrateOf_17 (by decide) ?_
    have e9 : (f_X5_bitrateOf k p0) = (0 : Int32) := (if_pos c_5).trans (rfl)
    exact r_iret E Y hr hk (0 : Int32) () (e9.symm) rfl ⟨Nat.le_of_ble_eq_true rfl, Nat.le_of_ble_eq_true rfl⟩ dX5_bitrateOf_18
  · skip
    refine lv_aload_n E.1.1 E.1.2.1 dX5_bitrateOf_8 rfl (lv_at hl 0 rfl) ?_
    refine gf_X5_9 E Y 0 rfl rfl dX5_bitrateOf_9 ?_
    refine lv_iload_n E.1.1 E.1.2.1 dX5_bitrateOf_12 rfl (lv_at hl 1 rfl) ?_
    refine r_ial E Y 1 rfl (p0.toNatClampNeg) rfl (hasLevel_in c_5) dX5_bitrateOf_13 ?_
    refine lv_goto (tgt := 18) E.1.1 E.1.2.1 dX5_bitrateOf_14 (by decide) ?_
    have e9 : (f_X5_bitrateOf k p0) = (k.2.1 (p0.toNatClampNeg)) := (if_neg c_5).trans (rfl)
    exact r_iret E Y hr hk (k.2.1 (p0.toNatClampNeg)) () (e9.symm) rfl ⟨Nat.le_of_ble_eq_true rfl, Nat.le_of_ble_eq_true rfl⟩ dX5_bitrateOf_18

def f_X5_highestBitrate (k : Cf) : Int32 := (f_X5_bitrateOf k ((k.1 2) - (1 : Int32)))
set_option maxRecDepth 100000 in
set_option maxHeartbeats 4000000 in
theorem c_X5_highestBitrate {l : Launch} {D : va_G} {cI cB : ClassId} (qv qb qa : Nat) (k : Cf) : CI l X0 D cI cB yX5_highestBitrate cX5_highestBitrate 1 (some .int) 2 42 0 0 [.ref qv] (wV cI qv qb qa k) (fun (r : Int32) (_ : Unit) => r = (f_X5_highestBitrate k)) (fun _ => (wV cI qv qb qa k)) := by
  refine CI.of (by decide) (Nat.le_of_ble_eq_true rfl) ?_
  intro p e s m below meth c A ls E hr hk hin hA hAA hX Y hl
  have E : EE p c cX5_highestBitrate 1 s _ m RX5 D cI cB := E
  have hl : lv_has ls 1 [(0, .ref qv)] := hl
  refine lv_aload_n E.1.1 E.1.2.1 dX5_highestBitrate_0 rfl (lv_at hl 0 rfl) ?_
  refine lv_aload_n E.1.1 E.1.2.1 dX5_highestBitrate_1 rfl (lv_at hl 0 rfl) ?_
  refine gf_X5_29 E Y 0 rfl rfl dX5_highestBitrate_2 ?_
  refine lv_iconst (v := 1) E.1.1 E.1.2.1 dX5_highestBitrate_5 (by decide) ?_
  refine lv_isub E.1.1 E.1.2.1 dX5_highestBitrate_6 ?_
  refine r_Vi (wr := []) (w2 := fun _ => [(qv, .inr (7, [.ref qb, .ref qa, .int (k.1 0), .int (k.1 1), .int (k.1 2)])), (qb, .inl (cI, 5, .inl k.2.1)), (qa, .inl (cI, 30, .inl k.2.2.1))]) E Y hA hl.1 (c_X5_bitrateOf qv qb qa k ((k.1 2) - (1 : Int32))) lk_X5_36 X0b (fun _ _ _ => trivial) [0, 1, 2] [] [0, 1, 2] rfl rfl (by decide) (fun _ => rfl) 0 rfl rfl ⟨Nat.le_of_ble_eq_true rfl, Nat.le_of_ble_eq_true rfl⟩ ⟨Nat.le_of_ble_eq_true rfl, Nat.le_of_ble_eq_true rfl⟩ rfl rfl (Nat.le_of_ble_eq_true rfl) dX5_highestBitrate_7 (fun r u H locs hp Y => ?_)
  subst hp
  have e9 : (f_X5_highestBitrate k) = (f_X5_bitrateOf k ((k.1 2) - (1 : Int32))) := rfl
  exact r_iret E Y hr hk (f_X5_bitrateOf k ((k.1 2) - (1 : Int32))) () (e9.symm) rfl ⟨Nat.le_of_ble_eq_true rfl, Nat.le_of_ble_eq_true rfl⟩ dX5_highestBitrate_10

def f_X5_appendLevel (k : Cf) (p0 : Int32) : Cf := if (5 : Int32) ≤ (k.1 2) then k else (upd (k.1) 2 ((k.1 2) + (1 : Int32)), (upd k.2.1 ((k.1 2).toNatClampNeg) p0), k.2.2.1, k.2.2.2.1, k.2.2.2.2)
set_option maxRecDepth 100000 in
set_option maxHeartbeats 4000000 in
theorem c_X5_appendLevel {l : Launch} {D : va_G} {cI cB : ClassId} (qv qb qa : Nat) (k : Cf) (p0 : Int32) (h2 : ¬ k.1 2 < 0) : CV l X0 D cI cB yX5_appendLevel cX5_appendLevel 2 0 0 0 0 [.ref qv, .int p0] (wV cI qv qb qa k) (fun (u : Cf) => u = (f_X5_appendLevel k p0)) (fun u => (wV cI qv qb qa u)) := by
  refine CV.of (by decide) (Nat.le_of_ble_eq_true rfl) ?_
  intro p e s m below meth c A ls E hr hk hin hA hAA hX Y hl
  have E : EE p c cX5_appendLevel 2 s _ m RX5 D cI cB := E
  have hl : lv_has ls 2 [(0, .ref qv), (1, .int p0)] := hl
  refine lv_aload_n E.1.1 E.1.2.1 dX5_appendLevel_0 rfl (lv_at hl 0 rfl) ?_
  refine gf_X5_29 E Y 0 rfl rfl dX5_appendLevel_1 ?_
  refine lv_aload_n E.1.1 E.1.2.1 dX5_appendLevel_4 rfl (lv_at hl 0 rfl) ?_
  refine gf_X5_9 E Y 0 rfl rfl dX5_appendLevel_5 ?_
  refine r_alenI (v := 5) E Y 1 rfl (by decide) dX5_appendLevel_8 ?_
  refine lv_icmp_ge (tgt := 32) E.1.1 E.1.2.1 dX5_appendLevel_9 (by decide) (fun c_9 => ?_) (fun c_9 => ?_)
  · skip
    have e9 : (f_X5_appendLevel k p0) = k := (if_pos c_9).trans (rfl)
    exact r_vret E Y hr hk k (e9.symm) rfl ⟨Nat.le_of_ble_eq_true rfl, Nat.le_of_ble_eq_true rfl⟩ dX5_appendLevel_32
  · skip
    refine lv_aload_n E.1.1 E.1.2.1 dX5_appendLevel_12 rfl (lv_at hl 0 rfl) ?_
    refine gf_X5_9 E Y 0 rfl rfl dX5_appendLevel_13 ?_
    refine lv_aload_n E.1.1 E.1.2.1 dX5_appendLevel_16 rfl (lv_at hl 0 rfl) ?_
    refine gf_X5_29 E Y 0 rfl rfl dX5_appendLevel_17 ?_
    refine lv_iload_n E.1.1 E.1.2.1 dX5_appendLevel_20 rfl (lv_at hl 1 rfl) ?_
    refine r_ias (w' := [(qv, .inr (7, [.ref qb, .ref qa, .int (k.1 0), .int (k.1 1), .int (k.1 2)])), (qb, .inl (cI, 5, .inl (upd k.2.1 ((k.1 2).toNatClampNeg) p0))), (qa, .inl (cI, 30, .inl k.2.2.1))]) E Y 1 rfl ((k.1 2).toNatClampNeg) rfl (vp0 5 (by decide) h2 c_9) rfl dX5_appendLevel_21 (fun H locs Y => ?_)
    refine lv_aload_n E.1.1 E.1.2.1 dX5_appendLevel_22 rfl (lv_at hl 0 rfl) ?_
    refine lv_dup E.1.1 E.1.2.1 dX5_appendLevel_23 rfl ?_
    refine gf_X5_29 E Y 0 rfl rfl dX5_appendLevel_24 ?_
    refine lv_iconst (v := 1) E.1.1 E.1.2.1 dX5_appendLevel_27 (by decide) ?_
    refine lv_iadd E.1.1 E.1.2.1 dX5_appendLevel_28 ?_
    refine pf_X5_29 (w' := [(qv, .inr (7, [.ref qb, .ref qa, .int (k.1 0), .int (k.1 1), .int ((k.1 2) + (1 : Int32))])), (qb, .inl (cI, 5, .inl (upd k.2.1 ((k.1 2).toNatClampNeg) p0))), (qa, .inl (cI, 30, .inl k.2.2.1))]) E Y 0 rfl (Nat.le_of_ble_eq_true rfl) rfl dX5_appendLevel_29 (fun H locs Y => ?_)
    have e9 : (f_X5_appendLevel k p0) = (upd (k.1) 2 ((k.1 2) + (1 : Int32)), (upd k.2.1 ((k.1 2).toNatClampNeg) p0), k.2.2.1, k.2.2.2.1, k.2.2.2.2) := (if_neg c_9).trans (rfl)
    exact r_vret E Y hr hk (upd (k.1) 2 ((k.1 2) + (1 : Int32)), (upd k.2.1 ((k.1 2).toNatClampNeg) p0), k.2.2.1, k.2.2.2.1, k.2.2.2.2) (e9.symm) rfl ⟨Nat.le_of_ble_eq_true rfl, Nat.le_of_ble_eq_true rfl⟩ dX5_appendLevel_32

def f_X5_variationOf (k : Cf) (p0 : Int32) : Int32 := if (f_X5_hasSegment k p0) = 0 then (0 : Int32) else (k.2.2.1 (p0.toNatClampNeg))
set_option maxRecDepth 100000 in
set_option maxHeartbeats 4000000 in
theorem c_X5_variationOf {l : Launch} {D : va_G} {cI cB : ClassId} (qv qb qa : Nat) (k : Cf) (p0 : Int32) : CI l X0 D cI cB yX5_variationOf cX5_variationOf 2 (some .int) 1 21 0 0 [.ref qv, .int p0] (wV cI qv qb qa k) (fun (r : Int32) (_ : Unit) => r = (f_X5_variationOf k p0)) (fun _ => (wV cI qv qb qa k)) := by
  refine CI.of (by decide) (Nat.le_of_ble_eq_true rfl) ?_
  intro p e s m below meth c A ls E hr hk hin hA hAA hX Y hl
  have E : EE p c cX5_variationOf 2 s _ m RX5 D cI cB := E
  have hl : lv_has ls 2 [(0, .ref qv), (1, .int p0)] := hl
  refine lv_aload_n E.1.1 E.1.2.1 dX5_variationOf_0 rfl (lv_at hl 0 rfl) ?_
  refine lv_iload_n E.1.1 E.1.2.1 dX5_variationOf_1 rfl (lv_at hl 1 rfl) ?_
  refine r_Vi (wr := []) (w2 := fun _ => [(qv, .inr (7, [.ref qb, .ref qa, .int (k.1 0), .int (k.1 1), .int (k.1 2)])), (qb, .inl (cI, 5, .inl k.2.1)), (qa, .inl (cI, 30, .inl k.2.2.1))]) E Y hA hl.1 (c_X5_hasSegment qv qb qa k p0) lk_X5_46 X0b (fun _ _ _ => trivial) [0, 1, 2] [] [0, 1, 2] rfl rfl (by decide) (fun _ => rfl) 0 rfl rfl ⟨Nat.le_of_ble_eq_true rfl, Nat.le_of_ble_eq_true rfl⟩ ⟨Nat.le_of_ble_eq_true rfl, Nat.le_of_ble_eq_true rfl⟩ rfl rfl (Nat.le_of_ble_eq_true rfl) dX5_variationOf_2 (fun r u H locs hp Y => ?_)
  subst hp
  refine lv_if_eq (tgt := 17) E.1.1 E.1.2.1 dX5_variationOf_5 (by decide) (fun c_5 => ?_) (fun c_5 => ?_)
  · skip
    refine lv_iconst (v := 0) E.1.1 E.1.2.1 dX5_variationOf_17 (by decide) ?_
    have e9 : (f_X5_variationOf k p0) = (0 : Int32) := (if_pos c_5).trans (rfl)
    exact r_iret E Y hr hk (0 : Int32) () (e9.symm) rfl ⟨Nat.le_of_ble_eq_true rfl, Nat.le_of_ble_eq_true rfl⟩ dX5_variationOf_18
  · skip
    refine lv_aload_n E.1.1 E.1.2.1 dX5_variationOf_8 rfl (lv_at hl 0 rfl) ?_
    refine gf_X5_15 E Y 0 rfl rfl dX5_variationOf_9 ?_
    refine lv_iload_n E.1.1 E.1.2.1 dX5_variationOf_12 rfl (lv_at hl 1 rfl) ?_
    refine r_ial E Y 2 rfl (p0.toNatClampNeg) rfl (hasSegment_in c_5) dX5_variationOf_13 ?_
    refine lv_goto (tgt := 18) E.1.1 E.1.2.1 dX5_variationOf_14 (by decide) ?_
    have e9 : (f_X5_variationOf k p0) = (k.2.2.1 (p0.toNatClampNeg)) := (if_neg c_5).trans (rfl)
    exact r_iret E Y hr hk (k.2.2.1 (p0.toNatClampNeg)) () (e9.symm) rfl ⟨Nat.le_of_ble_eq_true rfl, Nat.le_of_ble_eq_true rfl⟩ dX5_variationOf_18

def f_X5_changeVariation (k : Cf) (p0 : Int32) (p1 : Int32) : Cf := if (f_X5_hasSegment k p0) = 0 then k else (k.1, k.2.1, (upd k.2.2.1 (p0.toNatClampNeg) p1), k.2.2.2.1, k.2.2.2.2)
set_option maxRecDepth 100000 in
set_option maxHeartbeats 4000000 in
theorem c_X5_changeVariation {l : Launch} {D : va_G} {cI cB : ClassId} (qv qb qa : Nat) (k : Cf) (p0 : Int32) (p1 : Int32) : CV l X0 D cI cB yX5_changeVariation cX5_changeVariation 3 1 21 0 0 [.ref qv, .int p0, .int p1] (wV cI qv qb qa k) (fun (u : Cf) => u = (f_X5_changeVariation k p0 p1)) (fun u => (wV cI qv qb qa u)) := by
  refine CV.of (by decide) (Nat.le_of_ble_eq_true rfl) ?_
  intro p e s m below meth c A ls E hr hk hin hA hAA hX Y hl
  have E : EE p c cX5_changeVariation 3 s _ m RX5 D cI cB := E
  have hl : lv_has ls 3 [(0, .ref qv), (1, .int p0), (2, .int p1)] := hl
  refine lv_aload_n E.1.1 E.1.2.1 dX5_changeVariation_0 rfl (lv_at hl 0 rfl) ?_
  refine lv_iload_n E.1.1 E.1.2.1 dX5_changeVariation_1 rfl (lv_at hl 1 rfl) ?_
  refine r_Vi (wr := []) (w2 := fun _ => [(qv, .inr (7, [.ref qb, .ref qa, .int (k.1 0), .int (k.1 1), .int (k.1 2)])), (qb, .inl (cI, 5, .inl k.2.1)), (qa, .inl (cI, 30, .inl k.2.2.1))]) E Y hA hl.1 (c_X5_hasSegment qv qb qa k p0) lk_X5_46 X0b (fun _ _ _ => trivial) [0, 1, 2] [] [0, 1, 2] rfl rfl (by decide) (fun _ => rfl) 0 rfl rfl ⟨Nat.le_of_ble_eq_true rfl, Nat.le_of_ble_eq_true rfl⟩ ⟨Nat.le_of_ble_eq_true rfl, Nat.le_of_ble_eq_true rfl⟩ rfl rfl (Nat.le_of_ble_eq_true rfl) dX5_changeVariation_2 (fun r u H locs hp Y => ?_)
  subst hp
  refine lv_if_eq (tgt := 15) E.1.1 E.1.2.1 dX5_changeVariation_5 (by decide) (fun c_5 => ?_) (fun c_5 => ?_)
  · skip
    have e9 : (f_X5_changeVariation k p0 p1) = k := (if_pos c_5).trans (rfl)
    exact r_vret E Y hr hk k (e9.symm) rfl ⟨Nat.le_of_ble_eq_true rfl, Nat.le_of_ble_eq_true rfl⟩ dX5_changeVariation_15
  · skip
    refine lv_aload_n E.1.1 E.1.2.1 dX5_changeVariation_8 rfl (lv_at hl 0 rfl) ?_
    refine gf_X5_15 E Y 0 rfl rfl dX5_changeVariation_9 ?_
    refine lv_iload_n E.1.1 E.1.2.1 dX5_changeVariation_12 rfl (lv_at hl 1 rfl) ?_
    refine lv_iload_n E.1.1 E.1.2.1 dX5_changeVariation_13 rfl (lv_at hl 2 rfl) ?_
    refine r_ias (w' := [(qv, .inr (7, [.ref qb, .ref qa, .int (k.1 0), .int (k.1 1), .int (k.1 2)])), (qb, .inl (cI, 5, .inl k.2.1)), (qa, .inl (cI, 30, .inl (upd k.2.2.1 (p0.toNatClampNeg) p1)))]) E Y 2 rfl (p0.toNatClampNeg) rfl (hasSegment_in c_5) rfl dX5_changeVariation_14 (fun H locs Y => ?_)
    have e9 : (f_X5_changeVariation k p0 p1) = (k.1, k.2.1, (upd k.2.2.1 (p0.toNatClampNeg) p1), k.2.2.2.1, k.2.2.2.2) := (if_neg c_5).trans (rfl)
    exact r_vret E Y hr hk (k.1, k.2.1, (upd k.2.2.1 (p0.toNatClampNeg) p1), k.2.2.2.1, k.2.2.2.2) (e9.symm) rfl ⟨Nat.le_of_ble_eq_true rfl, Nat.le_of_ble_eq_true rfl⟩ dX5_changeVariation_15

def f_X5_sizeOf (k : Cf) (p0 : Int32) (p1 : Int32) : Int32 := ((((((f_X5_bitrateOf k p0).toInt64) * ((k.1 1).toInt64)) * ((f_X5_variationOf k p1).toInt64)) / (100 : Int64)).toInt32)
set_option maxRecDepth 100000 in
set_option maxHeartbeats 4000000 in
theorem c_X5_sizeOf {l : Launch} {D : va_G} {cI cB : ClassId} (qv qb qa : Nat) (k : Cf) (p0 : Int32) (p1 : Int32) : CI l X0 D cI cB yX5_sizeOf cX5_sizeOf 3 (some .int) 2 42 0 0 [.ref qv, .int p0, .int p1] (wV cI qv qb qa k) (fun (r : Int32) (_ : Unit) => r = (f_X5_sizeOf k p0 p1)) (fun _ => (wV cI qv qb qa k)) := by
  refine CI.of (by decide) (Nat.le_of_ble_eq_true rfl) ?_
  intro p e s m below meth c A ls E hr hk hin hA hAA hX Y hl
  have E : EE p c cX5_sizeOf 3 s _ m RX5 D cI cB := E
  have hl : lv_has ls 3 [(0, .ref qv), (1, .int p0), (2, .int p1)] := hl
  refine lv_aload_n E.1.1 E.1.2.1 dX5_sizeOf_0 rfl (lv_at hl 0 rfl) ?_
  refine lv_iload_n E.1.1 E.1.2.1 dX5_sizeOf_1 rfl (lv_at hl 1 rfl) ?_
  refine r_Vi (wr := []) (w2 := fun _ => [(qv, .inr (7, [.ref qb, .ref qa, .int (k.1 0), .int (k.1 1), .int (k.1 2)])), (qb, .inl (cI, 5, .inl k.2.1)), (qa, .inl (cI, 30, .inl k.2.2.1))]) E Y hA hl.1 (c_X5_bitrateOf qv qb qa k p0) lk_X5_36 X0b (fun _ _ _ => trivial) [0, 1, 2] [] [0, 1, 2] rfl rfl (by decide) (fun _ => rfl) 0 rfl rfl ⟨Nat.le_of_ble_eq_true rfl, Nat.le_of_ble_eq_true rfl⟩ ⟨Nat.le_of_ble_eq_true rfl, Nat.le_of_ble_eq_true rfl⟩ rfl rfl (Nat.le_of_ble_eq_true rfl) dX5_sizeOf_2 (fun r u H locs hp Y => ?_)
  subst hp
  refine lv_i2l E.1.1 E.1.2.1 dX5_sizeOf_5 rfl ?_
  refine lv_aload_n E.1.1 E.1.2.1 dX5_sizeOf_6 rfl (lv_at hl 0 rfl) ?_
  refine gf_X5_26 E Y 0 rfl rfl dX5_sizeOf_7 ?_
  refine lv_i2l E.1.1 E.1.2.1 dX5_sizeOf_10 rfl ?_
  refine lv_lmul E.1.1 E.1.2.1 dX5_sizeOf_11 ?_
  refine lv_aload_n E.1.1 E.1.2.1 dX5_sizeOf_12 rfl (lv_at hl 0 rfl) ?_
  refine lv_iload_n E.1.1 E.1.2.1 dX5_sizeOf_13 rfl (lv_at hl 2 rfl) ?_
  refine r_Vi (wr := []) (w2 := fun _ => [(qv, .inr (7, [.ref qb, .ref qa, .int (k.1 0), .int (k.1 1), .int (k.1 2)])), (qb, .inl (cI, 5, .inl k.2.1)), (qa, .inl (cI, 30, .inl k.2.2.1))]) E Y hA hl.1 (c_X5_variationOf qv qb qa k p1) lk_X5_49 X0b (fun _ _ _ => trivial) [0, 1, 2] [] [0, 1, 2] rfl rfl (by decide) (fun _ => rfl) 0 rfl rfl ⟨Nat.le_of_ble_eq_true rfl, Nat.le_of_ble_eq_true rfl⟩ ⟨Nat.le_of_ble_eq_true rfl, Nat.le_of_ble_eq_true rfl⟩ rfl rfl (Nat.le_of_ble_eq_true rfl) dX5_sizeOf_14 (fun r u H locs hp Y => ?_)
  subst hp
  refine lv_i2l E.1.1 E.1.2.1 dX5_sizeOf_17 rfl ?_
  refine lv_lmul E.1.1 E.1.2.1 dX5_sizeOf_18 ?_
  refine lv_ldc2 (v := 100) E.1.1 E.1.2.1 E.1.2.2.2.1 (E.1.2.2.2.2 _ mj_X5_52) dX5_sizeOf_19 ?_
  refine lv_ldiv E.1.1 E.1.2.1 dX5_sizeOf_22 (by decide) ?_
  refine lv_l2i E.1.1 E.1.2.1 dX5_sizeOf_23 rfl ?_
  have e9 : (f_X5_sizeOf k p0 p1) = ((((((f_X5_bitrateOf k p0).toInt64) * ((k.1 1).toInt64)) * ((f_X5_variationOf k p1).toInt64)) / (100 : Int64)).toInt32) := rfl
  exact r_iret E Y hr hk ((((((f_X5_bitrateOf k p0).toInt64) * ((k.1 1).toInt64)) * ((f_X5_variationOf k p1).toInt64)) / (100 : Int64)).toInt32) () (e9.symm) rfl ⟨Nat.le_of_ble_eq_true rfl, Nat.le_of_ble_eq_true rfl⟩ dX5_sizeOf_24

def f_X5_replace_l17  : Nat → Cf → Nat → Cf
  | 0, k1, j => k1
  | n + 1, k1, j => if (30 : Int32) ≤ (nI j) then k1 else f_X5_replace_l17 n (k1.1, k1.2.1, (upd k1.2.2.1 j (100 : Int32)), k1.2.2.2.1, k1.2.2.2.2) (j + 1)
def f_X5_replace (k : Cf) (p0 : Int32) (p1 : Int32) : Cf := f_X5_replace_l17 31 (upd (upd (upd (k.1) 0 p0) 1 p1) 2 (0 : Int32), k.2.1, k.2.2.1, k.2.2.2.1, k.2.2.2.2) (0)
set_option maxRecDepth 100000 in
set_option maxHeartbeats 4000000 in
theorem c_X5_replace {l : Launch} {D : va_G} {cI cB : ClassId} (qv qb qa : Nat) (k : Cf) (p0 : Int32) (p1 : Int32) : CV l X0 D cI cB yX5_replace cX5_replace 4 0 0 0 0 [.ref qv, .int p0, .int p1] (wV cI qv qb qa k) (fun (u : Cf) => u = (f_X5_replace k p0 p1)) (fun u => (wV cI qv qb qa u)) := by
  refine CV.of (by decide) (Nat.le_of_ble_eq_true rfl) ?_
  intro p e s m below meth c A ls E hr hk hin hA hAA hX Y hl
  have E : EE p c cX5_replace 4 s _ m RX5 D cI cB := E
  have hl : lv_has ls 4 [(0, .ref qv), (1, .int p0), (2, .int p1)] := hl
  refine lv_aload_n E.1.1 E.1.2.1 dX5_replace_0 rfl (lv_at hl 0 rfl) ?_
  refine lv_iload_n E.1.1 E.1.2.1 dX5_replace_1 rfl (lv_at hl 1 rfl) ?_
  refine pf_X5_22 (w' := [(qv, .inr (7, [.ref qb, .ref qa, .int p0, .int (k.1 1), .int (k.1 2)])), (qb, .inl (cI, 5, .inl k.2.1)), (qa, .inl (cI, 30, .inl k.2.2.1))]) E Y 0 rfl (Nat.le_of_ble_eq_true rfl) rfl dX5_replace_2 (fun H locs Y => ?_)
  refine lv_aload_n E.1.1 E.1.2.1 dX5_replace_5 rfl (lv_at hl 0 rfl) ?_
  refine lv_iload_n E.1.1 E.1.2.1 dX5_replace_6 rfl (lv_at hl 2 rfl) ?_
  refine pf_X5_26 (w' := [(qv, .inr (7, [.ref qb, .ref qa, .int p0, .int p1, .int (k.1 2)])), (qb, .inl (cI, 5, .inl k.2.1)), (qa, .inl (cI, 30, .inl k.2.2.1))]) E Y 0 rfl (Nat.le_of_ble_eq_true rfl) rfl dX5_replace_7 (fun H locs Y => ?_)
  refine lv_aload_n E.1.1 E.1.2.1 dX5_replace_10 rfl (lv_at hl 0 rfl) ?_
  refine lv_iconst (v := 0) E.1.1 E.1.2.1 dX5_replace_11 (by decide) ?_
  refine pf_X5_29 (w' := [(qv, .inr (7, [.ref qb, .ref qa, .int p0, .int p1, .int (0 : Int32)])), (qb, .inl (cI, 5, .inl k.2.1)), (qa, .inl (cI, 30, .inl k.2.2.1))]) E Y 0 rfl (Nat.le_of_ble_eq_true rfl) rfl dX5_replace_12 (fun H locs Y => ?_)
  refine lv_iconst (v := 0) E.1.1 E.1.2.1 dX5_replace_15 (by decide) ?_
  refine lv_istore_n (lv' := [(3, .int (0 : Int32)), (0, .ref qv), (1, .int p0), (2, .int p1)]) E.1.1 E.1.2.1 dX5_replace_16 rfl hl (by decide) rfl (fun ls hl => ?_)
  have hL : ∀ (n : Nat) (k1 : Cf) (j : Nat), (hj : j ≤ 30) → (hn : 30 < j + n) → (f_X5_replace k p0 p1) = f_X5_replace_l17 n k1 j → ∀ (H : Heap) (locs : List Loc) (ls : Array Slot), WD D A s.heap H locs [(qv, .inr (7, [.ref qb, .ref qa, .int (k1.1 0), .int (k1.1 1), .int (k1.1 2)])), (qb, .inl (cI, 5, .inl k1.2.1)), (qa, .inl (cI, 30, .inl k1.2.2.1))] → lv_has ls 4 [(0, .ref qv), (3, .int (nI j))] → W p l e { frames := 0, cells := 0, slots := 0, locals := 0 } s m ([.ref qv, .int p0, .int p1] : List Value).toArray below meth c H locs 0 0 (MQ below (va_Qv (fun (u : Cf) => u = (f_X5_replace k p0 p1)) (AT D cI cB A (fun u => (wV cI qv qb qa u))) A) ([.ref qv, .int p0, .int p1] : List Value).toArray s 0 0 A) (F0 m 17 ls []) := by
    intro n
    induction n with
    | zero => intro k1 j hj hn; exact absurd hn (by omega)
    | succ n ih =>
      intro k1 j hj hn hF H locs ls Y hl
      refine lv_iload_n E.1.1 E.1.2.1 dX5_replace_17 rfl (lv_at hl 1 rfl) ?_
      refine lv_aload_n E.1.1 E.1.2.1 dX5_replace_18 rfl (lv_at hl 0 rfl) ?_
      refine gf_X5_15 E Y 0 rfl rfl dX5_replace_19 ?_
      refine r_alenI (v := 30) E Y 2 rfl (by decide) dX5_replace_22 ?_
      refine lv_icmp_ge (tgt := 40) E.1.1 E.1.2.1 dX5_replace_23 (by decide) (fun c_23 => ?_) (fun c_23 => ?_)
      · skip
        have e9 : (f_X5_replace k p0 p1) = k1 := hF.trans ((if_pos c_23).trans (rfl))
        exact r_vret E Y hr hk k1 (e9.symm) rfl ⟨Nat.le_of_ble_eq_true rfl, Nat.le_of_ble_eq_true rfl⟩ dX5_replace_40
      · skip
        refine lv_aload_n E.1.1 E.1.2.1 dX5_replace_26 rfl (lv_at hl 0 rfl) ?_
        refine gf_X5_15 E Y 0 rfl rfl dX5_replace_27 ?_
        refine lv_iload_n E.1.1 E.1.2.1 dX5_replace_30 rfl (lv_at hl 1 rfl) ?_
        refine lv_bipush (v := 100) E.1.1 E.1.2.1 dX5_replace_31 (by decide) ?_
        refine r_ias (w' := [(qv, .inr (7, [.ref qb, .ref qa, .int (k1.1 0), .int (k1.1 1), .int (k1.1 2)])), (qb, .inl (cI, 5, .inl k1.2.1)), (qa, .inl (cI, 30, .inl (upd k1.2.2.1 j (100 : Int32))))]) E Y 2 rfl j (nI_clamp (by omega)) (vp_in_nI (nI_nge c_23 (by omega)) (by decide)) rfl dX5_replace_33 (fun H locs Y => ?_)
        refine lv_iinc (v := (nI (j + 1))) (lv' := [(3, .int (nI (j + 1))), (0, .ref qv)]) E.1.1 E.1.2.1 dX5_replace_34 hl (k := 1) rfl (nI_1 j) (by decide) rfl (fun ls hl => ?_)
        refine lv_goto (tgt := 17) E.1.1 E.1.2.1 dX5_replace_37 (by decide) ?_
        exact ih (k1.1, k1.2.1, (upd k1.2.2.1 j (100 : Int32)), k1.2.2.2.1, k1.2.2.2.2) (j + 1) (by have := nI_nge (a := 30) (b := j) c_23 (by omega); omega) (by omega) (hF.trans ((if_neg c_23).trans (rfl))) H locs ls Y (lv_sub hl [1, 0] rfl)
  exact hL 31 (upd (upd (upd (k.1) 0 p0) 1 p1) 2 (0 : Int32), k.2.1, k.2.2.1, k.2.2.2.1, k.2.2.2.2) (0) (by decide) (by decide) (rfl) _ _ _ Y (lv_sub hl [1, 0] rfl)

def f_X5_highestLevelWithin_l12 (k : Cf) (p0 : Int32) : Nat → Int32 → Int32
  | 0, x => 0
  | n + 1, x => if x ≤ 0 then (0 : Int32) else (if p0 < (k.2.1 (x.toNatClampNeg)) then f_X5_highestLevelWithin_l12 k p0 n (x + (-1)) else x)
def f_X5_highestLevelWithin (k : Cf) (p0 : Int32) (p1 : Int32) : Int32 := f_X5_highestLevelWithin_l12 k p0 5 (if ((5 : Int32) - (1 : Int32)) < p1 then ((5 : Int32) - (1 : Int32)) else p1)
set_option maxRecDepth 100000 in
set_option maxHeartbeats 4000000 in
theorem c_X5_highestLevelWithin {l : Launch} {D : va_G} {cI cB : ClassId} (qv qb qa : Nat) (k : Cf) (p0 : Int32) (p1 : Int32) : CI l X0 D cI cB yX5_highestLevelWithin cX5_highestLevelWithin 4 (some .int) 1 21 0 0 [.ref qv, .int p0, .int p1] (wV cI qv qb qa k) (fun (r : Int32) (_ : Unit) => r = (f_X5_highestLevelWithin k p0 p1)) (fun _ => (wV cI qv qb qa k)) := by
  refine CI.of (by decide) (Nat.le_of_ble_eq_true rfl) ?_
  intro p e s m below meth c A ls E hr hk hin hA hAA hX Y hl
  have E : EE p c cX5_highestLevelWithin 4 s _ m RX5 D cI cB := E
  have hl : lv_has ls 4 [(0, .ref qv), (1, .int p0), (2, .int p1)] := hl
  refine lv_iload_n E.1.1 E.1.2.1 dX5_highestLevelWithin_0 rfl (lv_at hl 2 rfl) ?_
  refine lv_aload_n E.1.1 E.1.2.1 dX5_highestLevelWithin_1 rfl (lv_at hl 0 rfl) ?_
  refine gf_X5_9 E Y 0 rfl rfl dX5_highestLevelWithin_2 ?_
  refine r_alenI (v := 5) E Y 1 rfl (by decide) dX5_highestLevelWithin_5 ?_
  refine lv_iconst (v := 1) E.1.1 E.1.2.1 dX5_highestLevelWithin_6 (by decide) ?_
  refine lv_isub E.1.1 E.1.2.1 dX5_highestLevelWithin_7 ?_
  refine r_min E hl.1 mm_X5_40 ⟨Nat.le_of_ble_eq_true rfl, Nat.le_of_ble_eq_true rfl⟩ ⟨Nat.le_of_ble_eq_true rfl, Nat.le_of_ble_eq_true rfl⟩ dX5_highestLevelWithin_8 ?_
  refine lv_istore_n (lv' := [(3, .int (if ((5 : Int32) - (1 : Int32)) < p1 then ((5 : Int32) - (1 : Int32)) else p1)), (0, .ref qv), (1, .int p0), (2, .int p1)]) E.1.1 E.1.2.1 dX5_highestLevelWithin_11 rfl hl (by decide) rfl (fun ls hl => ?_)
  have hL : ∀ (n : Nat) (x : Int32), (hx : x ≤ 4) → (hn : x.toInt.toNat < n) → (f_X5_highestLevelWithin k p0 p1) = f_X5_highestLevelWithin_l12 k p0 n x → ∀ (H : Heap) (locs : List Loc) (ls : Array Slot), WD D A s.heap H locs [(qv, .inr (7, [.ref qb, .ref qa, .int (k.1 0), .int (k.1 1), .int (k.1 2)])), (qb, .inl (cI, 5, .inl k.2.1)), (qa, .inl (cI, 30, .inl k.2.2.1))] → lv_has ls 4 [(0, .ref qv), (1, .int p0), (3, .int x)] → W p l e { frames := 1, cells := 0, slots := 0, locals := 21 } s m ([.ref qv, .int p0, .int p1] : List Value).toArray below meth c H locs 0 0 (MQ below (va_Qi (fun (r : Int32) (_ : Unit) => r = (f_X5_highestLevelWithin k p0 p1)) (AT D cI cB A (fun _ => (wV cI qv qb qa k))) A) ([.ref qv, .int p0, .int p1] : List Value).toArray s 0 0 A) (F0 m 12 ls []) := by
    intro n
    induction n with
    | zero => intro x hx hn; exact absurd hn (Nat.not_lt_zero _)
    | succ n ih =>
      intro x hx hn hF H locs ls Y hl
      refine lv_iload_n E.1.1 E.1.2.1 dX5_highestLevelWithin_12 rfl (lv_at hl 2 rfl) ?_
      refine lv_if_le (tgt := 34) E.1.1 E.1.2.1 dX5_highestLevelWithin_13 (by decide) (fun c_13 => ?_) (fun c_13 => ?_)
      · skip
        refine lv_iconst (v := 0) E.1.1 E.1.2.1 dX5_highestLevelWithin_34 (by decide) ?_
        have e9 : (f_X5_highestLevelWithin k p0 p1) = (0 : Int32) := hF.trans ((if_pos c_13).trans (rfl))
        exact r_iret E Y hr hk (0 : Int32) () (e9.symm) rfl ⟨Nat.le_of_ble_eq_true rfl, Nat.le_of_ble_eq_true rfl⟩ dX5_highestLevelWithin_35
      · skip
        refine lv_aload_n E.1.1 E.1.2.1 dX5_highestLevelWithin_16 rfl (lv_at hl 0 rfl) ?_
        refine gf_X5_9 E Y 0 rfl rfl dX5_highestLevelWithin_17 ?_
        refine lv_iload_n E.1.1 E.1.2.1 dX5_highestLevelWithin_20 rfl (lv_at hl 2 rfl) ?_
        refine r_ial E Y 1 rfl (x.toNatClampNeg) rfl (hlw_in hx c_13) dX5_highestLevelWithin_21 ?_
        refine lv_iload_n E.1.1 E.1.2.1 dX5_highestLevelWithin_22 rfl (lv_at hl 1 rfl) ?_
        refine lv_icmp_gt (tgt := 28) E.1.1 E.1.2.1 dX5_highestLevelWithin_23 (by decide) (fun c_23 => ?_) (fun c_23 => ?_)
        · skip
          refine lv_iinc (v := (x + (-1))) (lv' := [(3, .int (x + (-1))), (0, .ref qv), (1, .int p0)]) E.1.1 E.1.2.1 dX5_highestLevelWithin_28 hl (k := 2) rfl rfl (by decide) rfl (fun ls hl => ?_)
          refine lv_goto (tgt := 12) E.1.1 E.1.2.1 dX5_highestLevelWithin_31 (by decide) ?_
          exact ih (x + (-1)) (hlw_b hx c_13) (hlw_c hn c_13) (hF.trans ((if_neg c_13).trans ((if_pos c_23).trans (rfl)))) H locs ls Y (lv_sub hl [1, 2, 0] rfl)
        · skip
          refine lv_iload_n E.1.1 E.1.2.1 dX5_highestLevelWithin_26 rfl (lv_at hl 2 rfl) ?_
          have e9 : (f_X5_highestLevelWithin k p0 p1) = x := hF.trans ((if_neg c_13).trans ((if_neg c_23).trans (rfl)))
          exact r_iret E Y hr hk x () (e9.symm) rfl ⟨Nat.le_of_ble_eq_true rfl, Nat.le_of_ble_eq_true rfl⟩ dX5_highestLevelWithin_27
  exact hL 5 (if ((5 : Int32) - (1 : Int32)) < p1 then ((5 : Int32) - (1 : Int32)) else p1) (hlw_i p1) (hlw_n (hlw_i p1)) (rfl) _ _ _ Y (lv_sub hl [1, 2, 0] rfl)
end
section
section CST
variable {p : Program} {l : Launch} {e : Env} {R : Room} {s : State} {m : MethodId} {args : Array Value} {below : List Frame} {meth : Method} {c : Code} {H : Heap} {locs : List Loc} {cells slots : Nat} {Q : State → Prop} {pc : Nat} {ls : Array Slot} {rest : List Value}
theorem lv_cst {x v : Int32} (h : x = v) (k : W p l e R s m args below meth c H locs cells slots Q (F0 m pc ls (.int v :: rest))) : W p l e R s m args below meth c H locs cells slots Q (F0 m pc ls (.int x :: rest)) := by
  subst h
  exact k
end CST
theorem ne_of_pos {x : Int32} (h : 0 < x) : ¬ x = 0 := fun e => by subst e; exact absurd h (by decide)
theorem ne_of_nle {x : Int32} (h : ¬ x ≤ 0) : ¬ x = 0 := fun e => by subst e; exact h (by decide)
theorem i32_0 : (0 : Int32).toInt = 0 := by decide
theorem i32_1 : (1 : Int32).toInt = 1 := by decide
theorem vp_pred {x : Int32} {n : Nat} (hn : n < 2 ^ 31) (h0 : ¬ x ≤ 0) (h1 : ¬ nI n ≤ x) : vp_in (x - 1) n := by
  rw [fa_le, i32_0] at h0
  rw [fa_le, nI_toInt hn] at h1
  have h5 := fb_rng x
  rw [vp_in_iff, fb_subI (by rw [i32_1]; omega) (by rw [i32_1]; omega), i32_1]
  omega
theorem rat_lt {x : Int32} {j : Nat} (h : ¬ (if (if (12 : Int32) < (12 : Int32) then (12 : Int32) else (12 : Int32)) < x then (if (12 : Int32) < (12 : Int32) then (12 : Int32) else (12 : Int32)) else x) ≤ nI j) (hj : j ≤ 12) : j < 12 := by
  rcases Nat.lt_or_ge j 12 with h1 | h1
  · exact h1
  · have e : j = 12 := by omega
    subst e
    refine absurd ?_ h
    rw [show (if (12 : Int32) < (12 : Int32) then (12 : Int32) else (12 : Int32)) = 12 by decide]
    split
    · exact Int32.le_refl _
    · next h2 => exact fa_of_nlt h2

def f_X0_appendPeriod (k : Cf) (p0 : Int32) (p1 : Int32) : Cf := if (12 : Int32) ≤ (k.1 3) then k else (if (12 : Int32) ≤ (k.1 3) then k else (if (k.1 3) ≤ 0 then (upd (k.1) 3 ((k.1 3) + (1 : Int32)), k.2.1, k.2.2.1, (upd k.2.2.2.1 ((k.1 3).toNatClampNeg) ((0 : Int32) + p0)), (upd k.2.2.2.2 ((k.1 3).toNatClampNeg) p1)) else (upd (k.1) 3 ((k.1 3) + (1 : Int32)), k.2.1, k.2.2.1, (upd k.2.2.2.1 ((k.1 3).toNatClampNeg) ((k.2.2.2.1 (((k.1 3) - (1 : Int32)).toNatClampNeg)) + p0)), (upd k.2.2.2.2 ((k.1 3).toNatClampNeg) p1))))
set_option maxRecDepth 100000 in
set_option maxHeartbeats 4000000 in
theorem c_X0_appendPeriod {l : Launch} {D : va_G} {cI cB : ClassId} (qc qe qr : Nat) (k : Cf) (p0 : Int32) (p1 : Int32) (h3 : ¬ k.1 3 < 0) : CV l X0 D cI cB yX0_appendPeriod cX0_appendPeriod 4 0 0 0 0 [.ref qc, .int p0, .int p1] (wC cI qc qe qr k) (fun (u : Cf) => u = (f_X0_appendPeriod k p0 p1)) (fun u => (wC cI qc qe qr u)) := by
  refine CV.of (by decide) (Nat.le_of_ble_eq_true rfl) ?_
  intro p e s m below meth c A ls E hr hk hin hA hAA hX Y hl
  have E : EE p c cX0_appendPeriod 4 s _ m RX0 D cI cB := E
  have hl : lv_has ls 4 [(0, .ref qc), (1, .int p0), (2, .int p1)] := hl
  refine lv_aload_n E.1.1 E.1.2.1 dX0_appendPeriod_0 rfl (lv_at hl 0 rfl) ?_
  refine gf_X0_18 E Y 0 rfl rfl dX0_appendPeriod_1 ?_
  refine lv_aload_n E.1.1 E.1.2.1 dX0_appendPeriod_4 rfl (lv_at hl 0 rfl) ?_
  refine gf_X0_9 E Y 0 rfl rfl dX0_appendPeriod_5 ?_
  refine r_alenI (v := 12) E Y 1 rfl (by decide) dX0_appendPeriod_8 ?_
  refine lv_icmp_ge (tgt := 79) E.1.1 E.1.2.1 dX0_appendPeriod_9 (by decide) (fun c_9 => ?_) (fun c_9 => ?_)
  · skip
    have e9 : (f_X0_appendPeriod k p0 p1) = k := (if_pos c_9).trans (rfl)
    exact r_vret E Y hr hk k (e9.symm) rfl ⟨Nat.le_of_ble_eq_true rfl, Nat.le_of_ble_eq_true rfl⟩ dX0_appendPeriod_79
  · skip
    refine lv_aload_n E.1.1 E.1.2.1 dX0_appendPeriod_12 rfl (lv_at hl 0 rfl) ?_
    refine gf_X0_18 E Y 0 rfl rfl dX0_appendPeriod_13 ?_
    refine lv_aload_n E.1.1 E.1.2.1 dX0_appendPeriod_16 rfl (lv_at hl 0 rfl) ?_
    refine gf_X0_15 E Y 0 rfl rfl dX0_appendPeriod_17 ?_
    refine r_alenI (v := 12) E Y 2 rfl (by decide) dX0_appendPeriod_20 ?_
    refine lv_icmp_ge (tgt := 79) E.1.1 E.1.2.1 dX0_appendPeriod_21 (by decide) (fun c_21 => ?_) (fun c_21 => ?_)
    · skip
      have e9 : (f_X0_appendPeriod k p0 p1) = k := (if_neg c_9).trans ((if_pos c_21).trans (rfl))
      exact r_vret E Y hr hk k (e9.symm) rfl ⟨Nat.le_of_ble_eq_true rfl, Nat.le_of_ble_eq_true rfl⟩ dX0_appendPeriod_79
    · skip
      refine lv_aload_n E.1.1 E.1.2.1 dX0_appendPeriod_24 rfl (lv_at hl 0 rfl) ?_
      refine gf_X0_18 E Y 0 rfl rfl dX0_appendPeriod_25 ?_
      refine lv_if_le (tgt := 45) E.1.1 E.1.2.1 dX0_appendPeriod_28 (by decide) (fun c_28 => ?_) (fun c_28 => ?_)
      · skip
        refine lv_iconst (v := 0) E.1.1 E.1.2.1 dX0_appendPeriod_45 (by decide) ?_
        refine lv_istore_n (lv' := [(3, .int (0 : Int32)), (0, .ref qc), (1, .int p0), (2, .int p1)]) E.1.1 E.1.2.1 dX0_appendPeriod_46 rfl hl (by decide) rfl (fun ls hl => ?_)
        refine lv_aload_n E.1.1 E.1.2.1 dX0_appendPeriod_47 rfl (lv_at hl 1 rfl) ?_
        refine gf_X0_9 E Y 0 rfl rfl dX0_appendPeriod_48 ?_
        refine lv_aload_n E.1.1 E.1.2.1 dX0_appendPeriod_51 rfl (lv_at hl 1 rfl) ?_
        refine gf_X0_18 E Y 0 rfl rfl dX0_appendPeriod_52 ?_
        refine lv_iload_n E.1.1 E.1.2.1 dX0_appendPeriod_55 rfl (lv_at hl 0 rfl) ?_
        refine lv_iload_n E.1.1 E.1.2.1 dX0_appendPeriod_56 rfl (lv_at hl 2 rfl) ?_
        refine lv_iadd E.1.1 E.1.2.1 dX0_appendPeriod_57 ?_
        refine r_ias (w' := [(qc, .inr (2, [.ref qe, .ref qr, .int (k.1 3)])), (qe, .inl (cI, 12, .inl (upd k.2.2.2.1 ((k.1 3).toNatClampNeg) ((0 : Int32) + p0)))), (qr, .inl (cI, 12, .inl k.2.2.2.2))]) E Y 1 rfl ((k.1 3).toNatClampNeg) rfl (vp0 12 (by decide) h3 c_9) rfl dX0_appendPeriod_58 (fun H locs Y => ?_)
        refine lv_aload_n E.1.1 E.1.2.1 dX0_appendPeriod_59 rfl (lv_at hl 1 rfl) ?_
        refine gf_X0_15 E Y 0 rfl rfl dX0_appendPeriod_60 ?_
        refine lv_aload_n E.1.1 E.1.2.1 dX0_appendPeriod_63 rfl (lv_at hl 1 rfl) ?_
        refine gf_X0_18 E Y 0 rfl rfl dX0_appendPeriod_64 ?_
        refine lv_iload_n E.1.1 E.1.2.1 dX0_appendPeriod_67 rfl (lv_at hl 3 rfl) ?_
        refine r_ias (w' := [(qc, .inr (2, [.ref qe, .ref qr, .int (k.1 3)])), (qe, .inl (cI, 12, .inl (upd k.2.2.2.1 ((k.1 3).toNatClampNeg) ((0 : Int32) + p0)))), (qr, .inl (cI, 12, .inl (upd k.2.2.2.2 ((k.1 3).toNatClampNeg) p1)))]) E Y 2 rfl ((k.1 3).toNatClampNeg) rfl (vp0 12 (by decide) h3 c_9) rfl dX0_appendPeriod_68 (fun H locs Y => ?_)
        refine lv_aload_n E.1.1 E.1.2.1 dX0_appendPeriod_69 rfl (lv_at hl 1 rfl) ?_
        refine lv_dup E.1.1 E.1.2.1 dX0_appendPeriod_70 rfl ?_
        refine gf_X0_18 E Y 0 rfl rfl dX0_appendPeriod_71 ?_
        refine lv_iconst (v := 1) E.1.1 E.1.2.1 dX0_appendPeriod_74 (by decide) ?_
        refine lv_iadd E.1.1 E.1.2.1 dX0_appendPeriod_75 ?_
        refine pf_X0_18 (w' := [(qc, .inr (2, [.ref qe, .ref qr, .int ((k.1 3) + (1 : Int32))])), (qe, .inl (cI, 12, .inl (upd k.2.2.2.1 ((k.1 3).toNatClampNeg) ((0 : Int32) + p0)))), (qr, .inl (cI, 12, .inl (upd k.2.2.2.2 ((k.1 3).toNatClampNeg) p1)))]) E Y 0 rfl (Nat.le_of_ble_eq_true rfl) rfl dX0_appendPeriod_76 (fun H locs Y => ?_)
        have e9 : (f_X0_appendPeriod k p0 p1) = (upd (k.1) 3 ((k.1 3) + (1 : Int32)), k.2.1, k.2.2.1, (upd k.2.2.2.1 ((k.1 3).toNatClampNeg) ((0 : Int32) + p0)), (upd k.2.2.2.2 ((k.1 3).toNatClampNeg) p1)) := (if_neg c_9).trans ((if_neg c_21).trans ((if_pos c_28).trans (rfl)))
        exact r_vret E Y hr hk (upd (k.1) 3 ((k.1 3) + (1 : Int32)), k.2.1, k.2.2.1, (upd k.2.2.2.1 ((k.1 3).toNatClampNeg) ((0 : Int32) + p0)), (upd k.2.2.2.2 ((k.1 3).toNatClampNeg) p1)) (e9.symm) rfl ⟨Nat.le_of_ble_eq_true rfl, Nat.le_of_ble_eq_true rfl⟩ dX0_appendPeriod_79
      · skip
        refine lv_aload_n E.1.1 E.1.2.1 dX0_appendPeriod_31 rfl (lv_at hl 0 rfl) ?_
        refine gf_X0_9 E Y 0 rfl rfl dX0_appendPeriod_32 ?_
        refine lv_aload_n E.1.1 E.1.2.1 dX0_appendPeriod_35 rfl (lv_at hl 0 rfl) ?_
        refine gf_X0_18 E Y 0 rfl rfl dX0_appendPeriod_36 ?_
        refine lv_iconst (v := 1) E.1.1 E.1.2.1 dX0_appendPeriod_39 (by decide) ?_
        refine lv_isub E.1.1 E.1.2.1 dX0_appendPeriod_40 ?_
        refine r_ial E Y 1 rfl (((k.1 3) - (1 : Int32)).toNatClampNeg) rfl (vp_pred (by decide) c_28 c_9) dX0_appendPeriod_41 ?_
        refine lv_goto (tgt := 46) E.1.1 E.1.2.1 dX0_appendPeriod_42 (by decide) ?_
        refine lv_istore_n (lv' := [(3, .int (k.2.2.2.1 (((k.1 3) - (1 : Int32)).toNatClampNeg))), (0, .ref qc), (1, .int p0), (2, .int p1)]) E.1.1 E.1.2.1 dX0_appendPeriod_46 rfl hl (by decide) rfl (fun ls hl => ?_)
        refine lv_aload_n E.1.1 E.1.2.1 dX0_appendPeriod_47 rfl (lv_at hl 1 rfl) ?_
        refine gf_X0_9 E Y 0 rfl rfl dX0_appendPeriod_48 ?_
        refine lv_aload_n E.1.1 E.1.2.1 dX0_appendPeriod_51 rfl (lv_at hl 1 rfl) ?_
        refine gf_X0_18 E Y 0 rfl rfl dX0_appendPeriod_52 ?_
        refine lv_iload_n E.1.1 E.1.2.1 dX0_appendPeriod_55 rfl (lv_at hl 0 rfl) ?_
        refine lv_iload_n E.1.1 E.1.2.1 dX0_appendPeriod_56 rfl (lv_at hl 2 rfl) ?_
        refine lv_iadd E.1.1 E.1.2.1 dX0_appendPeriod_57 ?_
        refine r_ias (w' := [(qc, .inr (2, [.ref qe, .ref qr, .int (k.1 3)])), (qe, .inl (cI, 12, .inl (upd k.2.2.2.1 ((k.1 3).toNatClampNeg) ((k.2.2.2.1 (((k.1 3) - (1 : Int32)).toNatClampNeg)) + p0)))), (qr, .inl (cI, 12, .inl k.2.2.2.2))]) E Y 1 rfl ((k.1 3).toNatClampNeg) rfl (vp0 12 (by decide) h3 c_9) rfl dX0_appendPeriod_58 (fun H locs Y => ?_)
        refine lv_aload_n E.1.1 E.1.2.1 dX0_appendPeriod_59 rfl (lv_at hl 1 rfl) ?_
        refine gf_X0_15 E Y 0 rfl rfl dX0_appendPeriod_60 ?_
        refine lv_aload_n E.1.1 E.1.2.1 dX0_appendPeriod_63 rfl (lv_at hl 1 rfl) ?_
        refine gf_X0_18 E Y 0 rfl rfl dX0_appendPeriod_64 ?_
        refine lv_iload_n E.1.1 E.1.2.1 dX0_appendPeriod_67 rfl (lv_at hl 3 rfl) ?_
        refine r_ias (w' := [(qc, .inr (2, [.ref qe, .ref qr, .int (k.1 3)])), (qe, .inl (cI, 12, .inl (upd k.2.2.2.1 ((k.1 3).toNatClampNeg) ((k.2.2.2.1 (((k.1 3) - (1 : Int32)).toNatClampNeg)) + p0)))), (qr, .inl (cI, 12, .inl (upd k.2.2.2.2 ((k.1 3).toNatClampNeg) p1)))]) E Y 2 rfl ((k.1 3).toNatClampNeg) rfl (vp0 12 (by decide) h3 c_9) rfl dX0_appendPeriod_68 (fun H locs Y => ?_)
        refine lv_aload_n E.1.1 E.1.2.1 dX0_appendPeriod_69 rfl (lv_at hl 1 rfl) ?_
        refine lv_dup E.1.1 E.1.2.1 dX0_appendPeriod_70 rfl ?_
        refine gf_X0_18 E Y 0 rfl rfl dX0_appendPeriod_71 ?_
        refine lv_iconst (v := 1) E.1.1 E.1.2.1 dX0_appendPeriod_74 (by decide) ?_
        refine lv_iadd E.1.1 E.1.2.1 dX0_appendPeriod_75 ?_
        refine pf_X0_18 (w' := [(qc, .inr (2, [.ref qe, .ref qr, .int ((k.1 3) + (1 : Int32))])), (qe, .inl (cI, 12, .inl (upd k.2.2.2.1 ((k.1 3).toNatClampNeg) ((k.2.2.2.1 (((k.1 3) - (1 : Int32)).toNatClampNeg)) + p0)))), (qr, .inl (cI, 12, .inl (upd k.2.2.2.2 ((k.1 3).toNatClampNeg) p1)))]) E Y 0 rfl (Nat.le_of_ble_eq_true rfl) rfl dX0_appendPeriod_76 (fun H locs Y => ?_)
        have e9 : (f_X0_appendPeriod k p0 p1) = (upd (k.1) 3 ((k.1 3) + (1 : Int32)), k.2.1, k.2.2.1, (upd k.2.2.2.1 ((k.1 3).toNatClampNeg) ((k.2.2.2.1 (((k.1 3) - (1 : Int32)).toNatClampNeg)) + p0)), (upd k.2.2.2.2 ((k.1 3).toNatClampNeg) p1)) := (if_neg c_9).trans ((if_neg c_21).trans ((if_neg c_28).trans (rfl)))
        exact r_vret E Y hr hk (upd (k.1) 3 ((k.1 3) + (1 : Int32)), k.2.1, k.2.2.1, (upd k.2.2.2.1 ((k.1 3).toNatClampNeg) ((k.2.2.2.1 (((k.1 3) - (1 : Int32)).toNatClampNeg)) + p0)), (upd k.2.2.2.2 ((k.1 3).toNatClampNeg) p1)) (e9.symm) rfl ⟨Nat.le_of_ble_eq_true rfl, Nat.le_of_ble_eq_true rfl⟩ dX0_appendPeriod_79

def f_X0_rateAt_l28 (k : Cf) (p0 : Int32) : Nat → Int32 → Nat → Int32
  | 0, r, j => r
  | n + 1, r, j => if (if (if (12 : Int32) < (12 : Int32) then (12 : Int32) else (12 : Int32)) < (k.1 3) then (if (12 : Int32) < (12 : Int32) then (12 : Int32) else (12 : Int32)) else (k.1 3)) ≤ (nI j) then r else (if (k.2.2.2.1 j) ≤ p0 then f_X0_rateAt_l28 k p0 n (k.2.2.2.2 j) (j + 1) else (k.2.2.2.2 j))
def f_X0_rateAt (k : Cf) (p0 : Int32) : Int32 := f_X0_rateAt_l28 k p0 13 (1000 : Int32) (0)
set_option maxRecDepth 100000 in
set_option maxHeartbeats 4000000 in
theorem c_X0_rateAt {l : Launch} {D : va_G} {cI cB : ClassId} (qc qe qr : Nat) (k : Cf) (p0 : Int32) : CI l X0 D cI cB yX0_rateAt cX0_rateAt 5 (some .int) 1 21 0 0 [.ref qc, .int p0] (wC cI qc qe qr k) (fun (r : Int32) (_ : Unit) => r = (f_X0_rateAt k p0)) (fun _ => (wC cI qc qe qr k)) := by
  refine CI.of (by decide) (Nat.le_of_ble_eq_true rfl) ?_
  intro p e s m below meth c A ls E hr hk hin hA hAA hX Y hl
  have E : EE p c cX0_rateAt 5 s _ m RX0 D cI cB := E
  have hl : lv_has ls 5 [(0, .ref qc), (1, .int p0)] := hl
  refine lv_sipush (v := 1000) E.1.1 E.1.2.1 dX0_rateAt_0 (by decide) ?_
  refine lv_istore_n (lv' := [(2, .int (1000 : Int32)), (0, .ref qc), (1, .int p0)]) E.1.1 E.1.2.1 dX0_rateAt_3 rfl hl (by decide) rfl (fun ls hl => ?_)
  refine lv_aload_n E.1.1 E.1.2.1 dX0_rateAt_4 rfl (lv_at hl 1 rfl) ?_
  refine gf_X0_18 E Y 0 rfl rfl dX0_rateAt_5 ?_
  refine lv_aload_n E.1.1 E.1.2.1 dX0_rateAt_8 rfl (lv_at hl 1 rfl) ?_
  refine gf_X0_9 E Y 0 rfl rfl dX0_rateAt_9 ?_
  refine r_alenI (v := 12) E Y 1 rfl (by decide) dX0_rateAt_12 ?_
  refine lv_aload_n E.1.1 E.1.2.1 dX0_rateAt_13 rfl (lv_at hl 1 rfl) ?_
  refine gf_X0_15 E Y 0 rfl rfl dX0_rateAt_14 ?_
  refine r_alenI (v := 12) E Y 2 rfl (by decide) dX0_rateAt_17 ?_
  refine r_min E hl.1 mm_X0_22 ⟨Nat.le_of_ble_eq_true rfl, Nat.le_of_ble_eq_true rfl⟩ ⟨Nat.le_of_ble_eq_true rfl, Nat.le_of_ble_eq_true rfl⟩ dX0_rateAt_18 ?_
  refine r_min E hl.1 mm_X0_22 ⟨Nat.le_of_ble_eq_true rfl, Nat.le_of_ble_eq_true rfl⟩ ⟨Nat.le_of_ble_eq_true rfl, Nat.le_of_ble_eq_true rfl⟩ dX0_rateAt_21 ?_
  refine lv_istore_n (lv' := [(3, .int (if (if (12 : Int32) < (12 : Int32) then (12 : Int32) else (12 : Int32)) < (k.1 3) then (if (12 : Int32) < (12 : Int32) then (12 : Int32) else (12 : Int32)) else (k.1 3))), (2, .int (1000 : Int32)), (0, .ref qc), (1, .int p0)]) E.1.1 E.1.2.1 dX0_rateAt_24 rfl hl (by decide) rfl (fun ls hl => ?_)
  refine lv_iconst (v := 0) E.1.1 E.1.2.1 dX0_rateAt_25 (by decide) ?_
  refine lv_istore (lv' := [(4, .int (0 : Int32)), (3, .int (if (if (12 : Int32) < (12 : Int32) then (12 : Int32) else (12 : Int32)) < (k.1 3) then (if (12 : Int32) < (12 : Int32) then (12 : Int32) else (12 : Int32)) else (k.1 3))), (2, .int (1000 : Int32)), (0, .ref qc), (1, .int p0)]) E.1.1 E.1.2.1 dX0_rateAt_26 hl (by decide) rfl (fun ls hl => ?_)
  have hL : ∀ (n : Nat) (r : Int32) (j : Nat), (hj : j ≤ 12) → (hn : 12 < j + n) → (f_X0_rateAt k p0) = f_X0_rateAt_l28 k p0 n r j → ∀ (H : Heap) (locs : List Loc) (ls : Array Slot), WD D A s.heap H locs [(qc, .inr (2, [.ref qe, .ref qr, .int (k.1 3)])), (qe, .inl (cI, 12, .inl k.2.2.2.1)), (qr, .inl (cI, 12, .inl k.2.2.2.2))] → lv_has ls 5 [(0, .ref qc), (1, .int p0), (2, .int r), (3, .int (if (if (12 : Int32) < (12 : Int32) then (12 : Int32) else (12 : Int32)) < (k.1 3) then (if (12 : Int32) < (12 : Int32) then (12 : Int32) else (12 : Int32)) else (k.1 3))), (4, .int (nI j))] → W p l e { frames := 1, cells := 0, slots := 0, locals := 21 } s m ([.ref qc, .int p0] : List Value).toArray below meth c H locs 0 0 (MQ below (va_Qi (fun (r : Int32) (_ : Unit) => r = (f_X0_rateAt k p0)) (AT D cI cB A (fun _ => (wC cI qc qe qr k))) A) ([.ref qc, .int p0] : List Value).toArray s 0 0 A) (F0 m 28 ls []) := by
    intro n
    induction n with
    | zero => intro r j hj hn; exact absurd hn (by omega)
    | succ n ih =>
      intro r j hj hn hF H locs ls Y hl
      refine lv_iload E.1.1 E.1.2.1 dX0_rateAt_28 (lv_at hl 4 rfl) ?_
      refine lv_iload_n E.1.1 E.1.2.1 dX0_rateAt_30 rfl (lv_at hl 3 rfl) ?_
      refine lv_icmp_ge (tgt := 61) E.1.1 E.1.2.1 dX0_rateAt_31 (by decide) (fun c_31 => ?_) (fun c_31 => ?_)
      · skip
        refine lv_iload_n E.1.1 E.1.2.1 dX0_rateAt_61 rfl (lv_at hl 2 rfl) ?_
        have e9 : (f_X0_rateAt k p0) = r := hF.trans ((if_pos c_31).trans (rfl))
        exact r_iret E Y hr hk r () (e9.symm) rfl ⟨Nat.le_of_ble_eq_true rfl, Nat.le_of_ble_eq_true rfl⟩ dX0_rateAt_62
      · skip
        refine lv_aload_n E.1.1 E.1.2.1 dX0_rateAt_34 rfl (lv_at hl 0 rfl) ?_
        refine gf_X0_15 E Y 0 rfl rfl dX0_rateAt_35 ?_
        refine lv_iload E.1.1 E.1.2.1 dX0_rateAt_38 (lv_at hl 4 rfl) ?_
        refine r_ial E Y 2 rfl j (nI_clamp (by omega)) (vp_in_nI (rat_lt c_31 hj) (by decide)) dX0_rateAt_40 ?_
        refine lv_istore_n (lv' := [(2, .int (k.2.2.2.2 j)), (0, .ref qc), (1, .int p0), (3, .int (if (if (12 : Int32) < (12 : Int32) then (12 : Int32) else (12 : Int32)) < (k.1 3) then (if (12 : Int32) < (12 : Int32) then (12 : Int32) else (12 : Int32)) else (k.1 3))), (4, .int (nI j))]) E.1.1 E.1.2.1 dX0_rateAt_41 rfl hl (by decide) rfl (fun ls hl => ?_)
        refine lv_iload_n E.1.1 E.1.2.1 dX0_rateAt_42 rfl (lv_at hl 2 rfl) ?_
        refine lv_aload_n E.1.1 E.1.2.1 dX0_rateAt_43 rfl (lv_at hl 1 rfl) ?_
        refine gf_X0_9 E Y 0 rfl rfl dX0_rateAt_44 ?_
        refine lv_iload E.1.1 E.1.2.1 dX0_rateAt_47 (lv_at hl 4 rfl) ?_
        refine r_ial E Y 1 rfl j (nI_clamp (by omega)) (vp_in_nI (rat_lt c_31 hj) (by decide)) dX0_rateAt_49 ?_
        refine lv_icmp_ge (tgt := 55) E.1.1 E.1.2.1 dX0_rateAt_50 (by decide) (fun c_50 => ?_) (fun c_50 => ?_)
        · skip
          refine lv_iinc (v := (nI (j + 1))) (lv' := [(4, .int (nI (j + 1))), (2, .int (k.2.2.2.2 j)), (0, .ref qc), (1, .int p0), (3, .int (if (if (12 : Int32) < (12 : Int32) then (12 : Int32) else (12 : Int32)) < (k.1 3) then (if (12 : Int32) < (12 : Int32) then (12 : Int32) else (12 : Int32)) else (k.1 3)))]) E.1.1 E.1.2.1 dX0_rateAt_55 hl (k := 4) rfl (nI_1 j) (by decide) rfl (fun ls hl => ?_)
          refine lv_goto (tgt := 28) E.1.1 E.1.2.1 dX0_rateAt_58 (by decide) ?_
          exact ih (k.2.2.2.2 j) (j + 1) (by have := rat_lt c_31 hj; omega) (by omega) (hF.trans ((if_neg c_31).trans ((if_pos c_50).trans (rfl)))) H locs ls Y (lv_sub hl [2, 3, 1, 4, 0] rfl)
        · skip
          refine lv_iload_n E.1.1 E.1.2.1 dX0_rateAt_53 rfl (lv_at hl 0 rfl) ?_
          have e9 : (f_X0_rateAt k p0) = (k.2.2.2.2 j) := hF.trans ((if_neg c_31).trans ((if_neg c_50).trans (rfl)))
          exact r_iret E Y hr hk (k.2.2.2.2 j) () (e9.symm) rfl ⟨Nat.le_of_ble_eq_true rfl, Nat.le_of_ble_eq_true rfl⟩ dX0_rateAt_54
  exact hL 13 (1000 : Int32) (0) (by decide) (by decide) (rfl) _ _ _ Y (lv_sub hl [3, 4, 2, 1, 0] rfl)

def f_X3_changeBuffer (k : Cf) (p0 : Int32) (p1 : Int32) : Int32 × Cf := if (k.1 4) = p0 then (if (k.1 5) = p1 then ((0 : Int32), (upd (upd (k.1) 4 p0) 5 p1, k.2.1, k.2.2.1, k.2.2.2.1, k.2.2.2.2)) else ((1 : Int32), (upd (upd (k.1) 4 p0) 5 p1, k.2.1, k.2.2.1, k.2.2.2.1, k.2.2.2.2))) else ((1 : Int32), (upd (upd (k.1) 4 p0) 5 p1, k.2.1, k.2.2.1, k.2.2.2.1, k.2.2.2.2))
set_option maxRecDepth 100000 in
set_option maxHeartbeats 4000000 in
theorem c_X3_changeBuffer {l : Launch} {D : va_G} {cI cB : ClassId} (qt : Nat) (k : Cf) (p0 : Int32) (p1 : Int32) : CI l X0 D cI cB yX3_changeBuffer cX3_changeBuffer 4 (some .boolean) 0 0 0 0 [.ref qt, .int p0, .int p1] (wT cI qt k) (fun (r : Int32) (u : Cf) => r = (f_X3_changeBuffer k p0 p1).1 ∧ u = (f_X3_changeBuffer k p0 p1).2) (fun u => (wT cI qt u)) := by
  refine CI.of (by decide) (Nat.le_of_ble_eq_true rfl) ?_
  intro p e s m below meth c A ls E hr hk hin hA hAA hX Y hl
  have E : EE p c cX3_changeBuffer 4 s _ m RX3 D cI cB := E
  have hl : lv_has ls 4 [(0, .ref qt), (1, .int p0), (2, .int p1)] := hl
  refine lv_aload_n E.1.1 E.1.2.1 dX3_changeBuffer_0 rfl (lv_at hl 0 rfl) ?_
  refine gf_X3_7 E Y 0 rfl rfl dX3_changeBuffer_1 ?_
  refine lv_iload_n E.1.1 E.1.2.1 dX3_changeBuffer_4 rfl (lv_at hl 1 rfl) ?_
  refine lv_icmp_ne (tgt := 16) E.1.1 E.1.2.1 dX3_changeBuffer_5 (by decide) (fun c_5 => ?_) (fun c_5 => ?_)
  · skip
    refine lv_iconst (v := 1) E.1.1 E.1.2.1 dX3_changeBuffer_16 (by decide) ?_
    refine lv_goto (tgt := 21) E.1.1 E.1.2.1 dX3_changeBuffer_17 (by decide) ?_
    refine lv_istore_n (lv' := [(3, .int (1 : Int32)), (0, .ref qt), (1, .int p0), (2, .int p1)]) E.1.1 E.1.2.1 dX3_changeBuffer_21 rfl hl (by decide) rfl (fun ls hl => ?_)
    refine lv_aload_n E.1.1 E.1.2.1 dX3_changeBuffer_22 rfl (lv_at hl 1 rfl) ?_
    refine lv_iload_n E.1.1 E.1.2.1 dX3_changeBuffer_23 rfl (lv_at hl 2 rfl) ?_
    refine pf_X3_7 (w' := [(qt, .inr (5, [.int p0, .int (k.1 5), .int (k.1 6), .int (k.1 7), .int (k.1 8)]))]) E Y 0 rfl (Nat.le_of_ble_eq_true rfl) rfl dX3_changeBuffer_24 (fun H locs Y => ?_)
    refine lv_aload_n E.1.1 E.1.2.1 dX3_changeBuffer_27 rfl (lv_at hl 1 rfl) ?_
    refine lv_iload_n E.1.1 E.1.2.1 dX3_changeBuffer_28 rfl (lv_at hl 3 rfl) ?_
    refine pf_X3_13 (w' := [(qt, .inr (5, [.int p0, .int p1, .int (k.1 6), .int (k.1 7), .int (k.1 8)]))]) E Y 0 rfl (Nat.le_of_ble_eq_true rfl) rfl dX3_changeBuffer_29 (fun H locs Y => ?_)
    refine lv_iload_n E.1.1 E.1.2.1 dX3_changeBuffer_32 rfl (lv_at hl 0 rfl) ?_
    have e9 : (f_X3_changeBuffer k p0 p1) = ((1 : Int32), (upd (upd (k.1) 4 p0) 5 p1, k.2.1, k.2.2.1, k.2.2.2.1, k.2.2.2.2)) := (if_neg c_5).trans (rfl)
    exact r_zret E Y hr hk (1 : Int32) rfl (upd (upd (k.1) 4 p0) 5 p1, k.2.1, k.2.2.1, k.2.2.2.1, k.2.2.2.2) (⟨(congrArg Prod.fst e9).symm, (congrArg Prod.snd e9).symm⟩) rfl ⟨Nat.le_of_ble_eq_true rfl, Nat.le_of_ble_eq_true rfl⟩ dX3_changeBuffer_33
  · skip
    refine lv_aload_n E.1.1 E.1.2.1 dX3_changeBuffer_8 rfl (lv_at hl 0 rfl) ?_
    refine gf_X3_13 E Y 0 rfl rfl dX3_changeBuffer_9 ?_
    refine lv_iload_n E.1.1 E.1.2.1 dX3_changeBuffer_12 rfl (lv_at hl 2 rfl) ?_
    refine lv_icmp_eq (tgt := 20) E.1.1 E.1.2.1 dX3_changeBuffer_13 (by decide) (fun c_13 => ?_) (fun c_13 => ?_)
    · skip
      refine lv_iconst (v := 0) E.1.1 E.1.2.1 dX3_changeBuffer_20 (by decide) ?_
      refine lv_istore_n (lv' := [(3, .int (0 : Int32)), (0, .ref qt), (1, .int p0), (2, .int p1)]) E.1.1 E.1.2.1 dX3_changeBuffer_21 rfl hl (by decide) rfl (fun ls hl => ?_)
      refine lv_aload_n E.1.1 E.1.2.1 dX3_changeBuffer_22 rfl (lv_at hl 1 rfl) ?_
      refine lv_iload_n E.1.1 E.1.2.1 dX3_changeBuffer_23 rfl (lv_at hl 2 rfl) ?_
      refine pf_X3_7 (w' := [(qt, .inr (5, [.int p0, .int (k.1 5), .int (k.1 6), .int (k.1 7), .int (k.1 8)]))]) E Y 0 rfl (Nat.le_of_ble_eq_true rfl) rfl dX3_changeBuffer_24 (fun H locs Y => ?_)
      refine lv_aload_n E.1.1 E.1.2.1 dX3_changeBuffer_27 rfl (lv_at hl 1 rfl) ?_
      refine lv_iload_n E.1.1 E.1.2.1 dX3_changeBuffer_28 rfl (lv_at hl 3 rfl) ?_
      refine pf_X3_13 (w' := [(qt, .inr (5, [.int p0, .int p1, .int (k.1 6), .int (k.1 7), .int (k.1 8)]))]) E Y 0 rfl (Nat.le_of_ble_eq_true rfl) rfl dX3_changeBuffer_29 (fun H locs Y => ?_)
      refine lv_iload_n E.1.1 E.1.2.1 dX3_changeBuffer_32 rfl (lv_at hl 0 rfl) ?_
      have e9 : (f_X3_changeBuffer k p0 p1) = ((0 : Int32), (upd (upd (k.1) 4 p0) 5 p1, k.2.1, k.2.2.1, k.2.2.2.1, k.2.2.2.2)) := (if_pos c_5).trans ((if_pos c_13).trans (rfl))
      exact r_zret E Y hr hk (0 : Int32) rfl (upd (upd (k.1) 4 p0) 5 p1, k.2.1, k.2.2.1, k.2.2.2.1, k.2.2.2.2) (⟨(congrArg Prod.fst e9).symm, (congrArg Prod.snd e9).symm⟩) rfl ⟨Nat.le_of_ble_eq_true rfl, Nat.le_of_ble_eq_true rfl⟩ dX3_changeBuffer_33
    · skip
      refine lv_iconst (v := 1) E.1.1 E.1.2.1 dX3_changeBuffer_16 (by decide) ?_
      refine lv_goto (tgt := 21) E.1.1 E.1.2.1 dX3_changeBuffer_17 (by decide) ?_
      refine lv_istore_n (lv' := [(3, .int (1 : Int32)), (0, .ref qt), (1, .int p0), (2, .int p1)]) E.1.1 E.1.2.1 dX3_changeBuffer_21 rfl hl (by decide) rfl (fun ls hl => ?_)
      refine lv_aload_n E.1.1 E.1.2.1 dX3_changeBuffer_22 rfl (lv_at hl 1 rfl) ?_
      refine lv_iload_n E.1.1 E.1.2.1 dX3_changeBuffer_23 rfl (lv_at hl 2 rfl) ?_
      refine pf_X3_7 (w' := [(qt, .inr (5, [.int p0, .int (k.1 5), .int (k.1 6), .int (k.1 7), .int (k.1 8)]))]) E Y 0 rfl (Nat.le_of_ble_eq_true rfl) rfl dX3_changeBuffer_24 (fun H locs Y => ?_)
      refine lv_aload_n E.1.1 E.1.2.1 dX3_changeBuffer_27 rfl (lv_at hl 1 rfl) ?_
      refine lv_iload_n E.1.1 E.1.2.1 dX3_changeBuffer_28 rfl (lv_at hl 3 rfl) ?_
      refine pf_X3_13 (w' := [(qt, .inr (5, [.int p0, .int p1, .int (k.1 6), .int (k.1 7), .int (k.1 8)]))]) E Y 0 rfl (Nat.le_of_ble_eq_true rfl) rfl dX3_changeBuffer_29 (fun H locs Y => ?_)
      refine lv_iload_n E.1.1 E.1.2.1 dX3_changeBuffer_32 rfl (lv_at hl 0 rfl) ?_
      have e9 : (f_X3_changeBuffer k p0 p1) = ((1 : Int32), (upd (upd (k.1) 4 p0) 5 p1, k.2.1, k.2.2.1, k.2.2.2.1, k.2.2.2.2)) := (if_pos c_5).trans ((if_neg c_13).trans (rfl))
      exact r_zret E Y hr hk (1 : Int32) rfl (upd (upd (k.1) 4 p0) 5 p1, k.2.1, k.2.2.1, k.2.2.2.1, k.2.2.2.2) (⟨(congrArg Prod.fst e9).symm, (congrArg Prod.snd e9).symm⟩) rfl ⟨Nat.le_of_ble_eq_true rfl, Nat.le_of_ble_eq_true rfl⟩ dX3_changeBuffer_33

def f_X3_changePolicyNumbers (k : Cf) (p0 : Int32) (p1 : Int32) (p2 : Int32) : Int32 × Cf := if (k.1 6) = p0 then (if (k.1 7) = p1 then (if (k.1 8) = p2 then ((0 : Int32), (upd (upd (upd (k.1) 6 p0) 7 p1) 8 p2, k.2.1, k.2.2.1, k.2.2.2.1, k.2.2.2.2)) else ((1 : Int32), (upd (upd (upd (k.1) 6 p0) 7 p1) 8 p2, k.2.1, k.2.2.1, k.2.2.2.1, k.2.2.2.2))) else ((1 : Int32), (upd (upd (upd (k.1) 6 p0) 7 p1) 8 p2, k.2.1, k.2.2.1, k.2.2.2.1, k.2.2.2.2))) else ((1 : Int32), (upd (upd (upd (k.1) 6 p0) 7 p1) 8 p2, k.2.1, k.2.2.1, k.2.2.2.1, k.2.2.2.2))
set_option maxRecDepth 100000 in
set_option maxHeartbeats 4000000 in
theorem c_X3_changePolicyNumbers {l : Launch} {D : va_G} {cI cB : ClassId} (qt : Nat) (k : Cf) (p0 : Int32) (p1 : Int32) (p2 : Int32) : CI l X0 D cI cB yX3_changePolicyNumbers cX3_changePolicyNumbers 5 (some .boolean) 0 0 0 0 [.ref qt, .int p0, .int p1, .int p2] (wT cI qt k) (fun (r : Int32) (u : Cf) => r = (f_X3_changePolicyNumbers k p0 p1 p2).1 ∧ u = (f_X3_changePolicyNumbers k p0 p1 p2).2) (fun u => (wT cI qt u)) := by
  refine CI.of (by decide) (Nat.le_of_ble_eq_true rfl) ?_
  intro p e s m below meth c A ls E hr hk hin hA hAA hX Y hl
  have E : EE p c cX3_changePolicyNumbers 5 s _ m RX3 D cI cB := E
  have hl : lv_has ls 5 [(0, .ref qt), (1, .int p0), (2, .int p1), (3, .int p2)] := hl
  refine lv_aload_n E.1.1 E.1.2.1 dX3_changePolicyNumbers_0 rfl (lv_at hl 0 rfl) ?_
  refine gf_X3_16 E Y 0 rfl rfl dX3_changePolicyNumbers_1 ?_
  refine lv_iload_n E.1.1 E.1.2.1 dX3_changePolicyNumbers_4 rfl (lv_at hl 1 rfl) ?_
  refine lv_icmp_ne (tgt := 24) E.1.1 E.1.2.1 dX3_changePolicyNumbers_5 (by decide) (fun c_5 => ?_) (fun c_5 => ?_)
  · skip
    refine lv_iconst (v := 1) E.1.1 E.1.2.1 dX3_changePolicyNumbers_24 (by decide) ?_
    refine lv_goto (tgt := 29) E.1.1 E.1.2.1 dX3_changePolicyNumbers_25 (by decide) ?_
    refine lv_istore (lv' := [(4, .int (1 : Int32)), (0, .ref qt), (1, .int p0), (2, .int p1), (3, .int p2)]) E.1.1 E.1.2.1 dX3_changePolicyNumbers_29 hl (by decide) rfl (fun ls hl => ?_)
    refine lv_aload_n E.1.1 E.1.2.1 dX3_changePolicyNumbers_31 rfl (lv_at hl 1 rfl) ?_
    refine lv_iload_n E.1.1 E.1.2.1 dX3_changePolicyNumbers_32 rfl (lv_at hl 2 rfl) ?_
    refine pf_X3_16 (w' := [(qt, .inr (5, [.int (k.1 4), .int (k.1 5), .int p0, .int (k.1 7), .int (k.1 8)]))]) E Y 0 rfl (Nat.le_of_ble_eq_true rfl) rfl dX3_changePolicyNumbers_33 (fun H locs Y => ?_)
    refine lv_aload_n E.1.1 E.1.2.1 dX3_changePolicyNumbers_36 rfl (lv_at hl 1 rfl) ?_
    refine lv_iload_n E.1.1 E.1.2.1 dX3_changePolicyNumbers_37 rfl (lv_at hl 3 rfl) ?_
    refine pf_X3_19 (w' := [(qt, .inr (5, [.int (k.1 4), .int (k.1 5), .int p0, .int p1, .int (k.1 8)]))]) E Y 0 rfl (Nat.le_of_ble_eq_true rfl) rfl dX3_changePolicyNumbers_38 (fun H locs Y => ?_)
    refine lv_aload_n E.1.1 E.1.2.1 dX3_changePolicyNumbers_41 rfl (lv_at hl 1 rfl) ?_
    refine lv_iload_n E.1.1 E.1.2.1 dX3_changePolicyNumbers_42 rfl (lv_at hl 4 rfl) ?_
    refine pf_X3_22 (w' := [(qt, .inr (5, [.int (k.1 4), .int (k.1 5), .int p0, .int p1, .int p2]))]) E Y 0 rfl (Nat.le_of_ble_eq_true rfl) rfl dX3_changePolicyNumbers_43 (fun H locs Y => ?_)
    refine lv_iload E.1.1 E.1.2.1 dX3_changePolicyNumbers_46 (lv_at hl 0 rfl) ?_
    have e9 : (f_X3_changePolicyNumbers k p0 p1 p2) = ((1 : Int32), (upd (upd (upd (k.1) 6 p0) 7 p1) 8 p2, k.2.1, k.2.2.1, k.2.2.2.1, k.2.2.2.2)) := (if_neg c_5).trans (rfl)
    exact r_zret E Y hr hk (1 : Int32) rfl (upd (upd (upd (k.1) 6 p0) 7 p1) 8 p2, k.2.1, k.2.2.1, k.2.2.2.1, k.2.2.2.2) (⟨(congrArg Prod.fst e9).symm, (congrArg Prod.snd e9).symm⟩) rfl ⟨Nat.le_of_ble_eq_true rfl, Nat.le_of_ble_eq_true rfl⟩ dX3_changePolicyNumbers_48
  · skip
    refine lv_aload_n E.1.1 E.1.2.1 dX3_changePolicyNumbers_8 rfl (lv_at hl 0 rfl) ?_
    refine gf_X3_19 E Y 0 rfl rfl dX3_changePolicyNumbers_9 ?_
    refine lv_iload_n E.1.1 E.1.2.1 dX3_changePolicyNumbers_12 rfl (lv_at hl 2 rfl) ?_
    refine lv_icmp_ne (tgt := 24) E.1.1 E.1.2.1 dX3_changePolicyNumbers_13 (by decide) (fun c_13 => ?_) (fun c_13 => ?_)
    · skip
      refine lv_iconst (v := 1) E.1.1 E.1.2.1 dX3_changePolicyNumbers_24 (by decide) ?_
      refine lv_goto (tgt := 29) E.1.1 E.1.2.1 dX3_changePolicyNumbers_25 (by decide) ?_
      refine lv_istore (lv' := [(4, .int (1 : Int32)), (0, .ref qt), (1, .int p0), (2, .int p1), (3, .int p2)]) E.1.1 E.1.2.1 dX3_changePolicyNumbers_29 hl (by decide) rfl (fun ls hl => ?_)
      refine lv_aload_n E.1.1 E.1.2.1 dX3_changePolicyNumbers_31 rfl (lv_at hl 1 rfl) ?_
      refine lv_iload_n E.1.1 E.1.2.1 dX3_changePolicyNumbers_32 rfl (lv_at hl 2 rfl) ?_
      refine pf_X3_16 (w' := [(qt, .inr (5, [.int (k.1 4), .int (k.1 5), .int p0, .int (k.1 7), .int (k.1 8)]))]) E Y 0 rfl (Nat.le_of_ble_eq_true rfl) rfl dX3_changePolicyNumbers_33 (fun H locs Y => ?_)
      refine lv_aload_n E.1.1 E.1.2.1 dX3_changePolicyNumbers_36 rfl (lv_at hl 1 rfl) ?_
      refine lv_iload_n E.1.1 E.1.2.1 dX3_changePolicyNumbers_37 rfl (lv_at hl 3 rfl) ?_
      refine pf_X3_19 (w' := [(qt, .inr (5, [.int (k.1 4), .int (k.1 5), .int p0, .int p1, .int (k.1 8)]))]) E Y 0 rfl (Nat.le_of_ble_eq_true rfl) rfl dX3_changePolicyNumbers_38 (fun H locs Y => ?_)
      refine lv_aload_n E.1.1 E.1.2.1 dX3_changePolicyNumbers_41 rfl (lv_at hl 1 rfl) ?_
      refine lv_iload_n E.1.1 E.1.2.1 dX3_changePolicyNumbers_42 rfl (lv_at hl 4 rfl) ?_
      refine pf_X3_22 (w' := [(qt, .inr (5, [.int (k.1 4), .int (k.1 5), .int p0, .int p1, .int p2]))]) E Y 0 rfl (Nat.le_of_ble_eq_true rfl) rfl dX3_changePolicyNumbers_43 (fun H locs Y => ?_)
      refine lv_iload E.1.1 E.1.2.1 dX3_changePolicyNumbers_46 (lv_at hl 0 rfl) ?_
      have e9 : (f_X3_changePolicyNumbers k p0 p1 p2) = ((1 : Int32), (upd (upd (upd (k.1) 6 p0) 7 p1) 8 p2, k.2.1, k.2.2.1, k.2.2.2.1, k.2.2.2.2)) := (if_pos c_5).trans ((if_neg c_13).trans (rfl))
      exact r_zret E Y hr hk (1 : Int32) rfl (upd (upd (upd (k.1) 6 p0) 7 p1) 8 p2, k.2.1, k.2.2.1, k.2.2.2.1, k.2.2.2.2) (⟨(congrArg Prod.fst e9).symm, (congrArg Prod.snd e9).symm⟩) rfl ⟨Nat.le_of_ble_eq_true rfl, Nat.le_of_ble_eq_true rfl⟩ dX3_changePolicyNumbers_48
    · skip
      refine lv_aload_n E.1.1 E.1.2.1 dX3_changePolicyNumbers_16 rfl (lv_at hl 0 rfl) ?_
      refine gf_X3_22 E Y 0 rfl rfl dX3_changePolicyNumbers_17 ?_
      refine lv_iload_n E.1.1 E.1.2.1 dX3_changePolicyNumbers_20 rfl (lv_at hl 3 rfl) ?_
      refine lv_icmp_eq (tgt := 28) E.1.1 E.1.2.1 dX3_changePolicyNumbers_21 (by decide) (fun c_21 => ?_) (fun c_21 => ?_)
      · skip
        refine lv_iconst (v := 0) E.1.1 E.1.2.1 dX3_changePolicyNumbers_28 (by decide) ?_
        refine lv_istore (lv' := [(4, .int (0 : Int32)), (0, .ref qt), (1, .int p0), (2, .int p1), (3, .int p2)]) E.1.1 E.1.2.1 dX3_changePolicyNumbers_29 hl (by decide) rfl (fun ls hl => ?_)
        refine lv_aload_n E.1.1 E.1.2.1 dX3_changePolicyNumbers_31 rfl (lv_at hl 1 rfl) ?_
        refine lv_iload_n E.1.1 E.1.2.1 dX3_changePolicyNumbers_32 rfl (lv_at hl 2 rfl) ?_
        refine pf_X3_16 (w' := [(qt, .inr (5, [.int (k.1 4), .int (k.1 5), .int p0, .int (k.1 7), .int (k.1 8)]))]) E Y 0 rfl (Nat.le_of_ble_eq_true rfl) rfl dX3_changePolicyNumbers_33 (fun H locs Y => ?_)
        refine lv_aload_n E.1.1 E.1.2.1 dX3_changePolicyNumbers_36 rfl (lv_at hl 1 rfl) ?_
        refine lv_iload_n E.1.1 E.1.2.1 dX3_changePolicyNumbers_37 rfl (lv_at hl 3 rfl) ?_
        refine pf_X3_19 (w' := [(qt, .inr (5, [.int (k.1 4), .int (k.1 5), .int p0, .int p1, .int (k.1 8)]))]) E Y 0 rfl (Nat.le_of_ble_eq_true rfl) rfl dX3_changePolicyNumbers_38 (fun H locs Y => ?_)
        refine lv_aload_n E.1.1 E.1.2.1 dX3_changePolicyNumbers_41 rfl (lv_at hl 1 rfl) ?_
        refine lv_iload_n E.1.1 E.1.2.1 dX3_changePolicyNumbers_42 rfl (lv_at hl 4 rfl) ?_
        refine pf_X3_22 (w' := [(qt, .inr (5, [.int (k.1 4), .int (k.1 5), .int p0, .int p1, .int p2]))]) E Y 0 rfl (Nat.le_of_ble_eq_true rfl) rfl dX3_changePolicyNumbers_43 (fun H locs Y => ?_)
        refine lv_iload E.1.1 E.1.2.1 dX3_changePolicyNumbers_46 (lv_at hl 0 rfl) ?_
        have e9 : (f_X3_changePolicyNumbers k p0 p1 p2) = ((0 : Int32), (upd (upd (upd (k.1) 6 p0) 7 p1) 8 p2, k.2.1, k.2.2.1, k.2.2.2.1, k.2.2.2.2)) := (if_pos c_5).trans ((if_pos c_13).trans ((if_pos c_21).trans (rfl)))
        exact r_zret E Y hr hk (0 : Int32) rfl (upd (upd (upd (k.1) 6 p0) 7 p1) 8 p2, k.2.1, k.2.2.1, k.2.2.2.1, k.2.2.2.2) (⟨(congrArg Prod.fst e9).symm, (congrArg Prod.snd e9).symm⟩) rfl ⟨Nat.le_of_ble_eq_true rfl, Nat.le_of_ble_eq_true rfl⟩ dX3_changePolicyNumbers_48
      · skip
        refine lv_iconst (v := 1) E.1.1 E.1.2.1 dX3_changePolicyNumbers_24 (by decide) ?_
        refine lv_goto (tgt := 29) E.1.1 E.1.2.1 dX3_changePolicyNumbers_25 (by decide) ?_
        refine lv_istore (lv' := [(4, .int (1 : Int32)), (0, .ref qt), (1, .int p0), (2, .int p1), (3, .int p2)]) E.1.1 E.1.2.1 dX3_changePolicyNumbers_29 hl (by decide) rfl (fun ls hl => ?_)
        refine lv_aload_n E.1.1 E.1.2.1 dX3_changePolicyNumbers_31 rfl (lv_at hl 1 rfl) ?_
        refine lv_iload_n E.1.1 E.1.2.1 dX3_changePolicyNumbers_32 rfl (lv_at hl 2 rfl) ?_
        refine pf_X3_16 (w' := [(qt, .inr (5, [.int (k.1 4), .int (k.1 5), .int p0, .int (k.1 7), .int (k.1 8)]))]) E Y 0 rfl (Nat.le_of_ble_eq_true rfl) rfl dX3_changePolicyNumbers_33 (fun H locs Y => ?_)
        refine lv_aload_n E.1.1 E.1.2.1 dX3_changePolicyNumbers_36 rfl (lv_at hl 1 rfl) ?_
        refine lv_iload_n E.1.1 E.1.2.1 dX3_changePolicyNumbers_37 rfl (lv_at hl 3 rfl) ?_
        refine pf_X3_19 (w' := [(qt, .inr (5, [.int (k.1 4), .int (k.1 5), .int p0, .int p1, .int (k.1 8)]))]) E Y 0 rfl (Nat.le_of_ble_eq_true rfl) rfl dX3_changePolicyNumbers_38 (fun H locs Y => ?_)
        refine lv_aload_n E.1.1 E.1.2.1 dX3_changePolicyNumbers_41 rfl (lv_at hl 1 rfl) ?_
        refine lv_iload_n E.1.1 E.1.2.1 dX3_changePolicyNumbers_42 rfl (lv_at hl 4 rfl) ?_
        refine pf_X3_22 (w' := [(qt, .inr (5, [.int (k.1 4), .int (k.1 5), .int p0, .int p1, .int p2]))]) E Y 0 rfl (Nat.le_of_ble_eq_true rfl) rfl dX3_changePolicyNumbers_43 (fun H locs Y => ?_)
        refine lv_iload E.1.1 E.1.2.1 dX3_changePolicyNumbers_46 (lv_at hl 0 rfl) ?_
        have e9 : (f_X3_changePolicyNumbers k p0 p1 p2) = ((1 : Int32), (upd (upd (upd (k.1) 6 p0) 7 p1) 8 p2, k.2.1, k.2.2.1, k.2.2.2.1, k.2.2.2.2)) := (if_pos c_5).trans ((if_pos c_13).trans ((if_neg c_21).trans (rfl)))
        exact r_zret E Y hr hk (1 : Int32) rfl (upd (upd (upd (k.1) 6 p0) 7 p1) 8 p2, k.2.1, k.2.2.1, k.2.2.2.1, k.2.2.2.2) (⟨(congrArg Prod.fst e9).symm, (congrArg Prod.snd e9).symm⟩) rfl ⟨Nat.le_of_ble_eq_true rfl, Nat.le_of_ble_eq_true rfl⟩ dX3_changePolicyNumbers_48

def f_X4_forget (g : Ss) : Ss := (upd (g.1) 11 (0 : Int32), g.2.1, g.2.2)
set_option maxRecDepth 100000 in
set_option maxHeartbeats 4000000 in
theorem c_X4_forget {l : Launch} {D : va_G} {cI cB : ClassId} (qh ql : Nat) (g : Ss) : CV l X0 D cI cB yX4_forget cX4_forget 1 0 0 0 0 [.ref qh] (wH cI qh ql g) (fun (u : Ss) => u = (f_X4_forget g)) (fun u => (wH cI qh ql u)) := by
  refine CV.of (by decide) (Nat.le_of_ble_eq_true rfl) ?_
  intro p e s m below meth c A ls E hr hk hin hA hAA hX Y hl
  have E : EE p c cX4_forget 1 s _ m RX4 D cI cB := E
  have hl : lv_has ls 1 [(0, .ref qh)] := hl
  refine lv_aload_n E.1.1 E.1.2.1 dX4_forget_0 rfl (lv_at hl 0 rfl) ?_
  refine lv_iconst (v := 0) E.1.1 E.1.2.1 dX4_forget_1 (by decide) ?_
  refine pf_X4_15 (w' := [(qh, .inr (6, [.ref ql, .int (0 : Int32)])), (ql, .inl (cI, 3, .inl g.2.1))]) E Y 0 rfl (Nat.le_of_ble_eq_true rfl) rfl dX4_forget_2 (fun H locs Y => ?_)
  have e9 : (f_X4_forget g) = (upd (g.1) 11 (0 : Int32), g.2.1, g.2.2) := rfl
  exact r_vret E Y hr hk (upd (g.1) 11 (0 : Int32), g.2.1, g.2.2) (e9.symm) rfl ⟨Nat.le_of_ble_eq_true rfl, Nat.le_of_ble_eq_true rfl⟩ dX4_forget_5

def f_X4_add (g : Ss) (p0 : Int32) : Ss := if (3 : Int32) ≤ (g.1 11) then (g.1, (upd (upd (upd g.2.1 (2) (g.2.1 (1))) (1) ((upd g.2.1 (2) (g.2.1 (1))) (0))) (0) p0), g.2.2) else (upd (g.1) 11 ((g.1 11) + (1 : Int32)), (upd (upd (upd g.2.1 (2) (g.2.1 (1))) (1) ((upd g.2.1 (2) (g.2.1 (1))) (0))) (0) p0), g.2.2)
set_option maxRecDepth 100000 in
set_option maxHeartbeats 4000000 in
theorem c_X4_add {l : Launch} {D : va_G} {cI cB : ClassId} (qh ql : Nat) (g : Ss) (p0 : Int32) : CV l X0 D cI cB yX4_add cX4_add 3 0 0 0 0 [.ref qh, .int p0] (wH cI qh ql g) (fun (u : Ss) => u = (f_X4_add g p0)) (fun u => (wH cI qh ql u)) := by
  refine CV.of (by decide) (Nat.le_of_ble_eq_true rfl) ?_
  intro p e s m below meth c A ls E hr hk hin hA hAA hX Y hl
  have E : EE p c cX4_add 3 s _ m RX4 D cI cB := E
  have hl : lv_has ls 3 [(0, .ref qh), (1, .int p0)] := hl
  refine lv_aload_n E.1.1 E.1.2.1 dX4_add_0 rfl (lv_at hl 0 rfl) ?_
  refine gf_X4_9 E Y 0 rfl rfl dX4_add_1 ?_
  refine r_alenI (v := 3) E Y 1 rfl (by decide) dX4_add_4 ?_
  refine lv_iconst (v := 1) E.1.1 E.1.2.1 dX4_add_5 (by decide) ?_
  refine lv_isub E.1.1 E.1.2.1 dX4_add_6 ?_
  refine lv_cst (v := 2) (by decide) ?_
  refine lv_istore_n (lv' := [(2, .int (2 : Int32)), (0, .ref qh), (1, .int p0)]) E.1.1 E.1.2.1 dX4_add_7 rfl hl (by decide) rfl (fun ls hl => ?_)
  refine lv_iload_n E.1.1 E.1.2.1 dX4_add_8 rfl (lv_at hl 0 rfl) ?_
  refine lv_if_le (tgt := 32) E.1.1 E.1.2.1 dX4_add_9 (by decide) (fun c_9 => ?_) (fun c_9 => ?_)
  · exact absurd c_9 (by decide)
  · skip
    refine lv_aload_n E.1.1 E.1.2.1 dX4_add_12 rfl (lv_at hl 1 rfl) ?_
    refine gf_X4_9 E Y 0 rfl rfl dX4_add_13 ?_
    refine lv_iload_n E.1.1 E.1.2.1 dX4_add_16 rfl (lv_at hl 0 rfl) ?_
    refine lv_aload_n E.1.1 E.1.2.1 dX4_add_17 rfl (lv_at hl 1 rfl) ?_
    refine gf_X4_9 E Y 0 rfl rfl dX4_add_18 ?_
    refine lv_iload_n E.1.1 E.1.2.1 dX4_add_21 rfl (lv_at hl 0 rfl) ?_
    refine lv_iconst (v := 1) E.1.1 E.1.2.1 dX4_add_22 (by decide) ?_
    refine lv_isub E.1.1 E.1.2.1 dX4_add_23 ?_
    refine lv_cst (v := 1) (by decide) ?_
    refine r_ial E Y 1 rfl (1) (by decide) (by unfold vp_in; decide) dX4_add_24 ?_
    refine r_ias (w' := [(qh, .inr (6, [.ref ql, .int (g.1 11)])), (ql, .inl (cI, 3, .inl (upd g.2.1 (2) (g.2.1 (1)))))]) E Y 1 rfl (2) (by decide) (by unfold vp_in; decide) rfl dX4_add_25 (fun H locs Y => ?_)
    refine lv_iinc (v := (1 : Int32)) (lv' := [(2, .int (1 : Int32)), (0, .ref qh), (1, .int p0)]) E.1.1 E.1.2.1 dX4_add_26 hl (k := 0) rfl (by decide) (by decide) rfl (fun ls hl => ?_)
    refine lv_goto (tgt := 8) E.1.1 E.1.2.1 dX4_add_29 (by decide) ?_
    refine lv_iload_n E.1.1 E.1.2.1 dX4_add_8 rfl (lv_at hl 0 rfl) ?_
    refine lv_if_le (tgt := 32) E.1.1 E.1.2.1 dX4_add_9 (by decide) (fun c_9 => ?_) (fun c_9 => ?_)
    · exact absurd c_9 (by decide)
    · skip
      refine lv_aload_n E.1.1 E.1.2.1 dX4_add_12 rfl (lv_at hl 1 rfl) ?_
      refine gf_X4_9 E Y 0 rfl rfl dX4_add_13 ?_
      refine lv_iload_n E.1.1 E.1.2.1 dX4_add_16 rfl (lv_at hl 0 rfl) ?_
      refine lv_aload_n E.1.1 E.1.2.1 dX4_add_17 rfl (lv_at hl 1 rfl) ?_
      refine gf_X4_9 E Y 0 rfl rfl dX4_add_18 ?_
      refine lv_iload_n E.1.1 E.1.2.1 dX4_add_21 rfl (lv_at hl 0 rfl) ?_
      refine lv_iconst (v := 1) E.1.1 E.1.2.1 dX4_add_22 (by decide) ?_
      refine lv_isub E.1.1 E.1.2.1 dX4_add_23 ?_
      refine lv_cst (v := 0) (by decide) ?_
      refine r_ial E Y 1 rfl (0) (by decide) (by unfold vp_in; decide) dX4_add_24 ?_
      refine r_ias (w' := [(qh, .inr (6, [.ref ql, .int (g.1 11)])), (ql, .inl (cI, 3, .inl (upd (upd g.2.1 (2) (g.2.1 (1))) (1) ((upd g.2.1 (2) (g.2.1 (1))) (0)))))]) E Y 1 rfl (1) (by decide) (by unfold vp_in; decide) rfl dX4_add_25 (fun H locs Y => ?_)
      refine lv_iinc (v := (0 : Int32)) (lv' := [(2, .int (0 : Int32)), (0, .ref qh), (1, .int p0)]) E.1.1 E.1.2.1 dX4_add_26 hl (k := 0) rfl (by decide) (by decide) rfl (fun ls hl => ?_)
      refine lv_goto (tgt := 8) E.1.1 E.1.2.1 dX4_add_29 (by decide) ?_
      refine lv_iload_n E.1.1 E.1.2.1 dX4_add_8 rfl (lv_at hl 0 rfl) ?_
      refine lv_if_le (tgt := 32) E.1.1 E.1.2.1 dX4_add_9 (by decide) (fun c_9 => ?_) (fun c_9 => ?_)
      · skip
        refine lv_aload_n E.1.1 E.1.2.1 dX4_add_32 rfl (lv_at hl 1 rfl) ?_
        refine gf_X4_9 E Y 0 rfl rfl dX4_add_33 ?_
        refine lv_iconst (v := 0) E.1.1 E.1.2.1 dX4_add_36 (by decide) ?_
        refine lv_iload_n E.1.1 E.1.2.1 dX4_add_37 rfl (lv_at hl 2 rfl) ?_
        refine r_ias (w' := [(qh, .inr (6, [.ref ql, .int (g.1 11)])), (ql, .inl (cI, 3, .inl (upd (upd (upd g.2.1 (2) (g.2.1 (1))) (1) ((upd g.2.1 (2) (g.2.1 (1))) (0))) (0) p0)))]) E Y 1 rfl (0) (by decide) (by unfold vp_in; decide) rfl dX4_add_38 (fun H locs Y => ?_)
        refine lv_aload_n E.1.1 E.1.2.1 dX4_add_39 rfl (lv_at hl 1 rfl) ?_
        refine gf_X4_15 E Y 0 rfl rfl dX4_add_40 ?_
        refine lv_aload_n E.1.1 E.1.2.1 dX4_add_43 rfl (lv_at hl 1 rfl) ?_
        refine gf_X4_9 E Y 0 rfl rfl dX4_add_44 ?_
        refine r_alenI (v := 3) E Y 1 rfl (by decide) dX4_add_47 ?_
        refine lv_icmp_ge (tgt := 61) E.1.1 E.1.2.1 dX4_add_48 (by decide) (fun c_48 => ?_) (fun c_48 => ?_)
        · skip
          have e9 : (f_X4_add g p0) = (g.1, (upd (upd (upd g.2.1 (2) (g.2.1 (1))) (1) ((upd g.2.1 (2) (g.2.1 (1))) (0))) (0) p0), g.2.2) := (if_pos c_48).trans (rfl)
          exact r_vret E Y hr hk (g.1, (upd (upd (upd g.2.1 (2) (g.2.1 (1))) (1) ((upd g.2.1 (2) (g.2.1 (1))) (0))) (0) p0), g.2.2) (e9.symm) rfl ⟨Nat.le_of_ble_eq_true rfl, Nat.le_of_ble_eq_true rfl⟩ dX4_add_61
        · skip
          refine lv_aload_n E.1.1 E.1.2.1 dX4_add_51 rfl (lv_at hl 1 rfl) ?_
          refine lv_dup E.1.1 E.1.2.1 dX4_add_52 rfl ?_
          refine gf_X4_15 E Y 0 rfl rfl dX4_add_53 ?_
          refine lv_iconst (v := 1) E.1.1 E.1.2.1 dX4_add_56 (by decide) ?_
          refine lv_iadd E.1.1 E.1.2.1 dX4_add_57 ?_
          refine pf_X4_15 (w' := [(qh, .inr (6, [.ref ql, .int ((g.1 11) + (1 : Int32))])), (ql, .inl (cI, 3, .inl (upd (upd (upd g.2.1 (2) (g.2.1 (1))) (1) ((upd g.2.1 (2) (g.2.1 (1))) (0))) (0) p0)))]) E Y 0 rfl (Nat.le_of_ble_eq_true rfl) rfl dX4_add_58 (fun H locs Y => ?_)
          have e9 : (f_X4_add g p0) = (upd (g.1) 11 ((g.1 11) + (1 : Int32)), (upd (upd (upd g.2.1 (2) (g.2.1 (1))) (1) ((upd g.2.1 (2) (g.2.1 (1))) (0))) (0) p0), g.2.2) := (if_neg c_48).trans (rfl)
          exact r_vret E Y hr hk (upd (g.1) 11 ((g.1 11) + (1 : Int32)), (upd (upd (upd g.2.1 (2) (g.2.1 (1))) (1) ((upd g.2.1 (2) (g.2.1 (1))) (0))) (0) p0), g.2.2) (e9.symm) rfl ⟨Nat.le_of_ble_eq_true rfl, Nat.le_of_ble_eq_true rfl⟩ dX4_add_61
      · exact absurd (by decide) c_9

def f_X4_estimate_l14 (g : Ss) : Nat → Int32 → Nat → Int32
  | 0, x, j => x
  | n + 1, x, j => if (g.1 11) ≤ (nI j) then (x / (g.1 11)) else (if (3 : Int32) ≤ (nI j) then (x / (g.1 11)) else f_X4_estimate_l14 g n (x + (g.2.1 j)) (j + 1))
def f_X4_estimate (g : Ss) : Int32 := if 0 < (g.1 11) then f_X4_estimate_l14 g 4 (0 : Int32) (0) else (-6 : Int32)
set_option maxRecDepth 100000 in
set_option maxHeartbeats 4000000 in
theorem c_X4_estimate {l : Launch} {D : va_G} {cI cB : ClassId} (qh ql : Nat) (g : Ss) : CI l X0 D cI cB yX4_estimate cX4_estimate 3 (some .int) 0 0 0 0 [.ref qh] (wH cI qh ql g) (fun (r : Int32) (_ : Unit) => r = (f_X4_estimate g)) (fun _ => (wH cI qh ql g)) := by
  refine CI.of (by decide) (Nat.le_of_ble_eq_true rfl) ?_
  intro p e s m below meth c A ls E hr hk hin hA hAA hX Y hl
  have E : EE p c cX4_estimate 3 s _ m RX4 D cI cB := E
  have hl : lv_has ls 3 [(0, .ref qh)] := hl
  refine lv_aload_n E.1.1 E.1.2.1 dX4_estimate_0 rfl (lv_at hl 0 rfl) ?_
  refine gf_X4_15 E Y 0 rfl rfl dX4_estimate_1 ?_
  refine lv_if_gt (tgt := 10) E.1.1 E.1.2.1 dX4_estimate_4 (by decide) (fun c_4 => ?_) (fun c_4 => ?_)
  · skip
    refine lv_iconst (v := 0) E.1.1 E.1.2.1 dX4_estimate_10 (by decide) ?_
    refine lv_istore_n (lv' := [(1, .int (0 : Int32)), (0, .ref qh)]) E.1.1 E.1.2.1 dX4_estimate_11 rfl hl (by decide) rfl (fun ls hl => ?_)
    refine lv_iconst (v := 0) E.1.1 E.1.2.1 dX4_estimate_12 (by decide) ?_
    refine lv_istore_n (lv' := [(2, .int (0 : Int32)), (1, .int (0 : Int32)), (0, .ref qh)]) E.1.1 E.1.2.1 dX4_estimate_13 rfl hl (by decide) rfl (fun ls hl => ?_)
    have hL : ∀ (n : Nat) (x : Int32) (j : Nat), (hj : j ≤ 3) → (hn : 3 < j + n) → (f_X4_estimate g) = f_X4_estimate_l14 g n x j → ∀ (H : Heap) (locs : List Loc) (ls : Array Slot), WD D A s.heap H locs [(qh, .inr (6, [.ref ql, .int (g.1 11)])), (ql, .inl (cI, 3, .inl g.2.1))] → lv_has ls 3 [(0, .ref qh), (1, .int x), (2, .int (nI j))] → W p l e { frames := 0, cells := 0, slots := 0, locals := 0 } s m ([.ref qh] : List Value).toArray below meth c H locs 0 0 (MQ below (va_Qi (fun (r : Int32) (_ : Unit) => r = (f_X4_estimate g)) (AT D cI cB A (fun _ => (wH cI qh ql g))) A) ([.ref qh] : List Value).toArray s 0 0 A) (F0 m 14 ls []) := by
      intro n
      induction n with
      | zero => intro x j hj hn; exact absurd hn (by omega)
      | succ n ih =>
        intro x j hj hn hF H locs ls Y hl
        refine lv_iload_n E.1.1 E.1.2.1 dX4_estimate_14 rfl (lv_at hl 2 rfl) ?_
        refine lv_aload_n E.1.1 E.1.2.1 dX4_estimate_15 rfl (lv_at hl 0 rfl) ?_
        refine gf_X4_15 E Y 0 rfl rfl dX4_estimate_16 ?_
        refine lv_icmp_ge (tgt := 46) E.1.1 E.1.2.1 dX4_estimate_19 (by decide) (fun c_19 => ?_) (fun c_19 => ?_)
        · skip
          refine lv_iload_n E.1.1 E.1.2.1 dX4_estimate_46 rfl (lv_at hl 1 rfl) ?_
          refine lv_aload_n E.1.1 E.1.2.1 dX4_estimate_47 rfl (lv_at hl 0 rfl) ?_
          refine gf_X4_15 E Y 0 rfl rfl dX4_estimate_48 ?_
          refine lv_idiv E.1.1 E.1.2.1 dX4_estimate_51 (ne_of_pos c_4) ?_
          have e9 : (f_X4_estimate g) = (x / (g.1 11)) := hF.trans ((if_pos c_19).trans (rfl))
          exact r_iret E Y hr hk (x / (g.1 11)) () (e9.symm) rfl ⟨Nat.le_of_ble_eq_true rfl, Nat.le_of_ble_eq_true rfl⟩ dX4_estimate_52
        · skip
          refine lv_iload_n E.1.1 E.1.2.1 dX4_estimate_22 rfl (lv_at hl 2 rfl) ?_
          refine lv_aload_n E.1.1 E.1.2.1 dX4_estimate_23 rfl (lv_at hl 0 rfl) ?_
          refine gf_X4_9 E Y 0 rfl rfl dX4_estimate_24 ?_
          refine r_alenI (v := 3) E Y 1 rfl (by decide) dX4_estimate_27 ?_
          refine lv_icmp_ge (tgt := 46) E.1.1 E.1.2.1 dX4_estimate_28 (by decide) (fun c_28 => ?_) (fun c_28 => ?_)
          · skip
            refine lv_iload_n E.1.1 E.1.2.1 dX4_estimate_46 rfl (lv_at hl 1 rfl) ?_
            refine lv_aload_n E.1.1 E.1.2.1 dX4_estimate_47 rfl (lv_at hl 0 rfl) ?_
            refine gf_X4_15 E Y 0 rfl rfl dX4_estimate_48 ?_
            refine lv_idiv E.1.1 E.1.2.1 dX4_estimate_51 (ne_of_pos c_4) ?_
            have e9 : (f_X4_estimate g) = (x / (g.1 11)) := hF.trans ((if_neg c_19).trans ((if_pos c_28).trans (rfl)))
            exact r_iret E Y hr hk (x / (g.1 11)) () (e9.symm) rfl ⟨Nat.le_of_ble_eq_true rfl, Nat.le_of_ble_eq_true rfl⟩ dX4_estimate_52
          · skip
            refine lv_iload_n E.1.1 E.1.2.1 dX4_estimate_31 rfl (lv_at hl 1 rfl) ?_
            refine lv_aload_n E.1.1 E.1.2.1 dX4_estimate_32 rfl (lv_at hl 0 rfl) ?_
            refine gf_X4_9 E Y 0 rfl rfl dX4_estimate_33 ?_
            refine lv_iload_n E.1.1 E.1.2.1 dX4_estimate_36 rfl (lv_at hl 2 rfl) ?_
            refine r_ial E Y 1 rfl j (nI_clamp (by omega)) (vp_in_nI (nI_nge (a := 3) c_28 (by omega)) (by decide)) dX4_estimate_37 ?_
            refine lv_iadd E.1.1 E.1.2.1 dX4_estimate_38 ?_
            refine lv_istore_n (lv' := [(1, .int (x + (g.2.1 j))), (0, .ref qh), (2, .int (nI j))]) E.1.1 E.1.2.1 dX4_estimate_39 rfl hl (by decide) rfl (fun ls hl => ?_)
            refine lv_iinc (v := (nI (j + 1))) (lv' := [(2, .int (nI (j + 1))), (1, .int (x + (g.2.1 j))), (0, .ref qh)]) E.1.1 E.1.2.1 dX4_estimate_40 hl (k := 2) rfl (nI_1 j) (by decide) rfl (fun ls hl => ?_)
            refine lv_goto (tgt := 14) E.1.1 E.1.2.1 dX4_estimate_43 (by decide) ?_
            exact ih (x + (g.2.1 j)) (j + 1) (by have := nI_nge (a := 3) (b := j) c_28 (by omega); omega) (by omega) (hF.trans ((if_neg c_19).trans ((if_neg c_28).trans (rfl)))) H locs ls Y (lv_sub hl [2, 1, 0] rfl)
    exact hL 4 (0 : Int32) (0) (by decide) (by decide) ((if_pos c_4).trans (rfl)) _ _ _ Y (lv_sub hl [2, 1, 0] rfl)
  · skip
    refine lv_bipush (v := (-6)) E.1.1 E.1.2.1 dX4_estimate_7 (by decide) ?_
    have e9 : (f_X4_estimate g) = (-6 : Int32) := (if_neg c_4).trans (rfl)
    exact r_iret E Y hr hk (-6 : Int32) () (e9.symm) rfl ⟨Nat.le_of_ble_eq_true rfl, Nat.le_of_ble_eq_true rfl⟩ dX4_estimate_9

def f_X1_start (g : Ss) (p0 : Int32) (p1 : Int32) : Ss := (upd (upd (upd (upd (upd (g.1) 6 (1 : Int32)) 7 p0) 8 p1) 9 (0 : Int32)) 10 (0 : Int32), g.2.1, g.2.2)
set_option maxRecDepth 100000 in
set_option maxHeartbeats 4000000 in
theorem c_X1_start {l : Launch} {D : va_G} {cI cB : ClassId} (qd : Nat) (g : Ss) (p0 : Int32) (p1 : Int32) : CV l X0 D cI cB yX1_start cX1_start 3 0 0 0 0 [.ref qd, .int p0, .int p1] (wD cI qd g) (fun (u : Ss) => u = (f_X1_start g p0 p1)) (fun u => (wD cI qd u)) := by
  refine CV.of (by decide) (Nat.le_of_ble_eq_true rfl) ?_
  intro p e s m below meth c A ls E hr hk hin hA hAA hX Y hl
  have E : EE p c cX1_start 3 s _ m RX1 D cI cB := E
  have hl : lv_has ls 3 [(0, .ref qd), (1, .int p0), (2, .int p1)] := hl
  refine lv_aload_n E.1.1 E.1.2.1 dX1_start_0 rfl (lv_at hl 0 rfl) ?_
  refine lv_iconst (v := 1) E.1.1 E.1.2.1 dX1_start_1 (by decide) ?_
  refine pf_X1_7 (w' := [(qd, .inr (3, [.int (1 : Int32), .int (g.1 7), .int (g.1 8), .int (g.1 9), .int (g.1 10)]))]) E Y 0 rfl rfl rfl (Nat.le_of_ble_eq_true rfl) rfl dX1_start_2 (fun H locs Y => ?_)
  refine lv_aload_n E.1.1 E.1.2.1 dX1_start_5 rfl (lv_at hl 0 rfl) ?_
  refine lv_iload_n E.1.1 E.1.2.1 dX1_start_6 rfl (lv_at hl 1 rfl) ?_
  refine pf_X1_13 (w' := [(qd, .inr (3, [.int (1 : Int32), .int p0, .int (g.1 8), .int (g.1 9), .int (g.1 10)]))]) E Y 0 rfl (Nat.le_of_ble_eq_true rfl) rfl dX1_start_7 (fun H locs Y => ?_)
  refine lv_aload_n E.1.1 E.1.2.1 dX1_start_10 rfl (lv_at hl 0 rfl) ?_
  refine lv_iload_n E.1.1 E.1.2.1 dX1_start_11 rfl (lv_at hl 2 rfl) ?_
  refine pf_X1_17 (w' := [(qd, .inr (3, [.int (1 : Int32), .int p0, .int p1, .int (g.1 9), .int (g.1 10)]))]) E Y 0 rfl (Nat.le_of_ble_eq_true rfl) rfl dX1_start_12 (fun H locs Y => ?_)
  refine lv_aload_n E.1.1 E.1.2.1 dX1_start_15 rfl (lv_at hl 0 rfl) ?_
  refine lv_iconst (v := 0) E.1.1 E.1.2.1 dX1_start_16 (by decide) ?_
  refine pf_X1_20 (w' := [(qd, .inr (3, [.int (1 : Int32), .int p0, .int p1, .int (0 : Int32), .int (g.1 10)]))]) E Y 0 rfl (Nat.le_of_ble_eq_true rfl) rfl dX1_start_17 (fun H locs Y => ?_)
  refine lv_aload_n E.1.1 E.1.2.1 dX1_start_20 rfl (lv_at hl 0 rfl) ?_
  refine lv_iconst (v := 0) E.1.1 E.1.2.1 dX1_start_21 (by decide) ?_
  refine pf_X1_23 (w' := [(qd, .inr (3, [.int (1 : Int32), .int p0, .int p1, .int (0 : Int32), .int (0 : Int32)]))]) E Y 0 rfl (Nat.le_of_ble_eq_true rfl) rfl dX1_start_22 (fun H locs Y => ?_)
  have e9 : (f_X1_start g p0 p1) = (upd (upd (upd (upd (upd (g.1) 6 (1 : Int32)) 7 p0) 8 p1) 9 (0 : Int32)) 10 (0 : Int32), g.2.1, g.2.2) := rfl
  exact r_vret E Y hr hk (upd (upd (upd (upd (upd (g.1) 6 (1 : Int32)) 7 p0) 8 p1) 9 (0 : Int32)) 10 (0 : Int32), g.2.1, g.2.2) (e9.symm) rfl ⟨Nat.le_of_ble_eq_true rfl, Nat.le_of_ble_eq_true rfl⟩ dX1_start_25

def f_X1_stop (g : Ss) : Ss := (upd (g.1) 6 (0 : Int32), g.2.1, g.2.2)
set_option maxRecDepth 100000 in
set_option maxHeartbeats 4000000 in
theorem c_X1_stop {l : Launch} {D : va_G} {cI cB : ClassId} (qd : Nat) (g : Ss) : CV l X0 D cI cB yX1_stop cX1_stop 1 0 0 0 0 [.ref qd] (wD cI qd g) (fun (u : Ss) => u = (f_X1_stop g)) (fun u => (wD cI qd u)) := by
  refine CV.of (by decide) (Nat.le_of_ble_eq_true rfl) ?_
  intro p e s m below meth c A ls E hr hk hin hA hAA hX Y hl
  have E : EE p c cX1_stop 1 s _ m RX1 D cI cB := E
  have hl : lv_has ls 1 [(0, .ref qd)] := hl
  refine lv_aload_n E.1.1 E.1.2.1 dX1_stop_0 rfl (lv_at hl 0 rfl) ?_
  refine lv_iconst (v := 0) E.1.1 E.1.2.1 dX1_stop_1 (by decide) ?_
  refine pf_X1_7 (w' := [(qd, .inr (3, [.int (0 : Int32), .int (g.1 7), .int (g.1 8), .int (g.1 9), .int (g.1 10)]))]) E Y 0 rfl rfl rfl (Nat.le_of_ble_eq_true rfl) rfl dX1_stop_2 (fun H locs Y => ?_)
  have e9 : (f_X1_stop g) = (upd (g.1) 6 (0 : Int32), g.2.1, g.2.2) := rfl
  exact r_vret E Y hr hk (upd (g.1) 6 (0 : Int32), g.2.1, g.2.2) (e9.symm) rfl ⟨Nat.le_of_ble_eq_true rfl, Nat.le_of_ble_eq_true rfl⟩ dX1_stop_5

def f_X1_receive (g : Ss) (p0 : Int32) : Ss := (upd (upd (g.1) 9 ((g.1 9) + p0)) 10 ((g.1 10) + (1 : Int32)), g.2.1, g.2.2)
set_option maxRecDepth 100000 in
set_option maxHeartbeats 4000000 in
theorem c_X1_receive {l : Launch} {D : va_G} {cI cB : ClassId} (qd : Nat) (g : Ss) (p0 : Int32) : CV l X0 D cI cB yX1_receive cX1_receive 2 0 0 0 0 [.ref qd, .int p0] (wD cI qd g) (fun (u : Ss) => u = (f_X1_receive g p0)) (fun u => (wD cI qd u)) := by
  refine CV.of (by decide) (Nat.le_of_ble_eq_true rfl) ?_
  intro p e s m below meth c A ls E hr hk hin hA hAA hX Y hl
  have E : EE p c cX1_receive 2 s _ m RX1 D cI cB := E
  have hl : lv_has ls 2 [(0, .ref qd), (1, .int p0)] := hl
  refine lv_aload_n E.1.1 E.1.2.1 dX1_receive_0 rfl (lv_at hl 0 rfl) ?_
  refine lv_dup E.1.1 E.1.2.1 dX1_receive_1 rfl ?_
  refine gf_X1_20 E Y 0 rfl rfl dX1_receive_2 ?_
  refine lv_iload_n E.1.1 E.1.2.1 dX1_receive_5 rfl (lv_at hl 1 rfl) ?_
  refine lv_iadd E.1.1 E.1.2.1 dX1_receive_6 ?_
  refine pf_X1_20 (w' := [(qd, .inr (3, [.int (g.1 6), .int (g.1 7), .int (g.1 8), .int ((g.1 9) + p0), .int (g.1 10)]))]) E Y 0 rfl (Nat.le_of_ble_eq_true rfl) rfl dX1_receive_7 (fun H locs Y => ?_)
  refine lv_aload_n E.1.1 E.1.2.1 dX1_receive_10 rfl (lv_at hl 0 rfl) ?_
  refine lv_dup E.1.1 E.1.2.1 dX1_receive_11 rfl ?_
  refine gf_X1_23 E Y 0 rfl rfl dX1_receive_12 ?_
  refine lv_iconst (v := 1) E.1.1 E.1.2.1 dX1_receive_15 (by decide) ?_
  refine lv_iadd E.1.1 E.1.2.1 dX1_receive_16 ?_
  refine pf_X1_23 (w' := [(qd, .inr (3, [.int (g.1 6), .int (g.1 7), .int (g.1 8), .int ((g.1 9) + p0), .int ((g.1 10) + (1 : Int32))]))]) E Y 0 rfl (Nat.le_of_ble_eq_true rfl) rfl dX1_receive_17 (fun H locs Y => ?_)
  have e9 : (f_X1_receive g p0) = (upd (upd (g.1) 9 ((g.1 9) + p0)) 10 ((g.1 10) + (1 : Int32)), g.2.1, g.2.2) := rfl
  exact r_vret E Y hr hk (upd (upd (g.1) 9 ((g.1 9) + p0)) 10 ((g.1 10) + (1 : Int32)), g.2.1, g.2.2) (e9.symm) rfl ⟨Nat.le_of_ble_eq_true rfl, Nat.le_of_ble_eq_true rfl⟩ dX1_receive_20

def f_X1_isComplete (g : Ss) : Int32 := if (g.1 9) < (g.1 8) then (0 : Int32) else (1 : Int32)
set_option maxRecDepth 100000 in
set_option maxHeartbeats 4000000 in
theorem c_X1_isComplete {l : Launch} {D : va_G} {cI cB : ClassId} (qd : Nat) (g : Ss) : CI l X0 D cI cB yX1_isComplete cX1_isComplete 1 (some .boolean) 0 0 0 0 [.ref qd] (wD cI qd g) (fun (r : Int32) (_ : Unit) => r = (f_X1_isComplete g)) (fun _ => (wD cI qd g)) := by
  refine CI.of (by decide) (Nat.le_of_ble_eq_true rfl) ?_
  intro p e s m below meth c A ls E hr hk hin hA hAA hX Y hl
  have E : EE p c cX1_isComplete 1 s _ m RX1 D cI cB := E
  have hl : lv_has ls 1 [(0, .ref qd)] := hl
  refine lv_aload_n E.1.1 E.1.2.1 dX1_isComplete_0 rfl (lv_at hl 0 rfl) ?_
  refine gf_X1_20 E Y 0 rfl rfl dX1_isComplete_1 ?_
  refine lv_aload_n E.1.1 E.1.2.1 dX1_isComplete_4 rfl (lv_at hl 0 rfl) ?_
  refine gf_X1_17 E Y 0 rfl rfl dX1_isComplete_5 ?_
  refine lv_icmp_lt (tgt := 15) E.1.1 E.1.2.1 dX1_isComplete_8 (by decide) (fun c_8 => ?_) (fun c_8 => ?_)
  · skip
    refine lv_iconst (v := 0) E.1.1 E.1.2.1 dX1_isComplete_15 (by decide) ?_
    have e9 : (f_X1_isComplete g) = (0 : Int32) := (if_pos c_8).trans (rfl)
    exact r_zret E Y hr hk (0 : Int32) rfl () (e9.symm) rfl ⟨Nat.le_of_ble_eq_true rfl, Nat.le_of_ble_eq_true rfl⟩ dX1_isComplete_16
  · skip
    refine lv_iconst (v := 1) E.1.1 E.1.2.1 dX1_isComplete_11 (by decide) ?_
    refine lv_goto (tgt := 16) E.1.1 E.1.2.1 dX1_isComplete_12 (by decide) ?_
    have e9 : (f_X1_isComplete g) = (1 : Int32) := (if_neg c_8).trans (rfl)
    exact r_zret E Y hr hk (1 : Int32) rfl () (e9.symm) rfl ⟨Nat.le_of_ble_eq_true rfl, Nat.le_of_ble_eq_true rfl⟩ dX1_isComplete_16

def f_X1_throughput (g : Ss) : Int32 := if (g.1 10) ≤ 0 then (0 : Int32) else ((g.1 8) / (g.1 10))
set_option maxRecDepth 100000 in
set_option maxHeartbeats 4000000 in
theorem c_X1_throughput {l : Launch} {D : va_G} {cI cB : ClassId} (qd : Nat) (g : Ss) : CI l X0 D cI cB yX1_throughput cX1_throughput 1 (some .int) 0 0 0 0 [.ref qd] (wD cI qd g) (fun (r : Int32) (_ : Unit) => r = (f_X1_throughput g)) (fun _ => (wD cI qd g)) := by
  refine CI.of (by decide) (Nat.le_of_ble_eq_true rfl) ?_
  intro p e s m below meth c A ls E hr hk hin hA hAA hX Y hl
  have E : EE p c cX1_throughput 1 s _ m RX1 D cI cB := E
  have hl : lv_has ls 1 [(0, .ref qd)] := hl
  refine lv_aload_n E.1.1 E.1.2.1 dX1_throughput_0 rfl (lv_at hl 0 rfl) ?_
  refine gf_X1_23 E Y 0 rfl rfl dX1_throughput_1 ?_
  refine lv_if_le (tgt := 19) E.1.1 E.1.2.1 dX1_throughput_4 (by decide) (fun c_4 => ?_) (fun c_4 => ?_)
  · skip
    refine lv_iconst (v := 0) E.1.1 E.1.2.1 dX1_throughput_19 (by decide) ?_
    have e9 : (f_X1_throughput g) = (0 : Int32) := (if_pos c_4).trans (rfl)
    exact r_iret E Y hr hk (0 : Int32) () (e9.symm) rfl ⟨Nat.le_of_ble_eq_true rfl, Nat.le_of_ble_eq_true rfl⟩ dX1_throughput_20
  · skip
    refine lv_aload_n E.1.1 E.1.2.1 dX1_throughput_7 rfl (lv_at hl 0 rfl) ?_
    refine gf_X1_17 E Y 0 rfl rfl dX1_throughput_8 ?_
    refine lv_aload_n E.1.1 E.1.2.1 dX1_throughput_11 rfl (lv_at hl 0 rfl) ?_
    refine gf_X1_23 E Y 0 rfl rfl dX1_throughput_12 ?_
    refine lv_idiv E.1.1 E.1.2.1 dX1_throughput_15 (ne_of_nle c_4) ?_
    refine lv_goto (tgt := 20) E.1.1 E.1.2.1 dX1_throughput_16 (by decide) ?_
    have e9 : (f_X1_throughput g) = ((g.1 8) / (g.1 10)) := (if_neg c_4).trans (rfl)
    exact r_iret E Y hr hk ((g.1 8) / (g.1 10)) () (e9.symm) rfl ⟨Nat.le_of_ble_eq_true rfl, Nat.le_of_ble_eq_true rfl⟩ dX1_throughput_20
end
