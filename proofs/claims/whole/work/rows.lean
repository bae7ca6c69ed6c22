section
-- ===== PART A: goes FIRST, ahead of the names: the tables' words, and 'selects' of the private methods out of them =====
/-- a private method of a class that the tables say can be made, by its rows of tables_1 -/
def lw_okq (q : MethodName × Nat) : Prop := (q.1.cls ≠ "java/lang/invoke/MethodHandle" ∧ q.1.cls ≠ "java/lang/invoke/VarHandle") ∧ Cond.instantiable q.1.cls q.2 ∈ tables_1 ∧ Cond.privateMethod q.1 ∈ tables_1 ∧ Cond.instanceMethod q.1 ∈ tables_1
theorem lw_p0 : lw_okq (⟨"AdaptivePlayer", "runWord", "(Ljava/lang/String;)I"⟩, 8) := ⟨⟨by decide +kernel, by decide +kernel⟩, List.mem_of_getElem? (i := 21) (by decide +kernel), List.mem_of_getElem? (i := 614) (by decide +kernel), List.mem_of_getElem? (i := 615) (by decide +kernel)⟩
theorem lw_p1 : lw_okq (⟨"AdaptivePlayer", "changePause", "(Z)I"⟩, 8) := ⟨⟨by decide +kernel, by decide +kernel⟩, List.mem_of_getElem? (i := 21) (by decide +kernel), List.mem_of_getElem? (i := 627) (by decide +kernel), List.mem_of_getElem? (i := 628) (by decide +kernel)⟩
theorem lw_p2 : lw_okq (⟨"AdaptivePlayer", "runWordWithArgument", "(Ljava/lang/String;Ljava/lang/String;)I"⟩, 8) := ⟨⟨by decide +kernel, by decide +kernel⟩, List.mem_of_getElem? (i := 21) (by decide +kernel), List.mem_of_getElem? (i := 660) (by decide +kernel), List.mem_of_getElem? (i := 661) (by decide +kernel)⟩
theorem lw_p3 : lw_okq (⟨"AdaptivePlayer", "changePolicy", "(I)I"⟩, 8) := ⟨⟨by decide +kernel, by decide +kernel⟩, List.mem_of_getElem? (i := 21) (by decide +kernel), List.mem_of_getElem? (i := 672) (by decide +kernel), List.mem_of_getElem? (i := 673) (by decide +kernel)⟩
theorem lw_p4 : lw_okq (⟨"AdaptivePlayer", "changeCap", "(I)I"⟩, 8) := ⟨⟨by decide +kernel, by decide +kernel⟩, List.mem_of_getElem? (i := 21) (by decide +kernel), List.mem_of_getElem? (i := 692) (by decide +kernel), List.mem_of_getElem? (i := 693) (by decide +kernel)⟩
theorem lw_p5 : lw_okq (⟨"AdaptivePlayer", "seek", "(I)I"⟩, 8) := ⟨⟨by decide +kernel, by decide +kernel⟩, List.mem_of_getElem? (i := 21) (by decide +kernel), List.mem_of_getElem? (i := 697) (by decide +kernel), List.mem_of_getElem? (i := 698) (by decide +kernel)⟩
theorem lw_p6 : lw_okq (⟨"AdaptivePlayer$Session", "canStartDownload", "()Z"⟩, 18) := ⟨⟨by decide +kernel, by decide +kernel⟩, List.mem_of_getElem? (i := 104) (by decide +kernel), List.mem_of_getElem? (i := 714) (by decide +kernel), List.mem_of_getElem? (i := 715) (by decide +kernel)⟩
theorem lw_p7 : lw_okq (⟨"AdaptivePlayer$Session", "hasNextSegment", "()Z"⟩, 18) := ⟨⟨by decide +kernel, by decide +kernel⟩, List.mem_of_getElem? (i := 104) (by decide +kernel), List.mem_of_getElem? (i := 718) (by decide +kernel), List.mem_of_getElem? (i := 719) (by decide +kernel)⟩
theorem lw_p8 : lw_okq (⟨"AdaptivePlayer$Session", "chooseLevel", "(II)I"⟩, 18) := ⟨⟨by decide +kernel, by decide +kernel⟩, List.mem_of_getElem? (i := 104) (by decide +kernel), List.mem_of_getElem? (i := 722) (by decide +kernel), List.mem_of_getElem? (i := 723) (by decide +kernel)⟩
theorem lw_p9 : lw_okq (⟨"AdaptivePlayer$Session", "levelByRate", "(I)I"⟩, 18) := ⟨⟨by decide +kernel, by decide +kernel⟩, List.mem_of_getElem? (i := 104) (by decide +kernel), List.mem_of_getElem? (i := 727) (by decide +kernel), List.mem_of_getElem? (i := 728) (by decide +kernel)⟩
theorem lw_p10 : lw_okq (⟨"AdaptivePlayer$Session", "levelByBuffer", "(I)I"⟩, 18) := ⟨⟨by decide +kernel, by decide +kernel⟩, List.mem_of_getElem? (i := 104) (by decide +kernel), List.mem_of_getElem? (i := 740) (by decide +kernel), List.mem_of_getElem? (i := 741) (by decide +kernel)⟩
theorem lw_p11 : lw_okq (⟨"AdaptivePlayer$Session", "levelByBoth", "(I)I"⟩, 18) := ⟨⟨by decide +kernel, by decide +kernel⟩, List.mem_of_getElem? (i := 104) (by decide +kernel), List.mem_of_getElem? (i := 744) (by decide +kernel), List.mem_of_getElem? (i := 745) (by decide +kernel)⟩
theorem lw_p12 : lw_okq (⟨"AdaptivePlayer$Session", "completeSegment", "()V"⟩, 18) := ⟨⟨by decide +kernel, by decide +kernel⟩, List.mem_of_getElem? (i := 104) (by decide +kernel), List.mem_of_getElem? (i := 771) (by decide +kernel), List.mem_of_getElem? (i := 772) (by decide +kernel)⟩
theorem lw_p13 : lw_okq (⟨"AdaptivePlayer$Session", "play", "()V"⟩, 18) := ⟨⟨by decide +kernel, by decide +kernel⟩, List.mem_of_getElem? (i := 104) (by decide +kernel), List.mem_of_getElem? (i := 784) (by decide +kernel), List.mem_of_getElem? (i := 785) (by decide +kernel)⟩
theorem lw_p14 : lw_okq (⟨"AdaptivePlayer$Session", "playIfReady", "()V"⟩, 18) := ⟨⟨by decide +kernel, by decide +kernel⟩, List.mem_of_getElem? (i := 104) (by decide +kernel), List.mem_of_getElem? (i := 788) (by decide +kernel), List.mem_of_getElem? (i := 789) (by decide +kernel)⟩
theorem lw_p15 : lw_okq (⟨"AdaptivePlayer$Session", "playMillisecond", "()V"⟩, 18) := ⟨⟨by decide +kernel, by decide +kernel⟩, List.mem_of_getElem? (i := 104) (by decide +kernel), List.mem_of_getElem? (i := 792) (by decide +kernel), List.mem_of_getElem? (i := 793) (by decide +kernel)⟩
def lw_privs_1 : List (MethodName × Nat) := [(⟨"AdaptivePlayer", "runWord", "(Ljava/lang/String;)I"⟩, 8), (⟨"AdaptivePlayer", "changePause", "(Z)I"⟩, 8), (⟨"AdaptivePlayer", "runWordWithArgument", "(Ljava/lang/String;Ljava/lang/String;)I"⟩, 8), (⟨"AdaptivePlayer", "changePolicy", "(I)I"⟩, 8), (⟨"AdaptivePlayer", "changeCap", "(I)I"⟩, 8), (⟨"AdaptivePlayer", "seek", "(I)I"⟩, 8), (⟨"AdaptivePlayer$Session", "canStartDownload", "()Z"⟩, 18), (⟨"AdaptivePlayer$Session", "hasNextSegment", "()Z"⟩, 18), (⟨"AdaptivePlayer$Session", "chooseLevel", "(II)I"⟩, 18), (⟨"AdaptivePlayer$Session", "levelByRate", "(I)I"⟩, 18), (⟨"AdaptivePlayer$Session", "levelByBuffer", "(I)I"⟩, 18), (⟨"AdaptivePlayer$Session", "levelByBoth", "(I)I"⟩, 18), (⟨"AdaptivePlayer$Session", "completeSegment", "()V"⟩, 18), (⟨"AdaptivePlayer$Session", "play", "()V"⟩, 18), (⟨"AdaptivePlayer$Session", "playIfReady", "()V"⟩, 18), (⟨"AdaptivePlayer$Session", "playMillisecond", "()V"⟩, 18)]
theorem lw_r1 : ∀ q ∈ lw_privs_1, lw_okq q := List.forall_mem_cons.mpr ⟨lw_p0, List.forall_mem_cons.mpr ⟨lw_p1, List.forall_mem_cons.mpr ⟨lw_p2, List.forall_mem_cons.mpr ⟨lw_p3, List.forall_mem_cons.mpr ⟨lw_p4, List.forall_mem_cons.mpr ⟨lw_p5, List.forall_mem_cons.mpr ⟨lw_p6, List.forall_mem_cons.mpr ⟨lw_p7, List.forall_mem_cons.mpr ⟨lw_p8, List.forall_mem_cons.mpr ⟨lw_p9, List.forall_mem_cons.mpr ⟨lw_p10, List.forall_mem_cons.mpr ⟨lw_p11, List.forall_mem_cons.mpr ⟨lw_p12, List.forall_mem_cons.mpr ⟨lw_p13, List.forall_mem_cons.mpr ⟨lw_p14, List.forall_mem_cons.mpr ⟨lw_p15, fun _ h => absurd h List.not_mem_nil⟩⟩⟩⟩⟩⟩⟩⟩⟩⟩⟩⟩⟩⟩⟩⟩
theorem lw_p16 : lw_okq (⟨"AdaptivePlayer", "simulationError", "(I)I"⟩, 8) := ⟨⟨by decide +kernel, by decide +kernel⟩, List.mem_of_getElem? (i := 21) (by decide +kernel), List.mem_of_getElem? (i := 863) (by decide +kernel), List.mem_of_getElem? (i := 864) (by decide +kernel)⟩
theorem lw_p17 : lw_okq (⟨"AdaptivePlayerModel", "begins", "()V"⟩, 20) := ⟨⟨by decide +kernel, by decide +kernel⟩, List.mem_of_getElem? (i := 881) (by decide +kernel), List.mem_of_getElem? (i := 887) (by decide +kernel), List.mem_of_getElem? (i := 888) (by decide +kernel)⟩
theorem lw_p18 : lw_okq (⟨"AdaptivePlayerModel", "has", "(IJI)Z"⟩, 20) := ⟨⟨by decide +kernel, by decide +kernel⟩, List.mem_of_getElem? (i := 881) (by decide +kernel), List.mem_of_getElem? (i := 989) (by decide +kernel), List.mem_of_getElem? (i := 990) (by decide +kernel)⟩
theorem lw_p19 : lw_okq (⟨"AdaptivePlayerModel", "policyFrom", "(I)I"⟩, 20) := ⟨⟨by decide +kernel, by decide +kernel⟩, List.mem_of_getElem? (i := 881) (by decide +kernel), List.mem_of_getElem? (i := 994) (by decide +kernel), List.mem_of_getElem? (i := 995) (by decide +kernel)⟩
theorem lw_p20 : lw_okq (⟨"AdaptivePlayerModel", "setsPolicy", "(I)I"⟩, 20) := ⟨⟨by decide +kernel, by decide +kernel⟩, List.mem_of_getElem? (i := 881) (by decide +kernel), List.mem_of_getElem? (i := 999) (by decide +kernel), List.mem_of_getElem? (i := 1000) (by decide +kernel)⟩
theorem lw_p21 : lw_okq (⟨"AdaptivePlayerModel", "capFrom", "(I)I"⟩, 20) := ⟨⟨by decide +kernel, by decide +kernel⟩, List.mem_of_getElem? (i := 881) (by decide +kernel), List.mem_of_getElem? (i := 1007) (by decide +kernel), List.mem_of_getElem? (i := 1008) (by decide +kernel)⟩
theorem lw_p22 : lw_okq (⟨"AdaptivePlayerModel", "numberFrom", "(I)I"⟩, 20) := ⟨⟨by decide +kernel, by decide +kernel⟩, List.mem_of_getElem? (i := 881) (by decide +kernel), List.mem_of_getElem? (i := 1011) (by decide +kernel), List.mem_of_getElem? (i := 1012) (by decide +kernel)⟩
theorem lw_p23 : lw_okq (⟨"AdaptivePlayerModel", "isDigit", "(I)Z"⟩, 20) := ⟨⟨by decide +kernel, by decide +kernel⟩, List.mem_of_getElem? (i := 881) (by decide +kernel), List.mem_of_getElem? (i := 1015) (by decide +kernel), List.mem_of_getElem? (i := 1016) (by decide +kernel)⟩
theorem lw_p24 : lw_okq (⟨"AdaptivePlayerModel", "seekFrom", "(I)I"⟩, 20) := ⟨⟨by decide +kernel, by decide +kernel⟩, List.mem_of_getElem? (i := 881) (by decide +kernel), List.mem_of_getElem? (i := 1020) (by decide +kernel), List.mem_of_getElem? (i := 1021) (by decide +kernel)⟩
theorem lw_p25 : lw_okq (⟨"AdaptivePlayerModel", "pauses", "(I)I"⟩, 20) := ⟨⟨by decide +kernel, by decide +kernel⟩, List.mem_of_getElem? (i := 881) (by decide +kernel), List.mem_of_getElem? (i := 1025) (by decide +kernel), List.mem_of_getElem? (i := 1026) (by decide +kernel)⟩
theorem lw_p26 : lw_okq (⟨"AdaptivePlayerModel", "passes", "(I)V"⟩, 20) := ⟨⟨by decide +kernel, by decide +kernel⟩, List.mem_of_getElem? (i := 881) (by decide +kernel), List.mem_of_getElem? (i := 1038) (by decide +kernel), List.mem_of_getElem? (i := 1039) (by decide +kernel)⟩
theorem lw_p27 : lw_okq (⟨"AdaptivePlayerModel", "startsDownload", "(I)V"⟩, 20) := ⟨⟨by decide +kernel, by decide +kernel⟩, List.mem_of_getElem? (i := 881) (by decide +kernel), List.mem_of_getElem? (i := 1042) (by decide +kernel), List.mem_of_getElem? (i := 1043) (by decide +kernel)⟩
theorem lw_p28 : lw_okq (⟨"AdaptivePlayerModel", "chosen", "(I)I"⟩, 20) := ⟨⟨by decide +kernel, by decide +kernel⟩, List.mem_of_getElem? (i := 881) (by decide +kernel), List.mem_of_getElem? (i := 1046) (by decide +kernel), List.mem_of_getElem? (i := 1047) (by decide +kernel)⟩
theorem lw_p29 : lw_okq (⟨"AdaptivePlayerModel", "highest", "()I"⟩, 20) := ⟨⟨by decide +kernel, by decide +kernel⟩, List.mem_of_getElem? (i := 881) (by decide +kernel), List.mem_of_getElem? (i := 1050) (by decide +kernel), List.mem_of_getElem? (i := 1051) (by decide +kernel)⟩
theorem lw_p30 : lw_okq (⟨"AdaptivePlayerModel", "levelByRate", "()I"⟩, 20) := ⟨⟨by decide +kernel, by decide +kernel⟩, List.mem_of_getElem? (i := 881) (by decide +kernel), List.mem_of_getElem? (i := 1054) (by decide +kernel), List.mem_of_getElem? (i := 1055) (by decide +kernel)⟩
theorem lw_p31 : lw_okq (⟨"AdaptivePlayerModel", "estimate", "()I"⟩, 20) := ⟨⟨by decide +kernel, by decide +kernel⟩, List.mem_of_getElem? (i := 881) (by decide +kernel), List.mem_of_getElem? (i := 1058) (by decide +kernel), List.mem_of_getElem? (i := 1059) (by decide +kernel)⟩
def lw_privs_2 : List (MethodName × Nat) := [(⟨"AdaptivePlayer", "simulationError", "(I)I"⟩, 8), (⟨"AdaptivePlayerModel", "begins", "()V"⟩, 20), (⟨"AdaptivePlayerModel", "has", "(IJI)Z"⟩, 20), (⟨"AdaptivePlayerModel", "policyFrom", "(I)I"⟩, 20), (⟨"AdaptivePlayerModel", "setsPolicy", "(I)I"⟩, 20), (⟨"AdaptivePlayerModel", "capFrom", "(I)I"⟩, 20), (⟨"AdaptivePlayerModel", "numberFrom", "(I)I"⟩, 20), (⟨"AdaptivePlayerModel", "isDigit", "(I)Z"⟩, 20), (⟨"AdaptivePlayerModel", "seekFrom", "(I)I"⟩, 20), (⟨"AdaptivePlayerModel", "pauses", "(I)I"⟩, 20), (⟨"AdaptivePlayerModel", "passes", "(I)V"⟩, 20), (⟨"AdaptivePlayerModel", "startsDownload", "(I)V"⟩, 20), (⟨"AdaptivePlayerModel", "chosen", "(I)I"⟩, 20), (⟨"AdaptivePlayerModel", "highest", "()I"⟩, 20), (⟨"AdaptivePlayerModel", "levelByRate", "()I"⟩, 20), (⟨"AdaptivePlayerModel", "estimate", "()I"⟩, 20)]
theorem lw_r2 : ∀ q ∈ lw_privs_2, lw_okq q := List.forall_mem_cons.mpr ⟨lw_p16, List.forall_mem_cons.mpr ⟨lw_p17, List.forall_mem_cons.mpr ⟨lw_p18, List.forall_mem_cons.mpr ⟨lw_p19, List.forall_mem_cons.mpr ⟨lw_p20, List.forall_mem_cons.mpr ⟨lw_p21, List.forall_mem_cons.mpr ⟨lw_p22, List.forall_mem_cons.mpr ⟨lw_p23, List.forall_mem_cons.mpr ⟨lw_p24, List.forall_mem_cons.mpr ⟨lw_p25, List.forall_mem_cons.mpr ⟨lw_p26, List.forall_mem_cons.mpr ⟨lw_p27, List.forall_mem_cons.mpr ⟨lw_p28, List.forall_mem_cons.mpr ⟨lw_p29, List.forall_mem_cons.mpr ⟨lw_p30, List.forall_mem_cons.mpr ⟨lw_p31, fun _ h => absurd h List.not_mem_nil⟩⟩⟩⟩⟩⟩⟩⟩⟩⟩⟩⟩⟩⟩⟩⟩
theorem lw_p32 : lw_okq (⟨"AdaptivePlayerModel", "levelByBuffer", "()I"⟩, 20) := ⟨⟨by decide +kernel, by decide +kernel⟩, List.mem_of_getElem? (i := 881) (by decide +kernel), List.mem_of_getElem? (i := 1062) (by decide +kernel), List.mem_of_getElem? (i := 1063) (by decide +kernel)⟩
theorem lw_p33 : lw_okq (⟨"AdaptivePlayerModel", "levelOfBoth", "()I"⟩, 20) := ⟨⟨by decide +kernel, by decide +kernel⟩, List.mem_of_getElem? (i := 881) (by decide +kernel), List.mem_of_getElem? (i := 1066) (by decide +kernel), List.mem_of_getElem? (i := 1067) (by decide +kernel)⟩
theorem lw_p34 : lw_okq (⟨"AdaptivePlayerModel", "sizeOf", "(II)I"⟩, 20) := ⟨⟨by decide +kernel, by decide +kernel⟩, List.mem_of_getElem? (i := 881) (by decide +kernel), List.mem_of_getElem? (i := 1070) (by decide +kernel), List.mem_of_getElem? (i := 1071) (by decide +kernel)⟩
theorem lw_p35 : lw_okq (⟨"AdaptivePlayerModel", "receives", "()V"⟩, 20) := ⟨⟨by decide +kernel, by decide +kernel⟩, List.mem_of_getElem? (i := 881) (by decide +kernel), List.mem_of_getElem? (i := 1074) (by decide +kernel), List.mem_of_getElem? (i := 1075) (by decide +kernel)⟩
theorem lw_p36 : lw_okq (⟨"AdaptivePlayerModel", "rateAt", "(I)I"⟩, 20) := ⟨⟨by decide +kernel, by decide +kernel⟩, List.mem_of_getElem? (i := 881) (by decide +kernel), List.mem_of_getElem? (i := 1078) (by decide +kernel), List.mem_of_getElem? (i := 1079) (by decide +kernel)⟩
theorem lw_p37 : lw_okq (⟨"AdaptivePlayerModel", "completes", "()V"⟩, 20) := ⟨⟨by decide +kernel, by decide +kernel⟩, List.mem_of_getElem? (i := 881) (by decide +kernel), List.mem_of_getElem? (i := 1082) (by decide +kernel), List.mem_of_getElem? (i := 1083) (by decide +kernel)⟩
theorem lw_p38 : lw_okq (⟨"AdaptivePlayerModel", "plays", "()V"⟩, 20) := ⟨⟨by decide +kernel, by decide +kernel⟩, List.mem_of_getElem? (i := 881) (by decide +kernel), List.mem_of_getElem? (i := 1086) (by decide +kernel), List.mem_of_getElem? (i := 1087) (by decide +kernel)⟩
theorem lw_p39 : lw_okq (⟨"AdaptivePlayerModel", "waits", "()V"⟩, 20) := ⟨⟨by decide +kernel, by decide +kernel⟩, List.mem_of_getElem? (i := 881) (by decide +kernel), List.mem_of_getElem? (i := 1090) (by decide +kernel), List.mem_of_getElem? (i := 1091) (by decide +kernel)⟩
theorem lw_p40 : lw_okq (⟨"AdaptivePlayerModel", "simulated", "(II)I"⟩, 20) := ⟨⟨by decide +kernel, by decide +kernel⟩, List.mem_of_getElem? (i := 881) (by decide +kernel), List.mem_of_getElem? (i := 1154) (by decide +kernel), List.mem_of_getElem? (i := 1155) (by decide +kernel)⟩
theorem lw_p41 : lw_okq (⟨"AdaptivePlayerModel", "setsAside", "()V"⟩, 20) := ⟨⟨by decide +kernel, by decide +kernel⟩, List.mem_of_getElem? (i := 881) (by decide +kernel), List.mem_of_getElem? (i := 1158) (by decide +kernel), List.mem_of_getElem? (i := 1159) (by decide +kernel)⟩
theorem lw_p42 : lw_okq (⟨"AdaptivePlayerModel", "simulates", "(I)V"⟩, 20) := ⟨⟨by decide +kernel, by decide +kernel⟩, List.mem_of_getElem? (i := 881) (by decide +kernel), List.mem_of_getElem? (i := 1162) (by decide +kernel), List.mem_of_getElem? (i := 1163) (by decide +kernel)⟩
theorem lw_p43 : lw_okq (⟨"AdaptivePlayerModel", "takesBack", "()V"⟩, 20) := ⟨⟨by decide +kernel, by decide +kernel⟩, List.mem_of_getElem? (i := 881) (by decide +kernel), List.mem_of_getElem? (i := 1167) (by decide +kernel), List.mem_of_getElem? (i := 1168) (by decide +kernel)⟩
def lw_privs_3 : List (MethodName × Nat) := [(⟨"AdaptivePlayerModel", "levelByBuffer", "()I"⟩, 20), (⟨"AdaptivePlayerModel", "levelOfBoth", "()I"⟩, 20), (⟨"AdaptivePlayerModel", "sizeOf", "(II)I"⟩, 20), (⟨"AdaptivePlayerModel", "receives", "()V"⟩, 20), (⟨"AdaptivePlayerModel", "rateAt", "(I)I"⟩, 20), (⟨"AdaptivePlayerModel", "completes", "()V"⟩, 20), (⟨"AdaptivePlayerModel", "plays", "()V"⟩, 20), (⟨"AdaptivePlayerModel", "waits", "()V"⟩, 20), (⟨"AdaptivePlayerModel", "simulated", "(II)I"⟩, 20), (⟨"AdaptivePlayerModel", "setsAside", "()V"⟩, 20), (⟨"AdaptivePlayerModel", "simulates", "(I)V"⟩, 20), (⟨"AdaptivePlayerModel", "takesBack", "()V"⟩, 20)]
theorem lw_r3 : ∀ q ∈ lw_privs_3, lw_okq q := List.forall_mem_cons.mpr ⟨lw_p32, List.forall_mem_cons.mpr ⟨lw_p33, List.forall_mem_cons.mpr ⟨lw_p34, List.forall_mem_cons.mpr ⟨lw_p35, List.forall_mem_cons.mpr ⟨lw_p36, List.forall_mem_cons.mpr ⟨lw_p37, List.forall_mem_cons.mpr ⟨lw_p38, List.forall_mem_cons.mpr ⟨lw_p39, List.forall_mem_cons.mpr ⟨lw_p40, List.forall_mem_cons.mpr ⟨lw_p41, List.forall_mem_cons.mpr ⟨lw_p42, List.forall_mem_cons.mpr ⟨lw_p43, fun _ h => absurd h List.not_mem_nil⟩⟩⟩⟩⟩⟩⟩⟩⟩⟩⟩⟩
def lw_privs : List (MethodName × Nat) := lw_privs_1 ++ (lw_privs_2 ++ (lw_privs_3))
def lw_ySB : MethodName := ⟨"java/lang/AbstractStringBuilder", "isLatin1", "()Z"⟩
def lw_yS1 : MethodName := ⟨"java/lang/AbstractStringBuilder", "ensureCapacityInternal", "(I)V"⟩
def lw_yS2 : MethodName := ⟨"java/lang/AbstractStringBuilder", "newCapacity", "(I)I"⟩
def lw_yS3 : MethodName := ⟨"java/lang/AbstractStringBuilder", "inflate", "()V"⟩
/-- private methods of a superclass, called on an object of the subclass -/
def lw_ex : List Cond := [.selects "java/lang/StringBuilder" lw_yS1 lw_yS1, .selects "java/lang/StringBuilder" lw_yS2 lw_yS2, .selects "java/lang/StringBuilder" lw_yS3 lw_yS3]
def lw_tbl : List Cond := lw_ex ++ (k2_sels lw_privs ++ tables_1)
theorem lw_selP {C : String} {y z : MethodName} {s : State} {args : Array Value} {n : Nat} (hy : y.cls ≠ "java/lang/invoke/MethodHandle" ∧ y.cls ≠ "java/lang/invoke/VarHandle")
    (hins : (Cond.instantiable C n).before args s = true) (hz : (Cond.selects C z z).before args s = true) (hzy : z.cls = y.cls) (hpriv : (Cond.privateMethod y).before args s = true) (hinst : (Cond.instanceMethod y).before args s = true) :
    (Cond.selects C y y).before args s = true := by
  obtain ⟨c, k, hc, hk, -, -, -, -⟩ := Cond.instantiable_spec hins
  obtain ⟨mk, methM, hnamed, hmethM, -, -⟩ := Cond.instanceMethod_spec hinst
  have hfound : s.methodFound? y.cls y.name y.desc = some mk := State.methodFound?_of_named hnamed hy
  obtain ⟨c2, r2, m2, q1, q2, q3, q4, kk, hkk, hni⟩ := Cond.selects_spec hz
  have e1 : m2.cls = mk.cls := by
    have h1 := findClass_of_methodNamed q3
    have h2 := findClass_of_methodNamed hnamed
    rw [hzy] at h1
    exact Option.some.inj (h1.symm.trans h2)
  have hsel : selectMethod {} s.vm c mk = .method mk := selectMethod_private hmethM (Cond.privateMethod_at hpriv mk methM hnamed hmethM)
  rw [e1] at hkk
  simp only [Cond.before, Cond.holds, Cond.value, hc, hfound, hnamed, hsel, hkk]
  simp; exact hni
theorem lw_privs_ok : ∀ q ∈ lw_privs, lw_okq q := by
  show ∀ q ∈ lw_privs_1 ++ (lw_privs_2 ++ (lw_privs_3)), lw_okq q
  exact List.forall_mem_append.mpr ⟨lw_r1, List.forall_mem_append.mpr ⟨lw_r2, lw_r3⟩⟩
theorem lw_e1 {args : Array Value} {s : State} (hts : ∀ w ∈ tables_1, w.before args s = true) : (Cond.selects "java/lang/StringBuilder" lw_yS1 lw_yS1).before args s = true := lw_selP (C := "java/lang/StringBuilder") (n := 4) (z := lw_ySB) ⟨by decide +kernel, by decide +kernel⟩ (hts _ (List.mem_of_getElem? (i := 232) (by decide +kernel))) (hts _ (List.mem_of_getElem? (i := 419) (by decide +kernel))) rfl (hts _ (List.mem_of_getElem? (i := 382) (by decide +kernel))) (hts _ (List.mem_of_getElem? (i := 383) (by decide +kernel)))
theorem lw_e2 {args : Array Value} {s : State} (hts : ∀ w ∈ tables_1, w.before args s = true) : (Cond.selects "java/lang/StringBuilder" lw_yS2 lw_yS2).before args s = true := lw_selP (C := "java/lang/StringBuilder") (n := 4) (z := lw_ySB) ⟨by decide +kernel, by decide +kernel⟩ (hts _ (List.mem_of_getElem? (i := 232) (by decide +kernel))) (hts _ (List.mem_of_getElem? (i := 419) (by decide +kernel))) rfl (hts _ (List.mem_of_getElem? (i := 386) (by decide +kernel))) (hts _ (List.mem_of_getElem? (i := 387) (by decide +kernel)))
theorem lw_e3 {args : Array Value} {s : State} (hts : ∀ w ∈ tables_1, w.before args s = true) : (Cond.selects "java/lang/StringBuilder" lw_yS3 lw_yS3).before args s = true := lw_selP (C := "java/lang/StringBuilder") (n := 4) (z := lw_ySB) ⟨by decide +kernel, by decide +kernel⟩ (hts _ (List.mem_of_getElem? (i := 232) (by decide +kernel))) (hts _ (List.mem_of_getElem? (i := 419) (by decide +kernel))) rfl (hts _ (List.mem_of_getElem? (i := 425) (by decide +kernel))) (hts _ (List.mem_of_getElem? (i := 426) (by decide +kernel)))
theorem lw_hts {args : Array Value} {s : State} (hts : ∀ w ∈ tables_1, w.before args s = true) : ∀ w ∈ lw_tbl, w.before args s = true := by
  have h2 := k2_hts_sels (args := args) (s := s) lw_privs hts lw_privs_ok
  intro w hw
  rcases List.mem_append.mp hw with h | h
  · rcases List.mem_cons.mp h with rfl | h
    · exact lw_e1 hts
    · rcases List.mem_cons.mp h with rfl | h
      · exact lw_e2 hts
      · rcases List.mem_cons.mp h with rfl | h
        · exact lw_e3 hts
        · exact absurd h List.not_mem_nil
  · exact h2 w h
end
section
def RX0 : String := "AdaptivePlayer$Connection"
def TX0 : u_T := fun k => match k with
  | 0 => ("AdaptivePlayer$Connection", "ends", "[I", true)
  | 1 => ("AdaptivePlayer$Connection", "rates", "[I", true)
  | _ => ("AdaptivePlayer$Connection", "periodCount", "I", false)
def tyX0 : Nat → FieldType := fun k => match k with
  | 0 => .array .int
  | 1 => .array .int
  | _ => .int
theorem nmX0 : ∀ a, a < 3 → ∀ b, b < 3 → a ≠ b → (TX0 a).2.1 ≠ (TX0 b).2.1 := by decide +kernel
theorem tyX0_ok : ∀ k, k < 3 → parseFieldDescriptor (TX0 k).2.2.1 = some (tyX0 k) := by decide +kernel
abbrev cX0_init : ByteArray := prog_2_method_1_code
def yX0_init : MethodName := ⟨RX0, "<init>", "()V"⟩
abbrev cX0_appendPeriod : ByteArray := prog_2_method_2_code
def yX0_appendPeriod : MethodName := ⟨RX0, "appendPeriod", "(II)V"⟩
abbrev cX0_rateAt : ByteArray := prog_2_method_3_code
def yX0_rateAt : MethodName := ⟨RX0, "rateAt", "(I)I"⟩
def RX1 : String := "AdaptivePlayer$Download"
def TX1 : u_T := fun k => match k with
  | 0 => ("AdaptivePlayer$Download", "running", "Z", false)
  | 1 => ("AdaptivePlayer$Download", "level", "I", false)
  | 2 => ("AdaptivePlayer$Download", "size", "I", false)
  | 3 => ("AdaptivePlayer$Download", "received", "I", false)
  | _ => ("AdaptivePlayer$Download", "timeSpent", "I", false)
def tyX1 : Nat → FieldType := fun k => match k with
  | 0 => .boolean
  | 1 => .int
  | 2 => .int
  | 3 => .int
  | _ => .int
theorem nmX1 : ∀ a, a < 5 → ∀ b, b < 5 → a ≠ b → (TX1 a).2.1 ≠ (TX1 b).2.1 := by decide +kernel
theorem tyX1_ok : ∀ k, k < 5 → parseFieldDescriptor (TX1 k).2.2.1 = some (tyX1 k) := by decide +kernel
abbrev cX1_init : ByteArray := prog_3_method_1_code
def yX1_init : MethodName := ⟨RX1, "<init>", "()V"⟩
abbrev cX1_start : ByteArray := prog_3_method_2_code
def yX1_start : MethodName := ⟨RX1, "start", "(II)V"⟩
abbrev cX1_stop : ByteArray := prog_3_method_3_code
def yX1_stop : MethodName := ⟨RX1, "stop", "()V"⟩
abbrev cX1_receive : ByteArray := prog_3_method_4_code
def yX1_receive : MethodName := ⟨RX1, "receive", "(I)V"⟩
abbrev cX1_isComplete : ByteArray := prog_3_method_5_code
def yX1_isComplete : MethodName := ⟨RX1, "isComplete", "()Z"⟩
abbrev cX1_throughput : ByteArray := prog_3_method_6_code
def yX1_throughput : MethodName := ⟨RX1, "throughput", "()I"⟩
def RX2 : String := "AdaptivePlayer$Session"
def TX2 : u_T := fun k => match k with
  | 0 => ("AdaptivePlayer$Session", "video", "LAdaptivePlayer$Video;", true)
  | 1 => ("AdaptivePlayer$Session", "connection", "LAdaptivePlayer$Connection;", true)
  | 2 => ("AdaptivePlayer$Session", "settings", "LAdaptivePlayer$Settings;", true)
  | 3 => ("AdaptivePlayer$Session", "completedLevels", "[I", true)
  | 4 => ("AdaptivePlayer$Session", "throughputs", "LAdaptivePlayer$Throughputs;", true)
  | 5 => ("AdaptivePlayer$Session", "download", "LAdaptivePlayer$Download;", true)
  | 6 => ("AdaptivePlayer$Session", "paused", "Z", false)
  | 7 => ("AdaptivePlayer$Session", "time", "I", false)
  | 8 => ("AdaptivePlayer$Session", "position", "I", false)
  | 9 => ("AdaptivePlayer$Session", "buffer", "I", false)
  | 10 => ("AdaptivePlayer$Session", "state", "I", false)
  | 11 => ("AdaptivePlayer$Session", "nextSegment", "I", false)
  | 12 => ("AdaptivePlayer$Session", "switchCount", "I", false)
  | 13 => ("AdaptivePlayer$Session", "stallCount", "I", false)
  | 14 => ("AdaptivePlayer$Session", "stallTime", "I", false)
  | 15 => ("AdaptivePlayer$Session", "startupTime", "I", false)
  | 16 => ("AdaptivePlayer$Session", "bitrateSum", "I", false)
  | _ => ("AdaptivePlayer$Session", "latestLevel", "I", false)
def tyX2 : Nat → FieldType := fun k => match k with
  | 0 => .object "AdaptivePlayer$Video"
  | 1 => .object "AdaptivePlayer$Connection"
  | 2 => .object "AdaptivePlayer$Settings"
  | 3 => .array .int
  | 4 => .object "AdaptivePlayer$Throughputs"
  | 5 => .object "AdaptivePlayer$Download"
  | 6 => .boolean
  | 7 => .int
  | 8 => .int
  | 9 => .int
  | 10 => .int
  | 11 => .int
  | 12 => .int
  | 13 => .int
  | 14 => .int
  | 15 => .int
  | 16 => .int
  | _ => .int
theorem nmX2 : ∀ a, a < 18 → ∀ b, b < 18 → a ≠ b → (TX2 a).2.1 ≠ (TX2 b).2.1 := by decide +kernel
theorem tyX2_ok : ∀ k, k < 18 → parseFieldDescriptor (TX2 k).2.2.1 = some (tyX2 k) := by decide +kernel
abbrev cX2_init : ByteArray := prog_4_method_1_code
def yX2_init : MethodName := ⟨RX2, "<init>", "(LAdaptivePlayer$Video;LAdaptivePlayer$Connection;LAdaptivePlayer$Settings;)V"⟩
abbrev cX2_begin : ByteArray := prog_4_method_2_code
def yX2_begin : MethodName := ⟨RX2, "begin", "()V"⟩
abbrev cX2_moveTo : ByteArray := prog_4_method_3_code
def yX2_moveTo : MethodName := ⟨RX2, "moveTo", "(I)V"⟩
abbrev cX2_playWhole : ByteArray := prog_4_method_4_code
def yX2_playWhole : MethodName := ⟨RX2, "playWhole", "(II)V"⟩
abbrev cX2_passMillisecond : ByteArray := prog_4_method_5_code
def yX2_passMillisecond : MethodName := ⟨RX2, "passMillisecond", "(II)Z"⟩
abbrev cX2_completedLevelOf : ByteArray := prog_4_method_6_code
def yX2_completedLevelOf : MethodName := ⟨RX2, "completedLevelOf", "(I)I"⟩
abbrev cX2_hasNextSegment : ByteArray := prog_4_method_7_code
def yX2_hasNextSegment : MethodName := ⟨RX2, "hasNextSegment", "()Z"⟩
abbrev cX2_canStartDownload : ByteArray := prog_4_method_8_code
def yX2_canStartDownload : MethodName := ⟨RX2, "canStartDownload", "()Z"⟩
abbrev cX2_completeSegment : ByteArray := prog_4_method_9_code
def yX2_completeSegment : MethodName := ⟨RX2, "completeSegment", "()V"⟩
abbrev cX2_play : ByteArray := prog_4_method_10_code
def yX2_play : MethodName := ⟨RX2, "play", "()V"⟩
abbrev cX2_playIfReady : ByteArray := prog_4_method_11_code
def yX2_playIfReady : MethodName := ⟨RX2, "playIfReady", "()V"⟩
abbrev cX2_playMillisecond : ByteArray := prog_4_method_12_code
def yX2_playMillisecond : MethodName := ⟨RX2, "playMillisecond", "()V"⟩
abbrev cX2_chooseLevel : ByteArray := prog_4_method_13_code
def yX2_chooseLevel : MethodName := ⟨RX2, "chooseLevel", "(II)I"⟩
abbrev cX2_levelByRate : ByteArray := prog_4_method_14_code
def yX2_levelByRate : MethodName := ⟨RX2, "levelByRate", "(I)I"⟩
abbrev cX2_levelByBuffer : ByteArray := prog_4_method_15_code
def yX2_levelByBuffer : MethodName := ⟨RX2, "levelByBuffer", "(I)I"⟩
abbrev cX2_levelByBoth : ByteArray := prog_4_method_16_code
def yX2_levelByBoth : MethodName := ⟨RX2, "levelByBoth", "(I)I"⟩
def RX3 : String := "AdaptivePlayer$Settings"
def TX3 : u_T := fun k => match k with
  | 0 => ("AdaptivePlayer$Settings", "maximumBuffer", "I", false)
  | 1 => ("AdaptivePlayer$Settings", "threshold", "I", false)
  | 2 => ("AdaptivePlayer$Settings", "safety", "I", false)
  | 3 => ("AdaptivePlayer$Settings", "reservoir", "I", false)
  | _ => ("AdaptivePlayer$Settings", "cushion", "I", false)
def tyX3 : Nat → FieldType := fun k => match k with
  | 0 => .int
  | 1 => .int
  | 2 => .int
  | 3 => .int
  | _ => .int
theorem nmX3 : ∀ a, a < 5 → ∀ b, b < 5 → a ≠ b → (TX3 a).2.1 ≠ (TX3 b).2.1 := by decide +kernel
theorem tyX3_ok : ∀ k, k < 5 → parseFieldDescriptor (TX3 k).2.2.1 = some (tyX3 k) := by decide +kernel
abbrev cX3_init : ByteArray := prog_5_method_1_code
def yX3_init : MethodName := ⟨RX3, "<init>", "()V"⟩
abbrev cX3_changeBuffer : ByteArray := prog_5_method_2_code
def yX3_changeBuffer : MethodName := ⟨RX3, "changeBuffer", "(II)Z"⟩
abbrev cX3_changePolicyNumbers : ByteArray := prog_5_method_3_code
def yX3_changePolicyNumbers : MethodName := ⟨RX3, "changePolicyNumbers", "(III)Z"⟩
def RX4 : String := "AdaptivePlayer$Throughputs"
def TX4 : u_T := fun k => match k with
  | 0 => ("AdaptivePlayer$Throughputs", "latest", "[I", true)
  | _ => ("AdaptivePlayer$Throughputs", "count", "I", false)
def tyX4 : Nat → FieldType := fun k => match k with
  | 0 => .array .int
  | _ => .int
theorem nmX4 : ∀ a, a < 2 → ∀ b, b < 2 → a ≠ b → (TX4 a).2.1 ≠ (TX4 b).2.1 := by decide +kernel
theorem tyX4_ok : ∀ k, k < 2 → parseFieldDescriptor (TX4 k).2.2.1 = some (tyX4 k) := by decide +kernel
abbrev cX4_init : ByteArray := prog_6_method_1_code
def yX4_init : MethodName := ⟨RX4, "<init>", "()V"⟩
abbrev cX4_forget : ByteArray := prog_6_method_2_code
def yX4_forget : MethodName := ⟨RX4, "forget", "()V"⟩
abbrev cX4_add : ByteArray := prog_6_method_3_code
def yX4_add : MethodName := ⟨RX4, "add", "(I)V"⟩
abbrev cX4_estimate : ByteArray := prog_6_method_4_code
def yX4_estimate : MethodName := ⟨RX4, "estimate", "()I"⟩
def RX5 : String := "AdaptivePlayer$Video"
def TX5 : u_T := fun k => match k with
  | 0 => ("AdaptivePlayer$Video", "bitrates", "[I", true)
  | 1 => ("AdaptivePlayer$Video", "variations", "[I", true)
  | 2 => ("AdaptivePlayer$Video", "segmentCount", "I", false)
  | 3 => ("AdaptivePlayer$Video", "duration", "I", false)
  | _ => ("AdaptivePlayer$Video", "levelCount", "I", false)
def tyX5 : Nat → FieldType := fun k => match k with
  | 0 => .array .int
  | 1 => .array .int
  | 2 => .int
  | 3 => .int
  | _ => .int
theorem nmX5 : ∀ a, a < 5 → ∀ b, b < 5 → a ≠ b → (TX5 a).2.1 ≠ (TX5 b).2.1 := by decide +kernel
theorem tyX5_ok : ∀ k, k < 5 → parseFieldDescriptor (TX5 k).2.2.1 = some (tyX5 k) := by decide +kernel
abbrev cX5_init : ByteArray := prog_7_method_1_code
def yX5_init : MethodName := ⟨RX5, "<init>", "()V"⟩
abbrev cX5_replace : ByteArray := prog_7_method_2_code
def yX5_replace : MethodName := ⟨RX5, "replace", "(II)V"⟩
abbrev cX5_appendLevel : ByteArray := prog_7_method_3_code
def yX5_appendLevel : MethodName := ⟨RX5, "appendLevel", "(I)V"⟩
abbrev cX5_hasSegment : ByteArray := prog_7_method_4_code
def yX5_hasSegment : MethodName := ⟨RX5, "hasSegment", "(I)Z"⟩
abbrev cX5_hasLevel : ByteArray := prog_7_method_5_code
def yX5_hasLevel : MethodName := ⟨RX5, "hasLevel", "(I)Z"⟩
abbrev cX5_bitrateOf : ByteArray := prog_7_method_6_code
def yX5_bitrateOf : MethodName := ⟨RX5, "bitrateOf", "(I)I"⟩
abbrev cX5_highestBitrate : ByteArray := prog_7_method_7_code
def yX5_highestBitrate : MethodName := ⟨RX5, "highestBitrate", "()I"⟩
abbrev cX5_highestLevelWithin : ByteArray := prog_7_method_8_code
def yX5_highestLevelWithin : MethodName := ⟨RX5, "highestLevelWithin", "(II)I"⟩
abbrev cX5_variationOf : ByteArray := prog_7_method_9_code
def yX5_variationOf : MethodName := ⟨RX5, "variationOf", "(I)I"⟩
abbrev cX5_changeVariation : ByteArray := prog_7_method_10_code
def yX5_changeVariation : MethodName := ⟨RX5, "changeVariation", "(II)V"⟩
abbrev cX5_sizeOf : ByteArray := prog_7_method_11_code
def yX5_sizeOf : MethodName := ⟨RX5, "sizeOf", "(II)I"⟩
def RX6 : String := "AdaptivePlayer"
def TX6 : u_T := fun k => match k with
  | 0 => ("AdaptivePlayer", "video", "LAdaptivePlayer$Video;", true)
  | 1 => ("AdaptivePlayer", "connection", "LAdaptivePlayer$Connection;", true)
  | 2 => ("AdaptivePlayer", "settings", "LAdaptivePlayer$Settings;", true)
  | 3 => ("AdaptivePlayer", "session", "LAdaptivePlayer$Session;", true)
  | 4 => ("AdaptivePlayer", "whatIf", "LAdaptivePlayer$Session;", true)
  | 5 => ("AdaptivePlayer", "commandLine", "Ljava/lang/StringBuilder;", true)
  | 6 => ("AdaptivePlayer", "policy", "I", false)
  | _ => ("AdaptivePlayer", "cap", "I", false)
def tyX6 : Nat → FieldType := fun k => match k with
  | 0 => .object "AdaptivePlayer$Video"
  | 1 => .object "AdaptivePlayer$Connection"
  | 2 => .object "AdaptivePlayer$Settings"
  | 3 => .object "AdaptivePlayer$Session"
  | 4 => .object "AdaptivePlayer$Session"
  | 5 => .object "java/lang/StringBuilder"
  | 6 => .int
  | _ => .int
theorem nmX6 : ∀ a, a < 8 → ∀ b, b < 8 → a ≠ b → (TX6 a).2.1 ≠ (TX6 b).2.1 := by decide +kernel
theorem tyX6_ok : ∀ k, k < 8 → parseFieldDescriptor (TX6 k).2.2.1 = some (tyX6 k) := by decide +kernel
abbrev cX6_init : ByteArray := prog_1_method_1_code
def yX6_init : MethodName := ⟨RX6, "<init>", "()V"⟩
abbrev cX6_setVideo : ByteArray := prog_1_method_2_code
def yX6_setVideo : MethodName := ⟨RX6, "setVideo", "(II)I"⟩
abbrev cX6_addLevel : ByteArray := prog_1_method_3_code
def yX6_addLevel : MethodName := ⟨RX6, "addLevel", "(I)I"⟩
abbrev cX6_setVariation : ByteArray := prog_1_method_4_code
def yX6_setVariation : MethodName := ⟨RX6, "setVariation", "(II)I"⟩
abbrev cX6_addPeriod : ByteArray := prog_1_method_5_code
def yX6_addPeriod : MethodName := ⟨RX6, "addPeriod", "(II)I"⟩
abbrev cX6_setBuffer : ByteArray := prog_1_method_6_code
def yX6_setBuffer : MethodName := ⟨RX6, "setBuffer", "(II)I"⟩
abbrev cX6_setPolicyNumbers : ByteArray := prog_1_method_7_code
def yX6_setPolicyNumbers : MethodName := ⟨RX6, "setPolicyNumbers", "(III)I"⟩
abbrev cX6_typeKey : ByteArray := prog_1_method_8_code
def yX6_typeKey : MethodName := ⟨RX6, "typeKey", "(I)I"⟩
abbrev cX6_runCommand : ByteArray := prog_1_method_9_code
def yX6_runCommand : MethodName := ⟨RX6, "runCommand", "()I"⟩
abbrev cX6_restart : ByteArray := prog_1_method_10_code
def yX6_restart : MethodName := ⟨RX6, "restart", "()I"⟩
abbrev cX6_advance : ByteArray := prog_1_method_11_code
def yX6_advance : MethodName := ⟨RX6, "advance", "(I)I"⟩
abbrev cX6_time : ByteArray := prog_1_method_12_code
def yX6_time : MethodName := ⟨RX6, "time", "()I"⟩
abbrev cX6_position : ByteArray := prog_1_method_13_code
def yX6_position : MethodName := ⟨RX6, "position", "()I"⟩
abbrev cX6_bufferLevel : ByteArray := prog_1_method_14_code
def yX6_bufferLevel : MethodName := ⟨RX6, "bufferLevel", "()I"⟩
abbrev cX6_state : ByteArray := prog_1_method_15_code
def yX6_state : MethodName := ⟨RX6, "state", "()I"⟩
abbrev cX6_isPaused : ByteArray := prog_1_method_16_code
def yX6_isPaused : MethodName := ⟨RX6, "isPaused", "()I"⟩
abbrev cX6_downloadingSegment : ByteArray := prog_1_method_17_code
def yX6_downloadingSegment : MethodName := ⟨RX6, "downloadingSegment", "()I"⟩
abbrev cX6_segmentLevel : ByteArray := prog_1_method_18_code
def yX6_segmentLevel : MethodName := ⟨RX6, "segmentLevel", "(I)I"⟩
abbrev cX6_throughputEstimate : ByteArray := prog_1_method_19_code
def yX6_throughputEstimate : MethodName := ⟨RX6, "throughputEstimate", "()I"⟩
abbrev cX6_switchCount : ByteArray := prog_1_method_20_code
def yX6_switchCount : MethodName := ⟨RX6, "switchCount", "()I"⟩
abbrev cX6_stallCount : ByteArray := prog_1_method_21_code
def yX6_stallCount : MethodName := ⟨RX6, "stallCount", "()I"⟩
abbrev cX6_stallTime : ByteArray := prog_1_method_22_code
def yX6_stallTime : MethodName := ⟨RX6, "stallTime", "()I"⟩
abbrev cX6_startupTime : ByteArray := prog_1_method_23_code
def yX6_startupTime : MethodName := ⟨RX6, "startupTime", "()I"⟩
abbrev cX6_bitrateSum : ByteArray := prog_1_method_24_code
def yX6_bitrateSum : MethodName := ⟨RX6, "bitrateSum", "()I"⟩
abbrev cX6_segmentSize : ByteArray := prog_1_method_25_code
def yX6_segmentSize : MethodName := ⟨RX6, "segmentSize", "(II)I"⟩
abbrev cX6_simulatedStallTime : ByteArray := prog_1_method_26_code
def yX6_simulatedStallTime : MethodName := ⟨RX6, "simulatedStallTime", "(I)I"⟩
abbrev cX6_simulatedBitrateSum : ByteArray := prog_1_method_27_code
def yX6_simulatedBitrateSum : MethodName := ⟨RX6, "simulatedBitrateSum", "(I)I"⟩
abbrev cX6_bestSmoothLevel : ByteArray := prog_1_method_28_code
def yX6_bestSmoothLevel : MethodName := ⟨RX6, "bestSmoothLevel", "()I"⟩
abbrev cX6_simulationError : ByteArray := prog_1_method_29_code
def yX6_simulationError : MethodName := ⟨RX6, "simulationError", "(I)I"⟩
abbrev cX6_runWord : ByteArray := prog_1_method_30_code
def yX6_runWord : MethodName := ⟨RX6, "runWord", "(Ljava/lang/String;)I"⟩
abbrev cX6_runWordWithArgument : ByteArray := prog_1_method_31_code
def yX6_runWordWithArgument : MethodName := ⟨RX6, "runWordWithArgument", "(Ljava/lang/String;Ljava/lang/String;)I"⟩
abbrev cX6_changePause : ByteArray := prog_1_method_32_code
def yX6_changePause : MethodName := ⟨RX6, "changePause", "(Z)I"⟩
abbrev cX6_changePolicy : ByteArray := prog_1_method_33_code
def yX6_changePolicy : MethodName := ⟨RX6, "changePolicy", "(I)I"⟩
abbrev cX6_changeCap : ByteArray := prog_1_method_34_code
def yX6_changeCap : MethodName := ⟨RX6, "changeCap", "(I)I"⟩
abbrev cX6_seek : ByteArray := prog_1_method_35_code
def yX6_seek : MethodName := ⟨RX6, "seek", "(I)I"⟩
abbrev cX6_policyNamed : ByteArray := prog_1_method_36_code
def yX6_policyNamed : MethodName := ⟨RX6, "policyNamed", "(Ljava/lang/String;)I"⟩
abbrev cX6_numberIn : ByteArray := prog_1_method_37_code
def yX6_numberIn : MethodName := ⟨RX6, "numberIn", "(Ljava/lang/String;)I"⟩
abbrev cX6_isWithin : ByteArray := prog_1_method_38_code
def yX6_isWithin : MethodName := ⟨RX6, "isWithin", "(III)Z"⟩
abbrev cX6_oneIf : ByteArray := prog_1_method_39_code
def yX6_oneIf : MethodName := ⟨RX6, "oneIf", "(Z)I"⟩
def RX7 : String := "AdaptivePlayerModel"
def TX7 : u_T := fun k => match k with
  | 0 => ("AdaptivePlayerModel", "segments", "I", false)
  | 1 => ("AdaptivePlayerModel", "duration", "I", false)
  | 2 => ("AdaptivePlayerModel", "variation", "[I", true)
  | 3 => ("AdaptivePlayerModel", "levels", "I", false)
  | 4 => ("AdaptivePlayerModel", "bitrate", "[I", true)
  | 5 => ("AdaptivePlayerModel", "periods", "I", false)
  | 6 => ("AdaptivePlayerModel", "periodEnd", "[I", true)
  | 7 => ("AdaptivePlayerModel", "periodRate", "[I", true)
  | 8 => ("AdaptivePlayerModel", "maximum", "I", false)
  | 9 => ("AdaptivePlayerModel", "threshold", "I", false)
  | 10 => ("AdaptivePlayerModel", "safety", "I", false)
  | 11 => ("AdaptivePlayerModel", "reservoir", "I", false)
  | 12 => ("AdaptivePlayerModel", "cushion", "I", false)
  | 13 => ("AdaptivePlayerModel", "policy", "I", false)
  | 14 => ("AdaptivePlayerModel", "cap", "I", false)
  | 15 => ("AdaptivePlayerModel", "now", "[I", true)
  | 16 => ("AdaptivePlayerModel", "aside", "[I", true)
  | 17 => ("AdaptivePlayerModel", "keys", "I", false)
  | 18 => ("AdaptivePlayerModel", "key", "[I", true)
  | _ => ("AdaptivePlayerModel", "typed", "I", false)
def tyX7 : Nat → FieldType := fun k => match k with
  | 0 => .int
  | 1 => .int
  | 2 => .array .int
  | 3 => .int
  | 4 => .array .int
  | 5 => .int
  | 6 => .array .int
  | 7 => .array .int
  | 8 => .int
  | 9 => .int
  | 10 => .int
  | 11 => .int
  | 12 => .int
  | 13 => .int
  | 14 => .int
  | 15 => .array .int
  | 16 => .array .int
  | 17 => .int
  | 18 => .array .int
  | _ => .int
theorem nmX7 : ∀ a, a < 20 → ∀ b, b < 20 → a ≠ b → (TX7 a).2.1 ≠ (TX7 b).2.1 := by decide +kernel
theorem tyX7_ok : ∀ k, k < 20 → parseFieldDescriptor (TX7 k).2.2.1 = some (tyX7 k) := by decide +kernel
abbrev cX7_init : ByteArray := prog_9_method_1_code
def yX7_init : MethodName := ⟨RX7, "<init>", "()V"⟩
abbrev cX7_within : ByteArray := prog_9_method_2_code
def yX7_within : MethodName := ⟨RX7, "within", "(III)Z"⟩
abbrev cX7_begins : ByteArray := prog_9_method_3_code
def yX7_begins : MethodName := ⟨RX7, "begins", "()V"⟩
abbrev cX7_setVideo : ByteArray := prog_9_method_4_code
def yX7_setVideo : MethodName := ⟨RX7, "setVideo", "(II)I"⟩
abbrev cX7_addLevel : ByteArray := prog_9_method_5_code
def yX7_addLevel : MethodName := ⟨RX7, "addLevel", "(I)I"⟩
abbrev cX7_setVariation : ByteArray := prog_9_method_6_code
def yX7_setVariation : MethodName := ⟨RX7, "setVariation", "(II)I"⟩
abbrev cX7_addPeriod : ByteArray := prog_9_method_7_code
def yX7_addPeriod : MethodName := ⟨RX7, "addPeriod", "(II)I"⟩
abbrev cX7_setBuffer : ByteArray := prog_9_method_8_code
def yX7_setBuffer : MethodName := ⟨RX7, "setBuffer", "(II)I"⟩
abbrev cX7_setPolicyNumbers : ByteArray := prog_9_method_9_code
def yX7_setPolicyNumbers : MethodName := ⟨RX7, "setPolicyNumbers", "(III)I"⟩
abbrev cX7_typeKey : ByteArray := prog_9_method_10_code
def yX7_typeKey : MethodName := ⟨RX7, "typeKey", "(I)I"⟩
abbrev cX7_has : ByteArray := prog_9_method_11_code
def yX7_has : MethodName := ⟨RX7, "has", "(IJI)Z"⟩
abbrev cX7_isDigit : ByteArray := prog_9_method_12_code
def yX7_isDigit : MethodName := ⟨RX7, "isDigit", "(I)Z"⟩
abbrev cX7_numberFrom : ByteArray := prog_9_method_13_code
def yX7_numberFrom : MethodName := ⟨RX7, "numberFrom", "(I)I"⟩
abbrev cX7_setsPolicy : ByteArray := prog_9_method_14_code
def yX7_setsPolicy : MethodName := ⟨RX7, "setsPolicy", "(I)I"⟩
abbrev cX7_policyFrom : ByteArray := prog_9_method_15_code
def yX7_policyFrom : MethodName := ⟨RX7, "policyFrom", "(I)I"⟩
abbrev cX7_capFrom : ByteArray := prog_9_method_16_code
def yX7_capFrom : MethodName := ⟨RX7, "capFrom", "(I)I"⟩
abbrev cX7_seekFrom : ByteArray := prog_9_method_17_code
def yX7_seekFrom : MethodName := ⟨RX7, "seekFrom", "(I)I"⟩
abbrev cX7_pauses : ByteArray := prog_9_method_18_code
def yX7_pauses : MethodName := ⟨RX7, "pauses", "(I)I"⟩
abbrev cX7_runCommand : ByteArray := prog_9_method_19_code
def yX7_runCommand : MethodName := ⟨RX7, "runCommand", "()I"⟩
abbrev cX7_sizeOf : ByteArray := prog_9_method_20_code
def yX7_sizeOf : MethodName := ⟨RX7, "sizeOf", "(II)I"⟩
abbrev cX7_rateAt : ByteArray := prog_9_method_21_code
def yX7_rateAt : MethodName := ⟨RX7, "rateAt", "(I)I"⟩
abbrev cX7_highest : ByteArray := prog_9_method_22_code
def yX7_highest : MethodName := ⟨RX7, "highest", "()I"⟩
abbrev cX7_estimate : ByteArray := prog_9_method_23_code
def yX7_estimate : MethodName := ⟨RX7, "estimate", "()I"⟩
abbrev cX7_levelByRate : ByteArray := prog_9_method_24_code
def yX7_levelByRate : MethodName := ⟨RX7, "levelByRate", "()I"⟩
abbrev cX7_levelByBuffer : ByteArray := prog_9_method_25_code
def yX7_levelByBuffer : MethodName := ⟨RX7, "levelByBuffer", "()I"⟩
abbrev cX7_levelOfBoth : ByteArray := prog_9_method_26_code
def yX7_levelOfBoth : MethodName := ⟨RX7, "levelOfBoth", "()I"⟩
abbrev cX7_chosen : ByteArray := prog_9_method_27_code
def yX7_chosen : MethodName := ⟨RX7, "chosen", "(I)I"⟩
abbrev cX7_startsDownload : ByteArray := prog_9_method_28_code
def yX7_startsDownload : MethodName := ⟨RX7, "startsDownload", "(I)V"⟩
abbrev cX7_completes : ByteArray := prog_9_method_29_code
def yX7_completes : MethodName := ⟨RX7, "completes", "()V"⟩
abbrev cX7_receives : ByteArray := prog_9_method_30_code
def yX7_receives : MethodName := ⟨RX7, "receives", "()V"⟩
abbrev cX7_plays : ByteArray := prog_9_method_31_code
def yX7_plays : MethodName := ⟨RX7, "plays", "()V"⟩
abbrev cX7_waits : ByteArray := prog_9_method_32_code
def yX7_waits : MethodName := ⟨RX7, "waits", "()V"⟩
abbrev cX7_passes : ByteArray := prog_9_method_33_code
def yX7_passes : MethodName := ⟨RX7, "passes", "(I)V"⟩
abbrev cX7_restart : ByteArray := prog_9_method_34_code
def yX7_restart : MethodName := ⟨RX7, "restart", "()I"⟩
abbrev cX7_advance : ByteArray := prog_9_method_35_code
def yX7_advance : MethodName := ⟨RX7, "advance", "(I)I"⟩
abbrev cX7_time : ByteArray := prog_9_method_36_code
def yX7_time : MethodName := ⟨RX7, "time", "()I"⟩
abbrev cX7_position : ByteArray := prog_9_method_37_code
def yX7_position : MethodName := ⟨RX7, "position", "()I"⟩
abbrev cX7_bufferLevel : ByteArray := prog_9_method_38_code
def yX7_bufferLevel : MethodName := ⟨RX7, "bufferLevel", "()I"⟩
abbrev cX7_state : ByteArray := prog_9_method_39_code
def yX7_state : MethodName := ⟨RX7, "state", "()I"⟩
abbrev cX7_isPaused : ByteArray := prog_9_method_40_code
def yX7_isPaused : MethodName := ⟨RX7, "isPaused", "()I"⟩
abbrev cX7_downloadingSegment : ByteArray := prog_9_method_41_code
def yX7_downloadingSegment : MethodName := ⟨RX7, "downloadingSegment", "()I"⟩
abbrev cX7_segmentLevel : ByteArray := prog_9_method_42_code
def yX7_segmentLevel : MethodName := ⟨RX7, "segmentLevel", "(I)I"⟩
abbrev cX7_throughputEstimate : ByteArray := prog_9_method_43_code
def yX7_throughputEstimate : MethodName := ⟨RX7, "throughputEstimate", "()I"⟩
abbrev cX7_switchCount : ByteArray := prog_9_method_44_code
def yX7_switchCount : MethodName := ⟨RX7, "switchCount", "()I"⟩
abbrev cX7_stallCount : ByteArray := prog_9_method_45_code
def yX7_stallCount : MethodName := ⟨RX7, "stallCount", "()I"⟩
abbrev cX7_stallTime : ByteArray := prog_9_method_46_code
def yX7_stallTime : MethodName := ⟨RX7, "stallTime", "()I"⟩
abbrev cX7_startupTime : ByteArray := prog_9_method_47_code
def yX7_startupTime : MethodName := ⟨RX7, "startupTime", "()I"⟩
abbrev cX7_bitrateSum : ByteArray := prog_9_method_48_code
def yX7_bitrateSum : MethodName := ⟨RX7, "bitrateSum", "()I"⟩
abbrev cX7_segmentSize : ByteArray := prog_9_method_49_code
def yX7_segmentSize : MethodName := ⟨RX7, "segmentSize", "(II)I"⟩
abbrev cX7_setsAside : ByteArray := prog_9_method_50_code
def yX7_setsAside : MethodName := ⟨RX7, "setsAside", "()V"⟩
abbrev cX7_takesBack : ByteArray := prog_9_method_51_code
def yX7_takesBack : MethodName := ⟨RX7, "takesBack", "()V"⟩
abbrev cX7_simulates : ByteArray := prog_9_method_52_code
def yX7_simulates : MethodName := ⟨RX7, "simulates", "(I)V"⟩
abbrev cX7_simulated : ByteArray := prog_9_method_53_code
def yX7_simulated : MethodName := ⟨RX7, "simulated", "(II)I"⟩
abbrev cX7_simulatedStallTime : ByteArray := prog_9_method_54_code
def yX7_simulatedStallTime : MethodName := ⟨RX7, "simulatedStallTime", "(I)I"⟩
abbrev cX7_simulatedBitrateSum : ByteArray := prog_9_method_55_code
def yX7_simulatedBitrateSum : MethodName := ⟨RX7, "simulatedBitrateSum", "(I)I"⟩
abbrev cX7_bestSmoothLevel : ByteArray := prog_9_method_56_code
def yX7_bestSmoothLevel : MethodName := ⟨RX7, "bestSmoothLevel", "()I"⟩
def RJ5 : String := "java/lang/AbstractStringBuilder"
def TJ5 : u_T := fun k => match k with
  | _ => ("", "", "", false)
def tyJ5 : Nat → FieldType := fun k => match k with
  | _ => .int
theorem nmJ5 : ∀ a, a < 0 → ∀ b, b < 0 → a ≠ b → (TJ5 a).2.1 ≠ (TJ5 b).2.1 := by decide +kernel
theorem tyJ5_ok : ∀ k, k < 0 → parseFieldDescriptor (TJ5 k).2.2.1 = some (tyJ5 k) := by decide +kernel
abbrev cJ5_init_d00df : ByteArray := prog_10_method_2_code
def yJ5_init_d00df : MethodName := ⟨RJ5, "<init>", "(I)V"⟩
abbrev cJ5_length_8abf5 : ByteArray := prog_10_method_6_code
def yJ5_length_8abf5 : MethodName := ⟨RJ5, "length", "()I"⟩
abbrev cJ5_ensureCapacityInternal_d00df : ByteArray := prog_10_method_9_code
def yJ5_ensureCapacityInternal_d00df : MethodName := ⟨RJ5, "ensureCapacityInternal", "(I)V"⟩
abbrev cJ5_newCapacity_0f7a4 : ByteArray := prog_10_method_10_code
def yJ5_newCapacity_0f7a4 : MethodName := ⟨RJ5, "newCapacity", "(I)I"⟩
abbrev cJ5_inflate_da8c8 : ByteArray := prog_10_method_11_code
def yJ5_inflate_da8c8 : MethodName := ⟨RJ5, "inflate", "()V"⟩
abbrev cJ5_setLength_d00df : ByteArray := prog_10_method_13_code
def yJ5_setLength_d00df : MethodName := ⟨RJ5, "setLength", "(I)V"⟩
abbrev cJ5_append_3fe6f : ByteArray := prog_10_method_31_code
def yJ5_append_3fe6f : MethodName := ⟨RJ5, "append", "(C)Ljava/lang/AbstractStringBuilder;"⟩
abbrev cJ5_getValue_6d5f1 : ByteArray := prog_10_method_64_code
def yJ5_getValue_6d5f1 : MethodName := ⟨RJ5, "getValue", "()[B"⟩
abbrev cJ5_isLatin1_aae02 : ByteArray := prog_10_method_68_code
def yJ5_isLatin1_aae02 : MethodName := ⟨RJ5, "isLatin1", "()Z"⟩
def RJ11 : String := "java/lang/Character"
def TJ11 : u_T := fun k => match k with
  | _ => ("", "", "", false)
def tyJ11 : Nat → FieldType := fun k => match k with
  | _ => .int
theorem nmJ11 : ∀ a, a < 0 → ∀ b, b < 0 → a ≠ b → (TJ11 a).2.1 ≠ (TJ11 b).2.1 := by decide +kernel
theorem tyJ11_ok : ∀ k, k < 0 → parseFieldDescriptor (TJ11 k).2.2.1 = some (tyJ11 k) := by decide +kernel
abbrev cJ11_isValidCodePoint_9a6ad : ByteArray := prog_11_method_11_code
def yJ11_isValidCodePoint_9a6ad : MethodName := ⟨RJ11, "isValidCodePoint", "(I)Z"⟩
abbrev cJ11_highSurrogate_5068e : ByteArray := prog_11_method_28_code
def yJ11_highSurrogate_5068e : MethodName := ⟨RJ11, "highSurrogate", "(I)C"⟩
abbrev cJ11_lowSurrogate_5068e : ByteArray := prog_11_method_29_code
def yJ11_lowSurrogate_5068e : MethodName := ⟨RJ11, "lowSurrogate", "(I)C"⟩
def RJx8e188 : String := "java/lang/Cloneable"
def TJx8e188 : u_T := fun k => match k with
  | _ => ("", "", "", false)
def tyJx8e188 : Nat → FieldType := fun k => match k with
  | _ => .int
theorem nmJx8e188 : ∀ a, a < 0 → ∀ b, b < 0 → a ≠ b → (TJx8e188 a).2.1 ≠ (TJx8e188 b).2.1 := by decide +kernel
theorem tyJx8e188_ok : ∀ k, k < 0 → parseFieldDescriptor (TJx8e188 k).2.2.1 = some (tyJx8e188 k) := by decide +kernel
def RJ9 : String := "java/lang/Math"
def TJ9 : u_T := fun k => match k with
  | _ => ("", "", "", false)
def tyJ9 : Nat → FieldType := fun k => match k with
  | _ => .int
theorem nmJ9 : ∀ a, a < 0 → ∀ b, b < 0 → a ≠ b → (TJ9 a).2.1 ≠ (TJ9 b).2.1 := by decide +kernel
theorem tyJ9_ok : ∀ k, k < 0 → parseFieldDescriptor (TJ9 k).2.2.1 = some (tyJ9 k) := by decide +kernel
abbrev cJ9_max_7cf53 : ByteArray := prog_13_method_65_code
def yJ9_max_7cf53 : MethodName := ⟨RJ9, "max", "(II)I"⟩
abbrev cJ9_min_7cf53 : ByteArray := prog_13_method_69_code
def yJ9_min_7cf53 : MethodName := ⟨RJ9, "min", "(II)I"⟩
def RJ0 : String := "java/lang/String"
def TJ0 : u_T := fun k => match k with
  | 0 => ("java/lang/String", "value", "[B", true)
  | 1 => ("java/lang/String", "coder", "B", true)
  | 2 => ("java/lang/String", "hash", "I", false)
  | _ => ("java/lang/String", "hashIsZero", "Z", false)
def tyJ0 : Nat → FieldType := fun k => match k with
  | 0 => .array .byte
  | 1 => .byte
  | 2 => .int
  | _ => .boolean
theorem nmJ0 : ∀ a, a < 4 → ∀ b, b < 4 → a ≠ b → (TJ0 a).2.1 ≠ (TJ0 b).2.1 := by decide +kernel
theorem tyJ0_ok : ∀ k, k < 4 → parseFieldDescriptor (TJ0 k).2.2.1 = some (tyJ0 k) := by decide +kernel
abbrev cJ0_init_81219 : ByteArray := prog_14_method_53_code
def yJ0_init_81219 : MethodName := ⟨RJ0, "<init>", "(Ljava/lang/StringBuilder;)V"⟩
abbrev cJ0_length_8abf5 : ByteArray := prog_14_method_54_code
def yJ0_length_8abf5 : MethodName := ⟨RJ0, "length", "()I"⟩
abbrev cJ0_charAt_5068e : ByteArray := prog_14_method_56_code
def yJ0_charAt_5068e : MethodName := ⟨RJ0, "charAt", "(I)C"⟩
abbrev cJ0_equals_9ea2d : ByteArray := prog_14_method_66_code
def yJ0_equals_9ea2d : MethodName := ⟨RJ0, "equals", "(Ljava/lang/Object;)Z"⟩
abbrev cJ0_indexOf_0f7a4 : ByteArray := prog_14_method_79_code
def yJ0_indexOf_0f7a4 : MethodName := ⟨RJ0, "indexOf", "(I)I"⟩
abbrev cJ0_indexOf_7cf53 : ByteArray := prog_14_method_80_code
def yJ0_indexOf_7cf53 : MethodName := ⟨RJ0, "indexOf", "(II)I"⟩
abbrev cJ0_substring_b52d3 : ByteArray := prog_14_method_91_code
def yJ0_substring_b52d3 : MethodName := ⟨RJ0, "substring", "(I)Ljava/lang/String;"⟩
abbrev cJ0_substring_37a41 : ByteArray := prog_14_method_92_code
def yJ0_substring_37a41 : MethodName := ⟨RJ0, "substring", "(II)Ljava/lang/String;"⟩
abbrev cJ0_init_db425 : ByteArray := prog_14_method_150_code
def yJ0_init_db425 : MethodName := ⟨RJ0, "<init>", "(Ljava/lang/AbstractStringBuilder;Ljava/lang/Void;)V"⟩
abbrev cJ0_init_031fb : ByteArray := prog_14_method_151_code
def yJ0_init_031fb : MethodName := ⟨RJ0, "<init>", "([BB)V"⟩
abbrev cJ0_coder_7d493 : ByteArray := prog_14_method_152_code
def yJ0_coder_7d493 : MethodName := ⟨RJ0, "coder", "()B"⟩
abbrev cJ0_isLatin1_aae02 : ByteArray := prog_14_method_154_code
def yJ0_isLatin1_aae02 : MethodName := ⟨RJ0, "isLatin1", "()Z"⟩
abbrev cJ0_checkIndex_df160 : ByteArray := prog_14_method_155_code
def yJ0_checkIndex_df160 : MethodName := ⟨RJ0, "checkIndex", "(II)V"⟩
abbrev cJ0_checkBoundsOffCount_cabcc : ByteArray := prog_14_method_157_code
def yJ0_checkBoundsOffCount_cabcc : MethodName := ⟨RJ0, "checkBoundsOffCount", "(III)I"⟩
abbrev cJ0_checkBoundsBeginEnd_23922 : ByteArray := prog_14_method_158_code
def yJ0_checkBoundsBeginEnd_23922 : MethodName := ⟨RJ0, "checkBoundsBeginEnd", "(III)V"⟩
def RJ4 : String := "java/lang/StringBuilder"
def TJ4 : u_T := fun k => match k with
  | 0 => ("java/lang/AbstractStringBuilder", "value", "[B", false)
  | 1 => ("java/lang/AbstractStringBuilder", "coder", "B", false)
  | 2 => ("java/lang/AbstractStringBuilder", "maybeLatin1", "Z", false)
  | _ => ("java/lang/AbstractStringBuilder", "count", "I", false)
def tyJ4 : Nat → FieldType := fun k => match k with
  | 0 => .array .byte
  | 1 => .byte
  | 2 => .boolean
  | _ => .int
theorem nmJ4 : ∀ a, a < 4 → ∀ b, b < 4 → a ≠ b → (TJ4 a).2.1 ≠ (TJ4 b).2.1 := by decide +kernel
theorem tyJ4_ok : ∀ k, k < 4 → parseFieldDescriptor (TJ4 k).2.2.1 = some (tyJ4 k) := by decide +kernel
abbrev cJ4_init_da8c8 : ByteArray := prog_15_method_1_code
def yJ4_init_da8c8 : MethodName := ⟨RJ4, "<init>", "()V"⟩
abbrev cJ4_append_cf468 : ByteArray := prog_15_method_14_code
def yJ4_append_cf468 : MethodName := ⟨RJ4, "append", "(C)Ljava/lang/StringBuilder;"⟩
abbrev cJ4_toString_0e30d : ByteArray := prog_15_method_42_code
def yJ4_toString_0e30d : MethodName := ⟨RJ4, "toString", "()Ljava/lang/String;"⟩
abbrev cJ4_setLength_d00df : ByteArray := prog_15_method_89_code
def yJ4_setLength_d00df : MethodName := ⟨RJ4, "setLength", "(I)V"⟩
abbrev cJ4_length_8abf5 : ByteArray := prog_15_method_93_code
def yJ4_length_8abf5 : MethodName := ⟨RJ4, "length", "()I"⟩
def RJ1 : String := "java/lang/StringLatin1"
def TJ1 : u_T := fun k => match k with
  | _ => ("", "", "", false)
def tyJ1 : Nat → FieldType := fun k => match k with
  | _ => .int
theorem nmJ1 : ∀ a, a < 0 → ∀ b, b < 0 → a ≠ b → (TJ1 a).2.1 ≠ (TJ1 b).2.1 := by decide +kernel
theorem tyJ1_ok : ∀ k, k < 0 → parseFieldDescriptor (TJ1 k).2.2.1 = some (tyJ1 k) := by decide +kernel
abbrev cJ1_charAt_3b067 : ByteArray := prog_16_method_2_code
def yJ1_charAt_3b067 : MethodName := ⟨RJ1, "charAt", "([BI)C"⟩
abbrev cJ1_canEncode_fc78d : ByteArray := prog_16_method_3_code
def yJ1_canEncode_fc78d : MethodName := ⟨RJ1, "canEncode", "(C)Z"⟩
abbrev cJ1_canEncode_9a6ad : ByteArray := prog_16_method_4_code
def yJ1_canEncode_9a6ad : MethodName := ⟨RJ1, "canEncode", "(I)Z"⟩
abbrev cJ1_equals_b5fdf : ByteArray := prog_16_method_13_code
def yJ1_equals_b5fdf : MethodName := ⟨RJ1, "equals", "([B[B)Z"⟩
abbrev cJ1_indexOf_4cfef : ByteArray := prog_16_method_22_code
def yJ1_indexOf_4cfef : MethodName := ⟨RJ1, "indexOf", "([BIII)I"⟩
abbrev cJ1_indexOfChar_4cfef : ByteArray := prog_16_method_23_code
def yJ1_indexOfChar_4cfef : MethodName := ⟨RJ1, "indexOfChar", "([BIII)I"⟩
abbrev cJ1_newString_b4f7a : ByteArray := prog_16_method_47_code
def yJ1_newString_b4f7a : MethodName := ⟨RJ1, "newString", "([BII)Ljava/lang/String;"⟩
abbrev cJ1_fillNull_b72d1 : ByteArray := prog_16_method_48_code
def yJ1_fillNull_b72d1 : MethodName := ⟨RJ1, "fillNull", "([BII)V"⟩
abbrev cJ1_inflate_0e8fd : ByteArray := prog_16_method_50_code
def yJ1_inflate_0e8fd : MethodName := ⟨RJ1, "inflate", "([BI[BII)V"⟩
def RJ2 : String := "java/lang/StringUTF16"
def TJ2 : u_T := fun k => match k with
  | _ => ("", "", "", false)
def tyJ2 : Nat → FieldType := fun k => match k with
  | _ => .int
theorem nmJ2 : ∀ a, a < 0 → ∀ b, b < 0 → a ≠ b → (TJ2 a).2.1 ≠ (TJ2 b).2.1 := by decide +kernel
theorem tyJ2_ok : ∀ k, k < 0 → parseFieldDescriptor (TJ2 k).2.2.1 = some (tyJ2 k) := by decide +kernel
abbrev cJ2_newBytesFor_77867 : ByteArray := prog_17_method_2_code
def yJ2_newBytesFor_77867 : MethodName := ⟨RJ2, "newBytesFor", "(I)[B"⟩
abbrev cJ2_newBytesLength_0f7a4 : ByteArray := prog_17_method_3_code
def yJ2_newBytesLength_0f7a4 : MethodName := ⟨RJ2, "newBytesLength", "(I)I"⟩
abbrev cJ2_putChar_b72d1 : ByteArray := prog_17_method_4_code
def yJ2_putChar_b72d1 : MethodName := ⟨RJ2, "putChar", "([BII)V"⟩
abbrev cJ2_getChar_3b067 : ByteArray := prog_17_method_5_code
def yJ2_getChar_3b067 : MethodName := ⟨RJ2, "getChar", "([BI)C"⟩
abbrev cJ2_length_9d52b : ByteArray := prog_17_method_6_code
def yJ2_length_9d52b : MethodName := ⟨RJ2, "length", "([B)I"⟩
abbrev cJ2_coderFromArrayLen_85cad : ByteArray := prog_17_method_15_code
def yJ2_coderFromArrayLen_85cad : MethodName := ⟨RJ2, "coderFromArrayLen", "([BI)B"⟩
abbrev cJ2_compress_39247 : ByteArray := prog_17_method_17_code
def yJ2_compress_39247 : MethodName := ⟨RJ2, "compress", "([BII)[B"⟩
abbrev cJ2_compress_5af95 : ByteArray := prog_17_method_22_code
def yJ2_compress_5af95 : MethodName := ⟨RJ2, "compress", "([BI[BII)I"⟩
abbrev cJ2_indexOf_4cfef : ByteArray := prog_17_method_40_code
def yJ2_indexOf_4cfef : MethodName := ⟨RJ2, "indexOf", "([BIII)I"⟩
abbrev cJ2_indexOfChar_4cfef : ByteArray := prog_17_method_47_code
def yJ2_indexOfChar_4cfef : MethodName := ⟨RJ2, "indexOfChar", "([BIII)I"⟩
abbrev cJ2_indexOfCharUnsafe_4cfef : ByteArray := prog_17_method_48_code
def yJ2_indexOfCharUnsafe_4cfef : MethodName := ⟨RJ2, "indexOfCharUnsafe", "([BIII)I"⟩
abbrev cJ2_indexOfSupplementary_4cfef : ByteArray := prog_17_method_49_code
def yJ2_indexOfSupplementary_4cfef : MethodName := ⟨RJ2, "indexOfSupplementary", "([BIII)I"⟩
abbrev cJ2_newString_b4f7a : ByteArray := prog_17_method_69_code
def yJ2_newString_b4f7a : MethodName := ⟨RJ2, "newString", "([BII)Ljava/lang/String;"⟩
abbrev cJ2_fillNull_b72d1 : ByteArray := prog_17_method_70_code
def yJ2_fillNull_b72d1 : MethodName := ⟨RJ2, "fillNull", "([BII)V"⟩
abbrev cJ2_putCharSB_b72d1 : ByteArray := prog_17_method_71_code
def yJ2_putCharSB_b72d1 : MethodName := ⟨RJ2, "putCharSB", "([BII)V"⟩
abbrev cJ2_charAt_3b067 : ByteArray := prog_17_method_83_code
def yJ2_charAt_3b067 : MethodName := ⟨RJ2, "charAt", "([BI)C"⟩
abbrev cJ2_inflate_0e8fd : ByteArray := prog_17_method_86_code
def yJ2_inflate_0e8fd : MethodName := ⟨RJ2, "inflate", "([BI[BII)V"⟩
abbrev cJ2_checkIndex_2214a : ByteArray := prog_17_method_91_code
def yJ2_checkIndex_2214a : MethodName := ⟨RJ2, "checkIndex", "(I[B)V"⟩
abbrev cJ2_checkBoundsBeginEnd_d044e : ByteArray := prog_17_method_93_code
def yJ2_checkBoundsBeginEnd_d044e : MethodName := ⟨RJ2, "checkBoundsBeginEnd", "(II[B)V"⟩
abbrev cJ2_checkBoundsOffCount_d044e : ByteArray := prog_17_method_94_code
def yJ2_checkBoundsOffCount_d044e : MethodName := ⟨RJ2, "checkBoundsOffCount", "(II[B)V"⟩
def RJ10 : String := "java/lang/System"
def TJ10 : u_T := fun k => match k with
  | _ => ("", "", "", false)
def tyJ10 : Nat → FieldType := fun k => match k with
  | _ => .int
theorem nmJ10 : ∀ a, a < 0 → ∀ b, b < 0 → a ≠ b → (TJ10 a).2.1 ≠ (TJ10 b).2.1 := by decide +kernel
theorem tyJ10_ok : ∀ k, k < 0 → parseFieldDescriptor (TJ10 k).2.2.1 = some (tyJ10 k) := by decide +kernel
def RJ7 : String := "java/util/Arrays"
def TJ7 : u_T := fun k => match k with
  | _ => ("", "", "", false)
def tyJ7 : Nat → FieldType := fun k => match k with
  | _ => .int
theorem nmJ7 : ∀ a, a < 0 → ∀ b, b < 0 → a ≠ b → (TJ7 a).2.1 ≠ (TJ7 b).2.1 := by decide +kernel
theorem tyJ7_ok : ∀ k, k < 0 → parseFieldDescriptor (TJ7 k).2.2.1 = some (tyJ7 k) := by decide +kernel
abbrev cJ7_rangeCheck_23922 : ByteArray := prog_19_method_30_code
def yJ7_rangeCheck_23922 : MethodName := ⟨RJ7, "rangeCheck", "(III)V"⟩
abbrev cJ7_fill_eb02e : ByteArray := prog_19_method_110_code
def yJ7_fill_eb02e : MethodName := ⟨RJ7, "fill", "([BIIB)V"⟩
abbrev cJ7_copyOf_9075b : ByteArray := prog_19_method_121_code
def yJ7_copyOf_9075b : MethodName := ⟨RJ7, "copyOf", "([BI)[B"⟩
abbrev cJ7_checkLength_df160 : ByteArray := prog_19_method_131_code
def yJ7_checkLength_df160 : MethodName := ⟨RJ7, "checkLength", "(II)V"⟩
abbrev cJ7_copyOfRange_39247 : ByteArray := prog_19_method_132_code
def yJ7_copyOfRange_39247 : MethodName := ⟨RJ7, "copyOfRange", "([BII)[B"⟩
abbrev cJ7_copyOfRangeByte_39247 : ByteArray := prog_19_method_133_code
def yJ7_copyOfRangeByte_39247 : MethodName := ⟨RJ7, "copyOfRangeByte", "([BII)[B"⟩
def RJ8 : String := "jdk/internal/util/ArraysSupport"
def TJ8 : u_T := fun k => match k with
  | _ => ("", "", "", false)
def tyJ8 : Nat → FieldType := fun k => match k with
  | _ => .int
theorem nmJ8 : ∀ a, a < 0 → ∀ b, b < 0 → a ≠ b → (TJ8 a).2.1 ≠ (TJ8 b).2.1 := by decide +kernel
theorem tyJ8_ok : ∀ k, k < 0 → parseFieldDescriptor (TJ8 k).2.2.1 = some (tyJ8 k) := by decide +kernel
abbrev cJ8_newLength_cabcc : ByteArray := prog_20_method_27_code
def yJ8_newLength_cabcc : MethodName := ⟨RJ8, "newLength", "(III)I"⟩
abbrev cJ8_hugeLength_7cf53 : ByteArray := prog_20_method_28_code
def yJ8_hugeLength_7cf53 : MethodName := ⟨RJ8, "hugeLength", "(II)I"⟩
def RJ3 : String := "jdk/internal/util/Preconditions"
def TJ3 : u_T := fun k => match k with
  | _ => ("", "", "", false)
def tyJ3 : Nat → FieldType := fun k => match k with
  | _ => .int
theorem nmJ3 : ∀ a, a < 0 → ∀ b, b < 0 → a ≠ b → (TJ3 a).2.1 ≠ (TJ3 b).2.1 := by decide +kernel
theorem tyJ3_ok : ∀ k, k < 0 → parseFieldDescriptor (TJ3 k).2.2.1 = some (tyJ3 k) := by decide +kernel
abbrev cJ3_checkIndex_8e157 : ByteArray := prog_21_method_11_code
def yJ3_checkIndex_8e157 : MethodName := ⟨RJ3, "checkIndex", "(IILjava/util/function/BiFunction;)I"⟩
abbrev cJ3_checkFromToIndex_8c36e : ByteArray := prog_21_method_12_code
def yJ3_checkFromToIndex_8c36e : MethodName := ⟨RJ3, "checkFromToIndex", "(IIILjava/util/function/BiFunction;)I"⟩
abbrev cJ3_checkFromIndexSize_8c36e : ByteArray := prog_21_method_13_code
def yJ3_checkFromIndexSize_8c36e : MethodName := ⟨RJ3, "checkFromIndexSize", "(IIILjava/util/function/BiFunction;)I"⟩
def RL : String := "AdaptivePlayerLaw"
abbrev cL_law : ByteArray := code
def yL_law : MethodName := ⟨RL, "law", "([I)Z"⟩
abbrev vwCl : List vw_C := [(RJ0, TJ0, 4), (RJ4, TJ4, 4), (RX0, TX0, 3), (RX1, TX1, 5), (RX2, TX2, 18), (RX3, TX3, 5), (RX4, TX4, 2), (RX5, TX5, 5), (RX6, TX6, 8), (RX7, TX7, 20)]
end
section
/-! ===== one list of words for every method; one bundle for what stays, one for the world; rows over them ===== -/
def gT : List Cond := lw_tbl.filter goodWord
theorem gT_in {w : Cond} (h : w ∈ lw_tbl) (g : goodWord w = true) : w ∈ gT := List.mem_filter.mpr ⟨h, g⟩
theorem gT_tbl {w : Cond} (h : w ∈ gT) : w ∈ lw_tbl := (List.mem_filter.mp h).1
theorem gT_good {w : Cond} (h : w ∈ gT) : goodWord w = true := (List.mem_filter.mp h).2
def wU (y : MethodName) (cc : ByteArray) (n : Nat) (r : Option FieldType) : List Cond := Cond.code y cc n r :: gT
theorem wU_good {y : MethodName} {cc : ByteArray} {n : Nat} {r : Option FieldType} (h : Cond.code y cc n r ∈ gT) : GoodIn gT (wU y cc n r) := fun w hw => by
  rcases List.mem_cons.mp hw with rfl | hw
  · exact ⟨h, good_of_word (gT_good h)⟩
  · exact ⟨hw, good_of_word (gT_good hw)⟩
theorem fm_of_map {α β : Type} {f : α → Option β} : ∀ {is : List α} {w : List β}, is.map f = w.map some → is.filterMap f = w
  | [], [], _ => rfl
  | [], b :: w, h => by simp at h
  | a :: is, [], h => by simp at h
  | a :: is, b :: w, h => by
    simp only [List.map_cons, List.cons.injEq] at h
    simp only [List.filterMap_cons, h.1]
    rw [fm_of_map h.2]
abbrev tyL (cI cB : ClassId) : List (ClassId × FieldType) := [(cI, .int), (cB, .byte)]
def EE (p : Program) (c : Code) (cc : ByteArray) (nL : Nat) (s : State) (args : Array Value) (m : MethodId) (own : String) (D : va_G) (cI cB : ClassId) : Prop :=
  CallFix p m c cc nL s args gT own ∧ va_K D vwCl (tyL cI cB) s
def WD (D : va_G) (A : Nat → Prop) (H0 H : Heap) (locs : List Loc) (w : va_W) : Prop := va_P D vwCl w H ∧ va_D A w ∧ va_S A H0 H locs
def LV (own : String) (index : Nat) (C : String) (y : MethodName) (cc : ByteArray) (n : Nat) (r : Option FieldType) (k : Nat) : Prop :=
  Cond.methodLink own index y ∈ gT ∧ Cond.instanceMethod y ∈ gT ∧ Cond.selects C y y ∈ gT ∧ Cond.initialized C ∈ gT ∧ Cond.code y cc n r ∈ gT ∧ (y.cls = C ∧ y.cls ≠ "java/lang/invoke/MethodHandle" ∧ y.cls ≠ "java/lang/invoke/VarHandle" ∧ (parseMethodDescriptor y.desc).map (fun d => d.parameters.length) = some k)
def LSt (own : String) (index : Nat) (y : MethodName) (cc : ByteArray) (n : Nat) (r : Option FieldType) (k : Nat) : Prop :=
  Cond.methodLink own index y ∈ gT ∧ Cond.static y ∈ gT ∧ Cond.initialized y.cls ∈ gT ∧ Cond.code y cc n r ∈ gT ∧ (y.cls ≠ "java/lang/invoke/MethodHandle" ∧ y.cls ≠ "java/lang/invoke/VarHandle" ∧ (parseMethodDescriptor y.desc).map (fun d => d.parameters.length) = some k)
def LI (own : String) (index : Nat) (y : MethodName) (cc : ByteArray) (n : Nat) (k : Nat) : Prop :=
  Cond.methodLink own index y ∈ gT ∧ Cond.instanceMethod y ∈ gT ∧ Cond.initialized y.cls ∈ gT ∧ Cond.code y cc n none ∈ gT ∧ y.name = "<init>" ∧ (y.cls ≠ "java/lang/invoke/MethodHandle" ∧ y.cls ≠ "java/lang/invoke/VarHandle" ∧ (parseMethodDescriptor y.desc).map (fun d => d.parameters.length) = some k)
/-- the contracts: X is what is wanted of the start beside the world (constants that lie outside it) -/
def PC (X : Nat → State → Prop) (D : va_G) (cI cB : ClassId) (as : List Value) (w0 : va_W) (sz : Nat) : Array Value → State → Prop :=
  va_Pc as (fun U => U.heap.size = sz ∧ va_P D vwCl w0 U.heap ∧ va_K D vwCl (tyL cI cB) U ∧ va_D (fun _ => True) w0 ∧ X sz U)
def AT {S : Type} (D : va_G) (cI cB : ClassId) (A : Nat → Prop) (w1 : S → va_W) : S → State → Prop := fun u t => va_P D vwCl (w1 u) t.heap ∧ va_K D vwCl (tyL cI cB) t ∧ va_D A (w1 u)
def AR {S : Type} (D : va_G) (cI cB : ClassId) (A : Nat → Prop) (w1 : S → Nat → va_W) : S → Nat → State → Prop := fun u a t => va_P D vwCl (w1 u a) t.heap ∧ va_K D vwCl (tyL cI cB) t ∧ va_D A (w1 u a)
def CI {S : Type} (l : Launch) (X : Nat → State → Prop) (D : va_G) (cI cB : ClassId) (y : MethodName) (cc : ByteArray) (n : Nat) (r : Option FieldType) (fr lo mc ms : Nat) (as : List Value) (w0 : va_W) (post : Int32 → S → Prop) (w1 : S → va_W) : Prop :=
  ∀ sz : Nat, Met l y (wU y cc n r) { frames := fr, cells := mc, slots := ms, locals := lo } (PC X D cI cB as w0 sz) (va_Qi post (AT D cI cB (va_A w0 sz) w1) (va_A w0 sz)) mc ms (va_A w0 sz)
def CV {S : Type} (l : Launch) (X : Nat → State → Prop) (D : va_G) (cI cB : ClassId) (y : MethodName) (cc : ByteArray) (n : Nat) (fr lo mc ms : Nat) (as : List Value) (w0 : va_W) (post : S → Prop) (w1 : S → va_W) : Prop :=
  ∀ sz : Nat, Met l y (wU y cc n none) { frames := fr, cells := mc, slots := ms, locals := lo } (PC X D cI cB as w0 sz) (va_Qv post (AT D cI cB (va_A w0 sz) w1) (va_A w0 sz)) mc ms (va_A w0 sz)
def CR {S : Type} (l : Launch) (X : Nat → State → Prop) (D : va_G) (cI cB : ClassId) (y : MethodName) (cc : ByteArray) (n : Nat) (r : Option FieldType) (fr lo mc ms : Nat) (as : List Value) (w0 : va_W) (post : S → Prop) (w1 : S → Nat → va_W) : Prop :=
  ∀ sz : Nat, Met l y (wU y cc n r) { frames := fr, cells := mc, slots := ms, locals := lo } (PC X D cI cB as w0 sz) (va_Qr post (AR D cI cB (va_A w0 sz) w1) (va_A w0 sz)) mc ms (va_A w0 sz)
abbrev X0 : Nat → State → Prop := fun _ _ => True
def Xb (X : Nat → State → Prop) : Prop := ∀ (sz : Nat) (U : State) (g : JFrame) (mk : MethodId) (a : Array Value), X sz U → X sz (U.calling g mk a)
theorem X0b : Xb X0 := fun _ _ _ _ _ _ => trivial
theorem PC_blind {X : Nat → State → Prop} (hX : Xb X) {D : va_G} {cI cB : ClassId} {as : List Value} {w0 : va_W} {sz : Nat} : FrameBlind (PC X D cI cB as w0 sz) := fun a U g mk q => by
  obtain ⟨q0, q1, qP, qK, qD, qX⟩ := q
  exact ⟨q0, q1, qP, va_K.moved (u := U) (U := U.calling g mk a) (Vm.Alike.refl U.vm) qK, qD, hX _ _ _ _ _ qX⟩
section ROWS
variable {p : Program} {l : Launch} {e : Env} {R : Room} {s : State} {m : MethodId} {args : Array Value} {below : List Frame} {meth : Method} {c : Code} {H : Heap} {locs : List Loc} {cells slots : Nat} {Q : State → Prop}
variable {cc : ByteArray} {pc nL : Nat} {ls : Array Slot} {rest : List Value} {D : va_G} {A : Nat → Prop} {a : Nat} {cI cB : ClassId} {w : va_W} {H0 : Heap} {own : String}
theorem r_get (E : EE p c cc nL s args m own D cI cB) (X : WD D A H0 H locs w) {ref C : String} {T : u_T} {N ci index : Nat} (k : Nat) (hin : ∀ w ∈ u_ws C T N, w ∈ gT) (hc : vwCl[ci]? = some (C, T, N)) (hk : k < N) (hl : Cond.fieldLink own index ref (T k).2.1 (T k).2.2.1 ∈ gT) (href : (T k).1 = ref) (q0 : Nat) {fs : List Value} {v : Value} (he : w[q0]? = some (a, .inr (ci, fs))) (hv : fs[k]? = some v) (hd : decode cc pc = .ok (.getfield index, 3))
    (kk : W p l e R s m args below meth c H locs cells slots Q (F0 m (pc + 3) ls (v :: rest))) : W p l e R s m args below meth c H locs cells slots Q (F0 m pc ls (.ref a :: rest)) :=
  va_get (C := C) (T := T) (N := N) (ref := ref) (index := index) E.1.1 E.1.2.1 E.1.2.2.2.2 hin E.1.2.2.2.1 E.2 X.1 q0 he hc k hk (E.1.2.2.2.2 _ hl) (fun x h => by rw [← href]; exact h) hv hd kk
theorem r_put (E : EE p c cc nL s args m own D cI cB) (X : WD D A H0 H locs w) {ref C : String} {T : u_T} {ty0 : Nat → FieldType} {N ci index : Nat} (k : Nat) (hin : ∀ w ∈ u_ws C T N, w ∈ gT) (hty : ∀ k, k < N → parseFieldDescriptor (T k).2.2.1 = some (ty0 k)) (hnm : ∀ a, a < N → ∀ b, b < N → a ≠ b → (T a).2.1 ≠ (T b).2.1) (hc : vwCl[ci]? = some (C, T, N)) (hk : k < N) (hl : Cond.fieldLink own index ref (T k).2.1 (T k).2.2.1 ∈ gT) (href : (T k).1 = ref) (hfin : (T k).2.2.2 = false)
    (q0 : Nat) {fs : List Value} {v : Value} {w' : va_W} (he : w[q0]? = some (a, .inr (ci, fs))) (hn : narrow (ty0 k) v = v) (hf : fits (ty0 k) v = true) (hlen : k < fs.length) (hw : w.set q0 (a, .inr (ci, fs.set k v)) = w') (hd : decode cc pc = .ok (.putfield index, 3))
    (kk : ∀ (H1 : Heap) (locs1 : List Loc), WD D A H0 H1 locs1 w' → W p l e R s m args below meth c H1 locs1 cells slots Q (F0 m (pc + 3) ls rest)) : W p l e R s m args below meth c H locs cells slots Q (F0 m pc ls (v :: .ref a :: rest)) := by
  subst hw
  exact va_put (C := C) (T := T) (N := N) (ref := ref) (index := index) (ty := ty0 k) E.1.1 E.1.2.1 E.1.2.2.2.2 hin ty0 hty hnm E.1.2.2.2.1 E.2 X.1 X.2.1 X.2.2 q0 he hc k hk (E.1.2.2.2.2 _ hl) (fun x h => by rw [← href]; exact h) hfin (hty k hk) hn hf hlen hd (fun H1 locs1 h1 h2 h3 => kk H1 locs1 ⟨h1, h2, h3⟩)
theorem r_putF (E : EE p c cc nL s args m own D cI cB) (X : WD D A H0 H locs w) {ref C : String} {T : u_T} {ty0 : Nat → FieldType} {N ci index : Nat} (k : Nat) (hin : ∀ w ∈ u_ws C T N, w ∈ gT) (hty : ∀ k, k < N → parseFieldDescriptor (T k).2.2.1 = some (ty0 k)) (hnm : ∀ a, a < N → ∀ b, b < N → a ≠ b → (T a).2.1 ≠ (T b).2.1) (hc : vwCl[ci]? = some (C, T, N)) (hk : k < N) (hl : Cond.fieldLink own index ref (T k).2.1 (T k).2.2.1 ∈ gT) (href : (T k).1 = ref) (hfin : (T k).2.2.2 = true) (hin2 : meth.name = "<init>") (hdecl : (T k).1 = own)
    (q0 : Nat) {fs : List Value} {v : Value} {w' : va_W} (he : w[q0]? = some (a, .inr (ci, fs))) (hn : narrow (ty0 k) v = v) (hf : fits (ty0 k) v = true) (hlen : k < fs.length) (hw : w.set q0 (a, .inr (ci, fs.set k v)) = w') (hd : decode cc pc = .ok (.putfield index, 3))
    (kk : ∀ (H1 : Heap) (locs1 : List Loc), WD D A H0 H1 locs1 w' → W p l e R s m args below meth c H1 locs1 cells slots Q (F0 m (pc + 3) ls rest)) : W p l e R s m args below meth c H locs cells slots Q (F0 m pc ls (v :: .ref a :: rest)) := by
  subst hw
  exact va_putF (C := C) (T := T) (N := N) (ref := ref) (index := index) (ty := ty0 k) E.1.1 E.1.2.1 E.1.2.2.2.2 hin ty0 hty hnm E.1.2.2.2.1 E.2 X.1 X.2.1 X.2.2 q0 he hc k hk (E.1.2.2.2.2 _ hl) (fun x h => by rw [← href]; exact h) hfin hin2 hdecl (hty k hk) hn hf hlen hd (fun H1 locs1 h1 h2 h3 => kk H1 locs1 ⟨h1, h2, h3⟩)
theorem r_iald (E : EE p c cc nL s args m own D cI cB) (X : WD D A H0 H locs w) (q0 : Nat) {n : Nat} {f : Nat → Int32} (he : w[q0]? = some (a, .inl (cI, n, .inl f))) {i : Int32} (hin : vp_in i n) (hd : decode cc pc = .ok (.iaload, 1))
    (kk : W p l e R s m args below meth c H locs cells slots Q (F0 m (pc + 1) ls (.int (f i.toNatClampNeg) :: rest))) : W p l e R s m args below meth c H locs cells slots Q (F0 m pc ls (.int i :: .ref a :: rest)) :=
  va_iald E.1.1 E.1.2.1 E.2 X.1 q0 0 he rfl hin hd kk
theorem r_bald (E : EE p c cc nL s args m own D cI cB) (X : WD D A H0 H locs w) (q0 : Nat) {n : Nat} {f : Nat → Int32} (he : w[q0]? = some (a, .inl (cB, n, .inl f))) {i : Int32} (hin : vp_in i n) (hd : decode cc pc = .ok (.baload, 1))
    (kk : W p l e R s m args below meth c H locs cells slots Q (F0 m (pc + 1) ls (.int (f i.toNatClampNeg) :: rest))) : W p l e R s m args below meth c H locs cells slots Q (F0 m pc ls (.int i :: .ref a :: rest)) :=
  va_bald E.1.1 E.1.2.1 E.2 X.1 q0 1 he rfl hin hd kk
theorem r_iast (E : EE p c cc nL s args m own D cI cB) (X : WD D A H0 H locs w) (q0 : Nat) {n : Nat} {f : Nat → Int32} {w' : va_W} (he : w[q0]? = some (a, .inl (cI, n, .inl f))) {i x : Int32} (hin : vp_in i n) (hw : w.set q0 (a, .inl (cI, n, .inl (upd f i.toNatClampNeg x))) = w') (hd : decode cc pc = .ok (.iastore, 1))
    (kk : ∀ (H1 : Heap) (locs1 : List Loc), WD D A H0 H1 locs1 w' → W p l e R s m args below meth c H1 locs1 cells slots Q (F0 m (pc + 1) ls rest)) : W p l e R s m args below meth c H locs cells slots Q (F0 m pc ls (.int x :: .int i :: .ref a :: rest)) := by
  subst hw
  exact va_iast E.1.1 E.1.2.1 E.2 X.1 X.2.1 X.2.2 q0 0 he rfl hin hd (fun H1 locs1 h1 h2 h3 => kk H1 locs1 ⟨h1, h2, h3⟩)
theorem r_bast (E : EE p c cc nL s args m own D cI cB) (X : WD D A H0 H locs w) (q0 : Nat) {n : Nat} {f : Nat → Int32} {w' : va_W} (he : w[q0]? = some (a, .inl (cB, n, .inl f))) {i x : Int32} (hin : vp_in i n) (hw : w.set q0 (a, .inl (cB, n, .inl (upd f i.toNatClampNeg (vp_nar .byte x)))) = w') (hd : decode cc pc = .ok (.bastore, 1))
    (kk : ∀ (H1 : Heap) (locs1 : List Loc), WD D A H0 H1 locs1 w' → W p l e R s m args below meth c H1 locs1 cells slots Q (F0 m (pc + 1) ls rest)) : W p l e R s m args below meth c H locs cells slots Q (F0 m pc ls (.int x :: .int i :: .ref a :: rest)) := by
  subst hw
  exact va_bast E.1.1 E.1.2.1 E.2 X.1 X.2.1 X.2.2 q0 1 he rfl hin hd (fun H1 locs1 h1 h2 h3 => kk H1 locs1 ⟨h1, h2, h3⟩)
theorem r_alenI (E : EE p c cc nL s args m own D cI cB) (X : WD D A H0 H locs w) (q0 : Nat) {n : Nat} {f : Nat → Int32} (he : w[q0]? = some (a, .inl (cI, n, .inl f))) {v : Int32} (hv : Int32.ofNat n = v) (hd : decode cc pc = .ok (.arraylength, 1))
    (kk : W p l e R s m args below meth c H locs cells slots Q (F0 m (pc + 1) ls (.int v :: rest))) : W p l e R s m args below meth c H locs cells slots Q (F0 m pc ls (.ref a :: rest)) :=
  va_alen E.1.1 E.1.2.1 E.2 X.1 q0 0 he rfl hv hd kk
theorem r_alenB (E : EE p c cc nL s args m own D cI cB) (X : WD D A H0 H locs w) (q0 : Nat) {n : Nat} {f : Nat → Int32} (he : w[q0]? = some (a, .inl (cB, n, .inl f))) {v : Int32} (hv : Int32.ofNat n = v) (hd : decode cc pc = .ok (.arraylength, 1))
    (kk : W p l e R s m args below meth c H locs cells slots Q (F0 m (pc + 1) ls (.int v :: rest))) : W p l e R s m args below meth c H locs cells slots Q (F0 m pc ls (.ref a :: rest)) :=
  va_alen E.1.1 E.1.2.1 E.2 X.1 q0 1 he rfl hv hd kk
/-- behind a call: the callee's cells in their places again -/
theorem w_join {w0 wr w1 w2 : va_W} {H1 : Heap} {locs1 : List Loc} (X : WD D A H0 H locs w) (hA : ∀ q, H0.size ≤ q → A q) (isC isR ps : List Nat) (hC : isC.map (fun i => w[i]?) = w0.map some) (hR : isR.map (fun i => w[i]?) = wr.map some) (hn : va_nd isR = true) (hdis : ∀ i ∈ isR, i ∉ isC) (hps : va_nd ps = true) (h2 : ps.map (fun i => (wr ++ w1)[i]?) = w2.map some)
    (hk1 : ∀ q : Nat, q < H.size → ¬ va_A w0 H.size q → H1[q]? = H[q]?) (hP1 : va_P D vwCl w1 H1) (hD1 : va_D (va_A w0 H.size) w1) (hS1 : va_S A H0 H1 locs1) : WD D A H0 H1 locs1 w2 := by
  obtain ⟨hP2, hD2⟩ := va_join (wr := wr) (w1 := w1) X.1 X.2.1 isC isR hC hR hn hdis hk1 (va_free (wc := w0) X.2.1 X.2.2 hA isC hC) hP1 hD1
  exact ⟨hP2.sub ps (fm_of_map h2), hD2.sub ps hps h2, hS1⟩
theorem pre_of {X : Nat → State → Prop} {w0 : va_W} (E : EE p c cc nL s args m own D cI cB) (Y : WD D A H0 H locs w) (isC : List Nat) (hC : isC.map (fun i => w[i]?) = w0.map some) (hnC : va_nd isC = true) (hX : ∀ U : State, U.heap = H → s.WarmedH U.vm → X H.size U) {as : List Value} : ∀ U : State, U.heap = H → s.WarmedH U.vm → PC X D cI cB as w0 H.size as.toArray U := fun U hU hW =>
  ⟨rfl, by rw [hU], by rw [hU]; exact Y.1.sub isC (fm_of_map hC), va_K.moved hW.alike E.2, (Y.2.1.sub isC hnC hC).weaken (fun _ _ _ _ => trivial), hX U hU hW⟩
section CALLS
variable {S : Type} {X : Nat → State → Prop} {y : MethodName} {cy : ByteArray} {ny k index : Nat} {ry : Option FieldType} {fr lo mc ms : Nat} {As : List Value} {b : Nat} {w0 wr : va_W} {C : String}
theorem r_Vi {post : Int32 → S → Prop} {w1 : S → va_W} {w2 : S → va_W} (E : EE p c cc nL s args m own D cI cB) (Y : WD D A H0 H locs w) (hA : ∀ q, H0.size ≤ q → A q) (hl : ls.size = nL) (M : CI l X D cI cB y cy ny ry fr lo mc ms (.ref b :: As) w0 post w1) (L : LV own index C y cy ny ry k) (hXb : Xb X) (hX : ∀ U : State, U.heap = H → s.WarmedH U.vm → X H.size U) (isC isR ps : List Nat) (hC : isC.map (fun i => w[i]?) = w0.map some) (hR : isR.map (fun i => w[i]?) = wr.map some) (hnd : va_nd isC = true ∧ va_nd isR = true ∧ va_nd ps = true ∧ ∀ i ∈ isR, i ∉ isC) (h2 : ∀ u, ps.map (fun i => (wr ++ w1 u)[i]?) = (w2 u).map some)
    (qr : Nat) {fs : List Value} {ci : Nat} {T : u_T} {N : Nat} (hrc : vwCl[ci]? = some (C, T, N)) (hre : w[qr]? = some (b, .inr (ci, fs))) (hR' : fr + 1 ≤ R.frames ∧ 8 + (ny + 11) + lo ≤ R.locals) (hroom : cells + mc ≤ R.cells ∧ slots + ms ≤ R.slots) (hn : As.length = k) {st : List Value} (hst : st = As.reverse ++ .ref b :: rest) (hcat : (rest.map fun v => v.category).sum ≤ 8) (hd : decode cc pc = .ok (.invokevirtual index, 3))
    (kk : ∀ (r : Int32) (u : S) (H1 : Heap) (locs1 : List Loc), post r u → WD D A H0 H1 locs1 (w2 u) → W p l e R s m args below meth c H1 locs1 (cells + mc) (slots + ms) Q (F0 m (pc + 3) ls (.int r :: rest))) : W p l e R s m args below meth c H locs cells slots Q (F0 m pc ls st) := by
  subst hst
  obtain ⟨g1, g2, g3, g4, g5, g6⟩ := L
  have hT : GoodIn gT (wsV own index C y (wU y cy ny ry)) := fun v hv => by
    rcases List.mem_append.mp hv with h | h
    · have hm : v ∈ gT := by
        simp only [List.mem_cons, List.not_mem_nil, or_false] at h
        rcases h with rfl | rfl | rfl | rfl <;> assumption
      exact ⟨hm, good_of_word (gT_good hm)⟩
    · exact wU_good g5 v h
  have hF := va_free (wc := w0) Y.2.1 Y.2.2 hA isC hC
  refine va_calli (va_runV (As := As) (rest := rest) E.1 (M H.size) (cwV k E.1.2.2.2.2 hT rfl rfl rfl g6 hR') ⟨PC_blind hXb, va_recv E.2 Y.1 hrc hre, pre_of E Y isC hC hnd.1 hX⟩ rfl hn hl rfl (lv_room hcat) hd hroom) Y.2.2 (fun q _ h => hF q h) hF (fun r u t H1 locs1 ht hvm hw hB hz1 hk1 hS => ?_)
  obtain ⟨hP1, hK1, hD1⟩ := hB
  rw [ht] at hP1
  exact kk r u H1 locs1 hw (w_join Y hA isC isR ps hC hR hnd.2.1 hnd.2.2.2 hnd.2.2.1 (h2 u) hk1 hP1 hD1 hS)
theorem r_Vv {post : S → Prop} {w1 : S → va_W} {w2 : S → va_W} (E : EE p c cc nL s args m own D cI cB) (Y : WD D A H0 H locs w) (hA : ∀ q, H0.size ≤ q → A q) (hl : ls.size = nL) (M : CV l X D cI cB y cy ny fr lo mc ms (.ref b :: As) w0 post w1) (L : LV own index C y cy ny none k) (hXb : Xb X) (hX : ∀ U : State, U.heap = H → s.WarmedH U.vm → X H.size U) (isC isR ps : List Nat) (hC : isC.map (fun i => w[i]?) = w0.map some) (hR : isR.map (fun i => w[i]?) = wr.map some) (hnd : va_nd isC = true ∧ va_nd isR = true ∧ va_nd ps = true ∧ ∀ i ∈ isR, i ∉ isC) (h2 : ∀ u, ps.map (fun i => (wr ++ w1 u)[i]?) = (w2 u).map some)
    (qr : Nat) {fs : List Value} {ci : Nat} {T : u_T} {N : Nat} (hrc : vwCl[ci]? = some (C, T, N)) (hre : w[qr]? = some (b, .inr (ci, fs))) (hR' : fr + 1 ≤ R.frames ∧ 8 + (ny + 11) + lo ≤ R.locals) (hroom : cells + mc ≤ R.cells ∧ slots + ms ≤ R.slots) (hn : As.length = k) {st : List Value} (hst : st = As.reverse ++ .ref b :: rest) (hcat : (rest.map fun v => v.category).sum ≤ 8) (hd : decode cc pc = .ok (.invokevirtual index, 3))
    (kk : ∀ (u : S) (H1 : Heap) (locs1 : List Loc), post u → WD D A H0 H1 locs1 (w2 u) → W p l e R s m args below meth c H1 locs1 (cells + mc) (slots + ms) Q (F0 m (pc + 3) ls rest)) : W p l e R s m args below meth c H locs cells slots Q (F0 m pc ls st) := by
  subst hst
  obtain ⟨g1, g2, g3, g4, g5, g6⟩ := L
  have hT : GoodIn gT (wsV own index C y (wU y cy ny none)) := fun v hv => by
    rcases List.mem_append.mp hv with h | h
    · have hm : v ∈ gT := by
        simp only [List.mem_cons, List.not_mem_nil, or_false] at h
        rcases h with rfl | rfl | rfl | rfl <;> assumption
      exact ⟨hm, good_of_word (gT_good hm)⟩
    · exact wU_good g5 v h
  have hF := va_free (wc := w0) Y.2.1 Y.2.2 hA isC hC
  refine va_callv (va_runV (As := As) (rest := rest) E.1 (M H.size) (cwV k E.1.2.2.2.2 hT rfl rfl rfl g6 hR') ⟨PC_blind hXb, va_recv E.2 Y.1 hrc hre, pre_of E Y isC hC hnd.1 hX⟩ rfl hn hl rfl (lv_room hcat) hd hroom) Y.2.2 (fun q _ h => hF q h) hF (fun u t H1 locs1 ht hvm hw hB hz1 hk1 hS => ?_)
  obtain ⟨hP1, hK1, hD1⟩ := hB
  rw [ht] at hP1
  exact kk u H1 locs1 hw (w_join Y hA isC isR ps hC hR hnd.2.1 hnd.2.2.2 hnd.2.2.1 (h2 u) hk1 hP1 hD1 hS)
theorem r_Si {post : Int32 → S → Prop} {w1 : S → va_W} {w2 : S → va_W} (E : EE p c cc nL s args m own D cI cB) (Y : WD D A H0 H locs w) (hA : ∀ q, H0.size ≤ q → A q) (hl : ls.size = nL) (M : CI l X D cI cB y cy ny ry fr lo mc ms As w0 post w1) (L : LSt own index y cy ny ry k) (hXb : Xb X) (hX : ∀ U : State, U.heap = H → s.WarmedH U.vm → X H.size U) (isC isR ps : List Nat) (hC : isC.map (fun i => w[i]?) = w0.map some) (hR : isR.map (fun i => w[i]?) = wr.map some) (hnd : va_nd isC = true ∧ va_nd isR = true ∧ va_nd ps = true ∧ ∀ i ∈ isR, i ∉ isC) (h2 : ∀ u, ps.map (fun i => (wr ++ w1 u)[i]?) = (w2 u).map some)
    (hR' : fr + 1 ≤ R.frames ∧ 8 + (ny + 11) + lo ≤ R.locals) (hroom : cells + mc ≤ R.cells ∧ slots + ms ≤ R.slots) (hn : As.length = k) {st : List Value} (hst : st = As.reverse ++ rest) (hcat : (rest.map fun v => v.category).sum ≤ 8) (hd : decode cc pc = .ok (.invokestatic index, 3))
    (kk : ∀ (r : Int32) (u : S) (H1 : Heap) (locs1 : List Loc), post r u → WD D A H0 H1 locs1 (w2 u) → W p l e R s m args below meth c H1 locs1 (cells + mc) (slots + ms) Q (F0 m (pc + 3) ls (.int r :: rest))) : W p l e R s m args below meth c H locs cells slots Q (F0 m pc ls st) := by
  subst hst
  obtain ⟨g1, g2, g3, g4, g5⟩ := L
  have hF := va_free (wc := w0) Y.2.1 Y.2.2 hA isC hC
  have hts := E.1.2.2.2.2
  refine va_calli (va_runS (As := As) (rest := rest) E.1 (M H.size) ⟨callB_of k hts (wU_good g4) rfl rfl rfl (hts _ g3) (hts _ g1) g5 hR', hts _ g2⟩ ⟨PC_blind hXb, pre_of E Y isC hC hnd.1 hX⟩ rfl hn hl rfl (lv_room hcat) hd hroom) Y.2.2 (fun q _ h => hF q h) hF (fun r u t H1 locs1 ht hvm hw hB hz1 hk1 hS => ?_)
  obtain ⟨hP1, hK1, hD1⟩ := hB
  rw [ht] at hP1
  exact kk r u H1 locs1 hw (w_join Y hA isC isR ps hC hR hnd.2.1 hnd.2.2.2 hnd.2.2.1 (h2 u) hk1 hP1 hD1 hS)
theorem r_Iv {post : S → Prop} {w1 : S → va_W} {w2 : S → va_W} (E : EE p c cc nL s args m own D cI cB) (Y : WD D A H0 H locs w) (hA : ∀ q, H0.size ≤ q → A q) (hl : ls.size = nL) (M : CV l X D cI cB y cy ny fr lo mc ms (.ref b :: As) w0 post w1) (L : LI own index y cy ny k) (hXb : Xb X) (hX : ∀ U : State, U.heap = H → s.WarmedH U.vm → X H.size U) (isC isR ps : List Nat) (hC : isC.map (fun i => w[i]?) = w0.map some) (hR : isR.map (fun i => w[i]?) = wr.map some) (hnd : va_nd isC = true ∧ va_nd isR = true ∧ va_nd ps = true ∧ ∀ i ∈ isR, i ∉ isC) (h2 : ∀ u, ps.map (fun i => (wr ++ w1 u)[i]?) = (w2 u).map some)
    (hR' : fr + 1 ≤ R.frames ∧ 8 + (ny + 11) + lo ≤ R.locals) (hroom : cells + mc ≤ R.cells ∧ slots + ms ≤ R.slots) (hn : As.length = k) {st : List Value} (hst : st = As.reverse ++ .ref b :: rest) (hcat : (rest.map fun v => v.category).sum ≤ 8) (hd : decode cc pc = .ok (.invokespecial index, 3))
    (kk : ∀ (u : S) (H1 : Heap) (locs1 : List Loc), post u → WD D A H0 H1 locs1 (w2 u) → W p l e R s m args below meth c H1 locs1 (cells + mc) (slots + ms) Q (F0 m (pc + 3) ls rest)) : W p l e R s m args below meth c H locs cells slots Q (F0 m pc ls st) := by
  subst hst
  obtain ⟨g1, g2, g3, g4, g5, g6⟩ := L
  have hF := va_free (wc := w0) Y.2.1 Y.2.2 hA isC hC
  have hts := E.1.2.2.2.2
  refine va_callv (va_runI (As := As) (rest := rest) E.1 (M H.size) (cwI k hts (wU_good g4) rfl rfl rfl (hts _ g3) (hts _ g1) (hts _ g2) g5 g6 hR') ⟨PC_blind hXb, pre_of E Y isC hC hnd.1 hX⟩ rfl hn hl rfl (lv_room hcat) hd hroom) Y.2.2 (fun q _ h => hF q h) hF (fun u t H1 locs1 ht hvm hw hB hz1 hk1 hS => ?_)
  obtain ⟨hP1, hK1, hD1⟩ := hB
  rw [ht] at hP1
  exact kk u H1 locs1 hw (w_join Y hA isC isR ps hC hR hnd.2.1 hnd.2.2.2 hnd.2.2.1 (h2 u) hk1 hP1 hD1 hS)
end CALLS
end ROWS
section ENTER
variable {S : Type} {l : Launch} {X : Nat → State → Prop} {D : va_G} {cI cB : ClassId} {y : MethodName} {cc : ByteArray} {n : Nat} {r : Option FieldType} {fr lo mc ms : Nat} {as : List Value} {w0 : va_W}
theorem CI.of {post : Int32 → S → Prop} {w1 : S → va_W} (hy : plainName y.cls = true) (hn : (lg_sl as).length ≤ n)
    (body : ∀ (p : Program) (e : Env) (s : State) (m : MethodId) (below : List Frame) (meth : Method) (c : Code) (A : Nat → Prop) (ls : Array Slot), EE p c cc n s as.toArray m y.cls D cI cB → meth.sig.returnType = r → meth.locks = false → meth.name = y.name → (∀ q, s.heap.size ≤ q → A q) → (∀ q, A q → va_A w0 s.heap.size q) → X s.heap.size s → WD D A s.heap s.heap [] w0 → lv_has ls n (lv_args 0 as) → W p l e { frames := fr, cells := mc, slots := ms, locals := lo } s m as.toArray below meth c s.heap [] 0 0 (MQ below (va_Qi post (AT D cI cB A w1) A) as.toArray s mc ms A) (F0 m 0 ls [])) : CI l X D cI cB y cc n r fr lo mc ms as w0 post w1 := by
  intro sz
  refine Met.ofW (cc := cc) (maxL := n) (ret := r) hy rfl ?_
  intro p e s m args below meth c s₁ B hml hv
  obtain ⟨rfl, hsz, hP, hK, hD0, hX⟩ := hv
  have hts : ∀ w ∈ gT, w.before as.toArray s = true := fun w h => atoms_spec (ws := wU y cc n r) B.pre w (List.mem_cons_of_mem _ h)
  subst hsz
  have hD := hD0.self (sz := s.heap.size)
  have hl := lv_entry as (n := n) hn
  rw [lg_entry_eq]
  exact body p e s m below meth c (va_A w0 s.heap.size) _ ⟨⟨B.exec, B.bytes, hml, findClass_of_methodNamed B.named, hts⟩, hK⟩ B.returns B.notSynchronized (name_of_methodNamed B.named B.method).1 (fun q h => Or.inr h) (fun q h => h) hX ⟨hP, hD, va_S.rf⟩ hl
theorem CV.of {post : S → Prop} {w1 : S → va_W} (hy : plainName y.cls = true) (hn : (lg_sl as).length ≤ n)
    (body : ∀ (p : Program) (e : Env) (s : State) (m : MethodId) (below : List Frame) (meth : Method) (c : Code) (A : Nat → Prop) (ls : Array Slot), EE p c cc n s as.toArray m y.cls D cI cB → meth.sig.returnType = none → meth.locks = false → meth.name = y.name → (∀ q, s.heap.size ≤ q → A q) → (∀ q, A q → va_A w0 s.heap.size q) → X s.heap.size s → WD D A s.heap s.heap [] w0 → lv_has ls n (lv_args 0 as) → W p l e { frames := fr, cells := mc, slots := ms, locals := lo } s m as.toArray below meth c s.heap [] 0 0 (MQ below (va_Qv post (AT D cI cB A w1) A) as.toArray s mc ms A) (F0 m 0 ls [])) : CV l X D cI cB y cc n fr lo mc ms as w0 post w1 := by
  intro sz
  refine Met.ofW (cc := cc) (maxL := n) (ret := none) hy rfl ?_
  intro p e s m args below meth c s₁ B hml hv
  obtain ⟨rfl, hsz, hP, hK, hD0, hX⟩ := hv
  have hts : ∀ w ∈ gT, w.before as.toArray s = true := fun w h => atoms_spec (ws := wU y cc n none) B.pre w (List.mem_cons_of_mem _ h)
  subst hsz
  have hD := hD0.self (sz := s.heap.size)
  have hl := lv_entry as (n := n) hn
  rw [lg_entry_eq]
  exact body p e s m below meth c (va_A w0 s.heap.size) _ ⟨⟨B.exec, B.bytes, hml, findClass_of_methodNamed B.named, hts⟩, hK⟩ B.returns B.notSynchronized (name_of_methodNamed B.named B.method).1 (fun q h => Or.inr h) (fun q h => h) hX ⟨hP, hD, va_S.rf⟩ hl
variable {p : Program} {e : Env} {R : Room} {s : State} {m : MethodId} {args : Array Value} {below : List Frame} {meth : Method} {c : Code} {H : Heap} {locs : List Loc} {cells slots : Nat} {pc nL : Nat} {ls : Array Slot} {A : Nat → Prop} {w : va_W} {own : String}
theorem r_iret {post : Int32 → S → Prop} {w1 : S → va_W} (E : EE p c cc nL s args m own D cI cB) (Y : WD D A s.heap H locs w) (hr : meth.sig.returnType = some .int) (hk : meth.locks = false) (v : Int32) (u : S) (hp : post v u) (hw : w1 u = w) (hc : cells ≤ mc ∧ slots ≤ ms) (hd : decode cc pc = .ok (.ireturn, 1)) : W p l e R s m args below meth c H locs cells slots (MQ below (va_Qi post (AT D cI cB A w1) A) args s mc ms A) (F0 m pc ls [.int v]) := by
  subst hw
  refine W.widen hc.1 hc.2 ?_
  exact W.iret E.1.1 E.1.2.1 hr (fun t ht hW => ⟨⟨v, u, rfl, hp, by rw [ht]; exact Y.1, va_K.moved hW.alike E.2, Y.2.1⟩, Y.2.2.F ht⟩) Y.2.2.2.2 hd hk
theorem r_zret {post : Int32 → S → Prop} {w1 : S → va_W} {ty : FieldType} (E : EE p c cc nL s args m own D cI cB) (Y : WD D A s.heap H locs w) (hr : meth.sig.returnType = some ty) (hk : meth.locks = false) (v : Int32) (hn : narrow ty (.int v) = .int v) (u : S) (hp : post v u) (hw : w1 u = w) (hc : cells ≤ mc ∧ slots ≤ ms) (hd : decode cc pc = .ok (.ireturn, 1)) : W p l e R s m args below meth c H locs cells slots (MQ below (va_Qi post (AT D cI cB A w1) A) args s mc ms A) (F0 m pc ls [.int v]) := by
  subst hw
  refine W.widen hc.1 hc.2 ?_
  exact W.zret E.1.1 E.1.2.1 hr hn (fun t ht hW => ⟨⟨v, u, rfl, hp, by rw [ht]; exact Y.1, va_K.moved hW.alike E.2, Y.2.1⟩, Y.2.2.F ht⟩) Y.2.2.2.2 hd hk
theorem r_vret {post : S → Prop} {w1 : S → va_W} (E : EE p c cc nL s args m own D cI cB) (Y : WD D A s.heap H locs w) (hr : meth.sig.returnType = none) (hk : meth.locks = false) (u : S) (hp : post u) (hw : w1 u = w) (hc : cells ≤ mc ∧ slots ≤ ms) (hd : decode cc pc = .ok (.return_, 1)) : W p l e R s m args below meth c H locs cells slots (MQ below (va_Qv post (AT D cI cB A w1) A) args s mc ms A) (F0 m pc ls []) := by
  subst hw
  refine W.widen hc.1 hc.2 ?_
  exact W.vret E.1.1 E.1.2.1 hr (fun t ht hW => ⟨⟨u, rfl, hp, by rw [ht]; exact Y.1, va_K.moved hW.alike E.2, Y.2.1⟩, Y.2.2.F ht⟩) Y.2.2.2.2 hd hk
end ENTER
end
section
theorem sg1 {w : Cond} (h : w ∈ tables_1_1) (g : goodWord w = true) : w ∈ gT := gT_in (List.mem_append_right _ (List.mem_append_right _ (List.mem_append_left _ h))) g
theorem sg2 {w : Cond} (h : w ∈ tables_1_2) (g : goodWord w = true) : w ∈ gT := gT_in (List.mem_append_right _ (List.mem_append_right _ (List.mem_append_right _ (List.mem_append_left _ h)))) g
theorem sg3 {w : Cond} (h : w ∈ tables_1_3) (g : goodWord w = true) : w ∈ gT := gT_in (List.mem_append_right _ (List.mem_append_right _ (List.mem_append_right _ (List.mem_append_right _ (List.mem_append_left _ h))))) g
theorem sg4 {w : Cond} (h : w ∈ tables_1_4) (g : goodWord w = true) : w ∈ gT := gT_in (List.mem_append_right _ (List.mem_append_right _ (List.mem_append_right _ (List.mem_append_right _ (List.mem_append_right _ (List.mem_append_left _ h)))))) g
theorem sg5 {w : Cond} (h : w ∈ tables_1_5) (g : goodWord w = true) : w ∈ gT := gT_in (List.mem_append_right _ (List.mem_append_right _ (List.mem_append_right _ (List.mem_append_right _ (List.mem_append_right _ (List.mem_append_right _ (h))))))) g
theorem sgp {w : Cond} (h : w ∈ k2_sels lw_privs) (g : goodWord w = true) : w ∈ gT := gT_in (List.mem_append_right _ (List.mem_append_left _ h)) g
theorem sge {w : Cond} (h : w ∈ lw_ex) (g : goodWord w = true) : w ∈ gT := gT_in (List.mem_append_left _ h) g
theorem ms_X6_runWord : Cond.selects RX6 yX6_runWord yX6_runWord ∈ gT := sgp (List.mem_of_getElem? (i := 0) rfl) rfl
theorem ms_X6_changePause : Cond.selects RX6 yX6_changePause yX6_changePause ∈ gT := sgp (List.mem_of_getElem? (i := 1) rfl) rfl
theorem ms_X6_runWordWithArgument : Cond.selects RX6 yX6_runWordWithArgument yX6_runWordWithArgument ∈ gT := sgp (List.mem_of_getElem? (i := 2) rfl) rfl
theorem ms_X6_changePolicy : Cond.selects RX6 yX6_changePolicy yX6_changePolicy ∈ gT := sgp (List.mem_of_getElem? (i := 3) rfl) rfl
theorem ms_X6_changeCap : Cond.selects RX6 yX6_changeCap yX6_changeCap ∈ gT := sgp (List.mem_of_getElem? (i := 4) rfl) rfl
theorem ms_X6_seek : Cond.selects RX6 yX6_seek yX6_seek ∈ gT := sgp (List.mem_of_getElem? (i := 5) rfl) rfl
theorem ms_X2_canStartDownload : Cond.selects RX2 yX2_canStartDownload yX2_canStartDownload ∈ gT := sgp (List.mem_of_getElem? (i := 6) rfl) rfl
theorem ms_X2_hasNextSegment : Cond.selects RX2 yX2_hasNextSegment yX2_hasNextSegment ∈ gT := sgp (List.mem_of_getElem? (i := 7) rfl) rfl
theorem ms_X2_chooseLevel : Cond.selects RX2 yX2_chooseLevel yX2_chooseLevel ∈ gT := sgp (List.mem_of_getElem? (i := 8) rfl) rfl
theorem ms_X2_levelByRate : Cond.selects RX2 yX2_levelByRate yX2_levelByRate ∈ gT := sgp (List.mem_of_getElem? (i := 9) rfl) rfl
theorem ms_X2_levelByBuffer : Cond.selects RX2 yX2_levelByBuffer yX2_levelByBuffer ∈ gT := sgp (List.mem_of_getElem? (i := 10) rfl) rfl
theorem ms_X2_levelByBoth : Cond.selects RX2 yX2_levelByBoth yX2_levelByBoth ∈ gT := sgp (List.mem_of_getElem? (i := 11) rfl) rfl
theorem ms_X2_completeSegment : Cond.selects RX2 yX2_completeSegment yX2_completeSegment ∈ gT := sgp (List.mem_of_getElem? (i := 12) rfl) rfl
theorem ms_X2_play : Cond.selects RX2 yX2_play yX2_play ∈ gT := sgp (List.mem_of_getElem? (i := 13) rfl) rfl
theorem ms_X2_playIfReady : Cond.selects RX2 yX2_playIfReady yX2_playIfReady ∈ gT := sgp (List.mem_of_getElem? (i := 14) rfl) rfl
theorem ms_X2_playMillisecond : Cond.selects RX2 yX2_playMillisecond yX2_playMillisecond ∈ gT := sgp (List.mem_of_getElem? (i := 15) rfl) rfl
theorem ms_X6_simulationError : Cond.selects RX6 yX6_simulationError yX6_simulationError ∈ gT := sgp (List.mem_of_getElem? (i := 16) rfl) rfl
theorem ms_X7_begins : Cond.selects RX7 yX7_begins yX7_begins ∈ gT := sgp (List.mem_of_getElem? (i := 17) rfl) rfl
theorem ms_X7_has : Cond.selects RX7 yX7_has yX7_has ∈ gT := sgp (List.mem_of_getElem? (i := 18) rfl) rfl
theorem ms_X7_policyFrom : Cond.selects RX7 yX7_policyFrom yX7_policyFrom ∈ gT := sgp (List.mem_of_getElem? (i := 19) rfl) rfl
theorem ms_X7_setsPolicy : Cond.selects RX7 yX7_setsPolicy yX7_setsPolicy ∈ gT := sgp (List.mem_of_getElem? (i := 20) rfl) rfl
theorem ms_X7_capFrom : Cond.selects RX7 yX7_capFrom yX7_capFrom ∈ gT := sgp (List.mem_of_getElem? (i := 21) rfl) rfl
theorem ms_X7_numberFrom : Cond.selects RX7 yX7_numberFrom yX7_numberFrom ∈ gT := sgp (List.mem_of_getElem? (i := 22) rfl) rfl
theorem ms_X7_isDigit : Cond.selects RX7 yX7_isDigit yX7_isDigit ∈ gT := sgp (List.mem_of_getElem? (i := 23) rfl) rfl
theorem ms_X7_seekFrom : Cond.selects RX7 yX7_seekFrom yX7_seekFrom ∈ gT := sgp (List.mem_of_getElem? (i := 24) rfl) rfl
theorem ms_X7_pauses : Cond.selects RX7 yX7_pauses yX7_pauses ∈ gT := sgp (List.mem_of_getElem? (i := 25) rfl) rfl
theorem ms_X7_passes : Cond.selects RX7 yX7_passes yX7_passes ∈ gT := sgp (List.mem_of_getElem? (i := 26) rfl) rfl
theorem ms_X7_startsDownload : Cond.selects RX7 yX7_startsDownload yX7_startsDownload ∈ gT := sgp (List.mem_of_getElem? (i := 27) rfl) rfl
theorem ms_X7_chosen : Cond.selects RX7 yX7_chosen yX7_chosen ∈ gT := sgp (List.mem_of_getElem? (i := 28) rfl) rfl
theorem ms_X7_highest : Cond.selects RX7 yX7_highest yX7_highest ∈ gT := sgp (List.mem_of_getElem? (i := 29) rfl) rfl
theorem ms_X7_levelByRate : Cond.selects RX7 yX7_levelByRate yX7_levelByRate ∈ gT := sgp (List.mem_of_getElem? (i := 30) rfl) rfl
theorem ms_X7_estimate : Cond.selects RX7 yX7_estimate yX7_estimate ∈ gT := sgp (List.mem_of_getElem? (i := 31) rfl) rfl
theorem ms_X7_levelByBuffer : Cond.selects RX7 yX7_levelByBuffer yX7_levelByBuffer ∈ gT := sgp (List.mem_of_getElem? (i := 32) rfl) rfl
theorem ms_X7_levelOfBoth : Cond.selects RX7 yX7_levelOfBoth yX7_levelOfBoth ∈ gT := sgp (List.mem_of_getElem? (i := 33) rfl) rfl
theorem ms_X7_sizeOf : Cond.selects RX7 yX7_sizeOf yX7_sizeOf ∈ gT := sgp (List.mem_of_getElem? (i := 34) rfl) rfl
theorem ms_X7_receives : Cond.selects RX7 yX7_receives yX7_receives ∈ gT := sgp (List.mem_of_getElem? (i := 35) rfl) rfl
theorem ms_X7_rateAt : Cond.selects RX7 yX7_rateAt yX7_rateAt ∈ gT := sgp (List.mem_of_getElem? (i := 36) rfl) rfl
theorem ms_X7_completes : Cond.selects RX7 yX7_completes yX7_completes ∈ gT := sgp (List.mem_of_getElem? (i := 37) rfl) rfl
theorem ms_X7_plays : Cond.selects RX7 yX7_plays yX7_plays ∈ gT := sgp (List.mem_of_getElem? (i := 38) rfl) rfl
theorem ms_X7_waits : Cond.selects RX7 yX7_waits yX7_waits ∈ gT := sgp (List.mem_of_getElem? (i := 39) rfl) rfl
theorem ms_X7_simulated : Cond.selects RX7 yX7_simulated yX7_simulated ∈ gT := sgp (List.mem_of_getElem? (i := 40) rfl) rfl
theorem ms_X7_setsAside : Cond.selects RX7 yX7_setsAside yX7_setsAside ∈ gT := sgp (List.mem_of_getElem? (i := 41) rfl) rfl
theorem ms_X7_simulates : Cond.selects RX7 yX7_simulates yX7_simulates ∈ gT := sgp (List.mem_of_getElem? (i := 42) rfl) rfl
theorem ms_X7_takesBack : Cond.selects RX7 yX7_takesBack yX7_takesBack ∈ gT := sgp (List.mem_of_getElem? (i := 43) rfl) rfl
theorem ms_J4_J5_ensureCapacityInternal_d00df_J5_ensureCapacityInternal_d00df : Cond.selects RJ4 yJ5_ensureCapacityInternal_d00df yJ5_ensureCapacityInternal_d00df ∈ gT := sge (List.mem_of_getElem? (i := 0) rfl) rfl
theorem ms_J4_J5_newCapacity_0f7a4_J5_newCapacity_0f7a4 : Cond.selects RJ4 yJ5_newCapacity_0f7a4 yJ5_newCapacity_0f7a4 ∈ gT := sge (List.mem_of_getElem? (i := 1) rfl) rfl
theorem ms_J4_J5_inflate_da8c8_J5_inflate_da8c8 : Cond.selects RJ4 yJ5_inflate_da8c8 yJ5_inflate_da8c8 ∈ gT := sge (List.mem_of_getElem? (i := 2) rfl) rfl
theorem mn_L : Cond.initialized RL ∈ gT := sg1 (List.mem_of_getElem? (i := 0) rfl) rfl
theorem mn_X6 : Cond.initialized RX6 ∈ gT := sg1 (List.mem_of_getElem? (i := 1) rfl) rfl
theorem mn_X5 : Cond.initialized RX5 ∈ gT := sg1 (List.mem_of_getElem? (i := 2) rfl) rfl
theorem mn_X0 : Cond.initialized RX0 ∈ gT := sg1 (List.mem_of_getElem? (i := 3) rfl) rfl
theorem mn_X3 : Cond.initialized RX3 ∈ gT := sg1 (List.mem_of_getElem? (i := 4) rfl) rfl
theorem mn_X2 : Cond.initialized RX2 ∈ gT := sg1 (List.mem_of_getElem? (i := 5) rfl) rfl
theorem mn_X4 : Cond.initialized RX4 ∈ gT := sg1 (List.mem_of_getElem? (i := 6) rfl) rfl
theorem mn_X1 : Cond.initialized RX1 ∈ gT := sg1 (List.mem_of_getElem? (i := 7) rfl) rfl
theorem mn_J5 : Cond.initialized RJ5 ∈ gT := sg1 (List.mem_of_getElem? (i := 8) rfl) rfl
theorem mn_J4 : Cond.initialized RJ4 ∈ gT := sg1 (List.mem_of_getElem? (i := 9) rfl) rfl
theorem mn_J0 : Cond.initialized RJ0 ∈ gT := sg1 (List.mem_of_getElem? (i := 10) rfl) rfl
theorem mn_J2 : Cond.initialized RJ2 ∈ gT := sg1 (List.mem_of_getElem? (i := 11) rfl) rfl
theorem mn_X7 : Cond.initialized RX7 ∈ gT := sg1 (List.mem_of_getElem? (i := 12) rfl) rfl
theorem mn_J8 : Cond.initialized RJ8 ∈ gT := sg1 (List.mem_of_getElem? (i := 13) rfl) rfl
theorem mn_J9 : Cond.initialized RJ9 ∈ gT := sg1 (List.mem_of_getElem? (i := 14) rfl) rfl
theorem mn_J7 : Cond.initialized RJ7 ∈ gT := sg1 (List.mem_of_getElem? (i := 15) rfl) rfl
theorem mn_J10 : Cond.initialized RJ10 ∈ gT := sg1 (List.mem_of_getElem? (i := 16) rfl) rfl
theorem mn_J1 : Cond.initialized RJ1 ∈ gT := sg1 (List.mem_of_getElem? (i := 17) rfl) rfl
theorem mn_J3 : Cond.initialized RJ3 ∈ gT := sg1 (List.mem_of_getElem? (i := 18) rfl) rfl
theorem mn_J11 : Cond.initialized RJ11 ∈ gT := sg1 (List.mem_of_getElem? (i := 19) rfl) rfl
theorem ml_L_7 : Cond.classLink RL 7 RX6 ∈ gT := sg1 (List.mem_of_getElem? (i := 20) rfl) rfl
theorem mq_X6 : Cond.instantiable RX6 8 ∈ gT := sg1 (List.mem_of_getElem? (i := 21) rfl) rfl
theorem mm_L_9 : Cond.methodLink RL 9 yX6_init ∈ gT := sg1 (List.mem_of_getElem? (i := 22) rfl) rfl
theorem mi_X6_init : Cond.instanceMethod yX6_init ∈ gT := sg1 (List.mem_of_getElem? (i := 23) rfl) rfl
theorem mc_X6_init : Cond.code yX6_init cX6_init 1 none ∈ gT := sg1 (List.mem_of_getElem? (i := 24) rfl) rfl
theorem mm_X6_3 : Cond.methodLink RX6 3 Lib.objectInit ∈ gT := sg1 (List.mem_of_getElem? (i := 25) rfl) rfl
theorem mi_objectInit : Cond.instanceMethod Lib.objectInit ∈ gT := sg1 (List.mem_of_getElem? (i := 26) rfl) rfl
theorem mc_objectInit : Cond.code Lib.objectInit object_method_1_code 1 none ∈ gT := sg1 (List.mem_of_getElem? (i := 27) rfl) rfl
theorem ml_X6_9 : Cond.classLink RX6 9 RX5 ∈ gT := sg1 (List.mem_of_getElem? (i := 28) rfl) rfl
theorem mq_X5 : Cond.instantiable RX5 5 ∈ gT := sg1 (List.mem_of_getElem? (i := 29) rfl) rfl
theorem mm_X6_11 : Cond.methodLink RX6 11 yX5_init ∈ gT := sg1 (List.mem_of_getElem? (i := 30) rfl) rfl
theorem mi_X5_init : Cond.instanceMethod yX5_init ∈ gT := sg1 (List.mem_of_getElem? (i := 31) rfl) rfl
theorem mc_X5_init : Cond.code yX5_init cX5_init 1 none ∈ gT := sg1 (List.mem_of_getElem? (i := 32) rfl) rfl
theorem mm_X5_3 : Cond.methodLink RX5 3 Lib.objectInit ∈ gT := sg1 (List.mem_of_getElem? (i := 33) rfl) rfl
theorem mm_X5_18 : Cond.methodLink RX5 18 yX5_replace ∈ gT := sg1 (List.mem_of_getElem? (i := 34) rfl) rfl
theorem mi_X5_replace : Cond.instanceMethod yX5_replace ∈ gT := sg1 (List.mem_of_getElem? (i := 35) rfl) rfl
theorem ms_X5_replace : Cond.selects RX5 yX5_replace yX5_replace ∈ gT := sg1 (List.mem_of_getElem? (i := 36) rfl) rfl
theorem mc_X5_replace : Cond.code yX5_replace cX5_replace 4 none ∈ gT := sg1 (List.mem_of_getElem? (i := 37) rfl) rfl
theorem mf_X5_9 : Cond.fieldLink RX5 9 "AdaptivePlayer$Video" "bitrates" "[I" ∈ gT := sg1 (List.mem_of_getElem? (i := 38) rfl) rfl
theorem mf_X5_15 : Cond.fieldLink RX5 15 "AdaptivePlayer$Video" "variations" "[I" ∈ gT := sg1 (List.mem_of_getElem? (i := 39) rfl) rfl
theorem mf_X5_22 : Cond.fieldLink RX5 22 "AdaptivePlayer$Video" "segmentCount" "I" ∈ gT := sg1 (List.mem_of_getElem? (i := 40) rfl) rfl
theorem mf_X2_138 : Cond.fieldLink RX2 138 "AdaptivePlayer$Video" "segmentCount" "I" ∈ gT := sg1 (List.mem_of_getElem? (i := 41) rfl) rfl
theorem mf_X5_26 : Cond.fieldLink RX5 26 "AdaptivePlayer$Video" "duration" "I" ∈ gT := sg1 (List.mem_of_getElem? (i := 42) rfl) rfl
theorem mf_X2_86 : Cond.fieldLink RX2 86 "AdaptivePlayer$Video" "duration" "I" ∈ gT := sg1 (List.mem_of_getElem? (i := 43) rfl) rfl
theorem mf_X5_29 : Cond.fieldLink RX5 29 "AdaptivePlayer$Video" "levelCount" "I" ∈ gT := sg1 (List.mem_of_getElem? (i := 44) rfl) rfl
theorem mf_X6_71 : Cond.fieldLink RX6 71 "AdaptivePlayer$Video" "levelCount" "I" ∈ gT := sg1 (List.mem_of_getElem? (i := 45) rfl) rfl
theorem mf_X2_171 : Cond.fieldLink RX2 171 "AdaptivePlayer$Video" "levelCount" "I" ∈ gT := sg1 (List.mem_of_getElem? (i := 46) rfl) rfl
theorem ma_int : Cond.arrayClass .int ∈ gT := sg1 (List.mem_of_getElem? (i := 58) rfl) rfl
theorem ml_X6_16 : Cond.classLink RX6 16 RX0 ∈ gT := sg1 (List.mem_of_getElem? (i := 59) rfl) rfl
theorem mq_X0 : Cond.instantiable RX0 3 ∈ gT := sg1 (List.mem_of_getElem? (i := 60) rfl) rfl
theorem mi_X0_init : Cond.instanceMethod yX0_init ∈ gT := sg1 (List.mem_of_getElem? (i := 62) rfl) rfl
theorem mc_X0_init : Cond.code yX0_init cX0_init 1 none ∈ gT := sg1 (List.mem_of_getElem? (i := 63) rfl) rfl
theorem mm_X0_3 : Cond.methodLink RX0 3 Lib.objectInit ∈ gT := sg1 (List.mem_of_getElem? (i := 64) rfl) rfl
theorem mf_X0_9 : Cond.fieldLink RX0 9 "AdaptivePlayer$Connection" "ends" "[I" ∈ gT := sg1 (List.mem_of_getElem? (i := 65) rfl) rfl
theorem mf_X0_15 : Cond.fieldLink RX0 15 "AdaptivePlayer$Connection" "rates" "[I" ∈ gT := sg1 (List.mem_of_getElem? (i := 66) rfl) rfl
theorem mf_X0_18 : Cond.fieldLink RX0 18 "AdaptivePlayer$Connection" "periodCount" "I" ∈ gT := sg1 (List.mem_of_getElem? (i := 67) rfl) rfl
theorem mf_X6_90 : Cond.fieldLink RX6 90 "AdaptivePlayer$Connection" "periodCount" "I" ∈ gT := sg1 (List.mem_of_getElem? (i := 68) rfl) rfl
theorem ml_X6_23 : Cond.classLink RX6 23 RX3 ∈ gT := sg1 (List.mem_of_getElem? (i := 76) rfl) rfl
theorem mq_X3 : Cond.instantiable RX3 5 ∈ gT := sg1 (List.mem_of_getElem? (i := 77) rfl) rfl
theorem mi_X3_init : Cond.instanceMethod yX3_init ∈ gT := sg1 (List.mem_of_getElem? (i := 79) rfl) rfl
theorem mc_X3_init : Cond.code yX3_init cX3_init 1 none ∈ gT := sg1 (List.mem_of_getElem? (i := 80) rfl) rfl
theorem mm_X3_1 : Cond.methodLink RX3 1 Lib.objectInit ∈ gT := sg1 (List.mem_of_getElem? (i := 81) rfl) rfl
theorem mf_X3_7 : Cond.fieldLink RX3 7 "AdaptivePlayer$Settings" "maximumBuffer" "I" ∈ gT := sg1 (List.mem_of_getElem? (i := 82) rfl) rfl
theorem mf_X2_144 : Cond.fieldLink RX2 144 "AdaptivePlayer$Settings" "maximumBuffer" "I" ∈ gT := sg1 (List.mem_of_getElem? (i := 83) rfl) rfl
theorem mf_X3_13 : Cond.fieldLink RX3 13 "AdaptivePlayer$Settings" "threshold" "I" ∈ gT := sg1 (List.mem_of_getElem? (i := 84) rfl) rfl
theorem mf_X2_168 : Cond.fieldLink RX2 168 "AdaptivePlayer$Settings" "threshold" "I" ∈ gT := sg1 (List.mem_of_getElem? (i := 85) rfl) rfl
theorem mf_X3_16 : Cond.fieldLink RX3 16 "AdaptivePlayer$Settings" "safety" "I" ∈ gT := sg1 (List.mem_of_getElem? (i := 86) rfl) rfl
theorem mf_X2_191 : Cond.fieldLink RX2 191 "AdaptivePlayer$Settings" "safety" "I" ∈ gT := sg1 (List.mem_of_getElem? (i := 87) rfl) rfl
theorem mf_X3_19 : Cond.fieldLink RX3 19 "AdaptivePlayer$Settings" "reservoir" "I" ∈ gT := sg1 (List.mem_of_getElem? (i := 88) rfl) rfl
theorem mf_X2_197 : Cond.fieldLink RX2 197 "AdaptivePlayer$Settings" "reservoir" "I" ∈ gT := sg1 (List.mem_of_getElem? (i := 89) rfl) rfl
theorem mf_X3_22 : Cond.fieldLink RX3 22 "AdaptivePlayer$Settings" "cushion" "I" ∈ gT := sg1 (List.mem_of_getElem? (i := 90) rfl) rfl
theorem mf_X2_200 : Cond.fieldLink RX2 200 "AdaptivePlayer$Settings" "cushion" "I" ∈ gT := sg1 (List.mem_of_getElem? (i := 91) rfl) rfl
theorem ml_X6_30 : Cond.classLink RX6 30 RX2 ∈ gT := sg1 (List.mem_of_getElem? (i := 103) rfl) rfl
theorem mq_X2 : Cond.instantiable RX2 18 ∈ gT := sg1 (List.mem_of_getElem? (i := 104) rfl) rfl
theorem mm_X6_32 : Cond.methodLink RX6 32 yX2_init ∈ gT := sg1 (List.mem_of_getElem? (i := 105) rfl) rfl
theorem mi_X2_init : Cond.instanceMethod yX2_init ∈ gT := sg1 (List.mem_of_getElem? (i := 106) rfl) rfl
theorem mc_X2_init : Cond.code yX2_init cX2_init 4 none ∈ gT := sg1 (List.mem_of_getElem? (i := 107) rfl) rfl
theorem mm_X2_3 : Cond.methodLink RX2 3 Lib.objectInit ∈ gT := sg1 (List.mem_of_getElem? (i := 108) rfl) rfl
theorem ml_X2_15 : Cond.classLink RX2 15 RX4 ∈ gT := sg1 (List.mem_of_getElem? (i := 109) rfl) rfl
theorem mq_X4 : Cond.instantiable RX4 2 ∈ gT := sg1 (List.mem_of_getElem? (i := 110) rfl) rfl
theorem mi_X4_init : Cond.instanceMethod yX4_init ∈ gT := sg1 (List.mem_of_getElem? (i := 112) rfl) rfl
theorem mc_X4_init : Cond.code yX4_init cX4_init 1 none ∈ gT := sg1 (List.mem_of_getElem? (i := 113) rfl) rfl
theorem mm_X4_3 : Cond.methodLink RX4 3 Lib.objectInit ∈ gT := sg1 (List.mem_of_getElem? (i := 114) rfl) rfl
theorem mf_X4_9 : Cond.fieldLink RX4 9 "AdaptivePlayer$Throughputs" "latest" "[I" ∈ gT := sg1 (List.mem_of_getElem? (i := 115) rfl) rfl
theorem mf_X4_15 : Cond.fieldLink RX4 15 "AdaptivePlayer$Throughputs" "count" "I" ∈ gT := sg1 (List.mem_of_getElem? (i := 116) rfl) rfl
theorem ml_X2_22 : Cond.classLink RX2 22 RX1 ∈ gT := sg1 (List.mem_of_getElem? (i := 122) rfl) rfl
theorem mq_X1 : Cond.instantiable RX1 5 ∈ gT := sg1 (List.mem_of_getElem? (i := 123) rfl) rfl
theorem mi_X1_init : Cond.instanceMethod yX1_init ∈ gT := sg1 (List.mem_of_getElem? (i := 125) rfl) rfl
theorem mc_X1_init : Cond.code yX1_init cX1_init 1 none ∈ gT := sg1 (List.mem_of_getElem? (i := 126) rfl) rfl
theorem mm_X1_1 : Cond.methodLink RX1 1 Lib.objectInit ∈ gT := sg1 (List.mem_of_getElem? (i := 127) rfl) rfl
theorem mf_X1_7 : Cond.fieldLink RX1 7 "AdaptivePlayer$Download" "running" "Z" ∈ gT := sg1 (List.mem_of_getElem? (i := 128) rfl) rfl
theorem mf_X2_117 : Cond.fieldLink RX2 117 "AdaptivePlayer$Download" "running" "Z" ∈ gT := sg1 (List.mem_of_getElem? (i := 129) rfl) rfl
theorem mf_X6_164 : Cond.fieldLink RX6 164 "AdaptivePlayer$Download" "running" "Z" ∈ gT := sg1 (List.mem_of_getElem? (i := 130) rfl) rfl
theorem mf_X1_13 : Cond.fieldLink RX1 13 "AdaptivePlayer$Download" "level" "I" ∈ gT := sg1 (List.mem_of_getElem? (i := 131) rfl) rfl
theorem mf_X2_149 : Cond.fieldLink RX2 149 "AdaptivePlayer$Download" "level" "I" ∈ gT := sg1 (List.mem_of_getElem? (i := 132) rfl) rfl
theorem mf_X1_17 : Cond.fieldLink RX1 17 "AdaptivePlayer$Download" "size" "I" ∈ gT := sg1 (List.mem_of_getElem? (i := 133) rfl) rfl
theorem mf_X1_20 : Cond.fieldLink RX1 20 "AdaptivePlayer$Download" "received" "I" ∈ gT := sg1 (List.mem_of_getElem? (i := 134) rfl) rfl
theorem mf_X1_23 : Cond.fieldLink RX1 23 "AdaptivePlayer$Download" "timeSpent" "I" ∈ gT := sg1 (List.mem_of_getElem? (i := 135) rfl) rfl
theorem mm_X2_41 : Cond.methodLink RX2 41 yX2_begin ∈ gT := sg1 (List.mem_of_getElem? (i := 147) rfl) rfl
theorem mi_X2_begin : Cond.instanceMethod yX2_begin ∈ gT := sg1 (List.mem_of_getElem? (i := 148) rfl) rfl
theorem ms_X2_begin : Cond.selects RX2 yX2_begin yX2_begin ∈ gT := sg1 (List.mem_of_getElem? (i := 149) rfl) rfl
theorem mc_X2_begin : Cond.code yX2_begin cX2_begin 2 none ∈ gT := sg1 (List.mem_of_getElem? (i := 150) rfl) rfl
theorem mm_X2_44 : Cond.methodLink RX2 44 yX2_moveTo ∈ gT := sg1 (List.mem_of_getElem? (i := 151) rfl) rfl
theorem mi_X2_moveTo : Cond.instanceMethod yX2_moveTo ∈ gT := sg1 (List.mem_of_getElem? (i := 152) rfl) rfl
theorem ms_X2_moveTo : Cond.selects RX2 yX2_moveTo yX2_moveTo ∈ gT := sg1 (List.mem_of_getElem? (i := 153) rfl) rfl
theorem mc_X2_moveTo : Cond.code yX2_moveTo cX2_moveTo 2 none ∈ gT := sg1 (List.mem_of_getElem? (i := 154) rfl) rfl
theorem mm_X2_74 : Cond.methodLink RX2 74 yX1_stop ∈ gT := sg1 (List.mem_of_getElem? (i := 155) rfl) rfl
theorem mi_X1_stop : Cond.instanceMethod yX1_stop ∈ gT := sg1 (List.mem_of_getElem? (i := 156) rfl) rfl
theorem ms_X1_stop : Cond.selects RX1 yX1_stop yX1_stop ∈ gT := sg1 (List.mem_of_getElem? (i := 157) rfl) rfl
theorem mc_X1_stop : Cond.code yX1_stop cX1_stop 1 none ∈ gT := sg1 (List.mem_of_getElem? (i := 158) rfl) rfl
theorem mm_X2_77 : Cond.methodLink RX2 77 yX4_forget ∈ gT := sg1 (List.mem_of_getElem? (i := 159) rfl) rfl
theorem mi_X4_forget : Cond.instanceMethod yX4_forget ∈ gT := sg1 (List.mem_of_getElem? (i := 160) rfl) rfl
theorem ms_X4_forget : Cond.selects RX4 yX4_forget yX4_forget ∈ gT := sg1 (List.mem_of_getElem? (i := 161) rfl) rfl
theorem mc_X4_forget : Cond.code yX4_forget cX4_forget 1 none ∈ gT := sg1 (List.mem_of_getElem? (i := 162) rfl) rfl
theorem mf_X2_29 : Cond.fieldLink RX2 29 "AdaptivePlayer$Session" "video" "LAdaptivePlayer$Video;" ∈ gT := sg1 (List.mem_of_getElem? (i := 163) rfl) rfl
theorem mf_X2_33 : Cond.fieldLink RX2 33 "AdaptivePlayer$Session" "connection" "LAdaptivePlayer$Connection;" ∈ gT := sg1 (List.mem_of_getElem? (i := 164) rfl) rfl
theorem mf_X2_37 : Cond.fieldLink RX2 37 "AdaptivePlayer$Session" "settings" "LAdaptivePlayer$Settings;" ∈ gT := sg1 (List.mem_of_getElem? (i := 165) rfl) rfl
theorem mf_X2_9 : Cond.fieldLink RX2 9 "AdaptivePlayer$Session" "completedLevels" "[I" ∈ gT := sg1 (List.mem_of_getElem? (i := 166) rfl) rfl
theorem mf_X2_18 : Cond.fieldLink RX2 18 "AdaptivePlayer$Session" "throughputs" "LAdaptivePlayer$Throughputs;" ∈ gT := sg1 (List.mem_of_getElem? (i := 167) rfl) rfl
theorem mf_X6_175 : Cond.fieldLink RX6 175 "AdaptivePlayer$Session" "throughputs" "LAdaptivePlayer$Throughputs;" ∈ gT := sg1 (List.mem_of_getElem? (i := 168) rfl) rfl
theorem mf_X2_25 : Cond.fieldLink RX2 25 "AdaptivePlayer$Session" "download" "LAdaptivePlayer$Download;" ∈ gT := sg1 (List.mem_of_getElem? (i := 169) rfl) rfl
theorem mf_X6_160 : Cond.fieldLink RX6 160 "AdaptivePlayer$Session" "download" "LAdaptivePlayer$Download;" ∈ gT := sg1 (List.mem_of_getElem? (i := 170) rfl) rfl
theorem mf_X2_48 : Cond.fieldLink RX2 48 "AdaptivePlayer$Session" "paused" "Z" ∈ gT := sg1 (List.mem_of_getElem? (i := 171) rfl) rfl
theorem mf_X6_156 : Cond.fieldLink RX6 156 "AdaptivePlayer$Session" "paused" "Z" ∈ gT := sg1 (List.mem_of_getElem? (i := 172) rfl) rfl
theorem mf_X2_52 : Cond.fieldLink RX2 52 "AdaptivePlayer$Session" "time" "I" ∈ gT := sg1 (List.mem_of_getElem? (i := 173) rfl) rfl
theorem mf_X6_141 : Cond.fieldLink RX6 141 "AdaptivePlayer$Session" "time" "I" ∈ gT := sg1 (List.mem_of_getElem? (i := 174) rfl) rfl
theorem mf_X2_91 : Cond.fieldLink RX2 91 "AdaptivePlayer$Session" "position" "I" ∈ gT := sg1 (List.mem_of_getElem? (i := 175) rfl) rfl
theorem mf_X6_147 : Cond.fieldLink RX6 147 "AdaptivePlayer$Session" "position" "I" ∈ gT := sg1 (List.mem_of_getElem? (i := 176) rfl) rfl
theorem mf_X2_80 : Cond.fieldLink RX2 80 "AdaptivePlayer$Session" "buffer" "I" ∈ gT := sg1 (List.mem_of_getElem? (i := 177) rfl) rfl
theorem mf_X6_150 : Cond.fieldLink RX6 150 "AdaptivePlayer$Session" "buffer" "I" ∈ gT := sg1 (List.mem_of_getElem? (i := 178) rfl) rfl
theorem mf_X2_94 : Cond.fieldLink RX2 94 "AdaptivePlayer$Session" "state" "I" ∈ gT := sg1 (List.mem_of_getElem? (i := 179) rfl) rfl
theorem mf_X6_153 : Cond.fieldLink RX6 153 "AdaptivePlayer$Session" "state" "I" ∈ gT := sg1 (List.mem_of_getElem? (i := 180) rfl) rfl
theorem mf_X2_83 : Cond.fieldLink RX2 83 "AdaptivePlayer$Session" "nextSegment" "I" ∈ gT := sg1 (List.mem_of_getElem? (i := 181) rfl) rfl
theorem mf_X6_169 : Cond.fieldLink RX6 169 "AdaptivePlayer$Session" "nextSegment" "I" ∈ gT := sg1 (List.mem_of_getElem? (i := 182) rfl) rfl
theorem mf_X2_56 : Cond.fieldLink RX2 56 "AdaptivePlayer$Session" "switchCount" "I" ∈ gT := sg1 (List.mem_of_getElem? (i := 183) rfl) rfl
theorem mf_X6_184 : Cond.fieldLink RX6 184 "AdaptivePlayer$Session" "switchCount" "I" ∈ gT := sg1 (List.mem_of_getElem? (i := 184) rfl) rfl
theorem mf_X2_59 : Cond.fieldLink RX2 59 "AdaptivePlayer$Session" "stallCount" "I" ∈ gT := sg1 (List.mem_of_getElem? (i := 185) rfl) rfl
theorem mf_X6_187 : Cond.fieldLink RX6 187 "AdaptivePlayer$Session" "stallCount" "I" ∈ gT := sg1 (List.mem_of_getElem? (i := 186) rfl) rfl
theorem mf_X2_62 : Cond.fieldLink RX2 62 "AdaptivePlayer$Session" "stallTime" "I" ∈ gT := sg1 (List.mem_of_getElem? (i := 187) rfl) rfl
theorem mf_X6_190 : Cond.fieldLink RX6 190 "AdaptivePlayer$Session" "stallTime" "I" ∈ gT := sg1 (List.mem_of_getElem? (i := 188) rfl) rfl
theorem mf_X2_65 : Cond.fieldLink RX2 65 "AdaptivePlayer$Session" "startupTime" "I" ∈ gT := sg1 (List.mem_of_getElem? (i := 189) rfl) rfl
theorem mf_X6_193 : Cond.fieldLink RX6 193 "AdaptivePlayer$Session" "startupTime" "I" ∈ gT := sg1 (List.mem_of_getElem? (i := 190) rfl) rfl
theorem mf_X2_68 : Cond.fieldLink RX2 68 "AdaptivePlayer$Session" "bitrateSum" "I" ∈ gT := sg1 (List.mem_of_getElem? (i := 191) rfl) rfl
theorem mf_X6_196 : Cond.fieldLink RX6 196 "AdaptivePlayer$Session" "bitrateSum" "I" ∈ gT := sg1 (List.mem_of_getElem? (i := 192) rfl) rfl
theorem mf_X2_71 : Cond.fieldLink RX2 71 "AdaptivePlayer$Session" "latestLevel" "I" ∈ gT := sg1 (List.mem_of_getElem? (i := 193) rfl) rfl
theorem ml_X6_42 : Cond.classLink RX6 42 RJ4 ∈ gT := sg1 (List.mem_of_getElem? (i := 231) rfl) rfl
theorem mq_J4 : Cond.instantiable RJ4 4 ∈ gT := sg1 (List.mem_of_getElem? (i := 232) rfl) rfl
theorem mm_X6_44 : Cond.methodLink RX6 44 yJ4_init_da8c8 ∈ gT := sg1 (List.mem_of_getElem? (i := 233) rfl) rfl
theorem mi_J4_init_da8c8 : Cond.instanceMethod yJ4_init_da8c8 ∈ gT := sg1 (List.mem_of_getElem? (i := 234) rfl) rfl
theorem mc_J4_init_da8c8 : Cond.code yJ4_init_da8c8 cJ4_init_da8c8 1 none ∈ gT := sg1 (List.mem_of_getElem? (i := 235) rfl) rfl
theorem mm_J4_1 : Cond.methodLink RJ4 1 yJ5_init_d00df ∈ gT := sg1 (List.mem_of_getElem? (i := 236) rfl) rfl
theorem mi_J5_init_d00df : Cond.instanceMethod yJ5_init_d00df ∈ gT := sg1 (List.mem_of_getElem? (i := 237) rfl) rfl
theorem mc_J5_init_d00df : Cond.code yJ5_init_d00df cJ5_init_d00df 2 none ∈ gT := sg1 (List.mem_of_getElem? (i := 238) rfl) rfl
theorem mm_J5_3 : Cond.methodLink RJ5 3 Lib.objectInit ∈ gT := sg1 (List.mem_of_getElem? (i := 239) rfl) rfl
theorem mf_J5_18 : Cond.fieldLink RJ5 18 "java/lang/String" "COMPACT_STRINGS" "Z" ∈ gT := sg2 (List.mem_of_getElem? (i := 0) rfl) rfl
theorem mm_J5_26 : Cond.methodLink RJ5 26 yJ2_newBytesFor_77867 ∈ gT := sg2 (List.mem_of_getElem? (i := 2) rfl) rfl
theorem mt_J2_newBytesFor_77867 : Cond.static yJ2_newBytesFor_77867 ∈ gT := sg2 (List.mem_of_getElem? (i := 3) rfl) rfl
theorem mc_J2_newBytesFor_77867 : Cond.code yJ2_newBytesFor_77867 cJ2_newBytesFor_77867 1 (some (.array .byte)) ∈ gT := sg2 (List.mem_of_getElem? (i := 4) rfl) rfl
theorem mm_J2_11 : Cond.methodLink RJ2 11 yJ2_newBytesLength_0f7a4 ∈ gT := sg2 (List.mem_of_getElem? (i := 5) rfl) rfl
theorem mt_J2_newBytesLength_0f7a4 : Cond.static yJ2_newBytesLength_0f7a4 ∈ gT := sg2 (List.mem_of_getElem? (i := 6) rfl) rfl
theorem mc_J2_newBytesLength_0f7a4 : Cond.code yJ2_newBytesLength_0f7a4 cJ2_newBytesLength_0f7a4 1 (some .int) ∈ gT := sg2 (List.mem_of_getElem? (i := 7) rfl) rfl
theorem mk_J2_20 : Cond.constant RJ2 20 (1073741823) ∈ gT := sg2 (List.mem_of_getElem? (i := 8) rfl) rfl
theorem mf_J5_15 : Cond.fieldLink RJ5 15 "java/lang/AbstractStringBuilder" "value" "[B" ∈ gT := sg2 (List.mem_of_getElem? (i := 9) rfl) rfl
theorem mf_J5_22 : Cond.fieldLink RJ5 22 "java/lang/AbstractStringBuilder" "coder" "B" ∈ gT := sg2 (List.mem_of_getElem? (i := 10) rfl) rfl
theorem mf_J5_73 : Cond.fieldLink RJ5 73 "java/lang/AbstractStringBuilder" "maybeLatin1" "Z" ∈ gT := sg2 (List.mem_of_getElem? (i := 11) rfl) rfl
theorem mf_J0_1048 : Cond.fieldLink RJ0 1048 "java/lang/AbstractStringBuilder" "maybeLatin1" "Z" ∈ gT := sg2 (List.mem_of_getElem? (i := 12) rfl) rfl
theorem mf_J5_79 : Cond.fieldLink RJ5 79 "java/lang/AbstractStringBuilder" "count" "I" ∈ gT := sg2 (List.mem_of_getElem? (i := 13) rfl) rfl
theorem ma_byte : Cond.arrayClass .byte ∈ gT := sg2 (List.mem_of_getElem? (i := 23) rfl) rfl
theorem mf_X6_12 : Cond.fieldLink RX6 12 "AdaptivePlayer" "video" "LAdaptivePlayer$Video;" ∈ gT := sg2 (List.mem_of_getElem? (i := 24) rfl) rfl
theorem mf_X6_19 : Cond.fieldLink RX6 19 "AdaptivePlayer" "connection" "LAdaptivePlayer$Connection;" ∈ gT := sg2 (List.mem_of_getElem? (i := 25) rfl) rfl
theorem mf_X6_26 : Cond.fieldLink RX6 26 "AdaptivePlayer" "settings" "LAdaptivePlayer$Settings;" ∈ gT := sg2 (List.mem_of_getElem? (i := 26) rfl) rfl
theorem mf_X6_35 : Cond.fieldLink RX6 35 "AdaptivePlayer" "session" "LAdaptivePlayer$Session;" ∈ gT := sg2 (List.mem_of_getElem? (i := 27) rfl) rfl
theorem mf_X6_39 : Cond.fieldLink RX6 39 "AdaptivePlayer" "whatIf" "LAdaptivePlayer$Session;" ∈ gT := sg2 (List.mem_of_getElem? (i := 28) rfl) rfl
theorem mf_X6_45 : Cond.fieldLink RX6 45 "AdaptivePlayer" "commandLine" "Ljava/lang/StringBuilder;" ∈ gT := sg2 (List.mem_of_getElem? (i := 29) rfl) rfl
theorem mf_X6_49 : Cond.fieldLink RX6 49 "AdaptivePlayer" "policy" "I" ∈ gT := sg2 (List.mem_of_getElem? (i := 30) rfl) rfl
theorem mf_X6_53 : Cond.fieldLink RX6 53 "AdaptivePlayer" "cap" "I" ∈ gT := sg2 (List.mem_of_getElem? (i := 31) rfl) rfl
theorem mm_L_13 : Cond.methodLink RL 13 yX6_setVideo ∈ gT := sg2 (List.mem_of_getElem? (i := 49) rfl) rfl
theorem mi_X6_setVideo : Cond.instanceMethod yX6_setVideo ∈ gT := sg2 (List.mem_of_getElem? (i := 50) rfl) rfl
theorem ms_X6_setVideo : Cond.selects RX6 yX6_setVideo yX6_setVideo ∈ gT := sg2 (List.mem_of_getElem? (i := 51) rfl) rfl
theorem mc_X6_setVideo : Cond.code yX6_setVideo cX6_setVideo 3 (some .int) ∈ gT := sg2 (List.mem_of_getElem? (i := 52) rfl) rfl
theorem mm_X6_56 : Cond.methodLink RX6 56 yX6_isWithin ∈ gT := sg2 (List.mem_of_getElem? (i := 53) rfl) rfl
theorem mt_X6_isWithin : Cond.static yX6_isWithin ∈ gT := sg2 (List.mem_of_getElem? (i := 54) rfl) rfl
theorem mc_X6_isWithin : Cond.code yX6_isWithin cX6_isWithin 3 (some .boolean) ∈ gT := sg2 (List.mem_of_getElem? (i := 55) rfl) rfl
theorem mm_X6_60 : Cond.methodLink RX6 60 yX5_replace ∈ gT := sg2 (List.mem_of_getElem? (i := 56) rfl) rfl
theorem mm_X6_64 : Cond.methodLink RX6 64 yX2_begin ∈ gT := sg2 (List.mem_of_getElem? (i := 57) rfl) rfl
theorem mm_L_18 : Cond.methodLink RL 18 yX6_addLevel ∈ gT := sg2 (List.mem_of_getElem? (i := 58) rfl) rfl
theorem mi_X6_addLevel : Cond.instanceMethod yX6_addLevel ∈ gT := sg2 (List.mem_of_getElem? (i := 59) rfl) rfl
theorem ms_X6_addLevel : Cond.selects RX6 yX6_addLevel yX6_addLevel ∈ gT := sg2 (List.mem_of_getElem? (i := 60) rfl) rfl
theorem mc_X6_addLevel : Cond.code yX6_addLevel cX6_addLevel 2 (some .int) ∈ gT := sg2 (List.mem_of_getElem? (i := 61) rfl) rfl
theorem mm_X6_67 : Cond.methodLink RX6 67 yX5_highestBitrate ∈ gT := sg2 (List.mem_of_getElem? (i := 62) rfl) rfl
theorem mi_X5_highestBitrate : Cond.instanceMethod yX5_highestBitrate ∈ gT := sg2 (List.mem_of_getElem? (i := 63) rfl) rfl
theorem ms_X5_highestBitrate : Cond.selects RX5 yX5_highestBitrate yX5_highestBitrate ∈ gT := sg2 (List.mem_of_getElem? (i := 64) rfl) rfl
theorem mc_X5_highestBitrate : Cond.code yX5_highestBitrate cX5_highestBitrate 1 (some .int) ∈ gT := sg2 (List.mem_of_getElem? (i := 65) rfl) rfl
theorem mm_X5_36 : Cond.methodLink RX5 36 yX5_bitrateOf ∈ gT := sg2 (List.mem_of_getElem? (i := 66) rfl) rfl
theorem mi_X5_bitrateOf : Cond.instanceMethod yX5_bitrateOf ∈ gT := sg2 (List.mem_of_getElem? (i := 67) rfl) rfl
theorem ms_X5_bitrateOf : Cond.selects RX5 yX5_bitrateOf yX5_bitrateOf ∈ gT := sg2 (List.mem_of_getElem? (i := 68) rfl) rfl
theorem mc_X5_bitrateOf : Cond.code yX5_bitrateOf cX5_bitrateOf 2 (some .int) ∈ gT := sg2 (List.mem_of_getElem? (i := 69) rfl) rfl
theorem mm_X5_32 : Cond.methodLink RX5 32 yX5_hasLevel ∈ gT := sg2 (List.mem_of_getElem? (i := 70) rfl) rfl
theorem mi_X5_hasLevel : Cond.instanceMethod yX5_hasLevel ∈ gT := sg2 (List.mem_of_getElem? (i := 71) rfl) rfl
theorem ms_X5_hasLevel : Cond.selects RX5 yX5_hasLevel yX5_hasLevel ∈ gT := sg2 (List.mem_of_getElem? (i := 72) rfl) rfl
theorem mc_X5_hasLevel : Cond.code yX5_hasLevel cX5_hasLevel 2 (some .boolean) ∈ gT := sg2 (List.mem_of_getElem? (i := 73) rfl) rfl
theorem mm_X6_74 : Cond.methodLink RX6 74 yX5_appendLevel ∈ gT := sg2 (List.mem_of_getElem? (i := 74) rfl) rfl
theorem mi_X5_appendLevel : Cond.instanceMethod yX5_appendLevel ∈ gT := sg2 (List.mem_of_getElem? (i := 75) rfl) rfl
theorem ms_X5_appendLevel : Cond.selects RX5 yX5_appendLevel yX5_appendLevel ∈ gT := sg2 (List.mem_of_getElem? (i := 76) rfl) rfl
theorem mc_X5_appendLevel : Cond.code yX5_appendLevel cX5_appendLevel 2 none ∈ gT := sg2 (List.mem_of_getElem? (i := 77) rfl) rfl
theorem mm_L_23 : Cond.methodLink RL 23 yX6_setVariation ∈ gT := sg2 (List.mem_of_getElem? (i := 78) rfl) rfl
theorem mi_X6_setVariation : Cond.instanceMethod yX6_setVariation ∈ gT := sg2 (List.mem_of_getElem? (i := 79) rfl) rfl
theorem ms_X6_setVariation : Cond.selects RX6 yX6_setVariation yX6_setVariation ∈ gT := sg2 (List.mem_of_getElem? (i := 80) rfl) rfl
theorem mc_X6_setVariation : Cond.code yX6_setVariation cX6_setVariation 4 (some .int) ∈ gT := sg2 (List.mem_of_getElem? (i := 81) rfl) rfl
theorem mm_X6_78 : Cond.methodLink RX6 78 yX5_hasSegment ∈ gT := sg2 (List.mem_of_getElem? (i := 82) rfl) rfl
theorem mi_X5_hasSegment : Cond.instanceMethod yX5_hasSegment ∈ gT := sg2 (List.mem_of_getElem? (i := 83) rfl) rfl
theorem ms_X5_hasSegment : Cond.selects RX5 yX5_hasSegment yX5_hasSegment ∈ gT := sg2 (List.mem_of_getElem? (i := 84) rfl) rfl
theorem mc_X5_hasSegment : Cond.code yX5_hasSegment cX5_hasSegment 2 (some .boolean) ∈ gT := sg2 (List.mem_of_getElem? (i := 85) rfl) rfl
theorem mm_X6_82 : Cond.methodLink RX6 82 yX5_variationOf ∈ gT := sg2 (List.mem_of_getElem? (i := 86) rfl) rfl
theorem mi_X5_variationOf : Cond.instanceMethod yX5_variationOf ∈ gT := sg2 (List.mem_of_getElem? (i := 87) rfl) rfl
theorem ms_X5_variationOf : Cond.selects RX5 yX5_variationOf yX5_variationOf ∈ gT := sg2 (List.mem_of_getElem? (i := 88) rfl) rfl
theorem mc_X5_variationOf : Cond.code yX5_variationOf cX5_variationOf 2 (some .int) ∈ gT := sg2 (List.mem_of_getElem? (i := 89) rfl) rfl
theorem mm_X5_46 : Cond.methodLink RX5 46 yX5_hasSegment ∈ gT := sg2 (List.mem_of_getElem? (i := 90) rfl) rfl
theorem mm_X6_86 : Cond.methodLink RX6 86 yX5_changeVariation ∈ gT := sg2 (List.mem_of_getElem? (i := 91) rfl) rfl
theorem mi_X5_changeVariation : Cond.instanceMethod yX5_changeVariation ∈ gT := sg2 (List.mem_of_getElem? (i := 92) rfl) rfl
theorem ms_X5_changeVariation : Cond.selects RX5 yX5_changeVariation yX5_changeVariation ∈ gT := sg2 (List.mem_of_getElem? (i := 93) rfl) rfl
theorem mc_X5_changeVariation : Cond.code yX5_changeVariation cX5_changeVariation 3 none ∈ gT := sg2 (List.mem_of_getElem? (i := 94) rfl) rfl
theorem mm_L_27 : Cond.methodLink RL 27 yX6_addPeriod ∈ gT := sg2 (List.mem_of_getElem? (i := 95) rfl) rfl
theorem mi_X6_addPeriod : Cond.instanceMethod yX6_addPeriod ∈ gT := sg2 (List.mem_of_getElem? (i := 96) rfl) rfl
theorem ms_X6_addPeriod : Cond.selects RX6 yX6_addPeriod yX6_addPeriod ∈ gT := sg2 (List.mem_of_getElem? (i := 97) rfl) rfl
theorem mc_X6_addPeriod : Cond.code yX6_addPeriod cX6_addPeriod 3 (some .int) ∈ gT := sg2 (List.mem_of_getElem? (i := 98) rfl) rfl
theorem mk_X6_89 : Cond.constant RX6 89 (60000) ∈ gT := sg2 (List.mem_of_getElem? (i := 99) rfl) rfl
theorem mm_X6_93 : Cond.methodLink RX6 93 yX0_appendPeriod ∈ gT := sg2 (List.mem_of_getElem? (i := 100) rfl) rfl
theorem mi_X0_appendPeriod : Cond.instanceMethod yX0_appendPeriod ∈ gT := sg2 (List.mem_of_getElem? (i := 101) rfl) rfl
theorem ms_X0_appendPeriod : Cond.selects RX0 yX0_appendPeriod yX0_appendPeriod ∈ gT := sg2 (List.mem_of_getElem? (i := 102) rfl) rfl
theorem mc_X0_appendPeriod : Cond.code yX0_appendPeriod cX0_appendPeriod 4 none ∈ gT := sg2 (List.mem_of_getElem? (i := 103) rfl) rfl
theorem mm_L_31 : Cond.methodLink RL 31 yX6_setBuffer ∈ gT := sg2 (List.mem_of_getElem? (i := 104) rfl) rfl
theorem mi_X6_setBuffer : Cond.instanceMethod yX6_setBuffer ∈ gT := sg2 (List.mem_of_getElem? (i := 105) rfl) rfl
theorem ms_X6_setBuffer : Cond.selects RX6 yX6_setBuffer yX6_setBuffer ∈ gT := sg2 (List.mem_of_getElem? (i := 106) rfl) rfl
theorem mc_X6_setBuffer : Cond.code yX6_setBuffer cX6_setBuffer 3 (some .int) ∈ gT := sg2 (List.mem_of_getElem? (i := 107) rfl) rfl
theorem mm_X6_96 : Cond.methodLink RX6 96 yX3_changeBuffer ∈ gT := sg2 (List.mem_of_getElem? (i := 108) rfl) rfl
theorem mi_X3_changeBuffer : Cond.instanceMethod yX3_changeBuffer ∈ gT := sg2 (List.mem_of_getElem? (i := 109) rfl) rfl
theorem ms_X3_changeBuffer : Cond.selects RX3 yX3_changeBuffer yX3_changeBuffer ∈ gT := sg2 (List.mem_of_getElem? (i := 110) rfl) rfl
theorem mc_X3_changeBuffer : Cond.code yX3_changeBuffer cX3_changeBuffer 4 (some .boolean) ∈ gT := sg2 (List.mem_of_getElem? (i := 111) rfl) rfl
theorem mm_X6_100 : Cond.methodLink RX6 100 yX6_oneIf ∈ gT := sg2 (List.mem_of_getElem? (i := 112) rfl) rfl
theorem mt_X6_oneIf : Cond.static yX6_oneIf ∈ gT := sg2 (List.mem_of_getElem? (i := 113) rfl) rfl
theorem mc_X6_oneIf : Cond.code yX6_oneIf cX6_oneIf 1 (some .int) ∈ gT := sg2 (List.mem_of_getElem? (i := 114) rfl) rfl
theorem mm_L_35 : Cond.methodLink RL 35 yX6_setPolicyNumbers ∈ gT := sg2 (List.mem_of_getElem? (i := 115) rfl) rfl
theorem mi_X6_setPolicyNumbers : Cond.instanceMethod yX6_setPolicyNumbers ∈ gT := sg2 (List.mem_of_getElem? (i := 116) rfl) rfl
theorem ms_X6_setPolicyNumbers : Cond.selects RX6 yX6_setPolicyNumbers yX6_setPolicyNumbers ∈ gT := sg2 (List.mem_of_getElem? (i := 117) rfl) rfl
theorem mc_X6_setPolicyNumbers : Cond.code yX6_setPolicyNumbers cX6_setPolicyNumbers 4 (some .int) ∈ gT := sg2 (List.mem_of_getElem? (i := 118) rfl) rfl
theorem mm_X6_104 : Cond.methodLink RX6 104 yX3_changePolicyNumbers ∈ gT := sg2 (List.mem_of_getElem? (i := 119) rfl) rfl
theorem mi_X3_changePolicyNumbers : Cond.instanceMethod yX3_changePolicyNumbers ∈ gT := sg2 (List.mem_of_getElem? (i := 120) rfl) rfl
theorem ms_X3_changePolicyNumbers : Cond.selects RX3 yX3_changePolicyNumbers yX3_changePolicyNumbers ∈ gT := sg2 (List.mem_of_getElem? (i := 121) rfl) rfl
theorem mc_X3_changePolicyNumbers : Cond.code yX3_changePolicyNumbers cX3_changePolicyNumbers 5 (some .boolean) ∈ gT := sg2 (List.mem_of_getElem? (i := 122) rfl) rfl
theorem mm_L_40 : Cond.methodLink RL 40 yX6_typeKey ∈ gT := sg2 (List.mem_of_getElem? (i := 123) rfl) rfl
theorem mi_X6_typeKey : Cond.instanceMethod yX6_typeKey ∈ gT := sg2 (List.mem_of_getElem? (i := 124) rfl) rfl
theorem ms_X6_typeKey : Cond.selects RX6 yX6_typeKey yX6_typeKey ∈ gT := sg2 (List.mem_of_getElem? (i := 125) rfl) rfl
theorem mc_X6_typeKey : Cond.code yX6_typeKey cX6_typeKey 2 (some .int) ∈ gT := sg2 (List.mem_of_getElem? (i := 126) rfl) rfl
theorem mm_X6_107 : Cond.methodLink RX6 107 yJ4_length_8abf5 ∈ gT := sg2 (List.mem_of_getElem? (i := 127) rfl) rfl
theorem mi_J4_length_8abf5 : Cond.instanceMethod yJ4_length_8abf5 ∈ gT := sg2 (List.mem_of_getElem? (i := 128) rfl) rfl
theorem ms_J4_length_8abf5 : Cond.selects RJ4 yJ4_length_8abf5 yJ4_length_8abf5 ∈ gT := sg2 (List.mem_of_getElem? (i := 129) rfl) rfl
theorem mc_J4_length_8abf5 : Cond.code yJ4_length_8abf5 cJ4_length_8abf5 1 (some .int) ∈ gT := sg2 (List.mem_of_getElem? (i := 130) rfl) rfl
theorem mm_J4_343 : Cond.methodLink RJ4 343 yJ5_length_8abf5 ∈ gT := sg2 (List.mem_of_getElem? (i := 131) rfl) rfl
theorem mi_J5_length_8abf5 : Cond.instanceMethod yJ5_length_8abf5 ∈ gT := sg2 (List.mem_of_getElem? (i := 132) rfl) rfl
theorem mc_J5_length_8abf5 : Cond.code yJ5_length_8abf5 cJ5_length_8abf5 1 (some .int) ∈ gT := sg2 (List.mem_of_getElem? (i := 133) rfl) rfl
theorem mm_X6_110 : Cond.methodLink RX6 110 yJ4_append_cf468 ∈ gT := sg2 (List.mem_of_getElem? (i := 134) rfl) rfl
theorem mi_J4_append_cf468 : Cond.instanceMethod yJ4_append_cf468 ∈ gT := sg2 (List.mem_of_getElem? (i := 135) rfl) rfl
theorem ms_J4_append_cf468 : Cond.selects RJ4 yJ4_append_cf468 yJ4_append_cf468 ∈ gT := sg2 (List.mem_of_getElem? (i := 136) rfl) rfl
theorem mc_J4_append_cf468 : Cond.code yJ4_append_cf468 cJ4_append_cf468 2 (some (.object "java/lang/StringBuilder")) ∈ gT := sg2 (List.mem_of_getElem? (i := 137) rfl) rfl
theorem mm_J4_50 : Cond.methodLink RJ4 50 yJ5_append_3fe6f ∈ gT := sg2 (List.mem_of_getElem? (i := 138) rfl) rfl
theorem mi_J5_append_3fe6f : Cond.instanceMethod yJ5_append_3fe6f ∈ gT := sg2 (List.mem_of_getElem? (i := 139) rfl) rfl
theorem mc_J5_append_3fe6f : Cond.code yJ5_append_3fe6f cJ5_append_3fe6f 2 (some (.object "java/lang/AbstractStringBuilder")) ∈ gT := sg2 (List.mem_of_getElem? (i := 140) rfl) rfl
theorem mm_J5_100 : Cond.methodLink RJ5 100 yJ5_ensureCapacityInternal_d00df ∈ gT := sg2 (List.mem_of_getElem? (i := 141) rfl) rfl
theorem mi_J5_ensureCapacityInternal_d00df : Cond.instanceMethod yJ5_ensureCapacityInternal_d00df ∈ gT := sg2 (List.mem_of_getElem? (i := 143) rfl) rfl
theorem mc_J5_ensureCapacityInternal_d00df : Cond.code yJ5_ensureCapacityInternal_d00df cJ5_ensureCapacityInternal_d00df 3 none ∈ gT := sg2 (List.mem_of_getElem? (i := 144) rfl) rfl
theorem mm_J5_104 : Cond.methodLink RJ5 104 yJ5_newCapacity_0f7a4 ∈ gT := sg2 (List.mem_of_getElem? (i := 145) rfl) rfl
theorem mi_J5_newCapacity_0f7a4 : Cond.instanceMethod yJ5_newCapacity_0f7a4 ∈ gT := sg2 (List.mem_of_getElem? (i := 147) rfl) rfl
theorem mc_J5_newCapacity_0f7a4 : Cond.code yJ5_newCapacity_0f7a4 cJ5_newCapacity_0f7a4 6 (some .int) ∈ gT := sg2 (List.mem_of_getElem? (i := 148) rfl) rfl
theorem mm_J5_114 : Cond.methodLink RJ5 114 yJ8_newLength_cabcc ∈ gT := sg2 (List.mem_of_getElem? (i := 149) rfl) rfl
theorem mt_J8_newLength_cabcc : Cond.static yJ8_newLength_cabcc ∈ gT := sg2 (List.mem_of_getElem? (i := 150) rfl) rfl
theorem mc_J8_newLength_cabcc : Cond.code yJ8_newLength_cabcc cJ8_newLength_cabcc 4 (some .int) ∈ gT := sg2 (List.mem_of_getElem? (i := 151) rfl) rfl
theorem mm_J8_194 : Cond.methodLink RJ8 194 yJ9_max_7cf53 ∈ gT := sg2 (List.mem_of_getElem? (i := 152) rfl) rfl
theorem mt_J9_max_7cf53 : Cond.static yJ9_max_7cf53 ∈ gT := sg2 (List.mem_of_getElem? (i := 153) rfl) rfl
theorem mc_J9_max_7cf53 : Cond.code yJ9_max_7cf53 cJ9_max_7cf53 2 (some .int) ∈ gT := sg2 (List.mem_of_getElem? (i := 154) rfl) rfl
theorem mk_J8_200 : Cond.constant RJ8 200 (2147483639) ∈ gT := sg2 (List.mem_of_getElem? (i := 155) rfl) rfl
theorem mm_J8_201 : Cond.methodLink RJ8 201 yJ8_hugeLength_7cf53 ∈ gT := sg2 (List.mem_of_getElem? (i := 156) rfl) rfl
theorem mt_J8_hugeLength_7cf53 : Cond.static yJ8_hugeLength_7cf53 ∈ gT := sg2 (List.mem_of_getElem? (i := 157) rfl) rfl
theorem mc_J8_hugeLength_7cf53 : Cond.code yJ8_hugeLength_7cf53 cJ8_hugeLength_7cf53 3 (some .int) ∈ gT := sg2 (List.mem_of_getElem? (i := 158) rfl) rfl
theorem mk_J5_39 : Cond.constant RJ5 39 (2147483647) ∈ gT := sg2 (List.mem_of_getElem? (i := 159) rfl) rfl
theorem mm_J5_108 : Cond.methodLink RJ5 108 yJ7_copyOf_9075b ∈ gT := sg2 (List.mem_of_getElem? (i := 160) rfl) rfl
theorem mt_J7_copyOf_9075b : Cond.static yJ7_copyOf_9075b ∈ gT := sg2 (List.mem_of_getElem? (i := 161) rfl) rfl
theorem mc_J7_copyOf_9075b : Cond.code yJ7_copyOf_9075b cJ7_copyOf_9075b 3 (some (.array .byte)) ∈ gT := sg2 (List.mem_of_getElem? (i := 162) rfl) rfl
theorem mm_J7_310 : Cond.methodLink RJ7 310 ⟨"[B", "clone", "()Ljava/lang/Object;"⟩ ∈ gT := sg2 (List.mem_of_getElem? (i := 163) rfl) rfl
theorem ml_J7_311 : Cond.classLink RJ7 311 "[B" ∈ gT := sg2 (List.mem_of_getElem? (i := 169) rfl) rfl
theorem mm_J7_304 : Cond.methodLink RJ7 304 yJ9_min_7cf53 ∈ gT := sg2 (List.mem_of_getElem? (i := 170) rfl) rfl
theorem mt_J9_min_7cf53 : Cond.static yJ9_min_7cf53 ∈ gT := sg2 (List.mem_of_getElem? (i := 171) rfl) rfl
theorem mc_J9_min_7cf53 : Cond.code yJ9_min_7cf53 cJ9_min_7cf53 2 (some .int) ∈ gT := sg2 (List.mem_of_getElem? (i := 172) rfl) rfl
theorem mm_J7_150 : Cond.methodLink RJ7 150 ⟨RJ10, "arraycopy", "(Ljava/lang/Object;ILjava/lang/Object;II)V"⟩ ∈ gT := sg2 (List.mem_of_getElem? (i := 173) rfl) rfl
theorem mm_J5_83 : Cond.methodLink RJ5 83 yJ5_isLatin1_aae02 ∈ gT := sg2 (List.mem_of_getElem? (i := 176) rfl) rfl
theorem mi_J5_isLatin1_aae02 : Cond.instanceMethod yJ5_isLatin1_aae02 ∈ gT := sg2 (List.mem_of_getElem? (i := 177) rfl) rfl
theorem ms_J4_J5_isLatin1_aae02_J5_isLatin1_aae02 : Cond.selects RJ4 yJ5_isLatin1_aae02 yJ5_isLatin1_aae02 ∈ gT := sg2 (List.mem_of_getElem? (i := 179) rfl) rfl
theorem mc_J5_isLatin1_aae02 : Cond.code yJ5_isLatin1_aae02 cJ5_isLatin1_aae02 1 (some .boolean) ∈ gT := sg2 (List.mem_of_getElem? (i := 180) rfl) rfl
theorem mm_J5_191 : Cond.methodLink RJ5 191 yJ1_canEncode_fc78d ∈ gT := sg2 (List.mem_of_getElem? (i := 181) rfl) rfl
theorem mt_J1_canEncode_fc78d : Cond.static yJ1_canEncode_fc78d ∈ gT := sg2 (List.mem_of_getElem? (i := 182) rfl) rfl
theorem mc_J1_canEncode_fc78d : Cond.code yJ1_canEncode_fc78d cJ1_canEncode_fc78d 1 (some .boolean) ∈ gT := sg2 (List.mem_of_getElem? (i := 183) rfl) rfl
theorem mm_J5_195 : Cond.methodLink RJ5 195 yJ5_inflate_da8c8 ∈ gT := sg2 (List.mem_of_getElem? (i := 184) rfl) rfl
theorem mi_J5_inflate_da8c8 : Cond.instanceMethod yJ5_inflate_da8c8 ∈ gT := sg2 (List.mem_of_getElem? (i := 186) rfl) rfl
theorem mc_J5_inflate_da8c8 : Cond.code yJ5_inflate_da8c8 cJ5_inflate_da8c8 2 none ∈ gT := sg2 (List.mem_of_getElem? (i := 187) rfl) rfl
theorem mm_J5_125 : Cond.methodLink RJ5 125 yJ1_inflate_0e8fd ∈ gT := sg2 (List.mem_of_getElem? (i := 188) rfl) rfl
theorem mt_J1_inflate_0e8fd : Cond.static yJ1_inflate_0e8fd ∈ gT := sg2 (List.mem_of_getElem? (i := 189) rfl) rfl
theorem mc_J1_inflate_0e8fd : Cond.code yJ1_inflate_0e8fd cJ1_inflate_0e8fd 5 none ∈ gT := sg2 (List.mem_of_getElem? (i := 190) rfl) rfl
theorem mm_J1_240 : Cond.methodLink RJ1 240 yJ2_inflate_0e8fd ∈ gT := sg2 (List.mem_of_getElem? (i := 191) rfl) rfl
theorem mt_J2_inflate_0e8fd : Cond.static yJ2_inflate_0e8fd ∈ gT := sg2 (List.mem_of_getElem? (i := 192) rfl) rfl
theorem mc_J2_inflate_0e8fd : Cond.code yJ2_inflate_0e8fd cJ2_inflate_0e8fd 6 none ∈ gT := sg2 (List.mem_of_getElem? (i := 193) rfl) rfl
theorem mm_J2_173 : Cond.methodLink RJ2 173 yJ2_checkBoundsOffCount_d044e ∈ gT := sg2 (List.mem_of_getElem? (i := 194) rfl) rfl
theorem mt_J2_checkBoundsOffCount_d044e : Cond.static yJ2_checkBoundsOffCount_d044e ∈ gT := sg2 (List.mem_of_getElem? (i := 195) rfl) rfl
theorem mc_J2_checkBoundsOffCount_d044e : Cond.code yJ2_checkBoundsOffCount_d044e cJ2_checkBoundsOffCount_d044e 3 none ∈ gT := sg2 (List.mem_of_getElem? (i := 196) rfl) rfl
theorem mm_J2_48 : Cond.methodLink RJ2 48 yJ2_length_9d52b ∈ gT := sg2 (List.mem_of_getElem? (i := 197) rfl) rfl
theorem mt_J2_length_9d52b : Cond.static yJ2_length_9d52b ∈ gT := sg2 (List.mem_of_getElem? (i := 198) rfl) rfl
theorem mc_J2_length_9d52b : Cond.code yJ2_length_9d52b cJ2_length_9d52b 1 (some .int) ∈ gT := sg2 (List.mem_of_getElem? (i := 199) rfl) rfl
theorem mm_J2_419 : Cond.methodLink RJ2 419 yJ0_checkBoundsOffCount_cabcc ∈ gT := sg2 (List.mem_of_getElem? (i := 200) rfl) rfl
theorem mt_J0_checkBoundsOffCount_cabcc : Cond.static yJ0_checkBoundsOffCount_cabcc ∈ gT := sg2 (List.mem_of_getElem? (i := 201) rfl) rfl
theorem mc_J0_checkBoundsOffCount_cabcc : Cond.code yJ0_checkBoundsOffCount_cabcc cJ0_checkBoundsOffCount_cabcc 3 (some .int) ∈ gT := sg2 (List.mem_of_getElem? (i := 202) rfl) rfl
theorem mf_J0_1053 : Cond.fieldLink RJ0 1053 "jdk/internal/util/Preconditions" "SIOOBE_FORMATTER" "Ljava/util/function/BiFunction;" ∈ gT := sg2 (List.mem_of_getElem? (i := 203) rfl) rfl
theorem mm_J0_1065 : Cond.methodLink RJ0 1065 yJ3_checkFromIndexSize_8c36e ∈ gT := sg2 (List.mem_of_getElem? (i := 205) rfl) rfl
theorem mt_J3_checkFromIndexSize_8c36e : Cond.static yJ3_checkFromIndexSize_8c36e ∈ gT := sg2 (List.mem_of_getElem? (i := 206) rfl) rfl
theorem mc_J3_checkFromIndexSize_8c36e : Cond.code yJ3_checkFromIndexSize_8c36e cJ3_checkFromIndexSize_8c36e 4 (some .int) ∈ gT := sg2 (List.mem_of_getElem? (i := 207) rfl) rfl
theorem mm_J2_111 : Cond.methodLink RJ2 111 yJ2_putChar_b72d1 ∈ gT := sg2 (List.mem_of_getElem? (i := 208) rfl) rfl
theorem mt_J2_putChar_b72d1 : Cond.static yJ2_putChar_b72d1 ∈ gT := sg2 (List.mem_of_getElem? (i := 209) rfl) rfl
theorem mc_J2_putChar_b72d1 : Cond.code yJ2_putChar_b72d1 cJ2_putChar_b72d1 3 none ∈ gT := sg2 (List.mem_of_getElem? (i := 210) rfl) rfl
theorem mf_J2_44 : Cond.fieldLink RJ2 44 "java/lang/StringUTF16" "$assertionsDisabled" "Z" ∈ gT := sg2 (List.mem_of_getElem? (i := 211) rfl) rfl
theorem mf_J2_59 : Cond.fieldLink RJ2 59 "java/lang/StringUTF16" "HI_BYTE_SHIFT" "I" ∈ gT := sg2 (List.mem_of_getElem? (i := 213) rfl) rfl
theorem mf_J2_63 : Cond.fieldLink RJ2 63 "java/lang/StringUTF16" "LO_BYTE_SHIFT" "I" ∈ gT := sg2 (List.mem_of_getElem? (i := 215) rfl) rfl
theorem mm_J5_197 : Cond.methodLink RJ5 197 yJ2_putCharSB_b72d1 ∈ gT := sg2 (List.mem_of_getElem? (i := 217) rfl) rfl
theorem mt_J2_putCharSB_b72d1 : Cond.static yJ2_putCharSB_b72d1 ∈ gT := sg2 (List.mem_of_getElem? (i := 218) rfl) rfl
theorem mc_J2_putCharSB_b72d1 : Cond.code yJ2_putCharSB_b72d1 cJ2_putCharSB_b72d1 3 none ∈ gT := sg2 (List.mem_of_getElem? (i := 219) rfl) rfl
theorem mm_J2_67 : Cond.methodLink RJ2 67 yJ2_checkIndex_2214a ∈ gT := sg2 (List.mem_of_getElem? (i := 220) rfl) rfl
theorem mt_J2_checkIndex_2214a : Cond.static yJ2_checkIndex_2214a ∈ gT := sg2 (List.mem_of_getElem? (i := 221) rfl) rfl
theorem mc_J2_checkIndex_2214a : Cond.code yJ2_checkIndex_2214a cJ2_checkIndex_2214a 2 none ∈ gT := sg2 (List.mem_of_getElem? (i := 222) rfl) rfl
theorem mm_J2_414 : Cond.methodLink RJ2 414 yJ0_checkIndex_df160 ∈ gT := sg2 (List.mem_of_getElem? (i := 223) rfl) rfl
theorem mt_J0_checkIndex_df160 : Cond.static yJ0_checkIndex_df160 ∈ gT := sg2 (List.mem_of_getElem? (i := 224) rfl) rfl
theorem mc_J0_checkIndex_df160 : Cond.code yJ0_checkIndex_df160 cJ0_checkIndex_df160 2 none ∈ gT := sg2 (List.mem_of_getElem? (i := 225) rfl) rfl
theorem mm_J0_1059 : Cond.methodLink RJ0 1059 yJ3_checkIndex_8e157 ∈ gT := sg2 (List.mem_of_getElem? (i := 226) rfl) rfl
theorem mt_J3_checkIndex_8e157 : Cond.static yJ3_checkIndex_8e157 ∈ gT := sg2 (List.mem_of_getElem? (i := 227) rfl) rfl
theorem mc_J3_checkIndex_8e157 : Cond.code yJ3_checkIndex_8e157 cJ3_checkIndex_8e157 3 (some .int) ∈ gT := sg2 (List.mem_of_getElem? (i := 228) rfl) rfl
theorem mm_L_44 : Cond.methodLink RL 44 yX6_runCommand ∈ gT := sg2 (List.mem_of_getElem? (i := 229) rfl) rfl
theorem mi_X6_runCommand : Cond.instanceMethod yX6_runCommand ∈ gT := sg2 (List.mem_of_getElem? (i := 230) rfl) rfl
theorem ms_X6_runCommand : Cond.selects RX6 yX6_runCommand yX6_runCommand ∈ gT := sg2 (List.mem_of_getElem? (i := 231) rfl) rfl
theorem mc_X6_runCommand : Cond.code yX6_runCommand cX6_runCommand 3 (some .int) ∈ gT := sg2 (List.mem_of_getElem? (i := 232) rfl) rfl
theorem mm_X6_114 : Cond.methodLink RX6 114 yJ4_toString_0e30d ∈ gT := sg2 (List.mem_of_getElem? (i := 233) rfl) rfl
theorem mi_J4_toString_0e30d : Cond.instanceMethod yJ4_toString_0e30d ∈ gT := sg2 (List.mem_of_getElem? (i := 234) rfl) rfl
theorem ms_J4_toString_0e30d : Cond.selects RJ4 yJ4_toString_0e30d yJ4_toString_0e30d ∈ gT := sg2 (List.mem_of_getElem? (i := 235) rfl) rfl
theorem mc_J4_toString_0e30d : Cond.code yJ4_toString_0e30d cJ4_toString_0e30d 1 (some (.object "java/lang/String")) ∈ gT := sg2 (List.mem_of_getElem? (i := 236) rfl) rfl
theorem ml_J4_18 : Cond.classLink RJ4 18 RJ0 ∈ gT := sg2 (List.mem_of_getElem? (i := 237) rfl) rfl
theorem mq_J0 : Cond.instantiable RJ0 4 ∈ gT := sg2 (List.mem_of_getElem? (i := 238) rfl) rfl
theorem mm_J4_137 : Cond.methodLink RJ4 137 yJ0_init_81219 ∈ gT := sg2 (List.mem_of_getElem? (i := 239) rfl) rfl
theorem mi_J0_init_81219 : Cond.instanceMethod yJ0_init_81219 ∈ gT := sg3 (List.mem_of_getElem? (i := 0) rfl) rfl
theorem mc_J0_init_81219 : Cond.code yJ0_init_81219 cJ0_init_81219 2 none ∈ gT := sg3 (List.mem_of_getElem? (i := 1) rfl) rfl
theorem mm_J0_489 : Cond.methodLink RJ0 489 yJ0_init_db425 ∈ gT := sg3 (List.mem_of_getElem? (i := 2) rfl) rfl
theorem mi_J0_init_db425 : Cond.instanceMethod yJ0_init_db425 ∈ gT := sg3 (List.mem_of_getElem? (i := 3) rfl) rfl
theorem mc_J0_init_db425 : Cond.code yJ0_init_db425 cJ0_init_db425 5 none ∈ gT := sg3 (List.mem_of_getElem? (i := 4) rfl) rfl
theorem mm_J0_1 : Cond.methodLink RJ0 1 Lib.objectInit ∈ gT := sg3 (List.mem_of_getElem? (i := 5) rfl) rfl
theorem mm_J0_552 : Cond.methodLink RJ0 552 yJ5_getValue_6d5f1 ∈ gT := sg3 (List.mem_of_getElem? (i := 6) rfl) rfl
theorem mi_J5_getValue_6d5f1 : Cond.instanceMethod yJ5_getValue_6d5f1 ∈ gT := sg3 (List.mem_of_getElem? (i := 7) rfl) rfl
theorem ms_J4_J5_getValue_6d5f1_J5_getValue_6d5f1 : Cond.selects RJ4 yJ5_getValue_6d5f1 yJ5_getValue_6d5f1 ∈ gT := sg3 (List.mem_of_getElem? (i := 9) rfl) rfl
theorem mc_J5_getValue_6d5f1 : Cond.code yJ5_getValue_6d5f1 cJ5_getValue_6d5f1 1 (some (.array .byte)) ∈ gT := sg3 (List.mem_of_getElem? (i := 10) rfl) rfl
theorem mm_J0_549 : Cond.methodLink RJ0 549 yJ5_length_8abf5 ∈ gT := sg3 (List.mem_of_getElem? (i := 11) rfl) rfl
theorem mm_J0_1047 : Cond.methodLink RJ0 1047 yJ5_isLatin1_aae02 ∈ gT := sg3 (List.mem_of_getElem? (i := 12) rfl) rfl
theorem mm_J0_54 : Cond.methodLink RJ0 54 yJ7_copyOfRange_39247 ∈ gT := sg3 (List.mem_of_getElem? (i := 13) rfl) rfl
theorem mt_J7_copyOfRange_39247 : Cond.static yJ7_copyOfRange_39247 ∈ gT := sg3 (List.mem_of_getElem? (i := 14) rfl) rfl
theorem mc_J7_copyOfRange_39247 : Cond.code yJ7_copyOfRange_39247 cJ7_copyOfRange_39247 3 (some (.array .byte)) ∈ gT := sg3 (List.mem_of_getElem? (i := 15) rfl) rfl
theorem mm_J7_339 : Cond.methodLink RJ7 339 yJ7_copyOfRangeByte_39247 ∈ gT := sg3 (List.mem_of_getElem? (i := 16) rfl) rfl
theorem mt_J7_copyOfRangeByte_39247 : Cond.static yJ7_copyOfRangeByte_39247 ∈ gT := sg3 (List.mem_of_getElem? (i := 17) rfl) rfl
theorem mc_J7_copyOfRangeByte_39247 : Cond.code yJ7_copyOfRangeByte_39247 cJ7_copyOfRangeByte_39247 5 (some (.array .byte)) ∈ gT := sg3 (List.mem_of_getElem? (i := 18) rfl) rfl
theorem mm_J7_343 : Cond.methodLink RJ7 343 yJ7_checkLength_df160 ∈ gT := sg3 (List.mem_of_getElem? (i := 19) rfl) rfl
theorem mt_J7_checkLength_df160 : Cond.static yJ7_checkLength_df160 ∈ gT := sg3 (List.mem_of_getElem? (i := 20) rfl) rfl
theorem mc_J7_checkLength_df160 : Cond.code yJ7_checkLength_df160 cJ7_checkLength_df160 2 none ∈ gT := sg3 (List.mem_of_getElem? (i := 21) rfl) rfl
theorem mf_J0_38 : Cond.fieldLink RJ0 38 "java/lang/String" "COMPACT_STRINGS" "Z" ∈ gT := sg3 (List.mem_of_getElem? (i := 22) rfl) rfl
theorem mm_J0_1051 : Cond.methodLink RJ0 1051 yJ2_compress_39247 ∈ gT := sg3 (List.mem_of_getElem? (i := 23) rfl) rfl
theorem mt_J2_compress_39247 : Cond.static yJ2_compress_39247 ∈ gT := sg3 (List.mem_of_getElem? (i := 24) rfl) rfl
theorem mc_J2_compress_39247 : Cond.code yJ2_compress_39247 cJ2_compress_39247 6 (some (.array .byte)) ∈ gT := sg3 (List.mem_of_getElem? (i := 25) rfl) rfl
theorem mm_J2_123 : Cond.methodLink RJ2 123 yJ2_compress_5af95 ∈ gT := sg3 (List.mem_of_getElem? (i := 26) rfl) rfl
theorem mt_J2_compress_5af95 : Cond.static yJ2_compress_5af95 ∈ gT := sg3 (List.mem_of_getElem? (i := 27) rfl) rfl
theorem mc_J2_compress_5af95 : Cond.code yJ2_compress_5af95 cJ2_compress_5af95 7 (some .int) ∈ gT := sg3 (List.mem_of_getElem? (i := 28) rfl) rfl
theorem mm_J2_71 : Cond.methodLink RJ2 71 yJ2_getChar_3b067 ∈ gT := sg3 (List.mem_of_getElem? (i := 29) rfl) rfl
theorem mt_J2_getChar_3b067 : Cond.static yJ2_getChar_3b067 ∈ gT := sg3 (List.mem_of_getElem? (i := 30) rfl) rfl
theorem mc_J2_getChar_3b067 : Cond.code yJ2_getChar_3b067 cJ2_getChar_3b067 2 (some .char) ∈ gT := sg3 (List.mem_of_getElem? (i := 31) rfl) rfl
theorem mm_J2_126 : Cond.methodLink RJ2 126 yJ7_copyOfRange_39247 ∈ gT := sg3 (List.mem_of_getElem? (i := 32) rfl) rfl
theorem mm_J0_47 : Cond.methodLink RJ0 47 yJ2_coderFromArrayLen_85cad ∈ gT := sg3 (List.mem_of_getElem? (i := 33) rfl) rfl
theorem mt_J2_coderFromArrayLen_85cad : Cond.static yJ2_coderFromArrayLen_85cad ∈ gT := sg3 (List.mem_of_getElem? (i := 34) rfl) rfl
theorem mc_J2_coderFromArrayLen_85cad : Cond.code yJ2_coderFromArrayLen_85cad cJ2_coderFromArrayLen_85cad 2 (some .byte) ∈ gT := sg3 (List.mem_of_getElem? (i := 35) rfl) rfl
theorem mf_J0_9 : Cond.fieldLink RJ0 9 "java/lang/String" "value" "[B" ∈ gT := sg3 (List.mem_of_getElem? (i := 36) rfl) rfl
theorem mf_J0_15 : Cond.fieldLink RJ0 15 "java/lang/String" "coder" "B" ∈ gT := sg3 (List.mem_of_getElem? (i := 37) rfl) rfl
theorem mm_X6_118 : Cond.methodLink RX6 118 yJ4_setLength_d00df ∈ gT := sg3 (List.mem_of_getElem? (i := 47) rfl) rfl
theorem mi_J4_setLength_d00df : Cond.instanceMethod yJ4_setLength_d00df ∈ gT := sg3 (List.mem_of_getElem? (i := 48) rfl) rfl
theorem ms_J4_setLength_d00df : Cond.selects RJ4 yJ4_setLength_d00df yJ4_setLength_d00df ∈ gT := sg3 (List.mem_of_getElem? (i := 49) rfl) rfl
theorem mc_J4_setLength_d00df : Cond.code yJ4_setLength_d00df cJ4_setLength_d00df 2 none ∈ gT := sg3 (List.mem_of_getElem? (i := 50) rfl) rfl
theorem mm_J4_333 : Cond.methodLink RJ4 333 yJ5_setLength_d00df ∈ gT := sg3 (List.mem_of_getElem? (i := 51) rfl) rfl
theorem mi_J5_setLength_d00df : Cond.instanceMethod yJ5_setLength_d00df ∈ gT := sg3 (List.mem_of_getElem? (i := 52) rfl) rfl
theorem mc_J5_setLength_d00df : Cond.code yJ5_setLength_d00df cJ5_setLength_d00df 2 none ∈ gT := sg3 (List.mem_of_getElem? (i := 53) rfl) rfl
theorem mm_J5_133 : Cond.methodLink RJ5 133 yJ1_fillNull_b72d1 ∈ gT := sg3 (List.mem_of_getElem? (i := 54) rfl) rfl
theorem mt_J1_fillNull_b72d1 : Cond.static yJ1_fillNull_b72d1 ∈ gT := sg3 (List.mem_of_getElem? (i := 55) rfl) rfl
theorem mc_J1_fillNull_b72d1 : Cond.code yJ1_fillNull_b72d1 cJ1_fillNull_b72d1 3 none ∈ gT := sg3 (List.mem_of_getElem? (i := 56) rfl) rfl
theorem mm_J1_236 : Cond.methodLink RJ1 236 yJ7_fill_eb02e ∈ gT := sg3 (List.mem_of_getElem? (i := 57) rfl) rfl
theorem mt_J7_fill_eb02e : Cond.static yJ7_fill_eb02e ∈ gT := sg3 (List.mem_of_getElem? (i := 58) rfl) rfl
theorem mc_J7_fill_eb02e : Cond.code yJ7_fill_eb02e cJ7_fill_eb02e 5 none ∈ gT := sg3 (List.mem_of_getElem? (i := 59) rfl) rfl
theorem mm_J7_13 : Cond.methodLink RJ7 13 yJ7_rangeCheck_23922 ∈ gT := sg3 (List.mem_of_getElem? (i := 60) rfl) rfl
theorem mt_J7_rangeCheck_23922 : Cond.static yJ7_rangeCheck_23922 ∈ gT := sg3 (List.mem_of_getElem? (i := 61) rfl) rfl
theorem mc_J7_rangeCheck_23922 : Cond.code yJ7_rangeCheck_23922 cJ7_rangeCheck_23922 3 none ∈ gT := sg3 (List.mem_of_getElem? (i := 62) rfl) rfl
theorem mm_J5_137 : Cond.methodLink RJ5 137 yJ2_fillNull_b72d1 ∈ gT := sg3 (List.mem_of_getElem? (i := 63) rfl) rfl
theorem mt_J2_fillNull_b72d1 : Cond.static yJ2_fillNull_b72d1 ∈ gT := sg3 (List.mem_of_getElem? (i := 64) rfl) rfl
theorem mc_J2_fillNull_b72d1 : Cond.code yJ2_fillNull_b72d1 cJ2_fillNull_b72d1 3 none ∈ gT := sg3 (List.mem_of_getElem? (i := 65) rfl) rfl
theorem mm_J2_380 : Cond.methodLink RJ2 380 yJ7_fill_eb02e ∈ gT := sg3 (List.mem_of_getElem? (i := 66) rfl) rfl
theorem mm_X6_121 : Cond.methodLink RX6 121 yJ0_indexOf_0f7a4 ∈ gT := sg3 (List.mem_of_getElem? (i := 67) rfl) rfl
theorem mi_J0_indexOf_0f7a4 : Cond.instanceMethod yJ0_indexOf_0f7a4 ∈ gT := sg3 (List.mem_of_getElem? (i := 68) rfl) rfl
theorem ms_J0_indexOf_0f7a4 : Cond.selects RJ0 yJ0_indexOf_0f7a4 yJ0_indexOf_0f7a4 ∈ gT := sg3 (List.mem_of_getElem? (i := 69) rfl) rfl
theorem mc_J0_indexOf_0f7a4 : Cond.code yJ0_indexOf_0f7a4 cJ0_indexOf_0f7a4 2 (some .int) ∈ gT := sg3 (List.mem_of_getElem? (i := 70) rfl) rfl
theorem mm_J0_633 : Cond.methodLink RJ0 633 yJ0_indexOf_7cf53 ∈ gT := sg3 (List.mem_of_getElem? (i := 71) rfl) rfl
theorem mi_J0_indexOf_7cf53 : Cond.instanceMethod yJ0_indexOf_7cf53 ∈ gT := sg3 (List.mem_of_getElem? (i := 72) rfl) rfl
theorem ms_J0_indexOf_7cf53 : Cond.selects RJ0 yJ0_indexOf_7cf53 yJ0_indexOf_7cf53 ∈ gT := sg3 (List.mem_of_getElem? (i := 73) rfl) rfl
theorem mc_J0_indexOf_7cf53 : Cond.code yJ0_indexOf_7cf53 cJ0_indexOf_7cf53 3 (some .int) ∈ gT := sg3 (List.mem_of_getElem? (i := 74) rfl) rfl
theorem mm_J0_492 : Cond.methodLink RJ0 492 yJ0_isLatin1_aae02 ∈ gT := sg3 (List.mem_of_getElem? (i := 75) rfl) rfl
theorem mi_J0_isLatin1_aae02 : Cond.instanceMethod yJ0_isLatin1_aae02 ∈ gT := sg3 (List.mem_of_getElem? (i := 76) rfl) rfl
theorem ms_J0_isLatin1_aae02 : Cond.selects RJ0 yJ0_isLatin1_aae02 yJ0_isLatin1_aae02 ∈ gT := sg3 (List.mem_of_getElem? (i := 77) rfl) rfl
theorem mc_J0_isLatin1_aae02 : Cond.code yJ0_isLatin1_aae02 cJ0_isLatin1_aae02 1 (some .boolean) ∈ gT := sg3 (List.mem_of_getElem? (i := 78) rfl) rfl
theorem mm_J0_505 : Cond.methodLink RJ0 505 yJ0_length_8abf5 ∈ gT := sg3 (List.mem_of_getElem? (i := 79) rfl) rfl
theorem mi_J0_length_8abf5 : Cond.instanceMethod yJ0_length_8abf5 ∈ gT := sg3 (List.mem_of_getElem? (i := 80) rfl) rfl
theorem ms_J0_length_8abf5 : Cond.selects RJ0 yJ0_length_8abf5 yJ0_length_8abf5 ∈ gT := sg3 (List.mem_of_getElem? (i := 81) rfl) rfl
theorem mc_J0_length_8abf5 : Cond.code yJ0_length_8abf5 cJ0_length_8abf5 1 (some .int) ∈ gT := sg3 (List.mem_of_getElem? (i := 82) rfl) rfl
theorem mm_J0_335 : Cond.methodLink RJ0 335 yJ0_coder_7d493 ∈ gT := sg3 (List.mem_of_getElem? (i := 83) rfl) rfl
theorem mi_J0_coder_7d493 : Cond.instanceMethod yJ0_coder_7d493 ∈ gT := sg3 (List.mem_of_getElem? (i := 84) rfl) rfl
theorem ms_J0_coder_7d493 : Cond.selects RJ0 yJ0_coder_7d493 yJ0_coder_7d493 ∈ gT := sg3 (List.mem_of_getElem? (i := 85) rfl) rfl
theorem mc_J0_coder_7d493 : Cond.code yJ0_coder_7d493 cJ0_coder_7d493 1 (some .byte) ∈ gT := sg3 (List.mem_of_getElem? (i := 86) rfl) rfl
theorem mm_J0_637 : Cond.methodLink RJ0 637 yJ1_indexOf_4cfef ∈ gT := sg3 (List.mem_of_getElem? (i := 87) rfl) rfl
theorem mt_J1_indexOf_4cfef : Cond.static yJ1_indexOf_4cfef ∈ gT := sg3 (List.mem_of_getElem? (i := 88) rfl) rfl
theorem mc_J1_indexOf_4cfef : Cond.code yJ1_indexOf_4cfef cJ1_indexOf_4cfef 4 (some .int) ∈ gT := sg3 (List.mem_of_getElem? (i := 89) rfl) rfl
theorem mm_J1_88 : Cond.methodLink RJ1 88 yJ1_canEncode_9a6ad ∈ gT := sg3 (List.mem_of_getElem? (i := 90) rfl) rfl
theorem mt_J1_canEncode_9a6ad : Cond.static yJ1_canEncode_9a6ad ∈ gT := sg3 (List.mem_of_getElem? (i := 91) rfl) rfl
theorem mc_J1_canEncode_9a6ad : Cond.code yJ1_canEncode_9a6ad cJ1_canEncode_9a6ad 1 (some .boolean) ∈ gT := sg3 (List.mem_of_getElem? (i := 92) rfl) rfl
theorem mm_J1_92 : Cond.methodLink RJ1 92 yJ9_max_7cf53 ∈ gT := sg3 (List.mem_of_getElem? (i := 93) rfl) rfl
theorem mm_J1_38 : Cond.methodLink RJ1 38 yJ9_min_7cf53 ∈ gT := sg3 (List.mem_of_getElem? (i := 94) rfl) rfl
theorem mm_J1_95 : Cond.methodLink RJ1 95 yJ1_indexOfChar_4cfef ∈ gT := sg3 (List.mem_of_getElem? (i := 95) rfl) rfl
theorem mt_J1_indexOfChar_4cfef : Cond.static yJ1_indexOfChar_4cfef ∈ gT := sg3 (List.mem_of_getElem? (i := 96) rfl) rfl
theorem mc_J1_indexOfChar_4cfef : Cond.code yJ1_indexOfChar_4cfef cJ1_indexOfChar_4cfef 6 (some .int) ∈ gT := sg3 (List.mem_of_getElem? (i := 97) rfl) rfl
theorem mm_J0_640 : Cond.methodLink RJ0 640 yJ2_indexOf_4cfef ∈ gT := sg3 (List.mem_of_getElem? (i := 98) rfl) rfl
theorem mt_J2_indexOf_4cfef : Cond.static yJ2_indexOf_4cfef ∈ gT := sg3 (List.mem_of_getElem? (i := 99) rfl) rfl
theorem mc_J2_indexOf_4cfef : Cond.code yJ2_indexOf_4cfef cJ2_indexOf_4cfef 4 (some .int) ∈ gT := sg3 (List.mem_of_getElem? (i := 100) rfl) rfl
theorem mm_J2_224 : Cond.methodLink RJ2 224 yJ9_max_7cf53 ∈ gT := sg3 (List.mem_of_getElem? (i := 101) rfl) rfl
theorem mm_J2_183 : Cond.methodLink RJ2 183 yJ9_min_7cf53 ∈ gT := sg3 (List.mem_of_getElem? (i := 102) rfl) rfl
theorem mk_J2_227 : Cond.constant RJ2 227 (65536) ∈ gT := sg3 (List.mem_of_getElem? (i := 103) rfl) rfl
theorem mm_J2_228 : Cond.methodLink RJ2 228 yJ2_indexOfChar_4cfef ∈ gT := sg3 (List.mem_of_getElem? (i := 104) rfl) rfl
theorem mt_J2_indexOfChar_4cfef : Cond.static yJ2_indexOfChar_4cfef ∈ gT := sg3 (List.mem_of_getElem? (i := 105) rfl) rfl
theorem mc_J2_indexOfChar_4cfef : Cond.code yJ2_indexOfChar_4cfef cJ2_indexOfChar_4cfef 4 (some .int) ∈ gT := sg3 (List.mem_of_getElem? (i := 106) rfl) rfl
theorem mm_J2_96 : Cond.methodLink RJ2 96 yJ2_checkBoundsBeginEnd_d044e ∈ gT := sg3 (List.mem_of_getElem? (i := 107) rfl) rfl
end
section
theorem mt_J2_checkBoundsBeginEnd_d044e : Cond.static yJ2_checkBoundsBeginEnd_d044e ∈ gT := sg3 (List.mem_of_getElem? (i := 108) rfl) rfl
theorem mc_J2_checkBoundsBeginEnd_d044e : Cond.code yJ2_checkBoundsBeginEnd_d044e cJ2_checkBoundsBeginEnd_d044e 3 none ∈ gT := sg3 (List.mem_of_getElem? (i := 109) rfl) rfl
theorem mm_J2_241 : Cond.methodLink RJ2 241 yJ0_checkBoundsBeginEnd_23922 ∈ gT := sg3 (List.mem_of_getElem? (i := 110) rfl) rfl
theorem mt_J0_checkBoundsBeginEnd_23922 : Cond.static yJ0_checkBoundsBeginEnd_23922 ∈ gT := sg3 (List.mem_of_getElem? (i := 111) rfl) rfl
theorem mc_J0_checkBoundsBeginEnd_23922 : Cond.code yJ0_checkBoundsBeginEnd_23922 cJ0_checkBoundsBeginEnd_23922 3 none ∈ gT := sg3 (List.mem_of_getElem? (i := 112) rfl) rfl
theorem mm_J0_1062 : Cond.methodLink RJ0 1062 yJ3_checkFromToIndex_8c36e ∈ gT := sg3 (List.mem_of_getElem? (i := 113) rfl) rfl
theorem mt_J3_checkFromToIndex_8c36e : Cond.static yJ3_checkFromToIndex_8c36e ∈ gT := sg3 (List.mem_of_getElem? (i := 114) rfl) rfl
theorem mc_J3_checkFromToIndex_8c36e : Cond.code yJ3_checkFromToIndex_8c36e cJ3_checkFromToIndex_8c36e 4 (some .int) ∈ gT := sg3 (List.mem_of_getElem? (i := 115) rfl) rfl
theorem mm_J2_244 : Cond.methodLink RJ2 244 yJ2_indexOfCharUnsafe_4cfef ∈ gT := sg3 (List.mem_of_getElem? (i := 116) rfl) rfl
theorem mt_J2_indexOfCharUnsafe_4cfef : Cond.static yJ2_indexOfCharUnsafe_4cfef ∈ gT := sg3 (List.mem_of_getElem? (i := 117) rfl) rfl
theorem mc_J2_indexOfCharUnsafe_4cfef : Cond.code yJ2_indexOfCharUnsafe_4cfef cJ2_indexOfCharUnsafe_4cfef 5 (some .int) ∈ gT := sg3 (List.mem_of_getElem? (i := 118) rfl) rfl
theorem mm_J2_232 : Cond.methodLink RJ2 232 yJ2_indexOfSupplementary_4cfef ∈ gT := sg3 (List.mem_of_getElem? (i := 119) rfl) rfl
theorem mt_J2_indexOfSupplementary_4cfef : Cond.static yJ2_indexOfSupplementary_4cfef ∈ gT := sg3 (List.mem_of_getElem? (i := 120) rfl) rfl
theorem mc_J2_indexOfSupplementary_4cfef : Cond.code yJ2_indexOfSupplementary_4cfef cJ2_indexOfSupplementary_4cfef 7 (some .int) ∈ gT := sg3 (List.mem_of_getElem? (i := 121) rfl) rfl
theorem mm_J2_164 : Cond.methodLink RJ2 164 yJ11_isValidCodePoint_9a6ad ∈ gT := sg3 (List.mem_of_getElem? (i := 122) rfl) rfl
theorem mt_J11_isValidCodePoint_9a6ad : Cond.static yJ11_isValidCodePoint_9a6ad ∈ gT := sg3 (List.mem_of_getElem? (i := 123) rfl) rfl
theorem mc_J11_isValidCodePoint_9a6ad : Cond.code yJ11_isValidCodePoint_9a6ad cJ11_isValidCodePoint_9a6ad 2 (some .boolean) ∈ gT := sg3 (List.mem_of_getElem? (i := 124) rfl) rfl
theorem mm_J2_157 : Cond.methodLink RJ2 157 yJ11_highSurrogate_5068e ∈ gT := sg3 (List.mem_of_getElem? (i := 125) rfl) rfl
theorem mt_J11_highSurrogate_5068e : Cond.static yJ11_highSurrogate_5068e ∈ gT := sg3 (List.mem_of_getElem? (i := 126) rfl) rfl
theorem mc_J11_highSurrogate_5068e : Cond.code yJ11_highSurrogate_5068e cJ11_highSurrogate_5068e 1 (some .char) ∈ gT := sg3 (List.mem_of_getElem? (i := 127) rfl) rfl
theorem mk_J11_110 : Cond.constant RJ11 110 (55232) ∈ gT := sg3 (List.mem_of_getElem? (i := 128) rfl) rfl
theorem mm_J2_161 : Cond.methodLink RJ2 161 yJ11_lowSurrogate_5068e ∈ gT := sg3 (List.mem_of_getElem? (i := 129) rfl) rfl
theorem mt_J11_lowSurrogate_5068e : Cond.static yJ11_lowSurrogate_5068e ∈ gT := sg3 (List.mem_of_getElem? (i := 130) rfl) rfl
theorem mc_J11_lowSurrogate_5068e : Cond.code yJ11_lowSurrogate_5068e cJ11_lowSurrogate_5068e 1 (some .char) ∈ gT := sg3 (List.mem_of_getElem? (i := 131) rfl) rfl
theorem mk_J11_76 : Cond.constant RJ11 76 (56320) ∈ gT := sg3 (List.mem_of_getElem? (i := 132) rfl) rfl
theorem mm_X6_126 : Cond.methodLink RX6 126 yX6_runWord ∈ gT := sg3 (List.mem_of_getElem? (i := 133) rfl) rfl
theorem mi_X6_runWord : Cond.instanceMethod yX6_runWord ∈ gT := sg3 (List.mem_of_getElem? (i := 135) rfl) rfl
theorem mc_X6_runWord : Cond.code yX6_runWord cX6_runWord 2 (some .int) ∈ gT := sg3 (List.mem_of_getElem? (i := 136) rfl) rfl
theorem mm_X6_214 : Cond.methodLink RX6 214 yJ0_equals_9ea2d ∈ gT := sg3 (List.mem_of_getElem? (i := 138) rfl) rfl
theorem mi_J0_equals_9ea2d : Cond.instanceMethod yJ0_equals_9ea2d ∈ gT := sg3 (List.mem_of_getElem? (i := 139) rfl) rfl
theorem ms_J0_equals_9ea2d : Cond.selects RJ0 yJ0_equals_9ea2d yJ0_equals_9ea2d ∈ gT := sg3 (List.mem_of_getElem? (i := 140) rfl) rfl
theorem mc_J0_equals_9ea2d : Cond.code yJ0_equals_9ea2d cJ0_equals_9ea2d 3 (some .boolean) ∈ gT := sg3 (List.mem_of_getElem? (i := 141) rfl) rfl
theorem ml_J0_10 : Cond.classLink RJ0 10 RJ0 ∈ gT := sg3 (List.mem_of_getElem? (i := 142) rfl) rfl
theorem mm_J0_541 : Cond.methodLink RJ0 541 yJ1_equals_b5fdf ∈ gT := sg3 (List.mem_of_getElem? (i := 143) rfl) rfl
theorem mt_J1_equals_b5fdf : Cond.static yJ1_equals_b5fdf ∈ gT := sg3 (List.mem_of_getElem? (i := 144) rfl) rfl
theorem mc_J1_equals_b5fdf : Cond.code yJ1_equals_b5fdf cJ1_equals_b5fdf 3 (some .boolean) ∈ gT := sg3 (List.mem_of_getElem? (i := 145) rfl) rfl
theorem mm_X6_218 : Cond.methodLink RX6 218 yX6_changePause ∈ gT := sg3 (List.mem_of_getElem? (i := 146) rfl) rfl
theorem mi_X6_changePause : Cond.instanceMethod yX6_changePause ∈ gT := sg3 (List.mem_of_getElem? (i := 148) rfl) rfl
theorem mc_X6_changePause : Cond.code yX6_changePause cX6_changePause 3 (some .int) ∈ gT := sg3 (List.mem_of_getElem? (i := 149) rfl) rfl
theorem mm_X6_130 : Cond.methodLink RX6 130 yJ0_substring_37a41 ∈ gT := sg3 (List.mem_of_getElem? (i := 151) rfl) rfl
theorem mi_J0_substring_37a41 : Cond.instanceMethod yJ0_substring_37a41 ∈ gT := sg3 (List.mem_of_getElem? (i := 152) rfl) rfl
theorem ms_J0_substring_37a41 : Cond.selects RJ0 yJ0_substring_37a41 yJ0_substring_37a41 ∈ gT := sg3 (List.mem_of_getElem? (i := 153) rfl) rfl
theorem mc_J0_substring_37a41 : Cond.code yJ0_substring_37a41 cJ0_substring_37a41 5 (some (.object "java/lang/String")) ∈ gT := sg3 (List.mem_of_getElem? (i := 154) rfl) rfl
theorem mm_J0_521 : Cond.methodLink RJ0 521 yJ0_checkBoundsBeginEnd_23922 ∈ gT := sg3 (List.mem_of_getElem? (i := 155) rfl) rfl
theorem mm_J0_685 : Cond.methodLink RJ0 685 yJ1_newString_b4f7a ∈ gT := sg3 (List.mem_of_getElem? (i := 156) rfl) rfl
theorem mt_J1_newString_b4f7a : Cond.static yJ1_newString_b4f7a ∈ gT := sg3 (List.mem_of_getElem? (i := 157) rfl) rfl
theorem mc_J1_newString_b4f7a : Cond.code yJ1_newString_b4f7a cJ1_newString_b4f7a 3 (some (.object "java/lang/String")) ∈ gT := sg3 (List.mem_of_getElem? (i := 158) rfl) rfl
theorem ml_J1_1 : Cond.classLink RJ1 1 RJ0 ∈ gT := sg3 (List.mem_of_getElem? (i := 160) rfl) rfl
theorem mm_J1_232 : Cond.methodLink RJ1 232 yJ7_copyOfRange_39247 ∈ gT := sg3 (List.mem_of_getElem? (i := 161) rfl) rfl
theorem mm_J1_112 : Cond.methodLink RJ1 112 yJ0_init_031fb ∈ gT := sg3 (List.mem_of_getElem? (i := 162) rfl) rfl
theorem mi_J0_init_031fb : Cond.instanceMethod yJ0_init_031fb ∈ gT := sg3 (List.mem_of_getElem? (i := 163) rfl) rfl
theorem mc_J0_init_031fb : Cond.code yJ0_init_031fb cJ0_init_031fb 3 none ∈ gT := sg3 (List.mem_of_getElem? (i := 164) rfl) rfl
theorem mm_J0_689 : Cond.methodLink RJ0 689 yJ2_newString_b4f7a ∈ gT := sg3 (List.mem_of_getElem? (i := 165) rfl) rfl
theorem mt_J2_newString_b4f7a : Cond.static yJ2_newString_b4f7a ∈ gT := sg3 (List.mem_of_getElem? (i := 166) rfl) rfl
theorem mc_J2_newString_b4f7a : Cond.code yJ2_newString_b4f7a cJ2_newString_b4f7a 5 (some (.object "java/lang/String")) ∈ gT := sg3 (List.mem_of_getElem? (i := 167) rfl) rfl
theorem mf_J2_251 : Cond.fieldLink RJ2 251 "java/lang/String" "COMPACT_STRINGS" "Z" ∈ gT := sg3 (List.mem_of_getElem? (i := 169) rfl) rfl
theorem mm_J2_257 : Cond.methodLink RJ2 257 yJ2_compress_39247 ∈ gT := sg3 (List.mem_of_getElem? (i := 170) rfl) rfl
theorem mm_J2_259 : Cond.methodLink RJ2 259 yJ2_coderFromArrayLen_85cad ∈ gT := sg3 (List.mem_of_getElem? (i := 171) rfl) rfl
theorem ml_J2_3 : Cond.classLink RJ2 3 RJ0 ∈ gT := sg3 (List.mem_of_getElem? (i := 172) rfl) rfl
theorem mm_J2_263 : Cond.methodLink RJ2 263 yJ0_init_031fb ∈ gT := sg3 (List.mem_of_getElem? (i := 173) rfl) rfl
theorem mm_X6_134 : Cond.methodLink RX6 134 yJ0_substring_b52d3 ∈ gT := sg3 (List.mem_of_getElem? (i := 174) rfl) rfl
theorem mi_J0_substring_b52d3 : Cond.instanceMethod yJ0_substring_b52d3 ∈ gT := sg3 (List.mem_of_getElem? (i := 175) rfl) rfl
theorem ms_J0_substring_b52d3 : Cond.selects RJ0 yJ0_substring_b52d3 yJ0_substring_b52d3 ∈ gT := sg3 (List.mem_of_getElem? (i := 176) rfl) rfl
theorem mc_J0_substring_b52d3 : Cond.code yJ0_substring_b52d3 cJ0_substring_b52d3 2 (some (.object "java/lang/String")) ∈ gT := sg3 (List.mem_of_getElem? (i := 177) rfl) rfl
theorem mm_J0_681 : Cond.methodLink RJ0 681 yJ0_substring_37a41 ∈ gT := sg3 (List.mem_of_getElem? (i := 178) rfl) rfl
theorem mm_X6_137 : Cond.methodLink RX6 137 yX6_runWordWithArgument ∈ gT := sg3 (List.mem_of_getElem? (i := 179) rfl) rfl
theorem mi_X6_runWordWithArgument : Cond.instanceMethod yX6_runWordWithArgument ∈ gT := sg3 (List.mem_of_getElem? (i := 181) rfl) rfl
theorem mc_X6_runWordWithArgument : Cond.code yX6_runWordWithArgument cX6_runWordWithArgument 3 (some .int) ∈ gT := sg3 (List.mem_of_getElem? (i := 182) rfl) rfl
theorem mm_X6_224 : Cond.methodLink RX6 224 yX6_policyNamed ∈ gT := sg3 (List.mem_of_getElem? (i := 184) rfl) rfl
theorem mt_X6_policyNamed : Cond.static yX6_policyNamed ∈ gT := sg3 (List.mem_of_getElem? (i := 185) rfl) rfl
theorem mc_X6_policyNamed : Cond.code yX6_policyNamed cX6_policyNamed 1 (some .int) ∈ gT := sg3 (List.mem_of_getElem? (i := 186) rfl) rfl
theorem mm_X6_227 : Cond.methodLink RX6 227 yX6_changePolicy ∈ gT := sg3 (List.mem_of_getElem? (i := 191) rfl) rfl
theorem mi_X6_changePolicy : Cond.instanceMethod yX6_changePolicy ∈ gT := sg3 (List.mem_of_getElem? (i := 193) rfl) rfl
theorem mc_X6_changePolicy : Cond.code yX6_changePolicy cX6_changePolicy 3 (some .int) ∈ gT := sg3 (List.mem_of_getElem? (i := 194) rfl) rfl
theorem mm_X6_231 : Cond.methodLink RX6 231 yX6_numberIn ∈ gT := sg3 (List.mem_of_getElem? (i := 196) rfl) rfl
theorem mt_X6_numberIn : Cond.static yX6_numberIn ∈ gT := sg3 (List.mem_of_getElem? (i := 197) rfl) rfl
theorem mc_X6_numberIn : Cond.code yX6_numberIn cX6_numberIn 4 (some .int) ∈ gT := sg3 (List.mem_of_getElem? (i := 198) rfl) rfl
theorem mm_X6_251 : Cond.methodLink RX6 251 yJ0_length_8abf5 ∈ gT := sg3 (List.mem_of_getElem? (i := 199) rfl) rfl
theorem mm_X6_252 : Cond.methodLink RX6 252 yJ0_charAt_5068e ∈ gT := sg3 (List.mem_of_getElem? (i := 200) rfl) rfl
theorem mi_J0_charAt_5068e : Cond.instanceMethod yJ0_charAt_5068e ∈ gT := sg3 (List.mem_of_getElem? (i := 201) rfl) rfl
theorem ms_J0_charAt_5068e : Cond.selects RJ0 yJ0_charAt_5068e yJ0_charAt_5068e ∈ gT := sg3 (List.mem_of_getElem? (i := 202) rfl) rfl
theorem mc_J0_charAt_5068e : Cond.code yJ0_charAt_5068e cJ0_charAt_5068e 2 (some .char) ∈ gT := sg3 (List.mem_of_getElem? (i := 203) rfl) rfl
theorem mm_J0_495 : Cond.methodLink RJ0 495 yJ1_charAt_3b067 ∈ gT := sg3 (List.mem_of_getElem? (i := 204) rfl) rfl
theorem mt_J1_charAt_3b067 : Cond.static yJ1_charAt_3b067 ∈ gT := sg3 (List.mem_of_getElem? (i := 205) rfl) rfl
theorem mc_J1_charAt_3b067 : Cond.code yJ1_charAt_3b067 cJ1_charAt_3b067 2 (some .char) ∈ gT := sg3 (List.mem_of_getElem? (i := 206) rfl) rfl
theorem mm_J1_9 : Cond.methodLink RJ1 9 yJ0_checkIndex_df160 ∈ gT := sg3 (List.mem_of_getElem? (i := 207) rfl) rfl
theorem mm_J0_498 : Cond.methodLink RJ0 498 yJ2_charAt_3b067 ∈ gT := sg3 (List.mem_of_getElem? (i := 208) rfl) rfl
theorem mt_J2_charAt_3b067 : Cond.static yJ2_charAt_3b067 ∈ gT := sg3 (List.mem_of_getElem? (i := 209) rfl) rfl
theorem mc_J2_charAt_3b067 : Cond.code yJ2_charAt_3b067 cJ2_charAt_3b067 2 (some .char) ∈ gT := sg3 (List.mem_of_getElem? (i := 210) rfl) rfl
theorem mm_X6_234 : Cond.methodLink RX6 234 yX6_changeCap ∈ gT := sg3 (List.mem_of_getElem? (i := 211) rfl) rfl
theorem mi_X6_changeCap : Cond.instanceMethod yX6_changeCap ∈ gT := sg3 (List.mem_of_getElem? (i := 213) rfl) rfl
theorem mc_X6_changeCap : Cond.code yX6_changeCap cX6_changeCap 3 (some .int) ∈ gT := sg3 (List.mem_of_getElem? (i := 214) rfl) rfl
theorem mm_X6_239 : Cond.methodLink RX6 239 yX6_seek ∈ gT := sg3 (List.mem_of_getElem? (i := 216) rfl) rfl
theorem mi_X6_seek : Cond.instanceMethod yX6_seek ∈ gT := sg3 (List.mem_of_getElem? (i := 218) rfl) rfl
theorem mc_X6_seek : Cond.code yX6_seek cX6_seek 2 (some .int) ∈ gT := sg3 (List.mem_of_getElem? (i := 219) rfl) rfl
theorem mm_X6_241 : Cond.methodLink RX6 241 yX2_moveTo ∈ gT := sg3 (List.mem_of_getElem? (i := 220) rfl) rfl
theorem mm_L_49 : Cond.methodLink RL 49 yX6_restart ∈ gT := sg3 (List.mem_of_getElem? (i := 221) rfl) rfl
theorem mi_X6_restart : Cond.instanceMethod yX6_restart ∈ gT := sg3 (List.mem_of_getElem? (i := 222) rfl) rfl
theorem ms_X6_restart : Cond.selects RX6 yX6_restart yX6_restart ∈ gT := sg3 (List.mem_of_getElem? (i := 223) rfl) rfl
theorem mc_X6_restart : Cond.code yX6_restart cX6_restart 2 (some .int) ∈ gT := sg3 (List.mem_of_getElem? (i := 224) rfl) rfl
theorem mm_L_53 : Cond.methodLink RL 53 yX6_advance ∈ gT := sg3 (List.mem_of_getElem? (i := 225) rfl) rfl
theorem mi_X6_advance : Cond.instanceMethod yX6_advance ∈ gT := sg3 (List.mem_of_getElem? (i := 226) rfl) rfl
theorem ms_X6_advance : Cond.selects RX6 yX6_advance yX6_advance ∈ gT := sg3 (List.mem_of_getElem? (i := 227) rfl) rfl
theorem mc_X6_advance : Cond.code yX6_advance cX6_advance 4 (some .int) ∈ gT := sg3 (List.mem_of_getElem? (i := 228) rfl) rfl
theorem mm_X6_144 : Cond.methodLink RX6 144 yX2_passMillisecond ∈ gT := sg3 (List.mem_of_getElem? (i := 229) rfl) rfl
theorem mi_X2_passMillisecond : Cond.instanceMethod yX2_passMillisecond ∈ gT := sg3 (List.mem_of_getElem? (i := 230) rfl) rfl
theorem ms_X2_passMillisecond : Cond.selects RX2 yX2_passMillisecond yX2_passMillisecond ∈ gT := sg3 (List.mem_of_getElem? (i := 231) rfl) rfl
theorem mc_X2_passMillisecond : Cond.code yX2_passMillisecond cX2_passMillisecond 4 (some .boolean) ∈ gT := sg3 (List.mem_of_getElem? (i := 232) rfl) rfl
theorem mm_X2_102 : Cond.methodLink RX2 102 yX2_canStartDownload ∈ gT := sg3 (List.mem_of_getElem? (i := 233) rfl) rfl
theorem mi_X2_canStartDownload : Cond.instanceMethod yX2_canStartDownload ∈ gT := sg3 (List.mem_of_getElem? (i := 235) rfl) rfl
theorem mc_X2_canStartDownload : Cond.code yX2_canStartDownload cX2_canStartDownload 1 (some .boolean) ∈ gT := sg3 (List.mem_of_getElem? (i := 236) rfl) rfl
theorem mm_X2_141 : Cond.methodLink RX2 141 yX2_hasNextSegment ∈ gT := sg3 (List.mem_of_getElem? (i := 237) rfl) rfl
theorem mi_X2_hasNextSegment : Cond.instanceMethod yX2_hasNextSegment ∈ gT := sg3 (List.mem_of_getElem? (i := 239) rfl) rfl
theorem mc_X2_hasNextSegment : Cond.code yX2_hasNextSegment cX2_hasNextSegment 1 (some .boolean) ∈ gT := sg4 (List.mem_of_getElem? (i := 0) rfl) rfl
theorem mm_X2_106 : Cond.methodLink RX2 106 yX2_chooseLevel ∈ gT := sg4 (List.mem_of_getElem? (i := 1) rfl) rfl
theorem mi_X2_chooseLevel : Cond.instanceMethod yX2_chooseLevel ∈ gT := sg4 (List.mem_of_getElem? (i := 3) rfl) rfl
theorem mc_X2_chooseLevel : Cond.code yX2_chooseLevel cX2_chooseLevel 4 (some .int) ∈ gT := sg4 (List.mem_of_getElem? (i := 4) rfl) rfl
theorem mm_X2_174 : Cond.methodLink RX2 174 yJ9_min_7cf53 ∈ gT := sg4 (List.mem_of_getElem? (i := 5) rfl) rfl
theorem mm_X2_179 : Cond.methodLink RX2 179 yX2_levelByRate ∈ gT := sg4 (List.mem_of_getElem? (i := 6) rfl) rfl
theorem mi_X2_levelByRate : Cond.instanceMethod yX2_levelByRate ∈ gT := sg4 (List.mem_of_getElem? (i := 8) rfl) rfl
theorem mc_X2_levelByRate : Cond.code yX2_levelByRate cX2_levelByRate 3 (some .int) ∈ gT := sg4 (List.mem_of_getElem? (i := 9) rfl) rfl
theorem mm_X2_188 : Cond.methodLink RX2 188 yX4_estimate ∈ gT := sg4 (List.mem_of_getElem? (i := 10) rfl) rfl
theorem mi_X4_estimate : Cond.instanceMethod yX4_estimate ∈ gT := sg4 (List.mem_of_getElem? (i := 11) rfl) rfl
theorem ms_X4_estimate : Cond.selects RX4 yX4_estimate yX4_estimate ∈ gT := sg4 (List.mem_of_getElem? (i := 12) rfl) rfl
theorem mc_X4_estimate : Cond.code yX4_estimate cX4_estimate 3 (some .int) ∈ gT := sg4 (List.mem_of_getElem? (i := 13) rfl) rfl
theorem mm_X2_194 : Cond.methodLink RX2 194 yX5_highestLevelWithin ∈ gT := sg4 (List.mem_of_getElem? (i := 14) rfl) rfl
theorem mi_X5_highestLevelWithin : Cond.instanceMethod yX5_highestLevelWithin ∈ gT := sg4 (List.mem_of_getElem? (i := 15) rfl) rfl
theorem ms_X5_highestLevelWithin : Cond.selects RX5 yX5_highestLevelWithin yX5_highestLevelWithin ∈ gT := sg4 (List.mem_of_getElem? (i := 16) rfl) rfl
theorem mc_X5_highestLevelWithin : Cond.code yX5_highestLevelWithin cX5_highestLevelWithin 4 (some .int) ∈ gT := sg4 (List.mem_of_getElem? (i := 17) rfl) rfl
theorem mm_X5_40 : Cond.methodLink RX5 40 yJ9_min_7cf53 ∈ gT := sg4 (List.mem_of_getElem? (i := 18) rfl) rfl
theorem mm_X2_182 : Cond.methodLink RX2 182 yX2_levelByBuffer ∈ gT := sg4 (List.mem_of_getElem? (i := 19) rfl) rfl
theorem mi_X2_levelByBuffer : Cond.instanceMethod yX2_levelByBuffer ∈ gT := sg4 (List.mem_of_getElem? (i := 21) rfl) rfl
theorem mc_X2_levelByBuffer : Cond.code yX2_levelByBuffer cX2_levelByBuffer 3 (some .int) ∈ gT := sg4 (List.mem_of_getElem? (i := 22) rfl) rfl
theorem mm_X2_185 : Cond.methodLink RX2 185 yX2_levelByBoth ∈ gT := sg4 (List.mem_of_getElem? (i := 23) rfl) rfl
theorem mi_X2_levelByBoth : Cond.instanceMethod yX2_levelByBoth ∈ gT := sg4 (List.mem_of_getElem? (i := 25) rfl) rfl
theorem mc_X2_levelByBoth : Cond.code yX2_levelByBoth cX2_levelByBoth 3 (some .int) ∈ gT := sg4 (List.mem_of_getElem? (i := 26) rfl) rfl
theorem mm_X2_110 : Cond.methodLink RX2 110 yX5_sizeOf ∈ gT := sg4 (List.mem_of_getElem? (i := 27) rfl) rfl
theorem mi_X5_sizeOf : Cond.instanceMethod yX5_sizeOf ∈ gT := sg4 (List.mem_of_getElem? (i := 28) rfl) rfl
theorem ms_X5_sizeOf : Cond.selects RX5 yX5_sizeOf yX5_sizeOf ∈ gT := sg4 (List.mem_of_getElem? (i := 29) rfl) rfl
theorem mc_X5_sizeOf : Cond.code yX5_sizeOf cX5_sizeOf 3 (some .int) ∈ gT := sg4 (List.mem_of_getElem? (i := 30) rfl) rfl
theorem mm_X5_49 : Cond.methodLink RX5 49 yX5_variationOf ∈ gT := sg4 (List.mem_of_getElem? (i := 31) rfl) rfl
theorem mj_X5_52 : Cond.constantLong RX5 52 (100) ∈ gT := sg4 (List.mem_of_getElem? (i := 32) rfl) rfl
theorem mm_X2_113 : Cond.methodLink RX2 113 yX1_start ∈ gT := sg4 (List.mem_of_getElem? (i := 33) rfl) rfl
theorem mi_X1_start : Cond.instanceMethod yX1_start ∈ gT := sg4 (List.mem_of_getElem? (i := 34) rfl) rfl
theorem ms_X1_start : Cond.selects RX1 yX1_start yX1_start ∈ gT := sg4 (List.mem_of_getElem? (i := 35) rfl) rfl
theorem mc_X1_start : Cond.code yX1_start cX1_start 3 none ∈ gT := sg4 (List.mem_of_getElem? (i := 36) rfl) rfl
theorem mm_X2_120 : Cond.methodLink RX2 120 yX0_rateAt ∈ gT := sg4 (List.mem_of_getElem? (i := 37) rfl) rfl
theorem mi_X0_rateAt : Cond.instanceMethod yX0_rateAt ∈ gT := sg4 (List.mem_of_getElem? (i := 38) rfl) rfl
theorem ms_X0_rateAt : Cond.selects RX0 yX0_rateAt yX0_rateAt ∈ gT := sg4 (List.mem_of_getElem? (i := 39) rfl) rfl
theorem mc_X0_rateAt : Cond.code yX0_rateAt cX0_rateAt 5 (some .int) ∈ gT := sg4 (List.mem_of_getElem? (i := 40) rfl) rfl
theorem mm_X0_22 : Cond.methodLink RX0 22 yJ9_min_7cf53 ∈ gT := sg4 (List.mem_of_getElem? (i := 41) rfl) rfl
theorem mm_X2_126 : Cond.methodLink RX2 126 yX1_receive ∈ gT := sg4 (List.mem_of_getElem? (i := 42) rfl) rfl
theorem mi_X1_receive : Cond.instanceMethod yX1_receive ∈ gT := sg4 (List.mem_of_getElem? (i := 43) rfl) rfl
theorem ms_X1_receive : Cond.selects RX1 yX1_receive yX1_receive ∈ gT := sg4 (List.mem_of_getElem? (i := 44) rfl) rfl
theorem mc_X1_receive : Cond.code yX1_receive cX1_receive 2 none ∈ gT := sg4 (List.mem_of_getElem? (i := 45) rfl) rfl
theorem mm_X2_129 : Cond.methodLink RX2 129 yX1_isComplete ∈ gT := sg4 (List.mem_of_getElem? (i := 46) rfl) rfl
theorem mi_X1_isComplete : Cond.instanceMethod yX1_isComplete ∈ gT := sg4 (List.mem_of_getElem? (i := 47) rfl) rfl
theorem ms_X1_isComplete : Cond.selects RX1 yX1_isComplete yX1_isComplete ∈ gT := sg4 (List.mem_of_getElem? (i := 48) rfl) rfl
theorem mc_X1_isComplete : Cond.code yX1_isComplete cX1_isComplete 1 (some .boolean) ∈ gT := sg4 (List.mem_of_getElem? (i := 49) rfl) rfl
theorem mm_X2_132 : Cond.methodLink RX2 132 yX2_completeSegment ∈ gT := sg4 (List.mem_of_getElem? (i := 50) rfl) rfl
theorem mi_X2_completeSegment : Cond.instanceMethod yX2_completeSegment ∈ gT := sg4 (List.mem_of_getElem? (i := 52) rfl) rfl
theorem mc_X2_completeSegment : Cond.code yX2_completeSegment cX2_completeSegment 2 none ∈ gT := sg4 (List.mem_of_getElem? (i := 53) rfl) rfl
theorem mm_X2_152 : Cond.methodLink RX2 152 yX1_throughput ∈ gT := sg4 (List.mem_of_getElem? (i := 54) rfl) rfl
theorem mi_X1_throughput : Cond.instanceMethod yX1_throughput ∈ gT := sg4 (List.mem_of_getElem? (i := 55) rfl) rfl
theorem ms_X1_throughput : Cond.selects RX1 yX1_throughput yX1_throughput ∈ gT := sg4 (List.mem_of_getElem? (i := 56) rfl) rfl
theorem mc_X1_throughput : Cond.code yX1_throughput cX1_throughput 1 (some .int) ∈ gT := sg4 (List.mem_of_getElem? (i := 57) rfl) rfl
theorem mm_X2_156 : Cond.methodLink RX2 156 yX4_add ∈ gT := sg4 (List.mem_of_getElem? (i := 58) rfl) rfl
theorem mi_X4_add : Cond.instanceMethod yX4_add ∈ gT := sg4 (List.mem_of_getElem? (i := 59) rfl) rfl
theorem ms_X4_add : Cond.selects RX4 yX4_add yX4_add ∈ gT := sg4 (List.mem_of_getElem? (i := 60) rfl) rfl
theorem mc_X4_add : Cond.code yX4_add cX4_add 3 none ∈ gT := sg4 (List.mem_of_getElem? (i := 61) rfl) rfl
theorem mm_X2_159 : Cond.methodLink RX2 159 yX5_bitrateOf ∈ gT := sg4 (List.mem_of_getElem? (i := 62) rfl) rfl
theorem mm_X2_135 : Cond.methodLink RX2 135 yX2_play ∈ gT := sg4 (List.mem_of_getElem? (i := 63) rfl) rfl
theorem mi_X2_play : Cond.instanceMethod yX2_play ∈ gT := sg4 (List.mem_of_getElem? (i := 65) rfl) rfl
theorem mc_X2_play : Cond.code yX2_play cX2_play 1 none ∈ gT := sg4 (List.mem_of_getElem? (i := 66) rfl) rfl
theorem mm_X2_162 : Cond.methodLink RX2 162 yX2_playIfReady ∈ gT := sg4 (List.mem_of_getElem? (i := 67) rfl) rfl
theorem mi_X2_playIfReady : Cond.instanceMethod yX2_playIfReady ∈ gT := sg4 (List.mem_of_getElem? (i := 69) rfl) rfl
theorem mc_X2_playIfReady : Cond.code yX2_playIfReady cX2_playIfReady 1 none ∈ gT := sg4 (List.mem_of_getElem? (i := 70) rfl) rfl
theorem mm_X2_165 : Cond.methodLink RX2 165 yX2_playMillisecond ∈ gT := sg4 (List.mem_of_getElem? (i := 71) rfl) rfl
theorem mi_X2_playMillisecond : Cond.instanceMethod yX2_playMillisecond ∈ gT := sg4 (List.mem_of_getElem? (i := 73) rfl) rfl
theorem mc_X2_playMillisecond : Cond.code yX2_playMillisecond cX2_playMillisecond 1 none ∈ gT := sg4 (List.mem_of_getElem? (i := 74) rfl) rfl
theorem mm_L_57 : Cond.methodLink RL 57 yX6_time ∈ gT := sg4 (List.mem_of_getElem? (i := 75) rfl) rfl
theorem mi_X6_time : Cond.instanceMethod yX6_time ∈ gT := sg4 (List.mem_of_getElem? (i := 76) rfl) rfl
theorem ms_X6_time : Cond.selects RX6 yX6_time yX6_time ∈ gT := sg4 (List.mem_of_getElem? (i := 77) rfl) rfl
theorem mc_X6_time : Cond.code yX6_time cX6_time 1 (some .int) ∈ gT := sg4 (List.mem_of_getElem? (i := 78) rfl) rfl
theorem mm_L_61 : Cond.methodLink RL 61 yX6_position ∈ gT := sg4 (List.mem_of_getElem? (i := 79) rfl) rfl
theorem mi_X6_position : Cond.instanceMethod yX6_position ∈ gT := sg4 (List.mem_of_getElem? (i := 80) rfl) rfl
theorem ms_X6_position : Cond.selects RX6 yX6_position yX6_position ∈ gT := sg4 (List.mem_of_getElem? (i := 81) rfl) rfl
theorem mc_X6_position : Cond.code yX6_position cX6_position 1 (some .int) ∈ gT := sg4 (List.mem_of_getElem? (i := 82) rfl) rfl
theorem mm_L_65 : Cond.methodLink RL 65 yX6_bufferLevel ∈ gT := sg4 (List.mem_of_getElem? (i := 83) rfl) rfl
theorem mi_X6_bufferLevel : Cond.instanceMethod yX6_bufferLevel ∈ gT := sg4 (List.mem_of_getElem? (i := 84) rfl) rfl
theorem ms_X6_bufferLevel : Cond.selects RX6 yX6_bufferLevel yX6_bufferLevel ∈ gT := sg4 (List.mem_of_getElem? (i := 85) rfl) rfl
theorem mc_X6_bufferLevel : Cond.code yX6_bufferLevel cX6_bufferLevel 1 (some .int) ∈ gT := sg4 (List.mem_of_getElem? (i := 86) rfl) rfl
theorem mm_L_69 : Cond.methodLink RL 69 yX6_state ∈ gT := sg4 (List.mem_of_getElem? (i := 87) rfl) rfl
theorem mi_X6_state : Cond.instanceMethod yX6_state ∈ gT := sg4 (List.mem_of_getElem? (i := 88) rfl) rfl
theorem ms_X6_state : Cond.selects RX6 yX6_state yX6_state ∈ gT := sg4 (List.mem_of_getElem? (i := 89) rfl) rfl
theorem mc_X6_state : Cond.code yX6_state cX6_state 1 (some .int) ∈ gT := sg4 (List.mem_of_getElem? (i := 90) rfl) rfl
theorem mm_L_73 : Cond.methodLink RL 73 yX6_isPaused ∈ gT := sg4 (List.mem_of_getElem? (i := 91) rfl) rfl
theorem mi_X6_isPaused : Cond.instanceMethod yX6_isPaused ∈ gT := sg4 (List.mem_of_getElem? (i := 92) rfl) rfl
theorem ms_X6_isPaused : Cond.selects RX6 yX6_isPaused yX6_isPaused ∈ gT := sg4 (List.mem_of_getElem? (i := 93) rfl) rfl
theorem mc_X6_isPaused : Cond.code yX6_isPaused cX6_isPaused 1 (some .int) ∈ gT := sg4 (List.mem_of_getElem? (i := 94) rfl) rfl
theorem mm_L_77 : Cond.methodLink RL 77 yX6_downloadingSegment ∈ gT := sg4 (List.mem_of_getElem? (i := 95) rfl) rfl
theorem mi_X6_downloadingSegment : Cond.instanceMethod yX6_downloadingSegment ∈ gT := sg4 (List.mem_of_getElem? (i := 96) rfl) rfl
theorem ms_X6_downloadingSegment : Cond.selects RX6 yX6_downloadingSegment yX6_downloadingSegment ∈ gT := sg4 (List.mem_of_getElem? (i := 97) rfl) rfl
theorem mc_X6_downloadingSegment : Cond.code yX6_downloadingSegment cX6_downloadingSegment 1 (some .int) ∈ gT := sg4 (List.mem_of_getElem? (i := 98) rfl) rfl
theorem mm_L_81 : Cond.methodLink RL 81 yX6_segmentLevel ∈ gT := sg4 (List.mem_of_getElem? (i := 99) rfl) rfl
theorem mi_X6_segmentLevel : Cond.instanceMethod yX6_segmentLevel ∈ gT := sg4 (List.mem_of_getElem? (i := 100) rfl) rfl
theorem ms_X6_segmentLevel : Cond.selects RX6 yX6_segmentLevel yX6_segmentLevel ∈ gT := sg4 (List.mem_of_getElem? (i := 101) rfl) rfl
theorem mc_X6_segmentLevel : Cond.code yX6_segmentLevel cX6_segmentLevel 2 (some .int) ∈ gT := sg4 (List.mem_of_getElem? (i := 102) rfl) rfl
theorem mm_X6_172 : Cond.methodLink RX6 172 yX2_completedLevelOf ∈ gT := sg4 (List.mem_of_getElem? (i := 103) rfl) rfl
theorem mi_X2_completedLevelOf : Cond.instanceMethod yX2_completedLevelOf ∈ gT := sg4 (List.mem_of_getElem? (i := 104) rfl) rfl
theorem ms_X2_completedLevelOf : Cond.selects RX2 yX2_completedLevelOf yX2_completedLevelOf ∈ gT := sg4 (List.mem_of_getElem? (i := 105) rfl) rfl
theorem mc_X2_completedLevelOf : Cond.code yX2_completedLevelOf cX2_completedLevelOf 2 (some .int) ∈ gT := sg4 (List.mem_of_getElem? (i := 106) rfl) rfl
theorem mm_L_85 : Cond.methodLink RL 85 yX6_throughputEstimate ∈ gT := sg4 (List.mem_of_getElem? (i := 107) rfl) rfl
theorem mi_X6_throughputEstimate : Cond.instanceMethod yX6_throughputEstimate ∈ gT := sg4 (List.mem_of_getElem? (i := 108) rfl) rfl
theorem ms_X6_throughputEstimate : Cond.selects RX6 yX6_throughputEstimate yX6_throughputEstimate ∈ gT := sg4 (List.mem_of_getElem? (i := 109) rfl) rfl
theorem mc_X6_throughputEstimate : Cond.code yX6_throughputEstimate cX6_throughputEstimate 1 (some .int) ∈ gT := sg4 (List.mem_of_getElem? (i := 110) rfl) rfl
theorem mm_X6_179 : Cond.methodLink RX6 179 yX4_estimate ∈ gT := sg4 (List.mem_of_getElem? (i := 111) rfl) rfl
theorem mm_L_89 : Cond.methodLink RL 89 yX6_switchCount ∈ gT := sg4 (List.mem_of_getElem? (i := 112) rfl) rfl
theorem mi_X6_switchCount : Cond.instanceMethod yX6_switchCount ∈ gT := sg4 (List.mem_of_getElem? (i := 113) rfl) rfl
theorem ms_X6_switchCount : Cond.selects RX6 yX6_switchCount yX6_switchCount ∈ gT := sg4 (List.mem_of_getElem? (i := 114) rfl) rfl
theorem mc_X6_switchCount : Cond.code yX6_switchCount cX6_switchCount 1 (some .int) ∈ gT := sg4 (List.mem_of_getElem? (i := 115) rfl) rfl
theorem mm_L_93 : Cond.methodLink RL 93 yX6_stallCount ∈ gT := sg4 (List.mem_of_getElem? (i := 116) rfl) rfl
theorem mi_X6_stallCount : Cond.instanceMethod yX6_stallCount ∈ gT := sg4 (List.mem_of_getElem? (i := 117) rfl) rfl
theorem ms_X6_stallCount : Cond.selects RX6 yX6_stallCount yX6_stallCount ∈ gT := sg4 (List.mem_of_getElem? (i := 118) rfl) rfl
theorem mc_X6_stallCount : Cond.code yX6_stallCount cX6_stallCount 1 (some .int) ∈ gT := sg4 (List.mem_of_getElem? (i := 119) rfl) rfl
theorem mm_L_97 : Cond.methodLink RL 97 yX6_stallTime ∈ gT := sg4 (List.mem_of_getElem? (i := 120) rfl) rfl
theorem mi_X6_stallTime : Cond.instanceMethod yX6_stallTime ∈ gT := sg4 (List.mem_of_getElem? (i := 121) rfl) rfl
theorem ms_X6_stallTime : Cond.selects RX6 yX6_stallTime yX6_stallTime ∈ gT := sg4 (List.mem_of_getElem? (i := 122) rfl) rfl
theorem mc_X6_stallTime : Cond.code yX6_stallTime cX6_stallTime 1 (some .int) ∈ gT := sg4 (List.mem_of_getElem? (i := 123) rfl) rfl
theorem mm_L_101 : Cond.methodLink RL 101 yX6_startupTime ∈ gT := sg4 (List.mem_of_getElem? (i := 124) rfl) rfl
theorem mi_X6_startupTime : Cond.instanceMethod yX6_startupTime ∈ gT := sg4 (List.mem_of_getElem? (i := 125) rfl) rfl
theorem ms_X6_startupTime : Cond.selects RX6 yX6_startupTime yX6_startupTime ∈ gT := sg4 (List.mem_of_getElem? (i := 126) rfl) rfl
theorem mc_X6_startupTime : Cond.code yX6_startupTime cX6_startupTime 1 (some .int) ∈ gT := sg4 (List.mem_of_getElem? (i := 127) rfl) rfl
theorem mm_L_105 : Cond.methodLink RL 105 yX6_bitrateSum ∈ gT := sg4 (List.mem_of_getElem? (i := 128) rfl) rfl
theorem mi_X6_bitrateSum : Cond.instanceMethod yX6_bitrateSum ∈ gT := sg4 (List.mem_of_getElem? (i := 129) rfl) rfl
theorem ms_X6_bitrateSum : Cond.selects RX6 yX6_bitrateSum yX6_bitrateSum ∈ gT := sg4 (List.mem_of_getElem? (i := 130) rfl) rfl
theorem mc_X6_bitrateSum : Cond.code yX6_bitrateSum cX6_bitrateSum 1 (some .int) ∈ gT := sg4 (List.mem_of_getElem? (i := 131) rfl) rfl
theorem mm_L_109 : Cond.methodLink RL 109 yX6_segmentSize ∈ gT := sg4 (List.mem_of_getElem? (i := 132) rfl) rfl
theorem mi_X6_segmentSize : Cond.instanceMethod yX6_segmentSize ∈ gT := sg4 (List.mem_of_getElem? (i := 133) rfl) rfl
theorem ms_X6_segmentSize : Cond.selects RX6 yX6_segmentSize yX6_segmentSize ∈ gT := sg4 (List.mem_of_getElem? (i := 134) rfl) rfl
theorem mc_X6_segmentSize : Cond.code yX6_segmentSize cX6_segmentSize 3 (some .int) ∈ gT := sg4 (List.mem_of_getElem? (i := 135) rfl) rfl
theorem mm_X6_199 : Cond.methodLink RX6 199 yX5_hasLevel ∈ gT := sg4 (List.mem_of_getElem? (i := 136) rfl) rfl
theorem mm_X6_202 : Cond.methodLink RX6 202 yX5_sizeOf ∈ gT := sg4 (List.mem_of_getElem? (i := 137) rfl) rfl
theorem mm_L_113 : Cond.methodLink RL 113 yX6_simulatedStallTime ∈ gT := sg4 (List.mem_of_getElem? (i := 138) rfl) rfl
theorem mi_X6_simulatedStallTime : Cond.instanceMethod yX6_simulatedStallTime ∈ gT := sg4 (List.mem_of_getElem? (i := 139) rfl) rfl
theorem ms_X6_simulatedStallTime : Cond.selects RX6 yX6_simulatedStallTime yX6_simulatedStallTime ∈ gT := sg4 (List.mem_of_getElem? (i := 140) rfl) rfl
theorem mc_X6_simulatedStallTime : Cond.code yX6_simulatedStallTime cX6_simulatedStallTime 3 (some .int) ∈ gT := sg4 (List.mem_of_getElem? (i := 141) rfl) rfl
theorem mm_X6_206 : Cond.methodLink RX6 206 yX6_simulationError ∈ gT := sg4 (List.mem_of_getElem? (i := 142) rfl) rfl
theorem mi_X6_simulationError : Cond.instanceMethod yX6_simulationError ∈ gT := sg4 (List.mem_of_getElem? (i := 144) rfl) rfl
theorem mc_X6_simulationError : Cond.code yX6_simulationError cX6_simulationError 2 (some .int) ∈ gT := sg4 (List.mem_of_getElem? (i := 145) rfl) rfl
theorem mm_X6_209 : Cond.methodLink RX6 209 yX2_playWhole ∈ gT := sg4 (List.mem_of_getElem? (i := 146) rfl) rfl
theorem mi_X2_playWhole : Cond.instanceMethod yX2_playWhole ∈ gT := sg4 (List.mem_of_getElem? (i := 147) rfl) rfl
theorem ms_X2_playWhole : Cond.selects RX2 yX2_playWhole yX2_playWhole ∈ gT := sg4 (List.mem_of_getElem? (i := 148) rfl) rfl
theorem mc_X2_playWhole : Cond.code yX2_playWhole cX2_playWhole 4 none ∈ gT := sg4 (List.mem_of_getElem? (i := 149) rfl) rfl
theorem mk_X2_97 : Cond.constant RX2 97 (120000) ∈ gT := sg4 (List.mem_of_getElem? (i := 150) rfl) rfl
theorem mm_X2_98 : Cond.methodLink RX2 98 yX2_passMillisecond ∈ gT := sg4 (List.mem_of_getElem? (i := 151) rfl) rfl
theorem mm_L_117 : Cond.methodLink RL 117 yX6_simulatedBitrateSum ∈ gT := sg4 (List.mem_of_getElem? (i := 152) rfl) rfl
theorem mi_X6_simulatedBitrateSum : Cond.instanceMethod yX6_simulatedBitrateSum ∈ gT := sg4 (List.mem_of_getElem? (i := 153) rfl) rfl
theorem ms_X6_simulatedBitrateSum : Cond.selects RX6 yX6_simulatedBitrateSum yX6_simulatedBitrateSum ∈ gT := sg4 (List.mem_of_getElem? (i := 154) rfl) rfl
theorem mc_X6_simulatedBitrateSum : Cond.code yX6_simulatedBitrateSum cX6_simulatedBitrateSum 3 (some .int) ∈ gT := sg4 (List.mem_of_getElem? (i := 155) rfl) rfl
theorem mm_L_121 : Cond.methodLink RL 121 yX6_bestSmoothLevel ∈ gT := sg4 (List.mem_of_getElem? (i := 156) rfl) rfl
theorem mi_X6_bestSmoothLevel : Cond.instanceMethod yX6_bestSmoothLevel ∈ gT := sg4 (List.mem_of_getElem? (i := 157) rfl) rfl
theorem ms_X6_bestSmoothLevel : Cond.selects RX6 yX6_bestSmoothLevel yX6_bestSmoothLevel ∈ gT := sg4 (List.mem_of_getElem? (i := 158) rfl) rfl
theorem mc_X6_bestSmoothLevel : Cond.code yX6_bestSmoothLevel cX6_bestSmoothLevel 2 (some .int) ∈ gT := sg4 (List.mem_of_getElem? (i := 159) rfl) rfl
theorem ml_L_10 : Cond.classLink RL 10 RX7 ∈ gT := sg4 (List.mem_of_getElem? (i := 160) rfl) rfl
theorem mq_X7 : Cond.instantiable RX7 20 ∈ gT := sg4 (List.mem_of_getElem? (i := 161) rfl) rfl
theorem mm_L_12 : Cond.methodLink RL 12 yX7_init ∈ gT := sg4 (List.mem_of_getElem? (i := 162) rfl) rfl
theorem mi_X7_init : Cond.instanceMethod yX7_init ∈ gT := sg4 (List.mem_of_getElem? (i := 163) rfl) rfl
theorem mc_X7_init : Cond.code yX7_init cX7_init 2 none ∈ gT := sg4 (List.mem_of_getElem? (i := 164) rfl) rfl
theorem mm_X7_1 : Cond.methodLink RX7 1 Lib.objectInit ∈ gT := sg4 (List.mem_of_getElem? (i := 165) rfl) rfl
theorem mm_X7_56 : Cond.methodLink RX7 56 yX7_begins ∈ gT := sg4 (List.mem_of_getElem? (i := 166) rfl) rfl
theorem mi_X7_begins : Cond.instanceMethod yX7_begins ∈ gT := sg4 (List.mem_of_getElem? (i := 168) rfl) rfl
theorem mc_X7_begins : Cond.code yX7_begins cX7_begins 2 none ∈ gT := sg4 (List.mem_of_getElem? (i := 169) rfl) rfl
theorem mf_X7_7 : Cond.fieldLink RX7 7 "AdaptivePlayerModel" "segments" "I" ∈ gT := sg4 (List.mem_of_getElem? (i := 170) rfl) rfl
theorem mf_X7_13 : Cond.fieldLink RX7 13 "AdaptivePlayerModel" "duration" "I" ∈ gT := sg4 (List.mem_of_getElem? (i := 171) rfl) rfl
theorem mf_X7_16 : Cond.fieldLink RX7 16 "AdaptivePlayerModel" "variation" "[I" ∈ gT := sg4 (List.mem_of_getElem? (i := 172) rfl) rfl
theorem mf_X7_63 : Cond.fieldLink RX7 63 "AdaptivePlayerModel" "levels" "I" ∈ gT := sg4 (List.mem_of_getElem? (i := 173) rfl) rfl
theorem mf_X7_20 : Cond.fieldLink RX7 20 "AdaptivePlayerModel" "bitrate" "[I" ∈ gT := sg4 (List.mem_of_getElem? (i := 174) rfl) rfl
theorem mf_X7_67 : Cond.fieldLink RX7 67 "AdaptivePlayerModel" "periods" "I" ∈ gT := sg4 (List.mem_of_getElem? (i := 175) rfl) rfl
theorem mf_X7_23 : Cond.fieldLink RX7 23 "AdaptivePlayerModel" "periodEnd" "[I" ∈ gT := sg4 (List.mem_of_getElem? (i := 176) rfl) rfl
theorem mf_X7_26 : Cond.fieldLink RX7 26 "AdaptivePlayerModel" "periodRate" "[I" ∈ gT := sg4 (List.mem_of_getElem? (i := 177) rfl) rfl
theorem mf_X7_29 : Cond.fieldLink RX7 29 "AdaptivePlayerModel" "maximum" "I" ∈ gT := sg4 (List.mem_of_getElem? (i := 178) rfl) rfl
theorem mf_X7_32 : Cond.fieldLink RX7 32 "AdaptivePlayerModel" "threshold" "I" ∈ gT := sg4 (List.mem_of_getElem? (i := 179) rfl) rfl
theorem mf_X7_35 : Cond.fieldLink RX7 35 "AdaptivePlayerModel" "safety" "I" ∈ gT := sg4 (List.mem_of_getElem? (i := 180) rfl) rfl
theorem mf_X7_38 : Cond.fieldLink RX7 38 "AdaptivePlayerModel" "reservoir" "I" ∈ gT := sg4 (List.mem_of_getElem? (i := 181) rfl) rfl
theorem mf_X7_41 : Cond.fieldLink RX7 41 "AdaptivePlayerModel" "cushion" "I" ∈ gT := sg4 (List.mem_of_getElem? (i := 182) rfl) rfl
theorem mf_X7_82 : Cond.fieldLink RX7 82 "AdaptivePlayerModel" "policy" "I" ∈ gT := sg4 (List.mem_of_getElem? (i := 183) rfl) rfl
theorem mf_X7_44 : Cond.fieldLink RX7 44 "AdaptivePlayerModel" "cap" "I" ∈ gT := sg4 (List.mem_of_getElem? (i := 184) rfl) rfl
theorem mf_X7_47 : Cond.fieldLink RX7 47 "AdaptivePlayerModel" "now" "[I" ∈ gT := sg4 (List.mem_of_getElem? (i := 185) rfl) rfl
theorem mf_X7_50 : Cond.fieldLink RX7 50 "AdaptivePlayerModel" "aside" "[I" ∈ gT := sg4 (List.mem_of_getElem? (i := 186) rfl) rfl
theorem mf_X7_70 : Cond.fieldLink RX7 70 "AdaptivePlayerModel" "keys" "I" ∈ gT := sg4 (List.mem_of_getElem? (i := 187) rfl) rfl
theorem mf_X7_53 : Cond.fieldLink RX7 53 "AdaptivePlayerModel" "key" "[I" ∈ gT := sg4 (List.mem_of_getElem? (i := 188) rfl) rfl
theorem mf_X7_73 : Cond.fieldLink RX7 73 "AdaptivePlayerModel" "typed" "I" ∈ gT := sg4 (List.mem_of_getElem? (i := 189) rfl) rfl
theorem mm_L_17 : Cond.methodLink RL 17 yX7_setVideo ∈ gT := sg4 (List.mem_of_getElem? (i := 231) rfl) rfl
theorem mi_X7_setVideo : Cond.instanceMethod yX7_setVideo ∈ gT := sg4 (List.mem_of_getElem? (i := 232) rfl) rfl
theorem ms_X7_setVideo : Cond.selects RX7 yX7_setVideo yX7_setVideo ∈ gT := sg4 (List.mem_of_getElem? (i := 233) rfl) rfl
theorem mc_X7_setVideo : Cond.code yX7_setVideo cX7_setVideo 4 (some .int) ∈ gT := sg4 (List.mem_of_getElem? (i := 234) rfl) rfl
theorem mm_X7_59 : Cond.methodLink RX7 59 yX7_within ∈ gT := sg4 (List.mem_of_getElem? (i := 235) rfl) rfl
theorem mt_X7_within : Cond.static yX7_within ∈ gT := sg4 (List.mem_of_getElem? (i := 236) rfl) rfl
theorem mc_X7_within : Cond.code yX7_within cX7_within 3 (some .boolean) ∈ gT := sg4 (List.mem_of_getElem? (i := 237) rfl) rfl
theorem mm_L_22 : Cond.methodLink RL 22 yX7_addLevel ∈ gT := sg4 (List.mem_of_getElem? (i := 238) rfl) rfl
theorem mi_X7_addLevel : Cond.instanceMethod yX7_addLevel ∈ gT := sg4 (List.mem_of_getElem? (i := 239) rfl) rfl
theorem ms_X7_addLevel : Cond.selects RX7 yX7_addLevel yX7_addLevel ∈ gT := sg5 (List.mem_of_getElem? (i := 0) rfl) rfl
theorem mc_X7_addLevel : Cond.code yX7_addLevel cX7_addLevel 2 (some .int) ∈ gT := sg5 (List.mem_of_getElem? (i := 1) rfl) rfl
theorem mm_L_26 : Cond.methodLink RL 26 yX7_setVariation ∈ gT := sg5 (List.mem_of_getElem? (i := 2) rfl) rfl
theorem mi_X7_setVariation : Cond.instanceMethod yX7_setVariation ∈ gT := sg5 (List.mem_of_getElem? (i := 3) rfl) rfl
theorem ms_X7_setVariation : Cond.selects RX7 yX7_setVariation yX7_setVariation ∈ gT := sg5 (List.mem_of_getElem? (i := 4) rfl) rfl
theorem mc_X7_setVariation : Cond.code yX7_setVariation cX7_setVariation 4 (some .int) ∈ gT := sg5 (List.mem_of_getElem? (i := 5) rfl) rfl
theorem mm_L_30 : Cond.methodLink RL 30 yX7_addPeriod ∈ gT := sg5 (List.mem_of_getElem? (i := 6) rfl) rfl
theorem mi_X7_addPeriod : Cond.instanceMethod yX7_addPeriod ∈ gT := sg5 (List.mem_of_getElem? (i := 7) rfl) rfl
theorem ms_X7_addPeriod : Cond.selects RX7 yX7_addPeriod yX7_addPeriod ∈ gT := sg5 (List.mem_of_getElem? (i := 8) rfl) rfl
theorem mc_X7_addPeriod : Cond.code yX7_addPeriod cX7_addPeriod 3 (some .int) ∈ gT := sg5 (List.mem_of_getElem? (i := 9) rfl) rfl
theorem mk_X7_66 : Cond.constant RX7 66 (60000) ∈ gT := sg5 (List.mem_of_getElem? (i := 10) rfl) rfl
theorem mm_L_34 : Cond.methodLink RL 34 yX7_setBuffer ∈ gT := sg5 (List.mem_of_getElem? (i := 11) rfl) rfl
theorem mi_X7_setBuffer : Cond.instanceMethod yX7_setBuffer ∈ gT := sg5 (List.mem_of_getElem? (i := 12) rfl) rfl
theorem ms_X7_setBuffer : Cond.selects RX7 yX7_setBuffer yX7_setBuffer ∈ gT := sg5 (List.mem_of_getElem? (i := 13) rfl) rfl
theorem mc_X7_setBuffer : Cond.code yX7_setBuffer cX7_setBuffer 4 (some .int) ∈ gT := sg5 (List.mem_of_getElem? (i := 14) rfl) rfl
theorem mm_L_39 : Cond.methodLink RL 39 yX7_setPolicyNumbers ∈ gT := sg5 (List.mem_of_getElem? (i := 15) rfl) rfl
theorem mi_X7_setPolicyNumbers : Cond.instanceMethod yX7_setPolicyNumbers ∈ gT := sg5 (List.mem_of_getElem? (i := 16) rfl) rfl
theorem ms_X7_setPolicyNumbers : Cond.selects RX7 yX7_setPolicyNumbers yX7_setPolicyNumbers ∈ gT := sg5 (List.mem_of_getElem? (i := 17) rfl) rfl
theorem mc_X7_setPolicyNumbers : Cond.code yX7_setPolicyNumbers cX7_setPolicyNumbers 5 (some .int) ∈ gT := sg5 (List.mem_of_getElem? (i := 18) rfl) rfl
theorem mm_L_43 : Cond.methodLink RL 43 yX7_typeKey ∈ gT := sg5 (List.mem_of_getElem? (i := 19) rfl) rfl
theorem mi_X7_typeKey : Cond.instanceMethod yX7_typeKey ∈ gT := sg5 (List.mem_of_getElem? (i := 20) rfl) rfl
theorem ms_X7_typeKey : Cond.selects RX7 yX7_typeKey yX7_typeKey ∈ gT := sg5 (List.mem_of_getElem? (i := 21) rfl) rfl
theorem mc_X7_typeKey : Cond.code yX7_typeKey cX7_typeKey 2 (some .int) ∈ gT := sg5 (List.mem_of_getElem? (i := 22) rfl) rfl
theorem mm_L_48 : Cond.methodLink RL 48 yX7_runCommand ∈ gT := sg5 (List.mem_of_getElem? (i := 23) rfl) rfl
theorem mi_X7_runCommand : Cond.instanceMethod yX7_runCommand ∈ gT := sg5 (List.mem_of_getElem? (i := 24) rfl) rfl
theorem ms_X7_runCommand : Cond.selects RX7 yX7_runCommand yX7_runCommand ∈ gT := sg5 (List.mem_of_getElem? (i := 25) rfl) rfl
theorem mc_X7_runCommand : Cond.code yX7_runCommand cX7_runCommand 1 (some .int) ∈ gT := sg5 (List.mem_of_getElem? (i := 26) rfl) rfl
theorem mj_X7_104 : Cond.constantLong RX7 104 (16151209032527) ∈ gT := sg5 (List.mem_of_getElem? (i := 27) rfl) rfl
theorem mm_X7_87 : Cond.methodLink RX7 87 yX7_has ∈ gT := sg5 (List.mem_of_getElem? (i := 28) rfl) rfl
theorem mi_X7_has : Cond.instanceMethod yX7_has ∈ gT := sg5 (List.mem_of_getElem? (i := 30) rfl) rfl
theorem mc_X7_has : Cond.code yX7_has cX7_has 9 (some .boolean) ∈ gT := sg5 (List.mem_of_getElem? (i := 31) rfl) rfl
theorem mj_X7_76 : Cond.constantLong RX7 76 (100) ∈ gT := sg5 (List.mem_of_getElem? (i := 32) rfl) rfl
theorem mm_X7_106 : Cond.methodLink RX7 106 yX7_policyFrom ∈ gT := sg5 (List.mem_of_getElem? (i := 33) rfl) rfl
theorem mi_X7_policyFrom : Cond.instanceMethod yX7_policyFrom ∈ gT := sg5 (List.mem_of_getElem? (i := 35) rfl) rfl
theorem mc_X7_policyFrom : Cond.code yX7_policyFrom cX7_policyFrom 3 (some .int) ∈ gT := sg5 (List.mem_of_getElem? (i := 36) rfl) rfl
theorem mj_X7_85 : Cond.constantLong RX7 85 (609240504) ∈ gT := sg5 (List.mem_of_getElem? (i := 37) rfl) rfl
theorem mm_X7_91 : Cond.methodLink RX7 91 yX7_setsPolicy ∈ gT := sg5 (List.mem_of_getElem? (i := 38) rfl) rfl
theorem mi_X7_setsPolicy : Cond.instanceMethod yX7_setsPolicy ∈ gT := sg5 (List.mem_of_getElem? (i := 40) rfl) rfl
theorem mc_X7_setsPolicy : Cond.code yX7_setsPolicy cX7_setsPolicy 3 (some .int) ∈ gT := sg5 (List.mem_of_getElem? (i := 41) rfl) rfl
theorem mj_X7_95 : Cond.constantLong RX7 95 (18012005) ∈ gT := sg5 (List.mem_of_getElem? (i := 42) rfl) rfl
theorem mj_X7_97 : Cond.constantLong RX7 97 (22106060518) ∈ gT := sg5 (List.mem_of_getElem? (i := 43) rfl) rfl
theorem mj_X7_99 : Cond.constantLong RX7 99 (82502180904) ∈ gT := sg5 (List.mem_of_getElem? (i := 44) rfl) rfl
theorem mj_X7_109 : Cond.constantLong RX7 109 (3011627) ∈ gT := sg5 (List.mem_of_getElem? (i := 45) rfl) rfl
theorem mm_X7_111 : Cond.methodLink RX7 111 yX7_capFrom ∈ gT := sg5 (List.mem_of_getElem? (i := 46) rfl) rfl
theorem mi_X7_capFrom : Cond.instanceMethod yX7_capFrom ∈ gT := sg5 (List.mem_of_getElem? (i := 48) rfl) rfl
theorem mc_X7_capFrom : Cond.code yX7_capFrom cX7_capFrom 4 (some .int) ∈ gT := sg5 (List.mem_of_getElem? (i := 49) rfl) rfl
theorem mm_X7_101 : Cond.methodLink RX7 101 yX7_numberFrom ∈ gT := sg5 (List.mem_of_getElem? (i := 50) rfl) rfl
theorem mi_X7_numberFrom : Cond.instanceMethod yX7_numberFrom ∈ gT := sg5 (List.mem_of_getElem? (i := 52) rfl) rfl
theorem mc_X7_numberFrom : Cond.code yX7_numberFrom cX7_numberFrom 3 (some .int) ∈ gT := sg5 (List.mem_of_getElem? (i := 53) rfl) rfl
theorem mm_X7_78 : Cond.methodLink RX7 78 yX7_isDigit ∈ gT := sg5 (List.mem_of_getElem? (i := 54) rfl) rfl
theorem mi_X7_isDigit : Cond.instanceMethod yX7_isDigit ∈ gT := sg5 (List.mem_of_getElem? (i := 56) rfl) rfl
theorem mc_X7_isDigit : Cond.code yX7_isDigit cX7_isDigit 2 (some .boolean) ∈ gT := sg5 (List.mem_of_getElem? (i := 57) rfl) rfl
theorem mj_X7_114 : Cond.constantLong RX7 114 (1905051127) ∈ gT := sg5 (List.mem_of_getElem? (i := 58) rfl) rfl
theorem mm_X7_116 : Cond.methodLink RX7 116 yX7_seekFrom ∈ gT := sg5 (List.mem_of_getElem? (i := 59) rfl) rfl
theorem mi_X7_seekFrom : Cond.instanceMethod yX7_seekFrom ∈ gT := sg5 (List.mem_of_getElem? (i := 61) rfl) rfl
theorem mc_X7_seekFrom : Cond.code yX7_seekFrom cX7_seekFrom 3 (some .int) ∈ gT := sg5 (List.mem_of_getElem? (i := 62) rfl) rfl
theorem mj_X7_119 : Cond.constantLong RX7 119 (1601211905) ∈ gT := sg5 (List.mem_of_getElem? (i := 63) rfl) rfl
theorem mm_X7_121 : Cond.methodLink RX7 121 yX7_pauses ∈ gT := sg5 (List.mem_of_getElem? (i := 64) rfl) rfl
theorem mi_X7_pauses : Cond.instanceMethod yX7_pauses ∈ gT := sg5 (List.mem_of_getElem? (i := 66) rfl) rfl
theorem mc_X7_pauses : Cond.code yX7_pauses cX7_pauses 3 (some .int) ∈ gT := sg5 (List.mem_of_getElem? (i := 67) rfl) rfl
theorem mj_X7_124 : Cond.constantLong RX7 124 (16120125) ∈ gT := sg5 (List.mem_of_getElem? (i := 68) rfl) rfl
theorem mm_L_52 : Cond.methodLink RL 52 yX7_restart ∈ gT := sg5 (List.mem_of_getElem? (i := 69) rfl) rfl
theorem mi_X7_restart : Cond.instanceMethod yX7_restart ∈ gT := sg5 (List.mem_of_getElem? (i := 70) rfl) rfl
theorem ms_X7_restart : Cond.selects RX7 yX7_restart yX7_restart ∈ gT := sg5 (List.mem_of_getElem? (i := 71) rfl) rfl
theorem mc_X7_restart : Cond.code yX7_restart cX7_restart 2 (some .int) ∈ gT := sg5 (List.mem_of_getElem? (i := 72) rfl) rfl
theorem mm_L_56 : Cond.methodLink RL 56 yX7_advance ∈ gT := sg5 (List.mem_of_getElem? (i := 73) rfl) rfl
theorem mi_X7_advance : Cond.instanceMethod yX7_advance ∈ gT := sg5 (List.mem_of_getElem? (i := 74) rfl) rfl
theorem ms_X7_advance : Cond.selects RX7 yX7_advance yX7_advance ∈ gT := sg5 (List.mem_of_getElem? (i := 75) rfl) rfl
theorem mc_X7_advance : Cond.code yX7_advance cX7_advance 4 (some .int) ∈ gT := sg5 (List.mem_of_getElem? (i := 76) rfl) rfl
theorem mm_X7_168 : Cond.methodLink RX7 168 yX7_passes ∈ gT := sg5 (List.mem_of_getElem? (i := 77) rfl) rfl
theorem mi_X7_passes : Cond.instanceMethod yX7_passes ∈ gT := sg5 (List.mem_of_getElem? (i := 79) rfl) rfl
theorem mc_X7_passes : Cond.code yX7_passes cX7_passes 2 none ∈ gT := sg5 (List.mem_of_getElem? (i := 80) rfl) rfl
theorem mm_X7_155 : Cond.methodLink RX7 155 yX7_startsDownload ∈ gT := sg5 (List.mem_of_getElem? (i := 81) rfl) rfl
theorem mi_X7_startsDownload : Cond.instanceMethod yX7_startsDownload ∈ gT := sg5 (List.mem_of_getElem? (i := 83) rfl) rfl
theorem mc_X7_startsDownload : Cond.code yX7_startsDownload cX7_startsDownload 2 none ∈ gT := sg5 (List.mem_of_getElem? (i := 84) rfl) rfl
theorem mm_X7_142 : Cond.methodLink RX7 142 yX7_chosen ∈ gT := sg5 (List.mem_of_getElem? (i := 85) rfl) rfl
theorem mi_X7_chosen : Cond.instanceMethod yX7_chosen ∈ gT := sg5 (List.mem_of_getElem? (i := 87) rfl) rfl
theorem mc_X7_chosen : Cond.code yX7_chosen cX7_chosen 2 (some .int) ∈ gT := sg5 (List.mem_of_getElem? (i := 88) rfl) rfl
theorem mm_X7_130 : Cond.methodLink RX7 130 yX7_highest ∈ gT := sg5 (List.mem_of_getElem? (i := 89) rfl) rfl
theorem mi_X7_highest : Cond.instanceMethod yX7_highest ∈ gT := sg5 (List.mem_of_getElem? (i := 91) rfl) rfl
theorem mc_X7_highest : Cond.code yX7_highest cX7_highest 1 (some .int) ∈ gT := sg5 (List.mem_of_getElem? (i := 92) rfl) rfl
theorem mm_X7_133 : Cond.methodLink RX7 133 yX7_levelByRate ∈ gT := sg5 (List.mem_of_getElem? (i := 93) rfl) rfl
theorem mi_X7_levelByRate : Cond.instanceMethod yX7_levelByRate ∈ gT := sg5 (List.mem_of_getElem? (i := 95) rfl) rfl
theorem mc_X7_levelByRate : Cond.code yX7_levelByRate cX7_levelByRate 4 (some .int) ∈ gT := sg5 (List.mem_of_getElem? (i := 96) rfl) rfl
theorem mm_X7_126 : Cond.methodLink RX7 126 yX7_estimate ∈ gT := sg5 (List.mem_of_getElem? (i := 97) rfl) rfl
theorem mi_X7_estimate : Cond.instanceMethod yX7_estimate ∈ gT := sg5 (List.mem_of_getElem? (i := 99) rfl) rfl
theorem mc_X7_estimate : Cond.code yX7_estimate cX7_estimate 4 (some .int) ∈ gT := sg5 (List.mem_of_getElem? (i := 100) rfl) rfl
theorem mm_X7_136 : Cond.methodLink RX7 136 yX7_levelByBuffer ∈ gT := sg5 (List.mem_of_getElem? (i := 101) rfl) rfl
theorem mi_X7_levelByBuffer : Cond.instanceMethod yX7_levelByBuffer ∈ gT := sg5 (List.mem_of_getElem? (i := 103) rfl) rfl
theorem mc_X7_levelByBuffer : Cond.code yX7_levelByBuffer cX7_levelByBuffer 2 (some .int) ∈ gT := sg5 (List.mem_of_getElem? (i := 104) rfl) rfl
theorem mm_X7_139 : Cond.methodLink RX7 139 yX7_levelOfBoth ∈ gT := sg5 (List.mem_of_getElem? (i := 105) rfl) rfl
theorem mi_X7_levelOfBoth : Cond.instanceMethod yX7_levelOfBoth ∈ gT := sg5 (List.mem_of_getElem? (i := 107) rfl) rfl
theorem mc_X7_levelOfBoth : Cond.code yX7_levelOfBoth cX7_levelOfBoth 2 (some .int) ∈ gT := sg5 (List.mem_of_getElem? (i := 108) rfl) rfl
theorem mm_X7_145 : Cond.methodLink RX7 145 yX7_sizeOf ∈ gT := sg5 (List.mem_of_getElem? (i := 109) rfl) rfl
theorem mi_X7_sizeOf : Cond.instanceMethod yX7_sizeOf ∈ gT := sg5 (List.mem_of_getElem? (i := 111) rfl) rfl
theorem mc_X7_sizeOf : Cond.code yX7_sizeOf cX7_sizeOf 3 (some .int) ∈ gT := sg5 (List.mem_of_getElem? (i := 112) rfl) rfl
theorem mm_X7_159 : Cond.methodLink RX7 159 yX7_receives ∈ gT := sg5 (List.mem_of_getElem? (i := 113) rfl) rfl
theorem mi_X7_receives : Cond.instanceMethod yX7_receives ∈ gT := sg5 (List.mem_of_getElem? (i := 115) rfl) rfl
theorem mc_X7_receives : Cond.code yX7_receives cX7_receives 1 none ∈ gT := sg5 (List.mem_of_getElem? (i := 116) rfl) rfl
theorem mm_X7_149 : Cond.methodLink RX7 149 yX7_rateAt ∈ gT := sg5 (List.mem_of_getElem? (i := 117) rfl) rfl
theorem mi_X7_rateAt : Cond.instanceMethod yX7_rateAt ∈ gT := sg5 (List.mem_of_getElem? (i := 119) rfl) rfl
theorem mc_X7_rateAt : Cond.code yX7_rateAt cX7_rateAt 3 (some .int) ∈ gT := sg5 (List.mem_of_getElem? (i := 120) rfl) rfl
theorem mm_X7_152 : Cond.methodLink RX7 152 yX7_completes ∈ gT := sg5 (List.mem_of_getElem? (i := 121) rfl) rfl
theorem mi_X7_completes : Cond.instanceMethod yX7_completes ∈ gT := sg5 (List.mem_of_getElem? (i := 123) rfl) rfl
theorem mc_X7_completes : Cond.code yX7_completes cX7_completes 1 none ∈ gT := sg5 (List.mem_of_getElem? (i := 124) rfl) rfl
theorem mm_X7_162 : Cond.methodLink RX7 162 yX7_plays ∈ gT := sg5 (List.mem_of_getElem? (i := 125) rfl) rfl
theorem mi_X7_plays : Cond.instanceMethod yX7_plays ∈ gT := sg5 (List.mem_of_getElem? (i := 127) rfl) rfl
theorem mc_X7_plays : Cond.code yX7_plays cX7_plays 2 none ∈ gT := sg5 (List.mem_of_getElem? (i := 128) rfl) rfl
theorem mm_X7_165 : Cond.methodLink RX7 165 yX7_waits ∈ gT := sg5 (List.mem_of_getElem? (i := 129) rfl) rfl
theorem mi_X7_waits : Cond.instanceMethod yX7_waits ∈ gT := sg5 (List.mem_of_getElem? (i := 131) rfl) rfl
theorem mc_X7_waits : Cond.code yX7_waits cX7_waits 1 none ∈ gT := sg5 (List.mem_of_getElem? (i := 132) rfl) rfl
theorem mm_L_60 : Cond.methodLink RL 60 yX7_time ∈ gT := sg5 (List.mem_of_getElem? (i := 133) rfl) rfl
theorem mi_X7_time : Cond.instanceMethod yX7_time ∈ gT := sg5 (List.mem_of_getElem? (i := 134) rfl) rfl
theorem ms_X7_time : Cond.selects RX7 yX7_time yX7_time ∈ gT := sg5 (List.mem_of_getElem? (i := 135) rfl) rfl
theorem mc_X7_time : Cond.code yX7_time cX7_time 1 (some .int) ∈ gT := sg5 (List.mem_of_getElem? (i := 136) rfl) rfl
theorem mm_L_64 : Cond.methodLink RL 64 yX7_position ∈ gT := sg5 (List.mem_of_getElem? (i := 137) rfl) rfl
theorem mi_X7_position : Cond.instanceMethod yX7_position ∈ gT := sg5 (List.mem_of_getElem? (i := 138) rfl) rfl
theorem ms_X7_position : Cond.selects RX7 yX7_position yX7_position ∈ gT := sg5 (List.mem_of_getElem? (i := 139) rfl) rfl
theorem mc_X7_position : Cond.code yX7_position cX7_position 1 (some .int) ∈ gT := sg5 (List.mem_of_getElem? (i := 140) rfl) rfl
theorem mm_L_68 : Cond.methodLink RL 68 yX7_bufferLevel ∈ gT := sg5 (List.mem_of_getElem? (i := 141) rfl) rfl
theorem mi_X7_bufferLevel : Cond.instanceMethod yX7_bufferLevel ∈ gT := sg5 (List.mem_of_getElem? (i := 142) rfl) rfl
theorem ms_X7_bufferLevel : Cond.selects RX7 yX7_bufferLevel yX7_bufferLevel ∈ gT := sg5 (List.mem_of_getElem? (i := 143) rfl) rfl
theorem mc_X7_bufferLevel : Cond.code yX7_bufferLevel cX7_bufferLevel 1 (some .int) ∈ gT := sg5 (List.mem_of_getElem? (i := 144) rfl) rfl
theorem mm_L_72 : Cond.methodLink RL 72 yX7_state ∈ gT := sg5 (List.mem_of_getElem? (i := 145) rfl) rfl
theorem mi_X7_state : Cond.instanceMethod yX7_state ∈ gT := sg5 (List.mem_of_getElem? (i := 146) rfl) rfl
theorem ms_X7_state : Cond.selects RX7 yX7_state yX7_state ∈ gT := sg5 (List.mem_of_getElem? (i := 147) rfl) rfl
theorem mc_X7_state : Cond.code yX7_state cX7_state 1 (some .int) ∈ gT := sg5 (List.mem_of_getElem? (i := 148) rfl) rfl
theorem mm_L_76 : Cond.methodLink RL 76 yX7_isPaused ∈ gT := sg5 (List.mem_of_getElem? (i := 149) rfl) rfl
theorem mi_X7_isPaused : Cond.instanceMethod yX7_isPaused ∈ gT := sg5 (List.mem_of_getElem? (i := 150) rfl) rfl
theorem ms_X7_isPaused : Cond.selects RX7 yX7_isPaused yX7_isPaused ∈ gT := sg5 (List.mem_of_getElem? (i := 151) rfl) rfl
theorem mc_X7_isPaused : Cond.code yX7_isPaused cX7_isPaused 1 (some .int) ∈ gT := sg5 (List.mem_of_getElem? (i := 152) rfl) rfl
theorem mm_L_80 : Cond.methodLink RL 80 yX7_downloadingSegment ∈ gT := sg5 (List.mem_of_getElem? (i := 153) rfl) rfl
theorem mi_X7_downloadingSegment : Cond.instanceMethod yX7_downloadingSegment ∈ gT := sg5 (List.mem_of_getElem? (i := 154) rfl) rfl
theorem ms_X7_downloadingSegment : Cond.selects RX7 yX7_downloadingSegment yX7_downloadingSegment ∈ gT := sg5 (List.mem_of_getElem? (i := 155) rfl) rfl
theorem mc_X7_downloadingSegment : Cond.code yX7_downloadingSegment cX7_downloadingSegment 1 (some .int) ∈ gT := sg5 (List.mem_of_getElem? (i := 156) rfl) rfl
theorem mm_L_84 : Cond.methodLink RL 84 yX7_segmentLevel ∈ gT := sg5 (List.mem_of_getElem? (i := 157) rfl) rfl
theorem mi_X7_segmentLevel : Cond.instanceMethod yX7_segmentLevel ∈ gT := sg5 (List.mem_of_getElem? (i := 158) rfl) rfl
theorem ms_X7_segmentLevel : Cond.selects RX7 yX7_segmentLevel yX7_segmentLevel ∈ gT := sg5 (List.mem_of_getElem? (i := 159) rfl) rfl
theorem mc_X7_segmentLevel : Cond.code yX7_segmentLevel cX7_segmentLevel 2 (some .int) ∈ gT := sg5 (List.mem_of_getElem? (i := 160) rfl) rfl
theorem mm_L_88 : Cond.methodLink RL 88 yX7_throughputEstimate ∈ gT := sg5 (List.mem_of_getElem? (i := 161) rfl) rfl
theorem mi_X7_throughputEstimate : Cond.instanceMethod yX7_throughputEstimate ∈ gT := sg5 (List.mem_of_getElem? (i := 162) rfl) rfl
theorem ms_X7_throughputEstimate : Cond.selects RX7 yX7_throughputEstimate yX7_throughputEstimate ∈ gT := sg5 (List.mem_of_getElem? (i := 163) rfl) rfl
theorem mc_X7_throughputEstimate : Cond.code yX7_throughputEstimate cX7_throughputEstimate 1 (some .int) ∈ gT := sg5 (List.mem_of_getElem? (i := 164) rfl) rfl
theorem mm_L_92 : Cond.methodLink RL 92 yX7_switchCount ∈ gT := sg5 (List.mem_of_getElem? (i := 165) rfl) rfl
theorem mi_X7_switchCount : Cond.instanceMethod yX7_switchCount ∈ gT := sg5 (List.mem_of_getElem? (i := 166) rfl) rfl
theorem ms_X7_switchCount : Cond.selects RX7 yX7_switchCount yX7_switchCount ∈ gT := sg5 (List.mem_of_getElem? (i := 167) rfl) rfl
theorem mc_X7_switchCount : Cond.code yX7_switchCount cX7_switchCount 1 (some .int) ∈ gT := sg5 (List.mem_of_getElem? (i := 168) rfl) rfl
theorem mm_L_96 : Cond.methodLink RL 96 yX7_stallCount ∈ gT := sg5 (List.mem_of_getElem? (i := 169) rfl) rfl
theorem mi_X7_stallCount : Cond.instanceMethod yX7_stallCount ∈ gT := sg5 (List.mem_of_getElem? (i := 170) rfl) rfl
theorem ms_X7_stallCount : Cond.selects RX7 yX7_stallCount yX7_stallCount ∈ gT := sg5 (List.mem_of_getElem? (i := 171) rfl) rfl
theorem mc_X7_stallCount : Cond.code yX7_stallCount cX7_stallCount 1 (some .int) ∈ gT := sg5 (List.mem_of_getElem? (i := 172) rfl) rfl
theorem mm_L_100 : Cond.methodLink RL 100 yX7_stallTime ∈ gT := sg5 (List.mem_of_getElem? (i := 173) rfl) rfl
theorem mi_X7_stallTime : Cond.instanceMethod yX7_stallTime ∈ gT := sg5 (List.mem_of_getElem? (i := 174) rfl) rfl
theorem ms_X7_stallTime : Cond.selects RX7 yX7_stallTime yX7_stallTime ∈ gT := sg5 (List.mem_of_getElem? (i := 175) rfl) rfl
theorem mc_X7_stallTime : Cond.code yX7_stallTime cX7_stallTime 1 (some .int) ∈ gT := sg5 (List.mem_of_getElem? (i := 176) rfl) rfl
theorem mm_L_104 : Cond.methodLink RL 104 yX7_startupTime ∈ gT := sg5 (List.mem_of_getElem? (i := 177) rfl) rfl
theorem mi_X7_startupTime : Cond.instanceMethod yX7_startupTime ∈ gT := sg5 (List.mem_of_getElem? (i := 178) rfl) rfl
theorem ms_X7_startupTime : Cond.selects RX7 yX7_startupTime yX7_startupTime ∈ gT := sg5 (List.mem_of_getElem? (i := 179) rfl) rfl
theorem mc_X7_startupTime : Cond.code yX7_startupTime cX7_startupTime 1 (some .int) ∈ gT := sg5 (List.mem_of_getElem? (i := 180) rfl) rfl
theorem mm_L_108 : Cond.methodLink RL 108 yX7_bitrateSum ∈ gT := sg5 (List.mem_of_getElem? (i := 181) rfl) rfl
theorem mi_X7_bitrateSum : Cond.instanceMethod yX7_bitrateSum ∈ gT := sg5 (List.mem_of_getElem? (i := 182) rfl) rfl
theorem ms_X7_bitrateSum : Cond.selects RX7 yX7_bitrateSum yX7_bitrateSum ∈ gT := sg5 (List.mem_of_getElem? (i := 183) rfl) rfl
theorem mc_X7_bitrateSum : Cond.code yX7_bitrateSum cX7_bitrateSum 1 (some .int) ∈ gT := sg5 (List.mem_of_getElem? (i := 184) rfl) rfl
theorem mm_L_112 : Cond.methodLink RL 112 yX7_segmentSize ∈ gT := sg5 (List.mem_of_getElem? (i := 185) rfl) rfl
theorem mi_X7_segmentSize : Cond.instanceMethod yX7_segmentSize ∈ gT := sg5 (List.mem_of_getElem? (i := 186) rfl) rfl
theorem ms_X7_segmentSize : Cond.selects RX7 yX7_segmentSize yX7_segmentSize ∈ gT := sg5 (List.mem_of_getElem? (i := 187) rfl) rfl
theorem mc_X7_segmentSize : Cond.code yX7_segmentSize cX7_segmentSize 3 (some .int) ∈ gT := sg5 (List.mem_of_getElem? (i := 188) rfl) rfl
theorem mm_L_116 : Cond.methodLink RL 116 yX7_simulatedStallTime ∈ gT := sg5 (List.mem_of_getElem? (i := 189) rfl) rfl
theorem mi_X7_simulatedStallTime : Cond.instanceMethod yX7_simulatedStallTime ∈ gT := sg5 (List.mem_of_getElem? (i := 190) rfl) rfl
theorem ms_X7_simulatedStallTime : Cond.selects RX7 yX7_simulatedStallTime yX7_simulatedStallTime ∈ gT := sg5 (List.mem_of_getElem? (i := 191) rfl) rfl
theorem mc_X7_simulatedStallTime : Cond.code yX7_simulatedStallTime cX7_simulatedStallTime 2 (some .int) ∈ gT := sg5 (List.mem_of_getElem? (i := 192) rfl) rfl
theorem mm_X7_181 : Cond.methodLink RX7 181 yX7_simulated ∈ gT := sg5 (List.mem_of_getElem? (i := 193) rfl) rfl
theorem mi_X7_simulated : Cond.instanceMethod yX7_simulated ∈ gT := sg5 (List.mem_of_getElem? (i := 195) rfl) rfl
theorem mc_X7_simulated : Cond.code yX7_simulated cX7_simulated 4 (some .int) ∈ gT := sg5 (List.mem_of_getElem? (i := 196) rfl) rfl
theorem mm_X7_172 : Cond.methodLink RX7 172 yX7_setsAside ∈ gT := sg5 (List.mem_of_getElem? (i := 197) rfl) rfl
theorem mi_X7_setsAside : Cond.instanceMethod yX7_setsAside ∈ gT := sg5 (List.mem_of_getElem? (i := 199) rfl) rfl
theorem mc_X7_setsAside : Cond.code yX7_setsAside cX7_setsAside 2 none ∈ gT := sg5 (List.mem_of_getElem? (i := 200) rfl) rfl
theorem mm_X7_175 : Cond.methodLink RX7 175 yX7_simulates ∈ gT := sg5 (List.mem_of_getElem? (i := 201) rfl) rfl
theorem mi_X7_simulates : Cond.instanceMethod yX7_simulates ∈ gT := sg5 (List.mem_of_getElem? (i := 203) rfl) rfl
theorem mc_X7_simulates : Cond.code yX7_simulates cX7_simulates 2 none ∈ gT := sg5 (List.mem_of_getElem? (i := 204) rfl) rfl
theorem mk_X7_171 : Cond.constant RX7 171 (120000) ∈ gT := sg5 (List.mem_of_getElem? (i := 205) rfl) rfl
theorem mm_X7_178 : Cond.methodLink RX7 178 yX7_takesBack ∈ gT := sg5 (List.mem_of_getElem? (i := 206) rfl) rfl
theorem mi_X7_takesBack : Cond.instanceMethod yX7_takesBack ∈ gT := sg5 (List.mem_of_getElem? (i := 208) rfl) rfl
theorem mc_X7_takesBack : Cond.code yX7_takesBack cX7_takesBack 2 none ∈ gT := sg5 (List.mem_of_getElem? (i := 209) rfl) rfl
theorem mm_L_120 : Cond.methodLink RL 120 yX7_simulatedBitrateSum ∈ gT := sg5 (List.mem_of_getElem? (i := 210) rfl) rfl
theorem mi_X7_simulatedBitrateSum : Cond.instanceMethod yX7_simulatedBitrateSum ∈ gT := sg5 (List.mem_of_getElem? (i := 211) rfl) rfl
theorem ms_X7_simulatedBitrateSum : Cond.selects RX7 yX7_simulatedBitrateSum yX7_simulatedBitrateSum ∈ gT := sg5 (List.mem_of_getElem? (i := 212) rfl) rfl
theorem mc_X7_simulatedBitrateSum : Cond.code yX7_simulatedBitrateSum cX7_simulatedBitrateSum 2 (some .int) ∈ gT := sg5 (List.mem_of_getElem? (i := 213) rfl) rfl
theorem mm_L_124 : Cond.methodLink RL 124 yX7_bestSmoothLevel ∈ gT := sg5 (List.mem_of_getElem? (i := 214) rfl) rfl
theorem mi_X7_bestSmoothLevel : Cond.instanceMethod yX7_bestSmoothLevel ∈ gT := sg5 (List.mem_of_getElem? (i := 215) rfl) rfl
theorem ms_X7_bestSmoothLevel : Cond.selects RX7 yX7_bestSmoothLevel yX7_bestSmoothLevel ∈ gT := sg5 (List.mem_of_getElem? (i := 216) rfl) rfl
theorem mc_X7_bestSmoothLevel : Cond.code yX7_bestSmoothLevel cX7_bestSmoothLevel 4 (some .int) ∈ gT := sg5 (List.mem_of_getElem? (i := 217) rfl) rfl
theorem ms_J4_J5_length_8abf5_J4_length_8abf5 : Cond.selects RJ4 yJ5_length_8abf5 yJ4_length_8abf5 ∈ gT := sg5 (List.mem_of_getElem? (i := 223) rfl) rfl
theorem inX0 : ∀ w ∈ u_ws RX0 TX0 3, w ∈ gT := show ∀ w ∈ ([u_lay RX0 TX0 0, u_lay RX0 TX0 1, u_lay RX0 TX0 2] : List Cond), w ∈ gT from List.forall_mem_cons.mpr ⟨sg1 (List.mem_of_getElem? (i := 69) rfl) rfl, List.forall_mem_cons.mpr ⟨sg1 (List.mem_of_getElem? (i := 71) rfl) rfl, List.forall_mem_cons.mpr ⟨sg1 (List.mem_of_getElem? (i := 73) rfl) rfl, fun _ h => absurd h List.not_mem_nil⟩⟩⟩
theorem inX1 : ∀ w ∈ u_ws RX1 TX1 5, w ∈ gT := show ∀ w ∈ ([u_lay RX1 TX1 0, u_lay RX1 TX1 1, u_lay RX1 TX1 2, u_lay RX1 TX1 3, u_lay RX1 TX1 4] : List Cond), w ∈ gT from List.forall_mem_cons.mpr ⟨sg1 (List.mem_of_getElem? (i := 136) rfl) rfl, List.forall_mem_cons.mpr ⟨sg1 (List.mem_of_getElem? (i := 138) rfl) rfl, List.forall_mem_cons.mpr ⟨sg1 (List.mem_of_getElem? (i := 140) rfl) rfl, List.forall_mem_cons.mpr ⟨sg1 (List.mem_of_getElem? (i := 142) rfl) rfl, List.forall_mem_cons.mpr ⟨sg1 (List.mem_of_getElem? (i := 144) rfl) rfl, fun _ h => absurd h List.not_mem_nil⟩⟩⟩⟩⟩
theorem inX2 : ∀ w ∈ u_ws RX2 TX2 18, w ∈ gT := show ∀ w ∈ ([u_lay RX2 TX2 0, u_lay RX2 TX2 1, u_lay RX2 TX2 2, u_lay RX2 TX2 3, u_lay RX2 TX2 4, u_lay RX2 TX2 5, u_lay RX2 TX2 6, u_lay RX2 TX2 7, u_lay RX2 TX2 8, u_lay RX2 TX2 9, u_lay RX2 TX2 10, u_lay RX2 TX2 11, u_lay RX2 TX2 12, u_lay RX2 TX2 13, u_lay RX2 TX2 14, u_lay RX2 TX2 15, u_lay RX2 TX2 16, u_lay RX2 TX2 17] : List Cond), w ∈ gT from List.forall_mem_cons.mpr ⟨sg1 (List.mem_of_getElem? (i := 194) rfl) rfl, List.forall_mem_cons.mpr ⟨sg1 (List.mem_of_getElem? (i := 196) rfl) rfl, List.forall_mem_cons.mpr ⟨sg1 (List.mem_of_getElem? (i := 198) rfl) rfl, List.forall_mem_cons.mpr ⟨sg1 (List.mem_of_getElem? (i := 200) rfl) rfl, List.forall_mem_cons.mpr ⟨sg1 (List.mem_of_getElem? (i := 202) rfl) rfl, List.forall_mem_cons.mpr ⟨sg1 (List.mem_of_getElem? (i := 204) rfl) rfl, List.forall_mem_cons.mpr ⟨sg1 (List.mem_of_getElem? (i := 206) rfl) rfl, List.forall_mem_cons.mpr ⟨sg1 (List.mem_of_getElem? (i := 208) rfl) rfl, List.forall_mem_cons.mpr ⟨sg1 (List.mem_of_getElem? (i := 210) rfl) rfl, List.forall_mem_cons.mpr ⟨sg1 (List.mem_of_getElem? (i := 212) rfl) rfl, List.forall_mem_cons.mpr ⟨sg1 (List.mem_of_getElem? (i := 214) rfl) rfl, List.forall_mem_cons.mpr ⟨sg1 (List.mem_of_getElem? (i := 216) rfl) rfl, List.forall_mem_cons.mpr ⟨sg1 (List.mem_of_getElem? (i := 218) rfl) rfl, List.forall_mem_cons.mpr ⟨sg1 (List.mem_of_getElem? (i := 220) rfl) rfl, List.forall_mem_cons.mpr ⟨sg1 (List.mem_of_getElem? (i := 222) rfl) rfl, List.forall_mem_cons.mpr ⟨sg1 (List.mem_of_getElem? (i := 224) rfl) rfl, List.forall_mem_cons.mpr ⟨sg1 (List.mem_of_getElem? (i := 226) rfl) rfl, List.forall_mem_cons.mpr ⟨sg1 (List.mem_of_getElem? (i := 228) rfl) rfl, fun _ h => absurd h List.not_mem_nil⟩⟩⟩⟩⟩⟩⟩⟩⟩⟩⟩⟩⟩⟩⟩⟩⟩⟩
theorem inX3 : ∀ w ∈ u_ws RX3 TX3 5, w ∈ gT := show ∀ w ∈ ([u_lay RX3 TX3 0, u_lay RX3 TX3 1, u_lay RX3 TX3 2, u_lay RX3 TX3 3, u_lay RX3 TX3 4] : List Cond), w ∈ gT from List.forall_mem_cons.mpr ⟨sg1 (List.mem_of_getElem? (i := 92) rfl) rfl, List.forall_mem_cons.mpr ⟨sg1 (List.mem_of_getElem? (i := 94) rfl) rfl, List.forall_mem_cons.mpr ⟨sg1 (List.mem_of_getElem? (i := 96) rfl) rfl, List.forall_mem_cons.mpr ⟨sg1 (List.mem_of_getElem? (i := 98) rfl) rfl, List.forall_mem_cons.mpr ⟨sg1 (List.mem_of_getElem? (i := 100) rfl) rfl, fun _ h => absurd h List.not_mem_nil⟩⟩⟩⟩⟩
theorem inX4 : ∀ w ∈ u_ws RX4 TX4 2, w ∈ gT := show ∀ w ∈ ([u_lay RX4 TX4 0, u_lay RX4 TX4 1] : List Cond), w ∈ gT from List.forall_mem_cons.mpr ⟨sg1 (List.mem_of_getElem? (i := 117) rfl) rfl, List.forall_mem_cons.mpr ⟨sg1 (List.mem_of_getElem? (i := 119) rfl) rfl, fun _ h => absurd h List.not_mem_nil⟩⟩
theorem inX5 : ∀ w ∈ u_ws RX5 TX5 5, w ∈ gT := show ∀ w ∈ ([u_lay RX5 TX5 0, u_lay RX5 TX5 1, u_lay RX5 TX5 2, u_lay RX5 TX5 3, u_lay RX5 TX5 4] : List Cond), w ∈ gT from List.forall_mem_cons.mpr ⟨sg1 (List.mem_of_getElem? (i := 47) rfl) rfl, List.forall_mem_cons.mpr ⟨sg1 (List.mem_of_getElem? (i := 49) rfl) rfl, List.forall_mem_cons.mpr ⟨sg1 (List.mem_of_getElem? (i := 51) rfl) rfl, List.forall_mem_cons.mpr ⟨sg1 (List.mem_of_getElem? (i := 53) rfl) rfl, List.forall_mem_cons.mpr ⟨sg1 (List.mem_of_getElem? (i := 55) rfl) rfl, fun _ h => absurd h List.not_mem_nil⟩⟩⟩⟩⟩
theorem inX6 : ∀ w ∈ u_ws RX6 TX6 8, w ∈ gT := show ∀ w ∈ ([u_lay RX6 TX6 0, u_lay RX6 TX6 1, u_lay RX6 TX6 2, u_lay RX6 TX6 3, u_lay RX6 TX6 4, u_lay RX6 TX6 5, u_lay RX6 TX6 6, u_lay RX6 TX6 7] : List Cond), w ∈ gT from List.forall_mem_cons.mpr ⟨sg2 (List.mem_of_getElem? (i := 32) rfl) rfl, List.forall_mem_cons.mpr ⟨sg2 (List.mem_of_getElem? (i := 34) rfl) rfl, List.forall_mem_cons.mpr ⟨sg2 (List.mem_of_getElem? (i := 36) rfl) rfl, List.forall_mem_cons.mpr ⟨sg2 (List.mem_of_getElem? (i := 38) rfl) rfl, List.forall_mem_cons.mpr ⟨sg2 (List.mem_of_getElem? (i := 40) rfl) rfl, List.forall_mem_cons.mpr ⟨sg2 (List.mem_of_getElem? (i := 42) rfl) rfl, List.forall_mem_cons.mpr ⟨sg2 (List.mem_of_getElem? (i := 44) rfl) rfl, List.forall_mem_cons.mpr ⟨sg2 (List.mem_of_getElem? (i := 46) rfl) rfl, fun _ h => absurd h List.not_mem_nil⟩⟩⟩⟩⟩⟩⟩⟩
theorem inX7 : ∀ w ∈ u_ws RX7 TX7 20, w ∈ gT := show ∀ w ∈ ([u_lay RX7 TX7 0, u_lay RX7 TX7 1, u_lay RX7 TX7 2, u_lay RX7 TX7 3, u_lay RX7 TX7 4, u_lay RX7 TX7 5, u_lay RX7 TX7 6, u_lay RX7 TX7 7, u_lay RX7 TX7 8, u_lay RX7 TX7 9, u_lay RX7 TX7 10, u_lay RX7 TX7 11, u_lay RX7 TX7 12, u_lay RX7 TX7 13, u_lay RX7 TX7 14, u_lay RX7 TX7 15, u_lay RX7 TX7 16, u_lay RX7 TX7 17, u_lay RX7 TX7 18, u_lay RX7 TX7 19] : List Cond), w ∈ gT from List.forall_mem_cons.mpr ⟨sg4 (List.mem_of_getElem? (i := 190) rfl) rfl, List.forall_mem_cons.mpr ⟨sg4 (List.mem_of_getElem? (i := 192) rfl) rfl, List.forall_mem_cons.mpr ⟨sg4 (List.mem_of_getElem? (i := 194) rfl) rfl, List.forall_mem_cons.mpr ⟨sg4 (List.mem_of_getElem? (i := 196) rfl) rfl, List.forall_mem_cons.mpr ⟨sg4 (List.mem_of_getElem? (i := 198) rfl) rfl, List.forall_mem_cons.mpr ⟨sg4 (List.mem_of_getElem? (i := 200) rfl) rfl, List.forall_mem_cons.mpr ⟨sg4 (List.mem_of_getElem? (i := 202) rfl) rfl, List.forall_mem_cons.mpr ⟨sg4 (List.mem_of_getElem? (i := 204) rfl) rfl, List.forall_mem_cons.mpr ⟨sg4 (List.mem_of_getElem? (i := 206) rfl) rfl, List.forall_mem_cons.mpr ⟨sg4 (List.mem_of_getElem? (i := 208) rfl) rfl, List.forall_mem_cons.mpr ⟨sg4 (List.mem_of_getElem? (i := 210) rfl) rfl, List.forall_mem_cons.mpr ⟨sg4 (List.mem_of_getElem? (i := 212) rfl) rfl, List.forall_mem_cons.mpr ⟨sg4 (List.mem_of_getElem? (i := 214) rfl) rfl, List.forall_mem_cons.mpr ⟨sg4 (List.mem_of_getElem? (i := 216) rfl) rfl, List.forall_mem_cons.mpr ⟨sg4 (List.mem_of_getElem? (i := 218) rfl) rfl, List.forall_mem_cons.mpr ⟨sg4 (List.mem_of_getElem? (i := 220) rfl) rfl, List.forall_mem_cons.mpr ⟨sg4 (List.mem_of_getElem? (i := 222) rfl) rfl, List.forall_mem_cons.mpr ⟨sg4 (List.mem_of_getElem? (i := 224) rfl) rfl, List.forall_mem_cons.mpr ⟨sg4 (List.mem_of_getElem? (i := 226) rfl) rfl, List.forall_mem_cons.mpr ⟨sg4 (List.mem_of_getElem? (i := 228) rfl) rfl, fun _ h => absurd h List.not_mem_nil⟩⟩⟩⟩⟩⟩⟩⟩⟩⟩⟩⟩⟩⟩⟩⟩⟩⟩⟩⟩
theorem inJ0 : ∀ w ∈ u_ws RJ0 TJ0 4, w ∈ gT := show ∀ w ∈ ([u_lay RJ0 TJ0 0, u_lay RJ0 TJ0 1, u_lay RJ0 TJ0 2, u_lay RJ0 TJ0 3] : List Cond), w ∈ gT from List.forall_mem_cons.mpr ⟨sg3 (List.mem_of_getElem? (i := 38) rfl) rfl, List.forall_mem_cons.mpr ⟨sg3 (List.mem_of_getElem? (i := 40) rfl) rfl, List.forall_mem_cons.mpr ⟨sg3 (List.mem_of_getElem? (i := 42) rfl) rfl, List.forall_mem_cons.mpr ⟨sg3 (List.mem_of_getElem? (i := 44) rfl) rfl, fun _ h => absurd h List.not_mem_nil⟩⟩⟩⟩
theorem inJ4 : ∀ w ∈ u_ws RJ4 TJ4 4, w ∈ gT := show ∀ w ∈ ([u_lay RJ4 TJ4 0, u_lay RJ4 TJ4 1, u_lay RJ4 TJ4 2, u_lay RJ4 TJ4 3] : List Cond), w ∈ gT from List.forall_mem_cons.mpr ⟨sg2 (List.mem_of_getElem? (i := 14) rfl) rfl, List.forall_mem_cons.mpr ⟨sg2 (List.mem_of_getElem? (i := 16) rfl) rfl, List.forall_mem_cons.mpr ⟨sg2 (List.mem_of_getElem? (i := 18) rfl) rfl, List.forall_mem_cons.mpr ⟨sg2 (List.mem_of_getElem? (i := 20) rfl) rfl, fun _ h => absurd h List.not_mem_nil⟩⟩⟩⟩
end
